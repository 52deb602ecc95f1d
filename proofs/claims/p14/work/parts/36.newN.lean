/-! class NestedArchives: its constructor. -/
section
variable {ξ : Nat → Option (Nat × List Int32)} {d j pc : Nat} {lv : qLV} {st r : List Value} {σ cs : qH} {o : Option Value × qH}
theorem G.aast {i k : Nat} {x : Int32} {li : List (Option Nat)} {fs : List Value} (hf : qfe j pc = some (.aastore, 1)) (hi : σ[i]? = some (.inr (.inr (.inr (.inl li))))) (hk : σ[k]? = some (.inl (1, fs))) (hx : qix x li.length = true) (g : G ξ d j (pc + 1) lv r (σ.set i (.inr (.inr (.inr (.inl (li.set x.toNatClampNeg (some k))))))) o) : G ξ d j pc lv (.ref k :: .int x :: .ref i :: r) σ o :=
  G.go 1 (fun n => ex_wr hf rfl rfl rfl (by unfold qwr; simp only [hi, hk, hx, cond_true])) g
theorem G.alo {ins : Instr} {len : Nat} {st' : List Value} {c1 : qC} (hf : qfe j pc = some (ins, len)) (h0 : qsim (qnl j) ins len lv st = none) (h1 : qjmp ins len pc st = none) (h2 : qrd ξ (qco j) ins len st σ = none) (h3 : qwr (qisI j) (qco j) ins len st σ = none) (h : qal (qco j) ins len st = some (st', c1)) (g : G ξ d j (pc + len) lv (.ref σ.length :: st') (σ ++ [c1]) o) : G ξ d j pc lv st σ o := G.go 1 (fun n => ex_al hf h0 h1 h2 h3 h) g
theorem qs_app {i : Nat} {x : qC} {τ : qH} (hi : σ[i]? = some x) : (σ ++ τ)[i]? = some x := by
  rw [List.getElem?_append_left (List.getElem?_eq_some_iff.mp hi).1]
  exact hi
end
section
variable {ξ : Nat → Option (Nat × List Int32)}
theorem N_s0 (d : Nat) (σ : qH) (l1 fc fp fs wc wp ws : List Int32) (o : Option Value × qH) (gU : G ξ (d + 5) j_U_init 0 (lv_args 0 [.ref (σ.length + 1)]) [] (σ ++ ([.inl (0, qnew 0)] ++ [.inl (6, qnew 6)])) (none, σ ++ ([.inl (0, qnew 0)] ++ cUnp (σ.length + 1) l1 fc fp fs wc wp ws))) (g : G ξ (d + 6) j_N_init 15 [(0, .ref σ.length)] [] (σ ++ (.inl (0, [.ref (σ.length + 1), .null, .null, .null, .null, .null, .null, .null, .null, .null, .null, .int 0, .null, .null, .int 0, .int 0, .int 0]) :: cUnp (σ.length + 1) l1 fc fp fs wc wp ws)) o) : G ξ (d + 6) j_N_init 0 (lv_args 0 [.ref σ.length]) [] (σ ++ [.inl (0, qnew 0)]) o := by
  refine G.go 3 (fun n => (rfl : _ = exe ξ n (d + 6) j_N_init 5 [(0, .ref σ.length)] [.ref σ.length] (σ ++ [.inl (0, qnew 0)]))) ?_
  refine G.aloA rfl rfl rfl rfl rfl rfl ?_
  refine G.go 1 (fun n => (rfl : _ = exe ξ n (d + 6) j_N_init 9 [(0, .ref σ.length)] [.ref (σ.length + 1), .ref (σ.length + 1), .ref σ.length] (σ ++ ([.inl (0, qnew 0)] ++ [.inl (6, qnew 6)])))) ?_
  refine G.call (k := j_U_init) (as := [.ref (σ.length + 1)]) (r := [.ref (σ.length + 1), .ref σ.length]) rfl rfl rfl rfl rfl rfl rfl rfl gU ?_
  refine G.putA (k9 := 0) rfl rfl rfl rfl rfl rfl ?_
  exact g
theorem N_s1 (d : Nat) (σ τ : qH) (o : Option Value × qH) (hτ : τ.length = 24) (g : G ξ (d + 6) j_N_init 26 [(0, .ref σ.length)] [] (σ ++ (.inl (0, [.ref (σ.length + 1), .ref (σ.length + 25), .null, .null, .null, .null, .null, .null, .null, .null, .null, .int 0, .null, .null, .int 0, .int 0, .int 0]) :: (τ ++ cMan (σ.length + 25)))) o) : G ξ (d + 6) j_N_init 15 [(0, .ref σ.length)] [] (σ ++ (.inl (0, [.ref (σ.length + 1), .null, .null, .null, .null, .null, .null, .null, .null, .null, .null, .int 0, .null, .null, .int 0, .int 0, .int 0]) :: τ)) o := by
  have e : ((.inl (0, [.ref (σ.length + 1), .null, .null, .null, .null, .null, .null, .null, .null, .null, .null, .int 0, .null, .null, .int 0, .int 0, .int 0]) :: τ : qH)).length = 25 := by rw [List.length_cons, hτ]
  refine G.go 1 (fun n => (rfl : _ = exe ξ n (d + 6) j_N_init 16 [(0, .ref σ.length)] [.ref σ.length] (σ ++ (.inl (0, [.ref (σ.length + 1), .null, .null, .null, .null, .null, .null, .null, .null, .null, .null, .int 0, .null, .null, .int 0, .int 0, .int 0]) :: τ)))) ?_
  refine G.aloA rfl rfl rfl rfl rfl rfl ?_
  rw [e]
  refine G.go 1 (fun n => (rfl : _ = exe ξ n (d + 6) j_N_init 20 [(0, .ref σ.length)] [.ref (σ.length + 25), .ref (σ.length + 25), .ref σ.length] (σ ++ ((.inl (0, [.ref (σ.length + 1), .null, .null, .null, .null, .null, .null, .null, .null, .null, .null, .int 0, .null, .null, .int 0, .int 0, .int 0]) :: τ) ++ [.inl (4, qnew 4)])))) ?_
  have h := newSub (ξ := ξ) (d := d + 5) (o := .inl (4, qnew 4)) (fun τ L h => c_F_init _ τ L h) σ (.inl (0, [.ref (σ.length + 1), .null, .null, .null, .null, .null, .null, .null, .null, .null, .null, .int 0, .null, .null, .int 0, .int 0, .int 0]) :: τ)
  rw [e] at h
  refine G.call (k := j_F_init) (as := [.ref (σ.length + 25)]) (r := [.ref (σ.length + 25), .ref σ.length]) rfl rfl rfl rfl rfl rfl rfl rfl h ?_
  refine G.putA (k9 := 0) rfl rfl rfl rfl rfl rfl ?_
  exact g
theorem N_s2 (d : Nat) (σ τ : qH) (o : Option Value × qH) (hτ : τ.length = 31) (g : G ξ (d + 6) j_N_init 37 [(0, .ref σ.length)] [] (σ ++ (.inl (0, [.ref (σ.length + 1), .ref (σ.length + 25), .ref (σ.length + 32), .null, .null, .null, .null, .null, .null, .null, .null, .int 0, .null, .null, .int 0, .int 0, .int 0]) :: (τ ++ cInd (σ.length + 32)))) o) : G ξ (d + 6) j_N_init 26 [(0, .ref σ.length)] [] (σ ++ (.inl (0, [.ref (σ.length + 1), .ref (σ.length + 25), .null, .null, .null, .null, .null, .null, .null, .null, .null, .int 0, .null, .null, .int 0, .int 0, .int 0]) :: τ)) o := by
  have e : ((.inl (0, [.ref (σ.length + 1), .ref (σ.length + 25), .null, .null, .null, .null, .null, .null, .null, .null, .null, .int 0, .null, .null, .int 0, .int 0, .int 0]) :: τ : qH)).length = 32 := by rw [List.length_cons, hτ]
  refine G.go 1 (fun n => (rfl : _ = exe ξ n (d + 6) j_N_init 27 [(0, .ref σ.length)] [.ref σ.length] (σ ++ (.inl (0, [.ref (σ.length + 1), .ref (σ.length + 25), .null, .null, .null, .null, .null, .null, .null, .null, .null, .int 0, .null, .null, .int 0, .int 0, .int 0]) :: τ)))) ?_
  refine G.aloA rfl rfl rfl rfl rfl rfl ?_
  rw [e]
  refine G.go 1 (fun n => (rfl : _ = exe ξ n (d + 6) j_N_init 31 [(0, .ref σ.length)] [.ref (σ.length + 32), .ref (σ.length + 32), .ref σ.length] (σ ++ ((.inl (0, [.ref (σ.length + 1), .ref (σ.length + 25), .null, .null, .null, .null, .null, .null, .null, .null, .null, .int 0, .null, .null, .int 0, .int 0, .int 0]) :: τ) ++ [.inl (3, qnew 3)])))) ?_
  have h := newSub (ξ := ξ) (d := d + 5) (o := .inl (3, qnew 3)) (fun τ L h => c_I_init _ τ L h) σ (.inl (0, [.ref (σ.length + 1), .ref (σ.length + 25), .null, .null, .null, .null, .null, .null, .null, .null, .null, .int 0, .null, .null, .int 0, .int 0, .int 0]) :: τ)
  rw [e] at h
  refine G.call (k := j_I_init) (as := [.ref (σ.length + 32)]) (r := [.ref (σ.length + 32), .ref σ.length]) rfl rfl rfl rfl rfl rfl rfl rfl h ?_
  refine G.putA (k9 := 0) rfl rfl rfl rfl rfl rfl ?_
  exact g
theorem N_s3 (d : Nat) (σ τ : qH) (o : Option Value × qH) (hτ : τ.length = 34) (g : G ξ (d + 6) j_N_init 50 [(0, .ref σ.length)] [] (σ ++ (.inl (0, [.ref (σ.length + 1), .ref (σ.length + 25), .ref (σ.length + 32), .ref (σ.length + 35), .null, .null, .null, .null, .null, .null, .null, .int 0, .null, .null, .int 0, .int 0, .int 0]) :: (τ ++ cRow (σ.length + 35) 40))) o) : G ξ (d + 6) j_N_init 37 [(0, .ref σ.length)] [] (σ ++ (.inl (0, [.ref (σ.length + 1), .ref (σ.length + 25), .ref (σ.length + 32), .null, .null, .null, .null, .null, .null, .null, .null, .int 0, .null, .null, .int 0, .int 0, .int 0]) :: τ)) o := by
  have e : ((.inl (0, [.ref (σ.length + 1), .ref (σ.length + 25), .ref (σ.length + 32), .null, .null, .null, .null, .null, .null, .null, .null, .int 0, .null, .null, .int 0, .int 0, .int 0]) :: τ : qH)).length = 35 := by rw [List.length_cons, hτ]
  refine G.go 1 (fun n => (rfl : _ = exe ξ n (d + 6) j_N_init 38 [(0, .ref σ.length)] [.ref σ.length] (σ ++ (.inl (0, [.ref (σ.length + 1), .ref (σ.length + 25), .ref (σ.length + 32), .null, .null, .null, .null, .null, .null, .null, .null, .int 0, .null, .null, .int 0, .int 0, .int 0]) :: τ)))) ?_
  refine G.aloA rfl rfl rfl rfl rfl rfl ?_
  rw [e]
  refine G.go 2 (fun n => (rfl : _ = exe ξ n (d + 6) j_N_init 44 [(0, .ref σ.length)] [.int 40, .ref (σ.length + 35), .ref (σ.length + 35), .ref σ.length] (σ ++ ((.inl (0, [.ref (σ.length + 1), .ref (σ.length + 25), .ref (σ.length + 32), .null, .null, .null, .null, .null, .null, .null, .null, .int 0, .null, .null, .int 0, .int 0, .int 0]) :: τ) ++ [.inl (5, qnew 5)])))) ?_
  have h := newSub (ξ := ξ) (d := d + 5) (o := .inl (5, qnew 5)) (fun τ L h => c_R_init _ 40 τ L h) σ (.inl (0, [.ref (σ.length + 1), .ref (σ.length + 25), .ref (σ.length + 32), .null, .null, .null, .null, .null, .null, .null, .null, .int 0, .null, .null, .int 0, .int 0, .int 0]) :: τ)
  rw [e] at h
  refine G.call (k := j_R_init) (as := [.ref (σ.length + 35), .int 40]) (r := [.ref (σ.length + 35), .ref σ.length]) rfl rfl rfl rfl rfl rfl rfl rfl h ?_
  refine G.putA (k9 := 0) rfl rfl rfl rfl rfl rfl ?_
  exact g
theorem N_s4 (d : Nat) (σ τ : qH) (o : Option Value × qH) (hτ : τ.length = 36) (g : G ξ (d + 6) j_N_init 63 [(0, .ref σ.length)] [] (σ ++ (.inl (0, [.ref (σ.length + 1), .ref (σ.length + 25), .ref (σ.length + 32), .ref (σ.length + 35), .ref (σ.length + 37), .null, .null, .null, .null, .null, .null, .int 0, .null, .null, .int 0, .int 0, .int 0]) :: (τ ++ cRow (σ.length + 37) 40))) o) : G ξ (d + 6) j_N_init 50 [(0, .ref σ.length)] [] (σ ++ (.inl (0, [.ref (σ.length + 1), .ref (σ.length + 25), .ref (σ.length + 32), .ref (σ.length + 35), .null, .null, .null, .null, .null, .null, .null, .int 0, .null, .null, .int 0, .int 0, .int 0]) :: τ)) o := by
  have e : ((.inl (0, [.ref (σ.length + 1), .ref (σ.length + 25), .ref (σ.length + 32), .ref (σ.length + 35), .null, .null, .null, .null, .null, .null, .null, .int 0, .null, .null, .int 0, .int 0, .int 0]) :: τ : qH)).length = 37 := by rw [List.length_cons, hτ]
  refine G.go 1 (fun n => (rfl : _ = exe ξ n (d + 6) j_N_init 51 [(0, .ref σ.length)] [.ref σ.length] (σ ++ (.inl (0, [.ref (σ.length + 1), .ref (σ.length + 25), .ref (σ.length + 32), .ref (σ.length + 35), .null, .null, .null, .null, .null, .null, .null, .int 0, .null, .null, .int 0, .int 0, .int 0]) :: τ)))) ?_
  refine G.aloA rfl rfl rfl rfl rfl rfl ?_
  rw [e]
  refine G.go 2 (fun n => (rfl : _ = exe ξ n (d + 6) j_N_init 57 [(0, .ref σ.length)] [.int 40, .ref (σ.length + 37), .ref (σ.length + 37), .ref σ.length] (σ ++ ((.inl (0, [.ref (σ.length + 1), .ref (σ.length + 25), .ref (σ.length + 32), .ref (σ.length + 35), .null, .null, .null, .null, .null, .null, .null, .int 0, .null, .null, .int 0, .int 0, .int 0]) :: τ) ++ [.inl (5, qnew 5)])))) ?_
  have h := newSub (ξ := ξ) (d := d + 5) (o := .inl (5, qnew 5)) (fun τ L h => c_R_init _ 40 τ L h) σ (.inl (0, [.ref (σ.length + 1), .ref (σ.length + 25), .ref (σ.length + 32), .ref (σ.length + 35), .null, .null, .null, .null, .null, .null, .null, .int 0, .null, .null, .int 0, .int 0, .int 0]) :: τ)
  rw [e] at h
  refine G.call (k := j_R_init) (as := [.ref (σ.length + 37), .int 40]) (r := [.ref (σ.length + 37), .ref σ.length]) rfl rfl rfl rfl rfl rfl rfl rfl h ?_
  refine G.putA (k9 := 0) rfl rfl rfl rfl rfl rfl ?_
  exact g
theorem N_s5 (d : Nat) (σ τ : qH) (o : Option Value × qH) (hτ : τ.length = 38) (g : G ξ (d + 6) j_N_init 76 [(0, .ref σ.length)] [] (σ ++ (.inl (0, [.ref (σ.length + 1), .ref (σ.length + 25), .ref (σ.length + 32), .ref (σ.length + 35), .ref (σ.length + 37), .ref (σ.length + 39), .null, .null, .null, .null, .null, .int 0, .null, .null, .int 0, .int 0, .int 0]) :: (τ ++ cRow (σ.length + 39) 40))) o) : G ξ (d + 6) j_N_init 63 [(0, .ref σ.length)] [] (σ ++ (.inl (0, [.ref (σ.length + 1), .ref (σ.length + 25), .ref (σ.length + 32), .ref (σ.length + 35), .ref (σ.length + 37), .null, .null, .null, .null, .null, .null, .int 0, .null, .null, .int 0, .int 0, .int 0]) :: τ)) o := by
  have e : ((.inl (0, [.ref (σ.length + 1), .ref (σ.length + 25), .ref (σ.length + 32), .ref (σ.length + 35), .ref (σ.length + 37), .null, .null, .null, .null, .null, .null, .int 0, .null, .null, .int 0, .int 0, .int 0]) :: τ : qH)).length = 39 := by rw [List.length_cons, hτ]
  refine G.go 1 (fun n => (rfl : _ = exe ξ n (d + 6) j_N_init 64 [(0, .ref σ.length)] [.ref σ.length] (σ ++ (.inl (0, [.ref (σ.length + 1), .ref (σ.length + 25), .ref (σ.length + 32), .ref (σ.length + 35), .ref (σ.length + 37), .null, .null, .null, .null, .null, .null, .int 0, .null, .null, .int 0, .int 0, .int 0]) :: τ)))) ?_
  refine G.aloA rfl rfl rfl rfl rfl rfl ?_
  rw [e]
  refine G.go 2 (fun n => (rfl : _ = exe ξ n (d + 6) j_N_init 70 [(0, .ref σ.length)] [.int 40, .ref (σ.length + 39), .ref (σ.length + 39), .ref σ.length] (σ ++ ((.inl (0, [.ref (σ.length + 1), .ref (σ.length + 25), .ref (σ.length + 32), .ref (σ.length + 35), .ref (σ.length + 37), .null, .null, .null, .null, .null, .null, .int 0, .null, .null, .int 0, .int 0, .int 0]) :: τ) ++ [.inl (5, qnew 5)])))) ?_
  have h := newSub (ξ := ξ) (d := d + 5) (o := .inl (5, qnew 5)) (fun τ L h => c_R_init _ 40 τ L h) σ (.inl (0, [.ref (σ.length + 1), .ref (σ.length + 25), .ref (σ.length + 32), .ref (σ.length + 35), .ref (σ.length + 37), .null, .null, .null, .null, .null, .null, .int 0, .null, .null, .int 0, .int 0, .int 0]) :: τ)
  rw [e] at h
  refine G.call (k := j_R_init) (as := [.ref (σ.length + 39), .int 40]) (r := [.ref (σ.length + 39), .ref σ.length]) rfl rfl rfl rfl rfl rfl rfl rfl h ?_
  refine G.putA (k9 := 0) rfl rfl rfl rfl rfl rfl ?_
  exact g
theorem N_s6 (d : Nat) (σ τ : qH) (o : Option Value × qH) (hτ : τ.length = 40) (g : G ξ (d + 6) j_N_init 90 [(0, .ref σ.length)] [] (σ ++ (.inl (0, [.ref (σ.length + 1), .ref (σ.length + 25), .ref (σ.length + 32), .ref (σ.length + 35), .ref (σ.length + 37), .ref (σ.length + 39), .ref (σ.length + 41), .null, .null, .null, .null, .int 0, .null, .null, .int 0, .int 0, .int 0]) :: (τ ++ cRow (σ.length + 41) 8000))) o) : G ξ (d + 6) j_N_init 76 [(0, .ref σ.length)] [] (σ ++ (.inl (0, [.ref (σ.length + 1), .ref (σ.length + 25), .ref (σ.length + 32), .ref (σ.length + 35), .ref (σ.length + 37), .ref (σ.length + 39), .null, .null, .null, .null, .null, .int 0, .null, .null, .int 0, .int 0, .int 0]) :: τ)) o := by
  have e : ((.inl (0, [.ref (σ.length + 1), .ref (σ.length + 25), .ref (σ.length + 32), .ref (σ.length + 35), .ref (σ.length + 37), .ref (σ.length + 39), .null, .null, .null, .null, .null, .int 0, .null, .null, .int 0, .int 0, .int 0]) :: τ : qH)).length = 41 := by rw [List.length_cons, hτ]
  refine G.go 1 (fun n => (rfl : _ = exe ξ n (d + 6) j_N_init 77 [(0, .ref σ.length)] [.ref σ.length] (σ ++ (.inl (0, [.ref (σ.length + 1), .ref (σ.length + 25), .ref (σ.length + 32), .ref (σ.length + 35), .ref (σ.length + 37), .ref (σ.length + 39), .null, .null, .null, .null, .null, .int 0, .null, .null, .int 0, .int 0, .int 0]) :: τ)))) ?_
  refine G.aloA rfl rfl rfl rfl rfl rfl ?_
  rw [e]
  refine G.go 2 (fun n => (rfl : _ = exe ξ n (d + 6) j_N_init 84 [(0, .ref σ.length)] [.int 8000, .ref (σ.length + 41), .ref (σ.length + 41), .ref σ.length] (σ ++ ((.inl (0, [.ref (σ.length + 1), .ref (σ.length + 25), .ref (σ.length + 32), .ref (σ.length + 35), .ref (σ.length + 37), .ref (σ.length + 39), .null, .null, .null, .null, .null, .int 0, .null, .null, .int 0, .int 0, .int 0]) :: τ) ++ [.inl (5, qnew 5)])))) ?_
  have h := newSub (ξ := ξ) (d := d + 5) (o := .inl (5, qnew 5)) (fun τ L h => c_R_init _ 8000 τ L h) σ (.inl (0, [.ref (σ.length + 1), .ref (σ.length + 25), .ref (σ.length + 32), .ref (σ.length + 35), .ref (σ.length + 37), .ref (σ.length + 39), .null, .null, .null, .null, .null, .int 0, .null, .null, .int 0, .int 0, .int 0]) :: τ)
  rw [e] at h
  refine G.call (k := j_R_init) (as := [.ref (σ.length + 41), .int 8000]) (r := [.ref (σ.length + 41), .ref σ.length]) rfl rfl rfl rfl rfl rfl rfl rfl h ?_
  refine G.putA (k9 := 0) rfl rfl rfl rfl rfl rfl ?_
  exact g
theorem N_s7 (d : Nat) (σ τ : qH) (o : Option Value × qH) (hτ : τ.length = 42) (g : G ξ (d + 6) j_N_init 104 [(0, .ref σ.length)] [] (σ ++ (.inl (0, [.ref (σ.length + 1), .ref (σ.length + 25), .ref (σ.length + 32), .ref (σ.length + 35), .ref (σ.length + 37), .ref (σ.length + 39), .ref (σ.length + 41), .ref (σ.length + 43), .null, .null, .null, .int 0, .null, .null, .int 0, .int 0, .int 0]) :: (τ ++ cRow (σ.length + 43) 8000))) o) : G ξ (d + 6) j_N_init 90 [(0, .ref σ.length)] [] (σ ++ (.inl (0, [.ref (σ.length + 1), .ref (σ.length + 25), .ref (σ.length + 32), .ref (σ.length + 35), .ref (σ.length + 37), .ref (σ.length + 39), .ref (σ.length + 41), .null, .null, .null, .null, .int 0, .null, .null, .int 0, .int 0, .int 0]) :: τ)) o := by
  have e : ((.inl (0, [.ref (σ.length + 1), .ref (σ.length + 25), .ref (σ.length + 32), .ref (σ.length + 35), .ref (σ.length + 37), .ref (σ.length + 39), .ref (σ.length + 41), .null, .null, .null, .null, .int 0, .null, .null, .int 0, .int 0, .int 0]) :: τ : qH)).length = 43 := by rw [List.length_cons, hτ]
  refine G.go 1 (fun n => (rfl : _ = exe ξ n (d + 6) j_N_init 91 [(0, .ref σ.length)] [.ref σ.length] (σ ++ (.inl (0, [.ref (σ.length + 1), .ref (σ.length + 25), .ref (σ.length + 32), .ref (σ.length + 35), .ref (σ.length + 37), .ref (σ.length + 39), .ref (σ.length + 41), .null, .null, .null, .null, .int 0, .null, .null, .int 0, .int 0, .int 0]) :: τ)))) ?_
  refine G.aloA rfl rfl rfl rfl rfl rfl ?_
  rw [e]
  refine G.go 2 (fun n => (rfl : _ = exe ξ n (d + 6) j_N_init 98 [(0, .ref σ.length)] [.int 8000, .ref (σ.length + 43), .ref (σ.length + 43), .ref σ.length] (σ ++ ((.inl (0, [.ref (σ.length + 1), .ref (σ.length + 25), .ref (σ.length + 32), .ref (σ.length + 35), .ref (σ.length + 37), .ref (σ.length + 39), .ref (σ.length + 41), .null, .null, .null, .null, .int 0, .null, .null, .int 0, .int 0, .int 0]) :: τ) ++ [.inl (5, qnew 5)])))) ?_
  have h := newSub (ξ := ξ) (d := d + 5) (o := .inl (5, qnew 5)) (fun τ L h => c_R_init _ 8000 τ L h) σ (.inl (0, [.ref (σ.length + 1), .ref (σ.length + 25), .ref (σ.length + 32), .ref (σ.length + 35), .ref (σ.length + 37), .ref (σ.length + 39), .ref (σ.length + 41), .null, .null, .null, .null, .int 0, .null, .null, .int 0, .int 0, .int 0]) :: τ)
  rw [e] at h
  refine G.call (k := j_R_init) (as := [.ref (σ.length + 43), .int 8000]) (r := [.ref (σ.length + 43), .ref σ.length]) rfl rfl rfl rfl rfl rfl rfl rfl h ?_
  refine G.putA (k9 := 0) rfl rfl rfl rfl rfl rfl ?_
  exact g
theorem N_s8 (d : Nat) (σ τ : qH) (o : Option Value × qH) (hτ : τ.length = 44) (g : G ξ (d + 6) j_N_init 118 [(0, .ref σ.length)] [] (σ ++ (.inl (0, [.ref (σ.length + 1), .ref (σ.length + 25), .ref (σ.length + 32), .ref (σ.length + 35), .ref (σ.length + 37), .ref (σ.length + 39), .ref (σ.length + 41), .ref (σ.length + 43), .ref (σ.length + 45), .null, .null, .int 0, .null, .null, .int 0, .int 0, .int 0]) :: (τ ++ cRow (σ.length + 45) 8000))) o) : G ξ (d + 6) j_N_init 104 [(0, .ref σ.length)] [] (σ ++ (.inl (0, [.ref (σ.length + 1), .ref (σ.length + 25), .ref (σ.length + 32), .ref (σ.length + 35), .ref (σ.length + 37), .ref (σ.length + 39), .ref (σ.length + 41), .ref (σ.length + 43), .null, .null, .null, .int 0, .null, .null, .int 0, .int 0, .int 0]) :: τ)) o := by
  have e : ((.inl (0, [.ref (σ.length + 1), .ref (σ.length + 25), .ref (σ.length + 32), .ref (σ.length + 35), .ref (σ.length + 37), .ref (σ.length + 39), .ref (σ.length + 41), .ref (σ.length + 43), .null, .null, .null, .int 0, .null, .null, .int 0, .int 0, .int 0]) :: τ : qH)).length = 45 := by rw [List.length_cons, hτ]
  refine G.go 1 (fun n => (rfl : _ = exe ξ n (d + 6) j_N_init 105 [(0, .ref σ.length)] [.ref σ.length] (σ ++ (.inl (0, [.ref (σ.length + 1), .ref (σ.length + 25), .ref (σ.length + 32), .ref (σ.length + 35), .ref (σ.length + 37), .ref (σ.length + 39), .ref (σ.length + 41), .ref (σ.length + 43), .null, .null, .null, .int 0, .null, .null, .int 0, .int 0, .int 0]) :: τ)))) ?_
  refine G.aloA rfl rfl rfl rfl rfl rfl ?_
  rw [e]
  refine G.go 2 (fun n => (rfl : _ = exe ξ n (d + 6) j_N_init 112 [(0, .ref σ.length)] [.int 8000, .ref (σ.length + 45), .ref (σ.length + 45), .ref σ.length] (σ ++ ((.inl (0, [.ref (σ.length + 1), .ref (σ.length + 25), .ref (σ.length + 32), .ref (σ.length + 35), .ref (σ.length + 37), .ref (σ.length + 39), .ref (σ.length + 41), .ref (σ.length + 43), .null, .null, .null, .int 0, .null, .null, .int 0, .int 0, .int 0]) :: τ) ++ [.inl (5, qnew 5)])))) ?_
  have h := newSub (ξ := ξ) (d := d + 5) (o := .inl (5, qnew 5)) (fun τ L h => c_R_init _ 8000 τ L h) σ (.inl (0, [.ref (σ.length + 1), .ref (σ.length + 25), .ref (σ.length + 32), .ref (σ.length + 35), .ref (σ.length + 37), .ref (σ.length + 39), .ref (σ.length + 41), .ref (σ.length + 43), .null, .null, .null, .int 0, .null, .null, .int 0, .int 0, .int 0]) :: τ)
  rw [e] at h
  refine G.call (k := j_R_init) (as := [.ref (σ.length + 45), .int 8000]) (r := [.ref (σ.length + 45), .ref σ.length]) rfl rfl rfl rfl rfl rfl rfl rfl h ?_
  refine G.putA (k9 := 0) rfl rfl rfl rfl rfl rfl ?_
  exact g
theorem N_s9 (d : Nat) (σ τ : qH) (o : Option Value × qH) (hτ : τ.length = 46) (g : G ξ (d + 6) j_N_init 129 [(0, .ref σ.length)] [] (σ ++ (.inl (0, [.ref (σ.length + 1), .ref (σ.length + 25), .ref (σ.length + 32), .ref (σ.length + 35), .ref (σ.length + 37), .ref (σ.length + 39), .ref (σ.length + 41), .ref (σ.length + 43), .ref (σ.length + 45), .ref (σ.length + 47), .null, .int 0, .null, .null, .int 0, .int 0, .int 0]) :: (τ ++ cArc (σ.length + 47)))) o) : G ξ (d + 6) j_N_init 118 [(0, .ref σ.length)] [] (σ ++ (.inl (0, [.ref (σ.length + 1), .ref (σ.length + 25), .ref (σ.length + 32), .ref (σ.length + 35), .ref (σ.length + 37), .ref (σ.length + 39), .ref (σ.length + 41), .ref (σ.length + 43), .ref (σ.length + 45), .null, .null, .int 0, .null, .null, .int 0, .int 0, .int 0]) :: τ)) o := by
  have e : ((.inl (0, [.ref (σ.length + 1), .ref (σ.length + 25), .ref (σ.length + 32), .ref (σ.length + 35), .ref (σ.length + 37), .ref (σ.length + 39), .ref (σ.length + 41), .ref (σ.length + 43), .ref (σ.length + 45), .null, .null, .int 0, .null, .null, .int 0, .int 0, .int 0]) :: τ : qH)).length = 47 := by rw [List.length_cons, hτ]
  refine G.go 1 (fun n => (rfl : _ = exe ξ n (d + 6) j_N_init 119 [(0, .ref σ.length)] [.ref σ.length] (σ ++ (.inl (0, [.ref (σ.length + 1), .ref (σ.length + 25), .ref (σ.length + 32), .ref (σ.length + 35), .ref (σ.length + 37), .ref (σ.length + 39), .ref (σ.length + 41), .ref (σ.length + 43), .ref (σ.length + 45), .null, .null, .int 0, .null, .null, .int 0, .int 0, .int 0]) :: τ)))) ?_
  refine G.aloA rfl rfl rfl rfl rfl rfl ?_
  rw [e]
  refine G.go 1 (fun n => (rfl : _ = exe ξ n (d + 6) j_N_init 123 [(0, .ref σ.length)] [.ref (σ.length + 47), .ref (σ.length + 47), .ref σ.length] (σ ++ ((.inl (0, [.ref (σ.length + 1), .ref (σ.length + 25), .ref (σ.length + 32), .ref (σ.length + 35), .ref (σ.length + 37), .ref (σ.length + 39), .ref (σ.length + 41), .ref (σ.length + 43), .ref (σ.length + 45), .null, .null, .int 0, .null, .null, .int 0, .int 0, .int 0]) :: τ) ++ [.inl (1, qnew 1)])))) ?_
  have h := newSub (ξ := ξ) (d := d + 5) (o := .inl (1, qnew 1)) (fun τ L h => c_A_init _ τ L h) σ (.inl (0, [.ref (σ.length + 1), .ref (σ.length + 25), .ref (σ.length + 32), .ref (σ.length + 35), .ref (σ.length + 37), .ref (σ.length + 39), .ref (σ.length + 41), .ref (σ.length + 43), .ref (σ.length + 45), .null, .null, .int 0, .null, .null, .int 0, .int 0, .int 0]) :: τ)
  rw [e] at h
  refine G.call (k := j_A_init) (as := [.ref (σ.length + 47)]) (r := [.ref (σ.length + 47), .ref σ.length]) rfl rfl rfl rfl rfl rfl rfl rfl h ?_
  refine G.putA (k9 := 0) rfl rfl rfl rfl rfl rfl ?_
  exact g
theorem N_s10 (d : Nat) (σ τ : qH) (o : Option Value × qH) (hτ : τ.length = 51) (g : G ξ (d + 6) j_N_init 140 [(0, .ref σ.length)] [] (σ ++ (.inl (0, [.ref (σ.length + 1), .ref (σ.length + 25), .ref (σ.length + 32), .ref (σ.length + 35), .ref (σ.length + 37), .ref (σ.length + 39), .ref (σ.length + 41), .ref (σ.length + 43), .ref (σ.length + 45), .ref (σ.length + 47), .ref (σ.length + 52), .int 0, .null, .null, .int 0, .int 0, .int 0]) :: (τ ++ cArc (σ.length + 52)))) o) : G ξ (d + 6) j_N_init 129 [(0, .ref σ.length)] [] (σ ++ (.inl (0, [.ref (σ.length + 1), .ref (σ.length + 25), .ref (σ.length + 32), .ref (σ.length + 35), .ref (σ.length + 37), .ref (σ.length + 39), .ref (σ.length + 41), .ref (σ.length + 43), .ref (σ.length + 45), .ref (σ.length + 47), .null, .int 0, .null, .null, .int 0, .int 0, .int 0]) :: τ)) o := by
  have e : ((.inl (0, [.ref (σ.length + 1), .ref (σ.length + 25), .ref (σ.length + 32), .ref (σ.length + 35), .ref (σ.length + 37), .ref (σ.length + 39), .ref (σ.length + 41), .ref (σ.length + 43), .ref (σ.length + 45), .ref (σ.length + 47), .null, .int 0, .null, .null, .int 0, .int 0, .int 0]) :: τ : qH)).length = 52 := by rw [List.length_cons, hτ]
  refine G.go 1 (fun n => (rfl : _ = exe ξ n (d + 6) j_N_init 130 [(0, .ref σ.length)] [.ref σ.length] (σ ++ (.inl (0, [.ref (σ.length + 1), .ref (σ.length + 25), .ref (σ.length + 32), .ref (σ.length + 35), .ref (σ.length + 37), .ref (σ.length + 39), .ref (σ.length + 41), .ref (σ.length + 43), .ref (σ.length + 45), .ref (σ.length + 47), .null, .int 0, .null, .null, .int 0, .int 0, .int 0]) :: τ)))) ?_
  refine G.aloA rfl rfl rfl rfl rfl rfl ?_
  rw [e]
  refine G.go 1 (fun n => (rfl : _ = exe ξ n (d + 6) j_N_init 134 [(0, .ref σ.length)] [.ref (σ.length + 52), .ref (σ.length + 52), .ref σ.length] (σ ++ ((.inl (0, [.ref (σ.length + 1), .ref (σ.length + 25), .ref (σ.length + 32), .ref (σ.length + 35), .ref (σ.length + 37), .ref (σ.length + 39), .ref (σ.length + 41), .ref (σ.length + 43), .ref (σ.length + 45), .ref (σ.length + 47), .null, .int 0, .null, .null, .int 0, .int 0, .int 0]) :: τ) ++ [.inl (1, qnew 1)])))) ?_
  have h := newSub (ξ := ξ) (d := d + 5) (o := .inl (1, qnew 1)) (fun τ L h => c_A_init _ τ L h) σ (.inl (0, [.ref (σ.length + 1), .ref (σ.length + 25), .ref (σ.length + 32), .ref (σ.length + 35), .ref (σ.length + 37), .ref (σ.length + 39), .ref (σ.length + 41), .ref (σ.length + 43), .ref (σ.length + 45), .ref (σ.length + 47), .null, .int 0, .null, .null, .int 0, .int 0, .int 0]) :: τ)
  rw [e] at h
  refine G.call (k := j_A_init) (as := [.ref (σ.length + 52)]) (r := [.ref (σ.length + 52), .ref σ.length]) rfl rfl rfl rfl rfl rfl rfl rfl h ?_
  refine G.putA (k9 := 0) rfl rfl rfl rfl rfl rfl ?_
  exact g
theorem N_s11 (d : Nat) (σ τ : qH) (o : Option Value × qH) (g : G ξ (d + 6) j_N_init 145 [(0, .ref σ.length)] [] (σ ++ (.inl (0, [.ref (σ.length + 1), .ref (σ.length + 25), .ref (σ.length + 32), .ref (σ.length + 35), .ref (σ.length + 37), .ref (σ.length + 39), .ref (σ.length + 41), .ref (σ.length + 43), .ref (σ.length + 45), .ref (σ.length + 47), .ref (σ.length + 52), .int 0, .null, .null, .int 0, .int 0, .int 0]) :: τ)) o) : G ξ (d + 6) j_N_init 140 [(0, .ref σ.length)] [] (σ ++ (.inl (0, [.ref (σ.length + 1), .ref (σ.length + 25), .ref (σ.length + 32), .ref (σ.length + 35), .ref (σ.length + 37), .ref (σ.length + 39), .ref (σ.length + 41), .ref (σ.length + 43), .ref (σ.length + 45), .ref (σ.length + 47), .ref (σ.length + 52), .int 0, .null, .null, .int 0, .int 0, .int 0]) :: τ)) o := by
  refine G.go 2 (fun n => (rfl : _ = exe ξ n (d + 6) j_N_init 142 [(0, .ref σ.length)] [.int 0, .ref σ.length] (σ ++ (.inl (0, [.ref (σ.length + 1), .ref (σ.length + 25), .ref (σ.length + 32), .ref (σ.length + 35), .ref (σ.length + 37), .ref (σ.length + 39), .ref (σ.length + 41), .ref (σ.length + 43), .ref (σ.length + 45), .ref (σ.length + 47), .ref (σ.length + 52), .int 0, .null, .null, .int 0, .int 0, .int 0]) :: τ)))) ?_
  refine G.putA (k9 := 0) rfl rfl rfl rfl rfl rfl ?_
  exact g
theorem N_s12 (d : Nat) (σ τ : qH) (o : Option Value × qH) (hτ : τ.length = 56) (g : G ξ (d + 6) j_N_init 154 [(0, .ref σ.length)] [] (σ ++ (.inl (0, [.ref (σ.length + 1), .ref (σ.length + 25), .ref (σ.length + 32), .ref (σ.length + 35), .ref (σ.length + 37), .ref (σ.length + 39), .ref (σ.length + 41), .ref (σ.length + 43), .ref (σ.length + 45), .ref (σ.length + 47), .ref (σ.length + 52), .int 0, .ref (σ.length + 57), .null, .int 0, .int 0, .int 0]) :: (τ ++ [.inr (.inr (.inr (.inl (List.replicate 6 none))))]))) o) : G ξ (d + 6) j_N_init 145 [(0, .ref σ.length)] [] (σ ++ (.inl (0, [.ref (σ.length + 1), .ref (σ.length + 25), .ref (σ.length + 32), .ref (σ.length + 35), .ref (σ.length + 37), .ref (σ.length + 39), .ref (σ.length + 41), .ref (σ.length + 43), .ref (σ.length + 45), .ref (σ.length + 47), .ref (σ.length + 52), .int 0, .null, .null, .int 0, .int 0, .int 0]) :: τ)) o := by
  have e : ((.inl (0, [.ref (σ.length + 1), .ref (σ.length + 25), .ref (σ.length + 32), .ref (σ.length + 35), .ref (σ.length + 37), .ref (σ.length + 39), .ref (σ.length + 41), .ref (σ.length + 43), .ref (σ.length + 45), .ref (σ.length + 47), .ref (σ.length + 52), .int 0, .null, .null, .int 0, .int 0, .int 0]) :: τ : qH)).length = 57 := by rw [List.length_cons, hτ]
  refine G.go 2 (fun n => (rfl : _ = exe ξ n (d + 6) j_N_init 148 [(0, .ref σ.length)] [.int 6, .ref σ.length] (σ ++ (.inl (0, [.ref (σ.length + 1), .ref (σ.length + 25), .ref (σ.length + 32), .ref (σ.length + 35), .ref (σ.length + 37), .ref (σ.length + 39), .ref (σ.length + 41), .ref (σ.length + 43), .ref (σ.length + 45), .ref (σ.length + 47), .ref (σ.length + 52), .int 0, .null, .null, .int 0, .int 0, .int 0]) :: τ)))) ?_
  refine G.aloA rfl rfl rfl rfl rfl rfl ?_
  rw [e]
  refine G.putA (k9 := 0) rfl rfl rfl rfl rfl rfl ?_
  exact g
theorem N_s13 (d : Nat) (σ τ : qH) (o : Option Value × qH) (hτ : τ.length = 57) (g : G ξ (d + 6) j_N_init 163 [(0, .ref σ.length)] [] (σ ++ (.inl (0, [.ref (σ.length + 1), .ref (σ.length + 25), .ref (σ.length + 32), .ref (σ.length + 35), .ref (σ.length + 37), .ref (σ.length + 39), .ref (σ.length + 41), .ref (σ.length + 43), .ref (σ.length + 45), .ref (σ.length + 47), .ref (σ.length + 52), .int 0, .ref (σ.length + 57), .ref (σ.length + 58), .int 0, .int 0, .int 0]) :: (τ ++ [.inr (.inr (.inr (.inl (List.replicate 6 none))))]))) o) : G ξ (d + 6) j_N_init 154 [(0, .ref σ.length)] [] (σ ++ (.inl (0, [.ref (σ.length + 1), .ref (σ.length + 25), .ref (σ.length + 32), .ref (σ.length + 35), .ref (σ.length + 37), .ref (σ.length + 39), .ref (σ.length + 41), .ref (σ.length + 43), .ref (σ.length + 45), .ref (σ.length + 47), .ref (σ.length + 52), .int 0, .ref (σ.length + 57), .null, .int 0, .int 0, .int 0]) :: τ)) o := by
  have e : ((.inl (0, [.ref (σ.length + 1), .ref (σ.length + 25), .ref (σ.length + 32), .ref (σ.length + 35), .ref (σ.length + 37), .ref (σ.length + 39), .ref (σ.length + 41), .ref (σ.length + 43), .ref (σ.length + 45), .ref (σ.length + 47), .ref (σ.length + 52), .int 0, .ref (σ.length + 57), .null, .int 0, .int 0, .int 0]) :: τ : qH)).length = 58 := by rw [List.length_cons, hτ]
  refine G.go 2 (fun n => (rfl : _ = exe ξ n (d + 6) j_N_init 157 [(0, .ref σ.length)] [.int 6, .ref σ.length] (σ ++ (.inl (0, [.ref (σ.length + 1), .ref (σ.length + 25), .ref (σ.length + 32), .ref (σ.length + 35), .ref (σ.length + 37), .ref (σ.length + 39), .ref (σ.length + 41), .ref (σ.length + 43), .ref (σ.length + 45), .ref (σ.length + 47), .ref (σ.length + 52), .int 0, .ref (σ.length + 57), .null, .int 0, .int 0, .int 0]) :: τ)))) ?_
  refine G.aloA rfl rfl rfl rfl rfl rfl ?_
  rw [e]
  refine G.putA (k9 := 0) rfl rfl rfl rfl rfl rfl ?_
  exact g
theorem N_s14 (d : Nat) (σ τ : qH) (o : Option Value × qH) (g : G ξ (d + 6) j_N_init 168 [(0, .ref σ.length)] [] (σ ++ (.inl (0, [.ref (σ.length + 1), .ref (σ.length + 25), .ref (σ.length + 32), .ref (σ.length + 35), .ref (σ.length + 37), .ref (σ.length + 39), .ref (σ.length + 41), .ref (σ.length + 43), .ref (σ.length + 45), .ref (σ.length + 47), .ref (σ.length + 52), .int 0, .ref (σ.length + 57), .ref (σ.length + 58), .int 0, .int 0, .int 0]) :: τ)) o) : G ξ (d + 6) j_N_init 163 [(0, .ref σ.length)] [] (σ ++ (.inl (0, [.ref (σ.length + 1), .ref (σ.length + 25), .ref (σ.length + 32), .ref (σ.length + 35), .ref (σ.length + 37), .ref (σ.length + 39), .ref (σ.length + 41), .ref (σ.length + 43), .ref (σ.length + 45), .ref (σ.length + 47), .ref (σ.length + 52), .int 0, .ref (σ.length + 57), .ref (σ.length + 58), .int 0, .int 0, .int 0]) :: τ)) o := by
  refine G.go 2 (fun n => (rfl : _ = exe ξ n (d + 6) j_N_init 165 [(0, .ref σ.length)] [.int 0, .ref σ.length] (σ ++ (.inl (0, [.ref (σ.length + 1), .ref (σ.length + 25), .ref (σ.length + 32), .ref (σ.length + 35), .ref (σ.length + 37), .ref (σ.length + 39), .ref (σ.length + 41), .ref (σ.length + 43), .ref (σ.length + 45), .ref (σ.length + 47), .ref (σ.length + 52), .int 0, .ref (σ.length + 57), .ref (σ.length + 58), .int 0, .int 0, .int 0]) :: τ)))) ?_
  refine G.putA (k9 := 0) rfl rfl rfl rfl rfl rfl ?_
  exact g
theorem N_s15 (d : Nat) (σ τ : qH) (o : Option Value × qH) (g : G ξ (d + 6) j_N_init 173 [(0, .ref σ.length)] [] (σ ++ (.inl (0, [.ref (σ.length + 1), .ref (σ.length + 25), .ref (σ.length + 32), .ref (σ.length + 35), .ref (σ.length + 37), .ref (σ.length + 39), .ref (σ.length + 41), .ref (σ.length + 43), .ref (σ.length + 45), .ref (σ.length + 47), .ref (σ.length + 52), .int 0, .ref (σ.length + 57), .ref (σ.length + 58), .int 0, .int 0, .int 0]) :: τ)) o) : G ξ (d + 6) j_N_init 168 [(0, .ref σ.length)] [] (σ ++ (.inl (0, [.ref (σ.length + 1), .ref (σ.length + 25), .ref (σ.length + 32), .ref (σ.length + 35), .ref (σ.length + 37), .ref (σ.length + 39), .ref (σ.length + 41), .ref (σ.length + 43), .ref (σ.length + 45), .ref (σ.length + 47), .ref (σ.length + 52), .int 0, .ref (σ.length + 57), .ref (σ.length + 58), .int 0, .int 0, .int 0]) :: τ)) o := by
  refine G.go 2 (fun n => (rfl : _ = exe ξ n (d + 6) j_N_init 170 [(0, .ref σ.length)] [.int 0, .ref σ.length] (σ ++ (.inl (0, [.ref (σ.length + 1), .ref (σ.length + 25), .ref (σ.length + 32), .ref (σ.length + 35), .ref (σ.length + 37), .ref (σ.length + 39), .ref (σ.length + 41), .ref (σ.length + 43), .ref (σ.length + 45), .ref (σ.length + 47), .ref (σ.length + 52), .int 0, .ref (σ.length + 57), .ref (σ.length + 58), .int 0, .int 0, .int 0]) :: τ)))) ?_
  refine G.putA (k9 := 0) rfl rfl rfl rfl rfl rfl ?_
  exact g
theorem N_s16 (d : Nat) (σ τ : qH) (o : Option Value × qH) (g : G ξ (d + 6) j_N_init 178 [(0, .ref σ.length)] [] (σ ++ (.inl (0, [.ref (σ.length + 1), .ref (σ.length + 25), .ref (σ.length + 32), .ref (σ.length + 35), .ref (σ.length + 37), .ref (σ.length + 39), .ref (σ.length + 41), .ref (σ.length + 43), .ref (σ.length + 45), .ref (σ.length + 47), .ref (σ.length + 52), .int 0, .ref (σ.length + 57), .ref (σ.length + 58), .int 0, .int 0, .int (-1)]) :: τ)) o) : G ξ (d + 6) j_N_init 173 [(0, .ref σ.length)] [] (σ ++ (.inl (0, [.ref (σ.length + 1), .ref (σ.length + 25), .ref (σ.length + 32), .ref (σ.length + 35), .ref (σ.length + 37), .ref (σ.length + 39), .ref (σ.length + 41), .ref (σ.length + 43), .ref (σ.length + 45), .ref (σ.length + 47), .ref (σ.length + 52), .int 0, .ref (σ.length + 57), .ref (σ.length + 58), .int 0, .int 0, .int 0]) :: τ)) o := by
  refine G.go 2 (fun n => (rfl : _ = exe ξ n (d + 6) j_N_init 175 [(0, .ref σ.length)] [.int (-1), .ref σ.length] (σ ++ (.inl (0, [.ref (σ.length + 1), .ref (σ.length + 25), .ref (σ.length + 32), .ref (σ.length + 35), .ref (σ.length + 37), .ref (σ.length + 39), .ref (σ.length + 41), .ref (σ.length + 43), .ref (σ.length + 45), .ref (σ.length + 47), .ref (σ.length + 52), .int 0, .ref (σ.length + 57), .ref (σ.length + 58), .int 0, .int 0, .int 0]) :: τ)))) ?_
  refine G.putA (k9 := 0) rfl rfl rfl rfl rfl rfl ?_
  exact g
def cNes (L : Nat) (tM tI : List Int32) : qH := .inr (.inr (.inr (.inl [some (L + 4), some (L + 14), some (L + 24), some (L + 34), some (L + 44), some (L + 54)]))) :: .inr (.inr (.inr (.inl [some (L + 9), some (L + 19), some (L + 29), some (L + 39), some (L + 49), some (L + 59)]))) :: (((((((((((([.inr (.inl (1, tM)), .inr (.inl (1, tI))] ++ cArc (L + 4)) ++ cArc (L + 9)) ++ cArc (L + 14)) ++ cArc (L + 19)) ++ cArc (L + 24)) ++ cArc (L + 29)) ++ cArc (L + 34)) ++ cArc (L + 39)) ++ cArc (L + 44)) ++ cArc (L + 49)) ++ cArc (L + 54)) ++ cArc (L + 59))
/-- one turn of the constructor's loop: two archives -/
theorem N_turn (d x u0 u1 u2 u3 u6 u7 u8 u9 u10 rM rI i : Nat) (lm ls : List (Option Nat)) (σ β : qH) (o : Option Value × qH) (hi6 : i < 6) (hlm : lm.length = 6) (hls : ls.length = 6) (hx : σ[x]? = some (.inl (0, [.ref u0, .ref u1, .ref u2, .ref u3, .ref rM, .ref rI, .ref u6, .ref u7, .ref u8, .ref u9, .ref u10, .int 0, .ref σ.length, .ref (σ.length + 1), .int 0, .int 0, .int (-1)])))
    (g : G ξ (d + 6) j_N_init 198 [(0, .ref x), (1, .int (Int32.ofNat (i + 1)))] [] (σ ++ (.inr (.inr (.inr (.inl (lm.set i (some (σ.length + (β.length + 2))))))) :: .inr (.inr (.inr (.inl (ls.set i (some (σ.length + (β.length + 7))))))) :: ((β ++ cArc (σ.length + (β.length + 2))) ++ cArc (σ.length + (β.length + 7))))) o) : G ξ (d + 6) j_N_init 198 [(0, .ref x), (1, .int (Int32.ofNat i))] [] (σ ++ (.inr (.inr (.inr (.inl lm))) :: .inr (.inr (.inr (.inl ls))) :: β)) o := by
  have e1 : (.inr (.inr (.inr (.inl lm))) :: .inr (.inr (.inr (.inl ls))) :: β : qH).length = β.length + 2 := rfl
  refine G.go 3 (fun n => (rfl : _ = exe ξ n (d + 6) j_N_init (if (6 : Int32) ≤ Int32.ofNat i then 236 else 204) [(0, .ref x), (1, .int (Int32.ofNat i))] [] (σ ++ (.inr (.inr (.inr (.inl lm))) :: .inr (.inr (.inr (.inl ls))) :: β)))) ?_
  rw [if_neg (fun z => by have := (n32le (a := 6) (by omega) (by omega)).mp z; omega)]
  refine G.go 1 (fun n => (rfl : _ = exe ξ n (d + 6) j_N_init 205 [(0, .ref x), (1, .int (Int32.ofNat i))] [.ref x] (σ ++ (.inr (.inr (.inr (.inl lm))) :: .inr (.inr (.inr (.inl ls))) :: β)))) ?_
  refine G.get rfl rfl rfl (qs_app hx) rfl ?_
  refine G.go 1 (fun n => (rfl : _ = exe ξ n (d + 6) j_N_init 209 [(0, .ref x), (1, .int (Int32.ofNat i))] [.int (Int32.ofNat i), .ref σ.length] (σ ++ (.inr (.inr (.inr (.inl lm))) :: .inr (.inr (.inr (.inl ls))) :: β)))) ?_
  refine G.aloA rfl rfl rfl rfl rfl rfl ?_
  rw [e1]
  refine G.go 1 (fun n => (rfl : _ = exe ξ n (d + 6) j_N_init 213 [(0, .ref x), (1, .int (Int32.ofNat i))] [.ref (σ.length + (β.length + 2)), .ref (σ.length + (β.length + 2)), .int (Int32.ofNat i), .ref σ.length] (σ ++ ((.inr (.inr (.inr (.inl lm))) :: .inr (.inr (.inr (.inl ls))) :: β) ++ [.inl (1, qnew 1)])))) ?_
  have h := newSub (ξ := ξ) (d := d + 5) (o := .inl (1, qnew 1)) (fun τ L h => c_A_init _ τ L h) σ (.inr (.inr (.inr (.inl lm))) :: .inr (.inr (.inr (.inl ls))) :: β)
  rw [e1] at h
  refine G.call (k := j_A_init) (as := [.ref (σ.length + (β.length + 2))]) (r := [.ref (σ.length + (β.length + 2)), .int (Int32.ofNat i), .ref σ.length]) rfl rfl rfl rfl rfl rfl rfl rfl h ?_
  have k1 : (σ ++ (.inr (.inr (.inr (.inl lm))) :: .inr (.inr (.inr (.inl ls))) :: (β ++ cArc (σ.length + (β.length + 2)))))[σ.length + (β.length + 2)]? = some (.inl (1, [.ref (σ.length + (β.length + 2) + 1), .ref (σ.length + (β.length + 2) + 3), .ref (σ.length + (β.length + 2) + 4), .int 0, .int 0, .int 0, .int 0, .int (-1)])) := by
    rw [qA_get]
    show (β ++ cArc (σ.length + (β.length + 2)))[β.length]? = _
    rw [List.getElem?_append_right (Nat.le_refl _), Nat.sub_self]
    rfl
  refine G.aast rfl (show (σ ++ (.inr (.inr (.inr (.inl lm))) :: .inr (.inr (.inr (.inl ls))) :: (β ++ cArc (σ.length + (β.length + 2)))))[σ.length]? = some (.inr (.inr (.inr (.inl lm)))) from qA_get σ (.inr (.inr (.inr (.inl lm))) :: .inr (.inr (.inr (.inl ls))) :: (β ++ cArc (σ.length + (β.length + 2)))) 0) k1 (qix_n (by omega) (by omega)) ?_
  rw [n32c (by omega)]
  show G ξ (d + 6) j_N_init 217 [(0, .ref x), (1, .int (Int32.ofNat i))] [] ((σ ++ (.inr (.inr (.inr (.inl lm))) :: .inr (.inr (.inr (.inl ls))) :: (β ++ cArc (σ.length + (β.length + 2))))).set (σ.length + 0) (.inr (.inr (.inr (.inl (lm.set i (some (σ.length + (β.length + 2))))))))) o
  rw [qA_set]
  have e2 : ((.inr (.inr (.inr (.inl (lm.set i (some (σ.length + (β.length + 2))))))) :: .inr (.inr (.inr (.inl ls))) :: (β ++ cArc (σ.length + (β.length + 2)))) : qH).length = β.length + 7 := by
    show (β ++ cArc (σ.length + (β.length + 2))).length + 1 + 1 = _
    rw [List.length_append]
    rfl
  refine G.go 1 (fun n => (rfl : _ = exe ξ n (d + 6) j_N_init 218 [(0, .ref x), (1, .int (Int32.ofNat i))] [.ref x] (σ ++ (.inr (.inr (.inr (.inl (lm.set i (some (σ.length + (β.length + 2))))))) :: .inr (.inr (.inr (.inl ls))) :: (β ++ cArc (σ.length + (β.length + 2))))))) ?_
  refine G.get rfl rfl rfl (qs_app hx) rfl ?_
  refine G.go 1 (fun n => (rfl : _ = exe ξ n (d + 6) j_N_init 222 [(0, .ref x), (1, .int (Int32.ofNat i))] [.int (Int32.ofNat i), .ref (σ.length + 1)] (σ ++ (.inr (.inr (.inr (.inl (lm.set i (some (σ.length + (β.length + 2))))))) :: .inr (.inr (.inr (.inl ls))) :: (β ++ cArc (σ.length + (β.length + 2))))))) ?_
  refine G.aloA rfl rfl rfl rfl rfl rfl ?_
  rw [e2]
  refine G.go 1 (fun n => (rfl : _ = exe ξ n (d + 6) j_N_init 226 [(0, .ref x), (1, .int (Int32.ofNat i))] [.ref (σ.length + (β.length + 7)), .ref (σ.length + (β.length + 7)), .int (Int32.ofNat i), .ref (σ.length + 1)] (σ ++ ((.inr (.inr (.inr (.inl (lm.set i (some (σ.length + (β.length + 2))))))) :: .inr (.inr (.inr (.inl ls))) :: (β ++ cArc (σ.length + (β.length + 2)))) ++ [.inl (1, qnew 1)])))) ?_
  have h2 := newSub (ξ := ξ) (d := d + 5) (o := .inl (1, qnew 1)) (fun τ L h => c_A_init _ τ L h) σ (.inr (.inr (.inr (.inl (lm.set i (some (σ.length + (β.length + 2))))))) :: .inr (.inr (.inr (.inl ls))) :: (β ++ cArc (σ.length + (β.length + 2))))
  rw [e2] at h2
  refine G.call (k := j_A_init) (as := [.ref (σ.length + (β.length + 7))]) (r := [.ref (σ.length + (β.length + 7)), .int (Int32.ofNat i), .ref (σ.length + 1)]) rfl rfl rfl rfl rfl rfl rfl rfl h2 ?_
  have k2 : (σ ++ (.inr (.inr (.inr (.inl (lm.set i (some (σ.length + (β.length + 2))))))) :: .inr (.inr (.inr (.inl ls))) :: ((β ++ cArc (σ.length + (β.length + 2))) ++ cArc (σ.length + (β.length + 7)))))[σ.length + (β.length + 7)]? = some (.inl (1, [.ref (σ.length + (β.length + 7) + 1), .ref (σ.length + (β.length + 7) + 3), .ref (σ.length + (β.length + 7) + 4), .int 0, .int 0, .int 0, .int 0, .int (-1)])) := by
    rw [qA_get]
    show ((β ++ cArc (σ.length + (β.length + 2))) ++ cArc (σ.length + (β.length + 7)))[β.length + 5]? = _
    have e3 : (β ++ cArc (σ.length + (β.length + 2))).length = β.length + 5 := by
      rw [List.length_append]
      rfl
    rw [List.getElem?_append_right (by rw [e3]; exact Nat.le_refl _), e3, Nat.sub_self]
    rfl
  refine G.aast rfl (show (σ ++ (.inr (.inr (.inr (.inl (lm.set i (some (σ.length + (β.length + 2))))))) :: .inr (.inr (.inr (.inl ls))) :: ((β ++ cArc (σ.length + (β.length + 2))) ++ cArc (σ.length + (β.length + 7)))))[σ.length + 1]? = some (.inr (.inr (.inr (.inl ls)))) from qA_get σ (.inr (.inr (.inr (.inl (lm.set i (some (σ.length + (β.length + 2))))))) :: .inr (.inr (.inr (.inl ls))) :: ((β ++ cArc (σ.length + (β.length + 2))) ++ cArc (σ.length + (β.length + 7)))) 1) k2 (qix_n (by omega) (by omega)) ?_
  rw [n32c (by omega)]
  show G ξ (d + 6) j_N_init 230 [(0, .ref x), (1, .int (Int32.ofNat i))] [] ((σ ++ (.inr (.inr (.inr (.inl (lm.set i (some (σ.length + (β.length + 2))))))) :: .inr (.inr (.inr (.inl ls))) :: ((β ++ cArc (σ.length + (β.length + 2))) ++ cArc (σ.length + (β.length + 7))))).set (σ.length + 1) (.inr (.inr (.inr (.inl (ls.set i (some (σ.length + (β.length + 7))))))))) o
  rw [qA_set]
  refine G.go 2 (fun n => (rfl : _ = exe ξ n (d + 6) j_N_init 198 [(0, .ref x), (1, .int (Int32.ofNat i + Int32.ofInt 1))] [] (σ ++ (.inr (.inr (.inr (.inl (lm.set i (some (σ.length + (β.length + 2))))))) :: .inr (.inr (.inr (.inl (ls.set i (some (σ.length + (β.length + 7))))))) :: ((β ++ cArc (σ.length + (β.length + 2))) ++ cArc (σ.length + (β.length + 7))))))) ?_
  rw [n32i]
  exact g
/-- from the texts to the end -/
theorem N_rest (d x u0 u1 u2 u3 u6 u7 u8 u9 u10 rM rI bM bI : Nat) {wM wI : Nat → Int32} (σ : qH) (hσ : qnE ≤ σ.length) (hM : isText ξ (d + 4) 8 20 wM) (hI : isText ξ (d + 4) 9 9 wI) (hnM : Nat.blt rM qnE = false) (hnI : Nat.blt rI qnE = false) (hbM : Nat.blt bM qnE = false) (hbI : Nat.blt bI qnE = false) (hx : σ[x]? = some (.inl (0, [.ref u0, .ref u1, .ref u2, .ref u3, .ref rM, .ref rI, .ref u6, .ref u7, .ref u8, .ref u9, .ref u10, .int 0, .ref σ.length, .ref (σ.length + 1), .int 0, .int 0, .int (-1)]))) (hM1 : σ[rM]? = some (.inl (5, [.int 40, .ref bM, .int 0]))) (hM2 : σ[bM]? = some (.inr (.inl (1, [])))) (hI1 : σ[rI]? = some (.inl (5, [.int 40, .ref bI, .int 0]))) (hI2 : σ[bI]? = some (.inr (.inl (1, [])))) (hMI : rM ≠ rI) :
    ∃ tM tI : List Int32, tM.length = 40 ∧ tI.length = 40 ∧ ((∀ k, k < 20 → tM.getD k 0 = b8 (wM k)) ∧ ∀ k, k < 9 → tI.getD k 0 = b8 (wI k)) ∧ G ξ (d + 6) j_N_init 178 [(0, .ref x)] [] (σ ++ [.inr (.inr (.inr (.inl (List.replicate 6 none)))), .inr (.inr (.inr (.inl (List.replicate 6 none))))]) (none, ((σ.set rM (.inl (5, [.int 40, .ref (σ.length + 2), .int 20]))).set rI (.inl (5, [.int 40, .ref (σ.length + 3), .int 9]))) ++ cNes σ.length tM tI) := by
  have hxM : x ≠ rM := q_dif hx hM1 (by intro z; cases z)
  have hxI : x ≠ rI := q_dif hx hI1 (by intro z; cases z)
  have hIM : rM ≠ bI := q_dif hM1 hI2 (by intro z; cases z)
  have lM : rM < σ.length := (List.getElem?_eq_some_iff.mp hM1).1
  have lI : rI < σ.length := (List.getElem?_eq_some_iff.mp hI1).1
  obtain ⟨tM, hM0, gM⟩ := c_text (ξ := ξ) (d + 4) rM 8 19 bM ⟨rfl, rfl⟩ hM (σ ++ [.inr (.inr (.inr (.inl (List.replicate 6 none)))), .inr (.inr (.inr (.inl (List.replicate 6 none))))]) (by rw [List.length_append]; omega) hbM hnM (by decide) (qs_app hM1) (qs_app hM2)
  obtain ⟨σ1, hσ1⟩ : ∃ σ1, σ1 = σ.set rM (.inl (5, [.int 40, .ref (σ.length + 2), .int 20])) := ⟨_, rfl⟩
  have z1 : σ1.length = σ.length := by rw [hσ1, List.length_set]
  have eM : ((σ ++ ([.inr (.inr (.inr (.inl (List.replicate 6 none)))), .inr (.inr (.inr (.inl (List.replicate 6 none))))] : qH) ++ ([.inr (.inl (1, tM))] : qH)).set rM (.inl (5, [.int 40, .ref (σ ++ ([.inr (.inr (.inr (.inl (List.replicate 6 none)))), .inr (.inr (.inr (.inl (List.replicate 6 none))))] : qH)).length, .int (Int32.ofNat (19 + 1))]))) = σ1 ++ [.inr (.inr (.inr (.inl (List.replicate 6 none)))), .inr (.inr (.inr (.inl (List.replicate 6 none)))), .inr (.inl (1, tM))] := by
    rw [List.append_assoc, List.set_append_left _ _ lM, List.length_append, hσ1]
    rfl
  rw [eM] at gM
  have hx1 : σ1[x]? = some (.inl (0, [.ref u0, .ref u1, .ref u2, .ref u3, .ref rM, .ref rI, .ref u6, .ref u7, .ref u8, .ref u9, .ref u10, .int 0, .ref σ.length, .ref (σ.length + 1), .int 0, .int 0, .int (-1)])) := by rw [hσ1]; exact qs_ne hxM.symm hx
  have hI11 : σ1[rI]? = some (.inl (5, [.int 40, .ref bI, .int 0])) := by rw [hσ1]; exact qs_ne hMI hI1
  have hI21 : σ1[bI]? = some (.inr (.inl (1, []))) := by rw [hσ1]; exact qs_ne hIM hI2
  obtain ⟨tI, hI0, gI⟩ := c_text (ξ := ξ) (d + 4) rI 9 8 bI ⟨rfl, rfl⟩ hI (σ1 ++ [.inr (.inr (.inr (.inl (List.replicate 6 none)))), .inr (.inr (.inr (.inl (List.replicate 6 none)))), .inr (.inl (1, tM))]) (by rw [List.length_append]; omega) hbI hnI (by decide) (qs_app hI11) (qs_app hI21)
  obtain ⟨σ2, hσ2⟩ : ∃ σ2, σ2 = σ1.set rI (.inl (5, [.int 40, .ref (σ.length + 3), .int 9])) := ⟨_, rfl⟩
  have z2 : σ2.length = σ.length := by rw [hσ2, List.length_set, z1]
  have eI : ((σ1 ++ ([.inr (.inr (.inr (.inl (List.replicate 6 none)))), .inr (.inr (.inr (.inl (List.replicate 6 none)))), .inr (.inl (1, tM))] : qH) ++ ([.inr (.inl (1, tI))] : qH)).set rI (.inl (5, [.int 40, .ref (σ1 ++ ([.inr (.inr (.inr (.inl (List.replicate 6 none)))), .inr (.inr (.inr (.inl (List.replicate 6 none)))), .inr (.inl (1, tM))] : qH)).length, .int (Int32.ofNat (8 + 1))]))) = σ2 ++ (.inr (.inr (.inr (.inl (List.replicate 6 none)))) :: .inr (.inr (.inr (.inl (List.replicate 6 none)))) :: [.inr (.inl (1, tM)), .inr (.inl (1, tI))]) := by
    rw [List.append_assoc, List.set_append_left _ _ (by omega), List.length_append, hσ2, z1]
    rfl
  rw [eI] at gI
  have hx2 : σ2[x]? = some (.inl (0, [.ref u0, .ref u1, .ref u2, .ref u3, .ref rM, .ref rI, .ref u6, .ref u7, .ref u8, .ref u9, .ref u10, .int 0, .ref σ.length, .ref (σ.length + 1), .int 0, .int 0, .int (-1)])) := by rw [hσ2]; exact qs_ne hxI.symm hx1
  refine ⟨tM, tI, hM0.1, hI0.1, ⟨hM0.2, hI0.2⟩, ?_⟩
  rw [← hσ1, ← hσ2]
  refine G.go 1 (fun n => (rfl : _ = exe ξ n (d + 6) j_N_init 179 [(0, .ref x)] [.ref x] (σ ++ [.inr (.inr (.inr (.inl (List.replicate 6 none)))), .inr (.inr (.inr (.inl (List.replicate 6 none))))]))) ?_
  refine G.get rfl rfl rfl (qs_app hx) rfl ?_
  refine G.go 1 (fun n => (rfl : _ = exe ξ n (d + 6) j_N_init 184 [(0, .ref x)] [.ref 8, .ref rM] (σ ++ [.inr (.inr (.inr (.inl (List.replicate 6 none)))), .inr (.inr (.inr (.inl (List.replicate 6 none))))]))) ?_
  refine G.call (k := j_R_addText) (as := [.ref rM, .ref 8]) (r := []) rfl rfl rfl rfl rfl rfl rfl ?_ gM ?_
  · show (bif qrc _ rM j_R_addText && _ then _ else _) = _
    rw [qrc_at hnM (qs_app hM1) rfl]
    rfl
  refine G.go 1 (fun n => (rfl : _ = exe ξ n (d + 6) j_N_init 188 [(0, .ref x)] [.ref x] (σ1 ++ [.inr (.inr (.inr (.inl (List.replicate 6 none)))), .inr (.inr (.inr (.inl (List.replicate 6 none)))), .inr (.inl (1, tM))]))) ?_
  refine G.get rfl rfl rfl (qs_app hx1) rfl ?_
  refine G.go 1 (fun n => (rfl : _ = exe ξ n (d + 6) j_N_init 193 [(0, .ref x)] [.ref 9, .ref rI] (σ1 ++ [.inr (.inr (.inr (.inl (List.replicate 6 none)))), .inr (.inr (.inr (.inl (List.replicate 6 none)))), .inr (.inl (1, tM))]))) ?_
  refine G.call (k := j_R_addText) (as := [.ref rI, .ref 9]) (r := []) rfl rfl rfl rfl rfl rfl rfl ?_ gI ?_
  · show (bif qrc _ rI j_R_addText && _ then _ else _) = _
    rw [qrc_at hnI (qs_app hI11) rfl]
    rfl
  rw [← z2] at hx2
  rw [← z2]
  refine G.go 2 (fun n => (rfl : _ = exe ξ n (d + 6) j_N_init 198 [(0, .ref x), (1, .int (Int32.ofNat 0))] [] (σ2 ++ (.inr (.inr (.inr (.inl (List.replicate 6 none)))) :: .inr (.inr (.inr (.inl (List.replicate 6 none)))) :: [.inr (.inl (1, tM)), .inr (.inl (1, tI))])))) ?_
  refine N_turn d x u0 u1 u2 u3 u6 u7 u8 u9 u10 rM rI 0 _ _ σ2 _ _ (by decide) rfl rfl hx2 ?_
  refine N_turn d x u0 u1 u2 u3 u6 u7 u8 u9 u10 rM rI 1 _ _ σ2 _ _ (by decide) rfl rfl hx2 ?_
  refine N_turn d x u0 u1 u2 u3 u6 u7 u8 u9 u10 rM rI 2 _ _ σ2 _ _ (by decide) rfl rfl hx2 ?_
  refine N_turn d x u0 u1 u2 u3 u6 u7 u8 u9 u10 rM rI 3 _ _ σ2 _ _ (by decide) rfl rfl hx2 ?_
  refine N_turn d x u0 u1 u2 u3 u6 u7 u8 u9 u10 rM rI 4 _ _ σ2 _ _ (by decide) rfl rfl hx2 ?_
  refine N_turn d x u0 u1 u2 u3 u6 u7 u8 u9 u10 rM rI 5 _ _ σ2 _ _ (by decide) rfl rfl hx2 ?_
  exact G.end 4 (fun n => rfl)
end
