/-! A run that ends so: goals in the order of the code. A stretch without cells: 'G.go k (fun n => rfl)'. -/
def G (ξ : Nat → Option (Nat × List Int32)) (d j pc : Nat) (lv : qLV) (st : List Value) (σ : qH) (o : Option Value × qH) : Prop := ∃ n, exe ξ n d j pc lv st σ = some o
section
variable {ξ : Nat → Option (Nat × List Int32)} {d j pc : Nat} {lv : qLV} {st r : List Value} {σ : qH} {o : Option Value × qH}
theorem G.go (k : Nat) {pc' : Nat} {lv' : qLV} {st' : List Value} {σ' : qH} (h : ∀ n, exe ξ (n + k) d j pc lv st σ = exe ξ n d j pc' lv' st' σ') (g : G ξ d j pc' lv' st' σ' o) : G ξ d j pc lv st σ o := by
  obtain ⟨n, hn⟩ := g
  exact ⟨n + k, by rw [h]; exact hn⟩
theorem G.end (k : Nat) (h : ∀ n, exe ξ (n + k) d j pc lv st σ = some o) : G ξ d j pc lv st σ o := ⟨0 + k, h 0⟩
theorem G.get {idx ci k i : Nat} {nb : Bool} {q : Nat × Nat} {fs : List Value} {v : Value} (hf : qfe j pc = some (.getfield idx, 3)) (hx : qlk (qxL.getD (qco j) []) idx = none) (hl : qlk (qfL.getD (qco j) []) idx = some ((ci, k, nb), q)) (hi : σ[i]? = some (.inl (ci, fs))) (hv : fs[k]? = some v) (g : G ξ d j (pc + 3) lv (v :: r) σ o) : G ξ d j pc lv (.ref i :: r) σ o :=
  G.go 1 (fun n => ex_rd hf rfl rfl (by unfold qrd; simp only [hx, hl, hi, hv, Nat.beq_refl, cond_true])) g
theorem G.put {idx ci k i : Nat} {nb : Bool} {q : Nat × Nat} {fs : List Value} {v : Value} (hf : qfe j pc = some (.putfield idx, 3)) (hl : qlk (qfL.getD (qco j) []) idx = some ((ci, k, nb), q)) (hi : σ[i]? = some (.inl (ci, fs))) (hk : Nat.blt k fs.length = true) (hv : qfit (qcty ci k) v = true) (hn : (!(qfn ci k).2.2.2 || (!nb && (qisI j && Nat.beq ci (qco j)))) = true) (g : G ξ d j (pc + 3) lv r (σ.set i (.inl (ci, fs.set k v))) o) : G ξ d j pc lv (v :: .ref i :: r) σ o :=
  G.go 1 (fun n => ex_wr hf rfl rfl rfl (by unfold qwr; simp only [hl, hi, hk, hv, hn, Nat.beq_refl, Bool.and_true, Bool.true_and, cond_true])) g
theorem G.iald {i : Nat} {x : Int32} {li : List Int32} (hf : qfe j pc = some (.iaload, 1)) (hn : Nat.blt i qnE = false) (hi : σ[i]? = some (.inr (.inl (0, li)))) (hx : qix x li.length = true) (g : G ξ d j (pc + 1) lv (.int (li.getD x.toNatClampNeg 0) :: r) σ o) : G ξ d j pc lv (.int x :: .ref i :: r) σ o :=
  G.go 1 (fun n => ex_rd hf rfl rfl (by unfold qrd; simp only [hn, hi, hx, cond_false, cond_true])) g
theorem G.bald {i : Nat} {x : Int32} {li : List Int32} (hf : qfe j pc = some (.baload, 1)) (hn : Nat.blt i qnE = false) (hi : σ[i]? = some (.inr (.inl (1, li)))) (hx : qix x li.length = true) (g : G ξ d j (pc + 1) lv (.int (li.getD x.toNatClampNeg 0) :: r) σ o) : G ξ d j pc lv (.int x :: .ref i :: r) σ o :=
  G.go 1 (fun n => ex_rd hf rfl rfl (by unfold qrd; simp only [hn, hi, hx, cond_false, cond_true])) g
theorem G.lald {i : Nat} {x : Int32} {li : List Int64} (hf : qfe j pc = some (.laload, 1)) (hi : σ[i]? = some (.inr (.inr (.inl li)))) (hx : qix x li.length = true) (g : G ξ d j (pc + 1) lv (.long (li.getD x.toNatClampNeg 0) :: r) σ o) : G ξ d j pc lv (.int x :: .ref i :: r) σ o :=
  G.go 1 (fun n => ex_rd hf rfl rfl (by unfold qrd; simp only [hi, hx, cond_true])) g
theorem G.aald {i : Nat} {x : Int32} {li : List (Option Nat)} (hf : qfe j pc = some (.aaload, 1)) (hi : σ[i]? = some (.inr (.inr (.inr (.inl li))))) (hx : qix x li.length = true) (g : G ξ d j (pc + 1) lv (qof (li.getD x.toNatClampNeg none) :: r) σ o) : G ξ d j pc lv (.int x :: .ref i :: r) σ o :=
  G.go 1 (fun n => ex_rd hf rfl rfl (by unfold qrd; simp only [hi, hx, cond_true])) g
theorem G.ilen {i t : Nat} {li : List Int32} (hf : qfe j pc = some (.arraylength, 1)) (hn : Nat.blt i qnE = false) (hi : σ[i]? = some (.inr (.inl (t, li)))) (g : G ξ d j (pc + 1) lv (.int (Int32.ofNat li.length) :: r) σ o) : G ξ d j pc lv (.ref i :: r) σ o :=
  G.go 1 (fun n => ex_rd hf rfl rfl (by unfold qrd; simp only [hn, hi, cond_false])) g
theorem G.iast {i : Nat} {x y : Int32} {li : List Int32} (hf : qfe j pc = some (.iastore, 1)) (hi : σ[i]? = some (.inr (.inl (0, li)))) (hx : qix x li.length = true) (g : G ξ d j (pc + 1) lv r (σ.set i (.inr (.inl (0, li.set x.toNatClampNeg y)))) o) : G ξ d j pc lv (.int y :: .int x :: .ref i :: r) σ o :=
  G.go 1 (fun n => ex_wr hf rfl rfl rfl (by unfold qwr; simp only [hi, hx, cond_true])) g
theorem G.bast {i : Nat} {x y : Int32} {li : List Int32} (hf : qfe j pc = some (.bastore, 1)) (hi : σ[i]? = some (.inr (.inl (1, li)))) (hx : qix x li.length = true) (g : G ξ d j (pc + 1) lv r (σ.set i (.inr (.inl (1, li.set x.toNatClampNeg y.toInt8.toInt32)))) o) : G ξ d j pc lv (.int y :: .int x :: .ref i :: r) σ o :=
  G.go 1 (fun n => ex_wr hf rfl rfl rfl (by unfold qwr; simp only [hi, hx, cond_true])) g
theorem G.last {i : Nat} {x : Int32} {y : Int64} {li : List Int64} (hf : qfe j pc = some (.lastore, 1)) (hi : σ[i]? = some (.inr (.inr (.inl li)))) (hx : qix x li.length = true) (g : G ξ d j (pc + 1) lv r (σ.set i (.inr (.inr (.inl (li.set x.toNatClampNeg y))))) o) : G ξ d j pc lv (.long y :: .int x :: .ref i :: r) σ o :=
  G.go 1 (fun n => ex_wr hf rfl rfl rfl (by unfold qwr; simp only [hi, hx, cond_true])) g
/-- a call out of the callee's own goal -/
theorem G.call {ins : Instr} {len k : Nat} {as : List Value} {v : Option Value} {σ1 : qH} (hf : qfe j pc = some (ins, len)) (h0 : qsim (qnl j) ins len lv st = none) (h1 : qjmp ins len pc st = none) (h2 : qrd ξ (qco j) ins len st σ = none) (h3 : qwr (qisI j) (qco j) ins len st σ = none) (h4 : qal (qco j) ins len st = none) (h5 : qre j ins len st = none) (h : qca j ins len st σ = some (.inl (k, as, r))) (hc : G ξ d k 0 (lv_args 0 as) [] σ (v, σ1)) (g : G ξ (d + 1) j (pc + 3) lv (v.toList ++ r) σ1 o) : G ξ (d + 1) j pc lv st σ o := by
  obtain ⟨n1, hn1⟩ := hc
  obtain ⟨n2, hn2⟩ := g
  refine ⟨n1 + n2 + 1, ?_⟩
  rw [ex_ca hf h0 h1 h2 h3 h4 h5 h (exe_fuel hn1 (Nat.le_add_right n1 n2))]
  exact exe_fuel hn2 (Nat.le_add_left n2 n1)
end
