/-! More fuel, the same end; goals for runs that throw, and for the law's runs. -/
section
variable {ξ : Nat → Option (Nat × List Int32)} {n d j pc : Nat} {lv : qLV} {st : List Value} {σ : qH}
theorem run1_more {o : Nat × qLV × List Value × qH} (h : run1 ξ n d j pc lv st σ = some o) : run1 ξ (n + 1) d j pc lv st σ = some o := by
  unfold run1 at h ⊢
  split at h
  · cases h
  · split at h
    · exact h
    · split at h
      · exact h
      · split at h
        · exact h
        · split at h
          · exact h
          · split at h
            · exact h
            · split at h
              · cases h
              · split at h
                · split at h
                  · rename_i h1
                    rw [exe_more ξ _ _ _ _ _ _ _ _ h1]
                    exact h
                  · cases h
                · exact h
                · cases h
theorem run1_fuel {m : Nat} {o : Nat × qLV × List Value × qH} (h : run1 ξ n d j pc lv st σ = some o) (hm : n ≤ m) : run1 ξ m d j pc lv st σ = some o := by
  obtain ⟨k, rfl⟩ := Nat.exists_eq_add_of_le hm
  clear hm
  induction k with
  | zero => exact h
  | succ k ih => exact run1_more ih
/-- a return is no step -/
theorem run1_ret {ins : Instr} {len : Nat} {v : Option Value} (hf : qfe j pc = some (ins, len)) (hr : qre j ins len st = some v) : run1 ξ n d j pc lv st σ = none := by
  unfold run1
  rw [hf]
  rcases qre_ins hr with rfl | rfl | rfl | rfl
  · show (match d with | 0 => none | d' + 1 => _) = none
    cases d <;> rfl
  · show (match d with | 0 => none | d' + 1 => _) = none
    cases d <;> rfl
  · show (match d with | 0 => none | d' + 1 => _) = none
    cases d <;> rfl
  · show (match d with | 0 => none | d' + 1 => _) = none
    cases d <;> rfl
theorem exx_more : ∀ (n d j pc : Nat) (lv : qLV) (st : List Value) (σ : qH) (o : (Option Value ⊕ Nat) × qH), exx ξ n d j pc lv st σ = some o → exx ξ (n + 1) d j pc lv st σ = some o := by
  intro n
  induction n with
  | zero => intro d j pc lv st σ o h; cases h
  | succ n ih =>
    intro d j pc lv st σ o h
    unfold exx at h
    rw [exx]
    split at h
    · exact h
    · split at h
      · rename_i h1
        rw [run1_more h1]
        exact ih _ _ _ _ _ _ _ h
      · split at h
        · cases h
        · rename_i hf
          split at h
          · rename_i hr
            rw [run1_ret hf hr]
            exact h
          · cases h
theorem exx_fuel {m : Nat} {o : (Option Value ⊕ Nat) × qH} (h : exx ξ n d j pc lv st σ = some o) (hm : n ≤ m) : exx ξ m d j pc lv st σ = some o := by
  obtain ⟨k, rfl⟩ := Nat.exists_eq_add_of_le hm
  clear hm
  induction k with
  | zero => exact h
  | succ k ih => exact exx_more _ _ _ _ _ _ _ _ ih
/-- a step, out of a run -/
theorem exe_run1 {o : Option Value × qH} (h : exe ξ (n + 1) d j pc lv st σ = some o) : (∃ pc' lv' st' σ', run1 ξ n d j pc lv st σ = some (pc', lv', st', σ') ∧ exe ξ n d j pc' lv' st' σ' = some o) ∨ (∃ ins len v, qfe j pc = some (ins, len) ∧ qre j ins len st = some v) := by
  unfold exe at h
  unfold run1
  split at h
  · cases h
  · rename_i hf
    split at h
    · exact Or.inl ⟨_, _, _, _, by simp only [*], h⟩
    · split at h
      · exact Or.inl ⟨_, _, _, _, by simp only [*], h⟩
      · split at h
        · exact Or.inl ⟨_, _, _, _, by simp only [*], h⟩
        · split at h
          · exact Or.inl ⟨_, _, _, _, by simp only [*], h⟩
          · split at h
            · exact Or.inl ⟨_, _, _, _, by simp only [*], h⟩
            · split at h
              · rename_i hr
                exact Or.inr ⟨_, _, _, hf, hr⟩
              · split at h
                · cases h
                · split at h
                  · split at h
                    · exact Or.inl ⟨_, _, _, _, by simp only [*], h⟩
                    · cases h
                  · exact Or.inl ⟨_, _, _, _, by simp only [*], h⟩
                  · cases h
theorem qthr_stop {e9 : Nat} (h : qthr j pc = some e9) : exe ξ n d j pc lv st σ = none := by
  cases n with
  | zero => rfl
  | succ n =>
    obtain ⟨hco, ik, ic, ist, tx, c1, -, c3, -⟩ := qthr_ok h
    have hal : qal (qco j) (.new ik) 3 st = none := by
      rw [hco]
      match e9, c1 with
      | 0, c1 => cases c1; rfl
      | 1, c1 => cases c1; rfl
      | 2, c1 => cases c1; rfl
      | n + 3, c1 => cases c1
    rw [exe, c3]
    simp only [show qsim (qnl j) (.new ik) 3 lv st = none from rfl, show qjmp (.new ik) 3 pc st = none from rfl, show qrd ξ (qco j) (.new ik) 3 st σ = none from rfl, show qwr (qisI j) (qco j) (.new ik) 3 st σ = none from rfl, hal, show qre j (.new ik) 3 st = none from rfl, show qca j (.new ik) 3 st σ = none from rfl]
    cases d <;> rfl
/-- what throws doesn't return -/
theorem exx_stop : ∀ (n d j pc : Nat) (lv : qLV) (st : List Value) (σ : qH) (e9 : Nat) (σ' : qH), exx ξ n d j pc lv st σ = some (.inr e9, σ') → ∀ m : Nat, exe ξ m d j pc lv st σ = none := by
  intro n
  induction n with
  | zero => intro d j pc lv st σ e9 σ' h; cases h
  | succ n ih =>
    intro d j pc lv st σ e9 σ' h m
    unfold exx at h
    split at h
    · rename_i ht
      exact qthr_stop ht
    · split at h
      · rename_i h1
        cases m with
        | zero => rfl
        | succ m =>
          cases hm : exe ξ (m + 1) d j pc lv st σ with
          | none => rfl
          | some o =>
            exfalso
            rcases exe_run1 hm with ⟨pc', lv', st', σ9, g1, g2⟩ | ⟨ins, len, v, g1, g2⟩
            · have f1 := run1_fuel h1 (Nat.le_add_right n m)
              have f2 := run1_fuel g1 (Nat.le_add_left m n)
              rw [f1] at f2
              cases f2
              rw [ih _ _ _ _ _ _ _ _ h m] at g2
              cases g2
            · rw [run1_ret g1 g2] at h1
              cases h1
      · split at h
        · cases h
        · split at h
          · cases h
          · cases h
end
/-- a run that ends in a throw -/
def GX (ξ : Nat → Option (Nat × List Int32)) (d j pc : Nat) (lv : qLV) (st : List Value) (σ : qH) (e9 : Nat) (σ' : qH) : Prop := ∃ n, exx ξ n d j pc lv st σ = some (.inr e9, σ')
/-- a run of the law, or of a helper: from some fuel on it ends so -/
def GH (ξ : Nat → Option (Nat × List Int32)) (d j pc : Nat) (lv : qLV) (st : List Value) (σ : qH) (o : Option Value × qH) : Prop := ∃ N, ∀ n, N ≤ n → exh ξ n d j pc lv st σ = some o
section
variable {ξ : Nat → Option (Nat × List Int32)} {d j pc : Nat} {lv : qLV} {st r : List Value} {σ σ' : qH} {e9 : Nat} {o : Option Value × qH}
theorem GX.go (k : Nat) {pc' : Nat} {lv' : qLV} {st' : List Value} {σ1 : qH} (h : ∀ n, exx ξ (n + k) d j pc lv st σ = exx ξ n d j pc' lv' st' σ1) (g : GX ξ d j pc' lv' st' σ1 e9 σ') : GX ξ d j pc lv st σ e9 σ' := by
  obtain ⟨n, hn⟩ := g
  exact ⟨n + k, by rw [h]; exact hn⟩
theorem GX.throw (hd : Nat.ble 6 d = true) (hq : Nat.ble (qcat st) 8 = true) (ht : qthr j pc = some e9) : GX ξ d j pc lv st σ e9 (σ ++ [.inr (.inr (.inr (.inr (.inr 6))))]) := ⟨1, by
  rw [exx, ht]
  simp only [hd, hq, Bool.and_self, cond_true]⟩
theorem GX.call {ins : Instr} {len k : Nat} {as : List Value} {v : Option Value} {σ1 : qH} (ht : qthr j pc = none) (hf : qfe j pc = some (ins, len)) (h0 : qsim (qnl j) ins len lv st = none) (h1 : qjmp ins len pc st = none) (h2 : qrd ξ (qco j) ins len st σ = none) (h3 : qwr (qisI j) (qco j) ins len st σ = none) (h4 : qal (qco j) ins len st = none) (h : qca j ins len st σ = some (.inl (k, as, r))) (hc : G ξ d k 0 (lv_args 0 as) [] σ (v, σ1)) (g : GX ξ (d + 1) j (pc + 3) lv (v.toList ++ r) σ1 e9 σ') : GX ξ (d + 1) j pc lv st σ e9 σ' := by
  obtain ⟨n1, hn1⟩ := hc
  obtain ⟨n2, hn2⟩ := g
  refine ⟨n1 + n2 + 1, ?_⟩
  have hr : run1 ξ (n1 + n2) (d + 1) j pc lv st σ = some (pc + 3, lv, v.toList ++ r, σ1) := by
    unfold run1
    rw [hf]
    simp only [h0, h1, h2, h3, h4, h, exe_fuel hn1 (Nat.le_add_right n1 n2)]
  rw [exx, ht]
  simp only [hr]
  exact exx_fuel hn2 (Nat.le_add_left n2 n1)
theorem GX.step {pc' : Nat} {lv' : qLV} {st' : List Value} {σ1 : qH} (ht : qthr j pc = none) (h : ∀ n, run1 ξ n d j pc lv st σ = some (pc', lv', st', σ1)) (g : GX ξ d j pc' lv' st' σ1 e9 σ') : GX ξ d j pc lv st σ e9 σ' := by
  obtain ⟨n, hn⟩ := g
  refine ⟨n + 1, ?_⟩
  rw [exx, ht]
  simp only [h n]
  exact hn
theorem GH.go (k : Nat) {pc' : Nat} {lv' : qLV} {st' : List Value} {σ1 : qH} (h : ∀ n, exh ξ (n + k) d j pc lv st σ = exh ξ n d j pc' lv' st' σ1) (g : GH ξ d j pc' lv' st' σ1 o) : GH ξ d j pc lv st σ o := by
  obtain ⟨N, hn⟩ := g
  refine ⟨N + k, fun n hle => ?_⟩
  obtain ⟨m, rfl⟩ := Nat.exists_eq_add_of_le (show k ≤ n by omega)
  rw [Nat.add_comm k m, h]
  exact hn m (by omega)
theorem GH.end (k : Nat) (h : ∀ n, exh ξ (n + k) d j pc lv st σ = some o) : GH ξ d j pc lv st σ o := ⟨k, fun n hle => by
  obtain ⟨m, rfl⟩ := Nat.exists_eq_add_of_le hle
  rw [Nat.add_comm]
  exact h m⟩
theorem GH.call {ins : Instr} {len k : Nat} {as : List Value} {v : Option Value} {σ1 : qH} (hf : qfe j pc = some (ins, len)) (h0 : qsim (qnl j) ins len lv st = none) (h1 : qjmp ins len pc st = none) (h2 : qrd ξ (qco j) ins len st σ = none) (h3 : qwr (qisI j) (qco j) ins len st σ = none) (h4 : qal (qco j) ins len st = none) (h : qca j ins len st σ = some (.inl (k, as, r))) (hc : G ξ d k 0 (lv_args 0 as) [] σ (v, σ1)) (g : GH ξ (d + 1) j (pc + 3) lv (v.toList ++ r) σ1 o) : GH ξ (d + 1) j pc lv st σ o := by
  obtain ⟨n1, hn1⟩ := hc
  obtain ⟨N, hN⟩ := g
  refine ⟨n1 + N + 1, fun n hle => ?_⟩
  obtain ⟨m, rfl⟩ := Nat.exists_eq_add_of_le (show 1 ≤ n by omega)
  rw [Nat.add_comm 1 m]
  have hr : run1 ξ m (d + 1) j pc lv st σ = some (pc + 3, lv, v.toList ++ r, σ1) := by
    unfold run1
    rw [hf]
    simp only [h0, h1, h2, h3, h4, h, exe_fuel hn1 (show n1 ≤ m by omega)]
  rw [exh, hr]
  exact hN m (by omega)
theorem GH.help {ins : Instr} {len k : Nat} {as : List Value} {v : Option Value} {σ1 : qH} (hf : qfe j pc = some (ins, len)) (hr : ∀ n, run1 ξ n (d + 1) j pc lv st σ = none) (hq : qre j ins len st = none) (h : qhc j ins len st = some (k, as, r)) (hc : GH ξ d k 0 (lv_args 0 as) [] σ (v, σ1)) (g : GH ξ (d + 1) j (pc + 3) lv (v.toList ++ r) σ1 o) : GH ξ (d + 1) j pc lv st σ o := by
  obtain ⟨N1, hN1⟩ := hc
  obtain ⟨N, hN⟩ := g
  refine ⟨N1 + N + 1, fun n hle => ?_⟩
  obtain ⟨m, rfl⟩ := Nat.exists_eq_add_of_le (show 1 ≤ n by omega)
  rw [Nat.add_comm 1 m]
  rw [exh, hr m, hf]
  simp only [hq, h, hN1 m (by omega)]
  exact hN m (by omega)
theorem GH.catch {idx len k h9 : Nat} {as : List Value} {σ1 : qH} (hf : qfe j pc = some (.invokevirtual idx, len)) (h0 : qrd ξ (qco j) (.invokevirtual idx) len st σ = none) (h3 : qwr (qisI j) (qco j) (.invokevirtual idx) len st σ = none) (h : qca j (.invokevirtual idx) len st σ = some (.inl (k, as, r))) (hc : GX ξ d k 0 (lv_args 0 as) [] σ e9 σ1) (hh : qhf (qhr j) pc e9 = some h9) (g : GH ξ (d + 1) j h9 lv [.ref (σ1.length - 1)] σ1 o) : GH ξ (d + 1) j pc lv st σ o := by
  obtain ⟨n1, hn1⟩ := hc
  obtain ⟨N, hN⟩ := g
  refine ⟨n1 + N + 1, fun n hle => ?_⟩
  obtain ⟨m, rfl⟩ := Nat.exists_eq_add_of_le (show 1 ≤ n by omega)
  rw [Nat.add_comm 1 m]
  have hr : run1 ξ m (d + 1) j pc lv st σ = none := by
    unfold run1
    rw [hf]
    simp only [show qsim (qnl j) (.invokevirtual idx) len lv st = none from rfl, show qjmp (.invokevirtual idx) len pc st = none from rfl, h0, h3, show qal (qco j) (.invokevirtual idx) len st = none from rfl, h, exx_stop _ _ _ _ _ _ _ _ _ hn1 m]
  rw [exh, hr, hf]
  simp only [show qre j (.invokevirtual idx) len st = none from rfl, show qhc j (.invokevirtual idx) len st = none from rfl, h, exx_fuel hn1 (show n1 ≤ m by omega), hh]
  exact hN m (by omega)
theorem run1_rd {n : Nat} {ins : Instr} {len : Nat} {st' : List Value} (hf : qfe j pc = some (ins, len)) (h0 : qsim (qnl j) ins len lv st = none) (h1 : qjmp ins len pc st = none) (h : qrd ξ (qco j) ins len st σ = some st') : run1 ξ n d j pc lv st σ = some (pc + len, lv, st', σ) := by
  unfold run1
  rw [hf]
  simp only [h0, h1, h]
theorem run1_wr {n : Nat} {ins : Instr} {len : Nat} {st' : List Value} {σ1 : qH} (hf : qfe j pc = some (ins, len)) (h0 : qsim (qnl j) ins len lv st = none) (h1 : qjmp ins len pc st = none) (h2 : qrd ξ (qco j) ins len st σ = none) (h : qwr (qisI j) (qco j) ins len st σ = some (st', σ1)) : run1 ξ n d j pc lv st σ = some (pc + len, lv, st', σ1) := by
  unfold run1
  rw [hf]
  simp only [h0, h1, h2, h]
theorem run1_al {n : Nat} {ins : Instr} {len : Nat} {st' : List Value} {c1 : qC} (hf : qfe j pc = some (ins, len)) (h0 : qsim (qnl j) ins len lv st = none) (h1 : qjmp ins len pc st = none) (h2 : qrd ξ (qco j) ins len st σ = none) (h3 : qwr (qisI j) (qco j) ins len st σ = none) (h : qal (qco j) ins len st = some (st', c1)) : run1 ξ n d j pc lv st σ = some (pc + len, lv, .ref σ.length :: st', σ ++ [c1]) := by
  unfold run1
  rw [hf]
  simp only [h0, h1, h2, h3, h]
theorem GX.get {idx ci k i : Nat} {nb : Bool} {q : Nat × Nat} {fs : List Value} {v : Value} (ht : qthr j pc = none) (hf : qfe j pc = some (.getfield idx, 3)) (hx : qlk (qxL.getD (qco j) []) idx = none) (hl : qlk (qfL.getD (qco j) []) idx = some ((ci, k, nb), q)) (hi : σ[i]? = some (.inl (ci, fs))) (hv : fs[k]? = some v) (g : GX ξ d j (pc + 3) lv (v :: r) σ e9 σ') : GX ξ d j pc lv (.ref i :: r) σ e9 σ' :=
  GX.step ht (fun n => run1_rd hf rfl rfl (by unfold qrd; simp only [hx, hl, hi, hv, Nat.beq_refl, cond_true])) g
theorem GX.put {idx ci k i : Nat} {nb : Bool} {q : Nat × Nat} {fs : List Value} {v : Value} (ht : qthr j pc = none) (hf : qfe j pc = some (.putfield idx, 3)) (hl : qlk (qfL.getD (qco j) []) idx = some ((ci, k, nb), q)) (hi : σ[i]? = some (.inl (ci, fs))) (hk : Nat.blt k fs.length = true) (hv : qfit (qcty ci k) v = true) (hn : (!(qfn ci k).2.2.2 || (!nb && (qisI j && Nat.beq ci (qco j)))) = true) (g : GX ξ d j (pc + 3) lv r (σ.set i (.inl (ci, fs.set k v))) e9 σ') : GX ξ d j pc lv (v :: .ref i :: r) σ e9 σ' :=
  GX.step ht (fun n => run1_wr hf rfl rfl rfl (by unfold qwr; simp only [hl, hi, hk, hv, hn, Nat.beq_refl, Bool.and_true, Bool.true_and, cond_true])) g
theorem GH.step {pc' : Nat} {lv' : qLV} {st' : List Value} {σ1 : qH} (h : ∀ n, run1 ξ n d j pc lv st σ = some (pc', lv', st', σ1)) (g : GH ξ d j pc' lv' st' σ1 o) : GH ξ d j pc lv st σ o := by
  obtain ⟨N, hN⟩ := g
  refine ⟨N + 1, fun n hle => ?_⟩
  obtain ⟨m, rfl⟩ := Nat.exists_eq_add_of_le (show 1 ≤ n by omega)
  rw [Nat.add_comm 1 m, exh, h m]
  exact hN m (by omega)
theorem GH.last {i : Nat} {x : Int32} {y : Int64} {li : List Int64} (hf : qfe j pc = some (.lastore, 1)) (hi : σ[i]? = some (.inr (.inr (.inl li)))) (hx : qix x li.length = true) (g : GH ξ d j (pc + 1) lv r (σ.set i (.inr (.inr (.inl (li.set x.toNatClampNeg y))))) o) : GH ξ d j pc lv (.long y :: .int x :: .ref i :: r) σ o :=
  GH.step (fun n => run1_wr hf rfl rfl rfl (by unfold qwr; simp only [hi, hx, cond_true])) g
theorem GH.lald {i : Nat} {x : Int32} {li : List Int64} (hf : qfe j pc = some (.laload, 1)) (hi : σ[i]? = some (.inr (.inr (.inl li)))) (hx : qix x li.length = true) (g : GH ξ d j (pc + 1) lv (.long (li.getD x.toNatClampNeg 0) :: r) σ o) : GH ξ d j pc lv (.int x :: .ref i :: r) σ o :=
  GH.step (fun n => run1_rd hf rfl rfl (by unfold qrd; simp only [hi, hx, cond_true])) g
theorem GH.alo {ins : Instr} {len : Nat} {st' : List Value} {c1 : qC} (hf : qfe j pc = some (ins, len)) (h0 : qsim (qnl j) ins len lv st = none) (h1 : qjmp ins len pc st = none) (h2 : qrd ξ (qco j) ins len st σ = none) (h3 : qwr (qisI j) (qco j) ins len st σ = none) (h : qal (qco j) ins len st = some (st', c1)) (g : GH ξ d j (pc + len) lv (.ref σ.length :: st') (σ ++ [c1]) o) : GH ξ d j pc lv st σ o :=
  GH.step (fun n => run1_al hf h0 h1 h2 h3 h) g
theorem qrc_at {i k ci : Nat} {fs : List Value} (hn : Nat.blt i qnE = false) (hi : σ[i]? = some (.inl (ci, fs))) (hk : Nat.beq ci (qco k) = true) : qrc σ i k = true := by
  unfold qrc
  rw [hn, hi]
  exact hk
theorem qs_push {i : Nat} {x y : qC} (hi : σ[i]? = some x) : (σ ++ [y])[i]? = some x := by
  rw [List.getElem?_append_left (List.getElem?_eq_some_iff.mp hi).1]
  exact hi
end
