/-! Symbolic runs. Stretches without cells are 'rfl'; here: one step on cells, one call. -/
section
variable {ξ : Nat → Option (Nat × List Int32)} {n d j pc len : Nat} {lv lv' : qLV} {st st' r : List Value} {σ σ' : qH} {ins : Instr}
theorem ex_sim (hf : qfe j pc = some (ins, len)) (h : qsim (qnl j) ins len lv st = some (lv', st')) : exe ξ (n + 1) d j pc lv st σ = exe ξ n d j (pc + len) lv' st' σ := by
  rw [exe, hf]
  simp only [h]
theorem ex_jmp {pc' : Nat} (hf : qfe j pc = some (ins, len)) (h0 : qsim (qnl j) ins len lv st = none) (h : qjmp ins len pc st = some (pc', st')) : exe ξ (n + 1) d j pc lv st σ = exe ξ n d j pc' lv st' σ := by
  rw [exe, hf]
  simp only [h0, h]
theorem ex_rd (hf : qfe j pc = some (ins, len)) (h0 : qsim (qnl j) ins len lv st = none) (h1 : qjmp ins len pc st = none) (h : qrd ξ (qco j) ins len st σ = some st') : exe ξ (n + 1) d j pc lv st σ = exe ξ n d j (pc + len) lv st' σ := by
  rw [exe, hf]
  simp only [h0, h1, h]
theorem ex_wr (hf : qfe j pc = some (ins, len)) (h0 : qsim (qnl j) ins len lv st = none) (h1 : qjmp ins len pc st = none) (h2 : qrd ξ (qco j) ins len st σ = none) (h : qwr (qisI j) (qco j) ins len st σ = some (st', σ')) : exe ξ (n + 1) d j pc lv st σ = exe ξ n d j (pc + len) lv st' σ' := by
  rw [exe, hf]
  simp only [h0, h1, h2, h]
theorem ex_al {c1 : qC} (hf : qfe j pc = some (ins, len)) (h0 : qsim (qnl j) ins len lv st = none) (h1 : qjmp ins len pc st = none) (h2 : qrd ξ (qco j) ins len st σ = none) (h3 : qwr (qisI j) (qco j) ins len st σ = none) (h : qal (qco j) ins len st = some (st', c1)) : exe ξ (n + 1) d j pc lv st σ = exe ξ n d j (pc + len) lv (.ref σ.length :: st') (σ ++ [c1]) := by
  rw [exe, hf]
  simp only [h0, h1, h2, h3, h]
theorem ex_re {v : Option Value} (hf : qfe j pc = some (ins, len)) (h0 : qsim (qnl j) ins len lv st = none) (h1 : qjmp ins len pc st = none) (h2 : qrd ξ (qco j) ins len st σ = none) (h3 : qwr (qisI j) (qco j) ins len st σ = none) (h4 : qal (qco j) ins len st = none) (h : qre j ins len st = some v) : exe ξ (n + 1) d j pc lv st σ = some (v, σ) := by
  rw [exe, hf]
  simp only [h0, h1, h2, h3, h4, h]
/-- a call: the callee's run, then the rest -/
theorem ex_ca {k : Nat} {as : List Value} {v : Option Value} {σ1 : qH} (hf : qfe j pc = some (ins, len)) (h0 : qsim (qnl j) ins len lv st = none) (h1 : qjmp ins len pc st = none) (h2 : qrd ξ (qco j) ins len st σ = none) (h3 : qwr (qisI j) (qco j) ins len st σ = none) (h4 : qal (qco j) ins len st = none) (h5 : qre j ins len st = none) (h : qca j ins len st σ = some (.inl (k, as, r))) (hc : exe ξ n d k 0 (lv_args 0 as) [] σ = some (v, σ1)) : exe ξ (n + 1) (d + 1) j pc lv st σ = exe ξ n (d + 1) j (pc + 3) lv (v.toList ++ r) σ1 := by
  rw [exe, hf]
  simp only [h0, h1, h2, h3, h4, h5, h, hc]
theorem ex_in (hf : qfe j pc = some (ins, len)) (h0 : qsim (qnl j) ins len lv st = none) (h1 : qjmp ins len pc st = none) (h2 : qrd ξ (qco j) ins len st σ = none) (h3 : qwr (qisI j) (qco j) ins len st σ = none) (h4 : qal (qco j) ins len st = none) (h5 : qre j ins len st = none) {σ1 : qH} (h : qca j ins len st σ = some (.inr (r, σ1))) : exe ξ (n + 1) (d + 1) j pc lv st σ = exe ξ n (d + 1) j (pc + 3) lv r σ1 := by
  rw [exe, hf]
  simp only [h0, h1, h2, h3, h4, h5, h]
/-- more fuel, the same answer -/
theorem exe_more (ξ : Nat → Option (Nat × List Int32)) : ∀ (n d j pc : Nat) (lv : qLV) (st : List Value) (σ : qH) (o : Option Value × qH), exe ξ n d j pc lv st σ = some o → exe ξ (n + 1) d j pc lv st σ = some o := by
  intro n
  induction n with
  | zero => intro d j pc lv st σ o h; cases h
  | succ n ih =>
    intro d j pc lv st σ o h
    unfold exe at h
    split at h
    · cases h
    · rename_i hf
      split at h
      · rename_i h0
        rw [ex_sim hf h0]; exact ih _ _ _ _ _ _ _ h
      · rename_i h0
        split at h
        · rename_i h1
          rw [ex_jmp hf h0 h1]; exact ih _ _ _ _ _ _ _ h
        · rename_i h1
          split at h
          · rename_i h2
            rw [ex_rd hf h0 h1 h2]; exact ih _ _ _ _ _ _ _ h
          · rename_i h2
            split at h
            · rename_i h3
              rw [ex_wr hf h0 h1 h2 h3]; exact ih _ _ _ _ _ _ _ h
            · rename_i h3
              split at h
              · rename_i h4
                rw [ex_al hf h0 h1 h2 h3 h4]; exact ih _ _ _ _ _ _ _ h
              · rename_i h4
                split at h
                · rename_i h5
                  rw [ex_re hf h0 h1 h2 h3 h4 h5]; exact h
                · rename_i h5
                  split at h
                  · cases h
                  · split at h
                    · rename_i h6
                      split at h
                      · rename_i h7
                        rw [ex_ca hf h0 h1 h2 h3 h4 h5 h6 (ih _ _ _ _ _ _ _ h7)]
                        exact ih _ _ _ _ _ _ _ h
                      · cases h
                    · rename_i h6
                      rw [ex_in hf h0 h1 h2 h3 h4 h5 h6]; exact ih _ _ _ _ _ _ _ h
                    · cases h
theorem exe_fuel {n m : Nat} {o : Option Value × qH} (h : exe ξ n d j pc lv st σ = some o) (hm : n ≤ m) : exe ξ m d j pc lv st σ = some o := by
  obtain ⟨k, rfl⟩ := Nat.exists_eq_add_of_le hm
  clear hm
  induction k with
  | zero => exact h
  | succ k ih => exact exe_more ξ _ _ _ _ _ _ _ _ ih
end
