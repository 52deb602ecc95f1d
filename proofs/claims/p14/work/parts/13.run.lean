/-! The small machine's run, and its calls. -/
def qtk : Nat → List Value → Option (List Value × List Value)
  | 0, st => some ([], st)
  | n + 1, v :: st => match qtk n st with
    | some (as, r) => some (as ++ [v], r)
    | none => none
  | _ + 1, [] => none
theorem qtk_ok : ∀ {n : Nat} {st as r : List Value}, qtk n st = some (as, r) → st = as.reverse ++ r ∧ as.length = n
  | 0, st, as, r, h => by
    unfold qtk at h
    cases h
    exact ⟨rfl, rfl⟩
  | n + 1, [], as, r, h => by cases h
  | n + 1, v :: st, as, r, h => by
    unfold qtk at h
    split at h
    · rename_i as' r' h'
      cases h
      obtain ⟨e1, e2⟩ := qtk_ok h'
      exact ⟨by rw [e1, List.reverse_append]; rfl, by rw [List.length_append, e2]; rfl⟩
    · cases h
def qcat (r : List Value) : Nat := (r.map (fun v => v.category)).sum
def qco (j : Nat) : Nat := (qMq j).1
def qnl (j : Nat) : Nat := (qMq j).2.2.2.1
def qrt (j : Nat) : Option FieldType := (qMq j).2.2.2.2
def qkd (j : Nat) : Nat := match qMk[j]? with
  | some q => q.1
  | none => 9
def qisI (j : Nat) : Bool := Nat.beq (qkd j) 2
/-- a return -/
def qre (j : Nat) (ins : Instr) (len : Nat) (st : List Value) : Option (Option Value) :=
  match ins with
  | .ireturn => match len, st, qrt j with
    | 1, [.int x], some .int => some (some (.int x))
    | 1, [.int x], some .boolean => bif x == 0 || x == 1 then some (some (.int x)) else none
    | 1, [.int x], some .byte => bif x.toInt8.toInt32 == x then some (some (.int x)) else none
    | 1, [.int x], some .char => bif x.toUInt32.toUInt16.toUInt32.toInt32 == x then some (some (.int x)) else none
    | _, _, _ => none
  | .lreturn => match len, st, qrt j with
    | 1, [.long x], some .long => some (some (.long x))
    | _, _, _ => none
  | .areturn => match len, st, qrt j with
    | 1, [.ref x], some (.object _) => some (some (.ref x))
    | 1, [.null], some (.object _) => some (some .null)
    | _, _, _ => none
  | .return_ => match len, st, qrt j with
    | 1, [], none => some none
    | _, _, _ => none
  | _ => none
/-- the object by which k is called is of its class -/
def qrc (σ : qH) (i k : Nat) : Bool := bif Nat.blt i qnE then Nat.beq (qco k) 11 && (match qtn i with
    | some _ => true
    | none => false)
  else (match σ[i]? with
    | some (.inl (ci, _)) => Nat.beq ci (qco k)
    | _ => false)
/-- a call: a method with its arguments, or what the stack is behind it -/
def qca (j : Nat) (ins : Instr) (len : Nat) (st : List Value) (σ : qH) : Option ((Nat × List Value × List Value) ⊕ (List Value × qH)) :=
  match ins with
  | .invokevirtual idx => match len, qlk (qmL.getD (qco j) []) idx with
    | 3, some ((0, k, n), _) => match qtk n st with
      | some (as, .ref i :: r) => bif qrc σ i k && (Nat.ble (qcat r) 8 && (Nat.beq (qkd k) 0 && Nat.ble (lg_sl (.ref i :: as)).length (qnl k))) then some (.inl (k, .ref i :: as, r)) else none
      | _ => none
    | _, _ => none
  | .invokestatic idx => match len, qlk (qmL.getD (qco j) []) idx with
    | 3, some ((1, k, n), _) => match qtk n st with
      | some (as, r) => bif Nat.ble (qcat r) 8 && (Nat.beq (qkd k) 1 && Nat.ble (lg_sl as).length (qnl k)) then some (.inl (k, as, r)) else none
      | _ => none
    | 3, some ((3, k, n), _) => match qtk n st with
      | some (as, r) => bif Nat.ble (qcat r) 8 && (Nat.beq (qkd k) 1 && Nat.ble (lg_sl as).length (qnl k)) then some (.inl (k, as, r)) else none
      | _ => none
    | 3, some ((11, _, _), _) => match st with
      | .int y :: .int x :: r => bif Nat.ble (qcat r) 8 then some (.inr (.int (if x < y then y else x) :: r, σ)) else none
      | _ => none
    | 3, some ((8, _, _), _) => match st with
      | .int n :: .int dp :: .ref k :: .int sp :: .ref i :: r => match σ[i]?, σ[k]? with
        | some (.inr (.inl (1, la))), some (.inr (.inl (1, lb))) => bif Nat.ble (qcat r) 8 && (!(decide (sp < 0)) && (!(decide (dp < 0)) && (!(decide (n < 0)) && (Nat.ble (sp.toNatClampNeg + n.toNatClampNeg) la.length && (Nat.ble (dp.toNatClampNeg + n.toNatClampNeg) lb.length && la.all qisb))))) then some (.inr (r, σ.set k (.inr (.inl (1, qcp la lb sp.toNatClampNeg dp.toNatClampNeg n.toNatClampNeg))))) else none
        | _, _ => none
      | _ => none
    | _, _ => none
  | .invokespecial idx => match len, qlk (qmL.getD (qco j) []) idx with
    | 3, some ((2, k, n), _) => match qtk n st with
      | some (as, .ref i :: r) => bif Nat.ble (qcat r) 8 && (Nat.beq (qkd k) 2 && Nat.ble (lg_sl (.ref i :: as)).length (qnl k)) then some (.inl (k, .ref i :: as, r)) else none
      | _ => none
    | 3, some ((4, k, n), _) => match qtk n st with
      | some (as, .ref i :: r) => bif Nat.ble (qcat r) 8 && (Nat.beq (qkd k) 2 && Nat.ble (lg_sl (.ref i :: as)).length (qnl k)) then some (.inl (k, .ref i :: as, r)) else none
      | _ => none
    | 3, some ((5, _, _), _) => match st with
      | .ref _ :: r => bif Nat.ble (qcat r) 8 then some (.inr (r, σ)) else none
      | _ => none
    | _, _ => none
  | _ => none
/-- the run: fuel, depth, method, place, locals, stack, cells -/
def exe (ξ : Nat → Option (Nat × List Int32)) : Nat → Nat → Nat → Nat → qLV → List Value → qH → Option (Option Value × qH)
  | 0, _, _, _, _, _, _ => none
  | n + 1, d, j, pc, lv, st, σ =>
    match qfe j pc with
    | none => none
    | some (ins, len) =>
      match qsim (qnl j) ins len lv st with
      | some (lv', st') => exe ξ n d j (pc + len) lv' st' σ
      | none =>
        match qjmp ins len pc st with
        | some (pc', st') => exe ξ n d j pc' lv st' σ
        | none =>
          match qrd ξ (qco j) ins len st σ with
          | some st' => exe ξ n d j (pc + len) lv st' σ
          | none =>
            match qwr (qisI j) (qco j) ins len st σ with
            | some (st', σ') => exe ξ n d j (pc + len) lv st' σ'
            | none =>
              match qal (qco j) ins len st with
              | some (st', c1) => exe ξ n d j (pc + len) lv (.ref σ.length :: st') (σ ++ [c1])
              | none =>
                match qre j ins len st with
                | some v => some (v, σ)
                | none =>
                  match d with
                  | 0 => none
                  | d' + 1 =>
                    match qca j ins len st σ with
                    | some (.inl (k, as, r)) =>
                      (match exe ξ n d' k 0 (lv_args 0 as) [] σ with
                      | some (v, σ1) => exe ξ n (d' + 1) j (pc + 3) lv (v.toList ++ r) σ1
                      | none => none)
                    | some (.inr (r, σ1)) => exe ξ n (d' + 1) j (pc + 3) lv r σ1
                    | none => none
theorem qca_sz {j : Nat} {ins : Instr} {len : Nat} {st r : List Value} {σ σ1 : qH} (h : qca j ins len st σ = some (.inr (r, σ1))) : σ1.length = σ.length ∧ qsz σ1 = qsz σ := by
  unfold qca at h
  split at h
  · split at h
    · split at h
      · obtain ⟨e1, e2⟩ := qcd h
        cases e2
      · cases h
    · cases h
  · split at h
    · split at h
      · obtain ⟨e1, e2⟩ := qcd h
        cases e2
      · cases h
    · split at h
      · obtain ⟨e1, e2⟩ := qcd h
        cases e2
      · cases h
    · split at h
      · obtain ⟨e1, e2⟩ := qcd h
        cases e2
        exact ⟨rfl, rfl⟩
      · cases h
    · split at h
      · split at h
        · rename_i hk
          obtain ⟨e1, e2⟩ := qcd h
          cases e2
          simp only [Bool.and_eq_true] at e1
          obtain ⟨-, -, -, -, g1, g2, -⟩ := e1
          exact ⟨List.length_set, qsz_set hk (qcp_len (Nat.le_of_ble_eq_true g1) (Nat.le_of_ble_eq_true g2))⟩
        · cases h
      · cases h
    · cases h
  · split at h
    · split at h
      · obtain ⟨e1, e2⟩ := qcd h
        cases e2
      · cases h
    · split at h
      · obtain ⟨e1, e2⟩ := qcd h
        cases e2
      · cases h
    · split at h
      · obtain ⟨e1, e2⟩ := qcd h
        cases e2
        exact ⟨rfl, rfl⟩
      · cases h
    · cases h
  · cases h
theorem exe_mono (ξ : Nat → Option (Nat × List Int32)) : ∀ (n d j pc : Nat) (lv : qLV) (st : List Value) (σ : qH) (v : Option Value) (σ' : qH), exe ξ n d j pc lv st σ = some (v, σ') → σ.length ≤ σ'.length ∧ qsz σ ≤ qsz σ' := by
  intro n
  induction n with
  | zero => intro d j pc lv st σ v σ' h; cases h
  | succ n ih =>
    intro d j pc lv st σ v σ' h
    unfold exe at h
    split at h
    · cases h
    · split at h
      · exact ih _ _ _ _ _ _ _ _ h
      · split at h
        · exact ih _ _ _ _ _ _ _ _ h
        · split at h
          · exact ih _ _ _ _ _ _ _ _ h
          · split at h
            · rename_i hw
              obtain ⟨h1, h2⟩ := qwr_sz hw
              have := ih _ _ _ _ _ _ _ _ h
              omega
            · split at h
              · have h9 := ih _ _ _ _ _ _ _ _ h
                rw [qsz_push, List.length_append] at h9
                simp only [List.length_cons, List.length_nil] at h9
                omega
              · split at h
                · cases h
                  exact ⟨Nat.le_refl _, Nat.le_refl _⟩
                · split at h
                  · cases h
                  · split at h
                    · split at h
                      · rename_i h1
                        have h2 := ih _ _ _ _ _ _ _ _ h1
                        have h3 := ih _ _ _ _ _ _ _ _ h
                        omega
                      · cases h
                    · rename_i hq
                      have h2 := qca_sz hq
                      have h3 := ih _ _ _ _ _ _ _ _ h
                      omega
                    · cases h
