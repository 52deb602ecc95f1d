/-! Byte arrays hold bytes, in every run; and a run of the law with more locals. -/
def BY (σ : qH) : Prop := ∀ (i : Nat) (li : List Int32), σ[i]? = some (.inr (.inl (1, li))) → li.all qisb = true
theorem BY.set {σ : qH} {i : Nat} {c : qC} (h : BY σ) (hc : ∀ li, c = .inr (.inl (1, li)) → li.all qisb = true) : BY (σ.set i c) := by
  intro k li hk
  by_cases e : i = k
  · subst e
    by_cases hl : i < σ.length
    · rw [List.getElem?_set_self hl] at hk
      exact hc li (Option.some.inj hk)
    · rw [List.getElem?_eq_none (by rw [List.length_set]; omega)] at hk
      cases hk
  · rw [List.getElem?_set_ne e] at hk
    exact h k li hk
theorem BY.push {σ : qH} {c : qC} (h : BY σ) (hc : ∀ li, c = .inr (.inl (1, li)) → li.all qisb = true) : BY (σ ++ [c]) := by
  intro k li hk
  by_cases hl : k < σ.length
  · rw [List.getElem?_append_left hl] at hk
    exact h k li hk
  · rw [List.getElem?_append_right (by omega)] at hk
    have hz : k - σ.length < 1 := (List.getElem?_eq_some_iff.mp hk).1
    have e : k - σ.length = 0 := by omega
    rw [e] at hk
    exact hc li (Option.some.inj hk)
theorem qwr_by {isI : Bool} {co : Nat} {ins : Instr} {len : Nat} {st st' : List Value} {σ σ' : qH} (hB : BY σ) (h : qwr isI co ins len st σ = some (st', σ')) : BY σ' := by
  unfold qwr at h
  split at h
  · split at h
    · split at h
      · obtain ⟨e1, e2⟩ := qcd h
        cases e2
        exact hB.set (fun li e => by cases e)
      · cases h
    · cases h
  · split at h
    · split at h
      · obtain ⟨e1, e2⟩ := qcd h
        cases e2
        exact hB.set (fun li e => by cases e)
      · cases h
    · cases h
  · split at h
    · split at h
      · rename_i hi
        obtain ⟨e1, e2⟩ := qcd h
        cases e2
        exact hB.set (fun li e => by cases e; exact all_set (hB _ _ hi) (qisb_i8 _))
      · cases h
    · cases h
  · split at h
    · split at h
      · obtain ⟨e1, e2⟩ := qcd h
        cases e2
        exact hB.set (fun li e => by cases e)
      · cases h
    · cases h
  · split at h
    · split at h
      · obtain ⟨e1, e2⟩ := qcd h
        cases e2
        exact hB.set (fun li e => by cases e)
      · cases h
    · cases h
  · cases h
theorem qal_by {co : Nat} {ins : Instr} {len : Nat} {st st' : List Value} {c1 : qC} (h : qal co ins len st = some (st', c1)) : ∀ li, c1 = .inr (.inl (1, li)) → li.all qisb = true := by
  intro li e
  subst e
  unfold qal at h
  split at h
  · split at h
    · obtain ⟨e1, e2⟩ := qcd h
      cases e2
    · cases h
  · split at h
    · rw [Bool.cond_eq_ite] at h
      split at h
      · split at h
        · cases h
        · cases h; exact all_rep _
        · cases h
        · cases h
      · cases h
    · cases h
  · split at h
    · obtain ⟨e1, e2⟩ := qcd h
      cases e2
    · cases h
  · cases h
theorem qca_by {j : Nat} {ins : Instr} {len : Nat} {st r : List Value} {σ σ1 : qH} (hB : BY σ) (h : qca j ins len st σ = some (.inr (r, σ1))) : BY σ1 := by
  unfold qca at h
  split at h
  · split at h
    · split at h
      · obtain ⟨e1, e2⟩ := qcd h
        cases e2
      · cases h
    · cases h
  · split at h
    · split at h
      · obtain ⟨e1, e2⟩ := qcd h
        cases e2
      · cases h
    · split at h
      · obtain ⟨e1, e2⟩ := qcd h
        cases e2
      · cases h
    · split at h
      · obtain ⟨e1, e2⟩ := qcd h
        cases e2
        exact hB
      · cases h
    · split at h
      · split at h
        · rename_i ha hb
          obtain ⟨e1, e2⟩ := qcd h
          cases e2
          exact hB.set (fun li e => by cases e; exact all_cp (hB _ _ ha) (hB _ _ hb))
        · cases h
      · cases h
    · cases h
  · split at h
    · split at h
      · obtain ⟨e1, e2⟩ := qcd h
        cases e2
      · cases h
    · split at h
      · obtain ⟨e1, e2⟩ := qcd h
        cases e2
      · cases h
    · split at h
      · obtain ⟨e1, e2⟩ := qcd h
        cases e2
        exact hB
      · cases h
    · cases h
  · cases h
theorem exe_by {ξ : Nat → Option (Nat × List Int32)} : ∀ (n d j pc : Nat) (lv : qLV) (st : List Value) (σ : qH) (v : Option Value) (σ' : qH), BY σ → exe ξ n d j pc lv st σ = some (v, σ') → BY σ' := by
  intro n
  induction n with
  | zero => intro d j pc lv st σ v σ' _ h; cases h
  | succ n ih =>
    intro d j pc lv st σ v σ' hB h
    unfold exe at h
    split at h
    · cases h
    · split at h
      · exact ih _ _ _ _ _ _ _ _ hB h
      · split at h
        · exact ih _ _ _ _ _ _ _ _ hB h
        · split at h
          · exact ih _ _ _ _ _ _ _ _ hB h
          · split at h
            · rename_i h3
              exact ih _ _ _ _ _ _ _ _ (qwr_by hB h3) h
            · split at h
              · rename_i h4
                exact ih _ _ _ _ _ _ _ _ (hB.push (qal_by h4)) h
              · split at h
                · cases h; exact hB
                · split at h
                  · cases h
                  · split at h
                    · split at h
                      · rename_i h7
                        exact ih _ _ _ _ _ _ _ _ (ih _ _ _ _ _ _ _ _ hB h7) h
                      · cases h
                    · rename_i h6
                      exact ih _ _ _ _ _ _ _ _ (qca_by hB h6) h
                    · cases h
theorem G.by {ξ : Nat → Option (Nat × List Int32)} {d j pc : Nat} {lv : qLV} {st : List Value} {σ : qH} {v : Option Value} {σ' : qH} (g : G ξ d j pc lv st σ (v, σ')) (h : BY σ) : BY σ' := by
  obtain ⟨n, g⟩ := g
  exact exe_by n d j pc lv st σ v σ' h g
section
variable {ξ : Nat → Option (Nat × List Int32)}
theorem run1_weak {n d j pc pc' : Nat} {lv lv' lv1 : qLV} {st st1 : List Value} {σ σ1 : qH} (hN : lvN lv) (hR : lvR lv lv') (h : run1 ξ n d j pc lv st σ = some (pc', lv1, st1, σ1)) : ∃ lv2, run1 ξ n d j pc lv' st σ = some (pc', lv2, st1, σ1) ∧ lvR lv1 lv2 ∧ lvN lv1 := by
  unfold run1 at h ⊢
  split at h
  · cases h
  · rename_i hf
    split at h
    · rename_i h0
      obtain ⟨lv2, e, hR2, hN2⟩ := qsim_weak hN hR h0
      cases h
      exact ⟨lv2, by simp only [e], hR2, hN2⟩
    · rename_i h0
      rcases qsim_alone (ξ := ξ) (pc := pc) (j := j) (co := qco j) (lv' := lv') (σ := σ) (isI := qisI j) h0 with k0 | ⟨k1, k2, k3, k4, k5, k6⟩
      · simp only [k0]
        split at h
        · rename_i h1
          cases h
          exact ⟨lv', rfl, hR, hN⟩
        · rename_i h1
          split at h
          · rename_i h2
            cases h
            exact ⟨lv', rfl, hR, hN⟩
          · rename_i h2
            split at h
            · rename_i h3
              cases h
              exact ⟨lv', rfl, hR, hN⟩
            · rename_i h3
              split at h
              · rename_i h4
                cases h
                exact ⟨lv', rfl, hR, hN⟩
              · rename_i h4
                split at h
                · cases h
                · split at h
                  · rename_i h6
                    split at h
                    · rename_i h7
                      cases h
                      exact ⟨lv', rfl, hR, hN⟩
                    · cases h
                  · rename_i h6
                    cases h
                    exact ⟨lv', rfl, hR, hN⟩
                  · cases h
      · simp only [k1, k2, k3, k4, k6] at h
        split at h <;> cases h
theorem qhc_alone {nL len pc j : Nat} {ins : Instr} {lv lv' : qLV} {st : List Value} {σ : qH} (h : qsim nL ins len lv st = none) : qsim nL ins len lv' st = none ∨ (qjmp ins len pc st = none ∧ qre j ins len st = none ∧ qhc j ins len st = none ∧ ∀ idx, ins ≠ .invokevirtual idx) := by
  cases ins <;> first
    | exact Or.inl h
    | exact Or.inr ⟨rfl, rfl, rfl, fun _ e => by cases e⟩
theorem run1_none {n d j pc : Nat} {lv lv' : qLV} {st : List Value} {σ : qH} (h : run1 ξ n d j pc lv st σ = none) : run1 ξ n d j pc lv' st σ = none ∨ ∃ ins len, qfe j pc = some (ins, len) ∧ qre j ins len st = none ∧ qhc j ins len st = none ∧ ∀ idx, ins ≠ .invokevirtual idx := by
  unfold run1 at h ⊢
  split at h
  · exact Or.inl rfl
  · rename_i ins len hf
    split at h
    · cases h
    · rename_i h0
      rcases qhc_alone (pc := pc) (j := j) (lv' := lv') (σ := σ) h0 with k0 | ⟨-, k1, k2, k3⟩
      · left
        simp only [k0]
        split at h
        · cases h
        · rename_i h1
          try simp only [h1]
          split at h
          · cases h
          · rename_i h2
            try simp only [h2]
            split at h
            · cases h
            · rename_i h3
              try simp only [h3]
              split at h
              · cases h
              · rename_i h4
                try simp only [h4]
                split at h
                · rfl
                · split at h
                  · rename_i h6
                    try simp only [h6]
                    split at h
                    · cases h
                    · rename_i h7
                      try simp only [h7]
                  · cases h
                  · rename_i h6
                    try simp only [h6]
      · exact Or.inr ⟨ins, len, hf, k1, k2, k3⟩
theorem exh_weak : ∀ (n d j pc : Nat) (lv lv' : qLV) (st : List Value) (σ : qH) (o : Option Value × qH), lvN lv → lvR lv lv' → exh ξ n d j pc lv st σ = some o → exh ξ n d j pc lv' st σ = some o := by
  intro n
  induction n with
  | zero => intro d j pc lv lv' st σ o _ _ h; cases h
  | succ n ih =>
    intro d j pc lv lv' st σ o hN hR h
    unfold exh at h
    split at h
    · rename_i h0
      obtain ⟨lv2, e, hR2, hN2⟩ := run1_weak hN hR h0
      rw [exh, e]
      exact ih _ _ _ _ _ _ _ _ hN2 hR2 h
    · rename_i h0
      rcases run1_none (lv' := lv') h0 with e | ⟨ins, len, hf, k1, k2, k3⟩
      · split at h
        · cases h
        · rename_i ins len hf
          split at h
          · rename_i hr
            rw [exh]
            simp only [e, hf, hr]
            exact h
          · rename_i hr
            cases d with
            | zero => cases h
            | succ d' =>
              simp only at h
              split at h
              · rename_i hc
                split at h
                · rename_i h7
                  rw [exh]
                  simp only [e, hf, hr, hc, h7]
                  exact ih _ _ _ _ _ _ _ _ hN hR h
                · cases h
              · rename_i hc
                split at h
                · split at h
                  · rename_i hq
                    split at h
                    · rename_i hx
                      split at h
                      · rename_i hz
                        rw [exh]
                        simp only [e, hf, hr, hc, hq, hx, hz]
                        exact ih _ _ _ _ _ _ _ _ hN hR h
                      · cases h
                    · cases h
                  · cases h
                · cases h
      · simp only [hf, k1, k2] at h
        cases d with
        | zero => cases h
        | succ d' =>
          simp only at h
          first
            | cases h
            | (split at h
               · exact absurd rfl (k3 _)
               · cases h)
end
