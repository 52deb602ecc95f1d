/-! Runs that may throw: they return as the plain ones do, or leave by a throw. -/
theorem qca_re {co j : Nat} {ins : Instr} {len : Nat} {st : List Value} {σ : qH} {o : (Nat × List Value × List Value) ⊕ (List Value × qH)} (h : qca co ins len st σ = some o) : qre j ins len st = none := by
  obtain ⟨i, rfl | rfl | rfl⟩ := qca_len h <;> rfl
theorem run1_exe {ξ : Nat → Option (Nat × List Int32)} {n d j pc pc' : Nat} {lv lv' : qLV} {st st' : List Value} {σ σ' : qH} (h : run1 ξ n d j pc lv st σ = some (pc', lv', st', σ')) : exe ξ (n + 1) d j pc lv st σ = exe ξ n d j pc' lv' st' σ' := by
  unfold run1 at h
  split at h
  · cases h
  · rename_i hf
    split at h
    · rename_i h0
      cases h
      exact ex_sim hf h0
    · rename_i h0
      split at h
      · rename_i h1
        cases h
        exact ex_jmp hf h0 h1
      · rename_i h1
        split at h
        · rename_i h2
          cases h
          exact ex_rd hf h0 h1 h2
        · rename_i h2
          split at h
          · rename_i h3
            cases h
            exact ex_wr hf h0 h1 h2 h3
          · rename_i h3
            split at h
            · rename_i h4
              cases h
              exact ex_al hf h0 h1 h2 h3 h4
            · rename_i h4
              split at h
              · cases h
              · split at h
                · rename_i h6
                  split at h
                  · rename_i h7
                    cases h
                    exact ex_ca hf h0 h1 h2 h3 h4 (qca_re h6) h6 h7
                  · cases h
                · rename_i h6
                  cases h
                  exact ex_in hf h0 h1 h2 h3 h4 (qca_re h6) h6
                · cases h
theorem qre_ins {j : Nat} {ins : Instr} {len : Nat} {st : List Value} {v : Option Value} (h : qre j ins len st = some v) : ins = .ireturn ∨ ins = .lreturn ∨ ins = .areturn ∨ ins = .return_ := by
  unfold qre at h
  split at h
  · exact Or.inl rfl
  · exact Or.inr (Or.inl rfl)
  · exact Or.inr (Or.inr (Or.inl rfl))
  · exact Or.inr (Or.inr (Or.inr rfl))
  · cases h
theorem exx_ret {ξ : Nat → Option (Nat × List Int32)} : ∀ (n d j pc : Nat) (lv : qLV) (st : List Value) (σ : qH) (v : Option Value) (σ' : qH), exx ξ n d j pc lv st σ = some (.inl v, σ') → exe ξ n d j pc lv st σ = some (v, σ') := by
  intro n
  induction n with
  | zero => intro d j pc lv st σ v σ' h; cases h
  | succ n ih =>
    intro d j pc lv st σ v σ' h
    unfold exx at h
    split at h
    · obtain ⟨e1, e2⟩ := qcd h
      cases e2
    · split at h
      · rename_i h1
        rw [run1_exe h1]
        exact ih _ _ _ _ _ _ _ _ h
      · split at h
        · cases h
        · rename_i hf
          split at h
          · rename_i hr
            cases h
            rcases qre_ins hr with rfl | rfl | rfl | rfl <;> exact ex_re hf rfl rfl rfl rfl rfl hr
          · cases h
theorem exx_mono {ξ : Nat → Option (Nat × List Int32)} : ∀ (n d j pc : Nat) (lv : qLV) (st : List Value) (σ : qH) (v : Option Value ⊕ Nat) (σ' : qH), exx ξ n d j pc lv st σ = some (v, σ') → σ.length ≤ σ'.length ∧ qsz σ ≤ qsz σ' := by
  intro n
  induction n with
  | zero => intro d j pc lv st σ v σ' h; cases h
  | succ n ih =>
    intro d j pc lv st σ v σ' h
    unfold exx at h
    split at h
    · obtain ⟨e1, e2⟩ := qcd h
      cases e2
      rw [qsz_push, List.length_append]
      omega
    · split at h
      · rename_i h1
        have a1 := run1_mono h1
        have a2 := ih _ _ _ _ _ _ _ _ h
        omega
      · split at h
        · cases h
        · split at h
          · cases h
            exact ⟨Nat.le_refl _, Nat.le_refl _⟩
          · cases h
theorem qthr_ok {j pc e9 : Nat} (h : qthr j pc = some e9) : qco j = 0 ∧ ∃ ik ic ist tx, qxi3 e9 = some (ik, ic) ∧ (ist, tx) ∈ qms ∧ qfe j pc = some (.new ik, 3) ∧ qfe j (pc + 3) = some (.dup, 1) ∧ qfe j (pc + 4) = some (.ldc ist, 2) ∧ qfe j (pc + 6) = some (.invokespecial ic, 3) ∧ qfe j (pc + 9) = some (.athrow, 1) := by
  unfold qthr at h
  split at h
  · rename_i ik hf
    split at h
    · rename_i ist ic a1 a2 a3 a4
      cases hb : (Nat.beq (qco j) 0 && qms.any (fun q => Nat.beq q.1 ist)) with
      | false => rw [hb] at h; cases h
      | true =>
        rw [hb] at h
        simp only [cond_true] at h
        simp only [Bool.and_eq_true, List.any_eq_true] at hb
        obtain ⟨hb1, ⟨i9, tx⟩, hq1, hq2⟩ := hb
        have e1 := Nat.eq_of_beq_eq_true hq2
        dsimp only at e1
        subst e1
        refine ⟨Nat.eq_of_beq_eq_true hb1, ik, ic, i9, tx, ?_, hq1, hf, a1, a2, a3, a4⟩
        cases h0 : (qxi3 0 == some (ik, ic)) with
        | true =>
          rw [h0] at h
          cases h
          exact beq_iff_eq.mp h0
        | false =>
          rw [h0] at h
          simp only [cond_false] at h
          cases h1 : (qxi3 1 == some (ik, ic)) with
          | true =>
            rw [h1] at h
            cases h
            exact beq_iff_eq.mp h1
          | false =>
            rw [h1] at h
            simp only [cond_false] at h
            cases h2 : (qxi3 2 == some (ik, ic)) with
            | true =>
              rw [h2] at h
              cases h
              exact beq_iff_eq.mp h2
            | false => rw [h2] at h; cases h
    · cases h
  · cases h
set_option maxHeartbeats 4000000 in
/-- a run that throws is the machine's: it leaves by a throw -/
theorem exx_thr (ξ : Nat → Option (Nat × List Int32)) (E : qEv) : ∀ (n d j pc : Nat) (lv : qLV) (st : List Value) (σ : qH) (e9 : Nat) (σ' : qH), qnE ≤ σ.length → exx ξ n d j pc lv st σ = some (.inr e9, σ') →
    ∀ {p : Program} {l : Launch} {e : Env} {R : Room} {s : State} {m : MethodId} {args : Array Value} {below : List Frame} {meth : Method} {c : Code} {H : Heap} {locs : List Loc} {cells slots Mc Ms : Nat} {Q : State → Prop} {ls : Array Slot},
    qX ξ E (qco j) (qMq j).2.2.1 (qnl j) p s m args meth c → (qisI j = true → meth.name = "<init>") → l.stackTraces = false → (∀ (pc9 : Nat), ∀ x ∈ c.exceptionTable.toList, covers x pc9 = false) → qR E σ H → va_S (qA E) s.heap H locs → lv_has ls (qnl j) (qm (qr E) lv) → d ≤ R.frames → 60 * d ≤ R.locals → Mc ≤ R.cells → Ms ≤ R.slots → cells + σ'.length = Mc + σ.length → slots + qsz σ' = Ms + qsz σ →
    (∀ (U : State) (ce : Cell) (a : Nat) (locs1 : List Loc), U.status = .running → Ended U below (.threw a) → s.WarmedH U.vm → s.sameButNew ({ U with vm := s.vm } : State) locs1 Mc Ms → (∀ z ∈ locs1, qA E z.base) → qR E σ' U.heap → qr E (σ'.length - 1) = a → U.heap[a]? = some ce → ce.vm = .none → s.vm.findClass (qxc.getD e9 "") = some ce.cls → va_F (qA E) s U → Q U) →
    W p l e R s m args below meth c H locs cells slots Q (F0 m pc ls (st.map (qv (qr E)))) := by
  intro n
  induction n with
  | zero => intro d j pc lv st σ e9 σ' _ h; cases h
  | succ n ih =>
    intro d j pc lv st σ e9 σ' hn h
    intro p l e R s m args below meth c H locs cells slots Mc Ms Q ls X hI htr hout hR hS hl hfr hlo hRc hRs hc hs hfin
    unfold exx at h
    split at h
    · rename_i e8 ht
      obtain ⟨e1, e2⟩ := qcd h
      cases e2
      simp only [Bool.and_eq_true] at e1
      have b1 := Nat.le_of_ble_eq_true e1.1
      have b2 := Nat.le_of_ble_eq_true e1.2
      obtain ⟨hco, ik, ic, ist, tx, c1, c2, c3, c4, c5, c6, c7⟩ := qthr_ok ht
      rw [hco] at X
      rw [List.length_append, qsz_push] at *
      have z1 : cells + 1 = Mc := by simp only [List.length_cons, List.length_nil] at hc; omega
      have z2 : slots + 6 = Ms := by simp only [qcs] at hs; omega
      refine q_throw X htr c1 c2 (qfe_ok c3) (qfe_ok c4) (qfe_ok c5) (qfe_ok c6) (qfe_ok c7) hR hS hl.1 (hout _) (by omega) (by omega) (by rw [qcat_map]; exact b2) (by omega) (by omega) ?_
      intro U ce u1 u2 u3 u4 u5 u6 u7 u8 u9
      refine hfin U ce H.size locs u1 u2 u3 (by rw [← z1, ← z2]; exact u4) hS.2.2 u5 ?_ u6 u7 u8 u9
      show qr E (σ.length + 1 - 1) = _
      rw [Nat.add_sub_cancel]
      exact hR.top hn
    · split at h
      · rename_i pc' lv' st' σ1 h1
        have a1 := run1_mono h1
        have a2 := exx_mono _ _ _ _ _ _ _ _ _ h
        exact run1_ok hn h1 X hI hR hS hl hfr hlo (by omega) (by omega) (fun H1 locs1 ls1 hR1 hS1 hl1 => ih _ _ _ _ _ _ _ _ (by omega) h X hI htr hout hR1 hS1 hl1 hfr hlo hRc hRs (by omega) (by omega) hfin)
      · split at h
        · cases h
        · split at h
          · cases h
          · cases h
