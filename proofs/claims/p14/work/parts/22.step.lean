/-! One step of a body; runs that may end in a throw. -/
def run1 (ξ : Nat → Option (Nat × List Int32)) (n d j pc : Nat) (lv : qLV) (st : List Value) (σ : qH) : Option (Nat × qLV × List Value × qH) :=
  match qfe j pc with
  | none => none
  | some (ins, len) =>
    match qsim (qnl j) ins len lv st with
    | some (lv', st') => some (pc + len, lv', st', σ)
    | none =>
      match qjmp ins len pc st with
      | some (pc', st') => some (pc', lv, st', σ)
      | none =>
        match qrd ξ (qco j) ins len st σ with
        | some st' => some (pc + len, lv, st', σ)
        | none =>
          match qwr (qisI j) (qco j) ins len st σ with
          | some (st', σ') => some (pc + len, lv, st', σ')
          | none =>
            match qal (qco j) ins len st with
            | some (st', c1) => some (pc + len, lv, .ref σ.length :: st', σ ++ [c1])
            | none =>
              match d with
              | 0 => none
              | d' + 1 =>
                match qca j ins len st σ with
                | some (.inl (k, as, r)) =>
                  (match exe ξ n d' k 0 (lv_args 0 as) [] σ with
                  | some (v, σ1) => some (pc + 3, lv, v.toList ++ r, σ1)
                  | none => none)
                | some (.inr (r, σ1)) => some (pc + 3, lv, r, σ1)
                | none => none
theorem run1_mono {ξ : Nat → Option (Nat × List Int32)} {n d j pc pc' : Nat} {lv lv' : qLV} {st st' : List Value} {σ σ' : qH} (h : run1 ξ n d j pc lv st σ = some (pc', lv', st', σ')) : σ.length ≤ σ'.length ∧ qsz σ ≤ qsz σ' := by
  unfold run1 at h
  split at h
  · cases h
  · split at h
    · cases h; exact ⟨Nat.le_refl _, Nat.le_refl _⟩
    · split at h
      · cases h; exact ⟨Nat.le_refl _, Nat.le_refl _⟩
      · split at h
        · cases h; exact ⟨Nat.le_refl _, Nat.le_refl _⟩
        · split at h
          · rename_i hw
            cases h
            have := qwr_sz hw
            omega
          · split at h
            · cases h
              rw [qsz_push, List.length_append]
              omega
            · split at h
              · cases h
              · split at h
                · split at h
                  · rename_i h1
                    cases h
                    exact exe_mono ξ _ _ _ _ _ _ _ _ _ h1
                  · cases h
                · rename_i hq
                  cases h
                  have := qca_sz hq
                  omega
                · cases h
set_option maxHeartbeats 4000000 in
theorem run1_ok {ξ : Nat → Option (Nat × List Int32)} {E : qEv} {n d j pc pc' : Nat} {lv lv' : qLV} {st st' : List Value} {σ σ' : qH} (hn : qnE ≤ σ.length) (h : run1 ξ n d j pc lv st σ = some (pc', lv', st', σ'))
    {p : Program} {l : Launch} {e : Env} {R : Room} {s : State} {m : MethodId} {args : Array Value} {below : List Frame} {meth : Method} {c : Code} {H : Heap} {locs : List Loc} {cells slots : Nat} {Q : State → Prop} {ls : Array Slot}
    (X : qX ξ E (qco j) (qMq j).2.2.1 (qnl j) p s m args meth c) (hI : qisI j = true → meth.name = "<init>") (hR : qR E σ H) (hS : va_S (qA E) s.heap H locs) (hl : lv_has ls (qnl j) (qm (qr E) lv)) (hfr : d ≤ R.frames) (hlo : 60 * d ≤ R.locals) (hc : cells + (σ'.length - σ.length) ≤ R.cells) (hs : slots + (qsz σ' - qsz σ) ≤ R.slots)
    (kk : ∀ (H1 : Heap) (locs1 : List Loc) (ls1 : Array Slot), qR E σ' H1 → va_S (qA E) s.heap H1 locs1 → lv_has ls1 (qnl j) (qm (qr E) lv') → W p l e R s m args below meth c H1 locs1 (cells + (σ'.length - σ.length)) (slots + (qsz σ' - qsz σ)) Q (F0 m pc' ls1 (st'.map (qv (qr E))))) : W p l e R s m args below meth c H locs cells slots Q (F0 m pc ls (st.map (qv (qr E)))) := by
  unfold run1 at h
  split at h
  · cases h
  · rename_i ins len hfe
    have hd := qfe_ok hfe
    split at h
    · rename_i hq
      cases h
      rw [Nat.sub_self, Nat.sub_self] at kk
      exact qsim_ok X.1 X.2.1 hd hq hl (fun ls' hl' => kk H locs ls' hR hS hl')
    · split at h
      · rename_i hq
        cases h
        rw [Nat.sub_self, Nat.sub_self] at kk
        exact qjmp_ok X.1 X.2.1 hd hq (kk H locs ls hR hS hl)
      · split at h
        · rename_i hq
          cases h
          rw [Nat.sub_self, Nat.sub_self] at kk
          exact qrd_ok X hd hq hR hS (kk H locs ls hR hS hl)
        · split at h
          · rename_i hq
            cases h
            obtain ⟨z1, z2⟩ := qwr_sz hq
            rw [z1, z2, Nat.sub_self, Nat.sub_self] at kk
            exact qwr_ok X hI hd hq hR hS (fun H1 locs1 hR1 hS1 => kk H1 locs1 ls hR1 hS1 hl)
          · split at h
            · rename_i st9 c1 hq
              cases h
              have z1 : List.length (σ ++ [c1]) - List.length σ = 1 := by rw [List.length_append]; simp
              have z2 : qsz (σ ++ [c1]) - qsz σ = qcs c1 := by rw [qsz_push]; omega
              rw [z1] at hc kk
              rw [z2] at hs kk
              exact qal_ok X hd hq hR hn hS hc hs (fun H1 hR1 hS1 => kk H1 locs ls hR1 hS1 hl)
            · split at h
              · cases h
              · split at h
                · rename_i k as r hq
                  split at h
                  · rename_i v1 σ1 h1
                    cases h
                    have m1 := exe_mono ξ _ _ _ _ _ _ _ _ _ h1
                    obtain ⟨hk, hsl⟩ := qca_sl hq
                    have hM := qMet_of hk (exe_ok ξ E _ _ _ _ _ _ _ _ _ hn h1) hsl m1.1 m1.2 l
                    exact q_call X hd hq hl.1 hM hR hS hfr hlo hc hs (fun H1 locs1 hR1 hS1 => kk H1 locs1 ls hR1 hS1 hl)
                  · cases h
                · rename_i r σ1 hq
                  cases h
                  obtain ⟨z1, z2⟩ := qca_sz hq
                  rw [z1, z2, Nat.sub_self, Nat.sub_self] at kk
                  exact q_intr X hd hq hl.1 (by omega) (by omega) (by omega) (by omega) hR hS (fun H1 locs1 hR1 hS1 => kk H1 locs1 ls hR1 hS1 hl)
                · cases h
/-- is there a throw at this place, and of what -/
def qthr (j pc : Nat) : Option Nat := match qfe j pc with
  | some (.new ik, 3) => match qfe j (pc + 3), qfe j (pc + 4), qfe j (pc + 6), qfe j (pc + 9) with
    | some (.dup, 1), some (.ldc ist, 2), some (.invokespecial ic, 3), some (.athrow, 1) =>
      bif Nat.beq (qco j) 0 && qms.any (fun q => Nat.beq q.1 ist) then
        (bif qxi3 0 == some (ik, ic) then some 0 else bif qxi3 1 == some (ik, ic) then some 1 else bif qxi3 2 == some (ik, ic) then some 2 else none)
      else none
    | _, _, _, _ => none
  | _ => none
/-- a run that may end in a throw (.inr: of what) -/
def exx (ξ : Nat → Option (Nat × List Int32)) : Nat → Nat → Nat → Nat → qLV → List Value → qH → Option ((Option Value ⊕ Nat) × qH)
  | 0, _, _, _, _, _, _ => none
  | n + 1, d, j, pc, lv, st, σ =>
    match qthr j pc with
    | some e => bif Nat.ble 6 d && Nat.ble (qcat st) 8 then some (.inr e, σ ++ [.inr (.inr (.inr (.inr (.inr 6))))]) else none
    | none =>
      match run1 ξ n d j pc lv st σ with
      | some (pc', lv', st', σ') => exx ξ n d j pc' lv' st' σ'
      | none =>
        match qfe j pc with
        | none => none
        | some (ins, len) =>
          match qre j ins len st with
          | some v => some (.inl v, σ)
          | none => none
