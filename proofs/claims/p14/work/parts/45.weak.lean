/-! A run that ends so with some locals ends so with more of them. -/
def lvR (lv lv' : qLV) : Prop := ∀ (k : Nat) (v : Value), qlg lv k = some v → qlg lv' k = some v
theorem qlg_app {lv ex : qLV} {k : Nat} {v : Value} (h : qlg lv k = some v) : qlg (lv ++ ex) k = some v := by
  induction lv with
  | nil => cases h
  | cons x l ih =>
    obtain ⟨i, w⟩ := x
    simp only [List.cons_append]
    unfold qlg at h ⊢
    cases hb : Nat.beq i k with
    | true => rw [hb] at h; exact h
    | false => rw [hb] at h; exact ih h
theorem qlg_ins {l : qLV} {i k : Nat} {v : Value} (hn : ∀ x ∈ l, x.1 ≠ i) : qlg (qins (i, v) l) k = if k = i then some v else qlg l k := by
  induction l with
  | nil =>
    show qlg [(i, v)] k = _
    unfold qlg
    by_cases h : k = i
    · subst h; rw [if_pos rfl, Nat.beq_refl]; rfl
    · rw [if_neg h]
      cases hb : Nat.beq i k with
      | true => exact absurd (Nat.eq_of_beq_eq_true hb).symm h
      | false => rfl
  | cons y l ih =>
    obtain ⟨i0, w⟩ := y
    have ih := ih (fun x hx => hn x (List.mem_cons_of_mem _ hx))
    have h0 : i0 ≠ i := hn (i0, w) List.mem_cons_self
    unfold qins
    cases hb : Nat.blt i i0 with
    | true =>
      simp only [cond_true]
      show qlg ((i, v) :: (i0, w) :: l) k = _
      rw [qlg]
      by_cases h : k = i
      · subst h; rw [if_pos rfl, Nat.beq_refl]; rfl
      · rw [if_neg h]
        cases hb2 : Nat.beq i k with
        | true => exact absurd (Nat.eq_of_beq_eq_true hb2).symm h
        | false => rfl
    | false =>
      simp only [cond_false]
      rw [qlg, ih]
      by_cases h : k = i
      · subst h
        rw [if_pos rfl, if_pos rfl]
        cases hb2 : Nat.beq i0 k with
        | true => exact absurd (Nat.eq_of_beq_eq_true hb2) h0
        | false => rfl
      · rw [if_neg h, if_neg h]
        rfl
theorem qlg_fil {p : Nat × Value → Bool} {k : Nat} {v : Value} : ∀ {l : qLV}, (∀ w, (k, w) ∈ l → qlg l k = some v → p (k, v) = true) → qlg l k = some v → qlg (l.filter p) k = some v
  | [], _, h => by cases h
  | (i, w) :: l, hp, h => by
    have h0 := h
    unfold qlg at h
    cases hb : Nat.beq i k with
    | true =>
      rw [hb] at h
      have e1 : i = k := Nat.eq_of_beq_eq_true hb
      have e2 : w = v := Option.some.inj h
      subst e1; subst e2
      rw [List.filter_cons_of_pos (hp w List.mem_cons_self h0)]
      unfold qlg
      rw [Nat.beq_refl]
      rfl
    | false =>
      rw [hb] at h
      have ih := qlg_fil (l := l) (p := p) (fun w9 hw9 h9 => hp w9 (List.mem_cons_of_mem _ hw9) h0) h
      by_cases hq : p (i, w) = true
      · rw [List.filter_cons_of_pos hq]
        unfold qlg
        rw [hb]
        exact ih
      · rw [List.filter_cons_of_neg hq]
        exact ih
theorem qlg_filn {p : Nat × Value → Bool} {k : Nat} {v : Value} : ∀ {l : qLV}, qlg (l.filter p) k = some v → (k, v) ∈ l ∧ p (k, v) = true := fun {l} h => by
  have h1 := qlg_mem h
  exact List.mem_filter.mp h1
/-- locals whose numbers stand once -/
def lvN (lv : qLV) : Prop := (lv.map Prod.fst).Nodup
theorem lvN_get {lv : qLV} (h : lvN lv) {k : Nat} {v : Value} (hm : (k, v) ∈ lv) : qlg lv k = some v := by
  induction lv with
  | nil => cases hm
  | cons x l ih =>
    obtain ⟨i, w⟩ := x
    unfold lvN at h
    rw [List.map_cons, List.nodup_cons] at h
    unfold qlg
    rcases List.mem_cons.mp hm with e | hm
    · cases e; rw [Nat.beq_refl]; rfl
    · cases hb : Nat.beq i k with
      | true =>
        have e1 : i = k := Nat.eq_of_beq_eq_true hb
        subst e1
        exact absurd (List.mem_map.mpr ⟨(i, v), hm, rfl⟩) h.1
      | false => exact ih h.2 hm
theorem lvN_fil {lv : qLV} {p : Nat × Value → Bool} (h : lvN lv) : lvN (lv.filter p) := by
  unfold lvN at *
  exact List.Sublist.nodup (List.Sublist.map _ List.filter_sublist) h
theorem lvN_ins {l : qLV} {i : Nat} {v : Value} (h : lvN l) (hn : ∀ x ∈ l, x.1 ≠ i) : lvN (qins (i, v) l) := by
  have hp : (qins (i, v) l).Perm ((i, v) :: l) := by
    clear h hn
    induction l with
    | nil => exact List.Perm.refl _
    | cons y l ih =>
      unfold qins
      cases Nat.blt (i, v).1 y.1 with
      | true => exact List.Perm.refl _
      | false => exact (List.Perm.cons y ih).trans (List.Perm.swap _ _ _)
  unfold lvN
  rw [(hp.map Prod.fst).nodup_iff, List.map_cons, List.nodup_cons]
  refine ⟨fun hm => ?_, h⟩
  obtain ⟨x, hx, e⟩ := List.mem_map.mp hm
  exact hn x hx e
theorem fil1_ne {l : qLV} {i : Nat} : ∀ x ∈ l.filter (fun q => !(q.1 == i) && !(q.1 + 1 == i && q.2.category == 2)), x.1 ≠ i := fun x hx e => by
  have h := (List.mem_filter.mp hx).2
  simp [e] at h
theorem fil2_ne {l : qLV} {i : Nat} : ∀ x ∈ l.filter (fun q => !(q.1 == i) && (!(q.1 == i + 1) && !(q.1 + 1 == i && q.2.category == 2))), x.1 ≠ i := fun x hx e => by
  have h := (List.mem_filter.mp hx).2
  simp [e] at h
theorem lvR_1 {lv lv' : qLV} (hN : lvN lv) (h : lvR lv lv') (i : Nat) (v : Value) : lvR (qls1 lv i v) (qls1 lv' i v) ∧ lvN (qls1 lv i v) := by
  refine ⟨fun k w hk => ?_, lvN_ins (lvN_fil hN) fil1_ne⟩
  unfold qls1 at hk ⊢
  rw [qlg_ins fil1_ne] at hk ⊢
  by_cases e : k = i
  · rw [if_pos e] at hk ⊢; exact hk
  · rw [if_neg e] at hk ⊢
    obtain ⟨h1, h2⟩ := qlg_filn hk
    exact qlg_fil (fun _ _ _ => h2) (h k w (lvN_get hN h1))
theorem lvR_2 {lv lv' : qLV} (hN : lvN lv) (h : lvR lv lv') (i : Nat) (v : Value) : lvR (qls2 lv i v) (qls2 lv' i v) ∧ lvN (qls2 lv i v) := by
  refine ⟨fun k w hk => ?_, lvN_ins (lvN_fil hN) fil2_ne⟩
  unfold qls2 at hk ⊢
  rw [qlg_ins fil2_ne] at hk ⊢
  by_cases e : k = i
  · rw [if_pos e] at hk ⊢; exact hk
  · rw [if_neg e] at hk ⊢
    obtain ⟨h1, h2⟩ := qlg_filn hk
    exact qlg_fil (fun _ _ _ => h2) (h k w (lvN_get hN h1))
section
variable {ξ : Nat → Option (Nat × List Int32)}
set_option maxHeartbeats 4000000 in
theorem qsim_weak {nL len : Nat} {ins : Instr} {lv lv' lv1 : qLV} {st st1 : List Value} (hN : lvN lv) (hR : lvR lv lv') (h : qsim nL ins len lv st = some (lv1, st1)) : ∃ lv2, qsim nL ins len lv' st = some (lv2, st1) ∧ lvR lv1 lv2 ∧ lvN lv1 := by
  unfold qsim at h ⊢
  split at h
  all_goals first
    | (obtain ⟨e1, e2⟩ := qcd h; cases e2; exact ⟨lv', by rw [e1]; rfl, hR, hN⟩)
    | (split at h
       all_goals first
        | (cases h; exact ⟨lv', rfl, hR, hN⟩)
        | (cases h; rename_i hq; exact ⟨lv', by simp only [hR _ _ hq], hR, hN⟩)
        | (obtain ⟨e1, e2⟩ := qcd h; cases e2; exact ⟨_, by rw [e1]; rfl, lvR_1 hN hR _ _⟩)
        | (obtain ⟨e1, e2⟩ := qcd h; cases e2; exact ⟨_, by rw [e1]; rfl, lvR_2 hN hR _ _⟩)
        | (obtain ⟨e1, e2⟩ := qcd h; cases e2; rename_i hq; exact ⟨_, by simp only [hR _ _ hq, e1, cond_true], lvR_1 hN hR _ _⟩)
        | (obtain ⟨e1, e2⟩ := qcd h; cases e2; exact ⟨lv', by rw [e1]; rfl, hR, hN⟩)
        | cases h)
    | cases h
/-- an instruction of locals and stack is none of the others -/
theorem qsim_alone {nL len pc j co : Nat} {ins : Instr} {lv lv' : qLV} {st : List Value} {σ : qH} {isI : Bool} (h : qsim nL ins len lv st = none) : qsim nL ins len lv' st = none ∨ (qjmp ins len pc st = none ∧ qrd ξ co ins len st σ = none ∧ qwr isI co ins len st σ = none ∧ qal co ins len st = none ∧ qre j ins len st = none ∧ qca j ins len st σ = none) := by
  cases ins <;> first
    | exact Or.inl h
    | exact Or.inr ⟨rfl, rfl, rfl, rfl, rfl, rfl⟩
theorem exe_weak : ∀ (n d j pc : Nat) (lv lv' : qLV) (st : List Value) (σ : qH) (o : Option Value × qH), lvN lv → lvR lv lv' → exe ξ n d j pc lv st σ = some o → exe ξ n d j pc lv' st σ = some o := by
  intro n
  induction n with
  | zero => intro d j pc lv lv' st σ o _ _ h; cases h
  | succ n ih =>
    intro d j pc lv lv' st σ o hN hR h
    unfold exe at h
    split at h
    · cases h
    · rename_i hf
      split at h
      · rename_i h0
        obtain ⟨lv2, e, hR2, hN2⟩ := qsim_weak hN hR h0
        rw [ex_sim hf e]
        exact ih _ _ _ _ _ _ _ _ hN2 hR2 h
      · rename_i h0
        rcases qsim_alone (ξ := ξ) (pc := pc) (j := j) (co := qco j) (lv' := lv') (σ := σ) (isI := qisI j) h0 with k0 | ⟨k1, k2, k3, k4, k5, k6⟩
        · split at h
          · rename_i h1
            rw [ex_jmp hf k0 h1]; exact ih _ _ _ _ _ _ _ _ hN hR h
          · rename_i h1
            split at h
            · rename_i h2
              rw [ex_rd hf k0 h1 h2]; exact ih _ _ _ _ _ _ _ _ hN hR h
            · rename_i h2
              split at h
              · rename_i h3
                rw [ex_wr hf k0 h1 h2 h3]; exact ih _ _ _ _ _ _ _ _ hN hR h
              · rename_i h3
                split at h
                · rename_i h4
                  rw [ex_al hf k0 h1 h2 h3 h4]; exact ih _ _ _ _ _ _ _ _ hN hR h
                · rename_i h4
                  split at h
                  · rename_i h5
                    rw [ex_re hf k0 h1 h2 h3 h4 h5]; exact h
                  · rename_i h5
                    split at h
                    · cases h
                    · split at h
                      · rename_i h6
                        split at h
                        · rename_i h7
                          rw [ex_ca hf k0 h1 h2 h3 h4 h5 h6 h7]
                          exact ih _ _ _ _ _ _ _ _ hN hR h
                        · cases h
                      · rename_i h6
                        rw [ex_in hf k0 h1 h2 h3 h4 h5 h6]; exact ih _ _ _ _ _ _ _ _ hN hR h
                      · cases h
        · simp only [k1, k2, k3, k4, k5, k6] at h
          split at h <;> cases h
end
