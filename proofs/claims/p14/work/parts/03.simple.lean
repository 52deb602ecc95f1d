theorem qcd {α : Type} {b : Bool} {x y : α} (h : (bif b then some x else none) = some y) : b = true ∧ x = y := by
  cases b with
  | true => exact ⟨rfl, Option.some.inj h⟩
  | false => cases h
def qm (ρ : Nat → Nat) (lv : qLV) : qLV := lv.map (fun q => (q.1, qv ρ q.2))
theorem qv_cat (ρ : Nat → Nat) (v : Value) : (qv ρ v).category = v.category := by cases v <;> rfl
theorem qlg_mem : ∀ {lv : qLV} {k : Nat} {v : Value}, qlg lv k = some v → (k, v) ∈ lv
  | [], _, _, h => by cases h
  | (i, w) :: l, k, v, h => by
    unfold qlg at h
    cases hb : Nat.beq i k with
    | true =>
      rw [hb] at h
      have e1 : i = k := Nat.eq_of_beq_eq_true hb
      have e2 : w = v := Option.some.inj h
      subst e1; subst e2
      exact List.mem_cons_self
    | false =>
      rw [hb] at h
      exact List.mem_cons_of_mem _ (qlg_mem h)
theorem qlg_at {ρ : Nat → Nat} {ls : Array Slot} {nL : Nat} {lv : qLV} {k : Nat} {v : Value} (hl : lv_has ls nL (qm ρ lv)) (h : qlg lv k = some v) : ls[k]? = some (.val (qv ρ v)) :=
  hl.2.2 (k, qv ρ v) (List.mem_map.mpr ⟨(k, v), qlg_mem h, rfl⟩)
theorem qm_f1 (ρ : Nat → Nat) (i : Nat) (l : qLV) : (qm ρ l).filter (fun q => !(q.1 == i) && !(q.1 + 1 == i && q.2.category == 2)) = qm ρ (l.filter (fun q => !(q.1 == i) && !(q.1 + 1 == i && q.2.category == 2))) := by
  unfold qm
  rw [List.filter_map]
  congr 1
  apply List.filter_congr
  intro q _
  simp [qv_cat]
theorem qm_f2 (ρ : Nat → Nat) (i : Nat) (l : qLV) : (qm ρ l).filter (fun q => !(q.1 == i) && (!(q.1 == i + 1) && !(q.1 + 1 == i && q.2.category == 2))) = qm ρ (l.filter (fun q => !(q.1 == i) && (!(q.1 == i + 1) && !(q.1 + 1 == i && q.2.category == 2)))) := by
  unfold qm
  rw [List.filter_map]
  congr 1
  apply List.filter_congr
  intro q _
  simp [qv_cat]
theorem qins_mem {x y : Nat × Value} : ∀ {l : qLV}, x ∈ qins y l → x = y ∨ x ∈ l
  | [], h => Or.inl (by simpa [qins] using h)
  | z :: l, h => by
    unfold qins at h
    cases hb : Nat.blt y.1 z.1 with
    | true =>
      rw [hb] at h
      simp only [cond_true] at h
      rcases List.mem_cons.mp h with h | h
      · exact Or.inl h
      · exact Or.inr h
    | false =>
      rw [hb] at h
      simp only [cond_false] at h
      rcases List.mem_cons.mp h with h | h
      · exact Or.inr (by rw [h]; exact List.mem_cons_self)
      · rcases qins_mem h with h | h
        · exact Or.inl h
        · exact Or.inr (List.mem_cons_of_mem _ h)
theorem qins_has {ρ : Nat → Nat} {ls : Array Slot} {nL i : Nat} {v : Value} {l : qLV} (h : lv_has ls nL ((i, qv ρ v) :: qm ρ l)) : lv_has ls nL (qm ρ (qins (i, v) l)) := by
  refine ⟨h.1, h.2.1, fun q hq => ?_⟩
  obtain ⟨q0, h1, h2⟩ := List.mem_map.mp hq
  subst h2
  rcases qins_mem h1 with h3 | h3
  · subst h3
    exact h.2.2 _ List.mem_cons_self
  · exact h.2.2 _ (List.mem_cons_of_mem _ (List.mem_map.mpr ⟨q0, h3, rfl⟩))
theorem qm_1 {ρ : Nat → Nat} {ls : Array Slot} {nL : Nat} {l : qLV} {i : Nat} {v : Value} (h : lv_has ls nL ((i, qv ρ v) :: (qm ρ l).filter (fun q => !(q.1 == i) && !(q.1 + 1 == i && q.2.category == 2)))) : lv_has ls nL (qm ρ (qls1 l i v)) := by
  rw [qm_f1] at h
  exact qins_has h
theorem qm_2 {ρ : Nat → Nat} {ls : Array Slot} {nL : Nat} {l : qLV} {i : Nat} {v : Value} (h : lv_has ls nL ((i, qv ρ v) :: (qm ρ l).filter (fun q => !(q.1 == i) && (!(q.1 == i + 1) && !(q.1 + 1 == i && q.2.category == 2))))) : lv_has ls nL (qm ρ (qls2 l i v)) := by
  rw [qm_f2] at h
  exact qins_has h
theorem qm_k {ρ : Nat → Nat} {lv : qLV} {k : Nat} {v : Value} (h : qlg lv k = some v) : ∃ j : Nat, (qm ρ lv)[j]? = some (k, qv ρ v) := List.getElem?_of_mem (List.mem_map.mpr ⟨(k, v), qlg_mem h, rfl⟩)
theorem qblt {a b : Nat} (h : Nat.blt a b = true) : a < b := Nat.le_of_ble_eq_true h
theorem qbeq {a b : Nat} (h : (a == b) = true) : a = b := by simpa using h
section
variable {p : Program} {l : Launch} {e : Env} {R : Room} {s : State} {m : MethodId} {args : Array Value} {below : List Frame} {meth : Method} {c : Code} {H : Heap} {locs : List Loc} {cells slots : Nat} {Q : State → Prop}
set_option maxHeartbeats 4000000 in
theorem qsim_ok (hx : p.tables.exec = Jvm.exec) {cc : ByteArray} (hb : c.code = cc) {ρ : Nat → Nat} {nL pc len : Nat} {ins : Instr} {lv lv' : qLV} {st st' : List Value} (hd : decode cc pc = .ok (ins, len)) (h : qsim nL ins len lv st = some (lv', st')) {ls : Array Slot} (hl : lv_has ls nL (qm ρ lv))
    (k : ∀ ls' : Array Slot, lv_has ls' nL (qm ρ lv') → W p l e R s m args below meth c H locs cells slots Q (F0 m (pc + len) ls' (st'.map (qv ρ)))) : W p l e R s m args below meth c H locs cells slots Q (F0 m pc ls (st.map (qv ρ))) := by
  unfold qsim at h
  split at h
  · obtain ⟨e1, e2⟩ := qcd h
    cases qbeq e1; cases e2
    exact lv_iconst hx hb hd rfl (k ls hl)
  · obtain ⟨e1, e2⟩ := qcd h
    cases qbeq e1; cases e2
    exact lv_bipush hx hb hd rfl (k ls hl)
  · obtain ⟨e1, e2⟩ := qcd h
    cases qbeq e1; cases e2
    exact lv_sipush hx hb hd rfl (k ls hl)
  · obtain ⟨e1, e2⟩ := qcd h
    cases qbeq e1; cases e2
    exact lv_lconst hx hb hd rfl (k ls hl)
  · obtain ⟨e1, e2⟩ := qcd h
    cases qbeq e1; cases e2
    exact lv_null hx hb hd (k ls hl)
  · split at h
    · rename_i hq
      cases h
      exact lv_iload_n hx hb hd rfl (qlg_at hl hq) (k ls hl)
    · cases h
  · split at h
    · rename_i hq
      cases h
      exact lv_iload hx hb hd (qlg_at hl hq) (k ls hl)
    · cases h
  · split at h
    · rename_i hq
      cases h
      exact lv_lload_n hx hb hd rfl (qlg_at hl hq) (k ls hl)
    · cases h
  · split at h
    · rename_i hq
      cases h
      exact lv_lload hx hb hd (qlg_at hl hq) (k ls hl)
    · cases h
  · split at h
    · rename_i hq
      cases h
      exact lv_aload_n hx hb hd rfl (qlg_at hl hq) (k ls hl)
    · rename_i hq
      cases h
      exact lv_aload_nN hx hb hd rfl (qlg_at hl hq) (k ls hl)
    · cases h
  · split at h
    · rename_i hq
      cases h
      exact lv_aload hx hb hd (qlg_at hl hq) (k ls hl)
    · rename_i hq
      cases h
      exact lv_aloadN hx hb hd (qlg_at hl hq) (k ls hl)
    · cases h
  · split at h
    · obtain ⟨e1, e2⟩ := qcd h
      cases e2
      exact lv_istore_n hx hb hd rfl hl (qblt e1) rfl (fun ls' hl' => k ls' (qm_1 (v := .int _) hl'))
    · cases h
  · split at h
    · obtain ⟨e1, e2⟩ := qcd h
      cases e2
      exact lv_istore hx hb hd hl (qblt e1) rfl (fun ls' hl' => k ls' (qm_1 (v := .int _) hl'))
    · cases h
  · split at h
    · obtain ⟨e1, e2⟩ := qcd h
      cases e2
      exact lv_astore_n hx hb hd rfl hl (qblt e1) rfl (fun ls' hl' => k ls' (qm_1 (v := .ref _) hl'))
    · obtain ⟨e1, e2⟩ := qcd h
      cases e2
      exact lv_astore_nN hx hb hd rfl hl (qblt e1) rfl (fun ls' hl' => k ls' (qm_1 (v := .null) hl'))
    · cases h
  · split at h
    · obtain ⟨e1, e2⟩ := qcd h
      cases e2
      exact lv_astore hx hb hd hl (qblt e1) rfl (fun ls' hl' => k ls' (qm_1 (v := .ref _) hl'))
    · obtain ⟨e1, e2⟩ := qcd h
      cases e2
      exact lv_astoreN hx hb hd hl (qblt e1) rfl (fun ls' hl' => k ls' (qm_1 (v := .null) hl'))
    · cases h
  · split at h
    · obtain ⟨e1, e2⟩ := qcd h
      cases e2
      exact lv_lstore_n hx hb hd rfl hl (qblt e1) rfl (fun ls' hl' => k ls' (qm_2 (v := .long _) hl'))
    · cases h
  · split at h
    · obtain ⟨e1, e2⟩ := qcd h
      cases e2
      exact lv_lstore hx hb hd hl (qblt e1) rfl (fun ls' hl' => k ls' (qm_2 (v := .long _) hl'))
    · cases h
  · split at h
    · rename_i hq
      obtain ⟨e1, e2⟩ := qcd h
      cases e2
      obtain ⟨j, hj⟩ := qm_k (ρ := ρ) hq
      exact lv_iinc hx hb hd hl hj rfl (qblt e1) rfl (fun ls' hl' => k ls' (qm_1 (v := .int _) hl'))
    · cases h
  · split at h
    · cases h
      exact lv_iadd hx hb hd (k ls hl)
    · cases h
  · split at h
    · cases h
      exact lv_isub hx hb hd (k ls hl)
    · cases h
  · split at h
    · cases h
      exact lv_imul hx hb hd (k ls hl)
    · cases h
  · split at h
    · cases h
      exact lv_iand hx hb hd (k ls hl)
    · cases h
  · split at h
    · cases h
      exact lv_ior hx hb hd (k ls hl)
    · cases h
  · split at h
    · cases h
      exact lv_ixor hx hb hd (k ls hl)
    · cases h
  · split at h
    · cases h
      exact lv_ishl hx hb hd (k ls hl)
    · cases h
  · split at h
    · cases h
      exact lv_ishr hx hb hd (k ls hl)
    · cases h
  · split at h
    · cases h
      exact lv_iushr hx hb hd rfl (k ls hl)
    · cases h
  · split at h
    · cases h
      exact lv_ladd hx hb hd (k ls hl)
    · cases h
  · split at h
    · cases h
      exact lv_lsub hx hb hd (k ls hl)
    · cases h
  · split at h
    · cases h
      exact lv_land hx hb hd (k ls hl)
    · cases h
  · split at h
    · cases h
      exact lv_lor hx hb hd (k ls hl)
    · cases h
  · split at h
    · cases h
      exact lv_lxor hx hb hd (k ls hl)
    · cases h
  · split at h
    · cases h
      exact lv_lushr hx hb hd rfl (k ls hl)
    · cases h
  · split at h
    · cases h
      exact lv_lshl hx hb hd rfl (k ls hl)
    · cases h
  · split at h
    · cases h
      exact lv_lshr hx hb hd rfl (k ls hl)
    · cases h
  · split at h
    · cases h
      exact lv_i2l hx hb hd rfl (k ls hl)
    · cases h
  · split at h
    · cases h
      exact lv_l2i hx hb hd rfl (k ls hl)
    · cases h
  · split at h
    · cases h
      exact lv_i2b hx hb hd rfl (k ls hl)
    · cases h
  · split at h
    · cases h
      exact lv_i2c hx hb hd rfl (k ls hl)
    · cases h
  · split at h
    · obtain ⟨e1, e2⟩ := qcd h
      cases e2
      exact lv_idiv hx hb hd (fun z => by rw [z] at e1; simp at e1) (k ls hl)
    · cases h
  · split at h
    · obtain ⟨e1, e2⟩ := qcd h
      cases e2
      exact lv_irem hx hb hd (fun z => by rw [z] at e1; simp at e1) (k ls hl)
    · cases h
  · split at h
    · cases h
      exact W.lcmp hx hb hd (k ls hl)
    · cases h
  · split at h
    · obtain ⟨e1, e2⟩ := qcd h
      cases e2
      exact lv_dup hx hb hd (by rw [qv_cat]; exact qbeq e1) (k ls hl)
    · cases h
  · split at h
    · obtain ⟨e1, e2⟩ := qcd h
      cases e2
      exact lv_pop hx hb hd (by rw [qv_cat]; exact qbeq e1) (k ls hl)
    · cases h
  · split at h
    · obtain ⟨e1, e2⟩ := qcd h
      cases e2
      simp only [Bool.and_eq_true] at e1
      exact lv_dup2_11 hx hb hd (by rw [qv_cat]; exact qbeq e1.1) (by rw [qv_cat]; exact qbeq e1.2) (k ls hl)
    · cases h
  · cases h
end
