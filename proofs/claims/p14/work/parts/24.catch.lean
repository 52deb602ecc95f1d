/-! A method that throws, by contract; a call of it, and the catch. -/
def qQt (E : qEv) (e9 : Nat) (σ1 : qH) (mc ms : Nat) : Array Value → State → Outcome → State → Prop := fun _ st o t => ∃ (q : Addr) (ce : Cell) (L : List Loc), o = .threw q ∧ st.WarmedH t.vm ∧ st.sameButNew ({ t with vm := st.vm } : State) L mc ms ∧ (∀ z ∈ L, qA E z.base) ∧ qR E σ1 t.heap ∧ qr E (σ1.length - 1) = q ∧ t.heap[q]? = some ce ∧ ce.vm = .none ∧ st.vm.findClass (qxc.getD e9 "") = some ce.cls ∧ va_F (qA E) st t
def qMetT (ξ : Nat → Option (Nat × List Int32)) (E : qEv) (l : Launch) (d k : Nat) (as : List Value) (σ : qH) (e9 : Nat) (σ1 : qH) : Prop :=
  MetFree l (qMq k).2.1 (headSpec (qw k) { frames := d, cells := σ1.length - σ.length, slots := qsz σ1 - qsz σ, locals := 60 * d }) (qPc ξ E as σ) (fun _ _ _ _ _ => True) (qQt E e9 σ1 (σ1.length - σ.length) (qsz σ1 - qsz σ))
theorem qMetT_of {ξ : Nat → Option (Nat × List Int32)} {E : qEv} {n d k e9 : Nat} {as : List Value} {σ σ1 : qH} (hk : qkd k < 3) (hn : qnE ≤ σ.length) (hg : exx ξ n d k 0 (lv_args 0 as) [] σ = some (.inr e9, σ1)) (hsl : (lg_sl as).length ≤ qnl k) (l : Launch) (htr : l.stackTraces = false) : qMetT ξ E l d k as σ e9 σ1 := by
  obtain ⟨m1, m2, m3, m4, m5, m6, m7⟩ := qM_all hk
  have hm := exx_mono _ _ _ _ _ _ _ _ _ hg
  refine MetFree.of_bodySF (code := (qMq k).2.2.1) (maxLocals := qnl k) (ret := qrt k) m6 ?_ ?_
  · intro args s m h hn9
    obtain ⟨meth, c, h1, h2, h3, h4, h5, h6, -, -⟩ := Cond.code_spec hn9 (atoms_spec (ws := qw k) h _ List.mem_cons_self)
    exact ⟨meth, c, h1, h2, h3, h4, h5, h6⟩
  · intro p e s m args below meth c s₁ B hml hv _
    obtain ⟨rfl, hR, hG⟩ := hv
    have hts0 := atoms_spec (ws := qw k) B.pre
    have hts : ∀ w ∈ qgw, w.before (as.map (qv (qr E))).toArray s = true := fun w hw => hts0 w (List.mem_cons_of_mem _ hw)
    have hown : s.vm.findClass (qnm (qco k)) = some m.cls := by rw [← m3]; exact findClass_of_methodNamed B.named
    have hnm := (name_of_methodNamed B.named B.method).1
    have X0 := Stand.of_body B
    obtain ⟨meth', c', g1, g2, g3, g4, g5, g6, g7, -⟩ := Cond.code_spec B.named (hts0 _ List.mem_cons_self)
    cases g1.symm.trans B.method
    cases g2.symm.trans X0.code
    have hout : ∀ (pc9 : Nat), ∀ x ∈ c.exceptionTable.toList, covers x pc9 = false := by
      intro pc9 x hx
      have h0 : c.exceptionTable.size = 0 := by simpa [Array.isEmpty] using g7
      have h1 : c.exceptionTable.toList = [] := List.eq_nil_of_length_eq_zero (by simpa using h0)
      rw [h1] at hx
      cases hx
    have hl := lv_entry (as.map (qv (qr E))) (n := qnl k) (by rw [lg_sl_len]; exact hsl)
    rw [lv_args_map] at hl
    have hh0 : s₁.heap = s.heap := by rw [B.state]; rfl
    have K : W p l e (headSpec (qw k) { frames := d, cells := σ1.length - σ.length, slots := qsz σ1 - qsz σ, locals := 60 * d }).room s m (as.map (qv (qr E))).toArray below meth c s₁.heap [] 0 0 (fun t => ∃ o, t.status = .running ∧ Ended t below o ∧ qQt E e9 σ1 (σ1.length - σ.length) (qsz σ1 - qsz σ) (as.map (qv (qr E))).toArray s o t) (entryFrame m (as.map (qv (qr E))).toArray (qnl k)) := by
      rw [hh0, lg_entry_eq]
      refine exx_thr ξ E n d k 0 (lv_args 0 as) [] σ e9 σ1 hn hg (Mc := σ1.length - σ.length) (Ms := qsz σ1 - qsz σ) (cells := 0) (slots := 0) ⟨B.exec, B.bytes, hml, hown, hts, hG, B.notSynchronized⟩ (fun hI => ?_) htr hout hR va_S.rf hl (Nat.le_refl _) (Nat.le_refl _) (Nat.le_refl _) (Nat.le_refl _) (by omega) (by omega) ?_
      · rw [hnm]
        exact (qM_2 (Nat.eq_of_beq_eq_true hI)).2.1
      · intro U ce a locs1 u1 u2 u3 u4 u5 u6 u7 u8 u9 u10 u11
        exact ⟨.threw a, u1, u2, a, ce, locs1, rfl, u3, u4, u5, u6, u7, u8, u9, u10, u11⟩
    obtain ⟨t, a1, o, b1, b2, b3⟩ := K s₁ rfl X0
    exact ⟨t, o, a1, b1, b2, b3⟩
