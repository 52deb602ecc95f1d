/-! Every run of the small machine is the machine's. -/
section
variable {p : Program} {l : Launch} {e : Env} {R : Room} {s : State} {m : MethodId} {args : Array Value} {below : List Frame} {meth : Method} {c : Code} {H : Heap} {locs : List Loc} {cells slots : Nat} {Q : State → Prop}
variable {ξ : Nat → Option (Nat × List Int32)} {E : qEv} {co : Nat} {b : ByteArray} {nL pc : Nat} {ls : Array Slot} {st st' : List Value} {σ σ' : qH}
set_option maxHeartbeats 4000000 in
theorem q_intr (X : qX ξ E (qco co) b nL p s m args meth c) {ins : Instr} {len : Nat} {r : List Value} {σ1 : qH} (hd : decode b pc = .ok (ins, len)) (h : qca co ins len st σ = some (.inr (r, σ1))) (hls : ls.size = nL) (hfr : 1 ≤ R.frames) (hlo : 60 ≤ R.locals) (hc : cells ≤ R.cells) (hs : slots ≤ R.slots) (hR : qR E σ H) (hS : va_S (qA E) s.heap H locs)
    (kk : ∀ (H1 : Heap) (locs1 : List Loc), qR E σ1 H1 → va_S (qA E) s.heap H1 locs1 → W p l e R s m args below meth c H1 locs1 cells slots Q (F0 m (pc + 3) ls (r.map (qv (qr E))))) : W p l e R s m args below meth c H locs cells slots Q (F0 m pc ls (st.map (qv (qr E)))) := by
  unfold qca at h
  split at h
  · split at h
    · split at h
      · obtain ⟨e1, e2⟩ := qcd h
        cases e2
      · cases h
    · cases h
  · split at h
    · split at h
      · obtain ⟨e1, e2⟩ := qcd h
        cases e2
      · cases h
    · split at h
      · obtain ⟨e1, e2⟩ := qcd h
        cases e2
      · cases h
    · rename_i hf
      split at h
      · obtain ⟨e1, e2⟩ := qcd h
        cases e2
        have e1 := Nat.le_of_ble_eq_true e1
        exact q_max X hls hd hf hfr (by rw [qcat_map]; omega) hc hs (kk H locs hR hS)
      · cases h
    · rename_i hf
      split at h
      · split at h
        · rename_i hi hk
          obtain ⟨e1, e2⟩ := qcd h
          cases e2
          simp only [Bool.and_eq_true, Bool.not_eq_true', decide_eq_false_iff_not] at e1
          obtain ⟨g0, g1, g2, g3, g4, g5, g6⟩ := e1
          have g0 := Nat.le_of_ble_eq_true g0
          have hnf : nativeFrameWords "java/lang/System" "arraycopy" 5 + 11 ≤ 40 := by decide
          exact q_copy X hls hd hf hR hS hi hk g1 g2 g3 (Nat.le_of_ble_eq_true g4) (Nat.le_of_ble_eq_true g5) g6 hfr (by rw [qcat_map]; omega) kk
        · cases h
      · cases h
    · cases h
  · split at h
    · split at h
      · obtain ⟨e1, e2⟩ := qcd h
        cases e2
      · cases h
    · split at h
      · obtain ⟨e1, e2⟩ := qcd h
        cases e2
      · cases h
    · rename_i hf
      split at h
      · obtain ⟨e1, e2⟩ := qcd h
        cases e2
        have e1 := Nat.le_of_ble_eq_true e1
        exact q_obj X hls hd hf hfr (by rw [qcat_map]; omega) (kk H locs hR hS)
      · cases h
    · cases h
  · cases h
theorem qca_len {ins : Instr} {len : Nat} {o : (Nat × List Value × List Value) ⊕ (List Value × qH)} (h : qca co ins len st σ = some o) : (∃ i, ins = .invokevirtual i ∨ ins = .invokestatic i ∨ ins = .invokespecial i) := by
  unfold qca at h
  split at h
  · exact ⟨_, Or.inl rfl⟩
  · exact ⟨_, Or.inr (Or.inl rfl)⟩
  · exact ⟨_, Or.inr (Or.inr rfl)⟩
  · cases h
set_option maxHeartbeats 4000000 in
theorem q_ret {Qc : Array Value → State → Outcome → State → Prop} {free : Addr → Prop} {j : Nat} {v : Option Value} {len : Nat} {ins : Instr} (hx : p.tables.exec = Jvm.exec) (hb : c.code = b) (hlk : meth.locks = false) (hr : meth.sig.returnType = qrt j) (hd : decode b pc = .ok (ins, len)) (h : qre j ins len st = some v)
    (hq : ∀ t : State, t.heap = H → s.WarmedH t.vm → Qc args s (.returned (v.map (qv (qr E)))) t) (hf : ∀ q ∈ locs, free q.base) : W p l e R s m args below meth c H locs cells slots (MQ below Qc args s cells slots free) (F0 m pc ls (st.map (qv (qr E)))) := by
  unfold qre at h
  split at h
  · split at h
    · rename_i hy
      cases h
      exact W.iret hx hb (hr.trans hy) hq hf hd hlk
    · rename_i x _ hy
      obtain ⟨e1, e2⟩ := qcd h
      cases e2
      refine W.zret hx hb (hr.trans hy) ?_ hq hf hd hlk
      simp only [Bool.or_eq_true, beq_iff_eq] at e1
      rcases e1 with rfl | rfl
      · decide +kernel
      · decide +kernel
    · rename_i _ x hy
      obtain ⟨e1, e2⟩ := qcd h
      cases e2
      refine W.zret hx hb (hr.trans hy) ?_ hq hf hd hlk
      show Value.int x.toInt8.toInt32 = .int x
      rw [beq_iff_eq.mp e1]
    · rename_i _ x hy
      obtain ⟨e1, e2⟩ := qcd h
      cases e2
      refine W.zret hx hb (hr.trans hy) ?_ hq hf hd hlk
      show Value.int x.toUInt32.toUInt16.toUInt32.toInt32 = .int x
      rw [beq_iff_eq.mp e1]
    · cases h
  · split at h
    · rename_i hy
      cases h
      exact W.lret hx hb (hr.trans hy) hq hf hd hlk
    · cases h
  · split at h
    · rename_i hy
      cases h
      exact W.aret hx hb (hr.trans hy) (Or.inl ⟨_, rfl⟩) (Or.inr ⟨_, rfl⟩) hq hf hd hlk
    · rename_i hy
      cases h
      exact W.aret hx hb (hr.trans hy) (Or.inl ⟨_, rfl⟩) (Or.inl rfl) hq hf hd hlk
    · cases h
  · split at h
    · rename_i hy
      cases h
      exact W.vret hx hb (hr.trans hy) hq hf hd hlk
    · cases h
  · cases h
end
/-- the frame of a run: from a place of method j, over cells σ, to its end with v and σ' -/
def qGoes (ξ : Nat → Option (Nat × List Int32)) (E : qEv) (d j pc : Nat) (lv : qLV) (st : List Value) (σ : qH) (v : Option Value) (σ' : qH) : Prop :=
  ∀ {p : Program} {l : Launch} {e : Env} {R : Room} {s : State} {m : MethodId} {args : Array Value} {below : List Frame} {meth : Method} {c : Code} {H : Heap} {locs : List Loc} {cells slots Mc Ms : Nat} {Q : State → Prop} {ls : Array Slot},
    qX ξ E (qco j) (qMq j).2.2.1 (qnl j) p s m args meth c → (qisI j = true → meth.name = "<init>") → qR E σ H → va_S (qA E) s.heap H locs → lv_has ls (qnl j) (qm (qr E) lv) → d ≤ R.frames → 60 * d ≤ R.locals → Mc ≤ R.cells → Ms ≤ R.slots → cells + σ'.length = Mc + σ.length → slots + qsz σ' = Ms + qsz σ →
    (∀ (H1 : Heap) (locs1 : List Loc) (ls1 : Array Slot) (pc1 len1 : Nat) (ins1 : Instr) (st1 : List Value), decode (qMq j).2.2.1 pc1 = .ok (ins1, len1) → qre j ins1 len1 st1 = some v → qR E σ' H1 → va_S (qA E) s.heap H1 locs1 → W p l e R s m args below meth c H1 locs1 Mc Ms Q (F0 m pc1 ls1 (st1.map (qv (qr E))))) →
    W p l e R s m args below meth c H locs cells slots Q (F0 m pc ls (st.map (qv (qr E))))
/-- a whole method, out of its run -/
theorem qMet_of {ξ : Nat → Option (Nat × List Int32)} {E : qEv} {d k : Nat} {as : List Value} {σ σ1 : qH} {v : Option Value} (hk : qkd k < 3) (hg : qGoes ξ E d k 0 (lv_args 0 as) [] σ v σ1) (hsl : (lg_sl as).length ≤ qnl k) (hm1 : σ.length ≤ σ1.length) (hm2 : qsz σ ≤ qsz σ1) (l : Launch) : qMet ξ E l d k as σ v σ1 := by
  obtain ⟨m1, m2, m3, m4, m5, m6, m7⟩ := qM_all hk
  refine va_MetF (cc := (qMq k).2.2.1) (maxL := qnl k) (ret := qrt k) m6 rfl ?_
  intro p e s m args below meth c s₁ B hml hv
  obtain ⟨rfl, hR, hG⟩ := hv
  have hts0 := atoms_spec (ws := qw k) B.pre
  have hts : ∀ w ∈ qgw, w.before (as.map (qv (qr E))).toArray s = true := fun w hw => hts0 w (List.mem_cons_of_mem _ hw)
  have hown : s.vm.findClass (qnm (qco k)) = some m.cls := by rw [← m3]; exact findClass_of_methodNamed B.named
  have hn := (name_of_methodNamed B.named B.method).1
  have hl := lv_entry (as.map (qv (qr E))) (n := qnl k) (by rw [lg_sl_len]; exact hsl)
  rw [lv_args_map] at hl
  rw [lg_entry_eq]
  refine hg (Mc := σ1.length - σ.length) (Ms := qsz σ1 - qsz σ) (cells := 0) (slots := 0) ⟨B.exec, B.bytes, hml, hown, hts, hG, B.notSynchronized⟩ (fun hI => ?_) hR va_S.rf hl (Nat.le_refl _) (Nat.le_refl _) (Nat.le_refl _) (Nat.le_refl _) (by omega) (by omega) ?_
  · rw [hn]
    exact (qM_2 (Nat.eq_of_beq_eq_true hI)).2.1
  · intro H1 locs1 ls1 pc1 len1 ins1 st1 hd1 hr1 hR1 hS1
    exact q_ret (E := E) (Qc := qQc E v σ1) (free := qA E) B.exec B.bytes B.notSynchronized B.returns hd1 hr1 (fun t ht hW => ⟨rfl, by rw [ht]; exact hR1, hS1.F ht⟩) hS1.2.2
theorem qca_sl {co : Nat} {ins : Instr} {len : Nat} {st : List Value} {σ : qH} {k : Nat} {as r : List Value} (h : qca co ins len st σ = some (.inl (k, as, r))) : qkd k < 3 ∧ (lg_sl as).length ≤ qnl k := by
  unfold qca at h
  split at h
  · split at h
    · split at h
      · obtain ⟨e1, e2⟩ := qcd h
        cases e2
        simp only [Bool.and_eq_true] at e1
        exact ⟨by have := Nat.eq_of_beq_eq_true e1.2.2.1; omega, Nat.le_of_ble_eq_true e1.2.2.2⟩
      · cases h
    · cases h
  · split at h
    · split at h
      · obtain ⟨e1, e2⟩ := qcd h
        cases e2
        simp only [Bool.and_eq_true] at e1
        exact ⟨by have := Nat.eq_of_beq_eq_true e1.2.1; omega, Nat.le_of_ble_eq_true e1.2.2⟩
      · cases h
    · split at h
      · obtain ⟨e1, e2⟩ := qcd h
        cases e2
        simp only [Bool.and_eq_true] at e1
        exact ⟨by have := Nat.eq_of_beq_eq_true e1.2.1; omega, Nat.le_of_ble_eq_true e1.2.2⟩
      · cases h
    · split at h
      · obtain ⟨e1, e2⟩ := qcd h
        cases e2
      · cases h
    · split at h
      · split at h
        · obtain ⟨e1, e2⟩ := qcd h
          cases e2
        · cases h
      · cases h
    · cases h
  · split at h
    · split at h
      · obtain ⟨e1, e2⟩ := qcd h
        cases e2
        simp only [Bool.and_eq_true] at e1
        exact ⟨by have := Nat.eq_of_beq_eq_true e1.2.1; omega, Nat.le_of_ble_eq_true e1.2.2⟩
      · cases h
    · split at h
      · obtain ⟨e1, e2⟩ := qcd h
        cases e2
        simp only [Bool.and_eq_true] at e1
        exact ⟨by have := Nat.eq_of_beq_eq_true e1.2.1; omega, Nat.le_of_ble_eq_true e1.2.2⟩
      · cases h
    · split at h
      · obtain ⟨e1, e2⟩ := qcd h
        cases e2
      · cases h
    · cases h
  · cases h
set_option maxHeartbeats 4000000 in
/-- THE RUN IS SOUND -/
theorem exe_ok (ξ : Nat → Option (Nat × List Int32)) (E : qEv) : ∀ (n d j pc : Nat) (lv : qLV) (st : List Value) (σ : qH) (v : Option Value) (σ' : qH), qnE ≤ σ.length → exe ξ n d j pc lv st σ = some (v, σ') → qGoes ξ E d j pc lv st σ v σ' := by
  intro n
  induction n with
  | zero => intro d j pc lv st σ v σ' _ h; cases h
  | succ n ih =>
    intro d j pc lv st σ v σ' hn h
    intro p l e R s m args below meth c H locs cells slots Mc Ms Q ls X hI hR hS hl hfr hlo hRc hRs hc hs hfin
    unfold exe at h
    split at h
    · cases h
    · rename_i ins len hfe
      have hd := qfe_ok hfe
      split at h
      · rename_i lv' st' hq
        exact qsim_ok X.1 X.2.1 hd hq hl (fun ls' hl' => ih _ _ _ _ _ _ _ _ hn h X hI hR hS hl' hfr hlo hRc hRs hc hs hfin)
      · split at h
        · rename_i hq
          exact qjmp_ok X.1 X.2.1 hd hq (ih _ _ _ _ _ _ _ _ hn h X hI hR hS hl hfr hlo hRc hRs hc hs hfin)
        · split at h
          · rename_i hq
            exact qrd_ok X hd hq hR hS (ih _ _ _ _ _ _ _ _ hn h X hI hR hS hl hfr hlo hRc hRs hc hs hfin)
          · split at h
            · rename_i hq
              obtain ⟨z1, z2⟩ := qwr_sz hq
              exact qwr_ok X hI hd hq hR hS (fun H1 locs1 hR1 hS1 => ih _ _ _ _ _ _ _ _ (by omega) h X hI hR1 hS1 hl hfr hlo hRc hRs (by omega) (by omega) hfin)
            · split at h
              · rename_i st' c1 hq
                have hm := exe_mono ξ _ _ _ _ _ _ _ _ _ h
                rw [qsz_push, List.length_append] at hm
                simp only [List.length_cons, List.length_nil] at hm
                refine qal_ok X hd hq hR hn hS (by omega) (by omega) (fun H1 hR1 hS1 => ?_)
                exact ih _ _ _ _ _ _ _ _ (by rw [List.length_append]; omega) h X hI hR1 hS1 hl hfr hlo hRc hRs (by rw [List.length_append]; simp only [List.length_cons, List.length_nil]; omega) (by rw [qsz_push]; omega) hfin
              · split at h
                · rename_i hq
                  cases h
                  have e1 : cells = Mc := by omega
                  have e2 : slots = Ms := by omega
                  subst e1; subst e2
                  exact hfin H locs ls pc len ins st hd hq hR hS
                · split at h
                  · cases h
                  · rename_i d'
                    split at h
                    · rename_i k as r hq
                      split at h
                      · rename_i v1 σ1 h1
                        have m1 := exe_mono ξ _ _ _ _ _ _ _ _ _ h1
                        have m2 := exe_mono ξ _ _ _ _ _ _ _ _ _ h
                        obtain ⟨hk, hsl⟩ := qca_sl hq
                        have hM := qMet_of hk (ih _ _ _ _ _ _ _ _ hn h1) hsl m1.1 m1.2 l
                        exact q_call X hd hq hl.1 hM hR hS hfr hlo (by omega) (by omega) (fun H1 locs1 hR1 hS1 => ih _ _ _ _ _ _ _ _ (by omega) h X hI hR1 hS1 hl hfr hlo hRc hRs (by omega) (by omega) hfin)
                      · cases h
                    · rename_i r σ1 hq
                      have m1 := qca_sz hq
                      have m2 := exe_mono ξ _ _ _ _ _ _ _ _ _ h
                      exact q_intr X hd hq hl.1 (by omega) (by omega) (by omega) (by omega) hR hS (fun H1 locs1 hR1 hS1 => ih _ _ _ _ _ _ _ _ (by omega) h X hI hR1 hS1 hl hfr hlo hRc hRs (by omega) (by omega) hfin)
                    · cases h
