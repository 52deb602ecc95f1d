/-! Runs of the law and of its helpers: a helper is called, a throw is caught. -/
section
variable {p : Program} {l : Launch} {e : Env} {R : Room} {s : State} {m : MethodId} {args : Array Value} {below : List Frame} {meth : Method} {c : Code} {T : State} {locs : List Loc} {cells slots : Nat}
theorem q_callSW (X : Stand p l e R s m args below meth c T locs cells slots) (hexec : p.tables.exec = Jvm.exec) {own : String} {index : Nat} {y : MethodName} {bytes : ByteArray} {maxL : Nat} {ret : Option FieldType} {hh : List (Nat × Nat × Nat × Nat)}
    (hown : s.vm.findClass own = some m.cls) (hlink : (Cond.methodLink own index y).before args s = true) (hstat : (Cond.static y).before args s = true) (hinit : (Cond.initialized y.cls).before args s = true)
    (hcode : (Cond.codeWith y bytes maxL ret hh).before args s = true) (hy : y.cls ≠ "java/lang/invoke/MethodHandle" ∧ y.cls ≠ "java/lang/invoke/VarHandle")
    {W : Nat} {Pre : Pt → Array Value → Prop} {Post : Pt → Array Value → Option Value → Pt → Prop} (hK : Back l R p e below s args y 3 W Pre Post)
    {g : JFrame} (hg : g.method = m) (hsize : g.locals.size = c.maxLocals) {argsL rest : List Value} (hlen : ∀ sig, parseMethodDescriptor y.desc = some sig → argsL.length = sig.parameters.length)
    (hstack : g.stack = argsL.reverse ++ rest) (hW : 2 * g.monitorRoom + (rest.map fun v => v.category).sum ≤ W) (hdg : decode c.code g.pc = .ok (.invokestatic index, 3))
    (hpre : ∀ vm₁, s.WarmedH vm₁ → Pre ⟨T.setVm vm₁, locs, cells, slots⟩ argsL.toArray) :
    ∃ (v : Option Value) (vm₁ : Vm) (B : Pt), s.WarmedH vm₁ ∧ Stand p l e R s m args below meth c B.U B.locs B.cells B.slots ∧ Post ⟨T.setVm vm₁, locs, cells, slots⟩ argsL.toArray v B ∧
      ∀ target, Steps p.tables e below (B.U.setTop { g with pc := g.pc + 3, stack := v.toList ++ rest }) target → Steps p.tables e below (T.setTop g) target := by
  obtain ⟨mk, methM, cM, hnamed, hmethM, -, -, -, -, -, -, hsigM⟩ := Cond.codeWith_spec hcode
  have hstatic : methM.isStatic = true := Cond.static_spec hnamed hmethM hstat
  obtain ⟨kP, hkP, -⟩ := className_of_methodNamed hnamed
  have hinitP : kP.init = .initialized := Cond.initialized_spec (findClass_of_methodNamed hnamed) hkP hinit
  obtain ⟨vm₁, X₁, hstep₁⟩ := X.invokestatic hexec hown hlink hnamed hmethM hstatic hkP hinitP hy (g := g) hg (argsL := argsL) (rest := rest) (hlen _ hsigM) hstack hdg
  obtain ⟨v, B, X', hpost, hsteps⟩ := hK m meth c ⟨T.setVm vm₁, locs, cells, slots⟩ { g with stack := rest } (.invokestatic index) mk argsL.toArray X₁ hg hsize hdg hW (X₁.named hnamed) (hpre vm₁ X₁.warmed)
  exact ⟨v, vm₁, B, X₁.warmed, X', hpost, fun target h => hstep₁ _ fun acts => by rw [doInvoke_state]; exact hsteps.trans h⟩
end
def qhw (k : Nat) : List Cond := Cond.codeWith (qMq k).2.1 (qMq k).2.2.1 (qnl k) (qrt k) ((qhr k).map qhe) :: qgw
theorem qhw_good {k : Nat} (h : k ∈ qhs) : GoodIn qgw (qhw k) := fun w hw => by
  rcases List.mem_cons.mp hw with rfl | hw
  · exact qgw_good _ (qh_all h).1
  · exact qgw_good _ hw
/-- what a helper's contract is, for the law -/
def qMetH (ξ : Nat → Option (Nat × List Int32)) (E : qEv) (l : Launch) (d k : Nat) (as : List Value) (σ : qH) (v : Option Value) (σ1 : qH) : Prop :=
  Met l (qMq k).2.1 (qhw k) { frames := d, cells := σ1.length - σ.length, slots := qsz σ1 - qsz σ, locals := 60 * d } (qPc ξ E as σ) (qQc E v σ1) (σ1.length - σ.length) (qsz σ1 - qsz σ) (qA E)
section
variable {p : Program} {l : Launch} {e : Env} {R : Room} {s : State} {m : MethodId} {args : Array Value} {below : List Frame} {meth : Method} {c : Code} {H : Heap} {locs : List Loc} {cells slots : Nat} {Q : State → Prop}
variable {ξ : Nat → Option (Nat × List Int32)} {E : qEv} {co : Nat} {b : ByteArray} {nL pc : Nat} {ls : Array Slot} {st st' : List Value} {σ σ' : qH}
set_option maxHeartbeats 4000000 in
theorem q_help (X : qX ξ E (qco co) b nL p s m args meth c) {idx d k n9 : Nat} {q9 : Nat × Nat} {as r : List Value} {v : Option Value} {σ1 : qH} (hk : k ∈ qhs) (hd : decode b pc = .ok (.invokestatic idx, 3)) (hf : qlk (qmL.getD (qco co) []) idx = some ((10, k, n9), q9)) (ht : qtk (qhn k) st = some (as, r)) (hcat : qcat r ≤ 8) (hls : ls.size = nL) (hM : qMetH ξ E l d k as σ v σ1) (hR : qR E σ H) (hS : va_S (qA E) s.heap H locs) (hfr : d + 1 ≤ R.frames) (hlo : 60 * (d + 1) ≤ R.locals)
    (hc : cells + (σ1.length - σ.length) ≤ R.cells) (hs : slots + (qsz σ1 - qsz σ) ≤ R.slots)
    (kk : ∀ (H1 : Heap) (locs1 : List Loc), qR E σ1 H1 → va_S (qA E) s.heap H1 locs1 → W p l e R s m args below meth c H1 locs1 (cells + (σ1.length - σ.length)) (slots + (qsz σ1 - qsz σ)) Q (F0 m (pc + 3) ls ((v.toList ++ r).map (qv (qr E))))) : W p l e R s m args below meth c H locs cells slots Q (F0 m pc ls (st.map (qv (qr E)))) := by
  have kk : ∀ (H1 : Heap) (locs1 : List Loc), qR E σ1 H1 → va_S (qA E) s.heap H1 locs1 → W p l e R s m args below meth c H1 locs1 (cells + (σ1.length - σ.length)) (slots + (qsz σ1 - qsz σ)) Q (F0 m (pc + 3) ls ((v.map (qv (qr E))).toList ++ r.map (qv (qr E)))) := by
    intro H1 locs1 a1 a2
    have a3 := kk H1 locs1 a1 a2
    rw [List.map_append] at a3
    cases v <;> exact a3
  have X0 := X
  obtain ⟨hexec, hb, hml, hown, hts, hG, hlk⟩ := X
  obtain ⟨h1, h2, h3, h4, h5, h6, h7, h8, h9, h10⟩ := qh_all hk
  obtain ⟨g1, g2⟩ := qtk_ok ht
  have hq := qml_ok hf
  unfold qmok at hq
  dsimp only at hq
  refine q_back (mc := σ1.length - σ.length) (ms := qsz σ1 - qsz σ) (rest := r.map (qv (qr E))) (a := (as.map (qv (qr E))).toArray) ?_ hS kk
  intro T hT Y
  have hws : ∀ w ∈ qhw k, ∀ (a' : Array Value) (U : State), s.WarmedH U.vm → w.before a' U = true := fun w hw a' U hW => word_at hW (qhw_good hk w hw).2 (hts w (qhw_good hk w hw).1)
  have hK : Back l R p e below s args (qMq k).2.1 3 8 (PreOf R (σ1.length - σ.length) (qsz σ1 - qsz σ) (qPc ξ E as σ)) (PostOf (qQc E v σ1) (σ1.length - σ.length) (qsz σ1 - qsz σ) (qA E)) :=
    va_backW (hh := (qhr k).map qhe) (bytes := (qMq k).2.2.1) (maxL := qnl k) (ret := qrt k) hM qPc_blind rfl rfl hfr (by show 8 + (qnl k + 11) + 60 * d ≤ R.locals; omega) hws List.mem_cons_self (fun a' U hW => word_at hW (qgw_good _ h2).2 (hts _ h2))
  obtain ⟨v, vm₁, ⟨U', l2, c2, s2⟩, hW₁, X', ⟨g', mk, t, L, e1, e2, hq9, k1, hL, k2, k3⟩, st⟩ := q_callSW Y hexec (hh := (qhr k).map qhe) (bytes := (qMq k).2.2.1) (maxL := qnl k) (ret := qrt k) hown (hts _ (qin_mem hq)) (hts _ h3) (hts _ h2) (hts _ h1) ⟨h5, h6⟩ hK (g := F0 m pc ls (st.map (qv (qr E)))) rfl (hls.trans hml.symm) (argsL := as.map (qv (qr E))) (rest := r.map (qv (qr E)))
    (fun sig h => by rw [List.length_map, g2]; rw [h] at h9; exact (Option.some.inj h9).symm) (by show st.map (qv (qr E)) = _; rw [g1, List.map_append, List.map_reverse]) (by show 2 * 0 + _ ≤ 8; rw [qcat_map]; omega) (by rw [hb]; exact hd)
    (fun vm₁ hW₁ => ⟨hc, hs, qPre X0 hR hS as (T.setVm vm₁) hT hW₁⟩)
  dsimp only [Pt.U, Pt.locs, Pt.cells, Pt.slots] at X' e1 e2 k1 k2 k3 st
  subst k1; subst k2; subst k3
  exact ⟨v, (T.setVm vm₁).calling g' mk (as.map (qv (qr E))).toArray, t, U', L, hT, X', hL, e1, e2, hq9, st⟩
end
/-- a helper's call: the helper with its arguments, and the stack below -/
def qhc (j : Nat) (ins : Instr) (len : Nat) (st : List Value) : Option (Nat × List Value × List Value) := match ins with
  | .invokestatic idx => match len, qlk (qmL.getD (qco j) []) idx with
    | 3, some ((10, k, _), _) => match qtk (qhn k) st with
      | some (as, r) => bif decide (k ∈ qhs) && (Nat.ble (qcat r) 8 && Nat.ble (lg_sl as).length (qnl k)) then some (k, as, r) else none
      | none => none
    | _, _ => none
  | _ => none
/-- the run of the law, or of a helper -/
def exh (ξ : Nat → Option (Nat × List Int32)) : Nat → Nat → Nat → Nat → qLV → List Value → qH → Option (Option Value × qH)
  | 0, _, _, _, _, _, _ => none
  | n + 1, d, j, pc, lv, st, σ =>
    match run1 ξ n d j pc lv st σ with
    | some (pc', lv', st', σ') => exh ξ n d j pc' lv' st' σ'
    | none =>
      match qfe j pc with
      | none => none
      | some (ins, len) =>
        match qre j ins len st with
        | some v => some (v, σ)
        | none =>
          match d with
          | 0 => none
          | d' + 1 =>
            match qhc j ins len st with
            | some (k, as, r) =>
              (match exh ξ n d' k 0 (lv_args 0 as) [] σ with
              | some (v, σ1) => exh ξ n (d' + 1) j (pc + 3) lv (v.toList ++ r) σ1
              | none => none)
            | none =>
              match ins with
              | .invokevirtual idx =>
                (match qca j (.invokevirtual idx) len st σ with
                | some (.inl (k, as, _)) =>
                  (match exx ξ n d' k 0 (lv_args 0 as) [] σ with
                  | some (.inr e9, σ1) =>
                    (match qhf (qhr j) pc e9 with
                    | some h => exh ξ n (d' + 1) j h lv [.ref (σ1.length - 1)] σ1
                    | none => none)
                  | _ => none)
                | _ => none)
              | _ => none
theorem exh_mono (ξ : Nat → Option (Nat × List Int32)) : ∀ (n d j pc : Nat) (lv : qLV) (st : List Value) (σ : qH) (v : Option Value) (σ' : qH), exh ξ n d j pc lv st σ = some (v, σ') → σ.length ≤ σ'.length ∧ qsz σ ≤ qsz σ' := by
  intro n
  induction n with
  | zero => intro d j pc lv st σ v σ' h; cases h
  | succ n ih =>
    intro d j pc lv st σ v σ' h
    unfold exh at h
    split at h
    · rename_i h1
      have a1 := run1_mono h1
      have a2 := ih _ _ _ _ _ _ _ _ h
      omega
    · split at h
      · cases h
      · split at h
        · cases h
          exact ⟨Nat.le_refl _, Nat.le_refl _⟩
        · split at h
          · cases h
          · split at h
            · split at h
              · rename_i h1
                have a1 := ih _ _ _ _ _ _ _ _ h1
                have a2 := ih _ _ _ _ _ _ _ _ h
                omega
              · cases h
            · split at h
              · split at h
                · split at h
                  · rename_i h1
                    have a1 := exx_mono _ _ _ _ _ _ _ _ _ h1
                    split at h
                    · have a2 := ih _ _ _ _ _ _ _ _ h
                      omega
                    · cases h
                  · cases h
                · cases h
              · cases h
def qGoesH (ξ : Nat → Option (Nat × List Int32)) (E : qEv) (d j pc : Nat) (lv : qLV) (st : List Value) (σ : qH) (v : Option Value) (σ' : qH) : Prop :=
  ∀ {p : Program} {l : Launch} {e : Env} {R : Room} {s : State} {m : MethodId} {args : Array Value} {below : List Frame} {meth : Method} {c : Code} {H : Heap} {locs : List Loc} {cells slots Mc Ms : Nat} {Q : State → Prop} {ls : Array Slot},
    qX ξ E (qco j) (qMq j).2.2.1 (qnl j) p s m args meth c → (qisI j = true → meth.name = "<init>") → l.stackTraces = false → c.exceptionTable.toList.map (fun h => (h.startPc, h.endPc, h.handlerPc, h.catchType)) = (qhr j).map qhe → qR E σ H → va_S (qA E) s.heap H locs → lv_has ls (qnl j) (qm (qr E) lv) → d ≤ R.frames → 60 * d ≤ R.locals → Mc ≤ R.cells → Ms ≤ R.slots → cells + σ'.length = Mc + σ.length → slots + qsz σ' = Ms + qsz σ →
    (∀ (H1 : Heap) (locs1 : List Loc) (ls1 : Array Slot) (pc1 len1 : Nat) (ins1 : Instr) (st1 : List Value), decode (qMq j).2.2.1 pc1 = .ok (ins1, len1) → qre j ins1 len1 st1 = some v → qR E σ' H1 → va_S (qA E) s.heap H1 locs1 → W p l e R s m args below meth c H1 locs1 Mc Ms Q (F0 m pc1 ls1 (st1.map (qv (qr E))))) →
    W p l e R s m args below meth c H locs cells slots Q (F0 m pc ls (st.map (qv (qr E))))
set_option maxHeartbeats 4000000 in
/-- a helper, out of its run -/
theorem qMetH_of {ξ : Nat → Option (Nat × List Int32)} {E : qEv} {d k : Nat} {as : List Value} {σ σ1 : qH} {v : Option Value} (hk : k ∈ qhs) (hg : qGoesH ξ E d k 0 (lv_args 0 as) [] σ v σ1) (hsl : (lg_sl as).length ≤ qnl k) (hm1 : σ.length ≤ σ1.length) (hm2 : qsz σ ≤ qsz σ1) (l : Launch) (htr : l.stackTraces = false) : qMetH ξ E l d k as σ v σ1 := by
  obtain ⟨h1, h2, h3, h4, h5, h6, h7, h8, h9, h10, h11⟩ := qh_all hk
  refine va_MetW (cc := (qMq k).2.2.1) (maxL := qnl k) (ret := qrt k) (hh := (qhr k).map qhe) h7 rfl ?_
  intro p e s m args below meth c s₁ B hml hv
  obtain ⟨rfl, hR, hG⟩ := hv
  have hts0 := atoms_spec (ws := qhw k) B.pre
  have hts : ∀ w ∈ qgw, w.before (as.map (qv (qr E))).toArray s = true := fun w hw => hts0 w (List.mem_cons_of_mem _ hw)
  have hown : s.vm.findClass (qnm (qco k)) = some m.cls := by rw [← h4]; exact findClass_of_methodNamed B.named
  have X0 := Stand.of_body B
  obtain ⟨m9, meth', c', hn9, g1, g2, g3, g4, g5, g6, g7, g8⟩ := Cond.codeWith_spec (hts0 _ List.mem_cons_self)
  cases B.named.symm.trans hn9
  cases g1.symm.trans B.method
  cases g2.symm.trans X0.code
  have hl := lv_entry (as.map (qv (qr E))) (n := qnl k) (by rw [lg_sl_len]; exact hsl)
  rw [lv_args_map] at hl
  rw [lg_entry_eq]
  refine hg (Mc := σ1.length - σ.length) (Ms := qsz σ1 - qsz σ) (cells := 0) (slots := 0) ⟨B.exec, B.bytes, hml, hown, hts, hG, B.notSynchronized⟩ (fun hI => ?_) htr g5 hR va_S.rf hl (Nat.le_refl _) (Nat.le_refl _) (Nat.le_refl _) (Nat.le_refl _) (by omega) (by omega) ?_
  · rw [h11] at hI
    cases hI
  · intro H1 locs1 ls1 pc1 len1 ins1 st1 hd1 hr1 hR1 hS1
    exact q_ret (E := E) (Qc := qQc E v σ1) (free := qA E) B.exec B.bytes B.notSynchronized B.returns hd1 hr1 (fun t ht hW => ⟨rfl, by rw [ht]; exact hR1, hS1.F ht⟩) hS1.2.2
theorem qhc_ok {j : Nat} {ins : Instr} {len : Nat} {st : List Value} {k : Nat} {as r : List Value} (h : qhc j ins len st = some (k, as, r)) : ∃ idx n9 q9, ins = .invokestatic idx ∧ len = 3 ∧ qlk (qmL.getD (qco j) []) idx = some ((10, k, n9), q9) ∧ qtk (qhn k) st = some (as, r) ∧ k ∈ qhs ∧ qcat r ≤ 8 ∧ (lg_sl as).length ≤ qnl k := by
  unfold qhc at h
  split at h
  · rename_i idx
    split at h
    · rename_i k9 n9 q9 hf
      split at h
      · rename_i as9 r9 ht
        obtain ⟨e1, e2⟩ := qcd h
        cases e2
        simp only [Bool.and_eq_true, decide_eq_true_eq] at e1
        exact ⟨idx, n9, q9, rfl, rfl, hf, ht, e1.1, Nat.le_of_ble_eq_true e1.2.1, Nat.le_of_ble_eq_true e1.2.2⟩
      · cases h
    · cases h
  · cases h
set_option maxHeartbeats 8000000 in
/-- THE RUN OF THE LAW IS SOUND -/
theorem exh_ok (ξ : Nat → Option (Nat × List Int32)) (E : qEv) : ∀ (n d j pc : Nat) (lv : qLV) (st : List Value) (σ : qH) (v : Option Value) (σ' : qH), qnE ≤ σ.length → exh ξ n d j pc lv st σ = some (v, σ') → qGoesH ξ E d j pc lv st σ v σ' := by
  intro n
  induction n with
  | zero => intro d j pc lv st σ v σ' _ h; cases h
  | succ n ih =>
    intro d j pc lv st σ v σ' hn h
    intro p l e R s m args below meth c H locs cells slots Mc Ms Q ls X hI htr htb hR hS hl hfr hlo hRc hRs hc hs hfin
    unfold exh at h
    split at h
    · rename_i pc' lv' st' σ1 h1
      have a1 := run1_mono h1
      have a2 := exh_mono _ _ _ _ _ _ _ _ _ _ h
      exact run1_ok hn h1 X hI hR hS hl hfr hlo (by omega) (by omega) (fun H1 locs1 ls1 hR1 hS1 hl1 => ih _ _ _ _ _ _ _ _ (by omega) h X hI htr htb hR1 hS1 hl1 hfr hlo hRc hRs (by omega) (by omega) hfin)
    · split at h
      · cases h
      · rename_i ins len hfe
        have hd := qfe_ok hfe
        split at h
        · rename_i hq
          cases h
          have e1 : cells = Mc := by omega
          have e2 : slots = Ms := by omega
          subst e1; subst e2
          exact hfin H locs ls pc len ins st hd hq hR hS
        · split at h
          · cases h
          · rename_i d'
            split at h
            · rename_i k as r hq
              split at h
              · rename_i v1 σ1 h1
                have a1 := exh_mono _ _ _ _ _ _ _ _ _ _ h1
                have a2 := exh_mono _ _ _ _ _ _ _ _ _ _ h
                obtain ⟨idx, n9, q9, rfl, rfl, hf, ht, hk, hcat, hsl⟩ := qhc_ok hq
                have hM := qMetH_of hk (ih _ _ _ _ _ _ _ _ hn h1) hsl a1.1 a1.2 l htr
                exact q_help X hk hd hf ht hcat hl.1 hM hR hS hfr hlo (by omega) (by omega) (fun H1 locs1 hR1 hS1 => ih _ _ _ _ _ _ _ _ (by omega) h X hI htr htb hR1 hS1 hl hfr hlo hRc hRs (by omega) (by omega) hfin)
              · cases h
            · split at h
              · rename_i idx
                split at h
                · rename_i k as r hq
                  split at h
                  · rename_i e9 σ1 h1
                    split at h
                    · rename_i h9 hh
                      have a1 := exx_mono _ _ _ _ _ _ _ _ _ h1
                      have a2 := exh_mono _ _ _ _ _ _ _ _ _ _ h
                      obtain ⟨hk, hsl⟩ := qca_sl hq
                      have hM := qMetT_of (E := E) hk hn h1 hsl l htr
                      obtain ⟨pre, x, rest, y1, y2, y3, y4, y5, y6, y7⟩ := qhf_ok (own := qnm (qco j)) (qhr j) c.exceptionTable.toList htb (qhr_ok j) hh
                      refine q_catch X hd hq hl.1 hM hR hS hfr hlo (by omega) (by omega) y1 y2 y3 y5 y6 (fun H1 locs1 hR1 hS1 => ?_)
                      rw [y4]
                      exact ih _ _ _ _ _ _ _ _ (by omega) h X hI htr htb hR1 hS1 hl hfr hlo hRc hRs (by omega) (by omega) hfin
                    · cases h
                  · cases h
                · cases h
              · cases h
