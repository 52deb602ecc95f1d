/-! The law's helpers: methods with a table of handlers; a call that throws is caught there. -/
theorem q_asg (vm : Vm) (c : ClassId) : vm.assignable c c = true := by
  unfold Vm.assignable Vm.assignableAux
  simp
/-- the search at a row that covers the place, its class linked or not yet -/
theorem q_row {e : Env} {S : State} {f : JFrame} {a : Addr} {y : ExceptionTableEntry} {t : List ExceptionTableEntry} {c : ClassId} {cell : Cell} {Q : Handler → Pre} {Ex : CtlPost} {d : Bool} {acts : List Action} (hy : covers y f.pc = true) (h0 : y.catchType ≠ 0) (hl : S.vm.ClassLinks e.platform f.method.cls y.catchType c) (hcell : S.heap[a]? = some cell) (hobj : ∀ k, cell.vm ≠ .statics k) (hk : ∃ k, S.vm.classes[cell.cls]? = some k) (hc : ∃ k, S.vm.classes[c]? = some k) {b : Bool} (hb : S.vm.assignable cell.cls c = b) :
    wp (findHandler.go f a (y :: t)) Q Ex e d acts S ↔ (bif b then Q (.found y.handlerPc) d acts (S.setVm (S.vm.noted f.method.cls y.catchType (.cls c))) else wp (findHandler.go f a t) Q Ex e d acts (S.setVm (S.vm.noted f.method.cls y.catchType (.cls c)))) := by
  simp only [covers] at hy
  obtain ⟨g1, g2⟩ := (resolveClass_links e.toSetting hl).op (op := VmOp.resolveClass f.method.cls y.catchType) rfl
  have hal : S.vm.Alike (S.vm.noted f.method.cls y.catchType (.cls c)) := (Vm.Alike.refl S.vm).noted _ _ _
  obtain ⟨k1, hk1⟩ := hk
  obtain ⟨k2, hk2⟩ := hc
  obtain ⟨k3, hk3, -⟩ := hal.2.2 _ _ hk1
  obtain ⟨k4, hk4, -⟩ := hal.2.2 _ _ hk2
  have hb' : (S.vm.noted f.method.cls y.catchType (.cls c)).assignable cell.cls c = b := by rw [hal.assignable]; exact hb
  cases b <;> simp [findHandler.go, hy, h0, g1, g2, hcell, hobj, hk3, hk4, hb', VmOp.dirties, VmOp.acts]
theorem q_look {e : Env} {s0 : State} {f : JFrame} {a : Addr} {cell : Cell} (hobj : ∀ k, cell.vm ≠ .statics k) (hk0 : ∃ k, s0.vm.classes[cell.cls]? = some k) {x : ExceptionTableEntry} {rest : List ExceptionTableEntry} (hx : covers x f.pc = true) (h0 : x.catchType ≠ 0) {cx : ClassId} (hl : s0.vm.ClassLinks e.platform f.method.cls x.catchType cx) (hfit : s0.vm.assignable cell.cls cx = true) :
    ∀ (pre : List ExceptionTableEntry) (S : State), s0.WarmedH S.vm → S.heap[a]? = some cell → (∀ y ∈ pre, covers y f.pc = false ∨ (y.catchType ≠ 0 ∧ ∃ c, s0.vm.ClassLinks e.platform f.method.cls y.catchType c ∧ s0.vm.assignable cell.cls c = false)) →
      ∃ vm', s0.WarmedH vm' ∧ ∀ (Q : Handler → Pre) (Ex : CtlPost) (d : Bool) (acts : List Action), wp (findHandler.go f a (pre ++ x :: rest)) Q Ex e d acts S ↔ Q (.found x.handlerPc) d acts (S.setVm vm') := by
  have known : ∀ {S : State} {c : ClassId}, s0.WarmedH S.vm → (∃ k, s0.vm.classes[c]? = some k) → ∃ k, S.vm.classes[c]? = some k := by
    intro S c hW ⟨k, hk⟩
    obtain ⟨k', hk', -⟩ := hW.alike.2.2 _ _ hk
    exact ⟨k', hk'⟩
  intro pre
  induction pre with
  | nil =>
    intro S hW hcell _
    obtain ⟨dk, _, _, kt, hd, _, _, _, _, hkt, _, hopen⟩ := hl.here
    refine ⟨_, hW.noted hd hopen (State.rightAt_cls hl), fun Q Ex d acts => ?_⟩
    exact q_row hx h0 (hW.classLinks hl) hcell hobj (known hW hk0) (known hW ⟨kt, hkt⟩) (b := true) (by rw [hW.alike.assignable]; exact hfit)
  | cons y ys ih =>
    intro S hW hcell hpass
    have hrest := fun z hz => hpass z (List.mem_cons_of_mem y hz)
    by_cases hcov : covers y f.pc = true
    · rcases hpass y List.mem_cons_self with h | ⟨h9, c, hlc, hno⟩
      · rw [h] at hcov; cases hcov
      · obtain ⟨dk, _, _, kt, hd, _, _, _, _, hkt, _, hopen⟩ := hlc.here
        have hW2 := hW.noted hd hopen (State.rightAt_cls hlc)
        obtain ⟨vm', hW', hq⟩ := ih (S.setVm (S.vm.noted f.method.cls y.catchType (.cls c))) hW2 hcell hrest
        refine ⟨vm', hW', fun Q Ex d acts => ?_⟩
        rw [List.cons_append]
        exact (q_row hcov h9 (hW.classLinks hlc) hcell hobj (known hW hk0) (known hW ⟨kt, hkt⟩) (b := false) (by rw [hW.alike.assignable]; exact hno)).trans (hq Q Ex d acts)
    · obtain ⟨vm', hW', hq⟩ := ih S hW hcell hrest
      refine ⟨vm', hW', fun Q Ex d acts => ?_⟩
      rw [List.cons_append, W.findHandler_go_skip (by simpa using hcov)]
      exact hq Q Ex d acts
/-- into the handler, the tables as the search leaves them -/
theorem q_caught {tb : Tables} {e : Env} {s target : State} {g : JFrame} {c : Code} {below : List Frame} {a : Addr} (h : At s g.method c below) {pc : Nat} {vm' : Vm}
    (hfind : ∀ (Q : Handler → Pre) (Ex : CtlPost) (d : Bool) (acts : List Action), wp (findHandler g a) Q Ex e d acts ((s.setTop g).pushFrame (.throwing a)) ↔ Q (.found pc) d acts (((s.setTop g).pushFrame (.throwing a)).setVm vm'))
    (hrest : Steps tb e below ((s.setVm vm').setTop { g with pc := pc, stack := [.ref a] }) target) : Steps tb e below ((s.setTop g).pushFrame (.throwing a)) target := by
  obtain ⟨hgo, hw⟩ := h.throwing a
  refine Steps.head hgo hw ?_
  have hstep : ∀ (u : State) (r : List Frame), (∀ (Q : Handler → Pre) (Ex : CtlPost) (d : Bool) (acts : List Action), wp (findHandler g a) Q Ex e d acts u ↔ Q (.found pc) d acts (u.setVm vm')) → (stepThrowing e u a (.java g :: r)).Is ((u.setVm vm').setFrames (.java { g with pc := pc, stack := [.ref a] } :: r)) [] := by
    intro u r hf
    simp only [stepThrowing, searchFrame, vmDo]
    generalize hr : Sem.go _ e false [] u = res
    obtain ⟨as, rfl, ha⟩ := Sem.eq_ok_of hr (a := Handler.found pc) (s' := u.setVm vm') (acts' := []) (by simp [hf _ _ _ _])
    exact ⟨rfl, ha⟩
  rw [stepThread_throwing (frames_entered h.top _), (hstep _ _ hfind).1]
  obtain ⟨g₀, hg⟩ := Option.isSome_iff_exists.mp h.top
  obtain ⟨r, hr⟩ := State.topJava?_eq_some.mp hg
  have hr' : (s.setVm vm').frames = .java g₀ :: r := hr
  rw [State.setTop_of_frames _ hr'] at hrest
  have e1 : ∀ (u : State) (F G : List Frame), ((u.setFrames F).setVm vm').setFrames G = (u.setVm vm').setFrames G := fun u F G => by
    rw [show (u.setFrames F).setVm vm' = (u.setVm vm').setFrames F from rfl, State.setFrames_setFrames]
  rw [hr, List.tail_cons, State.pushFrame, e1, State.setTop_of_frames _ hr, e1]
  exact hrest
section
variable {p : Program} {l : Launch} {e : Env} {R : Room} {s : State} {m : MethodId} {args : Array Value} {below : List Frame} {meth : Method} {c : Code} {H : Heap} {locs : List Loc} {cells slots : Nat} {Q : State → Prop}
variable {ξ : Nat → Option (Nat × List Int32)} {E : qEv} {co : Nat} {b : ByteArray} {nL pc : Nat} {ls : Array Slot} {st st' : List Value} {σ σ' : qH}
set_option maxHeartbeats 4000000 in
/-- a call that throws, caught by a row of the caller's table -/
theorem q_catch (X : qX ξ E (qco co) b nL p s m args meth c) {idx len d k e9 : Nat} {as r : List Value} {σ1 : qH} (hd : decode b pc = .ok (.invokevirtual idx, len)) (h : qca co (.invokevirtual idx) len st σ = some (.inl (k, as, r))) (hls : ls.size = nL) (hM : qMetT ξ E l d k as σ e9 σ1) (hR : qR E σ H) (hS : va_S (qA E) s.heap H locs) (hfr : d + 1 ≤ R.frames) (hlo : 60 * (d + 1) ≤ R.locals)
    (hc : cells + (σ1.length - σ.length) ≤ R.cells) (hs : slots + (qsz σ1 - qsz σ) ≤ R.slots)
    {pre : List ExceptionTableEntry} {x : ExceptionTableEntry} {rest : List ExceptionTableEntry} (hsplit : c.exceptionTable.toList = pre ++ x :: rest)
    (hpass : ∀ y ∈ pre, covers y pc = false ∨ ∃ e8, y.catchType ≠ 0 ∧ Cond.classLink (qnm (qco co)) y.catchType (qxc.getD e8 "") ∈ qgw ∧ (qxc.getD e9 "", qxc.getD e8 "") ∈ qnc) (hx : covers x pc = true) (hx0 : x.catchType ≠ 0) (hlink : Cond.classLink (qnm (qco co)) x.catchType (qxc.getD e9 "") ∈ qgw)
    (kk : ∀ (H1 : Heap) (locs1 : List Loc), qR E σ1 H1 → va_S (qA E) s.heap H1 locs1 → W p l e R s m args below meth c H1 locs1 (cells + (σ1.length - σ.length)) (slots + (qsz σ1 - qsz σ)) Q (F0 m x.handlerPc ls [.ref (qr E (σ1.length - 1))])) : W p l e R s m args below meth c H locs cells slots Q (F0 m pc ls (st.map (qv (qr E)))) := by
  have X0 := X
  obtain ⟨hexec, hb, hml, hown, hts, hG, hlk⟩ := X
  unfold qca at h
  dsimp only at h
  split at h
  · rename_i n q hf
    split at h
    · rename_i as' i r' hk9
      obtain ⟨e1, e2⟩ := qcd h
      cases e2
      simp only [Bool.and_eq_true] at e1
      obtain ⟨f1, f2, f3, f4⟩ := e1
      have f2 := Nat.le_of_ble_eq_true f2
      have f3 := Nat.eq_of_beq_eq_true f3
      obtain ⟨g1, g2⟩ := qtk_ok hk9
      have hk3 : qkd k < 3 := by omega
      obtain ⟨m1, m2, m3, m4, m5, m6, m7⟩ := qM_all hk3
      obtain ⟨i1, i2⟩ := qM_0 f3
      have hq := qml_ok hf
      unfold qmok at hq
      simp only [Bool.and_eq_true, decide_eq_true_eq] at hq
      obtain ⟨cellB, hcB, hoB, hclB⟩ := qrc_ok (k := k) f1 m3 hR hS hG l
      intro T hT Y
      obtain ⟨mk, methM, hnamed, hmethM, hstM, habM⟩ := Cond.instanceMethod_spec (hts _ i1)
      obtain ⟨methM', cM, hmethM', -, -, -, -, -, -, hsigM⟩ := Cond.code_spec hnamed (hts _ m1)
      cases hmethM.symm.trans hmethM'
      obtain ⟨c2, r2, m2', q1, q2, q3, q4, kP, hkP, hkPi⟩ := Cond.selects_spec (hts _ i2)
      cases hclB.symm.trans q1
      cases (State.methodFound?_of_named hnamed ⟨m4, m5⟩).symm.trans q2
      cases hnamed.symm.trans q3
      have hselP : selectMethod e.platform s.vm cellB.cls mk = .method mk := by rw [Launch.admits_selectMethod Y.admits]; exact q4
      have hlen : (as'.map (qv (qr E))).length = methM.sig.parameters.length := by
        rw [List.length_map, g2]
        have h9 := hq.2
        rw [hsigM] at h9
        exact (Option.some.inj h9).symm
      have hst9 : st.map (qv (qr E)) = (as'.map (qv (qr E))).reverse ++ .ref (qr E i) :: r.map (qv (qr E)) := by
        rw [g1, List.map_append, List.map_reverse]
        rfl
      have hdc : decode c.code pc = .ok (.invokevirtual idx, 3) := by rw [hb]; exact hd
      obtain ⟨vm₁, X₁, hstep₁⟩ := Y.invokevirtual hexec hown (hts _ (qin_mem hq.1)) hnamed hmethM hstM hkP hkPi ⟨m4, m5⟩ (a := qr E i) (cell := cellB) (by rw [hT]; exact hcB)
        (fun z h => by rw [h] at hoB; cases hoB) hselP hmethM habM hkP hkPi (g := F0 m pc ls (st.map (qv (qr E)))) rfl (argsL := as'.map (qv (qr E))) (rest := r.map (qv (qr E))) hlen hst9 hdc
      have hP := qPre X0 hR hS (.ref i :: as') (T.setVm vm₁) hT X₁.warmed
      obtain ⟨q, T', L, ce, X2, hL, hR1, hqa, hce, hcv, hcl, hz, hkeep, hsteps⟩ := q_goT hM hk3 X₁ (g := F0 m pc ls (r.map (qv (qr E)))) rfl (hls.trans hml.symm) hdc (by show 2 * 0 + _ ≤ 8; rw [show (F0 m pc ls (r.map (qv (qr E)))).stack = r.map (qv (qr E)) from rfl, qcat_map]; omega) (X₁.named hnamed) hts hP hfr hlo hc hs
      have hpl : e.platform.magicAccessors = ({} : Platform).magicAccessors := by rw [X2.admits.platform]
      obtain ⟨cx, hcx, hclx⟩ := Cond.classLink_spec hown (hts _ hlink) e.platform hpl
      cases hcl.symm.trans hcx
      have hk0 : ∃ k, s.vm.classes[ce.cls]? = some k := by
        obtain ⟨dk, _, _, kt, -, -, -, -, -, hkt, -⟩ := hclx.here
        exact ⟨kt, hkt⟩
      have hpass' : ∀ y ∈ pre, covers y pc = false ∨ (y.catchType ≠ 0 ∧ ∃ c, s.vm.ClassLinks e.platform m.cls y.catchType c ∧ s.vm.assignable ce.cls c = false) := by
        intro y hy
        rcases hpass y hy with h9 | ⟨e8, h0, h8, h7⟩
        · exact Or.inl h9
        · obtain ⟨c', hc', hcl'⟩ := Cond.classLink_spec hown (hts _ h8) e.platform hpl
          obtain ⟨c6, t6, u1, u2, u3⟩ := hG.2.2.2.2.2.2.2.2 _ h7
          cases hcl.symm.trans u1
          cases hc'.symm.trans u2
          exact Or.inr ⟨h0, _, hcl', u3⟩
      obtain ⟨vm', hW', hq9⟩ := q_look (e := e) (s0 := s) (f := F0 m pc ls (r.map (qv (qr E)))) (a := q) (VmData.ne_statics_of (by rw [hcv]; rfl)) hk0 (x := x) (rest := rest) hx hx0 hclx (q_asg s.vm ce.cls) pre ((T'.setTop (F0 m pc ls (r.map (qv (qr E))))).pushFrame (.throwing q)) X2.warmed hce hpass'
      have X3 := X2.noted hW'
      have st3 : ∀ target, Steps p.tables e below ((T'.setVm vm').setTop (F0 m x.handlerPc ls [.ref q])) target → Steps p.tables e below ((T'.setTop (F0 m pc ls (r.map (qv (qr E))))).pushFrame (.throwing q)) target := fun target ht => q_caught (g := F0 m pc ls (r.map (qv (qr E)))) X2.here (fun Q Ex d acts => by
        rw [W.findHandler_eq (meth := meth) (code := c) X2.method' X2.code, hsplit]
        exact hq9 Q Ex d acts) ht
      have hT1 : (T.setVm vm₁).heap = H := hT
      rw [hT1] at hz hkeep
      have hS' : va_S (qA E) s.heap T'.heap (locs ++ L) := ⟨Nat.le_trans hS.1 hz, fun z h1 h2 => by rw [hkeep z (Nat.lt_of_lt_of_le h1 hS.1) h2]; exact hS.2.1 z h1 h2, fun z hz9 => by
        rcases List.mem_append.mp hz9 with h9 | h9
        · exact hS.2.2 z h9
        · exact hL z h9⟩
      obtain ⟨t2, a1, b1⟩ := kk T'.heap (locs ++ L) hR1 hS' (T'.setVm vm') rfl X3
      rw [hqa] at a1
      exact ⟨t2, hstep₁ _ fun acts => by rw [doInvoke_state]; exact hsteps.trans (st3 _ a1), b1⟩
    · cases h
  · cases h
end
/-- the first row that covers the place and names the exception -/
def qhf : List (Nat × Nat × Nat × Nat × Nat) → Nat → Nat → Option Nat
  | [], _, _ => none
  | (a, b, h, _, x) :: l, pc, e9 => bif Nat.ble a pc && (Nat.blt pc b && Nat.beq x e9) then some h else qhf l pc e9
theorem qnc_ne {a b : Nat} (ha : a < 3) (hb : b < 3) (h : b ≠ a) : (qxc.getD a "", qxc.getD b "") ∈ qnc := by
  match a, ha, b, hb, h with
  | 0, _, 0, _, h => exact absurd rfl h
  | 0, _, 1, _, _ => decide +kernel
  | 0, _, 2, _, _ => decide +kernel
  | 1, _, 0, _, _ => decide +kernel
  | 1, _, 1, _, h => exact absurd rfl h
  | 1, _, 2, _, _ => decide +kernel
  | 2, _, 0, _, _ => decide +kernel
  | 2, _, 1, _, _ => decide +kernel
  | 2, _, 2, _, h => exact absurd rfl h
  | n + 3, h, _, _, _ => exact absurd h (by omega)
  | 0, _, n + 3, h, _ => exact absurd h (by omega)
  | 1, _, n + 3, h, _ => exact absurd h (by omega)
  | 2, _, n + 3, h, _ => exact absurd h (by omega)
theorem qhf_ok {own : String} {pc e9 h : Nat} : ∀ (rows : List (Nat × Nat × Nat × Nat × Nat)) (tb : List ExceptionTableEntry), tb.map (fun h => (h.startPc, h.endPc, h.handlerPc, h.catchType)) = rows.map qhe → (∀ r ∈ rows, r.2.2.2.1 ≠ 0 ∧ r.2.2.2.2 < 3 ∧ Cond.classLink own r.2.2.2.1 (qxc.getD r.2.2.2.2 "") ∈ qgw) → qhf rows pc e9 = some h →
    ∃ (pre : List ExceptionTableEntry) (x : ExceptionTableEntry) (rest : List ExceptionTableEntry), tb = pre ++ x :: rest ∧ (∀ y ∈ pre, covers y pc = false ∨ ∃ e8, y.catchType ≠ 0 ∧ Cond.classLink own y.catchType (qxc.getD e8 "") ∈ qgw ∧ (qxc.getD e9 "", qxc.getD e8 "") ∈ qnc) ∧ covers x pc = true ∧ x.handlerPc = h ∧ x.catchType ≠ 0 ∧ Cond.classLink own x.catchType (qxc.getD e9 "") ∈ qgw ∧ e9 < 3
  | [], _, _, _, hq => by cases hq
  | (a, b, h', ct, x) :: rows, [], he, _, _ => by cases he
  | (a, b, h', ct, x) :: rows, y :: tb, he, ho, hq => by
    rw [List.map_cons, List.map_cons] at he
    obtain ⟨he1, he2⟩ := List.cons.inj he
    unfold qhe at he1
    dsimp only at he1
    simp only [Prod.mk.injEq] at he1
    obtain ⟨y1, y2, y3, y4⟩ := he1
    obtain ⟨o1, o2, o3⟩ := ho _ List.mem_cons_self
    dsimp only at o1 o2 o3
    unfold qhf at hq
    cases hb : (Nat.ble a pc && (Nat.blt pc b && Nat.beq x e9)) with
    | true =>
      rw [hb] at hq
      cases hq
      simp only [Bool.and_eq_true] at hb
      have b1 := Nat.le_of_ble_eq_true hb.1
      have b2 : pc < b := Nat.le_of_ble_eq_true hb.2.1
      have b3 := Nat.eq_of_beq_eq_true hb.2.2
      subst b3
      refine ⟨[], y, tb, rfl, fun _ h => absurd h List.not_mem_nil, ?_, y3, by rw [y4]; exact o1, by rw [y4]; exact o3, o2⟩
      unfold covers
      rw [y1, y2]
      simp only [Bool.and_eq_true, decide_eq_true_eq]
      exact ⟨b1, b2⟩
    | false =>
      rw [hb] at hq
      obtain ⟨pre, x9, rest, h1, h2, h3, h4, h5, h6, h7⟩ := qhf_ok rows tb he2 (fun r hr => ho r (List.mem_cons_of_mem _ hr)) hq
      refine ⟨y :: pre, x9, rest, by rw [h1]; rfl, ?_, h3, h4, h5, h6, h7⟩
      intro z hz
      rcases List.mem_cons.mp hz with rfl | hz
      · by_cases hcov : covers z pc = true
        · refine Or.inr ⟨x, by rw [y4]; exact o1, by rw [y4]; exact o3, qnc_ne h7 o2 ?_⟩
          intro hxe
          subst hxe
          unfold covers at hcov
          rw [y1, y2] at hcov
          simp only [Bool.and_eq_true, decide_eq_true_eq] at hcov
          have c1 : Nat.ble a pc = true := Nat.ble_eq_true_of_le hcov.1
          have c2 : Nat.blt pc b = true := Nat.ble_eq_true_of_le hcov.2
          rw [c1, c2, Nat.beq_refl] at hb
          cases hb
        · exact Or.inl (by simpa using hcov)
      · exact h2 z hz
