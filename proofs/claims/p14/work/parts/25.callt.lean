/-! The caller of a method that throws: it stands where it called, the exception above it. -/
section
variable {p : Program} {l : Launch} {e : Env} {R : Room} {s : State} {m : MethodId} {args : Array Value} {below : List Frame} {meth : Method} {c : Code} {T : State} {locs : List Loc} {cells slots : Nat}
variable {ξ : Nat → Option (Nat × List Int32)} {E : qEv} {d k e9 : Nat} {as : List Value} {σ σ1 : qH}
set_option maxHeartbeats 4000000 in
theorem q_goT (hM : qMetT ξ E l d k as σ e9 σ1) (hk : qkd k < 3) (X : Stand p l e R s m args below meth c T locs cells slots) {g : JFrame} (hg : g.method = m) (hsize : g.locals.size = c.maxLocals) {ig : Instr} {len : Nat} (hdg : decode c.code g.pc = .ok (ig, len)) (hcat : 2 * g.monitorRoom + (g.stack.map fun v => v.category).sum ≤ 8)
    {mk : MethodId} (hnm : T.methodNamed? (qMq k).2.1 = some mk) (hts : ∀ w ∈ qgw, w.before args s = true) (hP : qPc ξ E as σ (as.map (qv (qr E))).toArray T) (hfr : d + 1 ≤ R.frames) (hlo : 60 * (d + 1) ≤ R.locals) (hc : cells + (σ1.length - σ.length) ≤ R.cells) (hs : slots + (qsz σ1 - qsz σ) ≤ R.slots) :
    ∃ (q : Addr) (T' : State) (L : List Loc) (ce : Cell), Stand p l e R s m args below meth c T' (locs ++ L) (cells + (σ1.length - σ.length)) (slots + (qsz σ1 - qsz σ)) ∧ (∀ z ∈ L, qA E z.base) ∧ qR E σ1 T'.heap ∧ qr E (σ1.length - 1) = q ∧ T'.heap[q]? = some ce ∧ ce.vm = .none ∧ s.vm.findClass (qxc.getD e9 "") = some ce.cls ∧ T.heap.size ≤ T'.heap.size ∧ (∀ z : Nat, z < T.heap.size → ¬ qA E z → T'.heap[z]? = T.heap[z]?) ∧
      Steps p.tables e below (doInvoke e (T.setTop g) [] mk (as.map (qv (qr E))).toArray).1 ((T'.setTop g).pushFrame (.throwing q)) := by
  obtain ⟨m1, m2, m3, m4, m5, m6, m7⟩ := qM_all hk
  have wT : ∀ w ∈ qw k, w.before (as.map (qv (qr E))).toArray T = true := fun w hw => word_at X.warmed (qw_good hk w hw).2 (hts w (qw_good hk w hw).1)
  have hini : (Cond.initialized (qMq k).2.1.cls).before (as.map (qv (qr E))).toArray T = true := word_at X.warmed (qgw_good _ m2).2 (hts _ m2)
  obtain ⟨methY, cY, hmY, hcY, -, hlY, -, -, -, -⟩ := Cond.code_spec hnm (wT _ List.mem_cons_self)
  obtain ⟨kY, hkY, -⟩ := className_of_methodNamed hnm
  have hinitY : kY.init = .initialized := Cond.initialized_spec (findClass_of_methodNamed hnm) hkY hini
  have h : At T g.method c below := by rw [hg]; exact X.here
  have hroom := X.room_calling (g := g) (args' := (as.map (qv (qr E))).toArray) (R' := { frames := d, cells := σ1.length - σ.length, slots := qsz σ1 - qsz σ, locals := 60 * d }) hsize hmY hcY hfr (by rw [hlY]; show _ + (qnl k + 11) + 60 * d ≤ R.locals; omega) hc hs
  have happ : (headSpec (qw k) { frames := d, cells := σ1.length - σ.length, slots := qsz σ1 - qsz σ, locals := 60 * d }).appliesLoose (qMq k).2.1 e.platform (T.calling g mk (as.map (qv (qr E))).toArray) = true :=
    Spec.appliesLoose_calling (g := g) h hdg hnm hkY hinitY hroom (atoms_intro wT)
  obtain ⟨mid, hmid⟩ := h.above
  have hfr9 : (T.setTop g).frames = (.java g :: mid) ++ below := by rw [State.frames_setTop' g h.top, hmid]; rfl
  obtain ⟨o, t, hsteps, -, hend, hq⟩ := Steps.callFree hM p X.admits X.cas X.clock (acts := []) hfr9 happ (qPc_blind _ _ _ _ hP) trivial
  have hq : qQt E e9 σ1 (σ1.length - σ.length) (qsz σ1 - qsz σ) (as.map (qv (qr E))).toArray (T.calling g mk (as.map (qv (qr E))).toArray) o t := hq
  obtain ⟨q, ce, L, rfl, hW, hsm, hL, hR1, hqa, hce, hcv, hcl, hF⟩ := hq
  rw [State.frames_setTop' g h.top] at hend
  have hft : t.frames = .throwing q :: .java g :: T.frames.tail := hend
  obtain ⟨g₀, hg0⟩ := Option.isSome_iff_exists.mp h.top
  obtain ⟨r, hr⟩ := State.topJava?_eq_some.mp hg0
  obtain ⟨b1, b2, b3, b4, b5, b6⟩ := hsm
  have hWt : T.WarmedH t.vm := hW
  obtain ⟨T', hT'⟩ : ∃ z, z = (({ T with heap := t.heap, slotsUsed := t.slotsUsed } : State).setVm t.vm) := ⟨_, rfl⟩
  have hr' : T'.frames = .java g₀ :: r := by rw [hT']; exact hr
  have e3 : t = ({ (T.calling g mk (as.map (qv (qr E))).toArray).setFrames t.frames with heap := t.heap, slotsUsed := t.slotsUsed } : State).setVm t.vm := by
    have h9 : t = ({ t with vm := (T.calling g mk (as.map (qv (qr E))).toArray).vm } : State).setVm t.vm := rfl
    rw [b1] at h9
    exact h9
  have hst : t = (T'.setTop g).pushFrame (.throwing q) := by
    refine e3.trans ?_
    rw [hft, State.calling_eq h.top, State.setFrames_setFrames, State.pushFrame, State.frames_setTop _ hr', State.setTop_of_frames _ hr', State.setFrames_setFrames, hr, hT']
    rfl
  have hsame : T.sameButNew ({ T with heap := t.heap, slotsUsed := t.slotsUsed } : State) L (σ1.length - σ.length) (qsz σ1 - qsz σ) := by
    refine ⟨?_, b2, b3, b4, b5, b6⟩
    obtain ⟨th, hth, -⟩ := State.frames_cons hr
    show ({ T with heap := t.heap, slotsUsed := t.slotsUsed } : State) = { T.setFrames T.frames with heap := t.heap, slotsUsed := t.slotsUsed }
    rw [State.setFrames_self hth]
  subst hg
  have hcl0 : s.vm.findClass (qxc.getD e9 "") = some ce.cls := by
    have h9 : T.vm.findClass (qxc.getD e9 "") = some ce.cls := hcl
    rw [X.warmed.alike.findClass] at h9
    exact h9
  refine ⟨q, T', L, ce, ?_, hL, by rw [hT']; exact hR1, hqa, by rw [hT']; exact hce, hcv, hcl0, by rw [hT']; exact hF.1, fun z h1 h2 => by rw [hT']; exact hF.2 z h1 h2, ?_⟩
  · rw [hT']
    exact ⟨X.admits, X.cas, X.clock, X.frames, X.room, X.hears, X.method, X.code, (X.here.setHeapUsed t.heap t.slotsUsed).setVm hWt.alike, X.tail, State.WarmedH.trans X.warmed hWt, X.limits, X.bytes, X.same.trans (hsame.setVm s.vm)⟩
  · rw [← hst]
    exact hsteps
end
