/-! A throw leaves the method: one cell more, all others as they were. -/
section
variable {p : Program} {l : Launch} {e : Env} {R : Room} {s : State} {m : MethodId} {args : Array Value} {below : List Frame} {meth : Method} {c : Code} {H : Heap} {locs : List Loc} {cells slots : Nat} {Q : State → Prop}
/-- the place where a body stands, counted from now on -/
theorem q_base {T : State} {kc ks : Nat} (X : Stand p l e R s m args below meth c T locs cells slots) (hc : cells + kc ≤ R.cells) (hs : slots + ks ≤ R.slots) :
    Stand p l e { frames := R.frames, cells := kc, slots := ks, locals := R.locals } ((T.setVm s.vm).setFrames (.invoking m args :: below)) m args below meth c T [] 0 0 := by
  have htop : (T.setVm s.vm).topJava?.isSome := X.here.top
  have hF : ((T.setVm s.vm).setFrames (.invoking m args :: below)).frames = .invoking m args :: below := State.frames_setFrames _ (State.cur_lt_of_top htop)
  have hin : ((T.setVm s.vm).setFrames (.invoking m args :: below)).localsInUse = s.localsInUse := (State.localsInUse_invoking hF (meth := meth) (c := c) X.method X.code).trans (State.localsInUse_invoking X.frames X.method X.code).symm
  have hlim : e.platform.stackLimits (T.setVm s.vm).me = e.platform.stackLimits s.me := X.limits
  have hby : (T.setVm s.vm).me.stackBytes = s.me.stackBytes := X.bytes
  refine ⟨X.admits, X.cas, X.clock, hF, ?_, X.hears, X.method, X.code, X.here, X.tail, X.warmed, by rw [State.stackLimits_setFrames]; rfl, by rw [State.stackBytes_setFrames]; rfl, ?_⟩
  · have h := X.room
    have h1 := X.heapSize
    have h2 := X.used
    simp only [State.hasRoom, Bool.and_eq_true, decide_eq_true_eq] at h ⊢
    obtain ⟨⟨⟨⟨a1, a2, a3, a4, a5, a6⟩, a7⟩, a8⟩, -⟩ := h
    rw [X.frames, List.length_cons] at a2 a3
    simp only [hF, hin, List.length_cons, State.stackLimits_setFrames, State.stackBytes_setFrames, hlim, hby]
    have b1 : T.heap.size + kc ≤ e.platform.maxCells := by omega
    have b2 : T.slotsUsed + ks ≤ e.platform.maxSlots := by omega
    exact ⟨⟨⟨⟨a1, a2, a3, a4, a5, a6⟩, b1⟩, b2⟩, X.book⟩
  · obtain ⟨g0, hg0⟩ := Option.isSome_iff_exists.mp htop
    obtain ⟨r, hr⟩ := State.topJava?_eq_some.mp hg0
    obtain ⟨t, ht, -⟩ := State.frames_cons hr
    have hd : T.heap.toList.drop T.heap.size = [] := List.drop_eq_nil_of_le (Nat.le_of_eq Array.length_toList)
    refine ⟨?_, Nat.le_refl _, Nat.le_refl _, ?_, ?_, fun a c9 h9 => ⟨c9, h9, rfl, rfl, fun _ _ => rfl⟩⟩
    · show T.setVm s.vm = { ((T.setVm s.vm).setFrames (.invoking m args :: below)).setFrames (T.setVm s.vm).frames with heap := T.heap, slotsUsed := T.slotsUsed }
      rw [State.setFrames_setFrames, State.setFrames_self ht]
      rfl
    · show T.slotsUsed = T.slotsUsed + ((T.heap.toList.drop T.heap.size).map (·.slots.size)).sum
      rw [hd]
      rfl
    · show ((T.heap.toList.drop T.heap.size).map (·.slots.size)).sum ≤ 0
      rw [hd]
      exact Nat.le_refl _
variable {ξ : Nat → Option (Nat × List Int32)} {E : qEv} {b : ByteArray} {nL pc : Nat} {ls : Array Slot} {rest : List Value} {σ : qH}
/-- the words of the throws, all three -/
theorem qx_all {e9 ik ic : Nat} (h : qxi3 e9 = some (ik, ic)) (hts : ∀ w ∈ qgw, w.before args s = true) (hG : qG ξ E s) : (∀ w ∈ Bundle.ownAtoms "NestedArchives" ic (qxc.getD e9 "") qxn, w.before args s = true) ∧ (Cond.classLink "NestedArchives" ik (qxc.getD e9 "")).before args s = true ∧ (Cond.initialized (qxc.getD e9 "")).before args s = true ∧ Bundle.fit (qxc.getD e9 "") = true := by
  match e9, h with
  | 0, h =>
    cases h
    exact ⟨qxw_ok hts hG qx_w0, hts _ (qin_mem (Bool.and_eq_true_iff.mp qx_k0).1), hts _ (qin_mem (Bool.and_eq_true_iff.mp qx_k0).2), by decide +kernel⟩
  | 1, h =>
    cases h
    exact ⟨qxw_ok hts hG qx_w1, hts _ (qin_mem (Bool.and_eq_true_iff.mp qx_k1).1), hts _ (qin_mem (Bool.and_eq_true_iff.mp qx_k1).2), by decide +kernel⟩
  | 2, h =>
    cases h
    exact ⟨qxw_ok hts hG qx_w2, hts _ (qin_mem (Bool.and_eq_true_iff.mp qx_k2).1), hts _ (qin_mem (Bool.and_eq_true_iff.mp qx_k2).2), by decide +kernel⟩
  | n + 3, h => cases h
set_option maxHeartbeats 4000000 in
theorem q_throw (X : qX ξ E 0 b nL p s m args meth c) (htr0 : l.stackTraces = false) {e9 ik ic ist : Nat} {tx : String} (he : qxi3 e9 = some (ik, ic)) (hms : (ist, tx) ∈ qms)
    (d0 : decode b pc = .ok (.new ik, 3)) (d3 : decode b (pc + 3) = .ok (.dup, 1)) (d4 : decode b (pc + 4) = .ok (.ldc ist, 2)) (d6 : decode b (pc + 6) = .ok (.invokespecial ic, 3)) (d9 : decode b (pc + 9) = .ok (.athrow, 1))
    (hR : qR E σ H) (hS : va_S (qA E) s.heap H locs) (hls : ls.size = nL) (hout : ∀ x ∈ c.exceptionTable.toList, covers x (pc + 9) = false) (hfr : 6 ≤ R.frames) (hlo : 120 ≤ R.locals) (hcat : (rest.map fun v => v.category).sum ≤ 8) (hc : cells + 1 ≤ R.cells) (hs : slots + 6 ≤ R.slots)
    (kk : ∀ (U : State) (ce : Cell), U.status = .running → Ended U below (.threw H.size) → s.WarmedH U.vm → s.sameButNew ({ U with vm := s.vm } : State) locs (cells + 1) (slots + 6) → qR E (σ ++ [.inr (.inr (.inr (.inr (.inr 6))))]) U.heap → U.heap[H.size]? = some ce → ce.vm = .none → s.vm.findClass (qxc.getD e9 "") = some ce.cls → va_F (qA E) s U → Q U) : W p l e R s m args below meth c H locs cells slots Q (F0 m pc ls rest) := by
  obtain ⟨hx, hb, hml, hown, hts, hG, hlk⟩ := X
  intro T hT Y
  have htr : e.platform.stackTraces = false := (show e.platform.stackTraces = l.stackTraces by rw [Y.admits.platform]).trans htr0
  have Z := q_base (kc := 1) (ks := 6) Y hc hs
  obtain ⟨s', hA⟩ : ∃ z, z = (T.setVm s.vm).setFrames (.invoking m args :: below) := ⟨_, rfl⟩
  rw [← hA] at Z
  have hvm : s'.vm = s.vm := by rw [hA]; rfl
  have hhp : s'.heap = H := by rw [hA]; exact hT
  have hW0 : s.WarmedH s'.vm := by rw [hvm]; exact State.WarmedH.refl s
  have hts' : ∀ w ∈ qgw, w.before args s' = true := fun w hw => word_at hW0 (qgw_good w hw).2 (hts w hw)
  have hG' : qG ξ E s' := hG.moved hW0 (fun q h1 h2 => by rw [hhp]; exact hS.2.1 q h1 h2)
  obtain ⟨w1, w2, w3, w4⟩ := qx_all he hts' hG'
  obtain ⟨sa, hsa⟩ := hG'.2.2.2.2.2.2.2.1 _ hms
  have hown' : s'.vm.findClass "NestedArchives" = some m.cls := by rw [hvm]; exact hown
  have hins : (Cond.instantiable (qxc.getD e9 "") 6).before args s' = true := w1 _ (by simp [Bundle.ownAtoms])
  obtain ⟨vm1, cX, kX, hfX, hkX, -, -, X1, st1⟩ := Z.newCold hx (own := "NestedArchives") (C := qxc.getD e9 "") (index := ik) (n := 6) hown' w2 hins w3 (g := F0 m pc ls rest) rfl (by rw [hb]; exact d0) (Nat.le_refl _) (Nat.le_refl _)
  generalize hT1 : (T.setVm vm1).pushCell { cls := cX, slots := kX.instanceTypes.map defaultValue, vm := .none } = T1 at X1 st1
  have hcA : T1.heap[T.heap.size]? = some (freshCell cX kX) := by rw [← hT1]; exact State.heap_pushCell_size _ _
  have hcat1 : (Value.ref T.heap.size).category = 1 := rfl
  obtain ⟨U, hsteps, hrun, hend, hW, hsame, ce, hce, hO⟩ := X1.ctorThrowS hx htr (own := "NestedArchives") (cls := qxc.getD e9 "") (names := qxn) (ic := ic) hown' w4 (by decide +kernel) w1 (fun x hx9 => nomatch hx9) hfX hkX hcA (by rw [hhp, hT]; exact Nat.le_refl _) (msg := .ref sa) rfl
    (g := { method := m, pc := pc + 6, locals := ls, stack := .ref sa :: .ref T.heap.size :: .ref T.heap.size :: rest, locked := none }) rfl (by rw [hml]; exact hls) rfl rfl (rest := rest) rfl
    (by rw [hb]; exact d6) (by rw [hb]; exact d9) hout (by show 2 + 3 < R.frames; omega) (by show 2 * 0 + _ + (13 * (2 + 1) + 42) ≤ R.locals; simp only [List.map_cons, List.sum_cons, hcat1]; omega) hlk
  have hsame0 := hsame
  obtain ⟨-, f1, f3, -, -, f6⟩ := hsame
  have hH : T.heap.size = H.size := by rw [hT]
  have f1 : H.size ≤ U.heap.size := by rw [← hhp]; exact f1
  have f3 : U.heap.size ≤ H.size + 1 := by rw [← hhp]; exact f3
  have keep : ∀ q : Nat, q < H.size → U.heap[q]? = H[q]? := by
    intro q hq
    obtain ⟨c9, g1, g2, g3, g4⟩ := f6 q _ (by rw [hhp]; exact Array.getElem?_eq_getElem hq)
    have hs9 : c9.slots = (H[q]).slots := Array.ext_getElem? fun i => g4 i (fun z => nomatch z)
    rw [hs9] at g2
    have g5 : U.heap[q]? = some c9 := g1
    rw [g5, g2, Array.getElem?_eq_getElem hq]
  rw [hH] at hce hend
  have hsz : U.heap.size = H.size + 1 := by
    have := (Array.getElem?_eq_some_iff.mp hce).1
    omega
  have hcl : s.vm.findClass (qxc.getD e9 "") = some ce.cls := by
    have h9 := hO.cls
    rw [hvm] at h9
    exact h9
  have hall : s.sameButNew ({ U with vm := s.vm } : State) locs (cells + 1) (slots + 6) := by
    subst hA
    obtain ⟨e1, e2⟩ := hsame0
    rw [State.setFrames_setFrames] at e1
    have h2 : (T.setVm s.vm).sameButNew ({ U with vm := s.vm } : State) [] (0 + 1) (0 + 6) := ⟨e1, e2⟩
    have h3 := Y.same.trans h2
    rw [List.append_nil] at h3
    exact h3.mono (Nat.le_refl _) (Nat.le_refl _)
  have hF : va_F (qA E) s U := ⟨by have := hS.1; omega, fun q h1 h2 => by rw [keep q (Nat.lt_of_lt_of_le h1 hS.1)]; exact hS.2.1 q h1 h2⟩
  refine ⟨U, ?_, kk U ce hrun hend (State.WarmedH.trans hW0 hW) hall (hR.junk hsz keep hce (by rw [hO.vm]; rfl)) hce hO.vm hcl hF⟩
  refine st1 _ ?_
  show Steps p.tables e below (T1.setTop { method := m, pc := pc + 3, locals := ls, stack := .ref T.heap.size :: rest, locked := none }) _
  have d3' : decode c.code (pc + 3) = .ok (.dup, 1) := by rw [hb]; exact d3
  jvm_step X1.here [X1.here.top, hx, d3', Value.category]
  exact X1.ldcString hx (own := "NestedArchives") (text := tx) (index := ist) (a := sa) hown' hsa.1 hsa.2 (g := { method := m, pc := pc + 4, locals := ls, stack := .ref T.heap.size :: .ref T.heap.size :: rest, locked := none }) rfl (by rw [hb]; exact d4) _ hsteps
end
