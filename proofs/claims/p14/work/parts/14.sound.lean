/-! THE RUN IS SOUND: what the small machine answers, the machine answers. -/
theorem qM_ok {j : Nat} (h : qkd j < 3) : ∃ ps, qMok (qkd j) (qMq j) ps = true := by
  unfold qkd at h ⊢
  split at h
  · rename_i q hq
    have hl : j < qMk.length := (List.getElem?_eq_some_iff.mp hq).1
    have h1 : qMc j = true := List.all_eq_true.mp qk_M j (List.mem_range.mpr hl)
    unfold qMc at h1
    rw [hq] at h1
    refine ⟨q.2, ?_⟩
    obtain ⟨k, ps⟩ := q
    dsimp only at h h1 ⊢
    split at h1
    · rename_i e
      cases e
      omega
    · rename_i e
      cases e
      exact h1
    · rename_i e
      cases e
  · omega
theorem qM_all {j : Nat} (h : qkd j < 3) : Cond.code (qMq j).2.1 (qMq j).2.2.1 (qnl j) (qrt j) ∈ qgw ∧ Cond.initialized (qMq j).2.1.cls ∈ qgw ∧ (qMq j).2.1.cls = qnm (qco j) ∧ (qMq j).2.1.cls ≠ "java/lang/invoke/MethodHandle" ∧ (qMq j).2.1.cls ≠ "java/lang/invoke/VarHandle" ∧ plainFor (qMq j).2.1 = true ∧ qnl j < 40 := by
  obtain ⟨ps, hm⟩ := qM_ok h
  unfold qMok at hm
  simp only [Bool.and_eq_true, decide_eq_true_eq] at hm
  exact ⟨qin_mem hm.1, qin_mem hm.2.1, hm.2.2.1, hm.2.2.2.1, hm.2.2.2.2.1, hm.2.2.2.2.2.1, Nat.le_of_ble_eq_true hm.2.2.2.2.2.2.1⟩
theorem qM_0 {j : Nat} (h : qkd j = 0) : Cond.instanceMethod (qMq j).2.1 ∈ qgw ∧ Cond.selects (qMq j).2.1.cls (qMq j).2.1 (qMq j).2.1 ∈ qgw := by
  obtain ⟨ps, hm⟩ := qM_ok (show qkd j < 3 by omega)
  unfold qMok at hm
  rw [h] at hm
  simp only [Bool.and_eq_true, decide_eq_true_eq] at hm
  exact ⟨qin_mem hm.2.2.2.2.2.2.2.1, qin_mem hm.2.2.2.2.2.2.2.2⟩
theorem qM_1 {j : Nat} (h : qkd j = 1) : Cond.static (qMq j).2.1 ∈ qgw := by
  obtain ⟨ps, hm⟩ := qM_ok (show qkd j < 3 by omega)
  unfold qMok at hm
  rw [h] at hm
  simp only [Bool.and_eq_true, decide_eq_true_eq] at hm
  exact qin_mem hm.2.2.2.2.2.2.2
theorem qM_2 {j : Nat} (h : qkd j = 2) : Cond.instanceMethod (qMq j).2.1 ∈ qgw ∧ (qMq j).2.1.name = "<init>" ∧ qrt j = none := by
  obtain ⟨ps, hm⟩ := qM_ok (show qkd j < 3 by omega)
  unfold qMok at hm
  rw [h] at hm
  simp only [Bool.and_eq_true, decide_eq_true_eq] at hm
  exact ⟨qin_mem hm.2.2.2.2.2.2.2.1, hm.2.2.2.2.2.2.2.2.1, hm.2.2.2.2.2.2.2.2.2⟩
def qw (j : Nat) : List Cond := Cond.code (qMq j).2.1 (qMq j).2.2.1 (qnl j) (qrt j) :: qgw
theorem qgw_good : GoodIn qgw qgw := fun w h => ⟨h, good_of_word (List.mem_filter.mp h).2⟩
theorem qw_good {j : Nat} (h : qkd j < 3) : GoodIn qgw (qw j) := fun w hw => by
  rcases List.mem_cons.mp hw with rfl | hw
  · exact qgw_good _ (qM_all h).1
  · exact qgw_good _ hw
theorem qG.moved {ξ : Nat → Option (Nat × List Int32)} {E : qEv} {s U : State} (h : qG ξ E s) (hW : s.WarmedH U.vm) (hq : ∀ q : Nat, q < s.heap.size → ¬ qA E q → U.heap[q]? = s.heap[q]?) : qG ξ E U := by
  obtain ⟨hnw, hK, hao, ⟨hY1, hY2, hY3, hY4, hY5, hY6⟩, hT1, hT2, hT3, hT4, hT5⟩ := h
  refine ⟨fun w hw => ?_, va_K.moved hW.alike hK, va_AO.moved hW.alike hao, ⟨fun i li hi => ?_, fun i C n hi => ?_, fun i li hi => ⟨(hY3 i li hi).1, ((hY3 i li hi).2.kept hq).moved hW.alike⟩, fun i k x hi => ?_, (hY5.kept hq).moved hW.alike, (hY6.kept hq).moved hW.alike⟩, (hT1.kept hq).moved hW.alike, (hT2.kept hq).moved hW.alike, fun w hw => ?_, fun q hq9 => (hT4 q hq9).imp (fun a ha => vk_R.warm hW ha), fun q hq9 => va_Nc.moved hW.alike (hT5 q hq9)⟩
  · have h1 := hnw w hw
    have h2 := (List.mem_filter.mp hw).2
    revert h1 h2
    split
    · intro h1 _; exact va_Nw.warmF hW h1
    · intro h1 _; exact va_Nw.warmM hW h1
    · intro _ h2; cases h2
  · exact ⟨(hY1 i li hi).1, ((hY1 i li hi).2.kept hq).moved hW.alike⟩
  · exact ⟨(hY2 i C n hi).1, ((hY2 i C n hi).2.kept hq).moved hW.alike⟩
  · obtain ⟨g1, g2, g3, g4, g5⟩ := hY4 i k x hi
    exact ⟨g1, vk_R.warm hW g2, (g3.kept hq).moved hW.alike, (g4.kept hq).moved hW.alike, (g5.kept hq).moved hW.alike⟩
  · have h1 := hT3 w hw
    have h2 := (List.mem_filter.mp hw).2
    revert h1 h2
    split
    · intro h1 _; exact va_Nw.warmC hW h1
    · intro h1 _; exact va_Nw.warmD hW h1
    · intro _ h2; cases h2
theorem qG.calling {ξ : Nat → Option (Nat × List Int32)} {E : qEv} {U : State} {g : JFrame} {mk : MethodId} {a : Array Value} (h : qG ξ E U) : qG ξ E (U.calling g mk a) := by
  obtain ⟨hnw, hK, hao, ⟨hY1, hY2, hY3, hY4, hY5, hY6⟩, hT1, hT2, hT3, hT4, hT5⟩ := h
  have hvm : U.vm.Alike (U.calling g mk a).vm := Vm.Alike.refl U.vm
  refine ⟨fun w hw => ?_, va_K.moved hvm hK, va_AO.moved hvm hao, ⟨fun i li hi => ?_, fun i C n hi => ?_, fun i li hi => ⟨(hY3 i li hi).1, (hY3 i li hi).2.moved hvm⟩, fun i k x hi => ?_, hY5.moved hvm, hY6.moved hvm⟩, hT1.moved hvm, hT2.moved hvm, fun w hw => ?_, fun q hq9 => (hT4 q hq9).imp (fun _ ha => vk_R.same (U := U.calling g mk a) rfl ha), fun q hq9 => va_Nc.moved hvm (hT5 q hq9)⟩
  · have h1 := hnw w hw
    have h2 := (List.mem_filter.mp hw).2
    revert h1 h2
    split
    · intro h1 _; exact va_Nw.same (U := U.calling g mk a) rfl rfl h1
    · intro h1 _; exact va_Nw.same (U := U.calling g mk a) rfl rfl h1
    · intro _ h2; cases h2
  · exact ⟨(hY1 i li hi).1, (hY1 i li hi).2.moved hvm⟩
  · exact ⟨(hY2 i C n hi).1, (hY2 i C n hi).2.moved hvm⟩
  · obtain ⟨g1, g2, g3, g4, g5⟩ := hY4 i k x hi
    exact ⟨g1, vk_R.same (U := U.calling g mk a) rfl g2, g3.moved hvm, g4.moved hvm, g5.moved hvm⟩
  · have h1 := hT3 w hw
    have h2 := (List.mem_filter.mp hw).2
    revert h1 h2
    split
    · intro h1 _; exact va_Nw.same (U := U.calling g mk a) rfl rfl h1
    · intro h1 _; exact va_Nw.same (U := U.calling g mk a) rfl rfl h1
    · intro _ h2; cases h2
def qPc (ξ : Nat → Option (Nat × List Int32)) (E : qEv) (as : List Value) (σ : qH) : Array Value → State → Prop := fun v U => v = (as.map (qv (qr E))).toArray ∧ qR E σ U.heap ∧ qG ξ E U
def qQc (E : qEv) (v : Option Value) (σ : qH) : Array Value → State → Outcome → State → Prop := fun _ st o t => o = .returned (v.map (qv (qr E))) ∧ qR E σ t.heap ∧ va_F (qA E) st t
theorem qPc_blind {ξ : Nat → Option (Nat × List Int32)} {E : qEv} {as : List Value} {σ : qH} : FrameBlind (qPc ξ E as σ) := fun _ _ _ _ h => ⟨h.1, h.2.1, h.2.2.calling⟩
theorem lg_sl_len (E : qEv) (as : List Value) : (lg_sl (as.map (qv (qr E)))).length = (lg_sl as).length := by
  induction as with
  | nil => rfl
  | cons v as ih =>
    unfold lg_sl at ih ⊢
    rw [List.map_cons, List.flatMap_cons, List.flatMap_cons, List.length_append, List.length_append, ih, qv_cat]
    split <;> rfl
theorem lv_args_map (E : qEv) : ∀ (as : List Value) (i : Nat), lv_args i (as.map (qv (qr E))) = qm (qr E) (lv_args i as)
  | [], _ => rfl
  | v :: as, i => by
    rw [List.map_cons]
    unfold lv_args
    rw [qv_cat, lv_args_map E as]
    rfl
theorem qcat_map (E : qEv) (r : List Value) : ((r.map (qv (qr E))).map fun v => v.category).sum = qcat r := by
  unfold qcat
  rw [List.map_map]
  congr 1
  apply List.map_congr_left
  intro v _
  exact qv_cat _ v
section
variable {p : Program} {l : Launch} {e : Env} {R : Room} {s : State} {m : MethodId} {args : Array Value} {below : List Frame} {meth : Method} {c : Code} {H : Heap} {locs : List Loc} {cells slots : Nat} {Q : State → Prop}
variable {ξ : Nat → Option (Nat × List Int32)} {E : qEv} {co : Nat} {b : ByteArray} {nL pc : Nat} {ls : Array Slot} {st st' : List Value} {σ σ' : qH}
theorem q_back {mc ms : Nat} {v : Option Value} {σ1 : qH} {a : Array Value} {st0 rest : List Value} (hr : va_Run p l e R s m args below meth c H locs cells slots mc ms (F0 m pc ls st0) rest (qQc E v σ1 a) (qA E)) (hS : va_S (qA E) s.heap H locs)
    (kk : ∀ (H1 : Heap) (locs1 : List Loc), qR E σ1 H1 → va_S (qA E) s.heap H1 locs1 → W p l e R s m args below meth c H1 locs1 (cells + mc) (slots + ms) Q (F0 m (pc + 3) ls ((v.map (qv (qr E))).toList ++ rest))) : W p l e R s m args below meth c H locs cells slots Q (F0 m pc ls st0) := by
  intro T hT X
  obtain ⟨v9, st₀, t, T', L, h0, X', hL, e1, e2, ⟨hv, hq, hz, hk⟩, st⟩ := hr T hT X
  cases hv
  rw [h0] at hz hk
  obtain ⟨t2, a1, b1⟩ := kk T'.heap (locs ++ L) (by rw [e1]; exact hq)
    ⟨Nat.le_trans hS.1 (by rw [e1]; exact hz), fun q h1 h2 => by rw [e1, hk q (Nat.lt_of_lt_of_le h1 hS.1) h2]; exact hS.2.1 q h1 h2, fun q hq9 => by
      rcases List.mem_append.mp hq9 with h | h
      · exact hS.2.2 q h
      · exact hL q h⟩ T' rfl X'
  exact ⟨t2, st t2 a1, b1⟩
/-- what a callee's contract is, for a caller -/
def qMet (ξ : Nat → Option (Nat × List Int32)) (E : qEv) (l : Launch) (d k : Nat) (as : List Value) (σ : qH) (v : Option Value) (σ1 : qH) : Prop :=
  Met l (qMq k).2.1 (qw k) { frames := d, cells := σ1.length - σ.length, slots := qsz σ1 - qsz σ, locals := 60 * d } (qPc ξ E as σ) (qQc E v σ1) (σ1.length - σ.length) (qsz σ1 - qsz σ) (qA E)
theorem qPre (X : qX ξ E co b nL p s m args meth c) (hR : qR E σ H) (hS : va_S (qA E) s.heap H locs) (as : List Value) : ∀ U : State, U.heap = H → s.WarmedH U.vm → qPc ξ E as σ (as.map (qv (qr E))).toArray U := fun U hU hW => ⟨rfl, by rw [hU]; exact hR, X.2.2.2.2.2.1.moved hW (fun q h1 h2 => by rw [hU]; exact hS.2.1 q h1 h2)⟩
theorem qml_ok {co idx kd k n : Nat} {q : Nat × Nat} (h : qlk (qmL.getD co []) idx = some ((kd, k, n), q)) : qmok co (idx, (kd, k, n), q) = true := List.all_eq_true.mp (qk_m co) _ (qlk_mem h)
theorem qrc_ok {i k : Nat} (h : qrc σ i k = true) (hm : (qMq k).2.1.cls = qnm (qco k)) (hR : qR E σ H) (hS : va_S (qA E) s.heap H locs) (hG : qG ξ E s) (l : Launch) : ∃ cellB : Cell, H[qr E i]? = some cellB ∧ cellB.vm.isStatics = false ∧ s.vm.findClass (qMq k).2.1.cls = some cellB.cls := by
  unfold qrc at h
  cases hbl : Nat.blt i qnE with
  | true =>
    rw [hbl] at h
    simp only [cond_true, Bool.and_eq_true] at h
    obtain ⟨h1, h2⟩ := h
    have h1 := Nat.eq_of_beq_eq_true h1
    split at h2
    · rename_i tx htx
      obtain ⟨kx, x⟩ := tx
      obtain ⟨-, -, -, ⟨-, -, -, hY4, -, -⟩, -⟩ := hG
      obtain ⟨-, -, -, -, g5⟩ := hY4 i kx x htx
      obtain ⟨cell, c1, c2, c3, c4⟩ := g5.kept hS.2.1
      refine ⟨cell, by rw [qblt_r hbl]; exact c1, c2, ?_⟩
      rw [hm, h1]
      exact c3
    · cases h2
  | false =>
    rw [hbl] at h
    simp only [cond_false] at h
    split at h
    · rename_i ci fs hi
      have f1 := Nat.eq_of_beq_eq_true h
      obtain ⟨-, rr, hrr, cell, q1, q2, q3, -⟩ := hR.2 i _ _ hi rfl
      have hcl := qcl_lt hrr
      subst f1
      have hC : (qMq k).2.1.cls = qfC (qco k) := by rw [hm]; exact (of_decide_eq_true (List.all_eq_true.mp qk_ci _ (List.mem_range.mpr hcl))).symm
      have hKn := hG.2.1.1 (qco k) _ (qcl_at hcl)
      exact ⟨cell, q1, by rw [q3]; rfl, by rw [hC, q2]; exact hKn.2.1⟩
    · cases h
set_option maxHeartbeats 4000000 in
theorem q_call (X : qX ξ E (qco co) b nL p s m args meth c) {ins : Instr} {len d k : Nat} {as r : List Value} {v : Option Value} {σ1 : qH} (hd : decode b pc = .ok (ins, len)) (h : qca co ins len st σ = some (.inl (k, as, r))) (hls : ls.size = nL) (hM : qMet ξ E l d k as σ v σ1) (hR : qR E σ H) (hS : va_S (qA E) s.heap H locs) (hfr : d + 1 ≤ R.frames) (hlo : 60 * (d + 1) ≤ R.locals)
    (hc : cells + (σ1.length - σ.length) ≤ R.cells) (hs : slots + (qsz σ1 - qsz σ) ≤ R.slots)
    (kk : ∀ (H1 : Heap) (locs1 : List Loc), qR E σ1 H1 → va_S (qA E) s.heap H1 locs1 → W p l e R s m args below meth c H1 locs1 (cells + (σ1.length - σ.length)) (slots + (qsz σ1 - qsz σ)) Q (F0 m (pc + 3) ls ((v.toList ++ r).map (qv (qr E))))) : W p l e R s m args below meth c H locs cells slots Q (F0 m pc ls (st.map (qv (qr E)))) := by
  have kk : ∀ (H1 : Heap) (locs1 : List Loc), qR E σ1 H1 → va_S (qA E) s.heap H1 locs1 → W p l e R s m args below meth c H1 locs1 (cells + (σ1.length - σ.length)) (slots + (qsz σ1 - qsz σ)) Q (F0 m (pc + 3) ls ((v.map (qv (qr E))).toList ++ r.map (qv (qr E)))) := by
    intro H1 locs1 a1 a2
    have a3 := kk H1 locs1 a1 a2
    rw [List.map_append] at a3
    cases v <;> exact a3
  have X0 := X
  obtain ⟨hx, hb, hml, hown, hts, hG, hlk⟩ := X
  unfold qca at h
  split at h
  · rename_i idx
    split at h
    · rename_i n q hf
      split at h
      · rename_i as' i r' hk9
        obtain ⟨e1, e2⟩ := qcd h
        cases e2
        simp only [Bool.and_eq_true] at e1
        obtain ⟨f1, f2, f3, f4⟩ := e1
        have f2 := Nat.le_of_ble_eq_true f2
        have f3 := Nat.eq_of_beq_eq_true f3
        obtain ⟨g1, g2⟩ := qtk_ok hk9
        have hk3 : qkd k < 3 := by omega
        obtain ⟨m1, m2, m3, m4, m5, m6, m7⟩ := qM_all hk3
        obtain ⟨i1, i2⟩ := qM_0 f3
        have hq := qml_ok hf
        unfold qmok at hq
        simp only [Bool.and_eq_true, decide_eq_true_eq] at hq
        have hT : GoodIn qgw (wsV (qnm (qco co)) idx (qMq k).2.1.cls (qMq k).2.1 (qw k)) := by
          intro w hw
          unfold wsV at hw
          rcases List.mem_append.mp hw with hw | hw
          · simp only [List.mem_cons, List.not_mem_nil, or_false] at hw
            rcases hw with rfl | rfl | rfl | rfl
            · exact qgw_good _ (qin_mem hq.1)
            · exact qgw_good _ i1
            · exact qgw_good _ i2
            · exact qgw_good _ m2
          · exact qw_good hk3 w hw
        have hrec := qrc_ok (k := k) f1 m3 hR hS hG l
        refine q_back (va_runV (As := as'.map (qv (qr E))) (rest := r.map (qv (qr E))) ⟨hx, hb, hml, hown, hts⟩ hM (cwV n hts hT rfl rfl rfl ⟨rfl, m4, m5, hq.2⟩ ⟨hfr, by show 8 + (qnl k + 11) + 60 * d ≤ R.locals; omega⟩) ⟨qPc_blind, hrec, qPre X0 hR hS (.ref i :: as')⟩ rfl (by rw [List.length_map]; exact g2) hls ?_ ?_ hd ⟨hc, hs⟩) hS kk
        · show st.map (qv (qr E)) = _
          rw [g1, List.map_append, List.map_reverse]
          rfl
        · show 2 * 0 + _ ≤ 8
          rw [qcat_map]
          omega
      · cases h
    · cases h
  · rename_i idx
    split at h
    · rename_i n q hf
      split at h
      · rename_i as' r' hk9
        obtain ⟨e1, e2⟩ := qcd h
        cases e2
        simp only [Bool.and_eq_true] at e1
        obtain ⟨f2, f3, f4⟩ := e1
        have f2 := Nat.le_of_ble_eq_true f2
        have f3 := Nat.eq_of_beq_eq_true f3
        obtain ⟨g1, g2⟩ := qtk_ok hk9
        have hk3 : qkd k < 3 := by omega
        obtain ⟨m1, m2, m3, m4, m5, m6, m7⟩ := qM_all hk3
        have i1 := qM_1 f3
        have hq := qml_ok hf
        unfold qmok at hq
        simp only [Bool.and_eq_true, decide_eq_true_eq] at hq
        have hT : GoodIn qgw (va_wsS (qnm (qco co)) idx (qMq k).2.1 (qw k)) := by
          intro w hw
          unfold va_wsS at hw
          rcases List.mem_append.mp hw with hw | hw
          · simp only [List.mem_cons, List.not_mem_nil, or_false] at hw
            rcases hw with rfl | rfl | rfl
            · exact qgw_good _ (qin_mem hq.1)
            · exact qgw_good _ i1
            · exact qgw_good _ m2
          · exact qw_good hk3 w hw
        refine q_back (va_runS (As := as.map (qv (qr E))) (rest := r.map (qv (qr E))) ⟨hx, hb, hml, hown, hts⟩ hM (va_cwS n hts hT rfl rfl rfl ⟨m4, m5, hq.2⟩ ⟨hfr, by show 8 + (qnl k + 11) + 60 * d ≤ R.locals; omega⟩) ⟨qPc_blind, qPre X0 hR hS as⟩ rfl (by rw [List.length_map]; exact g2) hls ?_ ?_ hd ⟨hc, hs⟩) hS kk
        · show st.map (qv (qr E)) = _
          rw [g1, List.map_append, List.map_reverse]
        · show 2 * 0 + _ ≤ 8
          rw [qcat_map]
          omega
      · cases h
    · rename_i n q hf
      split at h
      · rename_i as' r' hk9
        obtain ⟨e1, e2⟩ := qcd h
        cases e2
        simp only [Bool.and_eq_true] at e1
        obtain ⟨f2, f3, f4⟩ := e1
        have f2 := Nat.le_of_ble_eq_true f2
        have f3 := Nat.eq_of_beq_eq_true f3
        obtain ⟨g1, g2⟩ := qtk_ok hk9
        have hk3 : qkd k < 3 := by omega
        obtain ⟨m1, m2, m3, m4, m5, m6, m7⟩ := qM_all hk3
        have i1 := qM_1 f3
        have hq := qml_ok hf
        unfold qmok at hq
        simp only [Bool.and_eq_true, decide_eq_true_eq] at hq
        refine q_back (va_runSN (As := as.map (qv (qr E))) (rest := r.map (qv (qr E))) ⟨hx, hb, hml, hown, hts⟩ hM ⟨va_cnB n hts (qw_good hk3) rfl rfl rfl (hG.1 _ (List.mem_filter.mpr ⟨qis_mem hq.1, rfl⟩)) (hts _ m2) ⟨m4, m5, hq.2⟩ ⟨hfr, by show 8 + (qnl k + 11) + 60 * d ≤ R.locals; omega⟩, hts _ i1, trivial⟩ ⟨qPc_blind, qPre X0 hR hS as⟩ rfl (by rw [List.length_map]; exact g2) hls ?_ ?_ hd ⟨hc, hs⟩) hS kk
        · show st.map (qv (qr E)) = _
          rw [g1, List.map_append, List.map_reverse]
        · show 2 * 0 + _ ≤ 8
          rw [qcat_map]
          omega
      · cases h
    · split at h
      · obtain ⟨e1, e2⟩ := qcd h
        cases e2
      · cases h
    · split at h
      · split at h
        · obtain ⟨e1, e2⟩ := qcd h
          cases e2
        · cases h
      · cases h
    · cases h
  · rename_i idx
    split at h
    · rename_i n q hf
      split at h
      · rename_i as' i r' hk9
        obtain ⟨e1, e2⟩ := qcd h
        cases e2
        simp only [Bool.and_eq_true] at e1
        obtain ⟨f2, f3, f4⟩ := e1
        have f2 := Nat.le_of_ble_eq_true f2
        have f3 := Nat.eq_of_beq_eq_true f3
        obtain ⟨g1, g2⟩ := qtk_ok hk9
        have hk3 : qkd k < 3 := by omega
        obtain ⟨m1, m2, m3, m4, m5, m6, m7⟩ := qM_all hk3
        obtain ⟨i1, i2, i3⟩ := qM_2 f3
        have hq := qml_ok hf
        unfold qmok at hq
        simp only [Bool.and_eq_true, decide_eq_true_eq] at hq
        refine q_back (va_runI (As := as'.map (qv (qr E))) (b := qr E i) (rest := r.map (qv (qr E))) ⟨hx, hb, hml, hown, hts⟩ hM (cwI n hts (qw_good hk3) (by unfold qw; rw [i3]) rfl rfl (hts _ m2) (hts _ (qin_mem hq.1)) (hts _ i1) i2 ⟨m4, m5, hq.2⟩ ⟨hfr, by show 8 + (qnl k + 11) + 60 * d ≤ R.locals; omega⟩) ⟨qPc_blind, qPre X0 hR hS (.ref i :: as')⟩ rfl (by rw [List.length_map]; exact g2) hls ?_ ?_ hd ⟨hc, hs⟩) hS kk
        · show st.map (qv (qr E)) = _
          rw [g1, List.map_append, List.map_reverse]
          rfl
        · show 2 * 0 + _ ≤ 8
          rw [qcat_map]
          omega
      · cases h
    · rename_i n q hf
      split at h
      · rename_i as' i r' hk9
        obtain ⟨e1, e2⟩ := qcd h
        cases e2
        simp only [Bool.and_eq_true] at e1
        obtain ⟨f2, f3, f4⟩ := e1
        have f2 := Nat.le_of_ble_eq_true f2
        have f3 := Nat.eq_of_beq_eq_true f3
        obtain ⟨g1, g2⟩ := qtk_ok hk9
        have hk3 : qkd k < 3 := by omega
        obtain ⟨m1, m2, m3, m4, m5, m6, m7⟩ := qM_all hk3
        obtain ⟨i1, i2, i3⟩ := qM_2 f3
        have hq := qml_ok hf
        unfold qmok at hq
        simp only [Bool.and_eq_true, decide_eq_true_eq] at hq
        refine q_back (va_runIN (As := as'.map (qv (qr E))) (b := qr E i) (rest := r.map (qv (qr E))) ⟨hx, hb, hml, hown, hts⟩ hM ⟨va_cnB n hts (qw_good hk3) (by unfold qw; rw [i3]) rfl rfl (hG.1 _ (List.mem_filter.mpr ⟨qis_mem hq.1, rfl⟩)) (hts _ m2) ⟨m4, m5, hq.2⟩ ⟨hfr, by show 8 + (qnl k + 11) + 60 * d ≤ R.locals; omega⟩, i2, hts _ i1⟩ ⟨qPc_blind, qPre X0 hR hS (.ref i :: as')⟩ rfl (by rw [List.length_map]; exact g2) hls ?_ ?_ hd ⟨hc, hs⟩) hS kk
        · show st.map (qv (qr E)) = _
          rw [g1, List.map_append, List.map_reverse]
          rfl
        · show 2 * 0 + _ ≤ 8
          rw [qcat_map]
          omega
      · cases h
    · split at h
      · obtain ⟨e1, e2⟩ := qcd h
        cases e2
      · cases h
    · cases h
  · cases h
end
