/-! The small machine's steps on cells, and its run. -/
def qrd (ξ : Nat → Option (Nat × List Int32)) (co : Nat) (ins : Instr) (len : Nat) (st : List Value) (σ : qH) : Option (List Value) :=
  match ins with
  | .getfield idx => match qlk (qxL.getD co []) idx with
    | some (f, _) => (match len, st, f with
      | 3, .ref i :: r, 0 => (match qtn i with
        | some _ => some (.ref (i + 2) :: r)
        | none => none)
      | 3, .ref i :: r, 1 => (match qtn i with
        | some _ => some (.int 0 :: r)
        | none => none)
      | _, _, _ => none)
    | none => match len, st, qlk (qfL.getD co []) idx with
    | 3, .ref i :: r, some ((ci, k, _), _) => match σ[i]? with
      | some (.inl (ci', fs)) => bif Nat.beq ci' ci then (match fs[k]? with
        | some v => some (v :: r)
        | none => none) else none
      | _ => none
    | _, _, _ => none
  | .iaload => match len, st with
    | 1, .int x :: .ref i :: r => bif Nat.blt i qnE then (match ξ i with
        | some (0, li) => bif qix x li.length then some (.int (li.getD x.toNatClampNeg 0) :: r) else none
        | _ => none)
      else (match σ[i]? with
        | some (.inr (.inl (0, li))) => bif qix x li.length then some (.int (li.getD x.toNatClampNeg 0) :: r) else none
        | _ => none)
    | _, _ => none
  | .baload => match len, st with
    | 1, .int x :: .ref i :: r => bif Nat.blt i qnE then (match ξ i with
        | some (1, li) => bif qix x li.length then some (.int (li.getD x.toNatClampNeg 0) :: r) else none
        | _ => none)
      else (match σ[i]? with
        | some (.inr (.inl (1, li))) => bif qix x li.length then some (.int (li.getD x.toNatClampNeg 0) :: r) else none
        | _ => none)
    | _, _ => none
  | .laload => match len, st with
    | 1, .int x :: .ref i :: r => match σ[i]? with
        | some (.inr (.inr (.inl li))) => bif qix x li.length then some (.long (li.getD x.toNatClampNeg 0) :: r) else none
        | _ => none
    | _, _ => none
  | .aaload => match len, st with
    | 1, .int x :: .ref i :: r => match σ[i]? with
        | some (.inr (.inr (.inr (.inl li)))) => bif qix x li.length then some (qof (li.getD x.toNatClampNeg none) :: r) else none
        | _ => none
    | _, _ => none
  | .arraylength => match len, st with
    | 1, .ref i :: r => bif Nat.blt i qnE then (match ξ i with
        | some (0, li) => some (.int (Int32.ofNat li.length) :: r)
        | some (1, li) => some (.int (Int32.ofNat li.length) :: r)
        | _ => none)
      else (match σ[i]? with
        | some (.inr (.inl (_, li))) => some (.int (Int32.ofNat li.length) :: r)
        | some (.inr (.inr (.inl li))) => some (.int (Int32.ofNat li.length) :: r)
        | some (.inr (.inr (.inr (.inl li)))) => some (.int (Int32.ofNat li.length) :: r)
        | _ => none)
    | _, _ => none
  | .ldc idx => match len, qlk (qtL.getD co []) idx with
    | 2, some i => some (.ref i :: st)
    | _, _ => match len, qlk (qiL.getD co []) idx with
      | 2, some (v, _) => some (.int v :: st)
      | _, _ => none
  | .ldc2_w idx => match len, qlk (qjL.getD co []) idx with
    | 3, some (v, _) => some (.long v :: st)
    | _, _ => none
  | .getstatic idx => match len, qlk (qgL.getD co []) idx with
    | 3, some (0, _) => some (.int 1 :: st)
    | 3, some (1, _) => (match ξ 12 with
      | some _ => some (.ref 12 :: st)
      | none => some (.null :: st))
    | _, _ => match len, qlk (qsL.getD co []) idx with
      | 3, some (i, _) => some (.ref i :: st)
      | _, _ => none
  | _ => none
def qwr (isI : Bool) (co : Nat) (ins : Instr) (len : Nat) (st : List Value) (σ : qH) : Option (List Value × qH) :=
  match ins with
  | .putfield idx => match len, st, qlk (qfL.getD co []) idx with
    | 3, v :: .ref i :: r, some ((ci, k, nb), _) => match σ[i]? with
      | some (.inl (ci', fs)) => bif Nat.beq ci' ci && (Nat.blt k fs.length && (qfit (qcty ci k) v && (!(qfn ci k).2.2.2 || (!nb && (isI && Nat.beq ci co))))) then some (r, σ.set i (.inl (ci, fs.set k v))) else none
      | _ => none
    | _, _, _ => none
  | .iastore => match len, st with
    | 1, .int y :: .int x :: .ref i :: r => match σ[i]? with
        | some (.inr (.inl (0, li))) => bif qix x li.length then some (r, σ.set i (.inr (.inl (0, li.set x.toNatClampNeg y)))) else none
        | _ => none
    | _, _ => none
  | .bastore => match len, st with
    | 1, .int y :: .int x :: .ref i :: r => match σ[i]? with
        | some (.inr (.inl (1, li))) => bif qix x li.length then some (r, σ.set i (.inr (.inl (1, li.set x.toNatClampNeg y.toInt8.toInt32)))) else none
        | _ => none
    | _, _ => none
  | .lastore => match len, st with
    | 1, .long y :: .int x :: .ref i :: r => match σ[i]? with
        | some (.inr (.inr (.inl li))) => bif qix x li.length then some (r, σ.set i (.inr (.inr (.inl (li.set x.toNatClampNeg y))))) else none
        | _ => none
    | _, _ => none
  | .aastore => match len, st with
    | 1, .ref k :: .int x :: .ref i :: r => match σ[i]?, σ[k]? with
        | some (.inr (.inr (.inr (.inl li)))), some (.inl (1, _)) => bif qix x li.length then some (r, σ.set i (.inr (.inr (.inr (.inl (li.set x.toNatClampNeg (some k))))))) else none
        | _, _ => none
    | _, _ => none
  | _ => none
/-- a new cell -/
def qal (co : Nat) (ins : Instr) (len : Nat) (st : List Value) : Option (List Value × qC) :=
  match ins with
  | .new idx => match len, qlk (qkL.getD co []) idx with
    | 3, some (ci, _) => bif Nat.blt ci 8 then some (st, .inl (ci, qnew ci)) else none
    | _, _ => none
  | .newarray t => match len, st with
    | 2, .int n :: r => bif !(decide (n < 0)) && Nat.ble n.toNatClampNeg 100000 then (match t with
        | .int => some (r, .inr (.inl (0, List.replicate n.toNatClampNeg 0)))
        | .byte => some (r, .inr (.inl (1, List.replicate n.toNatClampNeg 0)))
        | .long => some (r, .inr (.inr (.inl (List.replicate n.toNatClampNeg 0))))
        | _ => none) else none
    | _, _ => none
  | .anewarray idx => match len, st, qlk (qkL.getD co []) idx with
    | 3, .int n :: r, some (1, _) => bif !(decide (n < 0)) && Nat.ble n.toNatClampNeg 100000 then some (r, .inr (.inr (.inr (.inl (List.replicate n.toNatClampNeg none))))) else none
    | _, _, _ => none
  | _ => none
def qcs (c : qC) : Nat := match c with
  | .inl (_, fs) => fs.length
  | .inr (.inl (_, li)) => li.length
  | .inr (.inr (.inl li)) => li.length
  | .inr (.inr (.inr (.inl li))) => li.length
  | .inr (.inr (.inr (.inr (.inl _)))) => 0
  | .inr (.inr (.inr (.inr (.inr n)))) => n
def qsz (σ : qH) : Nat := (σ.map qcs).sum
theorem qsz_push (σ : qH) (c : qC) : qsz (σ ++ [c]) = qsz σ + qcs c := by simp [qsz]
theorem qsz_set : ∀ {σ : qH} {i : Nat} {c0 c1 : qC}, σ[i]? = some c0 → qcs c1 = qcs c0 → qsz (σ.set i c1) = qsz σ
  | [], _, _, _, h, _ => by cases h
  | a :: σ, 0, c0, c1, h, e => by
    cases h
    simp [qsz, e]
  | a :: σ, i + 1, c0, c1, h, e => by
    have h1 : σ[i]? = some c0 := by simpa using h
    have := qsz_set h1 e
    simp only [qsz, List.set_cons_succ, List.map_cons, List.sum_cons] at this ⊢
    omega
theorem qwr_sz {isI : Bool} {co : Nat} {ins : Instr} {len : Nat} {st st' : List Value} {σ σ' : qH} (h : qwr isI co ins len st σ = some (st', σ')) : σ'.length = σ.length ∧ qsz σ' = qsz σ := by
  unfold qwr at h
  split at h
  · split at h
    · split at h
      · rename_i hi
        obtain ⟨e1, e2⟩ := qcd h
        cases e2
        exact ⟨List.length_set, qsz_set hi (by simp [qcs])⟩
      · cases h
    · cases h
  · split at h
    · split at h
      · rename_i hi
        obtain ⟨e1, e2⟩ := qcd h
        cases e2
        exact ⟨List.length_set, qsz_set hi (by simp [qcs])⟩
      · cases h
    · cases h
  · split at h
    · split at h
      · rename_i hi
        obtain ⟨e1, e2⟩ := qcd h
        cases e2
        exact ⟨List.length_set, qsz_set hi (by simp [qcs])⟩
      · cases h
    · cases h
  · split at h
    · split at h
      · rename_i hi
        obtain ⟨e1, e2⟩ := qcd h
        cases e2
        exact ⟨List.length_set, qsz_set hi (by simp [qcs])⟩
      · cases h
    · cases h
  · split at h
    · split at h
      · rename_i hi _
        obtain ⟨e1, e2⟩ := qcd h
        cases e2
        exact ⟨List.length_set, qsz_set hi (by simp [qcs])⟩
      · cases h
    · cases h
  · cases h
section
variable {p : Program} {l : Launch} {e : Env} {R : Room} {s : State} {m : MethodId} {args : Array Value} {below : List Frame} {meth : Method} {c : Code} {H : Heap} {locs : List Loc} {cells slots : Nat} {Q : State → Prop}
variable {ξ : Nat → Option (Nat × List Int32)} {E : qEv} {co : Nat} {b : ByteArray} {nL pc : Nat} {ls : Array Slot} {st st' : List Value} {σ σ' : qH}
theorem qblt_r {i : Nat} (h : Nat.blt i qnE = true) : qr E i = E.2.2.2 i := if_pos (Nat.le_of_ble_eq_true h)
set_option maxHeartbeats 4000000 in
theorem qrd_ok (X : qX ξ E co b nL p s m args meth c) {ins : Instr} {len : Nat} (hd : decode b pc = .ok (ins, len)) (h : qrd ξ co ins len st σ = some st') (hR : qR E σ H) (hS : va_S (qA E) s.heap H locs)
    (kk : W p l e R s m args below meth c H locs cells slots Q (F0 m (pc + len) ls (st'.map (qv (qr E))))) : W p l e R s m args below meth c H locs cells slots Q (F0 m pc ls (st.map (qv (qr E)))) := by
  have X0 := X
  obtain ⟨hx, hb, hml, hown, hts, ⟨hnw, hK, hao, hY, hTh⟩, hlk⟩ := X
  obtain ⟨hY1, hY2, hY3, hY4, hY5, hY6⟩ := hY
  unfold qrd at h
  split at h
  · rename_i idx
    split at h
    · rename_i f q hf
      have hq := List.all_eq_true.mp (qk_x co) _ (qlk_mem hf)
      simp only [Bool.and_eq_true, decide_eq_true_eq] at hq
      obtain ⟨hq0, hq1⟩ := hq
      split at h
      · rename_i i r
        split at h
        · rename_i tx htx
          cases h
          obtain ⟨k, x⟩ := tx
          obtain ⟨g1, g2, g3, g4, g5⟩ := hY4 i k x htx
          have ei : qr E i = E.2.2.2 i := if_pos (by omega)
          have ej : qr E (i + 2) = E.2.2.2 (i + 2) := if_pos g1
          have kk' : W p l e R s m args below meth c H locs cells slots Q (F0 m (pc + 3) ls (.ref (E.2.2.2 (i + 2)) :: r.map (qv (qr E)))) := by rw [← ej]; exact kk
          show W p l e R s m args below meth c H locs cells slots Q (F0 m pc ls (.ref (qr E i) :: r.map (qv (qr E))))
          rw [ei]
          obtain ⟨cf, k9, fi, fd, cell, h1, h2, h3, h4, h5, h6⟩ := g3.kept hS.2.1
          exact W.getf hx hb hown (by rw [hq0]; exact hts _ (qin_mem hq1)) h1 h2 h3 h4 h5 rfl rfl hd kk'
        · cases h
      · rename_i i r
        split at h
        · rename_i tx htx
          cases h
          obtain ⟨k, x⟩ := tx
          obtain ⟨g1, g2, g3, g4, g5⟩ := hY4 i k x htx
          have ei : qr E i = E.2.2.2 i := if_pos (by omega)
          show W p l e R s m args below meth c H locs cells slots Q (F0 m pc ls (.ref (qr E i) :: r.map (qv (qr E))))
          rw [ei]
          obtain ⟨cf, k9, fi, fd, cell, h1, h2, h3, h4, h5, h6⟩ := g4.kept hS.2.1
          exact W.getf hx hb hown (by rw [hq0]; exact hts _ (qin_mem hq1)) h1 h2 h3 h4 h5 rfl rfl hd kk
        · cases h
      · cases h
    · split at h
      · rename_i hf
        split at h
        · rename_i hi
          cases hbq : Nat.beq _ _ with
          | false => rw [hbq] at h; cases h
          | true =>
            rw [hbq] at h
            have e1 := Nat.eq_of_beq_eq_true hbq
            subst e1
            simp only [cond_true] at h
            split at h
            · rename_i hv
              cases h
              exact q_get X0 hd hf hR hi hv kk
            · cases h
        · cases h
      · cases h
  · split at h
    · rename_i x i r
      cases hbl : Nat.blt i qnE with
      | true =>
        rw [hbl] at h
        simp only [cond_true] at h
        split at h
        · rename_i li hli
          obtain ⟨e1, e2⟩ := qcd h
          cases e2
          have hT := (hY1 i li hli).2
          show W p l e R s m args below meth c H locs cells slots Q (F0 m pc ls (.int x :: .ref (qr E i) :: r.map (qv (qr E))))
          rw [qblt_r hbl]
          exact va_ti hx hb hT hS (qix_in e1).1 rfl hd kk
        · cases h
      | false =>
        rw [hbl] at h
        simp only [cond_false] at h
        split at h
        · rename_i hi
          obtain ⟨e1, e2⟩ := qcd h
          cases e2
          exact q_iald X0 hd hR hi e1 kk
        · cases h
    · cases h
  · split at h
    · rename_i x i r
      cases hbl : Nat.blt i qnE with
      | true =>
        rw [hbl] at h
        simp only [cond_true] at h
        split at h
        · rename_i li hli
          obtain ⟨e1, e2⟩ := qcd h
          cases e2
          have hT := (hY3 i li hli).2
          show W p l e R s m args below meth c H locs cells slots Q (F0 m pc ls (.int x :: .ref (qr E i) :: r.map (qv (qr E))))
          rw [qblt_r hbl]
          exact va_tb hx hb hT hS (qix_in e1).1 rfl hd kk
        · cases h
      | false =>
        rw [hbl] at h
        simp only [cond_false] at h
        split at h
        · rename_i hi
          obtain ⟨e1, e2⟩ := qcd h
          cases e2
          exact q_bald X0 hd hR hi e1 kk
        · cases h
    · cases h
  · split at h
    · split at h
      · rename_i hi
        obtain ⟨e1, e2⟩ := qcd h
        cases e2
        exact q_lald X0 hd hR hi e1 kk
      · cases h
    · cases h
  · split at h
    · split at h
      · rename_i hi
        obtain ⟨e1, e2⟩ := qcd h
        cases e2
        exact q_aald X0 hd hR hi e1 kk
      · cases h
    · cases h
  · split at h
    · rename_i i r
      cases hbl : Nat.blt i qnE with
      | true =>
        rw [hbl] at h
        simp only [cond_true] at h
        split at h
        · rename_i li hli
          cases h
          have hT := (hY1 i li hli).2
          show W p l e R s m args below meth c H locs cells slots Q (F0 m pc ls (.ref (qr E i) :: r.map (qv (qr E))))
          rw [qblt_r hbl]
          exact va_tlen hx hb hT hS rfl hd kk
        · rename_i li hli
          cases h
          have hT := (hY3 i li hli).2
          show W p l e R s m args below meth c H locs cells slots Q (F0 m pc ls (.ref (qr E i) :: r.map (qv (qr E))))
          rw [qblt_r hbl]
          exact va_tlen hx hb hT hS rfl hd kk
        · cases h
      | false =>
        rw [hbl] at h
        simp only [cond_false] at h
        split at h
        · rename_i hi
          cases h
          exact q_alen X0 hd hR hi (Or.inl ⟨_, _, rfl, rfl⟩) kk
        · rename_i hi
          cases h
          exact q_alen X0 hd hR hi (Or.inr (Or.inl ⟨_, rfl, rfl⟩)) kk
        · rename_i hi
          cases h
          exact q_alen X0 hd hR hi (Or.inr (Or.inr ⟨_, rfl, rfl⟩)) kk
        · cases h
    · cases h
  · rename_i idx
    split at h
    · rename_i i hf
      cases h
      have hq := List.all_eq_true.mp (qk_t co) _ (qlk_mem hf)
      simp only [Bool.and_eq_true, decide_eq_true_eq] at hq
      obtain ⟨hq0, hq1⟩ := hq
      split at hq1
      · rename_i k x htx
        have e1 := Nat.eq_of_beq_eq_true hq1
        subst e1
        obtain ⟨g1, g2, g3, g4, g5⟩ := hY4 i _ x htx
        have ei : qr E i = E.2.2.2 i := if_pos (by omega)
        have kk' : W p l e R s m args below meth c H locs cells slots Q (F0 m (pc + 2) ls (.ref (E.2.2.2 i) :: st.map (qv (qr E)))) := by rw [← ei]; exact kk
        exact va_ldcS hx hb hown (by rw [hq0]; exact g2) hd kk'
      · cases hq1
    · split at h
      · rename_i hf _
        cases h
        exact q_ldc X0 hd hf kk
      · cases h
  · split at h
    · rename_i hf
      cases h
      exact q_ldc2 X0 hd hf kk
    · cases h
  · rename_i idx
    split at h
    · rename_i q hf
      cases h
      have hq := List.all_eq_true.mp (qk_g co) _ (qlk_mem hf)
      simp only [Bool.and_eq_true, decide_eq_true_eq] at hq
      exact va_gets hx hb hY5 hS hown (by rw [hq.1]; exact hts _ (qin_mem hq.2)) (fun _ h9 => h9) hd kk
    · rename_i q hf
      have hq := List.all_eq_true.mp (qk_g co) _ (qlk_mem hf)
      simp only [Bool.and_eq_true, decide_eq_true_eq] at hq
      split at h
      · rename_i z hz
        cases h
        rw [hz] at hY6
        have kk' : W p l e R s m args below meth c H locs cells slots Q (F0 m (pc + 3) ls (.ref (E.2.2.2 12) :: st.map (qv (qr E)))) := kk
        exact va_gets hx hb hY6 hS hown (by rw [hq.1]; exact hts _ (qin_mem hq.2)) (fun _ h9 => h9) hd kk'
      · rename_i hz
        cases h
        rw [hz] at hY6
        exact va_gets hx hb hY6 hS hown (by rw [hq.1]; exact hts _ (qin_mem hq.2)) (fun _ h9 => h9) hd kk
    · split at h
      · rename_i i q hf _ _
        cases h
        obtain ⟨C, n, hq, hw⟩ := qsl_ok hf
        obtain ⟨hlt, hZ⟩ := hY2 i C n hq
        have kk' : W p l e R s m args below meth c H locs cells slots Q (F0 m (pc + 3) ls (.ref (E.2.2.2 i) :: st.map (qv (qr E)))) := by
          have e9 : qr E i = E.2.2.2 i := if_pos hlt
          rw [← e9]
          exact kk
        exact va_gets hx hb hZ hS hown (hts _ hw) (fun _ h9 => h9) hd kk'
      · cases h
  · cases h
set_option maxHeartbeats 4000000 in
theorem qwr_ok (X : qX ξ E co b nL p s m args meth c) {isI : Bool} (hI : isI = true → meth.name = "<init>") {ins : Instr} {len : Nat} (hd : decode b pc = .ok (ins, len)) (h : qwr isI co ins len st σ = some (st', σ')) (hR : qR E σ H) (hS : va_S (qA E) s.heap H locs)
    (kk : ∀ (H1 : Heap) (locs1 : List Loc), qR E σ' H1 → va_S (qA E) s.heap H1 locs1 → W p l e R s m args below meth c H1 locs1 cells slots Q (F0 m (pc + len) ls (st'.map (qv (qr E))))) : W p l e R s m args below meth c H locs cells slots Q (F0 m pc ls (st.map (qv (qr E)))) := by
  unfold qwr at h
  split at h
  · split at h
    · rename_i hf
      split at h
      · rename_i hi
        obtain ⟨e1, e2⟩ := qcd h
        cases e2
        simp only [Bool.and_eq_true, Bool.or_eq_true, Bool.not_eq_true'] at e1
        obtain ⟨e1, e3, e4, e5⟩ := e1
        have e1 := Nat.eq_of_beq_eq_true e1
        subst e1
        obtain ⟨-, r9, hr9, -⟩ := hR.2 _ _ _ hi rfl
        have hcl := qcl_lt hr9
        refine q_put X hd hf hR hS hi (Nat.le_of_ble_eq_true e3) e4 ?_ kk
        rcases e5 with e5 | ⟨e5, e6, e7⟩
        · exact Or.inl e5
        · have e7 := Nat.eq_of_beq_eq_true e7
          refine Or.inr ⟨e5, hI e6, ?_⟩
          rw [← e7]
          exact of_decide_eq_true (List.all_eq_true.mp qk_ci _ (List.mem_range.mpr hcl))
      · cases h
    · cases h
  · split at h
    · split at h
      · rename_i hi
        obtain ⟨e1, e2⟩ := qcd h
        cases e2
        exact q_iast X hd hR hS hi e1 kk
      · cases h
    · cases h
  · split at h
    · split at h
      · rename_i hi
        obtain ⟨e1, e2⟩ := qcd h
        cases e2
        exact q_bast X hd hR hS hi e1 kk
      · cases h
    · cases h
  · split at h
    · split at h
      · rename_i hi
        obtain ⟨e1, e2⟩ := qcd h
        cases e2
        exact q_last X hd hR hS hi e1 kk
      · cases h
    · cases h
  · split at h
    · split at h
      · rename_i hi hk
        obtain ⟨e1, e2⟩ := qcd h
        cases e2
        exact q_aast X hd hR hS hi hk e1 kk
      · cases h
    · cases h
  · cases h
theorem qnew_len (ci : Nat) : (qnew ci).length = qfN ci := by simp [qnew]
set_option maxHeartbeats 4000000 in
theorem qal_ok (X : qX ξ E co b nL p s m args meth c) {ins : Instr} {len : Nat} {c1 : qC} (hd : decode b pc = .ok (ins, len)) (h : qal co ins len st = some (st', c1)) (hR : qR E σ H) (hn : qnE ≤ σ.length) (hS : va_S (qA E) s.heap H locs) (hc : cells + 1 ≤ R.cells) (hs : slots + qcs c1 ≤ R.slots)
    (kk : ∀ H1 : Heap, qR E (σ ++ [c1]) H1 → va_S (qA E) s.heap H1 locs → W p l e R s m args below meth c H1 locs (cells + 1) (slots + qcs c1) Q (F0 m (pc + len) ls (.ref (qr E σ.length) :: st'.map (qv (qr E))))) : W p l e R s m args below meth c H locs cells slots Q (F0 m pc ls (st.map (qv (qr E)))) := by
  unfold qal at h
  split at h
  · split at h
    · rename_i hf
      obtain ⟨e1, e2⟩ := qcd h
      cases e2
      have hz : ∀ ci : Nat, qcs (.inl (ci, qnew ci)) = qfN ci := qnew_len
      rw [hz] at hs kk
      exact q_new X hd hf e1 hR hn hS hc hs kk
    · cases h
  · split at h
    · rename_i n r
      cases hb9 : (!(decide (n < 0)) && Nat.ble n.toNatClampNeg 100000) with
      | false => rw [hb9] at h; cases h
      | true =>
        rw [hb9] at h
        simp only [cond_true] at h
        simp only [Bool.and_eq_true, Bool.not_eq_true', decide_eq_false_iff_not] at hb9
        have hle := Nat.le_of_ble_eq_true hb9.2
        split at h <;> cases h
        · have hz : ∀ n : Nat, qcs (.inr (.inl (0, List.replicate n (0 : Int32)))) = n := fun n => List.length_replicate
          rw [hz] at hs kk
          exact q_newi X hd hb9.1 hle hR hn hS hc hs kk
        · have hz : ∀ n : Nat, qcs (.inr (.inl (1, List.replicate n (0 : Int32)))) = n := fun n => List.length_replicate
          rw [hz] at hs kk
          exact q_newb X hd hb9.1 hle hR hn hS hc hs kk
        · have hz : ∀ n : Nat, qcs (.inr (.inr (.inl (List.replicate n (0 : Int64))))) = n := fun n => List.length_replicate
          rw [hz] at hs kk
          exact q_newl X hd hb9.1 hle hR hn hS hc hs kk
    · cases h
  · split at h
    · rename_i hf
      obtain ⟨e1, e2⟩ := qcd h
      cases e2
      simp only [Bool.and_eq_true, Bool.not_eq_true', decide_eq_false_iff_not] at e1
      have hle := Nat.le_of_ble_eq_true e1.2
      have hz : ∀ n : Nat, qcs (.inr (.inr (.inr (.inl (List.replicate n (none : Option Nat)))))) = n := fun n => List.length_replicate
      rw [hz] at hs kk
      exact q_newq X hd hf e1.1 hle hR hn hS hc hs kk
    · cases h
  · cases h
end
