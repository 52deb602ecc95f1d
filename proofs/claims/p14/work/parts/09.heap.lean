/-! The machine's heap and the small machine's list of cells. -/
abbrev qEv := ((Nat → ClassId) × (Nat → Nat → Nat)) × (ClassId × ClassId × ClassId × ClassId) × Nat × (Nat → Nat)
def qnE : Nat := 16
/-- where a cell lies: the first sixteen are given from outside, the others lie one behind the other -/
def qr (E : qEv) (i : Nat) : Nat := if i < qnE then E.2.2.2 i else E.2.2.1 + (i - qnE)
theorem qr_ge {E : qEv} {i : Nat} (h : qnE ≤ i) : qr E i = E.2.2.1 + (i - qnE) := if_neg (by omega)
def qty (E : qEv) : List (ClassId × FieldType) := [(E.2.1.1, .int), (E.2.1.2.1, .byte), (E.2.1.2.2.1, .long), (E.2.1.2.2.2, .object "NestedArchives$Archive")]
def qac (E : qEv) (t : Nat) : ClassId := match t with
  | 0 => E.2.1.1
  | _ => E.2.1.2.1
def qe (E : qEv) (c : qC) : Option va_E := match c with
  | .inl (ci, fs) => some (.inr (ci, fs.map (qv (qr E))))
  | .inr (.inl (t, l)) => some (.inl (qac E t, l.length, .inl (fun j => l.getD j 0)))
  | .inr (.inr (.inl l)) => some (.inl (E.2.1.2.2.1, l.length, .inr (.inl (fun j => l.getD j 0))))
  | .inr (.inr (.inr (.inl l))) => some (.inl (E.2.1.2.2.2, l.length, .inr (.inr (.inr (.inr (fun j => (l.getD j none).map (qr E)))))))
  | _ => none
def qA (E : qEv) : Nat → Prop := fun q => E.2.2.1 ≤ q
def qR (E : qEv) (σ : qH) (H : Heap) : Prop := (H.size + qnE = E.2.2.1 + σ.length ∧ ∀ q : Nat, qA E q → q < H.size → ∃ cell : Cell, H[q]? = some cell ∧ cell.vm.isStatics = false) ∧ ∀ (i : Nat) (c : qC) (en : va_E), σ[i]? = some c → qe E c = some en → qnE ≤ i ∧ va_at E.1 qcl (qr E i, en) H
theorem va_at_ns {D : va_G} {cl : List vw_C} {a : Nat} {en : va_E} {H : Heap} (h : va_at D cl (a, en) H) : ∃ cell : Cell, H[a]? = some cell ∧ cell.vm.isStatics = false := by
  cases en with
  | inl x =>
    obtain ⟨cA, n, f⟩ := x
    refine ⟨_, h, ?_⟩
    rcases f with f | f | f | f | f <;> rfl
  | inr o =>
    obtain ⟨r, h1, cell, h2, h3, h4, h5⟩ := h
    exact ⟨cell, h2, by rw [h4]; rfl⟩
theorem qA_of {E : qEv} {i : Nat} (h : qnE ≤ i) : qA E (qr E i) := by rw [qr_ge h]; exact Nat.le_add_right _ _
theorem qR.set {E : qEv} {σ : qH} {H H1 : Heap} {i : Nat} {c0 c1 : qC} {en : va_E} (h : qR E σ H) (hi : σ[i]? = some c0) (hn : qnE ≤ i) (z : H1.size = H.size) (o : ∀ q : Nat, q ≠ qr E i → H1[q]? = H[q]?) (he : qe E c1 = some en) (ha : va_at E.1 qcl (qr E i, en) H1) : qR E (σ.set i c1) H1 := by
  have hl : i < σ.length := (List.getElem?_eq_some_iff.mp hi).1
  refine ⟨⟨by rw [z, List.length_set]; exact h.1.1, fun q hq hl9 => ?_⟩, fun j c e2 hj hc => ?_⟩
  · by_cases hqi : q = qr E i
    · subst hqi
      exact va_at_ns ha
    · rw [o q hqi]
      exact h.1.2 q hq (by omega)
  by_cases hji : j = i
  · subst hji
    rw [List.getElem?_set_self hl] at hj
    cases hj
    rw [he] at hc
    cases hc
    exact ⟨hn, ha⟩
  · rw [List.getElem?_set_ne (fun q => hji q.symm)] at hj
    obtain ⟨h1, h2⟩ := h.2 j c e2 hj hc
    refine ⟨h1, h2.kept (o _ ?_)⟩
    show qr E j ≠ qr E i
    rw [qr_ge h1, qr_ge hn]
    omega
theorem qR.push {E : qEv} {σ : qH} {H H1 : Heap} {c1 : qC} {en : va_E} (h : qR E σ H) (hn : qnE ≤ σ.length) (z : H1.size = H.size + 1) (o : ∀ q : Nat, q < H.size → H1[q]? = H[q]?) (he : qe E c1 = some en) (ha : va_at E.1 qcl (H.size, en) H1) : qR E (σ ++ [c1]) H1 := by
  refine ⟨⟨by have h9 := h.1.1; rw [z, List.length_append]; simp only [List.length_cons, List.length_nil]; omega, fun q hq hl9 => ?_⟩, fun j c e2 hj hc => ?_⟩
  · by_cases hqi : q = H.size
    · subst hqi
      exact va_at_ns ha
    · rw [o q (by omega)]
      exact h.1.2 q hq (by omega)
  by_cases hl : j < σ.length
  · rw [List.getElem?_append_left hl] at hj
    obtain ⟨h1, h2⟩ := h.2 j c e2 hj hc
    exact ⟨h1, h2.kept (o _ h2.lt)⟩
  · rw [List.getElem?_append_right (by omega)] at hj
    have hz : j - σ.length < 1 := (List.getElem?_eq_some_iff.mp hj).1
    have e : j = σ.length := by omega
    subst e
    rw [Nat.sub_self] at hj
    cases hj
    rw [he] at hc
    cases hc
    refine ⟨hn, ?_⟩
    have e9 : qr E σ.length = H.size := by rw [qr_ge hn]; have := h.1.1; omega
    rw [e9]
    exact ha
theorem qR.junk {E : qEv} {σ : qH} {H H1 : Heap} {k : Nat} {cell : Cell} (h : qR E σ H) (z : H1.size = H.size + 1) (o : ∀ q : Nat, q < H.size → H1[q]? = H[q]?) (hc : H1[H.size]? = some cell) (hv : cell.vm.isStatics = false) : qR E (σ ++ [.inr (.inr (.inr (.inr (.inr k))))]) H1 := by
  refine ⟨⟨by have h9 := h.1.1; rw [z, List.length_append]; simp only [List.length_cons, List.length_nil]; omega, fun q hq hl9 => ?_⟩, fun j c e2 hj hc2 => ?_⟩
  · by_cases hqi : q = H.size
    · subst hqi
      exact ⟨cell, hc, hv⟩
    · rw [o q (by omega)]
      exact h.1.2 q hq (by omega)
  · by_cases hl : j < σ.length
    · rw [List.getElem?_append_left hl] at hj
      obtain ⟨h1, h2⟩ := h.2 j c e2 hj hc2
      exact ⟨h1, h2.kept (o _ h2.lt)⟩
    · rw [List.getElem?_append_right (by omega)] at hj
      have hz : j - σ.length < 1 := (List.getElem?_eq_some_iff.mp hj).1
      rw [show j - σ.length = 0 by omega] at hj
      cases hj
      cases hc2
theorem qR.top {E : qEv} {σ : qH} {H : Heap} (h : qR E σ H) (hn : qnE ≤ σ.length) : qr E σ.length = H.size := by rw [qr_ge hn]; have := h.1.1; omega
theorem qR.one {E : qEv} {σ : qH} {H : Heap} (h : qR E σ H) {i : Nat} {c : qC} {en : va_E} (hi : σ[i]? = some c) (hc : qe E c = some en) : va_P E.1 qcl [(qr E i, en)] H := by
  intro k q hk
  have hz : k < 1 := (List.getElem?_eq_some_iff.mp hk).1
  rw [show k = 0 by omega] at hk
  cases hk
  exact (h.2 i c en hi hc).2
def qnw : List Cond := lw_tbl.filter (fun w => match w with
  | .fieldLinkNest _ _ _ _ _ _ => true
  | .methodLinkNest _ _ _ _ => true
  | _ => false)
/-- what stands outside: tables that are only read, by their places; the statics that hold them; two texts, with their bytes two places further; String's own static, and one of which nothing is known -/
def qY (ξ : Nat → Option (Nat × List Int32)) (E : qEv) (s : State) : Prop := (∀ (i : Nat) (li : List Int32), ξ i = some (0, li) → i < qnE ∧ va_T .int (E.2.2.2 i) li.length (fun j => .int (li.getD j 0)) (qA E) s s.heap) ∧ (∀ (i : Nat) (C n : String), qsn i = some (C, n) → i < qnE ∧ va_Z C n "[I" (.ref (E.2.2.2 i)) (qA E) s s.heap) ∧
  (∀ (i : Nat) (li : List Int32), ξ i = some (1, li) → i < qnE ∧ va_T .byte (E.2.2.2 i) li.length (fun j => .int (li.getD j 0)) (qA E) s s.heap) ∧
  (∀ (i k : Nat) (x : String), qtn i = some (k, x) → i + 2 < qnE ∧ vk_R "NestedArchives" k x (E.2.2.2 i) s ∧ va_OF "java/lang/String" "value" "[B" (.ref (E.2.2.2 (i + 2))) (E.2.2.2 i) (qA E) s s.heap ∧ va_OF "java/lang/String" "coder" "B" (.int 0) (E.2.2.2 i) (qA E) s s.heap ∧ va_O "java/lang/String" (E.2.2.2 i) (qA E) s s.heap) ∧
  va_Z "java/lang/String" "COMPACT_STRINGS" "Z" (.int 1) (qA E) s s.heap ∧ va_Z "jdk/internal/util/Preconditions" "SIOOBE_FORMATTER" "Ljava/util/function/BiFunction;" (match ξ 12 with
    | some _ => .ref (E.2.2.2 12)
    | none => .null) (qA E) s s.heap
/-- which of the three exceptions is none of the others -/
def qnc : List (String × String) := [("java/lang/IllegalArgumentException", "java/lang/IndexOutOfBoundsException"), ("java/lang/IllegalArgumentException", "java/lang/IllegalStateException"), ("java/lang/IndexOutOfBoundsException", "java/lang/IllegalArgumentException"), ("java/lang/IndexOutOfBoundsException", "java/lang/IllegalStateException"), ("java/lang/IllegalStateException", "java/lang/IllegalArgumentException"), ("java/lang/IllegalStateException", "java/lang/IndexOutOfBoundsException")]
def qms : List (Nat × String) := [(85, "META-INF/MANIFEST.MF"), (91, "index.txt"), (118, "the tape is no archive"), (135, "no such entry"), (158, "no such property"), (174, "no such archive"), (179, "mounts are counted from 1 on"), (185, "the entry can't be read"), (193, "the entry can't be mounted"), (197, "there are six mounts"), (200, "there is no outer archive"), (202, "there is no index that can be read"), (211, "a line of the index is wrong, or one too many"), (220, "a line's entry can't be mounted"), (225, "the manifest is wrong or can't be read")]
/-- a static field of references, where it lies and what it holds -/
def qS (C n d : String) (A : Nat → Prop) (U : State) (H : Heap) : Prop := ∃ (c : ClassId) (k : Class) (i : Nat) (f : Field) (a : Nat) (cell : Cell) (v : Value), (U.vm.findClass C = some c ∧ U.fieldFound? C n d = some (c, k, i, f) ∧ f.isStatic = true ∧ k.statics = some a ∧ k.staticTypes[f.slot]? = some f.type) ∧ H[a]? = some cell ∧ cell.vm.isStatics = true ∧ cell.cls = c ∧ f.slot < cell.slots.size ∧ cell.slots[f.slot]? = some v ∧ v.isRef = true ∧ ¬ A a
theorem qS.moved {C n d : String} {A : Nat → Prop} {u U : State} {H : Heap} (hvm : u.vm.Alike U.vm) (h : qS C n d A u H) : qS C n d A U H := by
  obtain ⟨c, k, i, f, a, cell, v, ⟨h1, h2, h3, h4, h5⟩, r⟩ := h
  obtain ⟨k2, g2, ge⟩ := State.fieldFound?_setVm hvm h2
  refine ⟨c, k2, i, f, a, cell, v, ⟨?_, g2, h3, ?_, ?_⟩, r⟩
  · rw [hvm.findClass]; exact h1
  · rw [ge]; exact h4
  · rw [ge]; exact h5
theorem qS.kept {C n d : String} {A : Nat → Prop} {U : State} {H H1 : Heap} (h : qS C n d A U H) (hq : ∀ a : Nat, a < H.size → ¬ A a → H1[a]? = H[a]?) : qS C n d A U H1 := by
  obtain ⟨c, k, i, f, a, cell, v, h1, h2, h3, h4, h5, h6, h7, h8⟩ := h
  refine ⟨c, k, i, f, a, cell, v, h1, ?_, h3, h4, h5, h6, h7, h8⟩
  rw [hq a (Array.getElem?_eq_some_iff.mp h2).1 h8]
  exact h2
theorem qS.lays {C n d : String} {A : Nat → Prop} {s : State} {args : Array Value} (h : qS C n d A s s.heap) : (Cond.laysStatic C n d).before args s = true := by
  obtain ⟨c, k, i, f, a, cell, v, ⟨h1, h2, h3, h4, h5⟩, g1, g2, g3, g4, -⟩ := h
  exact Cond.laysStatic_of h1 h2 h3 h4 g1 g2 g3 g4 h5
theorem qS.isRef {C n d : String} {A : Nat → Prop} {s : State} {args : Array Value} (h : qS C n d A s s.heap) : (Cond.isRef (.static C n d)).before args s = true := by
  obtain ⟨c, k, i, f, a, cell, v, ⟨h1, h2, h3, h4, h5⟩, g1, g2, g3, g4, g5, g6, -⟩ := h
  have he : (Term.static C n d).eval args s none [] s = some v := by
    simp [Term.eval, State.fieldNamed?, h2, h3, h4, g1, g2, g5]
  simp only [Cond.before, Cond.holds, Cond.value, he]
  cases v <;> simp_all [Value.isRef]
/-- words that are no good ones, but stay: who may be cast, who is declared -/
def qcw : List Cond := lw_tbl.filter (fun w => match w with
  | .castable _ _ => true
  | .declares _ => true
  | _ => false)
/-- what a throw needs: Throwable's two statics, those words, the texts -/
def qTh (E : qEv) (s : State) : Prop := qS "java/lang/Throwable" "UNASSIGNED_STACK" "[Ljava/lang/StackTraceElement;" (qA E) s s.heap ∧ qS "java/lang/Throwable" "SUPPRESSED_SENTINEL" "Ljava/util/List;" (qA E) s s.heap ∧ (∀ w ∈ qcw, va_Nw w s) ∧ (∀ q ∈ qms, ∃ a, vk_R "NestedArchives" q.1 q.2 a s) ∧ ∀ q ∈ qnc, va_Nc q.1 q.2 s
def qG (ξ : Nat → Option (Nat × List Int32)) (E : qEv) (s : State) : Prop := (∀ w ∈ qnw, va_Nw w s) ∧ va_K E.1 qcl (qty E) s ∧ va_AO "NestedArchives$Archive" s ∧ qY ξ E s ∧ qTh E s
/-- what a method's body is walked by -/
def qX (ξ : Nat → Option (Nat × List Int32)) (E : qEv) (co : Nat) (b : ByteArray) (nL : Nat) (p : Program) (s : State) (m : MethodId) (args : Array Value) (meth : Method) (c : Code) : Prop :=
  p.tables.exec = Jvm.exec ∧ c.code = b ∧ c.maxLocals = nL ∧ s.vm.findClass (qnm co) = some m.cls ∧ (∀ w ∈ qgw, w.before args s = true) ∧ qG ξ E s ∧ meth.locks = false
def qfit (ty : FieldType) (v : Value) : Bool := match ty, v with
  | .int, .int _ => true
  | .boolean, .int x => x == 0 || x == 1
  | .long, .long _ => true
  | .object _, .ref _ => true
  | .object _, .null => true
  | .array _, .ref _ => true
  | .array _, .null => true
  | _, _ => false
theorem qfit_ok {ty : FieldType} {v : Value} {ρ : Nat → Nat} (h : qfit ty v = true) : narrow ty (qv ρ v) = qv ρ v ∧ fits ty (qv ρ v) = true := by
  unfold qfit at h
  split at h
  · exact ⟨rfl, rfl⟩
  · rename_i x
    simp only [Bool.or_eq_true, beq_iff_eq] at h
    rcases h with rfl | rfl
    · exact ⟨show narrow .boolean (.int 0) = .int 0 by decide +kernel, show fits .boolean (.int 0) = true by decide +kernel⟩
    · exact ⟨show narrow .boolean (.int 1) = .int 1 by decide +kernel, show fits .boolean (.int 1) = true by decide +kernel⟩
  · exact ⟨rfl, rfl⟩
  · exact ⟨rfl, rfl⟩
  · exact ⟨rfl, rfl⟩
  · exact ⟨rfl, rfl⟩
  · exact ⟨rfl, rfl⟩
  · cases h
section
variable {p : Program} {l : Launch} {e : Env} {R : Room} {s : State} {m : MethodId} {args : Array Value} {below : List Frame} {meth : Method} {c : Code} {H : Heap} {locs : List Loc} {cells slots : Nat} {Q : State → Prop}
variable {ξ : Nat → Option (Nat × List Int32)} {E : qEv} {co : Nat} {b : ByteArray} {nL pc : Nat} {ls : Array Slot} {rest : List Value} {σ : qH} {i : Nat}
theorem q_get (X : qX ξ E co b nL p s m args meth c) {idx ci k : Nat} {nb : Bool} {q : Nat × Nat} (hd : decode b pc = .ok (.getfield idx, 3)) (hf : qlk (qfL.getD co []) idx = some ((ci, k, nb), q)) (hR : qR E σ H) {fs : List Value} (hi : σ[i]? = some (.inl (ci, fs))) {v : Value} (hv : fs[k]? = some v)
    (kk : W p l e R s m args below meth c H locs cells slots Q (F0 m (pc + 3) ls (qv (qr E) v :: rest))) : W p l e R s m args below meth c H locs cells slots Q (F0 m pc ls (.ref (qr E i) :: rest)) := by
  obtain ⟨hx, hb, hml, hown, hts, ⟨hnw, hK, hao, hY, hTh⟩, hlk⟩ := X
  obtain ⟨hk, hf0, hf1⟩ := qfl_ok hf
  have hP := hR.one hi rfl
  have hcl : ci < 8 := by
    obtain ⟨r, hr, -⟩ := (hR.2 i _ _ hi rfl).2
    exact qcl_lt hr
  have hv' : (fs.map (qv (qr E)))[k]? = some (qv (qr E) v) := by rw [List.getElem?_map, hv]; rfl
  cases nb with
  | false => exact va_get hx hb hts (qcl_ws hcl) hown hK hP 0 rfl (qcl_at hcl) k hk (hts _ (hf0 rfl)) (fun x hx9 => by rw [← qcl_own hcl hk]; exact hx9) hv' hd kk
  | true => exact va_getN hx hb hts (qcl_ws hcl) hown hK hP 0 rfl (qcl_at hcl) k hk (va_Nw.use rfl (hnw _ (List.mem_filter.mpr ⟨hf1 rfl, rfl⟩))) (fun x hx9 => by rw [← qcl_own hcl hk]; exact hx9) hv' hd kk
end
