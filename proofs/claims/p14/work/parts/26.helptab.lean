/-! The law's helpers, their tables of handlers (from, to, handler, class link, which exception), and that the tables say so. -/
def qhs : List Nat := [36, 52, 62, 65, 67, 70, 84, 87, 91]
def qhr (j : Nat) : List (Nat × Nat × Nat × Nat × Nat) := match j with
  | 36 => [(0, 8, 11, 13, 0)]
  | 52 => [(0, 11, 14, 19, 1), (0, 11, 18, 13, 0)]
  | 62 => [(0, 12, 15, 19, 1)]
  | 65 => [(0, 9, 12, 19, 1)]
  | 67 => [(0, 9, 12, 13, 0)]
  | 70 => [(0, 10, 13, 19, 1), (0, 10, 17, 13, 0)]
  | 84 => [(0, 9, 12, 19, 1), (0, 9, 15, 13, 0), (0, 9, 18, 39, 2)]
  | 87 => [(0, 8, 11, 39, 2), (0, 8, 14, 13, 0)]
  | 91 => [(0, 9, 12, 19, 1), (0, 9, 15, 13, 0)]
  | _ => []
def qhn (j : Nat) : Nat := match j with
  | 36 => 2
  | 52 => 5
  | 62 => 5
  | 65 => 3
  | 67 => 3
  | 70 => 4
  | 84 => 3
  | 87 => 2
  | 91 => 3
  | _ => 0
def qhp (j : Nat) : List (Nat × Nat) := match j with
  | 36 => [(3, 225), (1, 0), (3, 224)]
  | 52 => [(4, 56), (1, 0), (4, 55)]
  | 62 => [(4, 111), (1, 0), (4, 110)]
  | 65 => [(4, 123), (1, 0), (4, 122)]
  | 67 => [(4, 132), (1, 0), (4, 131)]
  | 70 => [(4, 144), (1, 0), (4, 143)]
  | 84 => [(4, 218), (1, 0), (4, 217)]
  | 87 => [(5, 7), (1, 0), (5, 6)]
  | 91 => [(5, 27), (1, 0), (5, 26)]
  | _ => []
def qhq (i : Nat) : Nat × Nat := match i with
  | 13 => (3, 226)
  | 19 => (4, 57)
  | 39 => (4, 219)
  | _ => (9, 0)
def qhe (r : Nat × Nat × Nat × Nat × Nat) : Nat × Nat × Nat × Nat := (r.1, r.2.1, r.2.2.1, r.2.2.2.1)
def qhok (j : Nat) : Bool := qin ((qhp j).getD 0 (9, 0)) (.codeWith (qMq j).2.1 (qMq j).2.2.1 (qnl j) (qrt j) ((qhr j).map qhe)) && (qin ((qhp j).getD 1 (9, 0)) (.initialized (qMq j).2.1.cls) && (qin ((qhp j).getD 2 (9, 0)) (.static (qMq j).2.1) && (decide ((qMq j).2.1.cls = qnm (qco j)) && (decide ((qMq j).2.1.cls ≠ "java/lang/invoke/MethodHandle") && (decide ((qMq j).2.1.cls ≠ "java/lang/invoke/VarHandle") && (plainName (qMq j).2.1.cls && (Nat.blt (qnl j) 40 && (decide ((parseMethodDescriptor (qMq j).2.1.desc).map (fun d => d.parameters.length) = some (qhn j)) &&
  ((qhr j).all (fun r => !(Nat.beq r.2.2.2.1 0) && (Nat.blt r.2.2.2.2 3 && qin (qhq r.2.2.2.1) (.classLink (qnm (qco j)) r.2.2.2.1 (qxc.getD r.2.2.2.2 "")))) && !(qisI j))))))))))
set_option maxRecDepth 100000 in
theorem qk_h : qhs.all qhok = true := by decide +kernel
theorem qh_all {j : Nat} (h : j ∈ qhs) : Cond.codeWith (qMq j).2.1 (qMq j).2.2.1 (qnl j) (qrt j) ((qhr j).map qhe) ∈ qgw ∧ Cond.initialized (qMq j).2.1.cls ∈ qgw ∧ Cond.static (qMq j).2.1 ∈ qgw ∧ (qMq j).2.1.cls = qnm (qco j) ∧ (qMq j).2.1.cls ≠ "java/lang/invoke/MethodHandle" ∧ (qMq j).2.1.cls ≠ "java/lang/invoke/VarHandle" ∧ plainName (qMq j).2.1.cls = true ∧ qnl j < 40 ∧ (parseMethodDescriptor (qMq j).2.1.desc).map (fun d => d.parameters.length) = some (qhn j) ∧
    (∀ r ∈ qhr j, r.2.2.2.1 ≠ 0 ∧ r.2.2.2.2 < 3 ∧ Cond.classLink (qnm (qco j)) r.2.2.2.1 (qxc.getD r.2.2.2.2 "") ∈ qgw) ∧ qisI j = false := by
  have h1 := List.all_eq_true.mp qk_h j h
  unfold qhok at h1
  simp only [Bool.and_eq_true, decide_eq_true_eq] at h1
  obtain ⟨a1, a2, a3, a4, a5, a6, a7, a8, a9, a10, a11⟩ := h1
  refine ⟨qin_mem a1, qin_mem a2, qin_mem a3, a4, a5, a6, a7, Nat.le_of_ble_eq_true a8, a9, fun r hr => ?_, by simpa using a11⟩
  have h2 := List.all_eq_true.mp a10 r hr
  simp only [Bool.and_eq_true, Bool.not_eq_true'] at h2
  exact ⟨fun z => by rw [z] at h2; exact absurd h2.1 (by decide), Nat.le_of_ble_eq_true h2.2.1, qin_mem h2.2.2⟩
theorem qhr_ok (j : Nat) : ∀ r ∈ qhr j, r.2.2.2.1 ≠ 0 ∧ r.2.2.2.2 < 3 ∧ Cond.classLink (qnm (qco j)) r.2.2.2.1 (qxc.getD r.2.2.2.2 "") ∈ qgw := by
  by_cases h : j ∈ qhs
  · exact (qh_all h).2.2.2.2.2.2.2.2.2.1
  · intro r hr
    exfalso
    unfold qhr at hr
    split at hr <;> first | exact absurd hr List.not_mem_nil | exact h (by decide)
