theorem qk_f (co : Nat) : (qfL.getD co []).all (qfok co) = true := by
  match co with
  | 0 => exact qk_f0
  | 1 => exact qk_f1
  | 2 => exact qk_f2
  | 3 => exact qk_f3
  | 4 => exact qk_f4
  | 5 => exact qk_f5
  | 6 => exact qk_f6
  | 7 => exact qk_f7
  | 8 => exact qk_f8
  | 9 => exact qk_f9
  | 10 => exact qk_f10
  | n + 11 => rfl
theorem qk_m (co : Nat) : (qmL.getD co []).all (qmok co) = true := by
  match co with
  | 0 => exact qk_m0
  | 1 => exact qk_m1
  | 2 => exact qk_m2
  | 3 => exact qk_m3
  | 4 => exact qk_m4
  | 5 => exact qk_m5
  | 6 => exact qk_m6
  | 7 => exact qk_m7
  | 8 => exact qk_m8
  | 9 => exact qk_m9
  | 10 => exact qk_m10
  | n + 11 => rfl
theorem qk_k (co : Nat) : (qkL.getD co []).all (qkok co) = true := by
  match co with
  | 0 => exact qk_k0
  | 1 => exact qk_k1
  | 2 => exact qk_k2
  | 3 => exact qk_k3
  | 4 => exact qk_k4
  | 5 => exact qk_k5
  | 6 => exact qk_k6
  | 7 => exact qk_k7
  | 8 => exact qk_k8
  | 9 => exact qk_k9
  | 10 => exact qk_k10
  | n + 11 => rfl
theorem qk_i (co : Nat) : (qiL.getD co []).all (fun q => qin q.2.2 (.constant (qnm co) q.1 q.2.1)) = true := by
  match co with
  | 0 => exact qk_i0
  | 1 => exact qk_i1
  | 2 => exact qk_i2
  | 3 => exact qk_i3
  | 4 => exact qk_i4
  | 5 => exact qk_i5
  | 6 => exact qk_i6
  | 7 => exact qk_i7
  | 8 => exact qk_i8
  | 9 => exact qk_i9
  | 10 => exact qk_i10
  | n + 11 => rfl
theorem qk_j (co : Nat) : (qjL.getD co []).all (fun q => qin q.2.2 (.constantLong (qnm co) q.1 q.2.1)) = true := by
  match co with
  | 0 => exact qk_j0
  | 1 => exact qk_j1
  | 2 => exact qk_j2
  | 3 => exact qk_j3
  | 4 => exact qk_j4
  | 5 => exact qk_j5
  | 6 => exact qk_j6
  | 7 => exact qk_j7
  | 8 => exact qk_j8
  | 9 => exact qk_j9
  | 10 => exact qk_j10
  | n + 11 => rfl
theorem qfl_ok {co idx ci k : Nat} {b : Bool} {q : Nat × Nat} (h : qlk (qfL.getD co []) idx = some ((ci, k, b), q)) : k < qfN ci ∧ (b = false → Cond.fieldLink (qnm co) idx (qfC ci) (qfn ci k).2.1 (qfn ci k).2.2.1 ∈ qgw) ∧ (b = true → Cond.fieldLinkNest (qnm co) idx (qfC ci) (qfn ci k).2.1 (qfn ci k).2.2.1 qhost ∈ lw_tbl) := by
  have h1 := List.all_eq_true.mp (qk_f co) _ (qlk_mem h)
  unfold qfok at h1
  simp only [Bool.and_eq_true] at h1
  refine ⟨Nat.le_of_ble_eq_true h1.1, fun hb => ?_, fun hb => ?_⟩
  · subst hb
    exact qin_mem h1.2
  · subst hb
    exact qis_mem h1.2
theorem qkl_ok {co idx ci : Nat} {q : Nat × Nat} (h : qlk (qkL.getD co []) idx = some (ci, q)) (hc : Nat.blt ci 8 = true) : Cond.classLink (qnm co) idx (qfC ci) ∈ qgw := by
  have h1 := List.all_eq_true.mp (qk_k co) _ (qlk_mem h)
  unfold qkok at h1
  simp only [hc, cond_true] at h1
  exact qin_mem h1
theorem qil_ok {co idx : Nat} {v : Int32} {q : Nat × Nat} (h : qlk (qiL.getD co []) idx = some (v, q)) : Cond.constant (qnm co) idx v ∈ qgw := qin_mem (List.all_eq_true.mp (qk_i co) _ (qlk_mem h))
theorem qjl_ok {co idx : Nat} {v : Int64} {q : Nat × Nat} (h : qlk (qjL.getD co []) idx = some (v, q)) : Cond.constantLong (qnm co) idx v ∈ qgw := qin_mem (List.all_eq_true.mp (qk_j co) _ (qlk_mem h))
theorem qzip_in {l : List Cond} {ps : List (Nat × Nat)} (h : (l.zip ps).all (fun q => qin q.2 q.1) = true) (hn : l.length ≤ ps.length) : ∀ w ∈ l, w ∈ qgw := by
  intro w hw
  obtain ⟨i, hi⟩ := List.getElem?_of_mem hw
  have hl : i < l.length := (List.getElem?_eq_some_iff.mp hi).1
  have hp : i < ps.length := by omega
  have hz : (l.zip ps)[i]? = some (w, ps[i]) := by rw [List.getElem?_zip_eq_some]; exact ⟨hi, List.getElem?_eq_getElem hp⟩
  exact qin_mem (List.all_eq_true.mp h _ (List.mem_of_getElem? hz))
theorem qcl_at {ci : Nat} (h : ci < 8) : qcl[ci]? = some (qfC ci, qfn ci, qfN ci) := by
  match ci, h with
  | 0, _ => rfl
  | 1, _ => rfl
  | 2, _ => rfl
  | 3, _ => rfl
  | 4, _ => rfl
  | 5, _ => rfl
  | 6, _ => rfl
  | 7, _ => rfl
  | n + 8, h => exact absurd h (by omega)
theorem qcl_lt {ci : Nat} {r : vw_C} (h : qcl[ci]? = some r) : ci < 8 := (List.getElem?_eq_some_iff.mp h).1
theorem qcl_ws {ci : Nat} (h : ci < 8) : ∀ w ∈ u_ws (qfC ci) (qfn ci) (qfN ci), w ∈ qgw := by
  match ci, h with
  | 0, _ => exact qzip_in qk_c0 (by decide +kernel)
  | 1, _ => exact qzip_in qk_c1 (by decide +kernel)
  | 2, _ => exact qzip_in qk_c2 (by decide +kernel)
  | 3, _ => exact qzip_in qk_c3 (by decide +kernel)
  | 4, _ => exact qzip_in qk_c4 (by decide +kernel)
  | 5, _ => exact qzip_in qk_c5 (by decide +kernel)
  | 6, _ => exact qzip_in qk_c6 (by decide +kernel)
  | 7, _ => exact qzip_in qk_c7 (by decide +kernel)
  | n + 8, h => exact absurd h (by omega)
theorem qcl_d {ci : Nat} (h : ci < 8) : Cond.instantiable (qfC ci) (qfN ci) ∈ qgw ∧ Cond.initialized (qfC ci) ∈ qgw := by
  match ci, h with
  | 0, _ => exact ⟨qin_mem (Bool.and_eq_true_iff.mp qk_d0).1, qin_mem (Bool.and_eq_true_iff.mp qk_d0).2⟩
  | 1, _ => exact ⟨qin_mem (Bool.and_eq_true_iff.mp qk_d1).1, qin_mem (Bool.and_eq_true_iff.mp qk_d1).2⟩
  | 2, _ => exact ⟨qin_mem (Bool.and_eq_true_iff.mp qk_d2).1, qin_mem (Bool.and_eq_true_iff.mp qk_d2).2⟩
  | 3, _ => exact ⟨qin_mem (Bool.and_eq_true_iff.mp qk_d3).1, qin_mem (Bool.and_eq_true_iff.mp qk_d3).2⟩
  | 4, _ => exact ⟨qin_mem (Bool.and_eq_true_iff.mp qk_d4).1, qin_mem (Bool.and_eq_true_iff.mp qk_d4).2⟩
  | 5, _ => exact ⟨qin_mem (Bool.and_eq_true_iff.mp qk_d5).1, qin_mem (Bool.and_eq_true_iff.mp qk_d5).2⟩
  | 6, _ => exact ⟨qin_mem (Bool.and_eq_true_iff.mp qk_d6).1, qin_mem (Bool.and_eq_true_iff.mp qk_d6).2⟩
  | 7, _ => exact ⟨qin_mem (Bool.and_eq_true_iff.mp qk_d7).1, qin_mem (Bool.and_eq_true_iff.mp qk_d7).2⟩
  | n + 8, h => exact absurd h (by omega)
theorem qcl_ty {ci : Nat} (h : ci < 8) : ∀ k, k < qfN ci → parseFieldDescriptor (qfn ci k).2.2.1 = some (qcty ci k) := by
  match ci, h with
  | 0, _ => exact qt0_ok
  | 1, _ => exact qt1_ok
  | 2, _ => exact qt2_ok
  | 3, _ => exact qt3_ok
  | 4, _ => exact qt4_ok
  | 5, _ => exact qt5_ok
  | 6, _ => exact qt6_ok
  | 7, _ => exact qt7_ok
  | n + 8, h => exact absurd h (by omega)
theorem qcl_nm {ci : Nat} (h : ci < 8) : ∀ a, a < qfN ci → ∀ b, b < qfN ci → a ≠ b → (qfn ci a).2.1 ≠ (qfn ci b).2.1 := by
  match ci, h with
  | 0, _ => exact qn0
  | 1, _ => exact qn1
  | 2, _ => exact qn2
  | 3, _ => exact qn3
  | 4, _ => exact qn4
  | 5, _ => exact qn5
  | 6, _ => exact qn6
  | 7, _ => exact qn7
  | n + 8, h => exact absurd h (by omega)
theorem qcl_own {ci k : Nat} (h : ci < 8) (hk : k < qfN ci) : (qfn ci k).1 = qfC ci := by
  match ci, h with
  | 0, _ => exact (show ∀ k, k < qfN 0 → (qfn 0 k).1 = qfC 0 by decide +kernel) k hk
  | 1, _ => exact (show ∀ k, k < qfN 1 → (qfn 1 k).1 = qfC 1 by decide +kernel) k hk
  | 2, _ => exact (show ∀ k, k < qfN 2 → (qfn 2 k).1 = qfC 2 by decide +kernel) k hk
  | 3, _ => exact (show ∀ k, k < qfN 3 → (qfn 3 k).1 = qfC 3 by decide +kernel) k hk
  | 4, _ => exact (show ∀ k, k < qfN 4 → (qfn 4 k).1 = qfC 4 by decide +kernel) k hk
  | 5, _ => exact (show ∀ k, k < qfN 5 → (qfn 5 k).1 = qfC 5 by decide +kernel) k hk
  | 6, _ => exact (show ∀ k, k < qfN 6 → (qfn 6 k).1 = qfC 6 by decide +kernel) k hk
  | 7, _ => exact (show ∀ k, k < qfN 7 → (qfn 7 k).1 = qfC 7 by decide +kernel) k hk
  | n + 8, h => exact absurd h (by omega)
