set_option maxRecDepth 10000 in
set_option maxHeartbeats 4000000 in
theorem s_R_clear {ξ : Nat → Option (Nat × List Int32)} (d : Nat) (r : Nat) (σ : qH) (hK : K σ) (hr : r ∈ RwL)  : T ξ d j_R_clear 0 (lv_args 0 [.ref r]) [] σ (fun v σ' => v = none ∧ Fr [r] σ σ' ∧ FrR r σ σ' ∧ rl σ' r = 0) := by
  obtain ⟨mx1, nx1, bx1, lx1, hrx1, hbx1, fx1a, fx1b, fx1c, fx1d, fx1e, fx1g, fx1h, fx1i⟩ := hK.row hr
  have el0 := rl_of hrx1 (by omega)
  refine T.go 2 (fun n9 => (rfl : _ = exe ξ n9 d j_R_clear 2 [(0, .ref r)] [J 0, .ref r] σ)) ?_
  refine T.putF (w := [r]) rfl rfl hrx1 rfl rfl rfl (fs' := [J mx1, .ref bx1, J 0]) rfl (Fr.len hK hr hrx1 hbx1 (by omega) (by simp)) (fun s1 hs1 hcs1 hos1 => ?_)
  have rs1 : FrR r σ s1 := (FrR.one hos1)
  have k1 := hos1 (q_dif hbx1 hrx1 (fun z => by cases z)) hbx1
  have el1 := rl_of hcs1 (by omega)
  exact T.vret rfl rfl ⟨rfl, hs1, rs1, by omega⟩
