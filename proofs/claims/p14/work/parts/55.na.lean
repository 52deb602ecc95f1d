set_option maxRecDepth 10000 in
set_option maxHeartbeats 4000000 in
theorem s_N_fault {ξ : Nat → Option (Nat × List Int32)} (d : Nat)  (σ : qH) (hK : K σ)   : T ξ (d + 8) j_N_fault 0 (lv_args 0 [.ref 16]) [] σ (fun v σ' => ∃ z : Int, v = some (J z) ∧ σ' = σ ∧ -2147483648 ≤ z ∧ z ≤ 2147483647) := by
  refine T.go 1 (fun n9 => (rfl : _ = exe ξ n9 (d + 8) j_N_fault 1 [(0, .ref 16)] [.ref 16] σ)) ?_
  obtain ⟨kex1, scx1, tpx1, oux1, mox1, sgx1, hox1, mcx1, lfx1, lpx1, hNx1, fx1ke, fx1sc, fx1tp, fx1ou, fx1mo, fx1sg, fx1d, fx1e, fx1f, fx1g, fx1h, fx1i, fx1j⟩ := hK.na
  refine T.get rfl rfl rfl hNx1 rfl ?_
  exact T.ireti rfl rfl ⟨_, rfl, rfl, by omega, by omega⟩

set_option maxRecDepth 10000 in
set_option maxHeartbeats 4000000 in
theorem s_N_place {ξ : Nat → Option (Nat × List Int32)} (d : Nat)  (σ : qH) (hK : K σ)   : T ξ (d + 8) j_N_place 0 (lv_args 0 [.ref 16]) [] σ (fun v σ' => ∃ z : Int, v = some (J z) ∧ σ' = σ ∧ -2147483648 ≤ z ∧ z ≤ 2147483647) := by
  refine T.go 1 (fun n9 => (rfl : _ = exe ξ n9 (d + 8) j_N_place 1 [(0, .ref 16)] [.ref 16] σ)) ?_
  obtain ⟨kex1, scx1, tpx1, oux1, mox1, sgx1, hox1, mcx1, lfx1, lpx1, hNx1, fx1ke, fx1sc, fx1tp, fx1ou, fx1mo, fx1sg, fx1d, fx1e, fx1f, fx1g, fx1h, fx1i, fx1j⟩ := hK.na
  refine T.get rfl rfl rfl hNx1 rfl ?_
  exact T.ireti rfl rfl ⟨_, rfl, rfl, by omega, by omega⟩
