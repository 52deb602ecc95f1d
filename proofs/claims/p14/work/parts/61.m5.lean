/-! The model: its calls. -/
set_option maxHeartbeats 4000000 in
theorem s_M_fault {ξ : Nat → Option (Nat × List Int32)} {c io mo fa pl ns rw en wy wh bi ed sz md bd li wk we : Int} {Lc : List Int64} {la lm ln lh ld lk lt : List Int32} (d : Nat)  (σ : qH) (hM : MS σ c io mo fa pl ns rw en wy wh bi ed sz md bd li wk we Lc la lm ln lh ld lk lt)  : T ξ (d + 10) j_M_fault 0 (lv_args 0 [.ref 137]) [] σ (fun v σ' => ∃ (z : Int) (c1 : Int), v = some (J z) ∧ MS σ' c1 io mo fa pl ns rw en wy wh bi ed sz md bd li wk we Lc la lm ln lh ld lk lt ∧ FM σ σ' ∧ -2147483648 ≤ z ∧ z ≤ 2147483647) := by
  have r0 := hM.rg
  have n0 := hM.len
  refine T.go 2 (fun n9 => (rfl : _ = exe ξ n9 (d + 10) j_M_fault 2 [(0, .ref 137)] [J 0, .ref 137] σ)) ?_
  refine T.mput (c' := 0) (io' := io) (mo' := mo) (fa' := fa) (pl' := pl) (ns' := ns) (rw' := rw) (en' := en) (wy' := wy) (wh' := wh) (bi' := bi) (ed' := ed) (sz' := sz) (md' := md) (bd' := bd) (li' := li) (wk' := wk) (we' := we) hM rfl rfl rfl rfl rfl rfl (by omega) (fun s1 ms1 fs1 => ?_)
  refine T.go 1 (fun n9 => (rfl : _ = exe ξ n9 (d + 10) j_M_fault 6 [(0, .ref 137)] [.ref 137] s1)) ?_
  refine T.get rfl rfl rfl ms1.ob rfl ?_
  exact T.ireti rfl rfl ⟨_, 0, rfl, ms1, fs1, by omega, by omega⟩

set_option maxHeartbeats 4000000 in
theorem s_M_place {ξ : Nat → Option (Nat × List Int32)} {c io mo fa pl ns rw en wy wh bi ed sz md bd li wk we : Int} {Lc : List Int64} {la lm ln lh ld lk lt : List Int32} (d : Nat)  (σ : qH) (hM : MS σ c io mo fa pl ns rw en wy wh bi ed sz md bd li wk we Lc la lm ln lh ld lk lt)  : T ξ (d + 10) j_M_place 0 (lv_args 0 [.ref 137]) [] σ (fun v σ' => ∃ (z : Int) (c1 : Int), v = some (J z) ∧ MS σ' c1 io mo fa pl ns rw en wy wh bi ed sz md bd li wk we Lc la lm ln lh ld lk lt ∧ FM σ σ' ∧ -2147483648 ≤ z ∧ z ≤ 2147483647) := by
  have r0 := hM.rg
  have n0 := hM.len
  refine T.go 2 (fun n9 => (rfl : _ = exe ξ n9 (d + 10) j_M_place 2 [(0, .ref 137)] [J 0, .ref 137] σ)) ?_
  refine T.mput (c' := 0) (io' := io) (mo' := mo) (fa' := fa) (pl' := pl) (ns' := ns) (rw' := rw) (en' := en) (wy' := wy) (wh' := wh) (bi' := bi) (ed' := ed) (sz' := sz) (md' := md) (bd' := bd) (li' := li) (wk' := wk) (we' := we) hM rfl rfl rfl rfl rfl rfl (by omega) (fun s1 ms1 fs1 => ?_)
  refine T.go 1 (fun n9 => (rfl : _ = exe ξ n9 (d + 10) j_M_place 6 [(0, .ref 137)] [.ref 137] s1)) ?_
  refine T.get rfl rfl rfl ms1.ob rfl ?_
  exact T.ireti rfl rfl ⟨_, 0, rfl, ms1, fs1, by omega, by omega⟩
