set_option maxHeartbeats 4000000 in
theorem s_M_frefuse {ξ : Nat → Option (Nat × List Int32)} {c io mo fa pl ns rw en wy wh bi ed sz md bd li wk we : Int} {Lc : List Int64} {la lm ln lh ld lk lt : List Int32} (d : Nat) (x : Int) (σ : qH) (hM : MS σ c io mo fa pl ns rw en wy wh bi ed sz md bd li wk we Lc la lm ln lh ld lk lt) (rx : -2147483648 ≤ x ∧ x ≤ 2147483647) : T ξ d j_M_refuse 0 (lv_args 0 [.ref 137, J x]) [] σ (fun v σ' => ∃ (z : Int) (c1 : Int), v = some (J z) ∧ MS σ' c1 io mo fa pl ns rw en wy wh bi ed sz md bd li wk we Lc la lm ln lh ld lk lt ∧ FM σ σ' ∧ -2147483648 ≤ z ∧ z ≤ 2147483647 ∧ c1 = x) := by
  have r0 := hM.rg
  have n0 := hM.len
  refine T.go 2 (fun n9 => (rfl : _ = exe ξ n9 d j_M_refuse 2 [(0, .ref 137), (1, J x)] [J x, .ref 137] σ)) ?_
  refine T.mput (c' := x) (io' := io) (mo' := mo) (fa' := fa) (pl' := pl) (ns' := ns) (rw' := rw) (en' := en) (wy' := wy) (wh' := wh) (bi' := bi) (ed' := ed) (sz' := sz) (md' := md) (bd' := bd) (li' := li) (wk' := wk) (we' := we) hM rfl rfl rfl rfl rfl rfl (by omega) (fun s1 ms1 fs1 => ?_)
  refine T.go 1 (fun n9 => (rfl : _ = exe ξ n9 d j_M_refuse 6 [(0, .ref 137), (1, J x)] [J 0] s1)) ?_
  exact T.ireti rfl rfl ⟨_, x, rfl, ms1, fs1, by omega, by omega, by omega⟩

set_option maxHeartbeats 4000000 in
theorem s_M_frefuseFault {ξ : Nat → Option (Nat × List Int32)} {c io mo fa pl ns rw en wy wh bi ed sz md bd li wk we : Int} {Lc : List Int64} {la lm ln lh ld lk lt : List Int32} (d : Nat) (x : Int) (σ : qH) (hM : MS σ c io mo fa pl ns rw en wy wh bi ed sz md bd li wk we Lc la lm ln lh ld lk lt) (rx : -2147483648 ≤ x ∧ x ≤ 2147483647) : T ξ (d + 1) j_M_refuseFault 0 (lv_args 0 [.ref 137, J x]) [] σ (fun v σ' => ∃ (z : Int) (c1 : Int) (fa1 : Int) (pl1 : Int), v = some (J z) ∧ MS σ' c1 io mo fa1 pl1 ns rw en wy wh bi ed sz md bd li wk we Lc la lm ln lh ld lk lt ∧ FM σ σ' ∧ -2147483648 ≤ z ∧ z ≤ 2147483647 ∧ c1 = x) := by
  have r0 := hM.rg
  have n0 := hM.len
  refine T.go 2 (fun n9 => (rfl : _ = exe ξ n9 (d + 1) j_M_refuseFault 2 [(0, .ref 137), (1, J x)] [.ref 137, .ref 137] σ)) ?_
  refine T.get rfl rfl rfl hM.ob rfl ?_
  refine T.mput (c' := c) (io' := io) (mo' := mo) (fa' := wy) (pl' := pl) (ns' := ns) (rw' := rw) (en' := en) (wy' := wy) (wh' := wh) (bi' := bi) (ed' := ed) (sz' := sz) (md' := md) (bd' := bd) (li' := li) (wk' := wk) (we' := we) hM rfl rfl rfl rfl rfl rfl (by omega) (fun s1 ms1 fs1 => ?_)
  refine T.go 2 (fun n9 => (rfl : _ = exe ξ n9 (d + 1) j_M_refuseFault 10 [(0, .ref 137), (1, J x)] [.ref 137, .ref 137] s1)) ?_
  refine T.get rfl rfl rfl ms1.ob rfl ?_
  refine T.mput (c' := c) (io' := io) (mo' := mo) (fa' := wy) (pl' := wh) (ns' := ns) (rw' := rw) (en' := en) (wy' := wy) (wh' := wh) (bi' := bi) (ed' := ed) (sz' := sz) (md' := md) (bd' := bd) (li' := li) (wk' := wk) (we' := we) ms1 rfl rfl rfl rfl rfl rfl (by omega) (fun s2 ms2 fs2 => ?_)
  have gs2 := fs1.trans fs2
  refine T.go 2 (fun n9 => (rfl : _ = exe ξ n9 (d + 1) j_M_refuseFault 18 [(0, .ref 137), (1, J x)] [J x, .ref 137] s2)) ?_
  refine T.callv (as := [J x]) (r := []) rfl rfl rfl rfl ms2.ob rfl (s_M_frefuse d x s2 ms2 (by omega)) (fun v1 s3 hqs3 => ?_)
  obtain ⟨z1, c_1, rfl, ms3, fs3, hzz1, hyz1, pz1_0⟩ := hqs3
  have ns3 := ms3.len
  have rs3 := ms3.rg
  have gs3 := gs2.trans fs3
  exact T.ireti rfl rfl ⟨_, c_1, wy, wh, rfl, ms3, gs3, by omega, by omega, by omega⟩
