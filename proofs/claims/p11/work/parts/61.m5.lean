/-! The model: its calls. -/
set_option maxHeartbeats 4000000 in
theorem s_M_fault {ξ : Nat → Option (Nat × List Int32)} {c io mo fa pl ns rw en wy wh bi ed sz md bd li wk we : Int} {Lc : List Int64} {la lm ln lh ld lk lt : List Int32} (d : Nat)  (σ : qH) (hM : MS σ c io mo fa pl ns rw en wy wh bi ed sz md bd li wk we Lc la lm ln lh ld lk lt)  : T ξ (d + 10) j_M_fault 0 (lv_args 0 [.ref 137]) [] σ (fun v σ' => ∃ (z : Int) (c1 : Int), v = some (J z) ∧ MS σ' c1 io mo fa pl ns rw en wy wh bi ed sz md bd li wk we Lc la lm ln lh ld lk lt ∧ FM σ σ' ∧ -2147483648 ≤ z ∧ z ≤ 2147483647) := by
  have r0 := hM.rg
  have n0 := hM.len
  refine T.go 2 (fun n9 => (rfl : _ = exe ξ n9 (d + 10) j_M_fault 2 [(0, .ref 137)] [J 0, .ref 137] σ)) ?_
  refine T.mput (c' := 0) (io' := io) (mo' := mo) (fa' := fa) (pl' := pl) (ns' := ns) (rw' := rw) (en' := en) (wy' := wy) (wh' := wh) (bi' := bi) (ed' := ed) (sz' := sz) (md' := md) (bd' := bd) (li' := li) (wk' := wk) (we' := we) hM rfl rfl rfl rfl rfl rfl (by omega) (fun s1 ms1 fs1 => ?_)
  refine T.go 1 (fun n9 => (rfl : _ = exe ξ n9 (d + 10) j_M_fault 6 [(0, .ref 137)] [.ref 137] s1)) ?_
  refine T.get rfl rfl rfl ms1.ob rfl ?_
  exact T.ireti rfl rfl ⟨_, 0, rfl, ms1, fs1, by omega, by omega⟩

set_option maxHeartbeats 4000000 in
theorem s_M_place {ξ : Nat → Option (Nat × List Int32)} {c io mo fa pl ns rw en wy wh bi ed sz md bd li wk we : Int} {Lc : List Int64} {la lm ln lh ld lk lt : List Int32} (d : Nat)  (σ : qH) (hM : MS σ c io mo fa pl ns rw en wy wh bi ed sz md bd li wk we Lc la lm ln lh ld lk lt)  : T ξ (d + 10) j_M_place 0 (lv_args 0 [.ref 137]) [] σ (fun v σ' => ∃ (z : Int) (c1 : Int), v = some (J z) ∧ MS σ' c1 io mo fa pl ns rw en wy wh bi ed sz md bd li wk we Lc la lm ln lh ld lk lt ∧ FM σ σ' ∧ -2147483648 ≤ z ∧ z ≤ 2147483647) := by
  have r0 := hM.rg
  have n0 := hM.len
  refine T.go 2 (fun n9 => (rfl : _ = exe ξ n9 (d + 10) j_M_place 2 [(0, .ref 137)] [J 0, .ref 137] σ)) ?_
  refine T.mput (c' := 0) (io' := io) (mo' := mo) (fa' := fa) (pl' := pl) (ns' := ns) (rw' := rw) (en' := en) (wy' := wy) (wh' := wh) (bi' := bi) (ed' := ed) (sz' := sz) (md' := md) (bd' := bd) (li' := li) (wk' := wk) (we' := we) hM rfl rfl rfl rfl rfl rfl (by omega) (fun s1 ms1 fs1 => ?_)
  refine T.go 1 (fun n9 => (rfl : _ = exe ξ n9 (d + 10) j_M_place 6 [(0, .ref 137)] [.ref 137] s1)) ?_
  refine T.get rfl rfl rfl ms1.ob rfl ?_
  exact T.ireti rfl rfl ⟨_, 0, rfl, ms1, fs1, by omega, by omega⟩

set_option maxHeartbeats 4000000 in
theorem s_M_value {ξ : Nat → Option (Nat × List Int32)} {c io mo fa pl ns rw en wy wh bi ed sz md bd li wk we : Int} {Lc : List Int64} {la lm ln lh ld lk lt : List Int32} (d : Nat) (x : Int) (σ : qH) (hM : MS σ c io mo fa pl ns rw en wy wh bi ed sz md bd li wk we Lc la lm ln lh ld lk lt) (rx : -2147483648 ≤ x ∧ x ≤ 2147483647) : T ξ (d + 10) j_M_value 0 (lv_args 0 [.ref 137, J x]) [] σ (fun v σ' => ∃ (z : Int) (c1 : Int), v = some (J z) ∧ MS σ' c1 io mo fa pl ns rw en wy wh bi ed sz md bd li wk we Lc la lm ln lh ld lk lt ∧ FM σ σ' ∧ -2147483648 ≤ z ∧ z ≤ 2147483647) := by
  have r0 := hM.rg
  have n0 := hM.len
  refine T.go 2 (fun n9 => (rfl : _ = exe ξ n9 (d + 10) j_M_value 2 [(0, .ref 137), (1, J x)] [J 0, .ref 137] σ)) ?_
  refine T.mput (c' := 0) (io' := io) (mo' := mo) (fa' := fa) (pl' := pl) (ns' := ns) (rw' := rw) (en' := en) (wy' := wy) (wh' := wh) (bi' := bi) (ed' := ed) (sz' := sz) (md' := md) (bd' := bd) (li' := li) (wk' := wk) (we' := we) hM rfl rfl rfl rfl rfl rfl (by omega) (fun s1 ms1 fs1 => ?_)
  refine T.go 3 (fun n9 => (rfl : _ = exe ξ n9 (d + 10) j_M_value 8 [(0, .ref 137), (1, J x)] [.ref 137, J 0, J x] s1)) ?_
  refine T.get rfl rfl rfl ms1.ob rfl ?_
  refine T.go 1 (fun n9 => (rfl : _ = exe ξ n9 (d + 10) j_M_value 13 [(0, .ref 137), (1, J x)] [J 6, .ref 139, J 0, J x] s1)) ?_
  refine T.iald rfl rfl ms1.c139 (by omega) (fun z1 hzz1 hyz1 hez1 => ?_)
  have hbz1 := ms1.b139.at hez1 ⟨hzz1, hyz1⟩
  have gzz1 := gl_of hez1 ⟨hzz1, hyz1⟩
  subst gzz1
  refine T.go 1 (fun n9 => (rfl : _ = exe ξ n9 (d + 10) j_M_value 15 [(0, .ref 137), (1, J x)] [J 1, J (gl la 6), J 0, J x] s1)) ?_
  refine T.isub rfl ?_
  refine T.calls (as := [J x, J 0, J ((gl la 6) - 1)]) (r := []) rfl rfl (by decide) rfl rfl (s_M_in (d + 9) x 0 ((gl la 6) - 1) s1 (by omega) (by omega) (by omega)) (fun v1 s2 hqs2 => ?_)
  obtain ⟨z2, rfl, esz2, hzz2, hyz2, pz2_0, pz2_1⟩ := hqs2
  rw [esz2]
  refine T.if_eq rfl rfl (by omega) (fun c1 => ?_) (fun c1 => ?_)
  · refine T.go 1 (fun n9 => (rfl : _ = exe ξ n9 (d + 10) j_M_value 33 [(0, .ref 137), (1, J x)] [J (-1)] s1)) ?_
    exact T.ireti rfl rfl ⟨_, 0, rfl, ms1, fs1, by omega, by omega⟩
  · refine T.go 3 (fun n9 => (rfl : _ = exe ξ n9 (d + 10) j_M_value 26 [(0, .ref 137), (1, J x)] [J x, J 6, .ref 137] s1)) ?_
    refine T.callv (as := [J 6, J x]) (r := []) rfl rfl rfl rfl ms1.ob rfl (s_M_get (d + 9) 6 x s1 ms1 (by omega)) (fun v2 s3 hqs3 => ?_)
    obtain ⟨z3, rfl, esz3, hzz3, hyz3, pz3_0⟩ := hqs3
    rw [esz3]
    refine T.go 1 (fun n9 => (rfl : _ = exe ξ n9 (d + 10) j_M_value 33 [(0, .ref 137), (1, J x)] [J z3] s1)) ?_
    exact T.ireti rfl rfl ⟨_, 0, rfl, ms1, fs1, by omega, by omega⟩
