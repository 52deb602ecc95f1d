/-! The model: bytes, words, rows. -/
set_option maxHeartbeats 4000000 in
theorem s_M_in {ξ : Nat → Option (Nat × List Int32)} (d : Nat) (x : Int) (y : Int) (u : Int) (σ : qH) (rx : -2147483648 ≤ x ∧ x ≤ 2147483647) (ry : -2147483648 ≤ y ∧ y ≤ 2147483647) (ru : -2147483648 ≤ u ∧ u ≤ 2147483647) : T ξ d j_M_in 0 (lv_args 0 [J x, J y, J u]) [] σ (fun v σ' => ∃ (z : Int), v = some (J z) ∧ σ' = σ ∧ 0 ≤ z ∧ z ≤ 1 ∧ (z = 1 → y ≤ x ∧ x ≤ u) ∧ (z = 0 → ¬ (y ≤ x ∧ x ≤ u))) := by
  refine T.go 2 (fun n9 => (rfl : _ = exe ξ n9 d j_M_in 2 [(0, J x), (1, J y), (2, J u)] [J y, J x] σ)) ?_
  refine T.icmp_lt rfl rfl (by omega) (by omega) (fun c1 => ?_) (fun c1 => ?_)
  · refine T.go 1 (fun n9 => (rfl : _ = exe ξ n9 d j_M_in 15 [(0, J x), (1, J y), (2, J u)] [J 0] σ)) ?_
    exact T.iretz rfl rfl (by omega) ⟨_, rfl, rfl, by omega, by omega, by omega, by omega⟩
  · refine T.go 2 (fun n9 => (rfl : _ = exe ξ n9 d j_M_in 7 [(0, J x), (1, J y), (2, J u)] [J u, J x] σ)) ?_
    refine T.icmp_gt rfl rfl (by omega) (by omega) (fun c2 => ?_) (fun c2 => ?_)
    · refine T.go 1 (fun n9 => (rfl : _ = exe ξ n9 d j_M_in 15 [(0, J x), (1, J y), (2, J u)] [J 0] σ)) ?_
      exact T.iretz rfl rfl (by omega) ⟨_, rfl, rfl, by omega, by omega, by omega, by omega⟩
    · refine T.go 2 (fun n9 => (rfl : _ = exe ξ n9 d j_M_in 15 [(0, J x), (1, J y), (2, J u)] [J 1] σ)) ?_
      exact T.iretz rfl rfl (by omega) ⟨_, rfl, rfl, by omega, by omega, by omega, by omega⟩

set_option maxHeartbeats 4000000 in
theorem s_M_two {ξ : Nat → Option (Nat × List Int32)} {c io mo fa pl ns rw en wy wh bi ed sz md bd li wk we : Int} {Lc : List Int64} {la lm ln lh ld lk lt : List Int32} (d : Nat) (x : Int) (σ : qH) (hM : MS σ c io mo fa pl ns rw en wy wh bi ed sz md bd li wk we Lc la lm ln lh ld lk lt) (rx : -2147483648 ≤ x ∧ x ≤ 2147483647) (pre0 : 0 ≤ x) (pre1 : x ≤ 20000) : T ξ (d + 1) j_M_two 0 (lv_args 0 [.ref 137, J x]) [] σ (fun v σ' => ∃ (z : Int), v = some (J z) ∧ σ' = σ ∧ 0 ≤ z ∧ z ≤ 65535 ∧ (x ≤ 7998 → z = W2 (gc Lc rw) x)) := by
  have r0 := hM.rg
  have n0 := hM.len
  refine T.go 2 (fun n9 => (rfl : _ = exe ξ n9 (d + 1) j_M_two 2 [(0, .ref 137), (1, J x)] [.ref 137, .ref 137] σ)) ?_
  refine T.get rfl rfl rfl hM.ob rfl ?_
  refine T.go 1 (fun n9 => (rfl : _ = exe ξ n9 (d + 1) j_M_two 6 [(0, .ref 137), (1, J x)] [J x, J rw, .ref 137] σ)) ?_
  refine T.callv (as := [J rw, J x]) (r := []) rfl rfl rfl rfl hM.ob rfl (s_M_get d rw x σ hM (by omega)) (fun v1 s1 hqs1 => ?_)
  obtain ⟨z1, rfl, esz1, hzz1, hyz1, pz1_0⟩ := hqs1
  rw [esz1]
  refine T.go 2 (fun n9 => (rfl : _ = exe ξ n9 (d + 1) j_M_two 11 [(0, .ref 137), (1, J x)] [.ref 137, .ref 137, J z1] σ)) ?_
  refine T.get rfl rfl rfl hM.ob rfl ?_
  refine T.go 2 (fun n9 => (rfl : _ = exe ξ n9 (d + 1) j_M_two 16 [(0, .ref 137), (1, J x)] [J 1, J x, J rw, .ref 137, J z1] σ)) ?_
  refine T.iadd rfl ?_
  refine T.callv (as := [J rw, J (x + 1)]) (r := [J z1]) rfl rfl rfl rfl hM.ob rfl (s_M_get d rw (x + 1) σ hM (by omega)) (fun v2 s2 hqs2 => ?_)
  obtain ⟨z2, rfl, esz2, hzz2, hyz2, pz2_0⟩ := hqs2
  rw [esz2]
  refine T.go 1 (fun n9 => (rfl : _ = exe ξ n9 (d + 1) j_M_two 22 [(0, .ref 137), (1, J x)] [J 8, J z2, J z1] σ)) ?_
  refine T.ishl (p := 256) 8 rfl (by decide) (by decide) (by omega) (by omega) ?_
  refine T.iorm (p := 256) 8 z2 rfl (by decide) (by decide) (by omega) rfl ?_
  exact T.ireti rfl rfl ⟨_, rfl, rfl, by omega, by omega, fun hx => (by unfold W2; rw [gc_at (show 0 ≤ x ∧ x < 8000 by omega), gc_at (show 0 ≤ x + 1 ∧ x + 1 < 8000 by omega)]; omega)⟩

set_option maxHeartbeats 4000000 in
theorem s_M_four {ξ : Nat → Option (Nat × List Int32)} {c io mo fa pl ns rw en wy wh bi ed sz md bd li wk we : Int} {Lc : List Int64} {la lm ln lh ld lk lt : List Int32} (d : Nat) (x : Int) (σ : qH) (hM : MS σ c io mo fa pl ns rw en wy wh bi ed sz md bd li wk we Lc la lm ln lh ld lk lt) (rx : -2147483648 ≤ x ∧ x ≤ 2147483647) (pre0 : 0 ≤ x) (pre1 : x ≤ 19990) : T ξ (d + 2) j_M_four 0 (lv_args 0 [.ref 137, J x]) [] σ (fun v σ' => ∃ (z : Int), v = some (JL z) ∧ σ' = σ ∧ 0 ≤ z ∧ z ≤ 4294967295 ∧ (x ≤ 7996 → z = W4 (gc Lc rw) x)) := by
  have r0 := hM.rg
  have n0 := hM.len
  refine T.go 2 (fun n9 => (rfl : _ = exe ξ n9 (d + 2) j_M_four 2 [(0, .ref 137), (1, J x)] [J x, .ref 137] σ)) ?_
  refine T.callv (as := [J x]) (r := []) rfl rfl rfl rfl hM.ob rfl (s_M_two d x σ hM (by omega) (by omega) (by omega)) (fun v1 s1 hqs1 => ?_)
  obtain ⟨z1, rfl, esz1, hzz1, hyz1, pz1_0⟩ := hqs1
  rw [esz1]
  refine T.i2l rfl (by omega) ?_
  refine T.go 3 (fun n9 => (rfl : _ = exe ξ n9 (d + 2) j_M_four 9 [(0, .ref 137), (1, J x)] [J 2, J x, .ref 137, JL z1] σ)) ?_
  refine T.iadd rfl ?_
  refine T.callv (as := [J (x + 2)]) (r := [JL z1]) rfl rfl rfl rfl hM.ob rfl (s_M_two d (x + 2) σ hM (by omega) (by omega) (by omega)) (fun v2 s2 hqs2 => ?_)
  obtain ⟨z2, rfl, esz2, hzz2, hyz2, pz2_0⟩ := hqs2
  rw [esz2]
  refine T.i2l rfl (by omega) ?_
  refine T.go 1 (fun n9 => (rfl : _ = exe ξ n9 (d + 2) j_M_four 16 [(0, .ref 137), (1, J x)] [J 16, JL z2, JL z1] σ)) ?_
  refine T.lshl (p := 65536) 16 rfl (by decide) (by decide) (by omega) (by omega) ?_
  refine T.lorm (p := 65536) 16 z2 rfl (by decide) (by decide) (by omega) rfl ?_
  exact T.lret rfl rfl ⟨_, rfl, rfl, by omega, by omega, fun hx => (by unfold W4; omega)⟩

set_option maxHeartbeats 4000000 in
theorem s_M_stands {ξ : Nat → Option (Nat × List Int32)} {c io mo fa pl ns rw en wy wh bi ed sz md bd li wk we : Int} {Lc : List Int64} {la lm ln lh ld lk lt : List Int32} (d : Nat) (x : Int) (y : Int) (u : Int) (σ : qH) (hM : MS σ c io mo fa pl ns rw en wy wh bi ed sz md bd li wk we Lc la lm ln lh ld lk lt) (rx : -9223372036854775808 ≤ x ∧ x ≤ 9223372036854775807) (ry : -2147483648 ≤ y ∧ y ≤ 2147483647) (ru : -2147483648 ≤ u ∧ u ≤ 2147483647) (pre0 : 0 ≤ x) (pre1 : x ≤ 19990) : T ξ (d + 1) j_M_stands 0 (lv_args 0 [.ref 137, JL x, J y, J u]) [] σ (fun v σ' => ∃ (z : Int), v = some (J z) ∧ σ' = σ ∧ 0 ≤ z ∧ z ≤ 1 ∧ (x ≤ 7996 → z = STn (gc Lc rw) x y u)) := by
  have r0 := hM.rg
  have n0 := hM.len
  refine T.go 1 (fun n9 => (rfl : _ = exe ξ n9 (d + 1) j_M_stands 1 [(0, .ref 137), (1, JL x), (3, J y), (4, J u)] [JL x] σ)) ?_
  refine T.l2i rfl ?_
  refine T.go 3 (fun n9 => (rfl : _ = exe ξ n9 (d + 1) j_M_stands 6 [(0, .ref 137), (1, JL x), (3, J y), (4, J u), (5, J x)] [.ref 137, .ref 137] σ)) ?_
  refine T.get rfl rfl rfl hM.ob rfl ?_
  refine T.go 1 (fun n9 => (rfl : _ = exe ξ n9 (d + 1) j_M_stands 11 [(0, .ref 137), (1, JL x), (3, J y), (4, J u), (5, J x)] [J x, J rw, .ref 137] σ)) ?_
  refine T.callv (as := [J rw, J x]) (r := []) rfl rfl rfl rfl hM.ob rfl (s_M_get d rw x σ hM (by omega)) (fun v1 s1 hqs1 => ?_)
  obtain ⟨z1, rfl, esz1, hzz1, hyz1, pz1_0⟩ := hqs1
  rw [esz1]
  refine T.go 1 (fun n9 => (rfl : _ = exe ξ n9 (d + 1) j_M_stands 16 [(0, .ref 137), (1, JL x), (3, J y), (4, J u), (5, J x)] [J 80, J z1] σ)) ?_
  refine T.icmp_ne rfl rfl (by omega) (by omega) (fun c1 => ?_) (fun c1 => ?_)
  · refine T.go 1 (fun n9 => (rfl : _ = exe ξ n9 (d + 1) j_M_stands 74 [(0, .ref 137), (1, JL x), (3, J y), (4, J u), (5, J x)] [J 0] σ)) ?_
    exact T.iretz rfl rfl (by omega) ⟨_, rfl, rfl, by omega, by omega, fun hx => (by unfold STn; rw [gc_at (show 0 ≤ x ∧ x < 8000 by omega), gc_at (show 0 ≤ x + 1 ∧ x + 1 < 8000 by omega), gc_at (show 0 ≤ x + 2 ∧ x + 2 < 8000 by omega), gc_at (show 0 ≤ x + 3 ∧ x + 3 < 8000 by omega)]; split <;> omega)⟩
  · refine T.go 2 (fun n9 => (rfl : _ = exe ξ n9 (d + 1) j_M_stands 21 [(0, .ref 137), (1, JL x), (3, J y), (4, J u), (5, J x)] [.ref 137, .ref 137] σ)) ?_
    refine T.get rfl rfl rfl hM.ob rfl ?_
    refine T.go 2 (fun n9 => (rfl : _ = exe ξ n9 (d + 1) j_M_stands 27 [(0, .ref 137), (1, JL x), (3, J y), (4, J u), (5, J x)] [J 1, J x, J rw, .ref 137] σ)) ?_
    refine T.iadd rfl ?_
    refine T.callv (as := [J rw, J (x + 1)]) (r := []) rfl rfl rfl rfl hM.ob rfl (s_M_get d rw (x + 1) σ hM (by omega)) (fun v2 s2 hqs2 => ?_)
    obtain ⟨z2, rfl, esz2, hzz2, hyz2, pz2_0⟩ := hqs2
    rw [esz2]
    refine T.go 1 (fun n9 => (rfl : _ = exe ξ n9 (d + 1) j_M_stands 33 [(0, .ref 137), (1, JL x), (3, J y), (4, J u), (5, J x)] [J 75, J z2] σ)) ?_
    refine T.icmp_ne rfl rfl (by omega) (by omega) (fun c2 => ?_) (fun c2 => ?_)
    · refine T.go 1 (fun n9 => (rfl : _ = exe ξ n9 (d + 1) j_M_stands 74 [(0, .ref 137), (1, JL x), (3, J y), (4, J u), (5, J x)] [J 0] σ)) ?_
      exact T.iretz rfl rfl (by omega) ⟨_, rfl, rfl, by omega, by omega, fun hx => (by unfold STn; rw [gc_at (show 0 ≤ x ∧ x < 8000 by omega), gc_at (show 0 ≤ x + 1 ∧ x + 1 < 8000 by omega), gc_at (show 0 ≤ x + 2 ∧ x + 2 < 8000 by omega), gc_at (show 0 ≤ x + 3 ∧ x + 3 < 8000 by omega)]; split <;> omega)⟩
    · refine T.go 2 (fun n9 => (rfl : _ = exe ξ n9 (d + 1) j_M_stands 38 [(0, .ref 137), (1, JL x), (3, J y), (4, J u), (5, J x)] [.ref 137, .ref 137] σ)) ?_
      refine T.get rfl rfl rfl hM.ob rfl ?_
      refine T.go 2 (fun n9 => (rfl : _ = exe ξ n9 (d + 1) j_M_stands 44 [(0, .ref 137), (1, JL x), (3, J y), (4, J u), (5, J x)] [J 2, J x, J rw, .ref 137] σ)) ?_
      refine T.iadd rfl ?_
      refine T.callv (as := [J rw, J (x + 2)]) (r := []) rfl rfl rfl rfl hM.ob rfl (s_M_get d rw (x + 2) σ hM (by omega)) (fun v3 s3 hqs3 => ?_)
      obtain ⟨z3, rfl, esz3, hzz3, hyz3, pz3_0⟩ := hqs3
      rw [esz3]
      refine T.go 1 (fun n9 => (rfl : _ = exe ξ n9 (d + 1) j_M_stands 49 [(0, .ref 137), (1, JL x), (3, J y), (4, J u), (5, J x)] [J y, J z3] σ)) ?_
      refine T.icmp_ne rfl rfl (by omega) (by omega) (fun c3 => ?_) (fun c3 => ?_)
      · refine T.go 1 (fun n9 => (rfl : _ = exe ξ n9 (d + 1) j_M_stands 74 [(0, .ref 137), (1, JL x), (3, J y), (4, J u), (5, J x)] [J 0] σ)) ?_
        exact T.iretz rfl rfl (by omega) ⟨_, rfl, rfl, by omega, by omega, fun hx => (by unfold STn; rw [gc_at (show 0 ≤ x ∧ x < 8000 by omega), gc_at (show 0 ≤ x + 1 ∧ x + 1 < 8000 by omega), gc_at (show 0 ≤ x + 2 ∧ x + 2 < 8000 by omega), gc_at (show 0 ≤ x + 3 ∧ x + 3 < 8000 by omega)]; split <;> omega)⟩
      · refine T.go 2 (fun n9 => (rfl : _ = exe ξ n9 (d + 1) j_M_stands 54 [(0, .ref 137), (1, JL x), (3, J y), (4, J u), (5, J x)] [.ref 137, .ref 137] σ)) ?_
        refine T.get rfl rfl rfl hM.ob rfl ?_
        refine T.go 2 (fun n9 => (rfl : _ = exe ξ n9 (d + 1) j_M_stands 60 [(0, .ref 137), (1, JL x), (3, J y), (4, J u), (5, J x)] [J 3, J x, J rw, .ref 137] σ)) ?_
        refine T.iadd rfl ?_
        refine T.callv (as := [J rw, J (x + 3)]) (r := []) rfl rfl rfl rfl hM.ob rfl (s_M_get d rw (x + 3) σ hM (by omega)) (fun v4 s4 hqs4 => ?_)
        obtain ⟨z4, rfl, esz4, hzz4, hyz4, pz4_0⟩ := hqs4
        rw [esz4]
        refine T.go 1 (fun n9 => (rfl : _ = exe ξ n9 (d + 1) j_M_stands 66 [(0, .ref 137), (1, JL x), (3, J y), (4, J u), (5, J x)] [J u, J z4] σ)) ?_
        refine T.icmp_ne rfl rfl (by omega) (by omega) (fun c4 => ?_) (fun c4 => ?_)
        · refine T.go 1 (fun n9 => (rfl : _ = exe ξ n9 (d + 1) j_M_stands 74 [(0, .ref 137), (1, JL x), (3, J y), (4, J u), (5, J x)] [J 0] σ)) ?_
          exact T.iretz rfl rfl (by omega) ⟨_, rfl, rfl, by omega, by omega, fun hx => (by unfold STn; rw [gc_at (show 0 ≤ x ∧ x < 8000 by omega), gc_at (show 0 ≤ x + 1 ∧ x + 1 < 8000 by omega), gc_at (show 0 ≤ x + 2 ∧ x + 2 < 8000 by omega), gc_at (show 0 ≤ x + 3 ∧ x + 3 < 8000 by omega)]; split <;> omega)⟩
        · refine T.go 2 (fun n9 => (rfl : _ = exe ξ n9 (d + 1) j_M_stands 74 [(0, .ref 137), (1, JL x), (3, J y), (4, J u), (5, J x)] [J 1] σ)) ?_
          exact T.iretz rfl rfl (by omega) ⟨_, rfl, rfl, by omega, by omega, fun hx => (by unfold STn; rw [gc_at (show 0 ≤ x ∧ x < 8000 by omega), gc_at (show 0 ≤ x + 1 ∧ x + 1 < 8000 by omega), gc_at (show 0 ≤ x + 2 ∧ x + 2 < 8000 by omega), gc_at (show 0 ≤ x + 3 ∧ x + 3 < 8000 by omega)]; split <;> omega)⟩

set_option maxHeartbeats 4000000 in
theorem s_M_isWrong {ξ : Nat → Option (Nat × List Int32)} {c io mo fa pl ns rw en wy wh bi ed sz md bd li wk we : Int} {Lc : List Int64} {la lm ln lh ld lk lt : List Int32} (d : Nat) (x : Int) (y : Int) (σ : qH) (hM : MS σ c io mo fa pl ns rw en wy wh bi ed sz md bd li wk we Lc la lm ln lh ld lk lt) (rx : -2147483648 ≤ x ∧ x ≤ 2147483647) (ry : -2147483648 ≤ y ∧ y ≤ 2147483647) : T ξ d j_M_isWrong 0 (lv_args 0 [.ref 137, J x, J y]) [] σ (fun v σ' => ∃ (z : Int) (wy1 : Int) (wh1 : Int), v = some (J z) ∧ MS σ' c io mo fa pl ns rw en wy1 wh1 bi ed sz md bd li wk we Lc la lm ln lh ld lk lt ∧ FM σ σ' ∧ 1 ≤ z ∧ z ≤ 1) := by
  have r0 := hM.rg
  have n0 := hM.len
  refine T.go 2 (fun n9 => (rfl : _ = exe ξ n9 d j_M_isWrong 2 [(0, .ref 137), (1, J x), (2, J y)] [J x, .ref 137] σ)) ?_
  refine T.mput (c' := c) (io' := io) (mo' := mo) (fa' := fa) (pl' := pl) (ns' := ns) (rw' := rw) (en' := en) (wy' := x) (wh' := wh) (bi' := bi) (ed' := ed) (sz' := sz) (md' := md) (bd' := bd) (li' := li) (wk' := wk) (we' := we) hM rfl rfl rfl rfl rfl rfl (by omega) (fun s1 ms1 fs1 => ?_)
  refine T.go 2 (fun n9 => (rfl : _ = exe ξ n9 d j_M_isWrong 7 [(0, .ref 137), (1, J x), (2, J y)] [J y, .ref 137] s1)) ?_
  refine T.mput (c' := c) (io' := io) (mo' := mo) (fa' := fa) (pl' := pl) (ns' := ns) (rw' := rw) (en' := en) (wy' := x) (wh' := y) (bi' := bi) (ed' := ed) (sz' := sz) (md' := md) (bd' := bd) (li' := li) (wk' := wk) (we' := we) ms1 rfl rfl rfl rfl rfl rfl (by omega) (fun s2 ms2 fs2 => ?_)
  have gs2 := fs1.trans fs2
  refine T.go 1 (fun n9 => (rfl : _ = exe ξ n9 d j_M_isWrong 11 [(0, .ref 137), (1, J x), (2, J y)] [J 1] s2)) ?_
  exact T.iretz rfl rfl (by omega) ⟨_, x, y, rfl, ms2, gs2, by omega, by omega⟩

set_option maxHeartbeats 4000000 in
theorem s_M_endRecord {ξ : Nat → Option (Nat × List Int32)} {c io mo fa pl ns rw en wy wh bi ed sz md bd li wk we : Int} {Lc : List Int64} {la lm ln lh ld lk lt : List Int32} (d : Nat)  (σ : qH) (hM : MS σ c io mo fa pl ns rw en wy wh bi ed sz md bd li wk we Lc la lm ln lh ld lk lt)  : T ξ (d + 2) j_M_endRecord 0 (lv_args 0 [.ref 137]) [] σ (fun v σ' => ∃ (z : Int), v = some (J z) ∧ σ' = σ ∧ -1 ≤ z ∧ z ≤ 7978 ∧ z = EN (gc Lc rw) (gl la rw)) := by
  have r0 := hM.rg
  have n0 := hM.len
  have loop15 : ∀ (f15 : Nat) (f1 : Int) (e : Int), 0 ≤ f1 → f1 ≤ 8000 → e ≤ f1 - 22 → -22 ≤ e → gl la rw = f1 → EN (gc Lc rw) (gl la rw) = ER (gc Lc rw) f1 (e + 1).toNat → (e + 1).toNat < f15 → T ξ (d + 2) j_M_endRecord 15 [(0, .ref 137), (1, J f1), (2, J e)] [] σ (fun v σ' => ∃ (z : Int), v = some (J z) ∧ σ' = σ ∧ -1 ≤ z ∧ z ≤ 7978 ∧ z = EN (gc Lc rw) (gl la rw)) := by
    intro f15
    induction f15 with
    | zero => intro f1 e i0 i1 i2 i3 i4 i5 hm15; omega
    | succ f15 ih15 =>
      intro f1 e i0 i1 i2 i3 i4 i5 hm15
      refine T.go 1 (fun n9 => (rfl : _ = exe ξ n9 (d + 2) j_M_endRecord 16 [(0, .ref 137), (1, J f1), (2, J e)] [J e] σ)) ?_
      refine T.if_lt rfl rfl (by omega) (fun c1 => ?_) (fun c1 => ?_)
      · refine T.go 1 (fun n9 => (rfl : _ = exe ξ n9 (d + 2) j_M_endRecord 57 [(0, .ref 137), (1, J f1), (2, J e)] [J (-1)] σ)) ?_
        exact T.ireti rfl rfl ⟨_, rfl, rfl, by omega, by omega, (by first | (rw [i5, show (e + 1).toNat = 0 by omega]; rfl) | (rw [i5, ER_step (by omega), if_pos ⟨by omega, by omega⟩]))⟩
      · refine T.go 2 (fun n9 => (rfl : _ = exe ξ n9 (d + 2) j_M_endRecord 21 [(0, .ref 137), (1, J f1), (2, J e)] [J e, .ref 137] σ)) ?_
        refine T.i2l rfl (by omega) ?_
        refine T.go 2 (fun n9 => (rfl : _ = exe ξ n9 (d + 2) j_M_endRecord 25 [(0, .ref 137), (1, J f1), (2, J e)] [J 6, J 5, JL e, .ref 137] σ)) ?_
        refine T.callv (as := [JL e, J 5, J 6]) (r := []) rfl rfl rfl rfl hM.ob rfl (s_M_stands d e 5 6 σ hM (by omega) (by omega) (by omega) (by omega) (by omega)) (fun v1 s1 hqs1 => ?_)
        obtain ⟨z1, rfl, esz1, hzz1, hyz1, pz1_0⟩ := hqs1
        rw [esz1]
        refine T.if_eq rfl rfl (by omega) (fun c2 => ?_) (fun c2 => ?_)
        · refine T.iinc (lv' := [(0, .ref 137), (1, J f1), (2, J (e + (-1)))]) rfl rfl rfl rfl ?_
          refine T.go 1 (fun n9 => (rfl : _ = exe ξ n9 (d + 2) j_M_endRecord 15 [(0, .ref 137), (1, J f1), (2, J (e + (-1)))] [] σ)) ?_
          exact ih15  f1 (e + (-1))  (by omega) (by omega) (by omega) (by omega) i4 (by rw [i5, ER_step (by omega), if_neg (by omega), show (e + (-1) + 1).toNat = e.toNat by omega]) (by omega)
        · refine T.go 3 (fun n9 => (rfl : _ = exe ξ n9 (d + 2) j_M_endRecord 35 [(0, .ref 137), (1, J f1), (2, J e)] [J 20, J e, .ref 137] σ)) ?_
          refine T.iadd rfl ?_
          refine T.callv (as := [J (e + 20)]) (r := []) rfl rfl rfl rfl hM.ob rfl (s_M_two d (e + 20) σ hM (by omega) (by omega) (by omega)) (fun v2 s2 hqs2 => ?_)
          obtain ⟨z2, rfl, esz2, hzz2, hyz2, pz2_0⟩ := hqs2
          rw [esz2]
          refine T.go 2 (fun n9 => (rfl : _ = exe ξ n9 (d + 2) j_M_endRecord 41 [(0, .ref 137), (1, J f1), (2, J e)] [J e, J f1, J z2] σ)) ?_
          refine T.isub rfl ?_
          refine T.go 1 (fun n9 => (rfl : _ = exe ξ n9 (d + 2) j_M_endRecord 44 [(0, .ref 137), (1, J f1), (2, J e)] [J 22, J (f1 - e), J z2] σ)) ?_
          refine T.isub rfl ?_
          refine T.icmp_ne rfl rfl (by omega) (by omega) (fun c3 => ?_) (fun c3 => ?_)
          · refine T.iinc (lv' := [(0, .ref 137), (1, J f1), (2, J (e + (-1)))]) rfl rfl rfl rfl ?_
            refine T.go 1 (fun n9 => (rfl : _ = exe ξ n9 (d + 2) j_M_endRecord 15 [(0, .ref 137), (1, J f1), (2, J (e + (-1)))] [] σ)) ?_
            exact ih15  f1 (e + (-1))  (by omega) (by omega) (by omega) (by omega) i4 (by rw [i5, ER_step (by omega), if_neg (by omega), show (e + (-1) + 1).toNat = e.toNat by omega]) (by omega)
          · refine T.go 1 (fun n9 => (rfl : _ = exe ξ n9 (d + 2) j_M_endRecord 49 [(0, .ref 137), (1, J f1), (2, J e)] [J e] σ)) ?_
            exact T.ireti rfl rfl ⟨_, rfl, rfl, by omega, by omega, (by first | (rw [i5, show (e + 1).toNat = 0 by omega]; rfl) | (rw [i5, ER_step (by omega), if_pos ⟨by omega, by omega⟩]))⟩
  refine T.go 1 (fun n9 => (rfl : _ = exe ξ n9 (d + 2) j_M_endRecord 1 [(0, .ref 137)] [.ref 137] σ)) ?_
  refine T.get rfl rfl rfl hM.ob rfl ?_
  refine T.go 1 (fun n9 => (rfl : _ = exe ξ n9 (d + 2) j_M_endRecord 5 [(0, .ref 137)] [.ref 137, .ref 139] σ)) ?_
  refine T.get rfl rfl rfl hM.ob rfl ?_
  refine T.iald rfl rfl hM.c139 (by omega) (fun z3 hzz3 hyz3 hez3 => ?_)
  have hbz3 := hM.b139.at hez3 ⟨hzz3, hyz3⟩
  have gzz3 := gl_of hez3 ⟨hzz3, hyz3⟩
  subst gzz3
  refine T.go 3 (fun n9 => (rfl : _ = exe ξ n9 (d + 2) j_M_endRecord 13 [(0, .ref 137), (1, J (gl la rw))] [J 22, J (gl la rw)] σ)) ?_
  refine T.isub rfl ?_
  refine T.go 1 (fun n9 => (rfl : _ = exe ξ n9 (d + 2) j_M_endRecord 15 [(0, .ref 137), (1, J (gl la rw)), (2, J ((gl la rw) - 22))] [] σ)) ?_
  exact loop15 _ (gl la rw) ((gl la rw) - 22)  (by omega) (by omega) (by omega) (by omega) rfl (by unfold EN; rw [show (gl la rw - 21).toNat = (gl la rw - 22 + 1).toNat by omega]) (Nat.lt_succ_self _)
