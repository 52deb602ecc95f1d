/-! class NestedArchives: what is typed. -/
set_option maxHeartbeats 4000000 in
theorem s_N_yisLetter {ξ : Nat → Option (Nat × List Int32)} (d : Nat) (x : Int) (σ : qH) (hK : K σ)  (rx : -2147483648 ≤ x ∧ x ≤ 2147483647) : T ξ d j_N_isLetter 0 (lv_args 0 [J x]) [] σ (fun v σ' => ∃ z : Int, v = some (J z) ∧ σ' = σ ∧ 0 ≤ z ∧ z ≤ 1 ∧ (z = 1 → 33 ≤ x ∧ x ≤ 126) ∧ (z = 0 → ¬ (33 ≤ x ∧ x ≤ 126))) := by
  refine T.go 2 (fun n9 => (rfl : _ = exe ξ n9 d j_N_isLetter 3 [(0, J x)] [J 33, J x] σ)) ?_
  refine T.icmp_lt rfl rfl (by omega) (by omega) (fun c1 => ?_) (fun c1 => ?_)
  · refine T.go 1 (fun n9 => (rfl : _ = exe ξ n9 d j_N_isLetter 17 [(0, J x)] [J 0] σ)) ?_
    exact T.iretz rfl rfl (by omega) ⟨_, rfl, rfl, by omega, by omega, by omega, by omega⟩
  · refine T.go 2 (fun n9 => (rfl : _ = exe ξ n9 d j_N_isLetter 9 [(0, J x)] [J 126, J x] σ)) ?_
    refine T.icmp_gt rfl rfl (by omega) (by omega) (fun c2 => ?_) (fun c2 => ?_)
    · refine T.go 1 (fun n9 => (rfl : _ = exe ξ n9 d j_N_isLetter 17 [(0, J x)] [J 0] σ)) ?_
      exact T.iretz rfl rfl (by omega) ⟨_, rfl, rfl, by omega, by omega, by omega, by omega⟩
    · refine T.go 2 (fun n9 => (rfl : _ = exe ξ n9 d j_N_isLetter 17 [(0, J x)] [J 1] σ)) ?_
      exact T.iretz rfl rfl (by omega) ⟨_, rfl, rfl, by omega, by omega, by omega, by omega⟩

set_option maxHeartbeats 4000000 in
theorem s_N_yfeedInt {ξ : Nat → Option (Nat × List Int32)} (d : Nat) (x : Int) (σ : qH) (hK : K σ)  (rx : -2147483648 ≤ x ∧ x ≤ 2147483647) (pre0 : tl σ ≤ 7996) : T ξ (d + 1) j_N_feedInt 0 (lv_args 0 [.ref 16, J x]) [] σ (fun v σ' => v = none ∧ Fr WT σ σ' ∧ tl σ' = tl σ + 4) := by
  obtain ⟨kex1, scx1, tpx1, oux1, mox1, sgx1, hox1, mcx1, lfx1, lpx1, hNx1, fx1ke, fx1sc, fx1tp, fx1ou, fx1mo, fx1sg, fx1d, fx1e, fx1f, fx1g, fx1h, fx1i, fx1j⟩ := hK.na
  obtain ⟨ex2, erx2, dix2, bax2, fpx2, hax2, fx2a, fx2b, fx2c, fx2d, fx2e, fx2f, fx2g, fx2h, fx2i, fx2j⟩ := hK.arc (na_tp fx1tp)
  obtain ⟨mx3, nx3, bx3, lx3, hrx3, hbx3, fx3a, fx3b, fx3c, fx3d, fx3e, fx3g, fx3h⟩ := hK.row (kdX_ar _ (na_tp fx1tp)).2.2.1
  have hm := mst_tp fx1tp
  have t0 := tl_at hNx1 rfl
  have t1 := rl_of hrx3 (by omega)
  refine T.go 5 (fun n9 => (rfl : _ = exe ξ n9 (d + 1) j_N_feedInt 8 [(0, .ref 16), (1, J x), (2, J 24)] [.ref 16] σ)) ?_
  refine T.get rfl rfl rfl hNx1 rfl ?_
  refine T.get rfl rfl rfl hax2 rfl ?_
  refine T.go 2 (fun n9 => (rfl : _ = exe ξ n9 (d + 1) j_N_feedInt 16 [(0, .ref 16), (1, J x), (2, J 24)] [J 24, J x, .ref (tpx1 + 1)] σ)) ?_
  refine T.some1 rfl rfl (fun z1 hzz1 hyz1 _ => ?_)
  refine T.go 1 (fun n9 => (rfl : _ = exe ξ n9 (d + 1) j_N_feedInt 20 [(0, .ref 16), (1, J x), (2, J 24)] [J 255, J z1, .ref (tpx1 + 1)] σ)) ?_
  refine T.iandm (p := 256) 8 rfl (by decide) (by decide) (by decide) (by omega) ?_
  refine T.callv (as := [J (z1 % 256)]) (r := []) rfl rfl rfl (RwL_lt _ (kdX_ar _ (na_tp fx1tp)).2.2.1).2.2.1 hrx3 rfl (s_R_add d (tpx1 + 1) (z1 % 256) σ hK (kdX_ar _ (na_tp fx1tp)).2.2.1  (by omega)) (fun v1 s1 hqs1 => ?_)
  obtain ⟨z3, rfl, hs1, hzz3, hyz3, pz3_0, pz3_1⟩ := hqs1
  have es1 := hs1
  have hs1 := hs1.sub (w' := WT) (sub_1 (WT_tp fx1tp))
  have k1 := pz3_0 _ _ (by omega) (fun l e => by cases e) hax2
  have k2 := (es1.2.2.1 16 (by simp) (n16 (kdX_ar _ (na_tp fx1tp)).2.2.1)).trans hNx1
  refine T.go 1 (fun n9 => (rfl : _ = exe ξ n9 (d + 1) j_N_feedInt 25 [(0, .ref 16), (1, J x), (2, J 24)] [] s1)) ?_
  refine T.iinc (lv' := [(0, .ref 16), (1, J x), (2, J 16)]) rfl rfl rfl rfl ?_
  refine T.go 4 (fun n9 => (rfl : _ = exe ξ n9 (d + 1) j_N_feedInt 8 [(0, .ref 16), (1, J x), (2, J 16)] [.ref 16] s1)) ?_
  refine T.get rfl rfl rfl k2 rfl ?_
  refine T.get rfl rfl rfl k1 rfl ?_
  refine T.go 2 (fun n9 => (rfl : _ = exe ξ n9 (d + 1) j_N_feedInt 16 [(0, .ref 16), (1, J x), (2, J 16)] [J 16, J x, .ref (tpx1 + 1)] s1)) ?_
  refine T.some1 rfl rfl (fun z4 hzz4 hyz4 _ => ?_)
  refine T.go 1 (fun n9 => (rfl : _ = exe ξ n9 (d + 1) j_N_feedInt 20 [(0, .ref 16), (1, J x), (2, J 16)] [J 255, J z4, .ref (tpx1 + 1)] s1)) ?_
  refine T.iandm (p := 256) 8 rfl (by decide) (by decide) (by decide) (by omega) ?_
  obtain ⟨mx4, nx4, bx4, lx4, hrx4, hbx4, fx4a, fx4b, fx4c, fx4d, fx4e, fx4g, fx4h⟩ := hs1.1.row (kdX_ar _ (na_tp fx1tp)).2.2.1
  refine T.callv (as := [J (z4 % 256)]) (r := []) rfl rfl rfl (RwL_lt _ (kdX_ar _ (na_tp fx1tp)).2.2.1).2.2.1 hrx4 rfl (s_R_add d (tpx1 + 1) (z4 % 256) s1 hs1.1 (kdX_ar _ (na_tp fx1tp)).2.2.1  (by omega)) (fun v2 s2 hqs2 => ?_)
  obtain ⟨z6, rfl, hs2, hzz6, hyz6, pz6_0, pz6_1⟩ := hqs2
  have es2 := hs2
  have hs2 := hs2.sub (w' := WT) (sub_1 (WT_tp fx1tp))
  have k3 := pz6_0 _ _ (by omega) (fun l e => by cases e) k1
  have k4 := (es2.2.2.1 16 (by simp) (n16 (kdX_ar _ (na_tp fx1tp)).2.2.1)).trans k2
  have gs2 := hs1.trans hs2
  refine T.go 1 (fun n9 => (rfl : _ = exe ξ n9 (d + 1) j_N_feedInt 25 [(0, .ref 16), (1, J x), (2, J 16)] [] s2)) ?_
  refine T.iinc (lv' := [(0, .ref 16), (1, J x), (2, J 8)]) rfl rfl rfl rfl ?_
  refine T.go 4 (fun n9 => (rfl : _ = exe ξ n9 (d + 1) j_N_feedInt 8 [(0, .ref 16), (1, J x), (2, J 8)] [.ref 16] s2)) ?_
  refine T.get rfl rfl rfl k4 rfl ?_
  refine T.get rfl rfl rfl k3 rfl ?_
  refine T.go 2 (fun n9 => (rfl : _ = exe ξ n9 (d + 1) j_N_feedInt 16 [(0, .ref 16), (1, J x), (2, J 8)] [J 8, J x, .ref (tpx1 + 1)] s2)) ?_
  refine T.some1 rfl rfl (fun z7 hzz7 hyz7 _ => ?_)
  refine T.go 1 (fun n9 => (rfl : _ = exe ξ n9 (d + 1) j_N_feedInt 20 [(0, .ref 16), (1, J x), (2, J 8)] [J 255, J z7, .ref (tpx1 + 1)] s2)) ?_
  refine T.iandm (p := 256) 8 rfl (by decide) (by decide) (by decide) (by omega) ?_
  obtain ⟨mx5, nx5, bx5, lx5, hrx5, hbx5, fx5a, fx5b, fx5c, fx5d, fx5e, fx5g, fx5h⟩ := hs2.1.row (kdX_ar _ (na_tp fx1tp)).2.2.1
  refine T.callv (as := [J (z7 % 256)]) (r := []) rfl rfl rfl (RwL_lt _ (kdX_ar _ (na_tp fx1tp)).2.2.1).2.2.1 hrx5 rfl (s_R_add d (tpx1 + 1) (z7 % 256) s2 hs2.1 (kdX_ar _ (na_tp fx1tp)).2.2.1  (by omega)) (fun v3 s3 hqs3 => ?_)
  obtain ⟨z9, rfl, hs3, hzz9, hyz9, pz9_0, pz9_1⟩ := hqs3
  have es3 := hs3
  have hs3 := hs3.sub (w' := WT) (sub_1 (WT_tp fx1tp))
  have k5 := pz9_0 _ _ (by omega) (fun l e => by cases e) k3
  have k6 := (es3.2.2.1 16 (by simp) (n16 (kdX_ar _ (na_tp fx1tp)).2.2.1)).trans k4
  have gs3 := gs2.trans hs3
  refine T.go 1 (fun n9 => (rfl : _ = exe ξ n9 (d + 1) j_N_feedInt 25 [(0, .ref 16), (1, J x), (2, J 8)] [] s3)) ?_
  refine T.iinc (lv' := [(0, .ref 16), (1, J x), (2, J 0)]) rfl rfl rfl rfl ?_
  refine T.go 4 (fun n9 => (rfl : _ = exe ξ n9 (d + 1) j_N_feedInt 8 [(0, .ref 16), (1, J x), (2, J 0)] [.ref 16] s3)) ?_
  refine T.get rfl rfl rfl k6 rfl ?_
  refine T.get rfl rfl rfl k5 rfl ?_
  refine T.go 2 (fun n9 => (rfl : _ = exe ξ n9 (d + 1) j_N_feedInt 16 [(0, .ref 16), (1, J x), (2, J 0)] [J 0, J x, .ref (tpx1 + 1)] s3)) ?_
  refine T.some1 rfl rfl (fun z10 hzz10 hyz10 _ => ?_)
  refine T.go 1 (fun n9 => (rfl : _ = exe ξ n9 (d + 1) j_N_feedInt 20 [(0, .ref 16), (1, J x), (2, J 0)] [J 255, J z10, .ref (tpx1 + 1)] s3)) ?_
  refine T.iandm (p := 256) 8 rfl (by decide) (by decide) (by decide) (by omega) ?_
  obtain ⟨mx6, nx6, bx6, lx6, hrx6, hbx6, fx6a, fx6b, fx6c, fx6d, fx6e, fx6g, fx6h⟩ := hs3.1.row (kdX_ar _ (na_tp fx1tp)).2.2.1
  refine T.callv (as := [J (z10 % 256)]) (r := []) rfl rfl rfl (RwL_lt _ (kdX_ar _ (na_tp fx1tp)).2.2.1).2.2.1 hrx6 rfl (s_R_add d (tpx1 + 1) (z10 % 256) s3 hs3.1 (kdX_ar _ (na_tp fx1tp)).2.2.1  (by omega)) (fun v4 s4 hqs4 => ?_)
  obtain ⟨z12, rfl, hs4, hzz12, hyz12, pz12_0, pz12_1⟩ := hqs4
  have es4 := hs4
  have hs4 := hs4.sub (w' := WT) (sub_1 (WT_tp fx1tp))
  have k7 := pz12_0 _ _ (by omega) (fun l e => by cases e) k5
  have k8 := (es4.2.2.1 16 (by simp) (n16 (kdX_ar _ (na_tp fx1tp)).2.2.1)).trans k6
  have gs4 := gs3.trans hs4
  refine T.go 1 (fun n9 => (rfl : _ = exe ξ n9 (d + 1) j_N_feedInt 25 [(0, .ref 16), (1, J x), (2, J 0)] [] s4)) ?_
  refine T.iinc (lv' := [(0, .ref 16), (1, J x), (2, J (-8))]) rfl rfl rfl rfl ?_
  refine T.go 3 (fun n9 => (rfl : _ = exe ξ n9 (d + 1) j_N_feedInt 31 [(0, .ref 16), (1, J x), (2, J (-8))] [] s4)) ?_
  have t9 := tl_at k8 rfl
  exact T.vret rfl rfl ⟨rfl, gs4, by omega⟩

set_option maxHeartbeats 4000000 in
theorem s_N_yfeed {ξ : Nat → Option (Nat × List Int32)} (d : Nat) (x : Int) (y : Int) (u : Int) (v9 : Int) (w9 : Int) (σ : qH) (hK : K σ)  (rx : -2147483648 ≤ x ∧ x ≤ 2147483647) (ry : -2147483648 ≤ y ∧ y ≤ 2147483647) (ru : -2147483648 ≤ u ∧ u ≤ 2147483647) (rv9 : -2147483648 ≤ v9 ∧ v9 ≤ 2147483647) (rw9 : -2147483648 ≤ w9 ∧ w9 ≤ 2147483647) : T ξ (d + 8) j_N_feed 0 (lv_args 0 [.ref 16, J x, J y, J u, J v9, J w9]) [] σ (fun v σ' => ∃ z : Int, v = some (J z) ∧ Fr WT σ σ' ∧ 0 ≤ z ∧ z ≤ 1 ∧ (tl σ ≤ 7980 → z = 1 ∧ tl σ' = tl σ + 20) ∧ (7980 < tl σ → z = 0 ∧ tl σ' = tl σ)) := by
  obtain ⟨kex1, scx1, tpx1, oux1, mox1, sgx1, hox1, mcx1, lfx1, lpx1, hNx1, fx1ke, fx1sc, fx1tp, fx1ou, fx1mo, fx1sg, fx1d, fx1e, fx1f, fx1g, fx1h, fx1i, fx1j⟩ := hK.na
  obtain ⟨ex2, erx2, dix2, bax2, fpx2, hax2, fx2a, fx2b, fx2c, fx2d, fx2e, fx2f, fx2g, fx2h, fx2i, fx2j⟩ := hK.arc (na_tp fx1tp)
  obtain ⟨mx3, nx3, bx3, lx3, hrx3, hbx3, fx3a, fx3b, fx3c, fx3d, fx3e, fx3g, fx3h⟩ := hK.row (kdX_ar _ (na_tp fx1tp)).2.2.1
  have hm := mst_tp fx1tp
  have t0 := tl_at hNx1 rfl
  have t1 := rl_of hrx3 (by omega)
  refine T.go 1 (fun n9 => (rfl : _ = exe ξ n9 (d + 8) j_N_feed 1 [(0, .ref 16), (1, J x), (2, J y), (3, J u), (4, J v9), (5, J w9)] [.ref 16] σ)) ?_
  refine T.get rfl rfl rfl hNx1 rfl ?_
  refine T.get rfl rfl rfl hax2 rfl ?_
  refine T.get rfl rfl rfl hrx3 rfl ?_
  refine T.go 1 (fun n9 => (rfl : _ = exe ξ n9 (d + 8) j_N_feed 13 [(0, .ref 16), (1, J x), (2, J y), (3, J u), (4, J v9), (5, J w9)] [J 7980, J nx3] σ)) ?_
  refine T.icmp_le rfl rfl (by omega) (by omega) (fun c1 => ?_) (fun c1 => ?_)
  · refine T.go 2 (fun n9 => (rfl : _ = exe ξ n9 (d + 8) j_N_feed 20 [(0, .ref 16), (1, J x), (2, J y), (3, J u), (4, J v9), (5, J w9)] [J x, .ref 16] σ)) ?_
    refine T.callv (as := [J x]) (r := []) rfl rfl rfl rfl hNx1 rfl (s_N_yfeedInt (d + 6) x σ hK   (by omega) (by omega)) (fun v1 s1 hqs1 => ?_)
    obtain ⟨rfl, hs1, pz1_0⟩ := hqs1
    refine T.go 2 (fun n9 => (rfl : _ = exe ξ n9 (d + 8) j_N_feed 25 [(0, .ref 16), (1, J x), (2, J y), (3, J u), (4, J v9), (5, J w9)] [J y, .ref 16] s1)) ?_
    obtain ⟨kex4, scx4, tpx4, oux4, mox4, sgx4, hox4, mcx4, lfx4, lpx4, hNx4, fx4ke, fx4sc, fx4tp, fx4ou, fx4mo, fx4sg, fx4d, fx4e, fx4f, fx4g, fx4h, fx4i, fx4j⟩ := hs1.1.na
    refine T.callv (as := [J y]) (r := []) rfl rfl rfl rfl hNx4 rfl (s_N_yfeedInt (d + 6) y s1 hs1.1   (by omega) (by omega)) (fun v2 s2 hqs2 => ?_)
    obtain ⟨rfl, hs2, pz2_0⟩ := hqs2
    have gs2 := hs1.trans hs2
    refine T.go 2 (fun n9 => (rfl : _ = exe ξ n9 (d + 8) j_N_feed 30 [(0, .ref 16), (1, J x), (2, J y), (3, J u), (4, J v9), (5, J w9)] [J u, .ref 16] s2)) ?_
    obtain ⟨kex5, scx5, tpx5, oux5, mox5, sgx5, hox5, mcx5, lfx5, lpx5, hNx5, fx5ke, fx5sc, fx5tp, fx5ou, fx5mo, fx5sg, fx5d, fx5e, fx5f, fx5g, fx5h, fx5i, fx5j⟩ := hs2.1.na
    refine T.callv (as := [J u]) (r := []) rfl rfl rfl rfl hNx5 rfl (s_N_yfeedInt (d + 6) u s2 hs2.1   (by omega) (by omega)) (fun v3 s3 hqs3 => ?_)
    obtain ⟨rfl, hs3, pz3_0⟩ := hqs3
    have gs3 := gs2.trans hs3
    refine T.go 2 (fun n9 => (rfl : _ = exe ξ n9 (d + 8) j_N_feed 36 [(0, .ref 16), (1, J x), (2, J y), (3, J u), (4, J v9), (5, J w9)] [J v9, .ref 16] s3)) ?_
    obtain ⟨kex6, scx6, tpx6, oux6, mox6, sgx6, hox6, mcx6, lfx6, lpx6, hNx6, fx6ke, fx6sc, fx6tp, fx6ou, fx6mo, fx6sg, fx6d, fx6e, fx6f, fx6g, fx6h, fx6i, fx6j⟩ := hs3.1.na
    refine T.callv (as := [J v9]) (r := []) rfl rfl rfl rfl hNx6 rfl (s_N_yfeedInt (d + 6) v9 s3 hs3.1   (by omega) (by omega)) (fun v4 s4 hqs4 => ?_)
    obtain ⟨rfl, hs4, pz4_0⟩ := hqs4
    have gs4 := gs3.trans hs4
    refine T.go 2 (fun n9 => (rfl : _ = exe ξ n9 (d + 8) j_N_feed 42 [(0, .ref 16), (1, J x), (2, J y), (3, J u), (4, J v9), (5, J w9)] [J w9, .ref 16] s4)) ?_
    obtain ⟨kex7, scx7, tpx7, oux7, mox7, sgx7, hox7, mcx7, lfx7, lpx7, hNx7, fx7ke, fx7sc, fx7tp, fx7ou, fx7mo, fx7sg, fx7d, fx7e, fx7f, fx7g, fx7h, fx7i, fx7j⟩ := hs4.1.na
    refine T.callv (as := [J w9]) (r := []) rfl rfl rfl rfl hNx7 rfl (s_N_yfeedInt (d + 6) w9 s4 hs4.1   (by omega) (by omega)) (fun v5 s5 hqs5 => ?_)
    obtain ⟨rfl, hs5, pz5_0⟩ := hqs5
    have gs5 := gs4.trans hs5
    refine T.go 1 (fun n9 => (rfl : _ = exe ξ n9 (d + 8) j_N_feed 46 [(0, .ref 16), (1, J x), (2, J y), (3, J u), (4, J v9), (5, J w9)] [J 1] s5)) ?_
    exact T.iretz rfl rfl (by omega) ⟨_, rfl, gs5, by omega, by omega, by omega, by omega⟩
  · refine T.go 1 (fun n9 => (rfl : _ = exe ξ n9 (d + 8) j_N_feed 17 [(0, .ref 16), (1, J x), (2, J y), (3, J u), (4, J v9), (5, J w9)] [J 0] σ)) ?_
    exact T.iretz rfl rfl (by omega) ⟨_, rfl, (Fr.refl hK), by omega, by omega, by omega, by omega⟩

set_option maxHeartbeats 4000000 in
theorem s_N_yend {ξ : Nat → Option (Nat × List Int32)} (d : Nat) (x : Int) (σ : qH) (hK : K σ)  (rx : -2147483648 ≤ x ∧ x ≤ 2147483647) : T ξ (d + 8) j_N_end 0 (lv_args 0 [.ref 16, J x]) [] σ (fun v σ' => ∃ z : Int, v = some (J z) ∧ Fr WT σ σ' ∧ 0 ≤ z ∧ z ≤ 1 ∧ (0 ≤ x ∧ x ≤ tl σ → z = 1 ∧ tl σ' = x) ∧ (¬ (0 ≤ x ∧ x ≤ tl σ) → z = 0 ∧ tl σ' = tl σ)) := by
  obtain ⟨kex1, scx1, tpx1, oux1, mox1, sgx1, hox1, mcx1, lfx1, lpx1, hNx1, fx1ke, fx1sc, fx1tp, fx1ou, fx1mo, fx1sg, fx1d, fx1e, fx1f, fx1g, fx1h, fx1i, fx1j⟩ := hK.na
  obtain ⟨ex2, erx2, dix2, bax2, fpx2, hax2, fx2a, fx2b, fx2c, fx2d, fx2e, fx2f, fx2g, fx2h, fx2i, fx2j⟩ := hK.arc (na_tp fx1tp)
  obtain ⟨mx3, nx3, bx3, lx3, hrx3, hbx3, fx3a, fx3b, fx3c, fx3d, fx3e, fx3g, fx3h⟩ := hK.row (kdX_ar _ (na_tp fx1tp)).2.2.1
  have hm := mst_tp fx1tp
  have t0 := tl_at hNx1 rfl
  have t1 := rl_of hrx3 (by omega)
  refine T.go 1 (fun n9 => (rfl : _ = exe ξ n9 (d + 8) j_N_end 1 [(0, .ref 16), (1, J x)] [J x] σ)) ?_
  refine T.if_lt rfl rfl (by omega) (fun c1 => ?_) (fun c1 => ?_)
  · refine T.go 1 (fun n9 => (rfl : _ = exe ξ n9 (d + 8) j_N_end 19 [(0, .ref 16), (1, J x)] [J 0] σ)) ?_
    have t8 := tl_at hNx1 rfl
    have t9 := rl_of hrx3 (by omega)
    exact T.iretz rfl rfl (by omega) ⟨_, rfl, (Fr.refl hK), by omega, by omega, by omega, by omega⟩
  · refine T.go 2 (fun n9 => (rfl : _ = exe ξ n9 (d + 8) j_N_end 6 [(0, .ref 16), (1, J x)] [.ref 16, J x] σ)) ?_
    refine T.get rfl rfl rfl hNx1 rfl ?_
    refine T.get rfl rfl rfl hax2 rfl ?_
    refine T.get rfl rfl rfl hrx3 rfl ?_
    refine T.icmp_le rfl rfl (by omega) (by omega) (fun c2 => ?_) (fun c2 => ?_)
    · refine T.go 1 (fun n9 => (rfl : _ = exe ξ n9 (d + 8) j_N_end 21 [(0, .ref 16), (1, J x)] [.ref 16] σ)) ?_
      refine T.get rfl rfl rfl hNx1 rfl ?_
      refine T.get rfl rfl rfl hax2 rfl ?_
      refine T.go 1 (fun n9 => (rfl : _ = exe ξ n9 (d + 8) j_N_end 28 [(0, .ref 16), (1, J x)] [J x, .ref (tpx1 + 1)] σ)) ?_
      refine T.putF (w := WT) rfl rfl hrx3 rfl rfl rfl (fs' := [J mx3, .ref bx3, J x]) rfl (Fr.len hK (kdX_ar _ (na_tp fx1tp)).2.2.1 hrx3 hbx3 (by omega) (WT_tp fx1tp)) (fun s1 hs1 hcs1 hos1 => ?_)
      have k1 := hos1 (q_dif hNx1 hrx3 (fun z => by cases z)) hNx1
      have k2 := hos1 (by omega) hax2
      have k3 := hos1 (q_dif hbx3 hrx3 (fun z => by cases z)) hbx3
      refine T.go 1 (fun n9 => (rfl : _ = exe ξ n9 (d + 8) j_N_end 32 [(0, .ref 16), (1, J x)] [J 1] s1)) ?_
      have t8 := tl_at k1 rfl
      have t9 := rl_of hcs1 (by omega)
      exact T.iretz rfl rfl (by omega) ⟨_, rfl, hs1, by omega, by omega, by omega, by omega⟩
    · refine T.go 1 (fun n9 => (rfl : _ = exe ξ n9 (d + 8) j_N_end 19 [(0, .ref 16), (1, J x)] [J 0] σ)) ?_
      have t8 := tl_at hNx1 rfl
      have t9 := rl_of hrx3 (by omega)
      exact T.iretz rfl rfl (by omega) ⟨_, rfl, (Fr.refl hK), by omega, by omega, by omega, by omega⟩

set_option maxHeartbeats 4000000 in
theorem s_N_yopen {ξ : Nat → Option (Nat × List Int32)} (d : Nat)  (σ : qH) (hK : K σ)   : TX ξ (d + 8) j_N_open 0 (lv_args 0 [.ref 16]) [] σ (QX WT [0] σ (fun s => tl s = 0) (fun v σ' => ∃ z : Int, v = some (J z) ∧ Fr WT σ σ' ∧ -2147483648 ≤ z ∧ z ≤ 2147483647 ∧ tl σ' = 0)) := by
  refine TX.go 1 (fun n9 => (rfl : _ = exx ξ n9 (d + 8) j_N_open 1 [(0, .ref 16)] [.ref 16] σ)) ?_
  obtain ⟨kex1, scx1, tpx1, oux1, mox1, sgx1, hox1, mcx1, lfx1, lpx1, hNx1, fx1ke, fx1sc, fx1tp, fx1ou, fx1mo, fx1sg, fx1d, fx1e, fx1f, fx1g, fx1h, fx1i, fx1j⟩ := hK.na
  refine TX.get rfl rfl rfl rfl hNx1 rfl ?_
  obtain ⟨ex2, erx2, dix2, bax2, fpx2, hax2, fx2a, fx2b, fx2c, fx2d, fx2e, fx2f, fx2g, fx2h, fx2i, fx2j⟩ := hK.arc (na_tp fx1tp)
  refine TX.callv (as := []) (r := []) rfl rfl rfl rfl (ArL_lt _ (na_tp fx1tp)).2.2.1 hax2 rfl (s_A_survey (d + 3) tpx1 σ hK (na_tp fx1tp)  ) (fun v1 s1 hqs1 => ?_)
  obtain ⟨z1, rfl, hs1, hzz1, hyz1⟩ := hqs1
  have kNs1 := (hs1.2.2.1 16 (by simp) (by simp)).trans hNx1
  have hs1 := hs1.sub (w' := WT) sub_0
  refine TX.go 2 (fun n9 => (rfl : _ = exx ξ n9 (d + 8) j_N_open 9 [(0, .ref 16), (1, J z1)] [J z1] s1)) ?_
  refine TX.if_eq rfl rfl rfl (by omega) (fun c1 => ?_) (fun c1 => ?_)
  · refine TX.go 1 (fun n9 => (rfl : _ = exx ξ n9 (d + 8) j_N_open 45 [(0, .ref 16), (1, J z1)] [.ref 16] s1)) ?_
    refine TX.get rfl rfl rfl rfl kNs1 rfl ?_
    refine TX.go 3 (fun n9 => (rfl : _ = exx ξ n9 (d + 8) j_N_open 51 [(0, .ref 16), (1, J z1), (2, .ref tpx1)] [.ref 16, .ref 16] s1)) ?_
    refine TX.get rfl rfl rfl rfl kNs1 rfl ?_
    refine TX.putF (w := WT) rfl rfl rfl kNs1 rfl rfl rfl (fs' := [.ref 17, .ref 41, .ref 48, .ref 51, .ref 53, .ref 55, .ref 57, .ref kex1, .ref scx1, .ref oux1, .ref oux1, J hox1, .ref mox1, .ref sgx1, J mcx1, J lfx1, J lpx1]) rfl (Fr.other hs1.1 kNs1 rfl (show okN _ from ⟨_, _, _, _, _, _, _, _, _, _, rfl, by omega⟩) (by decide) (Or.inl (by decide)) (Or.inr (by decide))) (fun s2 hs2 hcs2 hos2 => ?_)
    have gs2 := hs1.trans hs2
    refine TX.go 1 (fun n9 => (rfl : _ = exx ξ n9 (d + 8) j_N_open 58 [(0, .ref 16), (1, J z1), (2, .ref tpx1)] [.ref 16] s2)) ?_
    refine TX.get rfl rfl rfl rfl hcs2 rfl ?_
    obtain ⟨ex3, erx3, dix3, bax3, fpx3, hax3, fx3a, fx3b, fx3c, fx3d, fx3e, fx3f, fx3g, fx3h, fx3i, fx3j⟩ := hs2.1.arc (na_tp fx1ou)
    refine TX.get rfl rfl rfl rfl hax3 rfl ?_
    obtain ⟨mx4, nx4, bx4, lx4, hrx4, hbx4, fx4a, fx4b, fx4c, fx4d, fx4e, fx4g, fx4h⟩ := hs2.1.row (kdX_ar _ (na_tp fx1ou)).2.2.1
    refine TX.callv (as := []) (r := []) rfl rfl rfl rfl (RwL_lt _ (kdX_ar _ (na_tp fx1ou)).2.2.1).2.2.1 hrx4 rfl (s_R_clear (d + 7) (oux1 + 1) s2 hs2.1 (kdX_ar _ (na_tp fx1ou)).2.2.1  ) (fun v2 s3 hqs3 => ?_)
    obtain ⟨rfl, hs3, pz2_0, pz2_1⟩ := hqs3
    have es3 := hs3
    have hs3 := hs3.sub (w' := WT) (sub_1 (WT_tp fx1ou))
    have k1 := pz2_0 _ _ (by omega) (fun l e => by cases e) hax3
    have k2 := (es3.2.2.1 16 (by simp) (n16 (kdX_ar _ (na_tp fx1ou)).2.2.1)).trans hcs2
    have gs3 := gs2.trans hs3
    obtain ⟨mx5, nx5, bx5, lx5, hrx5, hbx5, fx5a, fx5b, fx5c, fx5d, fx5e, fx5g, fx5h⟩ := hs3.1.row (kdX_ar _ (na_tp fx1ou)).2.2.1
    have cz2 := rl_of hrx5 (by omega)
    refine TX.go 2 (fun n9 => (rfl : _ = exx ξ n9 (d + 8) j_N_open 69 [(0, .ref 16), (1, J z1), (2, .ref tpx1)] [.ref tpx1, .ref 16] s3)) ?_
    refine TX.putF (w := WT) rfl rfl rfl k2 rfl rfl rfl (fs' := [.ref 17, .ref 41, .ref 48, .ref 51, .ref 53, .ref 55, .ref 57, .ref kex1, .ref scx1, .ref oux1, .ref tpx1, J hox1, .ref mox1, .ref sgx1, J mcx1, J lfx1, J lpx1]) rfl (Fr.other hs3.1 k2 rfl (show okN _ from ⟨_, _, _, _, _, _, _, _, _, _, rfl, by omega⟩) (by decide) (Or.inl (by decide)) (Or.inr (by decide))) (fun s4 hs4 hcs4 hos4 => ?_)
    have gs4 := gs3.trans hs4
    have k3 := hos4 (q_dif k1 k2 (fun z => by cases z)) k1
    have k4 := hos4 (q_dif hrx5 k2 (fun z => by cases z)) hrx5
    have k5 := hos4 (q_dif hbx5 k2 (fun z => by cases z)) hbx5
    refine TX.go 2 (fun n9 => (rfl : _ = exx ξ n9 (d + 8) j_N_open 74 [(0, .ref 16), (1, J z1), (2, .ref tpx1)] [J 1, .ref 16] s4)) ?_
    refine TX.putF (w := WT) rfl rfl rfl hcs4 rfl rfl rfl (fs' := [.ref 17, .ref 41, .ref 48, .ref 51, .ref 53, .ref 55, .ref 57, .ref kex1, .ref scx1, .ref oux1, .ref tpx1, J 1, .ref mox1, .ref sgx1, J mcx1, J lfx1, J lpx1]) rfl (Fr.other hs4.1 hcs4 rfl (show okN _ from ⟨_, _, _, _, _, _, _, _, _, _, rfl, by omega⟩) (by decide) (Or.inl (by decide)) (Or.inr (by decide))) (fun s5 hs5 hcs5 hos5 => ?_)
    have gs5 := gs4.trans hs5
    have k6 := hos5 (q_dif k3 hcs4 (fun z => by cases z)) k3
    have k7 := hos5 (q_dif k4 hcs4 (fun z => by cases z)) k4
    have k8 := hos5 (q_dif k5 hcs4 (fun z => by cases z)) k5
    refine TX.go 2 (fun n9 => (rfl : _ = exx ξ n9 (d + 8) j_N_open 79 [(0, .ref 16), (1, J z1), (2, .ref tpx1)] [J 0, .ref 16] s5)) ?_
    refine TX.putF (w := WT) rfl rfl rfl hcs5 rfl rfl rfl (fs' := [.ref 17, .ref 41, .ref 48, .ref 51, .ref 53, .ref 55, .ref 57, .ref kex1, .ref scx1, .ref oux1, .ref tpx1, J 1, .ref mox1, .ref sgx1, J 0, J lfx1, J lpx1]) rfl (Fr.other hs5.1 hcs5 rfl (show okN _ from ⟨_, _, _, _, _, _, _, _, _, _, rfl, by omega⟩) (by decide) (Or.inl (by decide)) (Or.inr (by decide))) (fun s6 hs6 hcs6 hos6 => ?_)
    have gs6 := gs5.trans hs6
    have k9 := hos6 (q_dif k6 hcs5 (fun z => by cases z)) k6
    have k10 := hos6 (q_dif k7 hcs5 (fun z => by cases z)) k7
    have k11 := hos6 (q_dif k8 hcs5 (fun z => by cases z)) k8
    refine TX.go 1 (fun n9 => (rfl : _ = exx ξ n9 (d + 8) j_N_open 83 [(0, .ref 16), (1, J z1), (2, .ref tpx1)] [.ref 16] s6)) ?_
    refine TX.get rfl rfl rfl rfl hcs6 rfl ?_
    obtain ⟨mx6, nx6, bx6, lx6, hrx6, hbx6, fx6a, fx6b, fx6c, fx6d, fx6e, fx6g, fx6h⟩ := hs6.1.row (na_ke fx1ke)
    refine TX.callv (as := []) (r := []) rfl rfl rfl rfl (RwL_lt _ (na_ke fx1ke)).2.2.1 hrx6 rfl (s_R_clear (d + 7) kex1 s6 hs6.1 (na_ke fx1ke)  ) (fun v3 s7 hqs7 => ?_)
    obtain ⟨rfl, hs7, pz3_0, pz3_1⟩ := hqs7
    have es7 := hs7
    have hs7 := hs7.sub (w' := WT) (sub_1 (WT_sc fx1ke))
    have k12 := pz3_0 _ _ (q_dif k9 hrx6 (fun z => by cases z)) (fun l e => by cases e) k9
    have k13 := pz3_0 _ _ (ar_sc (na_tp fx1ou) fx1ke) (fun l e => by cases e) k10
    have k14 := (es7.2.2.1 16 (by simp) (n16 (na_ke fx1ke))).trans hcs6
    have gs7 := gs6.trans hs7
    refine TX.go 1 (fun n9 => (rfl : _ = exx ξ n9 (d + 8) j_N_open 90 [(0, .ref 16), (1, J z1), (2, .ref tpx1)] [.ref 16] s7)) ?_
    refine TX.get rfl rfl rfl rfl k14 rfl ?_
    obtain ⟨ex7, erx7, dix7, bax7, fpx7, hax7, fx7a, fx7b, fx7c, fx7d, fx7e, fx7f, fx7g, fx7h, fx7i, fx7j⟩ := hs7.1.arc (na_tp fx1tp)
    refine TX.get rfl rfl rfl rfl hax7 rfl ?_
    have tz1a := tl_at k14 rfl
    have tz1b := rl_of k13 (by omega)
    have tz1 : tl s7 = 0 := by omega
    exact TX.ireti rfl rfl rfl (QX_l ⟨_, rfl, gs7, by omega, by omega, tz1⟩)
  · refine TX.go 1 (fun n9 => (rfl : _ = exx ξ n9 (d + 8) j_N_open 13 [(0, .ref 16), (1, J z1)] [.ref 16] s1)) ?_
    refine TX.get rfl rfl rfl rfl kNs1 rfl ?_
    obtain ⟨ex8, erx8, dix8, bax8, fpx8, hax8, fx8a, fx8b, fx8c, fx8d, fx8e, fx8f, fx8g, fx8h, fx8i, fx8j⟩ := hs1.1.arc (na_tp fx1tp)
    refine TX.get rfl rfl rfl rfl hax8 rfl ?_
    obtain ⟨mx9, nx9, bx9, lx9, hrx9, hbx9, fx9a, fx9b, fx9c, fx9d, fx9e, fx9g, fx9h⟩ := hs1.1.row (kdX_ar _ (na_tp fx1tp)).2.2.1
    refine TX.callv (as := []) (r := []) rfl rfl rfl rfl (RwL_lt _ (kdX_ar _ (na_tp fx1tp)).2.2.1).2.2.1 hrx9 rfl (s_R_clear (d + 7) (tpx1 + 1) s1 hs1.1 (kdX_ar _ (na_tp fx1tp)).2.2.1  ) (fun v4 s8 hqs8 => ?_)
    obtain ⟨rfl, hs8, pz4_0, pz4_1⟩ := hqs8
    have es8 := hs8
    have hs8 := hs8.sub (w' := WT) (sub_1 (WT_tp fx1tp))
    have k15 := pz4_0 _ _ (by omega) (fun l e => by cases e) hax8
    have k16 := (es8.2.2.1 16 (by simp) (n16 (kdX_ar _ (na_tp fx1tp)).2.2.1)).trans kNs1
    have gs8 := hs1.trans hs8
    obtain ⟨mx10, nx10, bx10, lx10, hrx10, hbx10, fx10a, fx10b, fx10c, fx10d, fx10e, fx10g, fx10h⟩ := hs8.1.row (kdX_ar _ (na_tp fx1tp)).2.2.1
    have cz4 := rl_of hrx10 (by omega)
    refine TX.go 3 (fun n9 => (rfl : _ = exx ξ n9 (d + 8) j_N_open 25 [(0, .ref 16), (1, J z1)] [.ref 16, J z1, .ref 16] s8)) ?_
    refine TX.get rfl rfl rfl rfl k16 rfl ?_
    refine TX.get rfl rfl rfl rfl k15 rfl ?_
    have tz2a := tl_at k16 rfl
    have tz2b := rl_of hrx10 (by omega)
    have tz2 : tl s8 = 0 := by omega
    refine TX.callv (as := [J z1, J fpx8]) (r := []) rfl rfl rfl rfl rfl k16 rfl (s_N_note (d + 7) z1 fpx8 s8 hs8.1   (by omega) (by omega)) (fun v5 s9 hqs9 => ?_)
    obtain ⟨rfl, hs9, pz5_0⟩ := hqs9
    have es9 := hs9
    have hs9 := hs9.sub (w' := WT) (sub_1 (by decide))
    have gs9 := gs8.trans hs9
    have tz3 := (tl_note hs8.1 es9 pz5_0).trans tz2
    exact TX.throw (Nat.ble_eq_true_of_le (by omega)) rfl rfl (QX_r (by decide) gs9 tz3)

set_option maxHeartbeats 4000000 in
theorem s_N_ynumber {ξ : Nat → Option (Nat × List Int32)} (d : Nat) (x : Int) (σ : qH) (hK : K σ)  (rx : -2147483648 ≤ x ∧ x ≤ 2147483647) : TX ξ (d + 8) j_N_number 0 (lv_args 0 [.ref 16, J x]) [] σ (QX WP [1] σ (fun s => tpf s = tpf σ ∧ rl s 51 = 0) (fun v σ' => ∃ z : Int, v = some (J z) ∧ Fr WP σ σ' ∧ -2147483648 ≤ z ∧ z ≤ 2147483647 ∧ tpf σ' = tpf σ ∧ rl σ' 51 = 0)) := by
  obtain ⟨kex1, scx1, tpx1, oux1, mox1, sgx1, hox1, mcx1, lfx1, lpx1, hNx1, fx1ke, fx1sc, fx1tp, fx1ou, fx1mo, fx1sg, fx1d, fx1e, fx1f, fx1g, fx1h, fx1i, fx1j⟩ := hK.na
  refine TX.go 2 (fun n9 => (rfl : _ = exx ξ n9 (d + 8) j_N_number 2 [(0, .ref 16), (1, J x)] [J x, .ref 16] σ)) ?_
  refine TX.callv (as := [J x]) (r := []) rfl rfl rfl rfl rfl hNx1 rfl (s_N_archiveOf (d + 7) x σ hK   (by omega)) (fun v1 s1 hqs1 => ?_)
  obtain ⟨esz1, rfl | ⟨a1, hAa1, rfl⟩⟩ := hqs1
  · rw [esz1]
    refine TX.go 7 (fun n9 => (rfl : _ = exx ξ n9 (d + 8) j_N_number 32 [(0, .ref 16), (1, J x), (2, .null), (3, J (-1))] [.ref 16] σ)) ?_
    refine TX.get rfl rfl rfl rfl hNx1 rfl ?_
    obtain ⟨mx2, nx2, bx2, lx2, hrx2, hbx2, fx2a, fx2b, fx2c, fx2d, fx2e, fx2g, fx2h⟩ := hK.row (r := 51) (by decide)
    refine TX.callv (as := []) (r := []) rfl rfl rfl rfl rfl hrx2 rfl (s_R_clear (d + 7) 51 σ hK (by decide)  ) (fun v2 s2 hqs2 => ?_)
    obtain ⟨rfl, hs2, pz2_0, pz2_1⟩ := hqs2
    have es2 := hs2
    have hs2 := hs2.sub (w' := WP) (sub_1 (by decide))
    have k1 := (es2.2.2.1 16 (by simp) (by decide)).trans hNx1
    refine TX.go 2 (fun n9 => (rfl : _ = exx ξ n9 (d + 8) j_N_number 42 [(0, .ref 16), (1, J x), (2, .null), (3, J (-1))] [] s2)) ?_
    have tq1 : tpf s2 = tpf σ := (tpf_of k1 rfl).trans (tpf_of hNx1 rfl).symm
    exact TX.throw (Nat.ble_eq_true_of_le (by omega)) rfl rfl (QX_r (by decide) hs2 ⟨tq1, pz2_1⟩)
  · rw [esz1]
    refine TX.go 5 (fun n9 => (rfl : _ = exx ξ n9 (d + 8) j_N_number 16 [(0, .ref 16), (1, J x), (2, .ref a1)] [.ref 16, .ref a1] σ)) ?_
    refine TX.get rfl rfl rfl rfl hNx1 rfl ?_
    refine TX.go 2 (fun n9 => (rfl : _ = exx ξ n9 (d + 8) j_N_number 21 [(0, .ref 16), (1, J x), (2, .ref a1)] [.ref 16, J 0, .ref 51, .ref a1] σ)) ?_
    refine TX.get rfl rfl rfl rfl hNx1 rfl ?_
    obtain ⟨mx3, nx3, bx3, lx3, hrx3, hbx3, fx3a, fx3b, fx3c, fx3d, fx3e, fx3g, fx3h⟩ := hK.row (r := 51) (by decide)
    refine TX.get rfl rfl rfl rfl hrx3 rfl ?_
    obtain ⟨ex4, erx4, dix4, bax4, fpx4, hax4, fx4a, fx4b, fx4c, fx4d, fx4e, fx4f, fx4g, fx4h, fx4i, fx4j⟩ := hK.arc hAa1
    refine TX.callv (as := [.ref 51, J 0, J nx3]) (r := []) rfl rfl rfl rfl (ArL_lt _ hAa1).2.2.1 hax4 rfl (s_A_lookUp (d + 6) a1 51 0 nx3 σ hK hAa1 (by decide)  (by omega) (by omega)) (fun v3 s3 hqs3 => ?_)
    obtain ⟨z3, rfl, esz3, hzz3, hyz3⟩ := hqs3
    rw [esz3]
    refine TX.go 2 (fun n9 => (rfl : _ = exx ξ n9 (d + 8) j_N_number 32 [(0, .ref 16), (1, J x), (2, .ref a1), (3, J z3)] [.ref 16] σ)) ?_
    refine TX.get rfl rfl rfl rfl hNx1 rfl ?_
    refine TX.callv (as := []) (r := []) rfl rfl rfl rfl rfl hrx3 rfl (s_R_clear (d + 7) 51 σ hK (by decide)  ) (fun v4 s4 hqs4 => ?_)
    obtain ⟨rfl, hs4, pz4_0, pz4_1⟩ := hqs4
    have es4 := hs4
    have hs4 := hs4.sub (w' := WP) (sub_1 (by decide))
    have k2 := pz4_0 _ _ (q_dif hax4 hrx3 (fun z => by cases z)) (fun l e => by cases e) hax4
    have k3 := (es4.2.2.1 16 (by simp) (by decide)).trans hNx1
    refine TX.go 3 (fun n9 => (rfl : _ = exx ξ n9 (d + 8) j_N_number 53 [(0, .ref 16), (1, J x), (2, .ref a1), (3, J z3)] [J z3] s4)) ?_
    have tq2 : tpf s4 = tpf σ := (tpf_of k3 rfl).trans (tpf_of hNx1 rfl).symm
    exact TX.ireti rfl rfl rfl (QX_l ⟨_, rfl, hs4, by omega, by omega, tq2, pz4_1⟩)

set_option maxHeartbeats 4000000 in
theorem s_N_yfind {ξ : Nat → Option (Nat × List Int32)} (d : Nat) (x : Int) (σ : qH) (hK : K σ)  (rx : -2147483648 ≤ x ∧ x ≤ 2147483647) : TX ξ (d + 8) j_N_find 0 (lv_args 0 [.ref 16, J x]) [] σ (QX WP [0] σ (fun s => tpf s = tpf σ ∧ rl s 51 = 0) (fun v σ' => ∃ z : Int, v = some (J z) ∧ Fr WP σ σ' ∧ -2147483648 ≤ z ∧ z ≤ 2147483647 ∧ tpf σ' = tpf σ ∧ rl σ' 51 = 0)) := by
  obtain ⟨kex1, scx1, tpx1, oux1, mox1, sgx1, hox1, mcx1, lfx1, lpx1, hNx1, fx1ke, fx1sc, fx1tp, fx1ou, fx1mo, fx1sg, fx1d, fx1e, fx1f, fx1g, fx1h, fx1i, fx1j⟩ := hK.na
  refine TX.go 2 (fun n9 => (rfl : _ = exx ξ n9 (d + 8) j_N_find 2 [(0, .ref 16), (1, J x)] [J 1, J x] σ)) ?_
  refine TX.icmp_ge rfl rfl rfl (by omega) (by omega) (fun c1 => ?_) (fun c1 => ?_)
  · refine TX.go 2 (fun n9 => (rfl : _ = exx ξ n9 (d + 8) j_N_find 11 [(0, .ref 16), (1, J x)] [J x, .ref 16] σ)) ?_
    refine TX.callv (as := [J x]) (r := []) rfl rfl rfl rfl rfl hNx1 rfl (s_N_searchMounts (d + 5) x σ hK   (by omega)) (fun v1 s1 hqs1 => ?_)
    obtain ⟨z1, rfl, esz1, hzz1, hyz1⟩ := hqs1
    rw [esz1]
    refine TX.go 2 (fun n9 => (rfl : _ = exx ξ n9 (d + 8) j_N_find 16 [(0, .ref 16), (1, J x), (2, J z1)] [.ref 16] σ)) ?_
    refine TX.get rfl rfl rfl rfl hNx1 rfl ?_
    obtain ⟨mx2, nx2, bx2, lx2, hrx2, hbx2, fx2a, fx2b, fx2c, fx2d, fx2e, fx2g, fx2h⟩ := hK.row (r := 51) (by decide)
    refine TX.callv (as := []) (r := []) rfl rfl rfl rfl rfl hrx2 rfl (s_R_clear (d + 7) 51 σ hK (by decide)  ) (fun v2 s2 hqs2 => ?_)
    obtain ⟨rfl, hs2, pz2_0, pz2_1⟩ := hqs2
    have es2 := hs2
    have hs2 := hs2.sub (w' := WP) (sub_1 (by decide))
    have k1 := (es2.2.2.1 16 (by simp) (by decide)).trans hNx1
    refine TX.go 2 (fun n9 => (rfl : _ = exx ξ n9 (d + 8) j_N_find 24 [(0, .ref 16), (1, J x), (2, J z1)] [J 1, J x] s2)) ?_
    refine TX.icmp_ge rfl rfl rfl (by omega) (by omega) (fun c2 => ?_) (fun c2 => ?_)
    · refine TX.go 1 (fun n9 => (rfl : _ = exx ξ n9 (d + 8) j_N_find 38 [(0, .ref 16), (1, J x), (2, J z1)] [J z1] s2)) ?_
      have tq1 : tpf s2 = tpf σ := (tpf_of k1 rfl).trans (tpf_of hNx1 rfl).symm
      exact TX.ireti rfl rfl rfl (QX_l ⟨_, rfl, hs2, by omega, by omega, tq1, pz2_1⟩)
    · have tq2 : tpf s2 = tpf σ := (tpf_of k1 rfl).trans (tpf_of hNx1 rfl).symm
      exact TX.throw (Nat.ble_eq_true_of_le (by omega)) rfl rfl (QX_r (by decide) hs2 ⟨tq2, pz2_1⟩)
  · refine TX.go 4 (fun n9 => (rfl : _ = exx ξ n9 (d + 8) j_N_find 16 [(0, .ref 16), (1, J x), (2, J (-1))] [.ref 16] σ)) ?_
    refine TX.get rfl rfl rfl rfl hNx1 rfl ?_
    obtain ⟨mx3, nx3, bx3, lx3, hrx3, hbx3, fx3a, fx3b, fx3c, fx3d, fx3e, fx3g, fx3h⟩ := hK.row (r := 51) (by decide)
    refine TX.callv (as := []) (r := []) rfl rfl rfl rfl rfl hrx3 rfl (s_R_clear (d + 7) 51 σ hK (by decide)  ) (fun v3 s3 hqs3 => ?_)
    obtain ⟨rfl, hs3, pz3_0, pz3_1⟩ := hqs3
    have es3 := hs3
    have hs3 := hs3.sub (w' := WP) (sub_1 (by decide))
    have k2 := (es3.2.2.1 16 (by simp) (by decide)).trans hNx1
    refine TX.go 2 (fun n9 => (rfl : _ = exx ξ n9 (d + 8) j_N_find 24 [(0, .ref 16), (1, J x), (2, J (-1))] [J 1, J x] s3)) ?_
    refine TX.icmp_ge rfl rfl rfl (by omega) (by omega) (fun c3 => ?_) (fun c3 => ?_)
    · refine TX.go 1 (fun n9 => (rfl : _ = exx ξ n9 (d + 8) j_N_find 38 [(0, .ref 16), (1, J x), (2, J (-1))] [J (-1)] s3)) ?_
      have tq3 : tpf s3 = tpf σ := (tpf_of k2 rfl).trans (tpf_of hNx1 rfl).symm
      exact TX.ireti rfl rfl rfl (QX_l ⟨_, rfl, hs3, by omega, by omega, tq3, pz3_1⟩)
    · have tq4 : tpf s3 = tpf σ := (tpf_of k2 rfl).trans (tpf_of hNx1 rfl).symm
      exact TX.throw (Nat.ble_eq_true_of_le (by omega)) rfl rfl (QX_r (by decide) hs3 ⟨tq4, pz3_1⟩)

set_option maxHeartbeats 4000000 in
theorem s_N_yattribute {ξ : Nat → Option (Nat × List Int32)} (hX : XT ξ) (d : Nat) (x : Int) (σ : qH) (hK : K σ)  (rx : -2147483648 ≤ x ∧ x ≤ 2147483647) : TX ξ (d + 8) j_N_attribute 0 (lv_args 0 [.ref 16, J x]) [] σ (QX WP [0, 1] σ (fun s => tpf s = tpf σ ∧ rl s 51 = 0) (fun v σ' => ∃ z : Int, v = some (J z) ∧ Fr WP σ σ' ∧ -2147483648 ≤ z ∧ z ≤ 2147483647 ∧ tpf σ' = tpf σ ∧ rl σ' 51 = 0)) := by
  have hX0 := hX
  obtain ⟨⟨X1, hX1, lX1⟩, ⟨X2, hX2, lX2⟩, ⟨X3, hX3, lX3⟩, ⟨X4, hX4, lX4⟩, ⟨X5, hX5, lX5⟩, ⟨X6, hX6, lX6⟩⟩ := hX
  have lY1 : X1.length = 19 := by rw [lX1]; rfl
  obtain ⟨kex1, scx1, tpx1, oux1, mox1, sgx1, hox1, mcx1, lfx1, lpx1, hNx1, fx1ke, fx1sc, fx1tp, fx1ou, fx1mo, fx1sg, fx1d, fx1e, fx1f, fx1g, fx1h, fx1i, fx1j⟩ := hK.na
  refine TX.go 2 (fun n9 => (rfl : _ = exx ξ n9 (d + 8) j_N_attribute 2 [(0, .ref 16), (1, J x)] [J x, .ref 16] σ)) ?_
  refine TX.callv (as := [J x]) (r := []) rfl rfl rfl rfl rfl hNx1 rfl (s_N_archiveOf (d + 7) x σ hK   (by omega)) (fun v1 s1 hqs1 => ?_)
  obtain ⟨esz1, rfl | ⟨a1, hAa1, rfl⟩⟩ := hqs1
  · rw [esz1]
    refine TX.go 16 (fun n9 => (rfl : _ = exx ξ n9 (d + 8) j_N_attribute 85 [(0, .ref 16), (1, J x), (2, .null), (3, J (-1)), (4, J 0)] [.ref 16] σ)) ?_
    refine TX.get rfl rfl rfl rfl hNx1 rfl ?_
    obtain ⟨mx2, nx2, bx2, lx2, hrx2, hbx2, fx2a, fx2b, fx2c, fx2d, fx2e, fx2g, fx2h⟩ := hK.row (r := 51) (by decide)
    refine TX.callv (as := []) (r := []) rfl rfl rfl rfl rfl hrx2 rfl (s_R_clear (d + 7) 51 σ hK (by decide)  ) (fun v2 s2 hqs2 => ?_)
    obtain ⟨rfl, hs2, pz2_0, pz2_1⟩ := hqs2
    have es2 := hs2
    have hs2 := hs2.sub (w' := WP) (sub_1 (by decide))
    have k1 := (es2.2.2.1 16 (by simp) (by decide)).trans hNx1
    refine TX.go 2 (fun n9 => (rfl : _ = exx ξ n9 (d + 8) j_N_attribute 95 [(0, .ref 16), (1, J x), (2, .null), (3, J (-1)), (4, J 0)] [] s2)) ?_
    have tq1 : tpf s2 = tpf σ := (tpf_of k1 rfl).trans (tpf_of hNx1 rfl).symm
    exact TX.throw (Nat.ble_eq_true_of_le (by omega)) rfl rfl (QX_r (by decide) hs2 ⟨tq1, pz2_1⟩)
  · rw [esz1]
    refine TX.go 5 (fun n9 => (rfl : _ = exx ξ n9 (d + 8) j_N_attribute 16 [(0, .ref 16), (1, J x), (2, .ref a1)] [.ref 16, .ref a1] σ)) ?_
    refine TX.get rfl rfl rfl rfl hNx1 rfl ?_
    refine TX.go 2 (fun n9 => (rfl : _ = exx ξ n9 (d + 8) j_N_attribute 21 [(0, .ref 16), (1, J x), (2, .ref a1)] [.ref 16, J 0, .ref 53, .ref a1] σ)) ?_
    refine TX.get rfl rfl rfl rfl hNx1 rfl ?_
    obtain ⟨mx3, nx3, bx3, lx3, hrx3, hbx3, fx3a, fx3b, fx3c, fx3d, fx3e, fx3g, fx3h⟩ := hK.row (r := 53) (by decide)
    refine TX.get rfl rfl rfl rfl hrx3 rfl ?_
    obtain ⟨ex4, erx4, dix4, bax4, fpx4, hax4, fx4a, fx4b, fx4c, fx4d, fx4e, fx4f, fx4g, fx4h, fx4i, fx4j⟩ := hK.arc hAa1
    refine TX.callv (as := [.ref 53, J 0, J nx3]) (r := []) rfl rfl rfl rfl (ArL_lt _ hAa1).2.2.1 hax4 rfl (s_A_lookUp (d + 6) a1 53 0 nx3 σ hK hAa1 (by decide)  (by omega) (by omega)) (fun v3 s3 hqs3 => ?_)
    obtain ⟨z3, rfl, esz3, hzz3, hyz3⟩ := hqs3
    rw [esz3]
    refine TX.go 3 (fun n9 => (rfl : _ = exx ξ n9 (d + 8) j_N_attribute 33 [(0, .ref 16), (1, J x), (2, .ref a1), (3, J z3)] [J (-1), J z3] σ)) ?_
    refine TX.icmp_ne rfl rfl rfl (by omega) (by omega) (fun c1 => ?_) (fun c1 => ?_)
    · refine TX.go 4 (fun n9 => (rfl : _ = exx ξ n9 (d + 8) j_N_attribute 44 [(0, .ref 16), (1, J x), (2, .ref a1), (3, J z3)] [.ref 16, J z3, .ref a1, .ref 16] σ)) ?_
      refine TX.get rfl rfl rfl rfl hNx1 rfl ?_
      refine TX.callv (as := [.ref a1, J z3, .ref scx1]) (r := []) rfl rfl rfl rfl rfl hNx1 rfl (s_N_unpackEntry hX0 (d + 2) a1 z3 scx1 σ hK hAa1 (na_ke fx1sc) (ar_sc hAa1 fx1sc) (by omega)) (fun v4 s4 hqs4 => ?_)
      obtain ⟨z4, rfl, hs4, hzz4, hyz4⟩ := hqs4
      have es4 := hs4
      have hs4 := hs4.sub (w' := WP) (sub_1 (WQ_P _ (WQ_sc fx1sc)))
      have k2 := (es4.2.2.1 16 (by simp) (n16 (na_ke fx1sc))).trans hNx1
      refine TX.go 3 (fun n9 => (rfl : _ = exx ξ n9 (d + 8) j_N_attribute 54 [(0, .ref 16), (1, J x), (2, .ref a1), (3, J z3), (4, J z4)] [J (-1), J z3] s4)) ?_
      refine TX.icmp_eq rfl rfl rfl (by omega) (by omega) (fun c2 => ?_) (fun c2 => ?_)
      · refine TX.go 1 (fun n9 => (rfl : _ = exx ξ n9 (d + 8) j_N_attribute 85 [(0, .ref 16), (1, J x), (2, .ref a1), (3, J z3), (4, J z4)] [.ref 16] s4)) ?_
        refine TX.get rfl rfl rfl rfl k2 rfl ?_
        obtain ⟨mx5, nx5, bx5, lx5, hrx5, hbx5, fx5a, fx5b, fx5c, fx5d, fx5e, fx5g, fx5h⟩ := hs4.1.row (r := 51) (by decide)
        refine TX.callv (as := []) (r := []) rfl rfl rfl rfl rfl hrx5 rfl (s_R_clear (d + 7) 51 s4 hs4.1 (by decide)  ) (fun v5 s5 hqs5 => ?_)
        obtain ⟨rfl, hs5, pz5_0, pz5_1⟩ := hqs5
        have es5 := hs5
        have hs5 := hs5.sub (w' := WP) (sub_1 (by decide))
        have k3 := (es5.2.2.1 16 (by simp) (by decide)).trans k2
        have gs5 := hs4.trans hs5
        refine TX.go 3 (fun n9 => (rfl : _ = exx ξ n9 (d + 8) j_N_attribute 107 [(0, .ref 16), (1, J x), (2, .ref a1), (3, J z3), (4, J z4)] [J z4] s5)) ?_
        refine TX.if_eq rfl rfl rfl (by omega) (fun c3 => ?_) (fun c3 => ?_)
        · refine TX.go 1 (fun n9 => (rfl : _ = exx ξ n9 (d + 8) j_N_attribute 128 [(0, .ref 16), (1, J x), (2, .ref a1), (3, J z3), (4, J z4)] [.ref 16] s5)) ?_
          refine TX.get rfl rfl rfl rfl k3 rfl ?_
          obtain ⟨mx6, nx6, bx6, lx6, hrx6, hbx6, fx6a, fx6b, fx6c, fx6d, fx6e, fx6g, fx6h⟩ := hs5.1.row (r := 57) (by decide)
          refine TX.callv (as := []) (r := []) rfl rfl rfl rfl rfl hrx6 rfl (s_R_clear (d + 7) 57 s5 hs5.1 (by decide)  ) (fun v6 s6 hqs6 => ?_)
          obtain ⟨rfl, hs6, pz6_0, pz6_1⟩ := hqs6
          have es6 := hs6
          have hs6 := hs6.sub (w' := WP) (sub_1 (show 57 ∈ WP by decide))
          have tys6 := (rl_eq (es6.2.2.1 51 (by decide) (by decide))).trans pz5_1
          have k4 := (es6.2.2.1 16 (by simp) (by decide)).trans k3
          have gs6 := gs5.trans hs6
          refine TX.go 2 (fun n9 => (rfl : _ = exx ξ n9 (d + 8) j_N_attribute 136 [(0, .ref 16), (1, J x), (2, .ref a1), (3, J z3), (4, J z4)] [J (-1), J z3] s6)) ?_
          refine TX.icmp_eq rfl rfl rfl (by omega) (by omega) (fun c4 => ?_) (fun c4 => ?_)
          · refine TX.go 1 (fun n9 => (rfl : _ = exx ξ n9 (d + 8) j_N_attribute 151 [(0, .ref 16), (1, J x), (2, .ref a1), (3, J z3), (4, J z4)] [J (-1)] s6)) ?_
            have tq2 : tpf s6 = tpf σ := (tpf_of k4 rfl).trans (tpf_of hNx1 rfl).symm
            exact TX.ireti rfl rfl rfl (QX_l ⟨_, rfl, gs6, by omega, by omega, tq2, tys6⟩)
          · refine TX.go 1 (fun n9 => (rfl : _ = exx ξ n9 (d + 8) j_N_attribute 140 [(0, .ref 16), (1, J x), (2, .ref a1), (3, J z3), (4, J z4)] [.ref 16] s6)) ?_
            refine TX.get rfl rfl rfl rfl k4 rfl ?_
            obtain ⟨nx7, osx7, vsx7, vlx7, asx7, hmx7, fx7a, fx7b, fx7c, fx7d, fx7e, fx7f, fx7g, fx7h, fx7i⟩ := hs6.1.man
            refine TX.get rfl rfl rfl rfl hmx7 rfl ?_
            refine TX.go 1 (fun n9 => (rfl : _ = exx ξ n9 (d + 8) j_N_attribute 147 [(0, .ref 16), (1, J x), (2, .ref a1), (3, J z3), (4, J z4)] [J (-1), J vsx7] s6)) ?_
            refine TX.icmp_ne rfl rfl rfl (by omega) (by omega) (fun c5 => ?_) (fun c5 => ?_)
            · refine TX.go 1 (fun n9 => (rfl : _ = exx ξ n9 (d + 8) j_N_attribute 153 [(0, .ref 16), (1, J x), (2, .ref a1), (3, J z3), (4, J z4)] [.ref 16] s6)) ?_
              refine TX.get rfl rfl rfl rfl k4 rfl ?_
              refine TX.go 1 (fun n9 => (rfl : _ = exx ξ n9 (d + 8) j_N_attribute 157 [(0, .ref 16), (1, J x), (2, .ref a1), (3, J z3), (4, J z4)] [.ref 16, .ref 57] s6)) ?_
              refine TX.get rfl rfl rfl rfl k4 rfl ?_
              refine TX.get rfl rfl rfl rfl hmx7 rfl ?_
              refine TX.go 1 (fun n9 => (rfl : _ = exx ξ n9 (d + 8) j_N_attribute 164 [(0, .ref 16), (1, J x), (2, .ref a1), (3, J z3), (4, J z4)] [.ref 16, .ref 42, .ref 57] s6)) ?_
              refine TX.get rfl rfl rfl rfl k4 rfl ?_
              refine TX.get rfl rfl rfl rfl hmx7 rfl ?_
              refine TX.go 1 (fun n9 => (rfl : _ = exx ξ n9 (d + 8) j_N_attribute 171 [(0, .ref 16), (1, J x), (2, .ref a1), (3, J z3), (4, J z4)] [.ref 16, J vsx7, .ref 42, .ref 57] s6)) ?_
              refine TX.get rfl rfl rfl rfl k4 rfl ?_
              refine TX.get rfl rfl rfl rfl hmx7 rfl ?_
              obtain ⟨mx8, nx8, bx8, lx8, hrx8, hbx8, fx8a, fx8b, fx8c, fx8d, fx8e, fx8g, fx8h⟩ := hs6.1.row (r := 57) (by decide)
              refine TX.callv (as := [.ref 42, J vsx7, J vlx7]) (r := []) rfl rfl rfl rfl rfl hrx8 rfl (s_R_addPart (d + 6) 57 42 vsx7 vlx7 s6 hs6.1 (by decide) (by decide) (by decide) (by omega) (by omega)) (fun v7 s7 hqs7 => ?_)
              obtain ⟨z7, rfl, hs7, hzz7, hyz7, pz7_0⟩ := hqs7
              have es7 := hs7
              have hs7 := hs7.sub (w' := WP) (sub_1 (show 57 ∈ WP by decide))
              have tys7 := (rl_eq (es7.2.2.1 51 (by decide) (by decide))).trans tys6
              have k5 := pz7_0 _ _ (by decide) (fun l e => by cases e) hmx7
              have k6 := (es7.2.2.1 16 (by simp) (by decide)).trans k4
              have gs7 := gs6.trans hs7
              refine TX.go 2 (fun n9 => (rfl : _ = exx ξ n9 (d + 8) j_N_attribute 182 [(0, .ref 16), (1, J x), (2, .ref a1), (3, J z3), (4, J z4)] [.ref 16] s7)) ?_
              refine TX.get rfl rfl rfl rfl k6 rfl ?_
              obtain ⟨mx9, nx9, bx9, lx9, hrx9, hbx9, fx9a, fx9b, fx9c, fx9d, fx9e, fx9g, fx9h⟩ := hs7.1.row (r := 57) (by decide)
              refine TX.get rfl rfl rfl rfl hrx9 rfl ?_
              have tq3 : tpf s7 = tpf σ := (tpf_of k6 rfl).trans (tpf_of hNx1 rfl).symm
              exact TX.ireti rfl rfl rfl (QX_l ⟨_, rfl, gs7, by omega, by omega, tq3, tys7⟩)
            · refine TX.go 1 (fun n9 => (rfl : _ = exx ξ n9 (d + 8) j_N_attribute 151 [(0, .ref 16), (1, J x), (2, .ref a1), (3, J z3), (4, J z4)] [J (-1)] s6)) ?_
              have tq4 : tpf s6 = tpf σ := (tpf_of k4 rfl).trans (tpf_of hNx1 rfl).symm
              exact TX.ireti rfl rfl rfl (QX_l ⟨_, rfl, gs6, by omega, by omega, tq4, tys6⟩)
        · refine TX.go 3 (fun n9 => (rfl : _ = exx ξ n9 (d + 8) j_N_attribute 114 [(0, .ref 16), (1, J x), (2, .ref a1), (3, J z3), (4, J z4)] [J z3, J z4, .ref 16] s5)) ?_
          have tq5 : tpf s5 = tpf σ := (tpf_of k3 rfl).trans (tpf_of hNx1 rfl).symm
          refine TX.callv (as := [J z4, J z3]) (r := []) rfl rfl rfl rfl rfl k3 rfl (s_N_note (d + 7) z4 z3 s5 hs5.1   (by omega) (by omega)) (fun v8 s8 hqs8 => ?_)
          obtain ⟨rfl, hs8, pz8_0⟩ := hqs8
          have es8 := hs8
          have hs8 := hs8.sub (w' := WP) (sub_1 (show 16 ∈ WP by decide))
          have tys8 := (rl_eq (es8.2.2.1 51 (by decide) (by decide))).trans pz5_1
          have gs8 := gs5.trans hs8
          have tq6 := pz8_0.trans tq5
          exact TX.throw (Nat.ble_eq_true_of_le (by omega)) rfl rfl (QX_r (by decide) gs8 ⟨tq6, tys8⟩)
      · refine TX.go 1 (fun n9 => (rfl : _ = exx ξ n9 (d + 8) j_N_attribute 59 [(0, .ref 16), (1, J x), (2, .ref a1), (3, J z3), (4, J z4)] [J z4] s4)) ?_
        refine TX.if_ne rfl rfl rfl (by omega) (fun c6 => ?_) (fun c6 => ?_)
        · refine TX.go 1 (fun n9 => (rfl : _ = exx ξ n9 (d + 8) j_N_attribute 85 [(0, .ref 16), (1, J x), (2, .ref a1), (3, J z3), (4, J z4)] [.ref 16] s4)) ?_
          refine TX.get rfl rfl rfl rfl k2 rfl ?_
          obtain ⟨mx10, nx10, bx10, lx10, hrx10, hbx10, fx10a, fx10b, fx10c, fx10d, fx10e, fx10g, fx10h⟩ := hs4.1.row (r := 51) (by decide)
          refine TX.callv (as := []) (r := []) rfl rfl rfl rfl rfl hrx10 rfl (s_R_clear (d + 7) 51 s4 hs4.1 (by decide)  ) (fun v9 s9 hqs9 => ?_)
          obtain ⟨rfl, hs9, pz9_0, pz9_1⟩ := hqs9
          have es9 := hs9
          have hs9 := hs9.sub (w' := WP) (sub_1 (by decide))
          have k7 := (es9.2.2.1 16 (by simp) (by decide)).trans k2
          have gs9 := hs4.trans hs9
          refine TX.go 3 (fun n9 => (rfl : _ = exx ξ n9 (d + 8) j_N_attribute 107 [(0, .ref 16), (1, J x), (2, .ref a1), (3, J z3), (4, J z4)] [J z4] s9)) ?_
          refine TX.if_eq rfl rfl rfl (by omega) (fun c7 => ?_) (fun c7 => ?_)
          · refine TX.go 1 (fun n9 => (rfl : _ = exx ξ n9 (d + 8) j_N_attribute 128 [(0, .ref 16), (1, J x), (2, .ref a1), (3, J z3), (4, J z4)] [.ref 16] s9)) ?_
            refine TX.get rfl rfl rfl rfl k7 rfl ?_
            obtain ⟨mx11, nx11, bx11, lx11, hrx11, hbx11, fx11a, fx11b, fx11c, fx11d, fx11e, fx11g, fx11h⟩ := hs9.1.row (r := 57) (by decide)
            refine TX.callv (as := []) (r := []) rfl rfl rfl rfl rfl hrx11 rfl (s_R_clear (d + 7) 57 s9 hs9.1 (by decide)  ) (fun v10 s10 hqs10 => ?_)
            obtain ⟨rfl, hs10, pz10_0, pz10_1⟩ := hqs10
            have es10 := hs10
            have hs10 := hs10.sub (w' := WP) (sub_1 (show 57 ∈ WP by decide))
            have tys10 := (rl_eq (es10.2.2.1 51 (by decide) (by decide))).trans pz9_1
            have k8 := (es10.2.2.1 16 (by simp) (by decide)).trans k7
            have gs10 := gs9.trans hs10
            refine TX.go 2 (fun n9 => (rfl : _ = exx ξ n9 (d + 8) j_N_attribute 136 [(0, .ref 16), (1, J x), (2, .ref a1), (3, J z3), (4, J z4)] [J (-1), J z3] s10)) ?_
            refine TX.icmp_eq rfl rfl rfl (by omega) (by omega) (fun c8 => ?_) (fun c8 => ?_)
            · refine TX.go 1 (fun n9 => (rfl : _ = exx ξ n9 (d + 8) j_N_attribute 151 [(0, .ref 16), (1, J x), (2, .ref a1), (3, J z3), (4, J z4)] [J (-1)] s10)) ?_
              have tq7 : tpf s10 = tpf σ := (tpf_of k8 rfl).trans (tpf_of hNx1 rfl).symm
              exact TX.ireti rfl rfl rfl (QX_l ⟨_, rfl, gs10, by omega, by omega, tq7, tys10⟩)
            · refine TX.go 1 (fun n9 => (rfl : _ = exx ξ n9 (d + 8) j_N_attribute 140 [(0, .ref 16), (1, J x), (2, .ref a1), (3, J z3), (4, J z4)] [.ref 16] s10)) ?_
              refine TX.get rfl rfl rfl rfl k8 rfl ?_
              obtain ⟨nx12, osx12, vsx12, vlx12, asx12, hmx12, fx12a, fx12b, fx12c, fx12d, fx12e, fx12f, fx12g, fx12h, fx12i⟩ := hs10.1.man
              refine TX.get rfl rfl rfl rfl hmx12 rfl ?_
              refine TX.go 1 (fun n9 => (rfl : _ = exx ξ n9 (d + 8) j_N_attribute 147 [(0, .ref 16), (1, J x), (2, .ref a1), (3, J z3), (4, J z4)] [J (-1), J vsx12] s10)) ?_
              refine TX.icmp_ne rfl rfl rfl (by omega) (by omega) (fun c9 => ?_) (fun c9 => ?_)
              · refine TX.go 1 (fun n9 => (rfl : _ = exx ξ n9 (d + 8) j_N_attribute 153 [(0, .ref 16), (1, J x), (2, .ref a1), (3, J z3), (4, J z4)] [.ref 16] s10)) ?_
                refine TX.get rfl rfl rfl rfl k8 rfl ?_
                refine TX.go 1 (fun n9 => (rfl : _ = exx ξ n9 (d + 8) j_N_attribute 157 [(0, .ref 16), (1, J x), (2, .ref a1), (3, J z3), (4, J z4)] [.ref 16, .ref 57] s10)) ?_
                refine TX.get rfl rfl rfl rfl k8 rfl ?_
                refine TX.get rfl rfl rfl rfl hmx12 rfl ?_
                refine TX.go 1 (fun n9 => (rfl : _ = exx ξ n9 (d + 8) j_N_attribute 164 [(0, .ref 16), (1, J x), (2, .ref a1), (3, J z3), (4, J z4)] [.ref 16, .ref 42, .ref 57] s10)) ?_
                refine TX.get rfl rfl rfl rfl k8 rfl ?_
                refine TX.get rfl rfl rfl rfl hmx12 rfl ?_
                refine TX.go 1 (fun n9 => (rfl : _ = exx ξ n9 (d + 8) j_N_attribute 171 [(0, .ref 16), (1, J x), (2, .ref a1), (3, J z3), (4, J z4)] [.ref 16, J vsx12, .ref 42, .ref 57] s10)) ?_
                refine TX.get rfl rfl rfl rfl k8 rfl ?_
                refine TX.get rfl rfl rfl rfl hmx12 rfl ?_
                obtain ⟨mx13, nx13, bx13, lx13, hrx13, hbx13, fx13a, fx13b, fx13c, fx13d, fx13e, fx13g, fx13h⟩ := hs10.1.row (r := 57) (by decide)
                refine TX.callv (as := [.ref 42, J vsx12, J vlx12]) (r := []) rfl rfl rfl rfl rfl hrx13 rfl (s_R_addPart (d + 6) 57 42 vsx12 vlx12 s10 hs10.1 (by decide) (by decide) (by decide) (by omega) (by omega)) (fun v11 s11 hqs11 => ?_)
                obtain ⟨z11, rfl, hs11, hzz11, hyz11, pz11_0⟩ := hqs11
                have es11 := hs11
                have hs11 := hs11.sub (w' := WP) (sub_1 (show 57 ∈ WP by decide))
                have tys11 := (rl_eq (es11.2.2.1 51 (by decide) (by decide))).trans tys10
                have k9 := pz11_0 _ _ (by decide) (fun l e => by cases e) hmx12
                have k10 := (es11.2.2.1 16 (by simp) (by decide)).trans k8
                have gs11 := gs10.trans hs11
                refine TX.go 2 (fun n9 => (rfl : _ = exx ξ n9 (d + 8) j_N_attribute 182 [(0, .ref 16), (1, J x), (2, .ref a1), (3, J z3), (4, J z4)] [.ref 16] s11)) ?_
                refine TX.get rfl rfl rfl rfl k10 rfl ?_
                obtain ⟨mx14, nx14, bx14, lx14, hrx14, hbx14, fx14a, fx14b, fx14c, fx14d, fx14e, fx14g, fx14h⟩ := hs11.1.row (r := 57) (by decide)
                refine TX.get rfl rfl rfl rfl hrx14 rfl ?_
                have tq8 : tpf s11 = tpf σ := (tpf_of k10 rfl).trans (tpf_of hNx1 rfl).symm
                exact TX.ireti rfl rfl rfl (QX_l ⟨_, rfl, gs11, by omega, by omega, tq8, tys11⟩)
              · refine TX.go 1 (fun n9 => (rfl : _ = exx ξ n9 (d + 8) j_N_attribute 151 [(0, .ref 16), (1, J x), (2, .ref a1), (3, J z3), (4, J z4)] [J (-1)] s10)) ?_
                have tq9 : tpf s10 = tpf σ := (tpf_of k8 rfl).trans (tpf_of hNx1 rfl).symm
                exact TX.ireti rfl rfl rfl (QX_l ⟨_, rfl, gs10, by omega, by omega, tq9, tys10⟩)
          · refine TX.go 3 (fun n9 => (rfl : _ = exx ξ n9 (d + 8) j_N_attribute 114 [(0, .ref 16), (1, J x), (2, .ref a1), (3, J z3), (4, J z4)] [J z3, J z4, .ref 16] s9)) ?_
            have tq10 : tpf s9 = tpf σ := (tpf_of k7 rfl).trans (tpf_of hNx1 rfl).symm
            refine TX.callv (as := [J z4, J z3]) (r := []) rfl rfl rfl rfl rfl k7 rfl (s_N_note (d + 7) z4 z3 s9 hs9.1   (by omega) (by omega)) (fun v12 s12 hqs12 => ?_)
            obtain ⟨rfl, hs12, pz12_0⟩ := hqs12
            have es12 := hs12
            have hs12 := hs12.sub (w' := WP) (sub_1 (show 16 ∈ WP by decide))
            have tys12 := (rl_eq (es12.2.2.1 51 (by decide) (by decide))).trans pz9_1
            have gs12 := gs9.trans hs12
            have tq11 := pz12_0.trans tq10
            exact TX.throw (Nat.ble_eq_true_of_le (by omega)) rfl rfl (QX_r (by decide) gs12 ⟨tq11, tys12⟩)
        · refine TX.go 1 (fun n9 => (rfl : _ = exx ξ n9 (d + 8) j_N_attribute 63 [(0, .ref 16), (1, J x), (2, .ref a1), (3, J z3), (4, J z4)] [.ref 16] s4)) ?_
          refine TX.get rfl rfl rfl rfl k2 rfl ?_
          refine TX.go 1 (fun n9 => (rfl : _ = exx ξ n9 (d + 8) j_N_attribute 67 [(0, .ref 16), (1, J x), (2, .ref a1), (3, J z3), (4, J z4)] [.ref 16, .ref 41] s4)) ?_
          refine TX.get rfl rfl rfl rfl k2 rfl ?_
          refine TX.go 1 (fun n9 => (rfl : _ = exx ξ n9 (d + 8) j_N_attribute 71 [(0, .ref 16), (1, J x), (2, .ref a1), (3, J z3), (4, J z4)] [.ref 16, .ref scx1, .ref 41] s4)) ?_
          refine TX.get rfl rfl rfl rfl k2 rfl ?_
          obtain ⟨nx15, osx15, vsx15, vlx15, asx15, hmx15, fx15a, fx15b, fx15c, fx15d, fx15e, fx15f, fx15g, fx15h, fx15i⟩ := hs4.1.man
          refine TX.callv (as := [.ref scx1, .ref 51]) (r := []) rfl rfl rfl rfl rfl hmx15 rfl (s_F_learn (d + 2) scx1 51 s4 hs4.1 (na_ke fx1sc) (by decide) (sc_42 fx1sc) ) (fun v13 s13 hqs13 => ?_)
          obtain ⟨z13, rfl, hs13, hzz13, hyz13⟩ := hqs13
          have es13 := hs13
          have hs13 := hs13.sub (w' := WP) (sub_1 (show 42 ∈ WP by decide))
          have k11 := (es13.2.2.1 16 (by simp) (by decide)).trans k2
          have gs13 := hs4.trans hs13
          refine TX.if_ne rfl rfl rfl (by omega) (fun c10 => ?_) (fun c10 => ?_)
          · refine TX.go 1 (fun n9 => (rfl : _ = exx ξ n9 (d + 8) j_N_attribute 85 [(0, .ref 16), (1, J x), (2, .ref a1), (3, J z3), (4, J z4)] [.ref 16] s13)) ?_
            refine TX.get rfl rfl rfl rfl k11 rfl ?_
            obtain ⟨mx16, nx16, bx16, lx16, hrx16, hbx16, fx16a, fx16b, fx16c, fx16d, fx16e, fx16g, fx16h⟩ := hs13.1.row (r := 51) (by decide)
            refine TX.callv (as := []) (r := []) rfl rfl rfl rfl rfl hrx16 rfl (s_R_clear (d + 7) 51 s13 hs13.1 (by decide)  ) (fun v14 s14 hqs14 => ?_)
            obtain ⟨rfl, hs14, pz14_0, pz14_1⟩ := hqs14
            have es14 := hs14
            have hs14 := hs14.sub (w' := WP) (sub_1 (by decide))
            have k12 := (es14.2.2.1 16 (by simp) (by decide)).trans k11
            have gs14 := gs13.trans hs14
            refine TX.go 3 (fun n9 => (rfl : _ = exx ξ n9 (d + 8) j_N_attribute 107 [(0, .ref 16), (1, J x), (2, .ref a1), (3, J z3), (4, J z4)] [J z4] s14)) ?_
            refine TX.if_eq rfl rfl rfl (by omega) (fun c11 => ?_) (fun c11 => ?_)
            · refine TX.go 1 (fun n9 => (rfl : _ = exx ξ n9 (d + 8) j_N_attribute 128 [(0, .ref 16), (1, J x), (2, .ref a1), (3, J z3), (4, J z4)] [.ref 16] s14)) ?_
              refine TX.get rfl rfl rfl rfl k12 rfl ?_
              obtain ⟨mx17, nx17, bx17, lx17, hrx17, hbx17, fx17a, fx17b, fx17c, fx17d, fx17e, fx17g, fx17h⟩ := hs14.1.row (r := 57) (by decide)
              refine TX.callv (as := []) (r := []) rfl rfl rfl rfl rfl hrx17 rfl (s_R_clear (d + 7) 57 s14 hs14.1 (by decide)  ) (fun v15 s15 hqs15 => ?_)
              obtain ⟨rfl, hs15, pz15_0, pz15_1⟩ := hqs15
              have es15 := hs15
              have hs15 := hs15.sub (w' := WP) (sub_1 (show 57 ∈ WP by decide))
              have tys15 := (rl_eq (es15.2.2.1 51 (by decide) (by decide))).trans pz14_1
              have k13 := (es15.2.2.1 16 (by simp) (by decide)).trans k12
              have gs15 := gs14.trans hs15
              refine TX.go 2 (fun n9 => (rfl : _ = exx ξ n9 (d + 8) j_N_attribute 136 [(0, .ref 16), (1, J x), (2, .ref a1), (3, J z3), (4, J z4)] [J (-1), J z3] s15)) ?_
              refine TX.icmp_eq rfl rfl rfl (by omega) (by omega) (fun c12 => ?_) (fun c12 => ?_)
              · refine TX.go 1 (fun n9 => (rfl : _ = exx ξ n9 (d + 8) j_N_attribute 151 [(0, .ref 16), (1, J x), (2, .ref a1), (3, J z3), (4, J z4)] [J (-1)] s15)) ?_
                have tq12 : tpf s15 = tpf σ := (tpf_of k13 rfl).trans (tpf_of hNx1 rfl).symm
                exact TX.ireti rfl rfl rfl (QX_l ⟨_, rfl, gs15, by omega, by omega, tq12, tys15⟩)
              · refine TX.go 1 (fun n9 => (rfl : _ = exx ξ n9 (d + 8) j_N_attribute 140 [(0, .ref 16), (1, J x), (2, .ref a1), (3, J z3), (4, J z4)] [.ref 16] s15)) ?_
                refine TX.get rfl rfl rfl rfl k13 rfl ?_
                obtain ⟨nx18, osx18, vsx18, vlx18, asx18, hmx18, fx18a, fx18b, fx18c, fx18d, fx18e, fx18f, fx18g, fx18h, fx18i⟩ := hs15.1.man
                refine TX.get rfl rfl rfl rfl hmx18 rfl ?_
                refine TX.go 1 (fun n9 => (rfl : _ = exx ξ n9 (d + 8) j_N_attribute 147 [(0, .ref 16), (1, J x), (2, .ref a1), (3, J z3), (4, J z4)] [J (-1), J vsx18] s15)) ?_
                refine TX.icmp_ne rfl rfl rfl (by omega) (by omega) (fun c13 => ?_) (fun c13 => ?_)
                · refine TX.go 1 (fun n9 => (rfl : _ = exx ξ n9 (d + 8) j_N_attribute 153 [(0, .ref 16), (1, J x), (2, .ref a1), (3, J z3), (4, J z4)] [.ref 16] s15)) ?_
                  refine TX.get rfl rfl rfl rfl k13 rfl ?_
                  refine TX.go 1 (fun n9 => (rfl : _ = exx ξ n9 (d + 8) j_N_attribute 157 [(0, .ref 16), (1, J x), (2, .ref a1), (3, J z3), (4, J z4)] [.ref 16, .ref 57] s15)) ?_
                  refine TX.get rfl rfl rfl rfl k13 rfl ?_
                  refine TX.get rfl rfl rfl rfl hmx18 rfl ?_
                  refine TX.go 1 (fun n9 => (rfl : _ = exx ξ n9 (d + 8) j_N_attribute 164 [(0, .ref 16), (1, J x), (2, .ref a1), (3, J z3), (4, J z4)] [.ref 16, .ref 42, .ref 57] s15)) ?_
                  refine TX.get rfl rfl rfl rfl k13 rfl ?_
                  refine TX.get rfl rfl rfl rfl hmx18 rfl ?_
                  refine TX.go 1 (fun n9 => (rfl : _ = exx ξ n9 (d + 8) j_N_attribute 171 [(0, .ref 16), (1, J x), (2, .ref a1), (3, J z3), (4, J z4)] [.ref 16, J vsx18, .ref 42, .ref 57] s15)) ?_
                  refine TX.get rfl rfl rfl rfl k13 rfl ?_
                  refine TX.get rfl rfl rfl rfl hmx18 rfl ?_
                  obtain ⟨mx19, nx19, bx19, lx19, hrx19, hbx19, fx19a, fx19b, fx19c, fx19d, fx19e, fx19g, fx19h⟩ := hs15.1.row (r := 57) (by decide)
                  refine TX.callv (as := [.ref 42, J vsx18, J vlx18]) (r := []) rfl rfl rfl rfl rfl hrx19 rfl (s_R_addPart (d + 6) 57 42 vsx18 vlx18 s15 hs15.1 (by decide) (by decide) (by decide) (by omega) (by omega)) (fun v16 s16 hqs16 => ?_)
                  obtain ⟨z16, rfl, hs16, hzz16, hyz16, pz16_0⟩ := hqs16
                  have es16 := hs16
                  have hs16 := hs16.sub (w' := WP) (sub_1 (show 57 ∈ WP by decide))
                  have tys16 := (rl_eq (es16.2.2.1 51 (by decide) (by decide))).trans tys15
                  have k14 := pz16_0 _ _ (by decide) (fun l e => by cases e) hmx18
                  have k15 := (es16.2.2.1 16 (by simp) (by decide)).trans k13
                  have gs16 := gs15.trans hs16
                  refine TX.go 2 (fun n9 => (rfl : _ = exx ξ n9 (d + 8) j_N_attribute 182 [(0, .ref 16), (1, J x), (2, .ref a1), (3, J z3), (4, J z4)] [.ref 16] s16)) ?_
                  refine TX.get rfl rfl rfl rfl k15 rfl ?_
                  obtain ⟨mx20, nx20, bx20, lx20, hrx20, hbx20, fx20a, fx20b, fx20c, fx20d, fx20e, fx20g, fx20h⟩ := hs16.1.row (r := 57) (by decide)
                  refine TX.get rfl rfl rfl rfl hrx20 rfl ?_
                  have tq13 : tpf s16 = tpf σ := (tpf_of k15 rfl).trans (tpf_of hNx1 rfl).symm
                  exact TX.ireti rfl rfl rfl (QX_l ⟨_, rfl, gs16, by omega, by omega, tq13, tys16⟩)
                · refine TX.go 1 (fun n9 => (rfl : _ = exx ξ n9 (d + 8) j_N_attribute 151 [(0, .ref 16), (1, J x), (2, .ref a1), (3, J z3), (4, J z4)] [J (-1)] s15)) ?_
                  have tq14 : tpf s15 = tpf σ := (tpf_of k13 rfl).trans (tpf_of hNx1 rfl).symm
                  exact TX.ireti rfl rfl rfl (QX_l ⟨_, rfl, gs15, by omega, by omega, tq14, tys15⟩)
            · refine TX.go 3 (fun n9 => (rfl : _ = exx ξ n9 (d + 8) j_N_attribute 114 [(0, .ref 16), (1, J x), (2, .ref a1), (3, J z3), (4, J z4)] [J z3, J z4, .ref 16] s14)) ?_
              have tq15 : tpf s14 = tpf σ := (tpf_of k12 rfl).trans (tpf_of hNx1 rfl).symm
              refine TX.callv (as := [J z4, J z3]) (r := []) rfl rfl rfl rfl rfl k12 rfl (s_N_note (d + 7) z4 z3 s14 hs14.1   (by omega) (by omega)) (fun v17 s17 hqs17 => ?_)
              obtain ⟨rfl, hs17, pz17_0⟩ := hqs17
              have es17 := hs17
              have hs17 := hs17.sub (w' := WP) (sub_1 (show 16 ∈ WP by decide))
              have tys17 := (rl_eq (es17.2.2.1 51 (by decide) (by decide))).trans pz14_1
              have gs17 := gs14.trans hs17
              have tq16 := pz17_0.trans tq15
              exact TX.throw (Nat.ble_eq_true_of_le (by omega)) rfl rfl (QX_r (by decide) gs17 ⟨tq16, tys17⟩)
          · refine TX.go 3 (fun n9 => (rfl : _ = exx ξ n9 (d + 8) j_N_attribute 85 [(0, .ref 16), (1, J x), (2, .ref a1), (3, J z3), (4, J 10)] [.ref 16] s13)) ?_
            refine TX.get rfl rfl rfl rfl k11 rfl ?_
            obtain ⟨mx21, nx21, bx21, lx21, hrx21, hbx21, fx21a, fx21b, fx21c, fx21d, fx21e, fx21g, fx21h⟩ := hs13.1.row (r := 51) (by decide)
            refine TX.callv (as := []) (r := []) rfl rfl rfl rfl rfl hrx21 rfl (s_R_clear (d + 7) 51 s13 hs13.1 (by decide)  ) (fun v18 s18 hqs18 => ?_)
            obtain ⟨rfl, hs18, pz18_0, pz18_1⟩ := hqs18
            have es18 := hs18
            have hs18 := hs18.sub (w' := WP) (sub_1 (by decide))
            have k16 := (es18.2.2.1 16 (by simp) (by decide)).trans k11
            have gs18 := gs13.trans hs18
            refine TX.go 7 (fun n9 => (rfl : _ = exx ξ n9 (d + 8) j_N_attribute 114 [(0, .ref 16), (1, J x), (2, .ref a1), (3, J z3), (4, J 10)] [J z3, J 10, .ref 16] s18)) ?_
            have tq17 : tpf s18 = tpf σ := (tpf_of k16 rfl).trans (tpf_of hNx1 rfl).symm
            refine TX.callv (as := [J 10, J z3]) (r := []) rfl rfl rfl rfl rfl k16 rfl (s_N_note (d + 7) 10 z3 s18 hs18.1   (by omega) (by omega)) (fun v19 s19 hqs19 => ?_)
            obtain ⟨rfl, hs19, pz19_0⟩ := hqs19
            have es19 := hs19
            have hs19 := hs19.sub (w' := WP) (sub_1 (show 16 ∈ WP by decide))
            have tys19 := (rl_eq (es19.2.2.1 51 (by decide) (by decide))).trans pz18_1
            have gs19 := gs18.trans hs19
            have tq18 := pz19_0.trans tq17
            exact TX.throw (Nat.ble_eq_true_of_le (by omega)) rfl rfl (QX_r (by decide) gs19 ⟨tq18, tys19⟩)
    · refine TX.go 5 (fun n9 => (rfl : _ = exx ξ n9 (d + 8) j_N_attribute 54 [(0, .ref 16), (1, J x), (2, .ref a1), (3, J z3), (4, J 0)] [J (-1), J z3] σ)) ?_
      refine TX.icmp_eq rfl rfl rfl (by omega) (by omega) (fun c14 => ?_) (fun c14 => ?_)
      · refine TX.go 1 (fun n9 => (rfl : _ = exx ξ n9 (d + 8) j_N_attribute 85 [(0, .ref 16), (1, J x), (2, .ref a1), (3, J z3), (4, J 0)] [.ref 16] σ)) ?_
        refine TX.get rfl rfl rfl rfl hNx1 rfl ?_
        obtain ⟨mx22, nx22, bx22, lx22, hrx22, hbx22, fx22a, fx22b, fx22c, fx22d, fx22e, fx22g, fx22h⟩ := hK.row (r := 51) (by decide)
        refine TX.callv (as := []) (r := []) rfl rfl rfl rfl rfl hrx22 rfl (s_R_clear (d + 7) 51 σ hK (by decide)  ) (fun v20 s20 hqs20 => ?_)
        obtain ⟨rfl, hs20, pz20_0, pz20_1⟩ := hqs20
        have es20 := hs20
        have hs20 := hs20.sub (w' := WP) (sub_1 (by decide))
        have k17 := pz20_0 _ _ (by decide) (fun l e => by cases e) hrx3
        have k18 := pz20_0 _ _ (q_dif hax4 hrx22 (fun z => by cases z)) (fun l e => by cases e) hax4
        have k19 := (es20.2.2.1 16 (by simp) (by decide)).trans hNx1
        refine TX.go 5 (fun n9 => (rfl : _ = exx ξ n9 (d + 8) j_N_attribute 128 [(0, .ref 16), (1, J x), (2, .ref a1), (3, J z3), (4, J 0)] [.ref 16] s20)) ?_
        refine TX.get rfl rfl rfl rfl k19 rfl ?_
        obtain ⟨mx23, nx23, bx23, lx23, hrx23, hbx23, fx23a, fx23b, fx23c, fx23d, fx23e, fx23g, fx23h⟩ := hs20.1.row (r := 57) (by decide)
        refine TX.callv (as := []) (r := []) rfl rfl rfl rfl rfl hrx23 rfl (s_R_clear (d + 7) 57 s20 hs20.1 (by decide)  ) (fun v21 s21 hqs21 => ?_)
        obtain ⟨rfl, hs21, pz21_0, pz21_1⟩ := hqs21
        have es21 := hs21
        have hs21 := hs21.sub (w' := WP) (sub_1 (show 57 ∈ WP by decide))
        have tys21 := (rl_eq (es21.2.2.1 51 (by decide) (by decide))).trans pz20_1
        have k20 := pz21_0 _ _ (by decide) (fun l e => by cases e) k17
        have k21 := pz21_0 _ _ (q_dif k18 hrx23 (fun z => by cases z)) (fun l e => by cases e) k18
        have k22 := (es21.2.2.1 16 (by simp) (by decide)).trans k19
        have gs21 := hs20.trans hs21
        refine TX.go 2 (fun n9 => (rfl : _ = exx ξ n9 (d + 8) j_N_attribute 136 [(0, .ref 16), (1, J x), (2, .ref a1), (3, J z3), (4, J 0)] [J (-1), J z3] s21)) ?_
        refine TX.icmp_eq rfl rfl rfl (by omega) (by omega) (fun c15 => ?_) (fun c15 => ?_)
        · refine TX.go 1 (fun n9 => (rfl : _ = exx ξ n9 (d + 8) j_N_attribute 151 [(0, .ref 16), (1, J x), (2, .ref a1), (3, J z3), (4, J 0)] [J (-1)] s21)) ?_
          have tq19 : tpf s21 = tpf σ := (tpf_of k22 rfl).trans (tpf_of hNx1 rfl).symm
          exact TX.ireti rfl rfl rfl (QX_l ⟨_, rfl, gs21, by omega, by omega, tq19, tys21⟩)
        · refine TX.go 1 (fun n9 => (rfl : _ = exx ξ n9 (d + 8) j_N_attribute 140 [(0, .ref 16), (1, J x), (2, .ref a1), (3, J z3), (4, J 0)] [.ref 16] s21)) ?_
          refine TX.get rfl rfl rfl rfl k22 rfl ?_
          obtain ⟨nx24, osx24, vsx24, vlx24, asx24, hmx24, fx24a, fx24b, fx24c, fx24d, fx24e, fx24f, fx24g, fx24h, fx24i⟩ := hs21.1.man
          refine TX.get rfl rfl rfl rfl hmx24 rfl ?_
          refine TX.go 1 (fun n9 => (rfl : _ = exx ξ n9 (d + 8) j_N_attribute 147 [(0, .ref 16), (1, J x), (2, .ref a1), (3, J z3), (4, J 0)] [J (-1), J vsx24] s21)) ?_
          refine TX.icmp_ne rfl rfl rfl (by omega) (by omega) (fun c16 => ?_) (fun c16 => ?_)
          · refine TX.go 1 (fun n9 => (rfl : _ = exx ξ n9 (d + 8) j_N_attribute 153 [(0, .ref 16), (1, J x), (2, .ref a1), (3, J z3), (4, J 0)] [.ref 16] s21)) ?_
            refine TX.get rfl rfl rfl rfl k22 rfl ?_
            refine TX.go 1 (fun n9 => (rfl : _ = exx ξ n9 (d + 8) j_N_attribute 157 [(0, .ref 16), (1, J x), (2, .ref a1), (3, J z3), (4, J 0)] [.ref 16, .ref 57] s21)) ?_
            refine TX.get rfl rfl rfl rfl k22 rfl ?_
            refine TX.get rfl rfl rfl rfl hmx24 rfl ?_
            refine TX.go 1 (fun n9 => (rfl : _ = exx ξ n9 (d + 8) j_N_attribute 164 [(0, .ref 16), (1, J x), (2, .ref a1), (3, J z3), (4, J 0)] [.ref 16, .ref 42, .ref 57] s21)) ?_
            refine TX.get rfl rfl rfl rfl k22 rfl ?_
            refine TX.get rfl rfl rfl rfl hmx24 rfl ?_
            refine TX.go 1 (fun n9 => (rfl : _ = exx ξ n9 (d + 8) j_N_attribute 171 [(0, .ref 16), (1, J x), (2, .ref a1), (3, J z3), (4, J 0)] [.ref 16, J vsx24, .ref 42, .ref 57] s21)) ?_
            refine TX.get rfl rfl rfl rfl k22 rfl ?_
            refine TX.get rfl rfl rfl rfl hmx24 rfl ?_
            obtain ⟨mx25, nx25, bx25, lx25, hrx25, hbx25, fx25a, fx25b, fx25c, fx25d, fx25e, fx25g, fx25h⟩ := hs21.1.row (r := 57) (by decide)
            refine TX.callv (as := [.ref 42, J vsx24, J vlx24]) (r := []) rfl rfl rfl rfl rfl hrx25 rfl (s_R_addPart (d + 6) 57 42 vsx24 vlx24 s21 hs21.1 (by decide) (by decide) (by decide) (by omega) (by omega)) (fun v22 s22 hqs22 => ?_)
            obtain ⟨z22, rfl, hs22, hzz22, hyz22, pz22_0⟩ := hqs22
            have es22 := hs22
            have hs22 := hs22.sub (w' := WP) (sub_1 (show 57 ∈ WP by decide))
            have tys22 := (rl_eq (es22.2.2.1 51 (by decide) (by decide))).trans tys21
            have k23 := pz22_0 _ _ (by decide) (fun l e => by cases e) k20
            have k24 := pz22_0 _ _ (q_dif k21 hrx25 (fun z => by cases z)) (fun l e => by cases e) k21
            have k25 := pz22_0 _ _ (by decide) (fun l e => by cases e) hmx24
            have k26 := (es22.2.2.1 16 (by simp) (by decide)).trans k22
            have gs22 := gs21.trans hs22
            refine TX.go 2 (fun n9 => (rfl : _ = exx ξ n9 (d + 8) j_N_attribute 182 [(0, .ref 16), (1, J x), (2, .ref a1), (3, J z3), (4, J 0)] [.ref 16] s22)) ?_
            refine TX.get rfl rfl rfl rfl k26 rfl ?_
            obtain ⟨mx26, nx26, bx26, lx26, hrx26, hbx26, fx26a, fx26b, fx26c, fx26d, fx26e, fx26g, fx26h⟩ := hs22.1.row (r := 57) (by decide)
            refine TX.get rfl rfl rfl rfl hrx26 rfl ?_
            have tq20 : tpf s22 = tpf σ := (tpf_of k26 rfl).trans (tpf_of hNx1 rfl).symm
            exact TX.ireti rfl rfl rfl (QX_l ⟨_, rfl, gs22, by omega, by omega, tq20, tys22⟩)
          · refine TX.go 1 (fun n9 => (rfl : _ = exx ξ n9 (d + 8) j_N_attribute 151 [(0, .ref 16), (1, J x), (2, .ref a1), (3, J z3), (4, J 0)] [J (-1)] s21)) ?_
            have tq21 : tpf s21 = tpf σ := (tpf_of k22 rfl).trans (tpf_of hNx1 rfl).symm
            exact TX.ireti rfl rfl rfl (QX_l ⟨_, rfl, gs21, by omega, by omega, tq21, tys21⟩)
      · refine TX.go 3 (fun n9 => (rfl : _ = exx ξ n9 (d + 8) j_N_attribute 63 [(0, .ref 16), (1, J x), (2, .ref a1), (3, J z3), (4, J 0)] [.ref 16] σ)) ?_
        refine TX.get rfl rfl rfl rfl hNx1 rfl ?_
        refine TX.go 1 (fun n9 => (rfl : _ = exx ξ n9 (d + 8) j_N_attribute 67 [(0, .ref 16), (1, J x), (2, .ref a1), (3, J z3), (4, J 0)] [.ref 16, .ref 41] σ)) ?_
        refine TX.get rfl rfl rfl rfl hNx1 rfl ?_
        refine TX.go 1 (fun n9 => (rfl : _ = exx ξ n9 (d + 8) j_N_attribute 71 [(0, .ref 16), (1, J x), (2, .ref a1), (3, J z3), (4, J 0)] [.ref 16, .ref scx1, .ref 41] σ)) ?_
        refine TX.get rfl rfl rfl rfl hNx1 rfl ?_
        obtain ⟨nx27, osx27, vsx27, vlx27, asx27, hmx27, fx27a, fx27b, fx27c, fx27d, fx27e, fx27f, fx27g, fx27h, fx27i⟩ := hK.man
        refine TX.callv (as := [.ref scx1, .ref 51]) (r := []) rfl rfl rfl rfl rfl hmx27 rfl (s_F_learn (d + 2) scx1 51 σ hK (na_ke fx1sc) (by decide) (sc_42 fx1sc) ) (fun v23 s23 hqs23 => ?_)
        obtain ⟨z23, rfl, hs23, hzz23, hyz23⟩ := hqs23
        have es23 := hs23
        have hs23 := hs23.sub (w' := WP) (sub_1 (show 42 ∈ WP by decide))
        have k27 := (es23.2.2.1 16 (by simp) (by decide)).trans hNx1
        refine TX.if_ne rfl rfl rfl (by omega) (fun c17 => ?_) (fun c17 => ?_)
        · refine TX.go 1 (fun n9 => (rfl : _ = exx ξ n9 (d + 8) j_N_attribute 85 [(0, .ref 16), (1, J x), (2, .ref a1), (3, J z3), (4, J 0)] [.ref 16] s23)) ?_
          refine TX.get rfl rfl rfl rfl k27 rfl ?_
          obtain ⟨mx28, nx28, bx28, lx28, hrx28, hbx28, fx28a, fx28b, fx28c, fx28d, fx28e, fx28g, fx28h⟩ := hs23.1.row (r := 51) (by decide)
          refine TX.callv (as := []) (r := []) rfl rfl rfl rfl rfl hrx28 rfl (s_R_clear (d + 7) 51 s23 hs23.1 (by decide)  ) (fun v24 s24 hqs24 => ?_)
          obtain ⟨rfl, hs24, pz24_0, pz24_1⟩ := hqs24
          have es24 := hs24
          have hs24 := hs24.sub (w' := WP) (sub_1 (by decide))
          have k28 := (es24.2.2.1 16 (by simp) (by decide)).trans k27
          have gs24 := hs23.trans hs24
          refine TX.go 5 (fun n9 => (rfl : _ = exx ξ n9 (d + 8) j_N_attribute 128 [(0, .ref 16), (1, J x), (2, .ref a1), (3, J z3), (4, J 0)] [.ref 16] s24)) ?_
          refine TX.get rfl rfl rfl rfl k28 rfl ?_
          obtain ⟨mx29, nx29, bx29, lx29, hrx29, hbx29, fx29a, fx29b, fx29c, fx29d, fx29e, fx29g, fx29h⟩ := hs24.1.row (r := 57) (by decide)
          refine TX.callv (as := []) (r := []) rfl rfl rfl rfl rfl hrx29 rfl (s_R_clear (d + 7) 57 s24 hs24.1 (by decide)  ) (fun v25 s25 hqs25 => ?_)
          obtain ⟨rfl, hs25, pz25_0, pz25_1⟩ := hqs25
          have es25 := hs25
          have hs25 := hs25.sub (w' := WP) (sub_1 (show 57 ∈ WP by decide))
          have tys25 := (rl_eq (es25.2.2.1 51 (by decide) (by decide))).trans pz24_1
          have k29 := (es25.2.2.1 16 (by simp) (by decide)).trans k28
          have gs25 := gs24.trans hs25
          refine TX.go 2 (fun n9 => (rfl : _ = exx ξ n9 (d + 8) j_N_attribute 136 [(0, .ref 16), (1, J x), (2, .ref a1), (3, J z3), (4, J 0)] [J (-1), J z3] s25)) ?_
          refine TX.icmp_eq rfl rfl rfl (by omega) (by omega) (fun c18 => ?_) (fun c18 => ?_)
          · refine TX.go 1 (fun n9 => (rfl : _ = exx ξ n9 (d + 8) j_N_attribute 151 [(0, .ref 16), (1, J x), (2, .ref a1), (3, J z3), (4, J 0)] [J (-1)] s25)) ?_
            have tq22 : tpf s25 = tpf σ := (tpf_of k29 rfl).trans (tpf_of hNx1 rfl).symm
            exact TX.ireti rfl rfl rfl (QX_l ⟨_, rfl, gs25, by omega, by omega, tq22, tys25⟩)
          · refine TX.go 1 (fun n9 => (rfl : _ = exx ξ n9 (d + 8) j_N_attribute 140 [(0, .ref 16), (1, J x), (2, .ref a1), (3, J z3), (4, J 0)] [.ref 16] s25)) ?_
            refine TX.get rfl rfl rfl rfl k29 rfl ?_
            obtain ⟨nx30, osx30, vsx30, vlx30, asx30, hmx30, fx30a, fx30b, fx30c, fx30d, fx30e, fx30f, fx30g, fx30h, fx30i⟩ := hs25.1.man
            refine TX.get rfl rfl rfl rfl hmx30 rfl ?_
            refine TX.go 1 (fun n9 => (rfl : _ = exx ξ n9 (d + 8) j_N_attribute 147 [(0, .ref 16), (1, J x), (2, .ref a1), (3, J z3), (4, J 0)] [J (-1), J vsx30] s25)) ?_
            refine TX.icmp_ne rfl rfl rfl (by omega) (by omega) (fun c19 => ?_) (fun c19 => ?_)
            · refine TX.go 1 (fun n9 => (rfl : _ = exx ξ n9 (d + 8) j_N_attribute 153 [(0, .ref 16), (1, J x), (2, .ref a1), (3, J z3), (4, J 0)] [.ref 16] s25)) ?_
              refine TX.get rfl rfl rfl rfl k29 rfl ?_
              refine TX.go 1 (fun n9 => (rfl : _ = exx ξ n9 (d + 8) j_N_attribute 157 [(0, .ref 16), (1, J x), (2, .ref a1), (3, J z3), (4, J 0)] [.ref 16, .ref 57] s25)) ?_
              refine TX.get rfl rfl rfl rfl k29 rfl ?_
              refine TX.get rfl rfl rfl rfl hmx30 rfl ?_
              refine TX.go 1 (fun n9 => (rfl : _ = exx ξ n9 (d + 8) j_N_attribute 164 [(0, .ref 16), (1, J x), (2, .ref a1), (3, J z3), (4, J 0)] [.ref 16, .ref 42, .ref 57] s25)) ?_
              refine TX.get rfl rfl rfl rfl k29 rfl ?_
              refine TX.get rfl rfl rfl rfl hmx30 rfl ?_
              refine TX.go 1 (fun n9 => (rfl : _ = exx ξ n9 (d + 8) j_N_attribute 171 [(0, .ref 16), (1, J x), (2, .ref a1), (3, J z3), (4, J 0)] [.ref 16, J vsx30, .ref 42, .ref 57] s25)) ?_
              refine TX.get rfl rfl rfl rfl k29 rfl ?_
              refine TX.get rfl rfl rfl rfl hmx30 rfl ?_
              obtain ⟨mx31, nx31, bx31, lx31, hrx31, hbx31, fx31a, fx31b, fx31c, fx31d, fx31e, fx31g, fx31h⟩ := hs25.1.row (r := 57) (by decide)
              refine TX.callv (as := [.ref 42, J vsx30, J vlx30]) (r := []) rfl rfl rfl rfl rfl hrx31 rfl (s_R_addPart (d + 6) 57 42 vsx30 vlx30 s25 hs25.1 (by decide) (by decide) (by decide) (by omega) (by omega)) (fun v26 s26 hqs26 => ?_)
              obtain ⟨z26, rfl, hs26, hzz26, hyz26, pz26_0⟩ := hqs26
              have es26 := hs26
              have hs26 := hs26.sub (w' := WP) (sub_1 (show 57 ∈ WP by decide))
              have tys26 := (rl_eq (es26.2.2.1 51 (by decide) (by decide))).trans tys25
              have k30 := pz26_0 _ _ (by decide) (fun l e => by cases e) hmx30
              have k31 := (es26.2.2.1 16 (by simp) (by decide)).trans k29
              have gs26 := gs25.trans hs26
              refine TX.go 2 (fun n9 => (rfl : _ = exx ξ n9 (d + 8) j_N_attribute 182 [(0, .ref 16), (1, J x), (2, .ref a1), (3, J z3), (4, J 0)] [.ref 16] s26)) ?_
              refine TX.get rfl rfl rfl rfl k31 rfl ?_
              obtain ⟨mx32, nx32, bx32, lx32, hrx32, hbx32, fx32a, fx32b, fx32c, fx32d, fx32e, fx32g, fx32h⟩ := hs26.1.row (r := 57) (by decide)
              refine TX.get rfl rfl rfl rfl hrx32 rfl ?_
              have tq23 : tpf s26 = tpf σ := (tpf_of k31 rfl).trans (tpf_of hNx1 rfl).symm
              exact TX.ireti rfl rfl rfl (QX_l ⟨_, rfl, gs26, by omega, by omega, tq23, tys26⟩)
            · refine TX.go 1 (fun n9 => (rfl : _ = exx ξ n9 (d + 8) j_N_attribute 151 [(0, .ref 16), (1, J x), (2, .ref a1), (3, J z3), (4, J 0)] [J (-1)] s25)) ?_
              have tq24 : tpf s25 = tpf σ := (tpf_of k29 rfl).trans (tpf_of hNx1 rfl).symm
              exact TX.ireti rfl rfl rfl (QX_l ⟨_, rfl, gs25, by omega, by omega, tq24, tys25⟩)
        · refine TX.go 3 (fun n9 => (rfl : _ = exx ξ n9 (d + 8) j_N_attribute 85 [(0, .ref 16), (1, J x), (2, .ref a1), (3, J z3), (4, J 10)] [.ref 16] s23)) ?_
          refine TX.get rfl rfl rfl rfl k27 rfl ?_
          obtain ⟨mx33, nx33, bx33, lx33, hrx33, hbx33, fx33a, fx33b, fx33c, fx33d, fx33e, fx33g, fx33h⟩ := hs23.1.row (r := 51) (by decide)
          refine TX.callv (as := []) (r := []) rfl rfl rfl rfl rfl hrx33 rfl (s_R_clear (d + 7) 51 s23 hs23.1 (by decide)  ) (fun v27 s27 hqs27 => ?_)
          obtain ⟨rfl, hs27, pz27_0, pz27_1⟩ := hqs27
          have es27 := hs27
          have hs27 := hs27.sub (w' := WP) (sub_1 (by decide))
          have k32 := (es27.2.2.1 16 (by simp) (by decide)).trans k27
          have gs27 := hs23.trans hs27
          refine TX.go 7 (fun n9 => (rfl : _ = exx ξ n9 (d + 8) j_N_attribute 114 [(0, .ref 16), (1, J x), (2, .ref a1), (3, J z3), (4, J 10)] [J z3, J 10, .ref 16] s27)) ?_
          have tq25 : tpf s27 = tpf σ := (tpf_of k32 rfl).trans (tpf_of hNx1 rfl).symm
          refine TX.callv (as := [J 10, J z3]) (r := []) rfl rfl rfl rfl rfl k32 rfl (s_N_note (d + 7) 10 z3 s27 hs27.1   (by omega) (by omega)) (fun v28 s28 hqs28 => ?_)
          obtain ⟨rfl, hs28, pz28_0⟩ := hqs28
          have es28 := hs28
          have hs28 := hs28.sub (w' := WP) (sub_1 (show 16 ∈ WP by decide))
          have tys28 := (rl_eq (es28.2.2.1 51 (by decide) (by decide))).trans pz27_1
          have gs28 := gs27.trans hs28
          have tq26 := pz28_0.trans tq25
          exact TX.throw (Nat.ble_eq_true_of_le (by omega)) rfl rfl (QX_r (by decide) gs28 ⟨tq26, tys28⟩)

set_option maxHeartbeats 4000000 in
theorem s_N_ytype {ξ : Nat → Option (Nat × List Int32)} (d : Nat) (x : Int) (σ : qH) (hK : K σ)  (rx : -9223372036854775808 ≤ x ∧ x ≤ 9223372036854775807) : T ξ (d + 8) j_N_type 0 (lv_args 0 [.ref 16, JL x]) [] σ (fun v σ' => ∃ z : Int, v = some (J z) ∧ Fr WP σ σ' ∧ 0 ≤ z ∧ z ≤ 1 ∧ tpf σ' = tpf σ ∧ z = TYv x (rl σ 51) ∧ (z = 0 → rl σ' 51 = rl σ 51) ∧ (z = 1 → rl σ' 51 = rl σ 51 + CW x 8)) := by
  have cw8 := CW_r x 8
  have m51 : mst 51 = 40 := by decide
  obtain ⟨mx1, nx1, bx1, lx1, hrx1, hbx1, fx1a, fx1b, fx1c, fx1d, fx1e, fx1g, fx1h⟩ := hK.row (r := 51) (by decide)
  have l51 := rl_of hrx1 (by omega)
  obtain ⟨kex2, scx2, tpx2, oux2, mox2, sgx2, hox2, mcx2, lfx2, lpx2, hNx2, fx2ke, fx2sc, fx2tp, fx2ou, fx2mo, fx2sg, fx2d, fx2e, fx2f, fx2g, fx2h, fx2i, fx2j⟩ := hK.na
  have loop76 : ∀ (f : Nat) (n : Int) (s : Int) (τ : qH), Fr WP σ τ → tpf τ = tpf σ → -8 ≤ s → s ≤ 56 → s % 8 = 0 → rl τ 51 + CW x ((s + 8) / 8).toNat = rl σ 51 + CW x 8 → rl σ 51 + CW x 8 ≤ 40 → AOK x 8 = 1 → (s + 8).toNat < f → T ξ (d + 8) j_N_type 76 [(0, .ref 16), (1, JL x), (3, J n), (4, J s)] [] τ (fun v σ' => ∃ z : Int, v = some (J z) ∧ Fr WP σ σ' ∧ 0 ≤ z ∧ z ≤ 1 ∧ tpf σ' = tpf σ ∧ z = TYv x (rl σ 51) ∧ (z = 0 → rl σ' 51 = rl σ 51) ∧ (z = 1 → rl σ' 51 = rl σ 51 + CW x 8)) := by
    intro f
    induction f with
    | zero => intro n s τ hτ tτ i0 i1 i2 i3 i4 i5 hm; omega
    | succ f ih =>
      intro n s τ hτ tτ i0 i1 i2 i3 i4 i5 hm
      refine T.go 1 (fun n9 => (rfl : _ = exe ξ n9 (d + 8) j_N_type 78 [(0, .ref 16), (1, JL x), (3, J n), (4, J s)] [J s] τ)) ?_
      refine T.if_lt rfl rfl (by omega) (fun c1 => ?_) (fun c1 => ?_)
      · refine T.go 1 (fun n9 => (rfl : _ = exe ξ n9 (d + 8) j_N_type 114 [(0, .ref 16), (1, JL x), (3, J n), (4, J s)] [J 1] τ)) ?_
        exact T.iretz rfl rfl (by omega) ⟨_, rfl, hτ, by omega, by omega, tτ, (by unfold TYv; rw [if_pos ⟨by omega, by omega⟩]), by omega, (fun q => by have c9 : CW x ((s + 8) / 8).toNat = 0 := (by rw [show ((s + 8) / 8).toNat = 0 by omega]; rfl); omega)⟩
      · refine T.go 2 (fun n9 => (rfl : _ = exe ξ n9 (d + 8) j_N_type 84 [(0, .ref 16), (1, JL x), (3, J n), (4, J s)] [J s, JL x] τ)) ?_
        refine T.lushrq rfl (by omega) (by omega) (fun z1 hzz1 hyz1 hwz1 => ?_)
        refine T.l2i rfl ?_
        refine T.go 1 (fun n9 => (rfl : _ = exe ξ n9 (d + 8) j_N_type 89 [(0, .ref 16), (1, JL x), (3, J n), (4, J s)] [J 255, J z1] τ)) ?_
        refine T.iandw rfl ?_
        refine T.go 2 (fun n9 => (rfl : _ = exe ξ n9 (d + 8) j_N_type 94 [(0, .ref 16), (1, JL x), (3, J n), (4, J s), (5, J (z1 % 256))] [J (z1 % 256)] τ)) ?_
        refine T.if_eq rfl rfl (by omega) (fun c2 => ?_) (fun c2 => ?_)
        · refine T.iinc (lv' := [(0, .ref 16), (1, JL x), (3, J n), (4, J (s + (-8))), (5, J (z1 % 256))]) rfl rfl rfl rfl ?_
          refine T.go 1 (fun n9 => (rfl : _ = exe ξ n9 (d + 8) j_N_type 76 [(0, .ref 16), (1, JL x), (3, J n), (4, J (s + (-8))), (5, J (z1 % 256))] [] τ)) ?_
          refine T.drop (lv := [(0, .ref 16), (1, JL x), (3, J n), (4, J (s + (-8)))]) [(5, J (z1 % 256))] (by simp) ?_
          exact ih  n (s + (-8)) τ hτ tτ (by omega) (by omega) (by omega) (by first | (have e9 := CW_z (x := x) (k := s) (by omega) (by omega) (by omega); omega) | (have e9 := CW_n (x := x) (k := s) (by omega) (by omega) (by omega); have e8 := CW_r x ((s + (-8) + 8) / 8).toNat; omega)) (by omega) i5 (by omega)
        · refine T.go 1 (fun n9 => (rfl : _ = exe ξ n9 (d + 8) j_N_type 98 [(0, .ref 16), (1, JL x), (3, J n), (4, J s), (5, J (z1 % 256))] [.ref 16] τ)) ?_
          obtain ⟨kex3, scx3, tpx3, oux3, mox3, sgx3, hox3, mcx3, lfx3, lpx3, hNx3, fx3ke, fx3sc, fx3tp, fx3ou, fx3mo, fx3sg, fx3d, fx3e, fx3f, fx3g, fx3h, fx3i, fx3j⟩ := hτ.1.na
          refine T.get rfl rfl rfl hNx3 rfl ?_
          refine T.go 1 (fun n9 => (rfl : _ = exe ξ n9 (d + 8) j_N_type 103 [(0, .ref 16), (1, JL x), (3, J n), (4, J s), (5, J (z1 % 256))] [J (z1 % 256), .ref 51] τ)) ?_
          obtain ⟨mx4, nx4, bx4, lx4, hrx4, hbx4, fx4a, fx4b, fx4c, fx4d, fx4e, fx4g, fx4h⟩ := hτ.1.row (r := 51) (by decide)
          refine T.callv (as := [J (z1 % 256)]) (r := []) rfl rfl rfl rfl hrx4 rfl (s_R_add (d + 7) 51 (z1 % 256) τ hτ.1 (by decide)  (by omega)) (fun v1 s1 hqs1 => ?_)
          obtain ⟨z3, rfl, hs1, hzz3, hyz3, pz3_0, pz3_1⟩ := hqs1
          have es1 := hs1
          have hs1 := hs1.sub (w' := WP) (sub_1 (by decide))
          have k1 := (es1.2.2.1 16 (by simp) (by decide)).trans hNx3
          have gs1 := hτ.trans hs1
          refine T.go 1 (fun n9 => (rfl : _ = exe ξ n9 (d + 8) j_N_type 107 [(0, .ref 16), (1, JL x), (3, J n), (4, J s), (5, J (z1 % 256))] [] s1)) ?_
          refine T.iinc (lv' := [(0, .ref 16), (1, JL x), (3, J n), (4, J (s + (-8))), (5, J (z1 % 256))]) rfl rfl rfl rfl ?_
          refine T.go 1 (fun n9 => (rfl : _ = exe ξ n9 (d + 8) j_N_type 76 [(0, .ref 16), (1, JL x), (3, J n), (4, J (s + (-8))), (5, J (z1 % 256))] [] s1)) ?_
          refine T.drop (lv := [(0, .ref 16), (1, JL x), (3, J n), (4, J (s + (-8)))]) [(5, J (z1 % 256))] (by simp) ?_
          have tq1 : tpf s1 = tpf σ := ((tpf_of k1 rfl).trans (tpf_of hNx3 rfl).symm).trans tτ
          exact ih  n (s + (-8)) s1 gs1 tq1 (by omega) (by omega) (by omega) (by first | (have e9 := CW_z (x := x) (k := s) (by omega) (by omega) (by omega); omega) | (have e9 := CW_n (x := x) (k := s) (by omega) (by omega) (by omega); have e8 := CW_r x ((s + (-8) + 8) / 8).toNat; omega)) (by omega) i5 (by omega)
  have loop6 : ∀ (f : Nat) (n : Int) (s : Int), 0 ≤ n → n ≤ 8 → -8 ≤ s → s ≤ 56 → s % 8 = 0 → n + CW x ((s + 8) / 8).toNat = CW x 8 → AOK x ((56 - s) / 8).toNat = 1 → (s + 8).toNat < f → T ξ (d + 8) j_N_type 6 [(0, .ref 16), (1, JL x), (3, J n), (4, J s)] [] σ (fun v σ' => ∃ z : Int, v = some (J z) ∧ Fr WP σ σ' ∧ 0 ≤ z ∧ z ≤ 1 ∧ tpf σ' = tpf σ ∧ z = TYv x (rl σ 51) ∧ (z = 0 → rl σ' 51 = rl σ 51) ∧ (z = 1 → rl σ' 51 = rl σ 51 + CW x 8)) := by
    intro f
    induction f with
    | zero => intro n s i0 i1 i2 i3 i4 i5 i6 hm; omega
    | succ f ih =>
      intro n s i0 i1 i2 i3 i4 i5 i6 hm
      refine T.go 1 (fun n9 => (rfl : _ = exe ξ n9 (d + 8) j_N_type 8 [(0, .ref 16), (1, JL x), (3, J n), (4, J s)] [J s] σ)) ?_
      refine T.if_lt rfl rfl (by omega) (fun c3 => ?_) (fun c3 => ?_)
      · refine T.go 3 (fun n9 => (rfl : _ = exe ξ n9 (d + 8) j_N_type 60 [(0, .ref 16), (1, JL x), (3, J n), (4, J s)] [.ref 16, J 40, J n] σ)) ?_
        refine T.get rfl rfl rfl hNx2 rfl ?_
        refine T.get rfl rfl rfl hrx1 rfl ?_
        refine T.isub rfl ?_
        refine T.icmp_le rfl rfl (by omega) (by omega) (fun c4 => ?_) (fun c4 => ?_)
        · refine T.go 2 (fun n9 => (rfl : _ = exe ξ n9 (d + 8) j_N_type 76 [(0, .ref 16), (1, JL x), (3, J n), (4, J 56)] [] σ)) ?_
          exact loop76 _ n 56 σ (Fr.refl hK) rfl (by omega) (by omega) (by omega) (by rw [show (((56 : Int) + 8) / 8).toNat = 8 by decide] <;> omega) (by have c9 : CW x ((s + 8) / 8).toNat = 0 := (by rw [show ((s + 8) / 8).toNat = 0 by omega]; rfl); omega) (by have a9 := i6; rw [show ((56 - s) / 8).toNat = 8 by omega] at a9; exact a9) (Nat.lt_succ_self _)
        · refine T.go 1 (fun n9 => (rfl : _ = exe ξ n9 (d + 8) j_N_type 71 [(0, .ref 16), (1, JL x), (3, J n), (4, J s)] [J 0] σ)) ?_
          exact T.iretz rfl rfl (by omega) ⟨_, rfl, (Fr.refl hK), by omega, by omega, rfl, (by unfold TYv; have c9 : CW x ((s + 8) / 8).toNat = 0 := (by rw [show ((s + 8) / 8).toNat = 0 by omega]; rfl); rw [if_neg (by omega)]), by omega, (fun q => by omega)⟩
      · refine T.go 2 (fun n9 => (rfl : _ = exe ξ n9 (d + 8) j_N_type 14 [(0, .ref 16), (1, JL x), (3, J n), (4, J s)] [J s, JL x] σ)) ?_
        refine T.lushrq rfl (by omega) (by omega) (fun z4 hzz4 hyz4 hwz4 => ?_)
        refine T.l2i rfl ?_
        refine T.go 1 (fun n9 => (rfl : _ = exe ξ n9 (d + 8) j_N_type 19 [(0, .ref 16), (1, JL x), (3, J n), (4, J s)] [J 255, J z4] σ)) ?_
        refine T.iandw rfl ?_
        refine T.go 2 (fun n9 => (rfl : _ = exe ξ n9 (d + 8) j_N_type 24 [(0, .ref 16), (1, JL x), (3, J n), (4, J s), (5, J (z4 % 256))] [J (z4 % 256)] σ)) ?_
        refine T.if_eq rfl rfl (by omega) (fun c5 => ?_) (fun c5 => ?_)
        · refine T.go 2 (fun n9 => (rfl : _ = exe ξ n9 (d + 8) j_N_type 40 [(0, .ref 16), (1, JL x), (3, J n), (4, J s), (5, J (z4 % 256))] [J (z4 % 256), J n] σ)) ?_
          refine T.if_ne rfl rfl (by omega) (fun c6 => ?_) (fun c6 => ?_)
          · refine T.go 1 (fun n9 => (rfl : _ = exe ξ n9 (d + 8) j_N_type 48 [(0, .ref 16), (1, JL x), (3, J n), (4, J s), (5, J (z4 % 256))] [J 1, J n] σ)) ?_
            refine T.iadd rfl ?_
            refine T.go 1 (fun n9 => (rfl : _ = exe ξ n9 (d + 8) j_N_type 50 [(0, .ref 16), (1, JL x), (3, J (n + 1)), (4, J s), (5, J (z4 % 256))] [] σ)) ?_
            refine T.iinc (lv' := [(0, .ref 16), (1, JL x), (3, J (n + 1)), (4, J (s + (-8))), (5, J (z4 % 256))]) rfl rfl rfl rfl ?_
            refine T.go 1 (fun n9 => (rfl : _ = exe ξ n9 (d + 8) j_N_type 6 [(0, .ref 16), (1, JL x), (3, J (n + 1)), (4, J (s + (-8))), (5, J (z4 % 256))] [] σ)) ?_
            refine T.drop (lv := [(0, .ref 16), (1, JL x), (3, J (n + 1)), (4, J (s + (-8)))]) [(5, J (z4 % 256))] (by simp) ?_
            exact ih  (n + 1) (s + (-8)) (by omega) (by first | omega | (have e9 := CW_n (x := x) (k := s) (by omega) (by omega) (by omega); have e8 := CW_r x ((s + (-8) + 8) / 8).toNat; omega)) (by omega) (by omega) (by omega) (by first | (have e9 := CW_z (x := x) (k := s) (by omega) (by omega) (by omega); omega) | (have e9 := CW_n (x := x) (k := s) (by omega) (by omega) (by omega); have e8 := CW_r x ((s + (-8) + 8) / 8).toNat; omega)) (AOK_yes (by omega) (by omega) i6 (by omega)) (by omega)
          · refine T.go 2 (fun n9 => (rfl : _ = exe ξ n9 (d + 8) j_N_type 48 [(0, .ref 16), (1, JL x), (3, J n), (4, J s), (5, J (z4 % 256))] [J 0, J n] σ)) ?_
            refine T.iadd rfl ?_
            refine T.go 1 (fun n9 => (rfl : _ = exe ξ n9 (d + 8) j_N_type 50 [(0, .ref 16), (1, JL x), (3, J (n + 0)), (4, J s), (5, J (z4 % 256))] [] σ)) ?_
            refine T.iinc (lv' := [(0, .ref 16), (1, JL x), (3, J (n + 0)), (4, J (s + (-8))), (5, J (z4 % 256))]) rfl rfl rfl rfl ?_
            refine T.go 1 (fun n9 => (rfl : _ = exe ξ n9 (d + 8) j_N_type 6 [(0, .ref 16), (1, JL x), (3, J (n + 0)), (4, J (s + (-8))), (5, J (z4 % 256))] [] σ)) ?_
            refine T.drop (lv := [(0, .ref 16), (1, JL x), (3, J (n + 0)), (4, J (s + (-8)))]) [(5, J (z4 % 256))] (by simp) ?_
            exact ih  (n + 0) (s + (-8)) (by omega) (by first | omega | (have e9 := CW_n (x := x) (k := s) (by omega) (by omega) (by omega); have e8 := CW_r x ((s + (-8) + 8) / 8).toNat; omega)) (by omega) (by omega) (by omega) (by first | (have e9 := CW_z (x := x) (k := s) (by omega) (by omega) (by omega); omega) | (have e9 := CW_n (x := x) (k := s) (by omega) (by omega) (by omega); have e8 := CW_r x ((s + (-8) + 8) / 8).toNat; omega)) (AOK_yes (by omega) (by omega) i6 (by omega)) (by omega)
        · refine T.go 1 (fun n9 => (rfl : _ = exe ξ n9 (d + 8) j_N_type 29 [(0, .ref 16), (1, JL x), (3, J n), (4, J s), (5, J (z4 % 256))] [J (z4 % 256)] σ)) ?_
          refine T.calls (as := [J (z4 % 256)]) (r := []) rfl rfl (by decide) rfl rfl (s_N_yisLetter (d + 7) (z4 % 256) σ hK   (by omega)) (fun v2 s2 hqs2 => ?_)
          obtain ⟨z6, rfl, esz6, hzz6, hyz6, pz6_0, pz6_1⟩ := hqs2
          rw [esz6]
          refine T.if_ne rfl rfl (by omega) (fun c7 => ?_) (fun c7 => ?_)
          · refine T.go 2 (fun n9 => (rfl : _ = exe ξ n9 (d + 8) j_N_type 40 [(0, .ref 16), (1, JL x), (3, J n), (4, J s), (5, J (z4 % 256))] [J (z4 % 256), J n] σ)) ?_
            refine T.if_ne rfl rfl (by omega) (fun c8 => ?_) (fun c8 => ?_)
            · refine T.go 1 (fun n9 => (rfl : _ = exe ξ n9 (d + 8) j_N_type 48 [(0, .ref 16), (1, JL x), (3, J n), (4, J s), (5, J (z4 % 256))] [J 1, J n] σ)) ?_
              refine T.iadd rfl ?_
              refine T.go 1 (fun n9 => (rfl : _ = exe ξ n9 (d + 8) j_N_type 50 [(0, .ref 16), (1, JL x), (3, J (n + 1)), (4, J s), (5, J (z4 % 256))] [] σ)) ?_
              refine T.iinc (lv' := [(0, .ref 16), (1, JL x), (3, J (n + 1)), (4, J (s + (-8))), (5, J (z4 % 256))]) rfl rfl rfl rfl ?_
              refine T.go 1 (fun n9 => (rfl : _ = exe ξ n9 (d + 8) j_N_type 6 [(0, .ref 16), (1, JL x), (3, J (n + 1)), (4, J (s + (-8))), (5, J (z4 % 256))] [] σ)) ?_
              refine T.drop (lv := [(0, .ref 16), (1, JL x), (3, J (n + 1)), (4, J (s + (-8)))]) [(5, J (z4 % 256))] (by simp) ?_
              exact ih  (n + 1) (s + (-8)) (by omega) (by first | omega | (have e9 := CW_n (x := x) (k := s) (by omega) (by omega) (by omega); have e8 := CW_r x ((s + (-8) + 8) / 8).toNat; omega)) (by omega) (by omega) (by omega) (by first | (have e9 := CW_z (x := x) (k := s) (by omega) (by omega) (by omega); omega) | (have e9 := CW_n (x := x) (k := s) (by omega) (by omega) (by omega); have e8 := CW_r x ((s + (-8) + 8) / 8).toNat; omega)) (AOK_yes (by omega) (by omega) i6 (by omega)) (by omega)
            · refine T.go 2 (fun n9 => (rfl : _ = exe ξ n9 (d + 8) j_N_type 48 [(0, .ref 16), (1, JL x), (3, J n), (4, J s), (5, J (z4 % 256))] [J 0, J n] σ)) ?_
              refine T.iadd rfl ?_
              refine T.go 1 (fun n9 => (rfl : _ = exe ξ n9 (d + 8) j_N_type 50 [(0, .ref 16), (1, JL x), (3, J (n + 0)), (4, J s), (5, J (z4 % 256))] [] σ)) ?_
              refine T.iinc (lv' := [(0, .ref 16), (1, JL x), (3, J (n + 0)), (4, J (s + (-8))), (5, J (z4 % 256))]) rfl rfl rfl rfl ?_
              refine T.go 1 (fun n9 => (rfl : _ = exe ξ n9 (d + 8) j_N_type 6 [(0, .ref 16), (1, JL x), (3, J (n + 0)), (4, J (s + (-8))), (5, J (z4 % 256))] [] σ)) ?_
              refine T.drop (lv := [(0, .ref 16), (1, JL x), (3, J (n + 0)), (4, J (s + (-8)))]) [(5, J (z4 % 256))] (by simp) ?_
              exact ih  (n + 0) (s + (-8)) (by omega) (by first | omega | (have e9 := CW_n (x := x) (k := s) (by omega) (by omega) (by omega); have e8 := CW_r x ((s + (-8) + 8) / 8).toNat; omega)) (by omega) (by omega) (by omega) (by first | (have e9 := CW_z (x := x) (k := s) (by omega) (by omega) (by omega); omega) | (have e9 := CW_n (x := x) (k := s) (by omega) (by omega) (by omega); have e8 := CW_r x ((s + (-8) + 8) / 8).toNat; omega)) (AOK_yes (by omega) (by omega) i6 (by omega)) (by omega)
          · refine T.go 1 (fun n9 => (rfl : _ = exe ξ n9 (d + 8) j_N_type 36 [(0, .ref 16), (1, JL x), (3, J n), (4, J s), (5, J (z4 % 256))] [J 0] σ)) ?_
            exact T.iretz rfl rfl (by omega) ⟨_, rfl, (Fr.refl hK), by omega, by omega, rfl, (by unfold TYv; rw [if_neg (fun q => by have := AOK_bad (x := x) (k := s) (by omega) (by omega) (by omega); omega)]), by omega, (fun q => by omega)⟩
  refine T.go 4 (fun n9 => (rfl : _ = exe ξ n9 (d + 8) j_N_type 6 [(0, .ref 16), (1, JL x), (3, J 0), (4, J 56)] [] σ)) ?_
  exact loop6 _ 0 56 (by omega) (by first | omega | (have e9 := CW_n (x := x) (k := s) (by omega) (by omega) (by omega); have e8 := CW_r x ((s + (-8) + 8) / 8).toNat; omega)) (by omega) (by omega) (by omega) (by rw [show (((56 : Int) + 8) / 8).toNat = 8 by decide] <;> omega) (by rw [show (((56 : Int) - 56) / 8).toNat = 0 by decide]; rfl) (Nat.lt_succ_self _)

set_option maxHeartbeats 4000000 in
theorem s_M_ytype {ξ : Nat → Option (Nat × List Int32)} {c io mo fa pl ns rw en wy wh bi ed sz md bd li wk we : Int} {Lc : List Int64} {la lm ln lh ld lk lt : List Int32} (d : Nat) (x : Int) (σ : qH) (hM : MS σ c io mo fa pl ns rw en wy wh bi ed sz md bd li wk we Lc la lm ln lh ld lk lt) (rx : -9223372036854775808 ≤ x ∧ x ≤ 9223372036854775807) : T ξ (d + 10) j_M_type 0 (lv_args 0 [.ref 137, JL x]) [] σ (fun v σ' => ∃ (z : Int) (c1 : Int) (ns1 : Int) (ln1 : List Int32), v = some (J z) ∧ MS σ' c1 io mo fa pl ns1 rw en wy wh bi ed sz md bd li wk we Lc la lm ln1 lh ld lk lt ∧ FM σ σ' ∧ 0 ≤ z ∧ z ≤ 1 ∧ z = TYv x ns ∧ (z = 0 → ns1 = ns) ∧ (z = 1 → ns1 = ns + CW x 8)) := by
  have r0 := hM.rg
  have n0 := hM.len
  have cw8 := CW_r x 8
  have loop75 : ∀ (f75 : Nat) (n : Int) (k : Int) (c9 : Int) (ns9 : Int) (ln9 : List Int32) (τ : qH), MS τ c9 io mo fa pl ns9 rw en wy wh bi ed sz md bd li wk we Lc la lm ln9 lh ld lk lt → FM σ τ → -8 ≤ k → k ≤ 56 → k % 8 = 0 → ns9 + CW x ((k + 8) / 8).toNat = ns + CW x 8 → ns + CW x 8 ≤ 40 → AOK x 8 = 1 → (k + 8).toNat < f75 → T ξ (d + 10) j_M_type 75 [(0, .ref 137), (1, JL x), (3, J n), (4, J k)] [] τ (fun v σ' => ∃ (z : Int) (c1 : Int) (ns1 : Int) (ln1 : List Int32), v = some (J z) ∧ MS σ' c1 io mo fa pl ns1 rw en wy wh bi ed sz md bd li wk we Lc la lm ln1 lh ld lk lt ∧ FM σ σ' ∧ 0 ≤ z ∧ z ≤ 1 ∧ z = TYv x ns ∧ (z = 0 → ns1 = ns) ∧ (z = 1 → ns1 = ns + CW x 8)) := by
    intro f75
    induction f75 with
    | zero => intro n k c9 ns9 ln9 τ mτ fτ i0 i1 i2 i3 i4 i5 hm75; omega
    | succ f75 ih75 =>
      intro n k c9 ns9 ln9 τ mτ fτ i0 i1 i2 i3 i4 i5 hm75
      have rτ := mτ.rg
      have nτ := mτ.len
      refine T.go 1 (fun n9 => (rfl : _ = exe ξ n9 (d + 10) j_M_type 77 [(0, .ref 137), (1, JL x), (3, J n), (4, J k)] [J k] τ)) ?_
      refine T.if_lt rfl rfl (by omega) (fun c1 => ?_) (fun c1 => ?_)
      · refine T.go 1 (fun n9 => (rfl : _ = exe ξ n9 (d + 10) j_M_type 127 [(0, .ref 137), (1, JL x), (3, J n), (4, J k)] [J 1] τ)) ?_
        exact T.iretz rfl rfl (by omega) ⟨_, c9, ns9, ln9, rfl, mτ, fτ, by omega, by omega, (by unfold TYv; rw [if_pos ⟨by omega, by omega⟩]), by omega, (fun q => by have c9 : CW x ((k + 8) / 8).toNat = 0 := (by rw [show ((k + 8) / 8).toNat = 0 by omega]; rfl); omega)⟩
      · refine T.go 2 (fun n9 => (rfl : _ = exe ξ n9 (d + 10) j_M_type 83 [(0, .ref 137), (1, JL x), (3, J n), (4, J k)] [J k, JL x] τ)) ?_
        refine T.lshrp rfl (by omega) (by omega) ?_
        refine T.l2i rfl ?_
        refine T.go 1 (fun n9 => (rfl : _ = exe ξ n9 (d + 10) j_M_type 88 [(0, .ref 137), (1, JL x), (3, J n), (4, J k)] [J 255, J (x / P2 k)] τ)) ?_
        refine T.iandw rfl ?_
        refine T.go 2 (fun n9 => (rfl : _ = exe ξ n9 (d + 10) j_M_type 93 [(0, .ref 137), (1, JL x), (3, J n), (4, J k), (5, J ((x / P2 k) % 256))] [J ((x / P2 k) % 256)] τ)) ?_
        refine T.if_ne rfl rfl (by omega) (fun c2 => ?_) (fun c2 => ?_)
        · refine T.go 1 (fun n9 => (rfl : _ = exe ξ n9 (d + 10) j_M_type 100 [(0, .ref 137), (1, JL x), (3, J n), (4, J k), (5, J ((x / P2 k) % 256))] [.ref 137] τ)) ?_
          refine T.get rfl rfl rfl mτ.ob rfl ?_
          refine T.go 1 (fun n9 => (rfl : _ = exe ξ n9 (d + 10) j_M_type 104 [(0, .ref 137), (1, JL x), (3, J n), (4, J k), (5, J ((x / P2 k) % 256))] [.ref 137, .ref 141] τ)) ?_
          refine T.get rfl rfl rfl mτ.ob rfl ?_
          refine T.go 1 (fun n9 => (rfl : _ = exe ξ n9 (d + 10) j_M_type 109 [(0, .ref 137), (1, JL x), (3, J n), (4, J k), (5, J ((x / P2 k) % 256))] [J ((x / P2 k) % 256), J ns9, .ref 141] τ)) ?_
          have e8 := CW_n (x := x) (k := k) (by omega) (by omega) (by omega)
          have e7 := CW_r x ((k + (-8) + 8) / 8).toNat
          refine T.mast141 mτ rfl (by omega) (fun s1 ms1 fs1 => ?_)
          have ns1 := ms1.len
          have gs1 := fτ.trans fs1
          refine T.go 2 (fun n9 => (rfl : _ = exe ξ n9 (d + 10) j_M_type 112 [(0, .ref 137), (1, JL x), (3, J n), (4, J k), (5, J ((x / P2 k) % 256))] [.ref 137, .ref 137] s1)) ?_
          refine T.get rfl rfl rfl ms1.ob rfl ?_
          refine T.go 1 (fun n9 => (rfl : _ = exe ξ n9 (d + 10) j_M_type 116 [(0, .ref 137), (1, JL x), (3, J n), (4, J k), (5, J ((x / P2 k) % 256))] [J 1, J ns9, .ref 137] s1)) ?_
          refine T.iadd rfl ?_
          refine T.mput (c' := c9) (io' := io) (mo' := mo) (fa' := fa) (pl' := pl) (ns' := ns9 + 1) (rw' := rw) (en' := en) (wy' := wy) (wh' := wh) (bi' := bi) (ed' := ed) (sz' := sz) (md' := md) (bd' := bd) (li' := li) (wk' := wk) (we' := we) ms1 rfl rfl rfl rfl rfl rfl (by omega) (fun s2 ms2 fs2 => ?_)
          have gs2 := gs1.trans fs2
          refine T.iinc (lv' := [(0, .ref 137), (1, JL x), (3, J n), (4, J (k + (-8))), (5, J ((x / P2 k) % 256))]) rfl rfl rfl rfl ?_
          refine T.go 1 (fun n9 => (rfl : _ = exe ξ n9 (d + 10) j_M_type 75 [(0, .ref 137), (1, JL x), (3, J n), (4, J (k + (-8))), (5, J ((x / P2 k) % 256))] [] s2)) ?_
          refine T.drop (lv := [(0, .ref 137), (1, JL x), (3, J n), (4, J (k + (-8)))]) [(5, J ((x / P2 k) % 256))] (by simp) ?_
          exact ih75  n (k + (-8)) c9 (ns9 + 1) (ln9.set (ns9 : Int).toNat (Int32.ofInt ((x / P2 k) % 256))) s2 ms2 gs2 (by omega) (by omega) (by omega) (by first | (have e9 := CW_z (x := x) (k := k) (by omega) (by omega) (by omega); omega) | (have e9 := CW_n (x := x) (k := k) (by omega) (by omega) (by omega); have e8 := CW_r x ((k + (-8) + 8) / 8).toNat; omega)) (by omega) i5 (by omega)
        · refine T.go 1 (fun n9 => (rfl : _ = exe ξ n9 (d + 10) j_M_type 120 [(0, .ref 137), (1, JL x), (3, J n), (4, J k), (5, J ((x / P2 k) % 256))] [] τ)) ?_
          refine T.iinc (lv' := [(0, .ref 137), (1, JL x), (3, J n), (4, J (k + (-8))), (5, J ((x / P2 k) % 256))]) rfl rfl rfl rfl ?_
          refine T.go 1 (fun n9 => (rfl : _ = exe ξ n9 (d + 10) j_M_type 75 [(0, .ref 137), (1, JL x), (3, J n), (4, J (k + (-8))), (5, J ((x / P2 k) % 256))] [] τ)) ?_
          refine T.drop (lv := [(0, .ref 137), (1, JL x), (3, J n), (4, J (k + (-8)))]) [(5, J ((x / P2 k) % 256))] (by simp) ?_
          exact ih75  n (k + (-8)) c9 ns9 ln9 τ mτ fτ (by omega) (by omega) (by omega) (by first | (have e9 := CW_z (x := x) (k := k) (by omega) (by omega) (by omega); omega) | (have e9 := CW_n (x := x) (k := k) (by omega) (by omega) (by omega); have e8 := CW_r x ((k + (-8) + 8) / 8).toNat; omega)) (by omega) i5 (by omega)
  have loop11 : ∀ (f11 : Nat) (n : Int) (k : Int) (c9 : Int) (τ : qH), MS τ c9 io mo fa pl ns rw en wy wh bi ed sz md bd li wk we Lc la lm ln lh ld lk lt → FM σ τ → 0 ≤ n → n ≤ 8 → -8 ≤ k → k ≤ 56 → k % 8 = 0 → n + CW x ((k + 8) / 8).toNat = CW x 8 → AOK x ((56 - k) / 8).toNat = 1 → (k + 8).toNat < f11 → T ξ (d + 10) j_M_type 11 [(0, .ref 137), (1, JL x), (3, J n), (4, J k)] [] τ (fun v σ' => ∃ (z : Int) (c1 : Int) (ns1 : Int) (ln1 : List Int32), v = some (J z) ∧ MS σ' c1 io mo fa pl ns1 rw en wy wh bi ed sz md bd li wk we Lc la lm ln1 lh ld lk lt ∧ FM σ σ' ∧ 0 ≤ z ∧ z ≤ 1 ∧ z = TYv x ns ∧ (z = 0 → ns1 = ns) ∧ (z = 1 → ns1 = ns + CW x 8)) := by
    intro f11
    induction f11 with
    | zero => intro n k c9 τ mτ fτ i0 i1 i2 i3 i4 i5 i6 hm11; omega
    | succ f11 ih11 =>
      intro n k c9 τ mτ fτ i0 i1 i2 i3 i4 i5 i6 hm11
      have rτ := mτ.rg
      have nτ := mτ.len
      refine T.go 1 (fun n9 => (rfl : _ = exe ξ n9 (d + 10) j_M_type 13 [(0, .ref 137), (1, JL x), (3, J n), (4, J k)] [J k] τ)) ?_
      refine T.if_lt rfl rfl (by omega) (fun c3 => ?_) (fun c3 => ?_)
      · refine T.go 1 (fun n9 => (rfl : _ = exe ξ n9 (d + 10) j_M_type 59 [(0, .ref 137), (1, JL x), (3, J n), (4, J k)] [.ref 137] τ)) ?_
        refine T.get rfl rfl rfl mτ.ob rfl ?_
        refine T.go 1 (fun n9 => (rfl : _ = exe ξ n9 (d + 10) j_M_type 63 [(0, .ref 137), (1, JL x), (3, J n), (4, J k)] [J n, J ns] τ)) ?_
        refine T.iadd rfl ?_
        refine T.go 1 (fun n9 => (rfl : _ = exe ξ n9 (d + 10) j_M_type 66 [(0, .ref 137), (1, JL x), (3, J n), (4, J k)] [J 40, J (ns + n)] τ)) ?_
        refine T.icmp_le rfl rfl (by omega) (by omega) (fun c4 => ?_) (fun c4 => ?_)
        · refine T.go 2 (fun n9 => (rfl : _ = exe ξ n9 (d + 10) j_M_type 75 [(0, .ref 137), (1, JL x), (3, J n), (4, J 56)] [] τ)) ?_
          exact loop75 _ n 56 c9 ns ln τ mτ fτ (by omega) (by omega) (by omega) (by rw [show (((56 : Int) + 8) / 8).toNat = 8 by decide] <;> omega) (by have c9 : CW x ((k + 8) / 8).toNat = 0 := (by rw [show ((k + 8) / 8).toNat = 0 by omega]; rfl); omega) (by have a9 := i6; rw [show ((56 - k) / 8).toNat = 8 by omega] at a9; exact a9) (Nat.lt_succ_self _)
        · refine T.go 1 (fun n9 => (rfl : _ = exe ξ n9 (d + 10) j_M_type 70 [(0, .ref 137), (1, JL x), (3, J n), (4, J k)] [J 0] τ)) ?_
          exact T.iretz rfl rfl (by omega) ⟨_, c9, ns, ln, rfl, mτ, fτ, by omega, by omega, (by unfold TYv; have c9 : CW x ((k + 8) / 8).toNat = 0 := (by rw [show ((k + 8) / 8).toNat = 0 by omega]; rfl); rw [if_neg (by omega)]), by omega, (fun q => by omega)⟩
      · refine T.go 2 (fun n9 => (rfl : _ = exe ξ n9 (d + 10) j_M_type 19 [(0, .ref 137), (1, JL x), (3, J n), (4, J k)] [J k, JL x] τ)) ?_
        refine T.lshrp rfl (by omega) (by omega) ?_
        refine T.l2i rfl ?_
        refine T.go 1 (fun n9 => (rfl : _ = exe ξ n9 (d + 10) j_M_type 24 [(0, .ref 137), (1, JL x), (3, J n), (4, J k)] [J 255, J (x / P2 k)] τ)) ?_
        refine T.iandw rfl ?_
        refine T.go 2 (fun n9 => (rfl : _ = exe ξ n9 (d + 10) j_M_type 29 [(0, .ref 137), (1, JL x), (3, J n), (4, J k), (5, J ((x / P2 k) % 256))] [J ((x / P2 k) % 256)] τ)) ?_
        refine T.if_ne rfl rfl (by omega) (fun c5 => ?_) (fun c5 => ?_)
        · refine T.go 3 (fun n9 => (rfl : _ = exe ξ n9 (d + 10) j_M_type 41 [(0, .ref 137), (1, JL x), (3, J n), (4, J k), (5, J ((x / P2 k) % 256))] [J 126, J 33, J ((x / P2 k) % 256)] τ)) ?_
          refine T.calls (as := [J ((x / P2 k) % 256), J 33, J 126]) (r := []) rfl rfl (by decide) rfl rfl (s_M_in (d + 9) ((x / P2 k) % 256) 33 126 τ (by omega) (by omega) (by omega)) (fun v1 s3 hqs3 => ?_)
          obtain ⟨z5, rfl, esz5, hzz5, hyz5, pz5_0, pz5_1⟩ := hqs3
          rw [esz5]
          refine T.if_ne rfl rfl (by omega) (fun c6 => ?_) (fun c6 => ?_)
          · refine T.iinc (lv' := [(0, .ref 137), (1, JL x), (3, J (n + 1)), (4, J k), (5, J ((x / P2 k) % 256))]) rfl rfl rfl rfl ?_
            refine T.iinc (lv' := [(0, .ref 137), (1, JL x), (3, J (n + 1)), (4, J (k + (-8))), (5, J ((x / P2 k) % 256))]) rfl rfl rfl rfl ?_
            refine T.go 1 (fun n9 => (rfl : _ = exe ξ n9 (d + 10) j_M_type 11 [(0, .ref 137), (1, JL x), (3, J (n + 1)), (4, J (k + (-8))), (5, J ((x / P2 k) % 256))] [] τ)) ?_
            refine T.drop (lv := [(0, .ref 137), (1, JL x), (3, J (n + 1)), (4, J (k + (-8)))]) [(5, J ((x / P2 k) % 256))] (by simp) ?_
            exact ih11  (n + 1) (k + (-8)) c9 τ mτ fτ (by omega) (by first | omega | (have e9 := CW_n (x := x) (k := k) (by omega) (by omega) (by omega); have e8 := CW_r x ((k + (-8) + 8) / 8).toNat; omega)) (by omega) (by omega) (by omega) (by first | (have e9 := CW_z (x := x) (k := k) (by omega) (by omega) (by omega); omega) | (have e9 := CW_n (x := x) (k := k) (by omega) (by omega) (by omega); have e8 := CW_r x ((k + (-8) + 8) / 8).toNat; omega)) (AOK_yes (by omega) (by omega) i6 (by omega)) (by omega)
          · refine T.go 1 (fun n9 => (rfl : _ = exe ξ n9 (d + 10) j_M_type 48 [(0, .ref 137), (1, JL x), (3, J n), (4, J k), (5, J ((x / P2 k) % 256))] [J 0] τ)) ?_
            exact T.iretz rfl rfl (by omega) ⟨_, c9, ns, ln, rfl, mτ, fτ, by omega, by omega, (by unfold TYv; rw [if_neg (fun q => by have := AOK_bad (x := x) (k := k) (by omega) (by omega) (by omega); omega)]), by omega, (fun q => by omega)⟩
        · refine T.go 1 (fun n9 => (rfl : _ = exe ξ n9 (d + 10) j_M_type 52 [(0, .ref 137), (1, JL x), (3, J n), (4, J k), (5, J ((x / P2 k) % 256))] [] τ)) ?_
          refine T.iinc (lv' := [(0, .ref 137), (1, JL x), (3, J n), (4, J (k + (-8))), (5, J ((x / P2 k) % 256))]) rfl rfl rfl rfl ?_
          refine T.go 1 (fun n9 => (rfl : _ = exe ξ n9 (d + 10) j_M_type 11 [(0, .ref 137), (1, JL x), (3, J n), (4, J (k + (-8))), (5, J ((x / P2 k) % 256))] [] τ)) ?_
          refine T.drop (lv := [(0, .ref 137), (1, JL x), (3, J n), (4, J (k + (-8)))]) [(5, J ((x / P2 k) % 256))] (by simp) ?_
          exact ih11  n (k + (-8)) c9 τ mτ fτ (by omega) (by first | omega | (have e9 := CW_n (x := x) (k := k) (by omega) (by omega) (by omega); have e8 := CW_r x ((k + (-8) + 8) / 8).toNat; omega)) (by omega) (by omega) (by omega) (by first | (have e9 := CW_z (x := x) (k := k) (by omega) (by omega) (by omega); omega) | (have e9 := CW_n (x := x) (k := k) (by omega) (by omega) (by omega); have e8 := CW_r x ((k + (-8) + 8) / 8).toNat; omega)) (AOK_yes (by omega) (by omega) i6 (by omega)) (by omega)
  refine T.go 2 (fun n9 => (rfl : _ = exe ξ n9 (d + 10) j_M_type 2 [(0, .ref 137), (1, JL x)] [J 0, .ref 137] σ)) ?_
  refine T.mput (c' := 0) (io' := io) (mo' := mo) (fa' := fa) (pl' := pl) (ns' := ns) (rw' := rw) (en' := en) (wy' := wy) (wh' := wh) (bi' := bi) (ed' := ed) (sz' := sz) (md' := md) (bd' := bd) (li' := li) (wk' := wk) (we' := we) hM rfl rfl rfl rfl rfl rfl (by omega) (fun s4 ms4 fs4 => ?_)
  refine T.go 4 (fun n9 => (rfl : _ = exe ξ n9 (d + 10) j_M_type 11 [(0, .ref 137), (1, JL x), (3, J 0), (4, J 56)] [] s4)) ?_
  exact loop11 _ 0 56 0 s4 ms4 fs4 (by omega) (by first | omega | (have e9 := CW_n (x := x) (k := k) (by omega) (by omega) (by omega); have e8 := CW_r x ((k + (-8) + 8) / 8).toNat; omega)) (by omega) (by omega) (by omega) (by rw [show (((56 : Int) + 8) / 8).toNat = 8 by decide] <;> omega) (by rw [show (((56 : Int) - 56) / 8).toNat = 0 by decide]; rfl) (Nat.lt_succ_self _)
