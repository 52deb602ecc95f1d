/-! The tape, byte by byte; open. -/
set_option maxRecDepth 10000 in
set_option maxHeartbeats 4000000 in
theorem s_N_ffeedInt {ξ : Nat → Option (Nat × List Int32)} (d : Nat) (x : Int) (σ : qH) (hK : K σ)  (rx : -2147483648 ≤ x ∧ x ≤ 2147483647) (pre0 : tl σ ≤ 7996) : T ξ (d + 1) j_N_feedInt 0 (lv_args 0 [.ref 16, J x]) [] σ (fun v σ' => v = none ∧ Fr WT σ σ' ∧ tl σ' = tl σ + 4 ∧ (∀ g : Int → Int, AGT σ g → AGT σ' (up4 g (tl σ) x))) := by
  obtain ⟨kex1, scx1, tpx1, oux1, mox1, sgx1, hox1, mcx1, lfx1, lpx1, hNx1, fx1ke, fx1sc, fx1tp, fx1ou, fx1mo, fx1sg, fx1d, fx1e, fx1f, fx1g, fx1h, fx1i, fx1j⟩ := hK.na
  obtain ⟨ex2, erx2, dix2, bax2, fpx2, hax2, fx2a, fx2b, fx2c, fx2d, fx2e, fx2f, fx2g, fx2h, fx2i, fx2j⟩ := hK.arc (na_tp fx1tp)
  have af3x2 := af_of (i := 3) hax2 rfl (by omega)
  subst af3x2
  have af4x2 := af_of (i := 4) hax2 rfl (by omega)
  subst af4x2
  have af5x2 := af_of (i := 5) hax2 rfl (by omega)
  subst af5x2
  have af6x2 := af_of (i := 6) hax2 rfl (by omega)
  subst af6x2
  have af7x2 := af_of (i := 7) hax2 rfl (by omega)
  subst af7x2
  obtain ⟨mx3, nx3, bx3, lx3, hrx3, hbx3, fx3a, fx3b, fx3c, fx3d, fx3e, fx3g, fx3h, fx3i⟩ := hK.row (kdX_ar _ (na_tp fx1tp)).2.2.1
  have ctx3 := CT_of hrx3 hbx3
  have rwx3 := rl_of hrx3 (by omega)
  subst rwx3
  have hm := mst_tp fx1tp
  have t0 := tl_at hNx1 rfl
  have t1 := rl_of hrx3 (by omega)
  have tpE := tpf_of hNx1 rfl
  refine T.go 5 (fun n9 => (rfl : _ = exe ξ n9 (d + 1) j_N_feedInt 8 [(0, .ref 16), (1, J x), (2, J 24)] [.ref 16] σ)) ?_
  refine T.get rfl rfl rfl hNx1 rfl ?_
  refine T.get rfl rfl rfl hax2 rfl ?_
  refine T.go 2 (fun n9 => (rfl : _ = exe ξ n9 (d + 1) j_N_feedInt 16 [(0, .ref 16), (1, J x), (2, J 24)] [J 24, J x, .ref (tpx1 + 1)] σ)) ?_
  refine T.iushrq (p := 16777216) 24 rfl (by omega) rfl rfl (by decide) (fun z1 hzz1 hyz1 hwz1 => ?_)
  refine T.go 1 (fun n9 => (rfl : _ = exe ξ n9 (d + 1) j_N_feedInt 20 [(0, .ref 16), (1, J x), (2, J 24)] [J 255, J z1, .ref (tpx1 + 1)] σ)) ?_
  refine T.iandm (p := 256) 8 rfl (by decide) (by decide) (by decide) (by omega) ?_
  refine T.callv (as := [J (z1 % 256)]) (r := []) rfl rfl rfl (RwL_lt _ (kdX_ar _ (na_tp fx1tp)).2.2.1).2.2.1 hrx3 rfl (s_R_fadd d (tpx1 + 1) (z1 % 256) σ hK (kdX_ar _ (na_tp fx1tp)).2.2.1  (by omega)) (fun v1 s1 hqs1 => ?_)
  obtain ⟨z3, rfl, hs1, hzz3, hyz3, pz3_0, pz3_1, pz3_2⟩ := hqs1
  have es1 := hs1
  have hs1 := hs1.sub (w' := WT) (List.forall_mem_cons.mpr ⟨((by decide : ∀ q ∈ [63, 68], q + 1 ∈ WT) _ (mem2 fx1tp)), (fun _ h => by cases h)⟩)
  have k1 := es1.b.1 _ _ (nm_c ((by decide : ∀ v ∈ [63, 68], (16 : Nat) ≠ v + 1) _ (mem2 fx1tp)) nm_0) (fun l z => by cases z) hNx1
  have k2 := es1.b.1 _ _ (nm_c (by omega) nm_0) (fun l z => by cases z) hax2
  refine T.go 1 (fun n9 => (rfl : _ = exe ξ n9 (d + 1) j_N_feedInt 25 [(0, .ref 16), (1, J x), (2, J 24)] [] s1)) ?_
  refine T.iinc (lv' := [(0, .ref 16), (1, J x), (2, J 16)]) rfl rfl rfl rfl ?_
  refine T.go 4 (fun n9 => (rfl : _ = exe ξ n9 (d + 1) j_N_feedInt 8 [(0, .ref 16), (1, J x), (2, J 16)] [.ref 16] s1)) ?_
  refine T.get rfl rfl rfl k1 rfl ?_
  refine T.get rfl rfl rfl k2 rfl ?_
  refine T.go 2 (fun n9 => (rfl : _ = exe ξ n9 (d + 1) j_N_feedInt 16 [(0, .ref 16), (1, J x), (2, J 16)] [J 16, J x, .ref (tpx1 + 1)] s1)) ?_
  refine T.iushrq (p := 65536) 16 rfl (by omega) rfl rfl (by decide) (fun z4 hzz4 hyz4 hwz4 => ?_)
  refine T.go 1 (fun n9 => (rfl : _ = exe ξ n9 (d + 1) j_N_feedInt 20 [(0, .ref 16), (1, J x), (2, J 16)] [J 255, J z4, .ref (tpx1 + 1)] s1)) ?_
  refine T.iandm (p := 256) 8 rfl (by decide) (by decide) (by decide) (by omega) ?_
  obtain ⟨mx4, nx4, bx4, lx4, hrx4, hbx4, fx4a, fx4b, fx4c, fx4d, fx4e, fx4g, fx4h, fx4i⟩ := hs1.1.row (kdX_ar _ (na_tp fx1tp)).2.2.1
  have ctx4 := CT_of hrx4 hbx4
  have rwx4 := rl_of hrx4 (by omega)
  subst rwx4
  refine T.callv (as := [J (z4 % 256)]) (r := []) rfl rfl rfl (RwL_lt _ (kdX_ar _ (na_tp fx1tp)).2.2.1).2.2.1 hrx4 rfl (s_R_fadd d (tpx1 + 1) (z4 % 256) s1 hs1.1 (kdX_ar _ (na_tp fx1tp)).2.2.1  (by omega)) (fun v2 s2 hqs2 => ?_)
  obtain ⟨z6, rfl, hs2, hzz6, hyz6, pz6_0, pz6_1, pz6_2⟩ := hqs2
  have es2 := hs2
  have hs2 := hs2.sub (w' := WT) (List.forall_mem_cons.mpr ⟨((by decide : ∀ q ∈ [63, 68], q + 1 ∈ WT) _ (mem2 fx1tp)), (fun _ h => by cases h)⟩)
  have k3 := es2.b.1 _ _ (nm_c ((by decide : ∀ v ∈ [63, 68], (16 : Nat) ≠ v + 1) _ (mem2 fx1tp)) nm_0) (fun l z => by cases z) k1
  have k4 := es2.b.1 _ _ (nm_c (by omega) nm_0) (fun l z => by cases z) k2
  have gs2 := hs1.trans hs2
  refine T.go 1 (fun n9 => (rfl : _ = exe ξ n9 (d + 1) j_N_feedInt 25 [(0, .ref 16), (1, J x), (2, J 16)] [] s2)) ?_
  refine T.iinc (lv' := [(0, .ref 16), (1, J x), (2, J 8)]) rfl rfl rfl rfl ?_
  refine T.go 4 (fun n9 => (rfl : _ = exe ξ n9 (d + 1) j_N_feedInt 8 [(0, .ref 16), (1, J x), (2, J 8)] [.ref 16] s2)) ?_
  refine T.get rfl rfl rfl k3 rfl ?_
  refine T.get rfl rfl rfl k4 rfl ?_
  refine T.go 2 (fun n9 => (rfl : _ = exe ξ n9 (d + 1) j_N_feedInt 16 [(0, .ref 16), (1, J x), (2, J 8)] [J 8, J x, .ref (tpx1 + 1)] s2)) ?_
  refine T.iushrq (p := 256) 8 rfl (by omega) rfl rfl (by decide) (fun z7 hzz7 hyz7 hwz7 => ?_)
  refine T.go 1 (fun n9 => (rfl : _ = exe ξ n9 (d + 1) j_N_feedInt 20 [(0, .ref 16), (1, J x), (2, J 8)] [J 255, J z7, .ref (tpx1 + 1)] s2)) ?_
  refine T.iandm (p := 256) 8 rfl (by decide) (by decide) (by decide) (by omega) ?_
  obtain ⟨mx5, nx5, bx5, lx5, hrx5, hbx5, fx5a, fx5b, fx5c, fx5d, fx5e, fx5g, fx5h, fx5i⟩ := hs2.1.row (kdX_ar _ (na_tp fx1tp)).2.2.1
  have ctx5 := CT_of hrx5 hbx5
  have rwx5 := rl_of hrx5 (by omega)
  subst rwx5
  refine T.callv (as := [J (z7 % 256)]) (r := []) rfl rfl rfl (RwL_lt _ (kdX_ar _ (na_tp fx1tp)).2.2.1).2.2.1 hrx5 rfl (s_R_fadd d (tpx1 + 1) (z7 % 256) s2 hs2.1 (kdX_ar _ (na_tp fx1tp)).2.2.1  (by omega)) (fun v3 s3 hqs3 => ?_)
  obtain ⟨z9, rfl, hs3, hzz9, hyz9, pz9_0, pz9_1, pz9_2⟩ := hqs3
  have es3 := hs3
  have hs3 := hs3.sub (w' := WT) (List.forall_mem_cons.mpr ⟨((by decide : ∀ q ∈ [63, 68], q + 1 ∈ WT) _ (mem2 fx1tp)), (fun _ h => by cases h)⟩)
  have k5 := es3.b.1 _ _ (nm_c ((by decide : ∀ v ∈ [63, 68], (16 : Nat) ≠ v + 1) _ (mem2 fx1tp)) nm_0) (fun l z => by cases z) k3
  have k6 := es3.b.1 _ _ (nm_c (by omega) nm_0) (fun l z => by cases z) k4
  have gs3 := gs2.trans hs3
  refine T.go 1 (fun n9 => (rfl : _ = exe ξ n9 (d + 1) j_N_feedInt 25 [(0, .ref 16), (1, J x), (2, J 8)] [] s3)) ?_
  refine T.iinc (lv' := [(0, .ref 16), (1, J x), (2, J 0)]) rfl rfl rfl rfl ?_
  refine T.go 4 (fun n9 => (rfl : _ = exe ξ n9 (d + 1) j_N_feedInt 8 [(0, .ref 16), (1, J x), (2, J 0)] [.ref 16] s3)) ?_
  refine T.get rfl rfl rfl k5 rfl ?_
  refine T.get rfl rfl rfl k6 rfl ?_
  refine T.go 2 (fun n9 => (rfl : _ = exe ξ n9 (d + 1) j_N_feedInt 16 [(0, .ref 16), (1, J x), (2, J 0)] [J 0, J x, .ref (tpx1 + 1)] s3)) ?_
  refine T.iushrq (p := 1) 0 rfl (by omega) rfl rfl (by decide) (fun z10 hzz10 hyz10 hwz10 => ?_)
  refine T.go 1 (fun n9 => (rfl : _ = exe ξ n9 (d + 1) j_N_feedInt 20 [(0, .ref 16), (1, J x), (2, J 0)] [J 255, J z10, .ref (tpx1 + 1)] s3)) ?_
  refine T.iandm (p := 256) 8 rfl (by decide) (by decide) (by decide) (by omega) ?_
  obtain ⟨mx6, nx6, bx6, lx6, hrx6, hbx6, fx6a, fx6b, fx6c, fx6d, fx6e, fx6g, fx6h, fx6i⟩ := hs3.1.row (kdX_ar _ (na_tp fx1tp)).2.2.1
  have ctx6 := CT_of hrx6 hbx6
  have rwx6 := rl_of hrx6 (by omega)
  subst rwx6
  refine T.callv (as := [J (z10 % 256)]) (r := []) rfl rfl rfl (RwL_lt _ (kdX_ar _ (na_tp fx1tp)).2.2.1).2.2.1 hrx6 rfl (s_R_fadd d (tpx1 + 1) (z10 % 256) s3 hs3.1 (kdX_ar _ (na_tp fx1tp)).2.2.1  (by omega)) (fun v4 s4 hqs4 => ?_)
  obtain ⟨z12, rfl, hs4, hzz12, hyz12, pz12_0, pz12_1, pz12_2⟩ := hqs4
  have es4 := hs4
  have hs4 := hs4.sub (w' := WT) (List.forall_mem_cons.mpr ⟨((by decide : ∀ q ∈ [63, 68], q + 1 ∈ WT) _ (mem2 fx1tp)), (fun _ h => by cases h)⟩)
  have k7 := es4.b.1 _ _ (nm_c ((by decide : ∀ v ∈ [63, 68], (16 : Nat) ≠ v + 1) _ (mem2 fx1tp)) nm_0) (fun l z => by cases z) k5
  have k8 := es4.b.1 _ _ (nm_c (by omega) nm_0) (fun l z => by cases z) k6
  have gs4 := gs3.trans hs4
  refine T.go 1 (fun n9 => (rfl : _ = exe ξ n9 (d + 1) j_N_feedInt 25 [(0, .ref 16), (1, J x), (2, J 0)] [] s4)) ?_
  refine T.iinc (lv' := [(0, .ref 16), (1, J x), (2, J (-8))]) rfl rfl rfl rfl ?_
  refine T.go 3 (fun n9 => (rfl : _ = exe ξ n9 (d + 1) j_N_feedInt 31 [(0, .ref 16), (1, J x), (2, J (-8))] [] s4)) ?_
  have t9 := tl_at k7 rfl
  have t9 := tl_at k7 rfl
  exact T.vret rfl rfl ⟨rfl, gs4, by omega, (fun g hg => by have ag := hg.at tpE; have r9 := (pz12_2 _ (pz9_2 _ (pz6_2 _ (pz3_2 _ ag (by omega)) (by omega)) (by omega)) (by omega)); refine ⟨tpx1, tpf_of k7 rfl, ?_⟩; unfold up4; rw [show rl σ (tpx1 + 1) = tl σ by omega, show (z1 % 256) % 256 = x / 16777216 % 256 by omega, show rl s1 (tpx1 + 1) = tl σ + 1 by omega, show (z4 % 256) % 256 = x / 65536 % 256 by omega, show rl s2 (tpx1 + 1) = tl σ + 2 by omega, show (z7 % 256) % 256 = x / 256 % 256 by omega, show rl s3 (tpx1 + 1) = tl σ + 3 by omega, show (z10 % 256) % 256 = x % 256 by omega] at r9; exact r9)⟩

set_option maxRecDepth 10000 in
set_option maxHeartbeats 4000000 in
theorem s_N_ffeed {ξ : Nat → Option (Nat × List Int32)} (d : Nat) (x : Int) (y : Int) (u : Int) (v9 : Int) (w9 : Int) (σ : qH) (hK : K σ)  (rx : -2147483648 ≤ x ∧ x ≤ 2147483647) (ry : -2147483648 ≤ y ∧ y ≤ 2147483647) (ru : -2147483648 ≤ u ∧ u ≤ 2147483647) (rv9 : -2147483648 ≤ v9 ∧ v9 ≤ 2147483647) (rw9 : -2147483648 ≤ w9 ∧ w9 ≤ 2147483647) : T ξ (d + 8) j_N_feed 0 (lv_args 0 [.ref 16, J x, J y, J u, J v9, J w9]) [] σ (fun v σ' => ∃ z : Int, v = some (J z) ∧ Fr WT σ σ' ∧ 0 ≤ z ∧ z ≤ 1 ∧ (tl σ ≤ 7980 → z = 1 ∧ tl σ' = tl σ + 20) ∧ (7980 < tl σ → z = 0 ∧ tl σ' = tl σ) ∧ (∀ g : Int → Int, AGT σ g → tl σ ≤ 7980 → AGT σ' (up20 g (tl σ) x y u v9 w9)) ∧ (∀ g : Int → Int, AGT σ g → 7980 < tl σ → AGT σ' g)) := by
  obtain ⟨kex1, scx1, tpx1, oux1, mox1, sgx1, hox1, mcx1, lfx1, lpx1, hNx1, fx1ke, fx1sc, fx1tp, fx1ou, fx1mo, fx1sg, fx1d, fx1e, fx1f, fx1g, fx1h, fx1i, fx1j⟩ := hK.na
  obtain ⟨ex2, erx2, dix2, bax2, fpx2, hax2, fx2a, fx2b, fx2c, fx2d, fx2e, fx2f, fx2g, fx2h, fx2i, fx2j⟩ := hK.arc (na_tp fx1tp)
  have af3x2 := af_of (i := 3) hax2 rfl (by omega)
  subst af3x2
  have af4x2 := af_of (i := 4) hax2 rfl (by omega)
  subst af4x2
  have af5x2 := af_of (i := 5) hax2 rfl (by omega)
  subst af5x2
  have af6x2 := af_of (i := 6) hax2 rfl (by omega)
  subst af6x2
  have af7x2 := af_of (i := 7) hax2 rfl (by omega)
  subst af7x2
  obtain ⟨mx3, nx3, bx3, lx3, hrx3, hbx3, fx3a, fx3b, fx3c, fx3d, fx3e, fx3g, fx3h, fx3i⟩ := hK.row (kdX_ar _ (na_tp fx1tp)).2.2.1
  have ctx3 := CT_of hrx3 hbx3
  have rwx3 := rl_of hrx3 (by omega)
  subst rwx3
  have hm := mst_tp fx1tp
  have t0 := tl_at hNx1 rfl
  have t1 := rl_of hrx3 (by omega)
  have tpE := tpf_of hNx1 rfl
  refine T.go 1 (fun n9 => (rfl : _ = exe ξ n9 (d + 8) j_N_feed 1 [(0, .ref 16), (1, J x), (2, J y), (3, J u), (4, J v9), (5, J w9)] [.ref 16] σ)) ?_
  refine T.get rfl rfl rfl hNx1 rfl ?_
  refine T.get rfl rfl rfl hax2 rfl ?_
  refine T.get rfl rfl rfl hrx3 rfl ?_
  refine T.go 1 (fun n9 => (rfl : _ = exe ξ n9 (d + 8) j_N_feed 13 [(0, .ref 16), (1, J x), (2, J y), (3, J u), (4, J v9), (5, J w9)] [J 7980, J (rl σ (tpx1 + 1))] σ)) ?_
  refine T.icmp_le rfl rfl (by omega) (by omega) (fun c1 => ?_) (fun c1 => ?_)
  · refine T.go 2 (fun n9 => (rfl : _ = exe ξ n9 (d + 8) j_N_feed 20 [(0, .ref 16), (1, J x), (2, J y), (3, J u), (4, J v9), (5, J w9)] [J x, .ref 16] σ)) ?_
    refine T.callv (as := [J x]) (r := []) rfl rfl rfl rfl hNx1 rfl (s_N_ffeedInt (d + 6) x σ hK   (by omega) (by omega)) (fun v1 s1 hqs1 => ?_)
    obtain ⟨rfl, hs1, pz1_0, pz1_1⟩ := hqs1
    have es1 := hs1
    refine T.go 2 (fun n9 => (rfl : _ = exe ξ n9 (d + 8) j_N_feed 25 [(0, .ref 16), (1, J x), (2, J y), (3, J u), (4, J v9), (5, J w9)] [J y, .ref 16] s1)) ?_
    obtain ⟨kex4, scx4, tpx4, oux4, mox4, sgx4, hox4, mcx4, lfx4, lpx4, hNx4, fx4ke, fx4sc, fx4tp, fx4ou, fx4mo, fx4sg, fx4d, fx4e, fx4f, fx4g, fx4h, fx4i, fx4j⟩ := hs1.1.na
    refine T.callv (as := [J y]) (r := []) rfl rfl rfl rfl hNx4 rfl (s_N_ffeedInt (d + 6) y s1 hs1.1   (by omega) (by omega)) (fun v2 s2 hqs2 => ?_)
    obtain ⟨rfl, hs2, pz2_0, pz2_1⟩ := hqs2
    have es2 := hs2
    have gs2 := hs1.trans hs2
    refine T.go 2 (fun n9 => (rfl : _ = exe ξ n9 (d + 8) j_N_feed 30 [(0, .ref 16), (1, J x), (2, J y), (3, J u), (4, J v9), (5, J w9)] [J u, .ref 16] s2)) ?_
    obtain ⟨kex5, scx5, tpx5, oux5, mox5, sgx5, hox5, mcx5, lfx5, lpx5, hNx5, fx5ke, fx5sc, fx5tp, fx5ou, fx5mo, fx5sg, fx5d, fx5e, fx5f, fx5g, fx5h, fx5i, fx5j⟩ := hs2.1.na
    refine T.callv (as := [J u]) (r := []) rfl rfl rfl rfl hNx5 rfl (s_N_ffeedInt (d + 6) u s2 hs2.1   (by omega) (by omega)) (fun v3 s3 hqs3 => ?_)
    obtain ⟨rfl, hs3, pz3_0, pz3_1⟩ := hqs3
    have es3 := hs3
    have gs3 := gs2.trans hs3
    refine T.go 2 (fun n9 => (rfl : _ = exe ξ n9 (d + 8) j_N_feed 36 [(0, .ref 16), (1, J x), (2, J y), (3, J u), (4, J v9), (5, J w9)] [J v9, .ref 16] s3)) ?_
    obtain ⟨kex6, scx6, tpx6, oux6, mox6, sgx6, hox6, mcx6, lfx6, lpx6, hNx6, fx6ke, fx6sc, fx6tp, fx6ou, fx6mo, fx6sg, fx6d, fx6e, fx6f, fx6g, fx6h, fx6i, fx6j⟩ := hs3.1.na
    refine T.callv (as := [J v9]) (r := []) rfl rfl rfl rfl hNx6 rfl (s_N_ffeedInt (d + 6) v9 s3 hs3.1   (by omega) (by omega)) (fun v4 s4 hqs4 => ?_)
    obtain ⟨rfl, hs4, pz4_0, pz4_1⟩ := hqs4
    have es4 := hs4
    have gs4 := gs3.trans hs4
    refine T.go 2 (fun n9 => (rfl : _ = exe ξ n9 (d + 8) j_N_feed 42 [(0, .ref 16), (1, J x), (2, J y), (3, J u), (4, J v9), (5, J w9)] [J w9, .ref 16] s4)) ?_
    obtain ⟨kex7, scx7, tpx7, oux7, mox7, sgx7, hox7, mcx7, lfx7, lpx7, hNx7, fx7ke, fx7sc, fx7tp, fx7ou, fx7mo, fx7sg, fx7d, fx7e, fx7f, fx7g, fx7h, fx7i, fx7j⟩ := hs4.1.na
    refine T.callv (as := [J w9]) (r := []) rfl rfl rfl rfl hNx7 rfl (s_N_ffeedInt (d + 6) w9 s4 hs4.1   (by omega) (by omega)) (fun v5 s5 hqs5 => ?_)
    obtain ⟨rfl, hs5, pz5_0, pz5_1⟩ := hqs5
    have es5 := hs5
    have gs5 := gs4.trans hs5
    refine T.go 1 (fun n9 => (rfl : _ = exe ξ n9 (d + 8) j_N_feed 46 [(0, .ref 16), (1, J x), (2, J y), (3, J u), (4, J v9), (5, J w9)] [J 1] s5)) ?_
    exact T.iretz rfl rfl (by omega) ⟨_, rfl, gs5, by omega, by omega, by omega, by omega, (fun g hg h => by have r9 := (pz5_1 _ (pz4_1 _ (pz3_1 _ (pz2_1 _ (pz1_1 _ hg))))); unfold up20; rw [show tl s1 = tl σ + 4 by omega, show tl s2 = tl σ + 8 by omega, show tl s3 = tl σ + 12 by omega, show tl s4 = tl σ + 16 by omega] at r9; exact r9), (fun g hg h => absurd h (by omega))⟩
  · refine T.go 1 (fun n9 => (rfl : _ = exe ξ n9 (d + 8) j_N_feed 17 [(0, .ref 16), (1, J x), (2, J y), (3, J u), (4, J v9), (5, J w9)] [J 0] σ)) ?_
    exact T.iretz rfl rfl (by omega) ⟨_, rfl, (Fr.refl hK), by omega, by omega, by omega, by omega, (fun g hg h => absurd h (by omega)), (fun g hg h => hg)⟩

set_option maxRecDepth 10000 in
set_option maxHeartbeats 4000000 in
theorem s_N_fend {ξ : Nat → Option (Nat × List Int32)} (d : Nat) (x : Int) (σ : qH) (hK : K σ)  (rx : -2147483648 ≤ x ∧ x ≤ 2147483647) : T ξ (d + 8) j_N_end 0 (lv_args 0 [.ref 16, J x]) [] σ (fun v σ' => ∃ z : Int, v = some (J z) ∧ Fr WT σ σ' ∧ 0 ≤ z ∧ z ≤ 1 ∧ (0 ≤ x ∧ x ≤ tl σ → z = 1 ∧ tl σ' = x) ∧ (¬ (0 ≤ x ∧ x ≤ tl σ) → z = 0 ∧ tl σ' = tl σ) ∧ (∀ g : Int → Int, AGT σ g → AGT σ' g)) := by
  obtain ⟨kex1, scx1, tpx1, oux1, mox1, sgx1, hox1, mcx1, lfx1, lpx1, hNx1, fx1ke, fx1sc, fx1tp, fx1ou, fx1mo, fx1sg, fx1d, fx1e, fx1f, fx1g, fx1h, fx1i, fx1j⟩ := hK.na
  obtain ⟨ex2, erx2, dix2, bax2, fpx2, hax2, fx2a, fx2b, fx2c, fx2d, fx2e, fx2f, fx2g, fx2h, fx2i, fx2j⟩ := hK.arc (na_tp fx1tp)
  have af3x2 := af_of (i := 3) hax2 rfl (by omega)
  subst af3x2
  have af4x2 := af_of (i := 4) hax2 rfl (by omega)
  subst af4x2
  have af5x2 := af_of (i := 5) hax2 rfl (by omega)
  subst af5x2
  have af6x2 := af_of (i := 6) hax2 rfl (by omega)
  subst af6x2
  have af7x2 := af_of (i := 7) hax2 rfl (by omega)
  subst af7x2
  obtain ⟨mx3, nx3, bx3, lx3, hrx3, hbx3, fx3a, fx3b, fx3c, fx3d, fx3e, fx3g, fx3h, fx3i⟩ := hK.row (kdX_ar _ (na_tp fx1tp)).2.2.1
  have ctx3 := CT_of hrx3 hbx3
  have rwx3 := rl_of hrx3 (by omega)
  subst rwx3
  have hm := mst_tp fx1tp
  have t0 := tl_at hNx1 rfl
  have t1 := rl_of hrx3 (by omega)
  have tpE := tpf_of hNx1 rfl
  refine T.go 1 (fun n9 => (rfl : _ = exe ξ n9 (d + 8) j_N_end 1 [(0, .ref 16), (1, J x)] [J x] σ)) ?_
  refine T.if_lt rfl rfl (by omega) (fun c1 => ?_) (fun c1 => ?_)
  · refine T.go 1 (fun n9 => (rfl : _ = exe ξ n9 (d + 8) j_N_end 19 [(0, .ref 16), (1, J x)] [J 0] σ)) ?_
    have t8 := tl_at hNx1 rfl
    have t9 := rl_of hrx3 (by omega)
    exact T.iretz rfl rfl (by omega) ⟨_, rfl, (Fr.refl hK), by omega, by omega, by omega, by omega, (fun g hg => hg)⟩
  · refine T.go 2 (fun n9 => (rfl : _ = exe ξ n9 (d + 8) j_N_end 6 [(0, .ref 16), (1, J x)] [.ref 16, J x] σ)) ?_
    refine T.get rfl rfl rfl hNx1 rfl ?_
    refine T.get rfl rfl rfl hax2 rfl ?_
    refine T.get rfl rfl rfl hrx3 rfl ?_
    refine T.icmp_le rfl rfl (by omega) (by omega) (fun c2 => ?_) (fun c2 => ?_)
    · refine T.go 1 (fun n9 => (rfl : _ = exe ξ n9 (d + 8) j_N_end 21 [(0, .ref 16), (1, J x)] [.ref 16] σ)) ?_
      refine T.get rfl rfl rfl hNx1 rfl ?_
      refine T.get rfl rfl rfl hax2 rfl ?_
      refine T.go 1 (fun n9 => (rfl : _ = exe ξ n9 (d + 8) j_N_end 28 [(0, .ref 16), (1, J x)] [J x, .ref (tpx1 + 1)] σ)) ?_
      refine T.putF (w := WT) rfl rfl hrx3 rfl rfl rfl (fs' := [J mx3, .ref bx3, J x]) rfl (Fr.len hK (kdX_ar _ (na_tp fx1tp)).2.2.1 hrx3 hbx3 (by omega) ((by decide : ∀ q ∈ [63, 68], q + 1 ∈ WT) _ (mem2 fx1tp))) (fun s1 hs1 hcs1 hos1 => ?_)
      have k1 := hos1 ((by decide : ∀ v ∈ [63, 68], (16 : Nat) ≠ v + 1) _ (mem2 fx1tp)) hNx1
      have k2 := hos1 (by omega) hax2
      have k3 := hos1 (q_dif hbx3 hrx3 (fun z => by cases z)) hbx3
      refine T.go 1 (fun n9 => (rfl : _ = exe ξ n9 (d + 8) j_N_end 32 [(0, .ref 16), (1, J x)] [J 1] s1)) ?_
      have t8 := tl_at k1 rfl
      have t9 := rl_of hcs1 (by omega)
      exact T.iretz rfl rfl (by omega) ⟨_, rfl, hs1, by omega, by omega, by omega, by omega, (fun g hg => ⟨tpx1, tpf_of k1 rfl, (hg.at tpE).short ((CT_of hcs1 k3).trans ctx3.symm) (by omega)⟩)⟩
    · refine T.go 1 (fun n9 => (rfl : _ = exe ξ n9 (d + 8) j_N_end 19 [(0, .ref 16), (1, J x)] [J 0] σ)) ?_
      have t8 := tl_at hNx1 rfl
      have t9 := rl_of hrx3 (by omega)
      exact T.iretz rfl rfl (by omega) ⟨_, rfl, (Fr.refl hK), by omega, by omega, by omega, by omega, (fun g hg => hg)⟩

set_option maxRecDepth 10000 in
set_option maxHeartbeats 4000000 in
theorem s_N_fopen {ξ : Nat → Option (Nat × List Int32)} (d : Nat) (g : Int → Int)  (σ : qH) (hK : K σ)  (h255 : ∀ k, 0 ≤ g k ∧ g k ≤ 255) (hgt : AGT σ g) (hNA : NA σ) : TX ξ (d + 8) j_N_open 0 (lv_args 0 [.ref 16]) [] σ (QX WT [0] σ (fun s => tl s = 0 ∧ FOn g (tl σ) = 0) (fun v σ' => ∃ z : Int, v = some (J z) ∧ Fr WT σ σ' ∧ -2147483648 ≤ z ∧ z ≤ 2147483647 ∧ tl σ' = 0 ∧ FOn g (tl σ) = 1 ∧ z = W2 g (EN g (tl σ) + 8))) := by
  obtain ⟨kex1, scx1, tpx1, oux1, mox1, sgx1, hox1, mcx1, lfx1, lpx1, hNx1, fx1ke, fx1sc, fx1tp, fx1ou, fx1mo, fx1sg, fx1d, fx1e, fx1f, fx1g, fx1h, fx1i, fx1j⟩ := hK.na
  obtain ⟨ex2, erx2, dix2, bax2, fpx2, hax2, fx2a, fx2b, fx2c, fx2d, fx2e, fx2f, fx2g, fx2h, fx2i, fx2j⟩ := hK.arc (na_tp fx1tp)
  have af3x2 := af_of (i := 3) hax2 rfl (by omega)
  subst af3x2
  have af4x2 := af_of (i := 4) hax2 rfl (by omega)
  subst af4x2
  have af5x2 := af_of (i := 5) hax2 rfl (by omega)
  subst af5x2
  have af6x2 := af_of (i := 6) hax2 rfl (by omega)
  subst af6x2
  have af7x2 := af_of (i := 7) hax2 rfl (by omega)
  subst af7x2
  obtain ⟨mx3, nx3, bx3, lx3, hrx3, hbx3, fx3a, fx3b, fx3c, fx3d, fx3e, fx3g, fx3h, fx3i⟩ := hK.row (kdX_ar _ (na_tp fx1tp)).2.2.1
  have ctx3 := CT_of hrx3 hbx3
  have rwx3 := rl_of hrx3 (by omega)
  subst rwx3
  have hm := mst_tp fx1tp
  have t0 := tl_at hNx1 rfl
  have t1 := rl_of hrx3 (by omega)
  have tpE := tpf_of hNx1 rfl
  have hg := hgt.at tpE
  have la := 0
  refine TX.go 1 (fun n9 => (rfl : _ = exx ξ n9 (d + 8) j_N_open 1 [(0, .ref 16)] [.ref 16] σ)) ?_
  refine TX.get rfl rfl rfl rfl hNx1 rfl ?_
  refine TX.callv (as := []) (r := []) rfl rfl rfl rfl (ArL_lt _ (na_tp fx1tp)).2.2.1 hax2 rfl (s_A_fsurvey (d + 3) g tpx1 σ hK (na_tp fx1tp) h255 hg hNA ) (fun v1 s1 hqs1 => ?_)
  obtain ⟨z1, rfl, hs1, hzz1, hyz1, pz1_0, pz1_1, pz1_2, pz1_3⟩ := hqs1
  have es1 := hs1
  have hs1 := hs1.sub (w' := WT) (List.forall_mem_cons.mpr ⟨((by decide : ∀ q ∈ [63, 68], q ∈ WT) _ (mem2 fx1tp)), (List.forall_mem_cons.mpr ⟨((by decide : ∀ q ∈ [63, 68], q + 3 ∈ WT) _ (mem2 fx1tp)), (List.forall_mem_cons.mpr ⟨((by decide : ∀ q ∈ [63, 68], q + 4 ∈ WT) _ (mem2 fx1tp)), (fun _ h => by cases h)⟩)⟩)⟩)
  have k1 := es1.b.1 _ _ (nm_c ((by decide : ∀ v ∈ [63, 68], (16 : Nat) ≠ v) _ (mem2 fx1tp)) (nm_c ((by decide : ∀ v ∈ [63, 68], (16 : Nat) ≠ v + 3) _ (mem2 fx1tp)) (nm_c ((by decide : ∀ v ∈ [63, 68], (16 : Nat) ≠ v + 4) _ (mem2 fx1tp)) nm_0))) (fun l z => by cases z) hNx1
  have k2 := es1.b.1 _ _ (nm_c (by omega) (nm_c (by omega) (nm_c (by omega) nm_0))) (fun l z => by cases z) hrx3
  obtain ⟨ex4, erx4, dix4, bax4, fpx4, hax4, fx4a, fx4b, fx4c, fx4d, fx4e, fx4f, fx4g, fx4h, fx4i, fx4j⟩ := hs1.1.arc (na_tp fx1tp)
  have af3x4 := af_of (i := 3) hax4 rfl (by omega)
  subst af3x4
  have af4x4 := af_of (i := 4) hax4 rfl (by omega)
  subst af4x4
  have af5x4 := af_of (i := 5) hax4 rfl (by omega)
  subst af5x4
  have af6x4 := af_of (i := 6) hax4 rfl (by omega)
  subst af6x4
  have af7x4 := af_of (i := 7) hax4 rfl (by omega)
  subst af7x4
  refine TX.go 2 (fun n9 => (rfl : _ = exx ξ n9 (d + 8) j_N_open 9 [(0, .ref 16), (1, J z1)] [J z1] s1)) ?_
  refine TX.if_eq rfl rfl rfl (by omega) (fun c1 => ?_) (fun c1 => ?_)
  · refine TX.go 1 (fun n9 => (rfl : _ = exx ξ n9 (d + 8) j_N_open 45 [(0, .ref 16), (1, J z1)] [.ref 16] s1)) ?_
    refine TX.get rfl rfl rfl rfl k1 rfl ?_
    refine TX.go 3 (fun n9 => (rfl : _ = exx ξ n9 (d + 8) j_N_open 51 [(0, .ref 16), (1, J z1), (2, .ref tpx1)] [.ref 16, .ref 16] s1)) ?_
    refine TX.get rfl rfl rfl rfl k1 rfl ?_
    refine TX.putF (w := WT) rfl rfl rfl k1 rfl rfl rfl (fs' := [.ref 17, .ref 41, .ref 48, .ref 51, .ref 53, .ref 55, .ref 57, .ref kex1, .ref scx1, .ref oux1, .ref oux1, J hox1, .ref mox1, .ref sgx1, J mcx1, J lfx1, J lpx1]) rfl (Fr.other hs1.1 k1 rfl (show okN _ from ⟨_, _, _, _, _, _, _, _, _, _, rfl, by omega⟩) (by decide) (Or.inl (by decide)) (fun _ z => by cases z) (by decide)) (fun s2 hs2 hcs2 hos2 => ?_)
    have gs2 := hs1.trans hs2
    have k3 := hos2 ((by decide : ∀ u ∈ [63, 68], u + 1 ≠ 16) _ (mem2 fx1tp)) k2
    have k4 := hos2 ((by decide : ∀ u ∈ [63, 68], u ≠ 16) _ (mem2 fx1tp)) hax4
    refine TX.go 1 (fun n9 => (rfl : _ = exx ξ n9 (d + 8) j_N_open 58 [(0, .ref 16), (1, J z1), (2, .ref tpx1)] [.ref 16] s2)) ?_
    refine TX.get rfl rfl rfl rfl hcs2 rfl ?_
    obtain ⟨ex5, erx5, dix5, bax5, fpx5, hax5, fx5a, fx5b, fx5c, fx5d, fx5e, fx5f, fx5g, fx5h, fx5i, fx5j⟩ := hs2.1.arc (na_tp fx1ou)
    have af3x5 := af_of (i := 3) hax5 rfl (by omega)
    subst af3x5
    have af4x5 := af_of (i := 4) hax5 rfl (by omega)
    subst af4x5
    have af5x5 := af_of (i := 5) hax5 rfl (by omega)
    subst af5x5
    have af6x5 := af_of (i := 6) hax5 rfl (by omega)
    subst af6x5
    have af7x5 := af_of (i := 7) hax5 rfl (by omega)
    subst af7x5
    refine TX.get rfl rfl rfl rfl hax5 rfl ?_
    obtain ⟨mx6, nx6, bx6, lx6, hrx6, hbx6, fx6a, fx6b, fx6c, fx6d, fx6e, fx6g, fx6h, fx6i⟩ := hs2.1.row (kdX_ar _ (na_tp fx1ou)).2.2.1
    have ctx6 := CT_of hrx6 hbx6
    have rwx6 := rl_of hrx6 (by omega)
    subst rwx6
    refine TX.callv (as := []) (r := []) rfl rfl rfl rfl (RwL_lt _ (kdX_ar _ (na_tp fx1ou)).2.2.1).2.2.1 hrx6 rfl (s_R_clear (d + 7) (oux1 + 1) s2 hs2.1 (kdX_ar _ (na_tp fx1ou)).2.2.1  ) (fun v2 s3 hqs3 => ?_)
    obtain ⟨rfl, hs3, pz2_0, pz2_1⟩ := hqs3
    have es3 := hs3
    have hs3 := hs3.sub (w' := WT) (List.forall_mem_cons.mpr ⟨((by decide : ∀ q ∈ [63, 68], q + 1 ∈ WT) _ (mem2 fx1ou)), (fun _ h => by cases h)⟩)
    have k5 := es3.b.1 _ _ (nm_c ((by decide : ∀ v ∈ [63, 68], (16 : Nat) ≠ v + 1) _ (mem2 fx1ou)) nm_0) (fun l z => by cases z) hcs2
    have k6 := es3.b.1 _ _ (nm_c ((by decide : ∀ u ∈ [63, 68], ∀ v ∈ [63, 68], u ≠ v + 1) _ (mem2 fx1tp) _ (mem2 fx1ou)) nm_0) (fun l z => by cases z) k4
    have k7 := es3.b.1 _ _ (nm_c (by omega) nm_0) (fun l z => by cases z) hax5
    have gs3 := gs2.trans hs3
    obtain ⟨mx7, nx7, bx7, lx7, hrx7, hbx7, fx7a, fx7b, fx7c, fx7d, fx7e, fx7g, fx7h, fx7i⟩ := hs3.1.row (kdX_ar _ (na_tp fx1ou)).2.2.1
    have ctx7 := CT_of hrx7 hbx7
    have rwx7 := rl_of hrx7 (by omega)
    subst rwx7
    have cz2 := rl_of hrx7 (by omega)
    refine TX.go 2 (fun n9 => (rfl : _ = exx ξ n9 (d + 8) j_N_open 69 [(0, .ref 16), (1, J z1), (2, .ref tpx1)] [.ref tpx1, .ref 16] s3)) ?_
    refine TX.putF (w := WT) rfl rfl rfl k5 rfl rfl rfl (fs' := [.ref 17, .ref 41, .ref 48, .ref 51, .ref 53, .ref 55, .ref 57, .ref kex1, .ref scx1, .ref oux1, .ref tpx1, J hox1, .ref mox1, .ref sgx1, J mcx1, J lfx1, J lpx1]) rfl (Fr.other hs3.1 k5 rfl (show okN _ from ⟨_, _, _, _, _, _, _, _, _, _, rfl, by omega⟩) (by decide) (Or.inl (by decide)) (fun _ z => by cases z) (by decide)) (fun s4 hs4 hcs4 hos4 => ?_)
    have gs4 := gs3.trans hs4
    have k8 := hos4 ((by decide : ∀ u ∈ [63, 68], u ≠ 16) _ (mem2 fx1tp)) k6
    have k9 := hos4 ((by decide : ∀ u ∈ [63, 68], u ≠ 16) _ (mem2 fx1ou)) k7
    have k10 := hos4 ((by decide : ∀ u ∈ [63, 68], u + 1 ≠ 16) _ (mem2 fx1ou)) hrx7
    have k11 := hos4 (q_dif hbx7 k5 (fun z => by cases z)) hbx7
    refine TX.go 2 (fun n9 => (rfl : _ = exx ξ n9 (d + 8) j_N_open 74 [(0, .ref 16), (1, J z1), (2, .ref tpx1)] [J 1, .ref 16] s4)) ?_
    refine TX.putF (w := WT) rfl rfl rfl hcs4 rfl rfl rfl (fs' := [.ref 17, .ref 41, .ref 48, .ref 51, .ref 53, .ref 55, .ref 57, .ref kex1, .ref scx1, .ref oux1, .ref tpx1, J 1, .ref mox1, .ref sgx1, J mcx1, J lfx1, J lpx1]) rfl (Fr.other hs4.1 hcs4 rfl (show okN _ from ⟨_, _, _, _, _, _, _, _, _, _, rfl, by omega⟩) (by decide) (Or.inl (by decide)) (fun _ z => by cases z) (by decide)) (fun s5 hs5 hcs5 hos5 => ?_)
    have gs5 := gs4.trans hs5
    have k12 := hos5 ((by decide : ∀ u ∈ [63, 68], u ≠ 16) _ (mem2 fx1tp)) k8
    have k13 := hos5 ((by decide : ∀ u ∈ [63, 68], u ≠ 16) _ (mem2 fx1ou)) k9
    have k14 := hos5 ((by decide : ∀ u ∈ [63, 68], u + 1 ≠ 16) _ (mem2 fx1ou)) k10
    have k15 := hos5 (q_dif k11 hcs4 (fun z => by cases z)) k11
    refine TX.go 2 (fun n9 => (rfl : _ = exx ξ n9 (d + 8) j_N_open 79 [(0, .ref 16), (1, J z1), (2, .ref tpx1)] [J 0, .ref 16] s5)) ?_
    refine TX.putF (w := WT) rfl rfl rfl hcs5 rfl rfl rfl (fs' := [.ref 17, .ref 41, .ref 48, .ref 51, .ref 53, .ref 55, .ref 57, .ref kex1, .ref scx1, .ref oux1, .ref tpx1, J 1, .ref mox1, .ref sgx1, J 0, J lfx1, J lpx1]) rfl (Fr.other hs5.1 hcs5 rfl (show okN _ from ⟨_, _, _, _, _, _, _, _, _, _, rfl, by omega⟩) (by decide) (Or.inl (by decide)) (fun _ z => by cases z) (by decide)) (fun s6 hs6 hcs6 hos6 => ?_)
    have gs6 := gs5.trans hs6
    have k16 := hos6 ((by decide : ∀ u ∈ [63, 68], u ≠ 16) _ (mem2 fx1tp)) k12
    have k17 := hos6 ((by decide : ∀ u ∈ [63, 68], u ≠ 16) _ (mem2 fx1ou)) k13
    have k18 := hos6 ((by decide : ∀ u ∈ [63, 68], u + 1 ≠ 16) _ (mem2 fx1ou)) k14
    have k19 := hos6 (q_dif k15 hcs5 (fun z => by cases z)) k15
    refine TX.go 1 (fun n9 => (rfl : _ = exx ξ n9 (d + 8) j_N_open 83 [(0, .ref 16), (1, J z1), (2, .ref tpx1)] [.ref 16] s6)) ?_
    refine TX.get rfl rfl rfl rfl hcs6 rfl ?_
    obtain ⟨mx8, nx8, bx8, lx8, hrx8, hbx8, fx8a, fx8b, fx8c, fx8d, fx8e, fx8g, fx8h, fx8i⟩ := hs6.1.row (na_ke fx1ke)
    have ctx8 := CT_of hrx8 hbx8
    have rwx8 := rl_of hrx8 (by omega)
    subst rwx8
    refine TX.callv (as := []) (r := []) rfl rfl rfl rfl (RwL_lt _ (na_ke fx1ke)).2.2.1 hrx8 rfl (s_R_clear (d + 7) kex1 s6 hs6.1 (na_ke fx1ke)  ) (fun v3 s7 hqs7 => ?_)
    obtain ⟨rfl, hs7, pz3_0, pz3_1⟩ := hqs7
    have es7 := hs7
    have hs7 := hs7.sub (w' := WT) (List.forall_mem_cons.mpr ⟨((by decide : ∀ q ∈ [59, 61], q ∈ WT) _ (mem2 fx1ke)), (fun _ h => by cases h)⟩)
    have k20 := es7.b.1 _ _ (nm_c ((by decide : ∀ v ∈ [59, 61], (16 : Nat) ≠ v) _ (mem2 fx1ke)) nm_0) (fun l z => by cases z) hcs6
    have k21 := es7.b.1 _ _ (nm_c ((by decide : ∀ u ∈ [63, 68], ∀ v ∈ [59, 61], u ≠ v) _ (mem2 fx1tp) _ (mem2 fx1ke)) nm_0) (fun l z => by cases z) k16
    have k22 := es7.b.1 _ _ (nm_c ((by decide : ∀ u ∈ [63, 68], ∀ v ∈ [59, 61], u ≠ v) _ (mem2 fx1ou) _ (mem2 fx1ke)) nm_0) (fun l z => by cases z) k17
    have k23 := es7.b.1 _ _ (nm_c ((by decide : ∀ u ∈ [63, 68], ∀ v ∈ [59, 61], u + 1 ≠ v) _ (mem2 fx1ou) _ (mem2 fx1ke)) nm_0) (fun l z => by cases z) k18
    have gs7 := gs6.trans hs7
    refine TX.go 1 (fun n9 => (rfl : _ = exx ξ n9 (d + 8) j_N_open 90 [(0, .ref 16), (1, J z1), (2, .ref tpx1)] [.ref 16] s7)) ?_
    refine TX.get rfl rfl rfl rfl k20 rfl ?_
    refine TX.get rfl rfl rfl rfl k21 rfl ?_
    have tz1a := tl_at k20 rfl
    have tz1b := rl_of k23 (by omega)
    have tz1 : tl s7 = 0 := by omega
    exact TX.ireti rfl rfl rfl (QX_l ⟨_, rfl, gs7, by omega, by omega, tz1, (by rw [t0]; omega), (by rw [t0]; omega)⟩)
  · refine TX.go 1 (fun n9 => (rfl : _ = exx ξ n9 (d + 8) j_N_open 13 [(0, .ref 16), (1, J z1)] [.ref 16] s1)) ?_
    refine TX.get rfl rfl rfl rfl k1 rfl ?_
    refine TX.get rfl rfl rfl rfl hax4 rfl ?_
    refine TX.callv (as := []) (r := []) rfl rfl rfl rfl (RwL_lt _ (kdX_ar _ (na_tp fx1tp)).2.2.1).2.2.1 k2 rfl (s_R_clear (d + 7) (tpx1 + 1) s1 hs1.1 (kdX_ar _ (na_tp fx1tp)).2.2.1  ) (fun v4 s8 hqs8 => ?_)
    obtain ⟨rfl, hs8, pz4_0, pz4_1⟩ := hqs8
    have es8 := hs8
    have hs8 := hs8.sub (w' := WT) (List.forall_mem_cons.mpr ⟨((by decide : ∀ q ∈ [63, 68], q + 1 ∈ WT) _ (mem2 fx1tp)), (fun _ h => by cases h)⟩)
    have k24 := es8.b.1 _ _ (nm_c ((by decide : ∀ v ∈ [63, 68], (16 : Nat) ≠ v + 1) _ (mem2 fx1tp)) nm_0) (fun l z => by cases z) k1
    have k25 := es8.b.1 _ _ (nm_c (by omega) nm_0) (fun l z => by cases z) hax4
    have gs8 := hs1.trans hs8
    obtain ⟨mx9, nx9, bx9, lx9, hrx9, hbx9, fx9a, fx9b, fx9c, fx9d, fx9e, fx9g, fx9h, fx9i⟩ := hs8.1.row (kdX_ar _ (na_tp fx1tp)).2.2.1
    have ctx9 := CT_of hrx9 hbx9
    have rwx9 := rl_of hrx9 (by omega)
    subst rwx9
    have cz4 := rl_of hrx9 (by omega)
    refine TX.go 3 (fun n9 => (rfl : _ = exx ξ n9 (d + 8) j_N_open 25 [(0, .ref 16), (1, J z1)] [.ref 16, J z1, .ref 16] s8)) ?_
    refine TX.get rfl rfl rfl rfl k24 rfl ?_
    refine TX.get rfl rfl rfl rfl k25 rfl ?_
    have tz2a := tl_at k24 rfl
    have tz2b := rl_of hrx9 (by omega)
    have tz2 : tl s8 = 0 := by omega
    refine TX.callv (as := [J z1, J (afld s1 tpx1 7)]) (r := []) rfl rfl rfl rfl rfl k24 rfl (s_N_note (d + 7) z1 (afld s1 tpx1 7) s8 hs8.1   (by omega) (by omega)) (fun v5 s9 hqs9 => ?_)
    obtain ⟨rfl, hs9, pz5_0⟩ := hqs9
    have es9 := hs9
    have hs9 := hs9.sub (w' := WT) (List.forall_mem_cons.mpr ⟨(by decide), (fun _ h => by cases h)⟩)
    have k26 := es9.b.1 _ _ (nm_c ((by decide : ∀ u ∈ [63, 68], u ≠ 16) _ (mem2 fx1tp)) nm_0) (fun l z => by cases z) k25
    have k27 := es9.b.1 _ _ (nm_c ((by decide : ∀ u ∈ [63, 68], u + 1 ≠ 16) _ (mem2 fx1tp)) nm_0) (fun l z => by cases z) hrx9
    have gs9 := gs8.trans hs9
    have tz3 := (tl_note hs8.1 es9 (nsx_tpf pz5_0)).trans tz2
    exact TX.throw (Nat.ble_eq_true_of_le (by omega)) rfl rfl (QX_r (by decide) gs9 ⟨tz3, by rw [t0]; omega⟩)
