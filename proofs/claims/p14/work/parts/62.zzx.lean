/-! The tape alone is written. -/
set_option maxRecDepth 10000 in
set_option maxHeartbeats 4000000 in
theorem s_N_hfeedInt {ξ : Nat → Option (Nat × List Int32)} (d : Nat) (tpx1 oux1 : Nat) (x : Int) (σ : qH) (hK : K σ)  (ht : nfi 9 σ = some (.ref tpx1)) (ho : nfi 10 σ = some (.ref oux1)) (rx : -2147483648 ≤ x ∧ x ≤ 2147483647) (pre0 : tl σ ≤ 7996) : T ξ (d + 1) j_N_feedInt 0 (lv_args 0 [.ref 16, J x]) [] σ (fun v σ' => v = none ∧ Fr [tpx1 + 1] σ σ' ∧ tl σ' = tl σ + 4 ∧ (∀ g : Int → Int, AGT σ g → AGT σ' (up4 g (tl σ) x))) := by
  obtain ⟨kex1, scx1, tpy, ouy, mox1, sgx1, hox1, mcx1, lfx1, lpx1, hNx1, fx1ke, fx1sc, fx1tp, fx1ou, fx1mo, fx1sg, fx1d, fx1e, fx1f, fx1g, fx1h, fx1i, fx1j⟩ := hK.na
  have ety : tpx1 = tpy := by have q : nfi 9 σ = some (.ref tpy) := (nfi_of hNx1).trans rfl; rw [ht] at q; cases q; rfl
  subst ety
  have etz : oux1 = ouy := by have q : nfi 10 σ = some (.ref ouy) := (nfi_of hNx1).trans rfl; rw [ho] at q; cases q; rfl
  subst etz
  obtain ⟨ex2, erx2, dix2, bax2, fpx2, hax2, fx2a, fx2b, fx2c, fx2d, fx2e, fx2f, fx2g, fx2h, fx2i, fx2j⟩ := hK.arc (na_tp fx1tp)
  have af3x2 := af_of (i := 3) hax2 rfl (by omega)
  subst af3x2
  have af4x2 := af_of (i := 4) hax2 rfl (by omega)
  subst af4x2
  have af5x2 := af_of (i := 5) hax2 rfl (by omega)
  subst af5x2
  have af6x2 := af_of (i := 6) hax2 rfl (by omega)
  subst af6x2
  have af7x2 := af_of (i := 7) hax2 rfl (by omega)
  subst af7x2
  obtain ⟨mx3, nx3, bx3, lx3, hrx3, hbx3, fx3a, fx3b, fx3c, fx3d, fx3e, fx3g, fx3h, fx3i⟩ := hK.row (kdX_ar _ (na_tp fx1tp)).2.2.1
  have ctx3 := CT_of hrx3 hbx3
  have rwx3 := rl_of hrx3 (by omega)
  subst rwx3
  have hm := mst_tp fx1tp
  have t0 := tl_at hNx1 rfl
  have t1 := rl_of hrx3 (by omega)
  have tpE := tpf_of hNx1 rfl
  refine T.go 5 (fun n9 => (rfl : _ = exe ξ n9 (d + 1) j_N_feedInt 8 [(0, .ref 16), (1, J x), (2, J 24)] [.ref 16] σ)) ?_
  refine T.get rfl rfl rfl hNx1 rfl ?_
  refine T.get rfl rfl rfl hax2 rfl ?_
  refine T.go 2 (fun n9 => (rfl : _ = exe ξ n9 (d + 1) j_N_feedInt 16 [(0, .ref 16), (1, J x), (2, J 24)] [J 24, J x, .ref (tpx1 + 1)] σ)) ?_
  refine T.iushrq (p := 16777216) 24 rfl (by omega) rfl rfl (by decide) (fun z1 hzz1 hyz1 hwz1 => ?_)
  refine T.go 1 (fun n9 => (rfl : _ = exe ξ n9 (d + 1) j_N_feedInt 20 [(0, .ref 16), (1, J x), (2, J 24)] [J 255, J z1, .ref (tpx1 + 1)] σ)) ?_
  refine T.iandm (p := 256) 8 rfl (by decide) (by decide) (by decide) (by omega) ?_
  refine T.callv (as := [J (z1 % 256)]) (r := []) rfl rfl rfl (RwL_lt _ (kdX_ar _ (na_tp fx1tp)).2.2.1).2.2.1 hrx3 rfl (s_R_fadd d (tpx1 + 1) (z1 % 256) σ hK (kdX_ar _ (na_tp fx1tp)).2.2.1  (by omega)) (fun v1 s1 hqs1 => ?_)
  obtain ⟨z3, rfl, hs1, hzz3, hyz3, pz3_0, pz3_1, pz3_2⟩ := hqs1
  have es1 := hs1
  have k1 := es1.b.1 _ _ (nm_c (dq_87 _ (mem2 fx1tp)) nm_0) (fun l z => by cases z) hNx1
  have k2 := es1.b.1 _ _ (nm_c (by omega) nm_0) (fun l z => by cases z) hax2
  refine T.go 1 (fun n9 => (rfl : _ = exe ξ n9 (d + 1) j_N_feedInt 25 [(0, .ref 16), (1, J x), (2, J 24)] [] s1)) ?_
  refine T.iinc (lv' := [(0, .ref 16), (1, J x), (2, J 16)]) rfl rfl rfl rfl ?_
  refine T.go 4 (fun n9 => (rfl : _ = exe ξ n9 (d + 1) j_N_feedInt 8 [(0, .ref 16), (1, J x), (2, J 16)] [.ref 16] s1)) ?_
  refine T.get rfl rfl rfl k1 rfl ?_
  refine T.get rfl rfl rfl k2 rfl ?_
  refine T.go 2 (fun n9 => (rfl : _ = exe ξ n9 (d + 1) j_N_feedInt 16 [(0, .ref 16), (1, J x), (2, J 16)] [J 16, J x, .ref (tpx1 + 1)] s1)) ?_
  refine T.iushrq (p := 65536) 16 rfl (by omega) rfl rfl (by decide) (fun z4 hzz4 hyz4 hwz4 => ?_)
  refine T.go 1 (fun n9 => (rfl : _ = exe ξ n9 (d + 1) j_N_feedInt 20 [(0, .ref 16), (1, J x), (2, J 16)] [J 255, J z4, .ref (tpx1 + 1)] s1)) ?_
  refine T.iandm (p := 256) 8 rfl (by decide) (by decide) (by decide) (by omega) ?_
  obtain ⟨mx4, nx4, bx4, lx4, hrx4, hbx4, fx4a, fx4b, fx4c, fx4d, fx4e, fx4g, fx4h, fx4i⟩ := hs1.1.row (kdX_ar _ (na_tp fx1tp)).2.2.1
  have ctx4 := CT_of hrx4 hbx4
  have rwx4 := rl_of hrx4 (by omega)
  subst rwx4
  refine T.callv (as := [J (z4 % 256)]) (r := []) rfl rfl rfl (RwL_lt _ (kdX_ar _ (na_tp fx1tp)).2.2.1).2.2.1 hrx4 rfl (s_R_fadd d (tpx1 + 1) (z4 % 256) s1 hs1.1 (kdX_ar _ (na_tp fx1tp)).2.2.1  (by omega)) (fun v2 s2 hqs2 => ?_)
  obtain ⟨z6, rfl, hs2, hzz6, hyz6, pz6_0, pz6_1, pz6_2⟩ := hqs2
  have es2 := hs2
  have k3 := es2.b.1 _ _ (nm_c (dq_87 _ (mem2 fx1tp)) nm_0) (fun l z => by cases z) k1
  have k4 := es2.b.1 _ _ (nm_c (by omega) nm_0) (fun l z => by cases z) k2
  have gs2 := hs1.trans hs2
  refine T.go 1 (fun n9 => (rfl : _ = exe ξ n9 (d + 1) j_N_feedInt 25 [(0, .ref 16), (1, J x), (2, J 16)] [] s2)) ?_
  refine T.iinc (lv' := [(0, .ref 16), (1, J x), (2, J 8)]) rfl rfl rfl rfl ?_
  refine T.go 4 (fun n9 => (rfl : _ = exe ξ n9 (d + 1) j_N_feedInt 8 [(0, .ref 16), (1, J x), (2, J 8)] [.ref 16] s2)) ?_
  refine T.get rfl rfl rfl k3 rfl ?_
  refine T.get rfl rfl rfl k4 rfl ?_
  refine T.go 2 (fun n9 => (rfl : _ = exe ξ n9 (d + 1) j_N_feedInt 16 [(0, .ref 16), (1, J x), (2, J 8)] [J 8, J x, .ref (tpx1 + 1)] s2)) ?_
  refine T.iushrq (p := 256) 8 rfl (by omega) rfl rfl (by decide) (fun z7 hzz7 hyz7 hwz7 => ?_)
  refine T.go 1 (fun n9 => (rfl : _ = exe ξ n9 (d + 1) j_N_feedInt 20 [(0, .ref 16), (1, J x), (2, J 8)] [J 255, J z7, .ref (tpx1 + 1)] s2)) ?_
  refine T.iandm (p := 256) 8 rfl (by decide) (by decide) (by decide) (by omega) ?_
  obtain ⟨mx5, nx5, bx5, lx5, hrx5, hbx5, fx5a, fx5b, fx5c, fx5d, fx5e, fx5g, fx5h, fx5i⟩ := hs2.1.row (kdX_ar _ (na_tp fx1tp)).2.2.1
  have ctx5 := CT_of hrx5 hbx5
  have rwx5 := rl_of hrx5 (by omega)
  subst rwx5
  refine T.callv (as := [J (z7 % 256)]) (r := []) rfl rfl rfl (RwL_lt _ (kdX_ar _ (na_tp fx1tp)).2.2.1).2.2.1 hrx5 rfl (s_R_fadd d (tpx1 + 1) (z7 % 256) s2 hs2.1 (kdX_ar _ (na_tp fx1tp)).2.2.1  (by omega)) (fun v3 s3 hqs3 => ?_)
  obtain ⟨z9, rfl, hs3, hzz9, hyz9, pz9_0, pz9_1, pz9_2⟩ := hqs3
  have es3 := hs3
  have k5 := es3.b.1 _ _ (nm_c (dq_87 _ (mem2 fx1tp)) nm_0) (fun l z => by cases z) k3
  have k6 := es3.b.1 _ _ (nm_c (by omega) nm_0) (fun l z => by cases z) k4
  have gs3 := gs2.trans hs3
  refine T.go 1 (fun n9 => (rfl : _ = exe ξ n9 (d + 1) j_N_feedInt 25 [(0, .ref 16), (1, J x), (2, J 8)] [] s3)) ?_
  refine T.iinc (lv' := [(0, .ref 16), (1, J x), (2, J 0)]) rfl rfl rfl rfl ?_
  refine T.go 4 (fun n9 => (rfl : _ = exe ξ n9 (d + 1) j_N_feedInt 8 [(0, .ref 16), (1, J x), (2, J 0)] [.ref 16] s3)) ?_
  refine T.get rfl rfl rfl k5 rfl ?_
  refine T.get rfl rfl rfl k6 rfl ?_
  refine T.go 2 (fun n9 => (rfl : _ = exe ξ n9 (d + 1) j_N_feedInt 16 [(0, .ref 16), (1, J x), (2, J 0)] [J 0, J x, .ref (tpx1 + 1)] s3)) ?_
  refine T.iushrq (p := 1) 0 rfl (by omega) rfl rfl (by decide) (fun z10 hzz10 hyz10 hwz10 => ?_)
  refine T.go 1 (fun n9 => (rfl : _ = exe ξ n9 (d + 1) j_N_feedInt 20 [(0, .ref 16), (1, J x), (2, J 0)] [J 255, J z10, .ref (tpx1 + 1)] s3)) ?_
  refine T.iandm (p := 256) 8 rfl (by decide) (by decide) (by decide) (by omega) ?_
  obtain ⟨mx6, nx6, bx6, lx6, hrx6, hbx6, fx6a, fx6b, fx6c, fx6d, fx6e, fx6g, fx6h, fx6i⟩ := hs3.1.row (kdX_ar _ (na_tp fx1tp)).2.2.1
  have ctx6 := CT_of hrx6 hbx6
  have rwx6 := rl_of hrx6 (by omega)
  subst rwx6
  refine T.callv (as := [J (z10 % 256)]) (r := []) rfl rfl rfl (RwL_lt _ (kdX_ar _ (na_tp fx1tp)).2.2.1).2.2.1 hrx6 rfl (s_R_fadd d (tpx1 + 1) (z10 % 256) s3 hs3.1 (kdX_ar _ (na_tp fx1tp)).2.2.1  (by omega)) (fun v4 s4 hqs4 => ?_)
  obtain ⟨z12, rfl, hs4, hzz12, hyz12, pz12_0, pz12_1, pz12_2⟩ := hqs4
  have es4 := hs4
  have k7 := es4.b.1 _ _ (nm_c (dq_87 _ (mem2 fx1tp)) nm_0) (fun l z => by cases z) k5
  have k8 := es4.b.1 _ _ (nm_c (by omega) nm_0) (fun l z => by cases z) k6
  have gs4 := gs3.trans hs4
  refine T.go 1 (fun n9 => (rfl : _ = exe ξ n9 (d + 1) j_N_feedInt 25 [(0, .ref 16), (1, J x), (2, J 0)] [] s4)) ?_
  refine T.iinc (lv' := [(0, .ref 16), (1, J x), (2, J (-8))]) rfl rfl rfl rfl ?_
  refine T.go 3 (fun n9 => (rfl : _ = exe ξ n9 (d + 1) j_N_feedInt 31 [(0, .ref 16), (1, J x), (2, J (-8))] [] s4)) ?_
  have t9 := tl_at k7 rfl
  have t9 := tl_at k7 rfl
  exact T.vret rfl rfl ⟨rfl, gs4, by omega, (fun g hg => by have ag := hg.at tpE; have r9 := (pz12_2 _ (pz9_2 _ (pz6_2 _ (pz3_2 _ ag (by omega)) (by omega)) (by omega)) (by omega)); refine ⟨tpx1, tpf_of k7 rfl, ?_⟩; unfold up4; rw [show rl σ (tpx1 + 1) = tl σ by omega, show (z1 % 256) % 256 = x / 16777216 % 256 by omega, show rl s1 (tpx1 + 1) = tl σ + 1 by omega, show (z4 % 256) % 256 = x / 65536 % 256 by omega, show rl s2 (tpx1 + 1) = tl σ + 2 by omega, show (z7 % 256) % 256 = x / 256 % 256 by omega, show rl s3 (tpx1 + 1) = tl σ + 3 by omega, show (z10 % 256) % 256 = x % 256 by omega] at r9; exact r9)⟩

set_option maxRecDepth 10000 in
set_option maxHeartbeats 4000000 in
theorem s_N_hfeed {ξ : Nat → Option (Nat × List Int32)} (d : Nat) (tpx1 oux1 : Nat) (x : Int) (y : Int) (u : Int) (v9 : Int) (w9 : Int) (σ : qH) (hK : K σ)  (ht : nfi 9 σ = some (.ref tpx1)) (ho : nfi 10 σ = some (.ref oux1)) (rx : -2147483648 ≤ x ∧ x ≤ 2147483647) (ry : -2147483648 ≤ y ∧ y ≤ 2147483647) (ru : -2147483648 ≤ u ∧ u ≤ 2147483647) (rv9 : -2147483648 ≤ v9 ∧ v9 ≤ 2147483647) (rw9 : -2147483648 ≤ w9 ∧ w9 ≤ 2147483647) : T ξ (d + 8) j_N_feed 0 (lv_args 0 [.ref 16, J x, J y, J u, J v9, J w9]) [] σ (fun v σ' => ∃ z : Int, v = some (J z) ∧ Fr [tpx1 + 1] σ σ' ∧ 0 ≤ z ∧ z ≤ 1 ∧ (tl σ ≤ 7980 → z = 1 ∧ tl σ' = tl σ + 20) ∧ (7980 < tl σ → z = 0 ∧ tl σ' = tl σ) ∧ (∀ g : Int → Int, AGT σ g → tl σ ≤ 7980 → AGT σ' (up20 g (tl σ) x y u v9 w9)) ∧ (∀ g : Int → Int, AGT σ g → 7980 < tl σ → AGT σ' g)) := by
  obtain ⟨kex1, scx1, tpy, ouy, mox1, sgx1, hox1, mcx1, lfx1, lpx1, hNx1, fx1ke, fx1sc, fx1tp, fx1ou, fx1mo, fx1sg, fx1d, fx1e, fx1f, fx1g, fx1h, fx1i, fx1j⟩ := hK.na
  have ety : tpx1 = tpy := by have q : nfi 9 σ = some (.ref tpy) := (nfi_of hNx1).trans rfl; rw [ht] at q; cases q; rfl
  subst ety
  have etz : oux1 = ouy := by have q : nfi 10 σ = some (.ref ouy) := (nfi_of hNx1).trans rfl; rw [ho] at q; cases q; rfl
  subst etz
  obtain ⟨ex2, erx2, dix2, bax2, fpx2, hax2, fx2a, fx2b, fx2c, fx2d, fx2e, fx2f, fx2g, fx2h, fx2i, fx2j⟩ := hK.arc (na_tp fx1tp)
  have af3x2 := af_of (i := 3) hax2 rfl (by omega)
  subst af3x2
  have af4x2 := af_of (i := 4) hax2 rfl (by omega)
  subst af4x2
  have af5x2 := af_of (i := 5) hax2 rfl (by omega)
  subst af5x2
  have af6x2 := af_of (i := 6) hax2 rfl (by omega)
  subst af6x2
  have af7x2 := af_of (i := 7) hax2 rfl (by omega)
  subst af7x2
  obtain ⟨mx3, nx3, bx3, lx3, hrx3, hbx3, fx3a, fx3b, fx3c, fx3d, fx3e, fx3g, fx3h, fx3i⟩ := hK.row (kdX_ar _ (na_tp fx1tp)).2.2.1
  have ctx3 := CT_of hrx3 hbx3
  have rwx3 := rl_of hrx3 (by omega)
  subst rwx3
  have hm := mst_tp fx1tp
  have t0 := tl_at hNx1 rfl
  have t1 := rl_of hrx3 (by omega)
  have tpE := tpf_of hNx1 rfl
  refine T.go 1 (fun n9 => (rfl : _ = exe ξ n9 (d + 8) j_N_feed 1 [(0, .ref 16), (1, J x), (2, J y), (3, J u), (4, J v9), (5, J w9)] [.ref 16] σ)) ?_
  refine T.get rfl rfl rfl hNx1 rfl ?_
  refine T.get rfl rfl rfl hax2 rfl ?_
  refine T.get rfl rfl rfl hrx3 rfl ?_
  refine T.go 1 (fun n9 => (rfl : _ = exe ξ n9 (d + 8) j_N_feed 13 [(0, .ref 16), (1, J x), (2, J y), (3, J u), (4, J v9), (5, J w9)] [J 7980, J (rl σ (tpx1 + 1))] σ)) ?_
  refine T.icmp_le rfl rfl (by omega) (by omega) (fun c1 => ?_) (fun c1 => ?_)
  · refine T.go 2 (fun n9 => (rfl : _ = exe ξ n9 (d + 8) j_N_feed 20 [(0, .ref 16), (1, J x), (2, J y), (3, J u), (4, J v9), (5, J w9)] [J x, .ref 16] σ)) ?_
    refine T.callv (as := [J x]) (r := []) rfl rfl rfl rfl hNx1 rfl (s_N_hfeedInt (d + 6) tpx1 oux1 x σ hK  ((nfi_of hNx1).trans rfl) ((nfi_of hNx1).trans rfl) (by omega) (by omega)) (fun v1 s1 hqs1 => ?_)
    obtain ⟨rfl, hs1, pz1_0, pz1_1⟩ := hqs1
    have es1 := hs1
    have k1 := es1.b.1 _ _ (nm_c (dq_87 _ (mem2 fx1tp)) nm_0) (fun l z => by cases z) hNx1
    have k2 := es1.b.1 _ _ (nm_c (by omega) nm_0) (fun l z => by cases z) hax2
    refine T.go 2 (fun n9 => (rfl : _ = exe ξ n9 (d + 8) j_N_feed 25 [(0, .ref 16), (1, J x), (2, J y), (3, J u), (4, J v9), (5, J w9)] [J y, .ref 16] s1)) ?_
    refine T.callv (as := [J y]) (r := []) rfl rfl rfl rfl k1 rfl (s_N_hfeedInt (d + 6) tpx1 oux1 y s1 hs1.1  ((nfi_of k1).trans rfl) ((nfi_of k1).trans rfl) (by omega) (by omega)) (fun v2 s2 hqs2 => ?_)
    obtain ⟨rfl, hs2, pz2_0, pz2_1⟩ := hqs2
    have es2 := hs2
    have k3 := es2.b.1 _ _ (nm_c (dq_87 _ (mem2 fx1tp)) nm_0) (fun l z => by cases z) k1
    have k4 := es2.b.1 _ _ (nm_c (by omega) nm_0) (fun l z => by cases z) k2
    have gs2 := hs1.trans hs2
    refine T.go 2 (fun n9 => (rfl : _ = exe ξ n9 (d + 8) j_N_feed 30 [(0, .ref 16), (1, J x), (2, J y), (3, J u), (4, J v9), (5, J w9)] [J u, .ref 16] s2)) ?_
    refine T.callv (as := [J u]) (r := []) rfl rfl rfl rfl k3 rfl (s_N_hfeedInt (d + 6) tpx1 oux1 u s2 hs2.1  ((nfi_of k3).trans rfl) ((nfi_of k3).trans rfl) (by omega) (by omega)) (fun v3 s3 hqs3 => ?_)
    obtain ⟨rfl, hs3, pz3_0, pz3_1⟩ := hqs3
    have es3 := hs3
    have k5 := es3.b.1 _ _ (nm_c (dq_87 _ (mem2 fx1tp)) nm_0) (fun l z => by cases z) k3
    have k6 := es3.b.1 _ _ (nm_c (by omega) nm_0) (fun l z => by cases z) k4
    have gs3 := gs2.trans hs3
    refine T.go 2 (fun n9 => (rfl : _ = exe ξ n9 (d + 8) j_N_feed 36 [(0, .ref 16), (1, J x), (2, J y), (3, J u), (4, J v9), (5, J w9)] [J v9, .ref 16] s3)) ?_
    refine T.callv (as := [J v9]) (r := []) rfl rfl rfl rfl k5 rfl (s_N_hfeedInt (d + 6) tpx1 oux1 v9 s3 hs3.1  ((nfi_of k5).trans rfl) ((nfi_of k5).trans rfl) (by omega) (by omega)) (fun v4 s4 hqs4 => ?_)
    obtain ⟨rfl, hs4, pz4_0, pz4_1⟩ := hqs4
    have es4 := hs4
    have k7 := es4.b.1 _ _ (nm_c (dq_87 _ (mem2 fx1tp)) nm_0) (fun l z => by cases z) k5
    have k8 := es4.b.1 _ _ (nm_c (by omega) nm_0) (fun l z => by cases z) k6
    have gs4 := gs3.trans hs4
    refine T.go 2 (fun n9 => (rfl : _ = exe ξ n9 (d + 8) j_N_feed 42 [(0, .ref 16), (1, J x), (2, J y), (3, J u), (4, J v9), (5, J w9)] [J w9, .ref 16] s4)) ?_
    refine T.callv (as := [J w9]) (r := []) rfl rfl rfl rfl k7 rfl (s_N_hfeedInt (d + 6) tpx1 oux1 w9 s4 hs4.1  ((nfi_of k7).trans rfl) ((nfi_of k7).trans rfl) (by omega) (by omega)) (fun v5 s5 hqs5 => ?_)
    obtain ⟨rfl, hs5, pz5_0, pz5_1⟩ := hqs5
    have es5 := hs5
    have k9 := es5.b.1 _ _ (nm_c (dq_87 _ (mem2 fx1tp)) nm_0) (fun l z => by cases z) k7
    have k10 := es5.b.1 _ _ (nm_c (by omega) nm_0) (fun l z => by cases z) k8
    have gs5 := gs4.trans hs5
    refine T.go 1 (fun n9 => (rfl : _ = exe ξ n9 (d + 8) j_N_feed 46 [(0, .ref 16), (1, J x), (2, J y), (3, J u), (4, J v9), (5, J w9)] [J 1] s5)) ?_
    exact T.iretz rfl rfl (by omega) ⟨_, rfl, gs5, by omega, by omega, by omega, by omega, (fun g hg h => by have r9 := (pz5_1 _ (pz4_1 _ (pz3_1 _ (pz2_1 _ (pz1_1 _ hg))))); unfold up20; rw [show tl s1 = tl σ + 4 by omega, show tl s2 = tl σ + 8 by omega, show tl s3 = tl σ + 12 by omega, show tl s4 = tl σ + 16 by omega] at r9; exact r9), (fun g hg h => absurd h (by omega))⟩
  · refine T.go 1 (fun n9 => (rfl : _ = exe ξ n9 (d + 8) j_N_feed 17 [(0, .ref 16), (1, J x), (2, J y), (3, J u), (4, J v9), (5, J w9)] [J 0] σ)) ?_
    exact T.iretz rfl rfl (by omega) ⟨_, rfl, (Fr.refl hK), by omega, by omega, by omega, by omega, (fun g hg h => absurd h (by omega)), (fun g hg h => hg)⟩

set_option maxRecDepth 10000 in
set_option maxHeartbeats 4000000 in
theorem s_N_hend {ξ : Nat → Option (Nat × List Int32)} (d : Nat) (tpx1 oux1 : Nat) (x : Int) (σ : qH) (hK : K σ)  (ht : nfi 9 σ = some (.ref tpx1)) (ho : nfi 10 σ = some (.ref oux1)) (rx : -2147483648 ≤ x ∧ x ≤ 2147483647) : T ξ (d + 8) j_N_end 0 (lv_args 0 [.ref 16, J x]) [] σ (fun v σ' => ∃ z : Int, v = some (J z) ∧ Fr [tpx1 + 1] σ σ' ∧ 0 ≤ z ∧ z ≤ 1 ∧ (0 ≤ x ∧ x ≤ tl σ → z = 1 ∧ tl σ' = x) ∧ (¬ (0 ≤ x ∧ x ≤ tl σ) → z = 0 ∧ tl σ' = tl σ) ∧ (∀ g : Int → Int, AGT σ g → AGT σ' g)) := by
  obtain ⟨kex1, scx1, tpy, ouy, mox1, sgx1, hox1, mcx1, lfx1, lpx1, hNx1, fx1ke, fx1sc, fx1tp, fx1ou, fx1mo, fx1sg, fx1d, fx1e, fx1f, fx1g, fx1h, fx1i, fx1j⟩ := hK.na
  have ety : tpx1 = tpy := by have q : nfi 9 σ = some (.ref tpy) := (nfi_of hNx1).trans rfl; rw [ht] at q; cases q; rfl
  subst ety
  have etz : oux1 = ouy := by have q : nfi 10 σ = some (.ref ouy) := (nfi_of hNx1).trans rfl; rw [ho] at q; cases q; rfl
  subst etz
  obtain ⟨ex2, erx2, dix2, bax2, fpx2, hax2, fx2a, fx2b, fx2c, fx2d, fx2e, fx2f, fx2g, fx2h, fx2i, fx2j⟩ := hK.arc (na_tp fx1tp)
  have af3x2 := af_of (i := 3) hax2 rfl (by omega)
  subst af3x2
  have af4x2 := af_of (i := 4) hax2 rfl (by omega)
  subst af4x2
  have af5x2 := af_of (i := 5) hax2 rfl (by omega)
  subst af5x2
  have af6x2 := af_of (i := 6) hax2 rfl (by omega)
  subst af6x2
  have af7x2 := af_of (i := 7) hax2 rfl (by omega)
  subst af7x2
  obtain ⟨mx3, nx3, bx3, lx3, hrx3, hbx3, fx3a, fx3b, fx3c, fx3d, fx3e, fx3g, fx3h, fx3i⟩ := hK.row (kdX_ar _ (na_tp fx1tp)).2.2.1
  have ctx3 := CT_of hrx3 hbx3
  have rwx3 := rl_of hrx3 (by omega)
  subst rwx3
  have hm := mst_tp fx1tp
  have t0 := tl_at hNx1 rfl
  have t1 := rl_of hrx3 (by omega)
  have tpE := tpf_of hNx1 rfl
  refine T.go 1 (fun n9 => (rfl : _ = exe ξ n9 (d + 8) j_N_end 1 [(0, .ref 16), (1, J x)] [J x] σ)) ?_
  refine T.if_lt rfl rfl (by omega) (fun c1 => ?_) (fun c1 => ?_)
  · refine T.go 1 (fun n9 => (rfl : _ = exe ξ n9 (d + 8) j_N_end 19 [(0, .ref 16), (1, J x)] [J 0] σ)) ?_
    have t8 := tl_at hNx1 rfl
    have t9 := rl_of hrx3 (by omega)
    exact T.iretz rfl rfl (by omega) ⟨_, rfl, (Fr.refl hK), by omega, by omega, by omega, by omega, (fun g hg => hg)⟩
  · refine T.go 2 (fun n9 => (rfl : _ = exe ξ n9 (d + 8) j_N_end 6 [(0, .ref 16), (1, J x)] [.ref 16, J x] σ)) ?_
    refine T.get rfl rfl rfl hNx1 rfl ?_
    refine T.get rfl rfl rfl hax2 rfl ?_
    refine T.get rfl rfl rfl hrx3 rfl ?_
    refine T.icmp_le rfl rfl (by omega) (by omega) (fun c2 => ?_) (fun c2 => ?_)
    · refine T.go 1 (fun n9 => (rfl : _ = exe ξ n9 (d + 8) j_N_end 21 [(0, .ref 16), (1, J x)] [.ref 16] σ)) ?_
      refine T.get rfl rfl rfl hNx1 rfl ?_
      refine T.get rfl rfl rfl hax2 rfl ?_
      refine T.go 1 (fun n9 => (rfl : _ = exe ξ n9 (d + 8) j_N_end 28 [(0, .ref 16), (1, J x)] [J x, .ref (tpx1 + 1)] σ)) ?_
      refine T.putF (w := [tpx1 + 1]) rfl rfl hrx3 rfl rfl rfl (fs' := [J mx3, .ref bx3, J x]) rfl (Fr.len hK (kdX_ar _ (na_tp fx1tp)).2.2.1 hrx3 hbx3 (by omega) (by simp)) (fun s1 hs1 hcs1 hos1 => ?_)
      have k1 := hos1 (dq_87 _ (mem2 fx1tp)) hNx1
      have k2 := hos1 (by omega) hax2
      have k3 := hos1 (q_dif hbx3 hrx3 (fun z => by cases z)) hbx3
      refine T.go 1 (fun n9 => (rfl : _ = exe ξ n9 (d + 8) j_N_end 32 [(0, .ref 16), (1, J x)] [J 1] s1)) ?_
      have t8 := tl_at k1 rfl
      have t9 := rl_of hcs1 (by omega)
      exact T.iretz rfl rfl (by omega) ⟨_, rfl, hs1, by omega, by omega, by omega, by omega, (fun g hg => ⟨tpx1, tpf_of k1 rfl, (hg.at tpE).short ((CT_of hcs1 k3).trans ctx3.symm) (by omega)⟩)⟩
    · refine T.go 1 (fun n9 => (rfl : _ = exe ξ n9 (d + 8) j_N_end 19 [(0, .ref 16), (1, J x)] [J 0] σ)) ?_
      have t8 := tl_at hNx1 rfl
      have t9 := rl_of hrx3 (by omega)
      exact T.iretz rfl rfl (by omega) ⟨_, rfl, (Fr.refl hK), by omega, by omega, by omega, by omega, (fun g hg => hg)⟩
