/-! class NestedArchives: what its calls stand on. -/
set_option maxRecDepth 10000 in
set_option maxHeartbeats 4000000 in
theorem s_N_sumOf {ξ : Nat → Option (Nat × List Int32)} (hX : XT ξ) (d : Nat) (r : Nat) (σ : qH) (hK : K σ) (hr : r ∈ RwL)  : T ξ (d + 1) j_N_sumOf 0 (lv_args 0 [.ref r]) [] σ (fun v σ' => ∃ z : Int, v = some (JL z) ∧ σ' = σ ∧ -9223372036854775808 ≤ z ∧ z ≤ 9223372036854775807) := by
  have hX0 := hX
  obtain ⟨⟨X1, hX1, lX1⟩, ⟨X2, hX2, lX2⟩, ⟨X3, hX3, lX3⟩, ⟨X4, hX4, lX4⟩, ⟨X5, hX5, lX5⟩, ⟨X6, hX6, lX6⟩⟩ := hX
  have lY1 : X1.length = 19 := by rw [lX1]; rfl
  have lY2 : X2.length = 29 := by rw [lX2]; rfl
  have lY3 : X3.length = 29 := by rw [lX3]; rfl
  have lY4 : X4.length = 30 := by rw [lX4]; rfl
  have lY5 : X5.length = 30 := by rw [lX5]; rfl
  have lY6 : X6.length = 16 := by rw [lX6]; rfl
  obtain ⟨mx1, nx1, bx1, lx1, hrx1, hbx1, fx1a, fx1b, fx1c, fx1d, fx1e, fx1g, fx1h, fx1i⟩ := hK.row hr
  have loop4 : ∀ (f : Nat) (u : Int) (k : Int), -2147483648 ≤ u → u ≤ 2147483647 → 0 ≤ k → k ≤ 8000 → (nx1 - k).toNat < f → T ξ (d + 1) j_N_sumOf 4 [(0, .ref r), (1, J u), (2, J k)] [] σ (fun v σ' => ∃ z : Int, v = some (JL z) ∧ σ' = σ ∧ -9223372036854775808 ≤ z ∧ z ≤ 9223372036854775807) := by
    intro f
    induction f with
    | zero => intro u k i0 i1 i2 i3 hm; omega
    | succ f ih =>
      intro u k i0 i1 i2 i3 hm
      refine T.go 2 (fun n9 => (rfl : _ = exe ξ n9 (d + 1) j_N_sumOf 6 [(0, .ref r), (1, J u), (2, J k)] [.ref r, J k] σ)) ?_
      refine T.get rfl rfl rfl hrx1 rfl ?_
      refine T.icmp_ge rfl rfl (by omega) (by omega) (fun c1 => ?_) (fun c1 => ?_)
      · refine T.go 2 (fun n9 => (rfl : _ = exe ξ n9 (d + 1) j_N_sumOf 54 [(0, .ref r), (1, J u), (2, J k)] [J (-1), J u] σ)) ?_
        refine T.some1 rfl rfl (fun z1 hzz1 hyz1 _ => ?_)
        refine T.i2l rfl (by omega) ?_
        refine T.go 1 (fun n9 => (rfl : _ = exe ξ n9 (d + 1) j_N_sumOf 59 [(0, .ref r), (1, J u), (2, J k)] [JL 4294967295, JL z1] σ)) ?_
        refine T.some2 rfl rfl (fun z2 hzz2 hyz2 _ => ?_)
        exact T.lret rfl rfl ⟨_, rfl, rfl, by omega, by omega⟩
      · refine T.go 3 (fun n9 => (rfl : _ = exe ξ n9 (d + 1) j_N_sumOf 15 [(0, .ref r), (1, J u), (2, J k)] [J k, .ref r, J u] σ)) ?_
        refine T.callv (as := [J k]) (r := [J u]) rfl rfl rfl (RwL_lt _ hr).2.2.1 hrx1 rfl (s_R_at d r k σ hK hr  (by omega)) (fun v1 s1 hqs1 => ?_)
        obtain ⟨z3, rfl, esz3, hzz3, hyz3⟩ := hqs1
        rw [esz3]
        refine T.some1 rfl rfl (fun z4 hzz4 hyz4 _ => ?_)
        refine T.go 3 (fun n9 => (rfl : _ = exe ξ n9 (d + 1) j_N_sumOf 22 [(0, .ref r), (1, J z4), (2, J k)] [J 4, J z4] σ)) ?_
        refine T.some1 rfl rfl (fun z5 hzz5 hyz5 _ => ?_)
        refine T.go 3 (fun n9 => (rfl : _ = exe ξ n9 (d + 1) j_N_sumOf 29 [(0, .ref r), (1, J z4), (2, J k)] [J 15, J z4, .ref 6, J z5] σ)) ?_
        refine T.iandm (p := 16) 4 rfl (by decide) (by decide) (by decide) (by omega) ?_
        refine T.xld rfl rfl hX6 (by omega) (fun z7 hzz7 hyz7 hez7 => ?_)
        refine T.some1 rfl rfl (fun z8 hzz8 hyz8 _ => ?_)
        refine T.go 3 (fun n9 => (rfl : _ = exe ξ n9 (d + 1) j_N_sumOf 35 [(0, .ref r), (1, J z8), (2, J k)] [J 4, J z8] σ)) ?_
        refine T.some1 rfl rfl (fun z9 hzz9 hyz9 _ => ?_)
        refine T.go 3 (fun n9 => (rfl : _ = exe ξ n9 (d + 1) j_N_sumOf 42 [(0, .ref r), (1, J z8), (2, J k)] [J 15, J z8, .ref 6, J z9] σ)) ?_
        refine T.iandm (p := 16) 4 rfl (by decide) (by decide) (by decide) (by omega) ?_
        refine T.xld rfl rfl hX6 (by omega) (fun z11 hzz11 hyz11 hez11 => ?_)
        refine T.some1 rfl rfl (fun z12 hzz12 hyz12 _ => ?_)
        refine T.go 1 (fun n9 => (rfl : _ = exe ξ n9 (d + 1) j_N_sumOf 46 [(0, .ref r), (1, J z12), (2, J k)] [] σ)) ?_
        refine T.iinc (lv' := [(0, .ref r), (1, J z12), (2, J (k + 1))]) rfl rfl rfl rfl ?_
        refine T.go 1 (fun n9 => (rfl : _ = exe ξ n9 (d + 1) j_N_sumOf 4 [(0, .ref r), (1, J z12), (2, J (k + 1))] [] σ)) ?_
        exact ih  z12 (k + 1) (by omega) (by omega) (by omega) (by omega) (by omega)
  refine T.go 4 (fun n9 => (rfl : _ = exe ξ n9 (d + 1) j_N_sumOf 4 [(0, .ref r), (1, J (-1)), (2, J 0)] [] σ)) ?_
  exact loop4 _ (-1) 0 (by omega) (by omega) (by omega) (by omega) (Nat.lt_succ_self _)

set_option maxRecDepth 10000 in
set_option maxHeartbeats 4000000 in
theorem s_N_note {ξ : Nat → Option (Nat × List Int32)} (d : Nat) (x : Int) (y : Int) (σ : qH) (hK : K σ)  (rx : -2147483648 ≤ x ∧ x ≤ 2147483647) (ry : -2147483648 ≤ y ∧ y ≤ 2147483647) : T ξ d j_N_note 0 (lv_args 0 [.ref 16, J x, J y]) [] σ (fun v σ' => v = none ∧ Fr [16] σ σ' ∧ nsx σ' = nsx σ) := by
  obtain ⟨kex1, scx1, tpx1, oux1, mox1, sgx1, hox1, mcx1, lfx1, lpx1, hNx1, fx1ke, fx1sc, fx1tp, fx1ou, fx1mo, fx1sg, fx1d, fx1e, fx1f, fx1g, fx1h, fx1i, fx1j⟩ := hK.na
  refine T.go 2 (fun n9 => (rfl : _ = exe ξ n9 d j_N_note 2 [(0, .ref 16), (1, J x), (2, J y)] [J x, .ref 16] σ)) ?_
  refine T.putF (w := [16]) rfl rfl hNx1 rfl rfl rfl (fs' := [.ref 17, .ref 41, .ref 48, .ref 51, .ref 53, .ref 55, .ref 57, .ref kex1, .ref scx1, .ref tpx1, .ref oux1, J hox1, .ref mox1, .ref sgx1, J mcx1, J x, J lpx1]) rfl (Fr.other hK hNx1 rfl (show okN _ from ⟨_, _, _, _, _, _, _, _, _, _, rfl, by omega⟩) (by decide) (Or.inl (by decide)) (fun _ z => by cases z) (by simp)) (fun s1 hs1 hcs1 hos1 => ?_)
  refine T.go 2 (fun n9 => (rfl : _ = exe ξ n9 d j_N_note 7 [(0, .ref 16), (1, J x), (2, J y)] [J y, .ref 16] s1)) ?_
  refine T.putF (w := [16]) rfl rfl hcs1 rfl rfl rfl (fs' := [.ref 17, .ref 41, .ref 48, .ref 51, .ref 53, .ref 55, .ref 57, .ref kex1, .ref scx1, .ref tpx1, .ref oux1, J hox1, .ref mox1, .ref sgx1, J mcx1, J x, J y]) rfl (Fr.other hs1.1 hcs1 rfl (show okN _ from ⟨_, _, _, _, _, _, _, _, _, _, rfl, by omega⟩) (by decide) (Or.inl (by decide)) (fun _ z => by cases z) (by simp)) (fun s2 hs2 hcs2 hos2 => ?_)
  have gs2 := hs1.trans hs2
  have tq1 : nsx s2 = nsx σ := (nsx_of hcs2).trans (nsx_of hNx1).symm
  exact T.vret rfl rfl ⟨rfl, gs2, tq1⟩

set_option maxRecDepth 10000 in
set_option maxHeartbeats 4000000 in
theorem s_N_unpackEntry {ξ : Nat → Option (Nat × List Int32)} (hX : XT ξ) (d : Nat) (a : Nat) (x : Int) (q : Nat) (σ : qH) (hK : K σ) (ha : a ∈ ArL) (hq : q ∈ RwL) (haq : a + 1 ≠ q) (rx : -2147483648 ≤ x ∧ x ≤ 2147483647) : T ξ (d + 5) j_N_unpackEntry 0 (lv_args 0 [.ref 16, .ref a, J x, .ref q]) [] σ (fun v σ' => ∃ z : Int, v = some (J z) ∧ Fr [17, 18, 20, 21, 22, 24, 25, 26, 28, 29, 30, q] σ σ' ∧ 0 ≤ z ∧ z ≤ 9) := by
  have hX0 := hX
  obtain ⟨⟨X1, hX1, lX1⟩, ⟨X2, hX2, lX2⟩, ⟨X3, hX3, lX3⟩, ⟨X4, hX4, lX4⟩, ⟨X5, hX5, lX5⟩, ⟨X6, hX6, lX6⟩⟩ := hX
  have lY1 : X1.length = 19 := by rw [lX1]; rfl
  have lY2 : X2.length = 29 := by rw [lX2]; rfl
  have lY3 : X3.length = 29 := by rw [lX3]; rfl
  have lY4 : X4.length = 30 := by rw [lX4]; rfl
  have lY5 : X5.length = 30 := by rw [lX5]; rfl
  have lY6 : X6.length = 16 := by rw [lX6]; rfl
  refine T.go 2 (fun n9 => (rfl : _ = exe ξ n9 (d + 5) j_N_unpackEntry 2 [(0, .ref 16), (1, .ref a), (2, J x), (3, .ref q)] [J x, .ref a] σ)) ?_
  obtain ⟨ex1, erx1, dix1, bax1, fpx1, hax1, fx1a, fx1b, fx1c, fx1d, fx1e, fx1f, fx1g, fx1h, fx1i, fx1j⟩ := hK.arc ha
  refine T.callv (as := [J x]) (r := []) rfl rfl rfl (ArL_lt _ ha).2.2.1 hax1 rfl (s_A_method (d + 2) a x σ hK ha  (by omega)) (fun v1 s1 hqs1 => ?_)
  obtain ⟨z1, rfl, esz1, hzz1, hyz1⟩ := hqs1
  rw [esz1]
  refine T.go 3 (fun n9 => (rfl : _ = exe ξ n9 (d + 5) j_N_unpackEntry 9 [(0, .ref 16), (1, .ref a), (2, J x), (3, .ref q), (4, J z1)] [J x, .ref a] σ)) ?_
  refine T.callv (as := [J x]) (r := []) rfl rfl rfl (ArL_lt _ ha).2.2.1 hax1 rfl (s_A_flags (d + 2) a x σ hK ha  (by omega)) (fun v2 s2 hqs2 => ?_)
  obtain ⟨z2, rfl, esz2, hzz2, hyz2⟩ := hqs2
  rw [esz2]
  refine T.go 1 (fun n9 => (rfl : _ = exe ξ n9 (d + 5) j_N_unpackEntry 13 [(0, .ref 16), (1, .ref a), (2, J x), (3, .ref q), (4, J z1)] [J 1, J z2] σ)) ?_
  refine T.iandm (p := 2) 1 rfl (by decide) (by decide) (by decide) (by omega) ?_
  refine T.go 1 (fun n9 => (rfl : _ = exe ξ n9 (d + 5) j_N_unpackEntry 15 [(0, .ref 16), (1, .ref a), (2, J x), (3, .ref q), (4, J z1)] [J 1, J (z2 % 2)] σ)) ?_
  refine T.icmp_eq rfl rfl (by omega) (by omega) (fun c1 => ?_) (fun c1 => ?_)
  · refine T.go 1 (fun n9 => (rfl : _ = exe ξ n9 (d + 5) j_N_unpackEntry 32 [(0, .ref 16), (1, .ref a), (2, J x), (3, .ref q), (4, J z1)] [J 6] σ)) ?_
    exact T.ireti rfl rfl ⟨_, rfl, (Fr.refl hK), by omega, by omega⟩
  · refine T.go 1 (fun n9 => (rfl : _ = exe ξ n9 (d + 5) j_N_unpackEntry 20 [(0, .ref 16), (1, .ref a), (2, J x), (3, .ref q), (4, J z1)] [J z1] σ)) ?_
    refine T.if_eq rfl rfl (by omega) (fun c2 => ?_) (fun c2 => ?_)
    · refine T.go 2 (fun n9 => (rfl : _ = exe ξ n9 (d + 5) j_N_unpackEntry 35 [(0, .ref 16), (1, .ref a), (2, J x), (3, .ref q), (4, J z1)] [J x, .ref a] σ)) ?_
      refine T.callv (as := [J x]) (r := []) rfl rfl rfl (ArL_lt _ ha).2.2.1 hax1 rfl (s_A_size (d + 2) a x σ hK ha  (by omega)) (fun v3 s3 hqs3 => ?_)
      obtain ⟨z4, rfl, esz4, hzz4, hyz4⟩ := hqs3
      rw [esz4]
      refine T.go 2 (fun n9 => (rfl : _ = exe ξ n9 (d + 5) j_N_unpackEntry 42 [(0, .ref 16), (1, .ref a), (2, J x), (3, .ref q), (4, J z1), (5, JL z4)] [JL z4] σ)) ?_
      refine T.go 1 (fun n9 => (rfl : _ = exe ξ n9 (d + 5) j_N_unpackEntry 45 [(0, .ref 16), (1, .ref a), (2, J x), (3, .ref q), (4, J z1), (5, JL z4)] [JL 8000, JL z4] σ)) ?_
      refine T.lcmp rfl (by omega) (by omega) (fun c3 => ?_) (fun c3 => ?_) (fun c3 => ?_)
      · refine T.go 1 (fun n9 => (rfl : _ = exe ξ n9 (d + 5) j_N_unpackEntry 52 [(0, .ref 16), (1, .ref a), (2, J x), (3, .ref q), (4, J z1), (5, JL z4)] [] σ)) ?_
        refine T.go 1 (fun n9 => (rfl : _ = exe ξ n9 (d + 5) j_N_unpackEntry 53 [(0, .ref 16), (1, .ref a), (2, J x), (3, .ref q), (4, J z1), (5, JL z4)] [.ref q] σ)) ?_
        obtain ⟨mx2, nx2, bx2, lx2, hrx2, hbx2, fx2a, fx2b, fx2c, fx2d, fx2e, fx2g, fx2h, fx2i⟩ := hK.row hq
        refine T.callv (as := []) (r := []) rfl rfl rfl (RwL_lt _ hq).2.2.1 hrx2 rfl (s_R_clear (d + 4) q σ hK hq  ) (fun v4 s4 hqs4 => ?_)
        obtain ⟨rfl, hs4, pz5_0, pz5_1⟩ := hqs4
        have es4 := hs4
        have hs4 := hs4.sub (w' := [17, 18, 20, 21, 22, 24, 25, 26, 28, 29, 30, q]) (List.forall_mem_cons.mpr ⟨(by simp), (fun _ h => by cases h)⟩)
        have k1 := es4.b.1 _ _ (nm_c ((by decide : ∀ u ∈ ArL, ∀ v ∈ RwL, u ≠ v) _ ha _ hq) nm_0) (fun l z => by cases z) hax1
        refine T.go 2 (fun n9 => (rfl : _ = exe ξ n9 (d + 5) j_N_unpackEntry 58 [(0, .ref 16), (1, .ref a), (2, J x), (3, .ref q), (4, J z1), (5, JL z4)] [J x, .ref a] s4)) ?_
        refine T.callv (as := [J x]) (r := []) rfl rfl rfl (ArL_lt _ ha).2.2.1 k1 rfl (s_A_dataPlace (d + 3) a x s4 hs4.1 ha  (by omega)) (fun v5 s5 hqs5 => ?_)
        obtain ⟨z6, rfl, esz6, hzz6, hyz6⟩ := hqs5
        rw [esz6]
        refine T.go 3 (fun n9 => (rfl : _ = exe ξ n9 (d + 5) j_N_unpackEntry 65 [(0, .ref 16), (1, .ref a), (2, J x), (3, .ref q), (4, J z1), (5, JL z4), (7, J z6)] [J x, .ref a] s4)) ?_
        refine T.callv (as := [J x]) (r := []) rfl rfl rfl (ArL_lt _ ha).2.2.1 k1 rfl (s_A_packedSize (d + 2) a x s4 hs4.1 ha  (by omega)) (fun v6 s6 hqs6 => ?_)
        obtain ⟨z7, rfl, esz7, hzz7, hyz7⟩ := hqs6
        rw [esz7]
        refine T.l2i rfl ?_
        refine T.norm (fun z8 hzz8 hyz8 hwz8 => ?_)
        refine T.go 2 (fun n9 => (rfl : _ = exe ξ n9 (d + 5) j_N_unpackEntry 73 [(0, .ref 16), (1, .ref a), (2, J x), (3, .ref q), (4, J z1), (5, JL z4), (7, J z6), (8, J z8)] [J z1] s4)) ?_
        refine T.if_ne rfl rfl (by omega) (fun c4 => ?_) (fun c4 => ?_)
        · refine T.go 1 (fun n9 => (rfl : _ = exe ξ n9 (d + 5) j_N_unpackEntry 109 [(0, .ref 16), (1, .ref a), (2, J x), (3, .ref q), (4, J z1), (5, JL z4), (7, J z6), (8, J z8)] [.ref 16] s4)) ?_
          obtain ⟨kex3, scx3, tpx3, oux3, mox3, sgx3, hox3, mcx3, lfx3, lpx3, hNx3, fx3ke, fx3sc, fx3tp, fx3ou, fx3mo, fx3sg, fx3d, fx3e, fx3f, fx3g, fx3h, fx3i, fx3j⟩ := hs4.1.na
          refine T.get rfl rfl rfl hNx3 rfl ?_
          refine T.go 1 (fun n9 => (rfl : _ = exe ξ n9 (d + 5) j_N_unpackEntry 113 [(0, .ref 16), (1, .ref a), (2, J x), (3, .ref q), (4, J z1), (5, JL z4), (7, J z6), (8, J z8)] [.ref a, .ref 17] s4)) ?_
          refine T.get rfl rfl rfl k1 rfl ?_
          refine T.go 4 (fun n9 => (rfl : _ = exe ξ n9 (d + 5) j_N_unpackEntry 123 [(0, .ref 16), (1, .ref a), (2, J x), (3, .ref q), (4, J z1), (5, JL z4), (7, J z6), (8, J z8)] [JL z4, .ref q, J z8, J z6, .ref (a + 1), .ref 17] s4)) ?_
          refine T.l2i rfl ?_
          obtain ⟨sx4, tx4, wx4, bix4, bex4, rox4, hux4, fx4a, fx4b, fx4c, fx4d, fx4e, fx4f, fx4g, fx4h, fx4i⟩ := hs4.1.unp
          refine T.callv (as := [.ref (a + 1), J z6, J z8, .ref q, J z4]) (r := []) rfl rfl rfl rfl hux4 rfl (s_U_unpack hX0 d (a + 1) z6 z8 q z4 s4 hs4.1 (kdX_ar _ ha).2.2.1 hq haq (by omega) (by omega) (by omega) (by omega) (by omega)) (fun v7 s7 hqs7 => ?_)
          obtain ⟨z9, rfl, hs7, hzz9, hyz9⟩ := hqs7
          have es7 := hs7
          have k2 := es7.b.1 _ _ (nm_c ((by decide : ∀ u ∈ ArL, u ≠ 17) _ ha) (nm_c ((by decide : ∀ u ∈ ArL, u ≠ 18) _ ha) (nm_c ((by decide : ∀ u ∈ ArL, u ≠ 20) _ ha) (nm_c ((by decide : ∀ u ∈ ArL, u ≠ 21) _ ha) (nm_c ((by decide : ∀ u ∈ ArL, u ≠ 22) _ ha) (nm_c ((by decide : ∀ u ∈ ArL, u ≠ 24) _ ha) (nm_c ((by decide : ∀ u ∈ ArL, u ≠ 25) _ ha) (nm_c ((by decide : ∀ u ∈ ArL, u ≠ 26) _ ha) (nm_c ((by decide : ∀ u ∈ ArL, u ≠ 28) _ ha) (nm_c ((by decide : ∀ u ∈ ArL, u ≠ 29) _ ha) (nm_c ((by decide : ∀ u ∈ ArL, u ≠ 30) _ ha) (nm_c ((by decide : ∀ u ∈ ArL, ∀ v ∈ RwL, u ≠ v) _ ha _ hq) nm_0)))))))))))) (fun l z => by cases z) k1
          have k3 := es7.b.1 _ _ (nm_c (by decide) (nm_c (by decide) (nm_c (by decide) (nm_c (by decide) (nm_c (by decide) (nm_c (by decide) (nm_c (by decide) (nm_c (by decide) (nm_c (by decide) (nm_c (by decide) (nm_c (by decide) (nm_c ((by decide : ∀ v ∈ RwL, (16 : Nat) ≠ v) _ hq) nm_0)))))))))))) (fun l z => by cases z) hNx3
          have gs7 := hs4.trans hs7
          refine T.go 2 (fun n9 => (rfl : _ = exe ξ n9 (d + 5) j_N_unpackEntry 131 [(0, .ref 16), (1, .ref a), (2, J x), (3, .ref q), (4, J z1), (5, JL z4), (7, J z6), (8, J z8), (9, J z9)] [J z9] s7)) ?_
          refine T.if_ne rfl rfl (by omega) (fun c5 => ?_) (fun c5 => ?_)
          · refine T.go 1 (fun n9 => (rfl : _ = exe ξ n9 (d + 5) j_N_unpackEntry 138 [(0, .ref 16), (1, .ref a), (2, J x), (3, .ref q), (4, J z1), (5, JL z4), (7, J z6), (8, J z8), (9, J z9)] [.ref q] s7)) ?_
            refine T.calls (as := [.ref q]) (r := []) rfl rfl (by decide) rfl rfl (s_N_sumOf hX0 (d + 3) q s7 hs7.1 hq  ) (fun v8 s8 hqs8 => ?_)
            obtain ⟨z10, rfl, esz10, hzz10, hyz10⟩ := hqs8
            rw [esz10]
            refine T.go 2 (fun n9 => (rfl : _ = exe ξ n9 (d + 5) j_N_unpackEntry 143 [(0, .ref 16), (1, .ref a), (2, J x), (3, .ref q), (4, J z1), (5, JL z4), (7, J z6), (8, J z8), (9, J z9)] [J x, .ref a, JL z10] s7)) ?_
            refine T.callv (as := [J x]) (r := [JL z10]) rfl rfl rfl (ArL_lt _ ha).2.2.1 k2 rfl (s_A_sum (d + 2) a x s7 hs7.1 ha  (by omega)) (fun v9 s9 hqs9 => ?_)
            obtain ⟨z11, rfl, esz11, hzz11, hyz11⟩ := hqs9
            rw [esz11]
            refine T.lcmp rfl (by omega) (by omega) (fun c6 => ?_) (fun c6 => ?_) (fun c6 => ?_)
            · refine T.go 1 (fun n9 => (rfl : _ = exe ξ n9 (d + 5) j_N_unpackEntry 154 [(0, .ref 16), (1, .ref a), (2, J x), (3, .ref q), (4, J z1), (5, JL z4), (7, J z6), (8, J z8), (9, J z9)] [] s7)) ?_
              refine T.go 1 (fun n9 => (rfl : _ = exe ξ n9 (d + 5) j_N_unpackEntry 156 [(0, .ref 16), (1, .ref a), (2, J x), (3, .ref q), (4, J z1), (5, JL z4), (7, J z6), (8, J z8), (9, J z9)] [J 9] s7)) ?_
              exact T.ireti rfl rfl ⟨_, rfl, gs7, by omega, by omega⟩
            · refine T.go 1 (fun n9 => (rfl : _ = exe ξ n9 (d + 5) j_N_unpackEntry 150 [(0, .ref 16), (1, .ref a), (2, J x), (3, .ref q), (4, J z1), (5, JL z4), (7, J z6), (8, J z8), (9, J z9)] [] s7)) ?_
              refine T.go 2 (fun n9 => (rfl : _ = exe ξ n9 (d + 5) j_N_unpackEntry 156 [(0, .ref 16), (1, .ref a), (2, J x), (3, .ref q), (4, J z1), (5, JL z4), (7, J z6), (8, J z8), (9, J z9)] [J 0] s7)) ?_
              exact T.ireti rfl rfl ⟨_, rfl, gs7, by omega, by omega⟩
            · refine T.go 1 (fun n9 => (rfl : _ = exe ξ n9 (d + 5) j_N_unpackEntry 154 [(0, .ref 16), (1, .ref a), (2, J x), (3, .ref q), (4, J z1), (5, JL z4), (7, J z6), (8, J z8), (9, J z9)] [] s7)) ?_
              refine T.go 1 (fun n9 => (rfl : _ = exe ξ n9 (d + 5) j_N_unpackEntry 156 [(0, .ref 16), (1, .ref a), (2, J x), (3, .ref q), (4, J z1), (5, JL z4), (7, J z6), (8, J z8), (9, J z9)] [J 9] s7)) ?_
              exact T.ireti rfl rfl ⟨_, rfl, gs7, by omega, by omega⟩
          · refine T.go 1 (fun n9 => (rfl : _ = exe ξ n9 (d + 5) j_N_unpackEntry 136 [(0, .ref 16), (1, .ref a), (2, J x), (3, .ref q), (4, J z1), (5, JL z4), (7, J z6), (8, J z8), (9, J z9)] [J 8] s7)) ?_
            exact T.ireti rfl rfl ⟨_, rfl, gs7, by omega, by omega⟩
        · refine T.go 1 (fun n9 => (rfl : _ = exe ξ n9 (d + 5) j_N_unpackEntry 78 [(0, .ref 16), (1, .ref a), (2, J x), (3, .ref q), (4, J z1), (5, JL z4), (7, J z6), (8, J z8)] [J z8] s4)) ?_
          refine T.i2l rfl (by omega) ?_
          refine T.go 1 (fun n9 => (rfl : _ = exe ξ n9 (d + 5) j_N_unpackEntry 81 [(0, .ref 16), (1, .ref a), (2, J x), (3, .ref q), (4, J z1), (5, JL z4), (7, J z6), (8, J z8)] [JL z4, JL z8] s4)) ?_
          refine T.lcmp rfl (by omega) (by omega) (fun c7 => ?_) (fun c7 => ?_) (fun c7 => ?_)
          · refine T.go 1 (fun n9 => (rfl : _ = exe ξ n9 (d + 5) j_N_unpackEntry 104 [(0, .ref 16), (1, .ref a), (2, J x), (3, .ref q), (4, J z1), (5, JL z4), (7, J z6), (8, J z8)] [] s4)) ?_
            refine T.go 6 (fun n9 => (rfl : _ = exe ξ n9 (d + 5) j_N_unpackEntry 136 [(0, .ref 16), (1, .ref a), (2, J x), (3, .ref q), (4, J z1), (5, JL z4), (7, J z6), (8, J z8), (9, J 0)] [J 8] s4)) ?_
            exact T.ireti rfl rfl ⟨_, rfl, hs4, by omega, by omega⟩
          · refine T.go 1 (fun n9 => (rfl : _ = exe ξ n9 (d + 5) j_N_unpackEntry 85 [(0, .ref 16), (1, .ref a), (2, J x), (3, .ref q), (4, J z1), (5, JL z4), (7, J z6), (8, J z8)] [] s4)) ?_
            refine T.go 2 (fun n9 => (rfl : _ = exe ξ n9 (d + 5) j_N_unpackEntry 87 [(0, .ref 16), (1, .ref a), (2, J x), (3, .ref q), (4, J z1), (5, JL z4), (7, J z6), (8, J z8)] [.ref a, .ref q] s4)) ?_
            refine T.get rfl rfl rfl k1 rfl ?_
            refine T.go 2 (fun n9 => (rfl : _ = exe ξ n9 (d + 5) j_N_unpackEntry 94 [(0, .ref 16), (1, .ref a), (2, J x), (3, .ref q), (4, J z1), (5, JL z4), (7, J z6), (8, J z8)] [J z8, J z6, .ref (a + 1), .ref q] s4)) ?_
            obtain ⟨mx5, nx5, bx5, lx5, hrx5, hbx5, fx5a, fx5b, fx5c, fx5d, fx5e, fx5g, fx5h, fx5i⟩ := hs4.1.row hq
            refine T.callv (as := [.ref (a + 1), J z6, J z8]) (r := []) rfl rfl rfl (RwL_lt _ hq).2.2.1 hrx5 rfl (s_R_addPart (d + 3) q (a + 1) z6 z8 s4 hs4.1 hq (kdX_ar _ ha).2.2.1 haq (by omega) (by omega)) (fun v10 s10 hqs10 => ?_)
            obtain ⟨z12, rfl, hs10, hzz12, hyz12, pz12_0⟩ := hqs10
            have es10 := hs10
            have hs10 := hs10.sub (w' := [17, 18, 20, 21, 22, 24, 25, 26, 28, 29, 30, q]) (List.forall_mem_cons.mpr ⟨(by simp), (fun _ h => by cases h)⟩)
            have k4 := es10.b.1 _ _ (nm_c ((by decide : ∀ u ∈ ArL, ∀ v ∈ RwL, u ≠ v) _ ha _ hq) nm_0) (fun l z => by cases z) k1
            have gs10 := hs4.trans hs10
            refine T.if_eq rfl rfl (by omega) (fun c8 => ?_) (fun c8 => ?_)
            · refine T.go 6 (fun n9 => (rfl : _ = exe ξ n9 (d + 5) j_N_unpackEntry 136 [(0, .ref 16), (1, .ref a), (2, J x), (3, .ref q), (4, J z1), (5, JL z4), (7, J z6), (8, J z8), (9, J 0)] [J 8] s10)) ?_
              exact T.ireti rfl rfl ⟨_, rfl, gs10, by omega, by omega⟩
            · refine T.go 6 (fun n9 => (rfl : _ = exe ξ n9 (d + 5) j_N_unpackEntry 138 [(0, .ref 16), (1, .ref a), (2, J x), (3, .ref q), (4, J z1), (5, JL z4), (7, J z6), (8, J z8), (9, J 1)] [.ref q] s10)) ?_
              refine T.calls (as := [.ref q]) (r := []) rfl rfl (by decide) rfl rfl (s_N_sumOf hX0 (d + 3) q s10 hs10.1 hq  ) (fun v11 s11 hqs11 => ?_)
              obtain ⟨z13, rfl, esz13, hzz13, hyz13⟩ := hqs11
              rw [esz13]
              refine T.go 2 (fun n9 => (rfl : _ = exe ξ n9 (d + 5) j_N_unpackEntry 143 [(0, .ref 16), (1, .ref a), (2, J x), (3, .ref q), (4, J z1), (5, JL z4), (7, J z6), (8, J z8), (9, J 1)] [J x, .ref a, JL z13] s10)) ?_
              refine T.callv (as := [J x]) (r := [JL z13]) rfl rfl rfl (ArL_lt _ ha).2.2.1 k4 rfl (s_A_sum (d + 2) a x s10 hs10.1 ha  (by omega)) (fun v12 s12 hqs12 => ?_)
              obtain ⟨z14, rfl, esz14, hzz14, hyz14⟩ := hqs12
              rw [esz14]
              refine T.lcmp rfl (by omega) (by omega) (fun c9 => ?_) (fun c9 => ?_) (fun c9 => ?_)
              · refine T.go 1 (fun n9 => (rfl : _ = exe ξ n9 (d + 5) j_N_unpackEntry 154 [(0, .ref 16), (1, .ref a), (2, J x), (3, .ref q), (4, J z1), (5, JL z4), (7, J z6), (8, J z8), (9, J 1)] [] s10)) ?_
                refine T.go 1 (fun n9 => (rfl : _ = exe ξ n9 (d + 5) j_N_unpackEntry 156 [(0, .ref 16), (1, .ref a), (2, J x), (3, .ref q), (4, J z1), (5, JL z4), (7, J z6), (8, J z8), (9, J 1)] [J 9] s10)) ?_
                exact T.ireti rfl rfl ⟨_, rfl, gs10, by omega, by omega⟩
              · refine T.go 1 (fun n9 => (rfl : _ = exe ξ n9 (d + 5) j_N_unpackEntry 150 [(0, .ref 16), (1, .ref a), (2, J x), (3, .ref q), (4, J z1), (5, JL z4), (7, J z6), (8, J z8), (9, J 1)] [] s10)) ?_
                refine T.go 2 (fun n9 => (rfl : _ = exe ξ n9 (d + 5) j_N_unpackEntry 156 [(0, .ref 16), (1, .ref a), (2, J x), (3, .ref q), (4, J z1), (5, JL z4), (7, J z6), (8, J z8), (9, J 1)] [J 0] s10)) ?_
                exact T.ireti rfl rfl ⟨_, rfl, gs10, by omega, by omega⟩
              · refine T.go 1 (fun n9 => (rfl : _ = exe ξ n9 (d + 5) j_N_unpackEntry 154 [(0, .ref 16), (1, .ref a), (2, J x), (3, .ref q), (4, J z1), (5, JL z4), (7, J z6), (8, J z8), (9, J 1)] [] s10)) ?_
                refine T.go 1 (fun n9 => (rfl : _ = exe ξ n9 (d + 5) j_N_unpackEntry 156 [(0, .ref 16), (1, .ref a), (2, J x), (3, .ref q), (4, J z1), (5, JL z4), (7, J z6), (8, J z8), (9, J 1)] [J 9] s10)) ?_
                exact T.ireti rfl rfl ⟨_, rfl, gs10, by omega, by omega⟩
          · refine T.go 1 (fun n9 => (rfl : _ = exe ξ n9 (d + 5) j_N_unpackEntry 104 [(0, .ref 16), (1, .ref a), (2, J x), (3, .ref q), (4, J z1), (5, JL z4), (7, J z6), (8, J z8)] [] s4)) ?_
            refine T.go 6 (fun n9 => (rfl : _ = exe ξ n9 (d + 5) j_N_unpackEntry 136 [(0, .ref 16), (1, .ref a), (2, J x), (3, .ref q), (4, J z1), (5, JL z4), (7, J z6), (8, J z8), (9, J 0)] [J 8] s4)) ?_
            exact T.ireti rfl rfl ⟨_, rfl, hs4, by omega, by omega⟩
      · refine T.go 1 (fun n9 => (rfl : _ = exe ξ n9 (d + 5) j_N_unpackEntry 52 [(0, .ref 16), (1, .ref a), (2, J x), (3, .ref q), (4, J z1), (5, JL z4)] [] σ)) ?_
        refine T.go 1 (fun n9 => (rfl : _ = exe ξ n9 (d + 5) j_N_unpackEntry 53 [(0, .ref 16), (1, .ref a), (2, J x), (3, .ref q), (4, J z1), (5, JL z4)] [.ref q] σ)) ?_
        obtain ⟨mx6, nx6, bx6, lx6, hrx6, hbx6, fx6a, fx6b, fx6c, fx6d, fx6e, fx6g, fx6h, fx6i⟩ := hK.row hq
        refine T.callv (as := []) (r := []) rfl rfl rfl (RwL_lt _ hq).2.2.1 hrx6 rfl (s_R_clear (d + 4) q σ hK hq  ) (fun v13 s13 hqs13 => ?_)
        obtain ⟨rfl, hs13, pz15_0, pz15_1⟩ := hqs13
        have es13 := hs13
        have hs13 := hs13.sub (w' := [17, 18, 20, 21, 22, 24, 25, 26, 28, 29, 30, q]) (List.forall_mem_cons.mpr ⟨(by simp), (fun _ h => by cases h)⟩)
        have k5 := es13.b.1 _ _ (nm_c ((by decide : ∀ u ∈ ArL, ∀ v ∈ RwL, u ≠ v) _ ha _ hq) nm_0) (fun l z => by cases z) hax1
        refine T.go 2 (fun n9 => (rfl : _ = exe ξ n9 (d + 5) j_N_unpackEntry 58 [(0, .ref 16), (1, .ref a), (2, J x), (3, .ref q), (4, J z1), (5, JL z4)] [J x, .ref a] s13)) ?_
        refine T.callv (as := [J x]) (r := []) rfl rfl rfl (ArL_lt _ ha).2.2.1 k5 rfl (s_A_dataPlace (d + 3) a x s13 hs13.1 ha  (by omega)) (fun v14 s14 hqs14 => ?_)
        obtain ⟨z16, rfl, esz16, hzz16, hyz16⟩ := hqs14
        rw [esz16]
        refine T.go 3 (fun n9 => (rfl : _ = exe ξ n9 (d + 5) j_N_unpackEntry 65 [(0, .ref 16), (1, .ref a), (2, J x), (3, .ref q), (4, J z1), (5, JL z4), (7, J z16)] [J x, .ref a] s13)) ?_
        refine T.callv (as := [J x]) (r := []) rfl rfl rfl (ArL_lt _ ha).2.2.1 k5 rfl (s_A_packedSize (d + 2) a x s13 hs13.1 ha  (by omega)) (fun v15 s15 hqs15 => ?_)
        obtain ⟨z17, rfl, esz17, hzz17, hyz17⟩ := hqs15
        rw [esz17]
        refine T.l2i rfl ?_
        refine T.norm (fun z18 hzz18 hyz18 hwz18 => ?_)
        refine T.go 2 (fun n9 => (rfl : _ = exe ξ n9 (d + 5) j_N_unpackEntry 73 [(0, .ref 16), (1, .ref a), (2, J x), (3, .ref q), (4, J z1), (5, JL z4), (7, J z16), (8, J z18)] [J z1] s13)) ?_
        refine T.if_ne rfl rfl (by omega) (fun c10 => ?_) (fun c10 => ?_)
        · refine T.go 1 (fun n9 => (rfl : _ = exe ξ n9 (d + 5) j_N_unpackEntry 109 [(0, .ref 16), (1, .ref a), (2, J x), (3, .ref q), (4, J z1), (5, JL z4), (7, J z16), (8, J z18)] [.ref 16] s13)) ?_
          obtain ⟨kex7, scx7, tpx7, oux7, mox7, sgx7, hox7, mcx7, lfx7, lpx7, hNx7, fx7ke, fx7sc, fx7tp, fx7ou, fx7mo, fx7sg, fx7d, fx7e, fx7f, fx7g, fx7h, fx7i, fx7j⟩ := hs13.1.na
          refine T.get rfl rfl rfl hNx7 rfl ?_
          refine T.go 1 (fun n9 => (rfl : _ = exe ξ n9 (d + 5) j_N_unpackEntry 113 [(0, .ref 16), (1, .ref a), (2, J x), (3, .ref q), (4, J z1), (5, JL z4), (7, J z16), (8, J z18)] [.ref a, .ref 17] s13)) ?_
          refine T.get rfl rfl rfl k5 rfl ?_
          refine T.go 4 (fun n9 => (rfl : _ = exe ξ n9 (d + 5) j_N_unpackEntry 123 [(0, .ref 16), (1, .ref a), (2, J x), (3, .ref q), (4, J z1), (5, JL z4), (7, J z16), (8, J z18)] [JL z4, .ref q, J z18, J z16, .ref (a + 1), .ref 17] s13)) ?_
          refine T.l2i rfl ?_
          obtain ⟨sx8, tx8, wx8, bix8, bex8, rox8, hux8, fx8a, fx8b, fx8c, fx8d, fx8e, fx8f, fx8g, fx8h, fx8i⟩ := hs13.1.unp
          refine T.callv (as := [.ref (a + 1), J z16, J z18, .ref q, J z4]) (r := []) rfl rfl rfl rfl hux8 rfl (s_U_unpack hX0 d (a + 1) z16 z18 q z4 s13 hs13.1 (kdX_ar _ ha).2.2.1 hq haq (by omega) (by omega) (by omega) (by omega) (by omega)) (fun v16 s16 hqs16 => ?_)
          obtain ⟨z19, rfl, hs16, hzz19, hyz19⟩ := hqs16
          have es16 := hs16
          have k6 := es16.b.1 _ _ (nm_c ((by decide : ∀ u ∈ ArL, u ≠ 17) _ ha) (nm_c ((by decide : ∀ u ∈ ArL, u ≠ 18) _ ha) (nm_c ((by decide : ∀ u ∈ ArL, u ≠ 20) _ ha) (nm_c ((by decide : ∀ u ∈ ArL, u ≠ 21) _ ha) (nm_c ((by decide : ∀ u ∈ ArL, u ≠ 22) _ ha) (nm_c ((by decide : ∀ u ∈ ArL, u ≠ 24) _ ha) (nm_c ((by decide : ∀ u ∈ ArL, u ≠ 25) _ ha) (nm_c ((by decide : ∀ u ∈ ArL, u ≠ 26) _ ha) (nm_c ((by decide : ∀ u ∈ ArL, u ≠ 28) _ ha) (nm_c ((by decide : ∀ u ∈ ArL, u ≠ 29) _ ha) (nm_c ((by decide : ∀ u ∈ ArL, u ≠ 30) _ ha) (nm_c ((by decide : ∀ u ∈ ArL, ∀ v ∈ RwL, u ≠ v) _ ha _ hq) nm_0)))))))))))) (fun l z => by cases z) k5
          have k7 := es16.b.1 _ _ (nm_c (by decide) (nm_c (by decide) (nm_c (by decide) (nm_c (by decide) (nm_c (by decide) (nm_c (by decide) (nm_c (by decide) (nm_c (by decide) (nm_c (by decide) (nm_c (by decide) (nm_c (by decide) (nm_c ((by decide : ∀ v ∈ RwL, (16 : Nat) ≠ v) _ hq) nm_0)))))))))))) (fun l z => by cases z) hNx7
          have gs16 := hs13.trans hs16
          refine T.go 2 (fun n9 => (rfl : _ = exe ξ n9 (d + 5) j_N_unpackEntry 131 [(0, .ref 16), (1, .ref a), (2, J x), (3, .ref q), (4, J z1), (5, JL z4), (7, J z16), (8, J z18), (9, J z19)] [J z19] s16)) ?_
          refine T.if_ne rfl rfl (by omega) (fun c11 => ?_) (fun c11 => ?_)
          · refine T.go 1 (fun n9 => (rfl : _ = exe ξ n9 (d + 5) j_N_unpackEntry 138 [(0, .ref 16), (1, .ref a), (2, J x), (3, .ref q), (4, J z1), (5, JL z4), (7, J z16), (8, J z18), (9, J z19)] [.ref q] s16)) ?_
            refine T.calls (as := [.ref q]) (r := []) rfl rfl (by decide) rfl rfl (s_N_sumOf hX0 (d + 3) q s16 hs16.1 hq  ) (fun v17 s17 hqs17 => ?_)
            obtain ⟨z20, rfl, esz20, hzz20, hyz20⟩ := hqs17
            rw [esz20]
            refine T.go 2 (fun n9 => (rfl : _ = exe ξ n9 (d + 5) j_N_unpackEntry 143 [(0, .ref 16), (1, .ref a), (2, J x), (3, .ref q), (4, J z1), (5, JL z4), (7, J z16), (8, J z18), (9, J z19)] [J x, .ref a, JL z20] s16)) ?_
            refine T.callv (as := [J x]) (r := [JL z20]) rfl rfl rfl (ArL_lt _ ha).2.2.1 k6 rfl (s_A_sum (d + 2) a x s16 hs16.1 ha  (by omega)) (fun v18 s18 hqs18 => ?_)
            obtain ⟨z21, rfl, esz21, hzz21, hyz21⟩ := hqs18
            rw [esz21]
            refine T.lcmp rfl (by omega) (by omega) (fun c12 => ?_) (fun c12 => ?_) (fun c12 => ?_)
            · refine T.go 1 (fun n9 => (rfl : _ = exe ξ n9 (d + 5) j_N_unpackEntry 154 [(0, .ref 16), (1, .ref a), (2, J x), (3, .ref q), (4, J z1), (5, JL z4), (7, J z16), (8, J z18), (9, J z19)] [] s16)) ?_
              refine T.go 1 (fun n9 => (rfl : _ = exe ξ n9 (d + 5) j_N_unpackEntry 156 [(0, .ref 16), (1, .ref a), (2, J x), (3, .ref q), (4, J z1), (5, JL z4), (7, J z16), (8, J z18), (9, J z19)] [J 9] s16)) ?_
              exact T.ireti rfl rfl ⟨_, rfl, gs16, by omega, by omega⟩
            · refine T.go 1 (fun n9 => (rfl : _ = exe ξ n9 (d + 5) j_N_unpackEntry 150 [(0, .ref 16), (1, .ref a), (2, J x), (3, .ref q), (4, J z1), (5, JL z4), (7, J z16), (8, J z18), (9, J z19)] [] s16)) ?_
              refine T.go 2 (fun n9 => (rfl : _ = exe ξ n9 (d + 5) j_N_unpackEntry 156 [(0, .ref 16), (1, .ref a), (2, J x), (3, .ref q), (4, J z1), (5, JL z4), (7, J z16), (8, J z18), (9, J z19)] [J 0] s16)) ?_
              exact T.ireti rfl rfl ⟨_, rfl, gs16, by omega, by omega⟩
            · refine T.go 1 (fun n9 => (rfl : _ = exe ξ n9 (d + 5) j_N_unpackEntry 154 [(0, .ref 16), (1, .ref a), (2, J x), (3, .ref q), (4, J z1), (5, JL z4), (7, J z16), (8, J z18), (9, J z19)] [] s16)) ?_
              refine T.go 1 (fun n9 => (rfl : _ = exe ξ n9 (d + 5) j_N_unpackEntry 156 [(0, .ref 16), (1, .ref a), (2, J x), (3, .ref q), (4, J z1), (5, JL z4), (7, J z16), (8, J z18), (9, J z19)] [J 9] s16)) ?_
              exact T.ireti rfl rfl ⟨_, rfl, gs16, by omega, by omega⟩
          · refine T.go 1 (fun n9 => (rfl : _ = exe ξ n9 (d + 5) j_N_unpackEntry 136 [(0, .ref 16), (1, .ref a), (2, J x), (3, .ref q), (4, J z1), (5, JL z4), (7, J z16), (8, J z18), (9, J z19)] [J 8] s16)) ?_
            exact T.ireti rfl rfl ⟨_, rfl, gs16, by omega, by omega⟩
        · refine T.go 1 (fun n9 => (rfl : _ = exe ξ n9 (d + 5) j_N_unpackEntry 78 [(0, .ref 16), (1, .ref a), (2, J x), (3, .ref q), (4, J z1), (5, JL z4), (7, J z16), (8, J z18)] [J z18] s13)) ?_
          refine T.i2l rfl (by omega) ?_
          refine T.go 1 (fun n9 => (rfl : _ = exe ξ n9 (d + 5) j_N_unpackEntry 81 [(0, .ref 16), (1, .ref a), (2, J x), (3, .ref q), (4, J z1), (5, JL z4), (7, J z16), (8, J z18)] [JL z4, JL z18] s13)) ?_
          refine T.lcmp rfl (by omega) (by omega) (fun c13 => ?_) (fun c13 => ?_) (fun c13 => ?_)
          · refine T.go 1 (fun n9 => (rfl : _ = exe ξ n9 (d + 5) j_N_unpackEntry 104 [(0, .ref 16), (1, .ref a), (2, J x), (3, .ref q), (4, J z1), (5, JL z4), (7, J z16), (8, J z18)] [] s13)) ?_
            refine T.go 6 (fun n9 => (rfl : _ = exe ξ n9 (d + 5) j_N_unpackEntry 136 [(0, .ref 16), (1, .ref a), (2, J x), (3, .ref q), (4, J z1), (5, JL z4), (7, J z16), (8, J z18), (9, J 0)] [J 8] s13)) ?_
            exact T.ireti rfl rfl ⟨_, rfl, hs13, by omega, by omega⟩
          · refine T.go 1 (fun n9 => (rfl : _ = exe ξ n9 (d + 5) j_N_unpackEntry 85 [(0, .ref 16), (1, .ref a), (2, J x), (3, .ref q), (4, J z1), (5, JL z4), (7, J z16), (8, J z18)] [] s13)) ?_
            refine T.go 2 (fun n9 => (rfl : _ = exe ξ n9 (d + 5) j_N_unpackEntry 87 [(0, .ref 16), (1, .ref a), (2, J x), (3, .ref q), (4, J z1), (5, JL z4), (7, J z16), (8, J z18)] [.ref a, .ref q] s13)) ?_
            refine T.get rfl rfl rfl k5 rfl ?_
            refine T.go 2 (fun n9 => (rfl : _ = exe ξ n9 (d + 5) j_N_unpackEntry 94 [(0, .ref 16), (1, .ref a), (2, J x), (3, .ref q), (4, J z1), (5, JL z4), (7, J z16), (8, J z18)] [J z18, J z16, .ref (a + 1), .ref q] s13)) ?_
            obtain ⟨mx9, nx9, bx9, lx9, hrx9, hbx9, fx9a, fx9b, fx9c, fx9d, fx9e, fx9g, fx9h, fx9i⟩ := hs13.1.row hq
            refine T.callv (as := [.ref (a + 1), J z16, J z18]) (r := []) rfl rfl rfl (RwL_lt _ hq).2.2.1 hrx9 rfl (s_R_addPart (d + 3) q (a + 1) z16 z18 s13 hs13.1 hq (kdX_ar _ ha).2.2.1 haq (by omega) (by omega)) (fun v19 s19 hqs19 => ?_)
            obtain ⟨z22, rfl, hs19, hzz22, hyz22, pz22_0⟩ := hqs19
            have es19 := hs19
            have hs19 := hs19.sub (w' := [17, 18, 20, 21, 22, 24, 25, 26, 28, 29, 30, q]) (List.forall_mem_cons.mpr ⟨(by simp), (fun _ h => by cases h)⟩)
            have k8 := es19.b.1 _ _ (nm_c ((by decide : ∀ u ∈ ArL, ∀ v ∈ RwL, u ≠ v) _ ha _ hq) nm_0) (fun l z => by cases z) k5
            have gs19 := hs13.trans hs19
            refine T.if_eq rfl rfl (by omega) (fun c14 => ?_) (fun c14 => ?_)
            · refine T.go 6 (fun n9 => (rfl : _ = exe ξ n9 (d + 5) j_N_unpackEntry 136 [(0, .ref 16), (1, .ref a), (2, J x), (3, .ref q), (4, J z1), (5, JL z4), (7, J z16), (8, J z18), (9, J 0)] [J 8] s19)) ?_
              exact T.ireti rfl rfl ⟨_, rfl, gs19, by omega, by omega⟩
            · refine T.go 6 (fun n9 => (rfl : _ = exe ξ n9 (d + 5) j_N_unpackEntry 138 [(0, .ref 16), (1, .ref a), (2, J x), (3, .ref q), (4, J z1), (5, JL z4), (7, J z16), (8, J z18), (9, J 1)] [.ref q] s19)) ?_
              refine T.calls (as := [.ref q]) (r := []) rfl rfl (by decide) rfl rfl (s_N_sumOf hX0 (d + 3) q s19 hs19.1 hq  ) (fun v20 s20 hqs20 => ?_)
              obtain ⟨z23, rfl, esz23, hzz23, hyz23⟩ := hqs20
              rw [esz23]
              refine T.go 2 (fun n9 => (rfl : _ = exe ξ n9 (d + 5) j_N_unpackEntry 143 [(0, .ref 16), (1, .ref a), (2, J x), (3, .ref q), (4, J z1), (5, JL z4), (7, J z16), (8, J z18), (9, J 1)] [J x, .ref a, JL z23] s19)) ?_
              refine T.callv (as := [J x]) (r := [JL z23]) rfl rfl rfl (ArL_lt _ ha).2.2.1 k8 rfl (s_A_sum (d + 2) a x s19 hs19.1 ha  (by omega)) (fun v21 s21 hqs21 => ?_)
              obtain ⟨z24, rfl, esz24, hzz24, hyz24⟩ := hqs21
              rw [esz24]
              refine T.lcmp rfl (by omega) (by omega) (fun c15 => ?_) (fun c15 => ?_) (fun c15 => ?_)
              · refine T.go 1 (fun n9 => (rfl : _ = exe ξ n9 (d + 5) j_N_unpackEntry 154 [(0, .ref 16), (1, .ref a), (2, J x), (3, .ref q), (4, J z1), (5, JL z4), (7, J z16), (8, J z18), (9, J 1)] [] s19)) ?_
                refine T.go 1 (fun n9 => (rfl : _ = exe ξ n9 (d + 5) j_N_unpackEntry 156 [(0, .ref 16), (1, .ref a), (2, J x), (3, .ref q), (4, J z1), (5, JL z4), (7, J z16), (8, J z18), (9, J 1)] [J 9] s19)) ?_
                exact T.ireti rfl rfl ⟨_, rfl, gs19, by omega, by omega⟩
              · refine T.go 1 (fun n9 => (rfl : _ = exe ξ n9 (d + 5) j_N_unpackEntry 150 [(0, .ref 16), (1, .ref a), (2, J x), (3, .ref q), (4, J z1), (5, JL z4), (7, J z16), (8, J z18), (9, J 1)] [] s19)) ?_
                refine T.go 2 (fun n9 => (rfl : _ = exe ξ n9 (d + 5) j_N_unpackEntry 156 [(0, .ref 16), (1, .ref a), (2, J x), (3, .ref q), (4, J z1), (5, JL z4), (7, J z16), (8, J z18), (9, J 1)] [J 0] s19)) ?_
                exact T.ireti rfl rfl ⟨_, rfl, gs19, by omega, by omega⟩
              · refine T.go 1 (fun n9 => (rfl : _ = exe ξ n9 (d + 5) j_N_unpackEntry 154 [(0, .ref 16), (1, .ref a), (2, J x), (3, .ref q), (4, J z1), (5, JL z4), (7, J z16), (8, J z18), (9, J 1)] [] s19)) ?_
                refine T.go 1 (fun n9 => (rfl : _ = exe ξ n9 (d + 5) j_N_unpackEntry 156 [(0, .ref 16), (1, .ref a), (2, J x), (3, .ref q), (4, J z1), (5, JL z4), (7, J z16), (8, J z18), (9, J 1)] [J 9] s19)) ?_
                exact T.ireti rfl rfl ⟨_, rfl, gs19, by omega, by omega⟩
          · refine T.go 1 (fun n9 => (rfl : _ = exe ξ n9 (d + 5) j_N_unpackEntry 104 [(0, .ref 16), (1, .ref a), (2, J x), (3, .ref q), (4, J z1), (5, JL z4), (7, J z16), (8, J z18)] [] s13)) ?_
            refine T.go 6 (fun n9 => (rfl : _ = exe ξ n9 (d + 5) j_N_unpackEntry 136 [(0, .ref 16), (1, .ref a), (2, J x), (3, .ref q), (4, J z1), (5, JL z4), (7, J z16), (8, J z18), (9, J 0)] [J 8] s13)) ?_
            exact T.ireti rfl rfl ⟨_, rfl, hs13, by omega, by omega⟩
      · refine T.go 1 (fun n9 => (rfl : _ = exe ξ n9 (d + 5) j_N_unpackEntry 49 [(0, .ref 16), (1, .ref a), (2, J x), (3, .ref q), (4, J z1), (5, JL z4)] [] σ)) ?_
        refine T.go 1 (fun n9 => (rfl : _ = exe ξ n9 (d + 5) j_N_unpackEntry 51 [(0, .ref 16), (1, .ref a), (2, J x), (3, .ref q), (4, J z1), (5, JL z4)] [J 7] σ)) ?_
        exact T.ireti rfl rfl ⟨_, rfl, (Fr.refl hK), by omega, by omega⟩
    · refine T.go 2 (fun n9 => (rfl : _ = exe ξ n9 (d + 5) j_N_unpackEntry 27 [(0, .ref 16), (1, .ref a), (2, J x), (3, .ref q), (4, J z1)] [J 8, J z1] σ)) ?_
      refine T.icmp_eq rfl rfl (by omega) (by omega) (fun c16 => ?_) (fun c16 => ?_)
      · refine T.go 2 (fun n9 => (rfl : _ = exe ξ n9 (d + 5) j_N_unpackEntry 35 [(0, .ref 16), (1, .ref a), (2, J x), (3, .ref q), (4, J z1)] [J x, .ref a] σ)) ?_
        refine T.callv (as := [J x]) (r := []) rfl rfl rfl (ArL_lt _ ha).2.2.1 hax1 rfl (s_A_size (d + 2) a x σ hK ha  (by omega)) (fun v22 s22 hqs22 => ?_)
        obtain ⟨z25, rfl, esz25, hzz25, hyz25⟩ := hqs22
        rw [esz25]
        refine T.go 2 (fun n9 => (rfl : _ = exe ξ n9 (d + 5) j_N_unpackEntry 42 [(0, .ref 16), (1, .ref a), (2, J x), (3, .ref q), (4, J z1), (5, JL z25)] [JL z25] σ)) ?_
        refine T.go 1 (fun n9 => (rfl : _ = exe ξ n9 (d + 5) j_N_unpackEntry 45 [(0, .ref 16), (1, .ref a), (2, J x), (3, .ref q), (4, J z1), (5, JL z25)] [JL 8000, JL z25] σ)) ?_
        refine T.lcmp rfl (by omega) (by omega) (fun c17 => ?_) (fun c17 => ?_) (fun c17 => ?_)
        · refine T.go 1 (fun n9 => (rfl : _ = exe ξ n9 (d + 5) j_N_unpackEntry 52 [(0, .ref 16), (1, .ref a), (2, J x), (3, .ref q), (4, J z1), (5, JL z25)] [] σ)) ?_
          refine T.go 1 (fun n9 => (rfl : _ = exe ξ n9 (d + 5) j_N_unpackEntry 53 [(0, .ref 16), (1, .ref a), (2, J x), (3, .ref q), (4, J z1), (5, JL z25)] [.ref q] σ)) ?_
          obtain ⟨mx10, nx10, bx10, lx10, hrx10, hbx10, fx10a, fx10b, fx10c, fx10d, fx10e, fx10g, fx10h, fx10i⟩ := hK.row hq
          refine T.callv (as := []) (r := []) rfl rfl rfl (RwL_lt _ hq).2.2.1 hrx10 rfl (s_R_clear (d + 4) q σ hK hq  ) (fun v23 s23 hqs23 => ?_)
          obtain ⟨rfl, hs23, pz26_0, pz26_1⟩ := hqs23
          have es23 := hs23
          have hs23 := hs23.sub (w' := [17, 18, 20, 21, 22, 24, 25, 26, 28, 29, 30, q]) (List.forall_mem_cons.mpr ⟨(by simp), (fun _ h => by cases h)⟩)
          have k9 := es23.b.1 _ _ (nm_c ((by decide : ∀ u ∈ ArL, ∀ v ∈ RwL, u ≠ v) _ ha _ hq) nm_0) (fun l z => by cases z) hax1
          refine T.go 2 (fun n9 => (rfl : _ = exe ξ n9 (d + 5) j_N_unpackEntry 58 [(0, .ref 16), (1, .ref a), (2, J x), (3, .ref q), (4, J z1), (5, JL z25)] [J x, .ref a] s23)) ?_
          refine T.callv (as := [J x]) (r := []) rfl rfl rfl (ArL_lt _ ha).2.2.1 k9 rfl (s_A_dataPlace (d + 3) a x s23 hs23.1 ha  (by omega)) (fun v24 s24 hqs24 => ?_)
          obtain ⟨z27, rfl, esz27, hzz27, hyz27⟩ := hqs24
          rw [esz27]
          refine T.go 3 (fun n9 => (rfl : _ = exe ξ n9 (d + 5) j_N_unpackEntry 65 [(0, .ref 16), (1, .ref a), (2, J x), (3, .ref q), (4, J z1), (5, JL z25), (7, J z27)] [J x, .ref a] s23)) ?_
          refine T.callv (as := [J x]) (r := []) rfl rfl rfl (ArL_lt _ ha).2.2.1 k9 rfl (s_A_packedSize (d + 2) a x s23 hs23.1 ha  (by omega)) (fun v25 s25 hqs25 => ?_)
          obtain ⟨z28, rfl, esz28, hzz28, hyz28⟩ := hqs25
          rw [esz28]
          refine T.l2i rfl ?_
          refine T.norm (fun z29 hzz29 hyz29 hwz29 => ?_)
          refine T.go 2 (fun n9 => (rfl : _ = exe ξ n9 (d + 5) j_N_unpackEntry 73 [(0, .ref 16), (1, .ref a), (2, J x), (3, .ref q), (4, J z1), (5, JL z25), (7, J z27), (8, J z29)] [J z1] s23)) ?_
          refine T.if_ne rfl rfl (by omega) (fun c18 => ?_) (fun c18 => ?_)
          · refine T.go 1 (fun n9 => (rfl : _ = exe ξ n9 (d + 5) j_N_unpackEntry 109 [(0, .ref 16), (1, .ref a), (2, J x), (3, .ref q), (4, J z1), (5, JL z25), (7, J z27), (8, J z29)] [.ref 16] s23)) ?_
            obtain ⟨kex11, scx11, tpx11, oux11, mox11, sgx11, hox11, mcx11, lfx11, lpx11, hNx11, fx11ke, fx11sc, fx11tp, fx11ou, fx11mo, fx11sg, fx11d, fx11e, fx11f, fx11g, fx11h, fx11i, fx11j⟩ := hs23.1.na
            refine T.get rfl rfl rfl hNx11 rfl ?_
            refine T.go 1 (fun n9 => (rfl : _ = exe ξ n9 (d + 5) j_N_unpackEntry 113 [(0, .ref 16), (1, .ref a), (2, J x), (3, .ref q), (4, J z1), (5, JL z25), (7, J z27), (8, J z29)] [.ref a, .ref 17] s23)) ?_
            refine T.get rfl rfl rfl k9 rfl ?_
            refine T.go 4 (fun n9 => (rfl : _ = exe ξ n9 (d + 5) j_N_unpackEntry 123 [(0, .ref 16), (1, .ref a), (2, J x), (3, .ref q), (4, J z1), (5, JL z25), (7, J z27), (8, J z29)] [JL z25, .ref q, J z29, J z27, .ref (a + 1), .ref 17] s23)) ?_
            refine T.l2i rfl ?_
            obtain ⟨sx12, tx12, wx12, bix12, bex12, rox12, hux12, fx12a, fx12b, fx12c, fx12d, fx12e, fx12f, fx12g, fx12h, fx12i⟩ := hs23.1.unp
            refine T.callv (as := [.ref (a + 1), J z27, J z29, .ref q, J z25]) (r := []) rfl rfl rfl rfl hux12 rfl (s_U_unpack hX0 d (a + 1) z27 z29 q z25 s23 hs23.1 (kdX_ar _ ha).2.2.1 hq haq (by omega) (by omega) (by omega) (by omega) (by omega)) (fun v26 s26 hqs26 => ?_)
            obtain ⟨z30, rfl, hs26, hzz30, hyz30⟩ := hqs26
            have es26 := hs26
            have k10 := es26.b.1 _ _ (nm_c ((by decide : ∀ u ∈ ArL, u ≠ 17) _ ha) (nm_c ((by decide : ∀ u ∈ ArL, u ≠ 18) _ ha) (nm_c ((by decide : ∀ u ∈ ArL, u ≠ 20) _ ha) (nm_c ((by decide : ∀ u ∈ ArL, u ≠ 21) _ ha) (nm_c ((by decide : ∀ u ∈ ArL, u ≠ 22) _ ha) (nm_c ((by decide : ∀ u ∈ ArL, u ≠ 24) _ ha) (nm_c ((by decide : ∀ u ∈ ArL, u ≠ 25) _ ha) (nm_c ((by decide : ∀ u ∈ ArL, u ≠ 26) _ ha) (nm_c ((by decide : ∀ u ∈ ArL, u ≠ 28) _ ha) (nm_c ((by decide : ∀ u ∈ ArL, u ≠ 29) _ ha) (nm_c ((by decide : ∀ u ∈ ArL, u ≠ 30) _ ha) (nm_c ((by decide : ∀ u ∈ ArL, ∀ v ∈ RwL, u ≠ v) _ ha _ hq) nm_0)))))))))))) (fun l z => by cases z) k9
            have k11 := es26.b.1 _ _ (nm_c (by decide) (nm_c (by decide) (nm_c (by decide) (nm_c (by decide) (nm_c (by decide) (nm_c (by decide) (nm_c (by decide) (nm_c (by decide) (nm_c (by decide) (nm_c (by decide) (nm_c (by decide) (nm_c ((by decide : ∀ v ∈ RwL, (16 : Nat) ≠ v) _ hq) nm_0)))))))))))) (fun l z => by cases z) hNx11
            have gs26 := hs23.trans hs26
            refine T.go 2 (fun n9 => (rfl : _ = exe ξ n9 (d + 5) j_N_unpackEntry 131 [(0, .ref 16), (1, .ref a), (2, J x), (3, .ref q), (4, J z1), (5, JL z25), (7, J z27), (8, J z29), (9, J z30)] [J z30] s26)) ?_
            refine T.if_ne rfl rfl (by omega) (fun c19 => ?_) (fun c19 => ?_)
            · refine T.go 1 (fun n9 => (rfl : _ = exe ξ n9 (d + 5) j_N_unpackEntry 138 [(0, .ref 16), (1, .ref a), (2, J x), (3, .ref q), (4, J z1), (5, JL z25), (7, J z27), (8, J z29), (9, J z30)] [.ref q] s26)) ?_
              refine T.calls (as := [.ref q]) (r := []) rfl rfl (by decide) rfl rfl (s_N_sumOf hX0 (d + 3) q s26 hs26.1 hq  ) (fun v27 s27 hqs27 => ?_)
              obtain ⟨z31, rfl, esz31, hzz31, hyz31⟩ := hqs27
              rw [esz31]
              refine T.go 2 (fun n9 => (rfl : _ = exe ξ n9 (d + 5) j_N_unpackEntry 143 [(0, .ref 16), (1, .ref a), (2, J x), (3, .ref q), (4, J z1), (5, JL z25), (7, J z27), (8, J z29), (9, J z30)] [J x, .ref a, JL z31] s26)) ?_
              refine T.callv (as := [J x]) (r := [JL z31]) rfl rfl rfl (ArL_lt _ ha).2.2.1 k10 rfl (s_A_sum (d + 2) a x s26 hs26.1 ha  (by omega)) (fun v28 s28 hqs28 => ?_)
              obtain ⟨z32, rfl, esz32, hzz32, hyz32⟩ := hqs28
              rw [esz32]
              refine T.lcmp rfl (by omega) (by omega) (fun c20 => ?_) (fun c20 => ?_) (fun c20 => ?_)
              · refine T.go 1 (fun n9 => (rfl : _ = exe ξ n9 (d + 5) j_N_unpackEntry 154 [(0, .ref 16), (1, .ref a), (2, J x), (3, .ref q), (4, J z1), (5, JL z25), (7, J z27), (8, J z29), (9, J z30)] [] s26)) ?_
                refine T.go 1 (fun n9 => (rfl : _ = exe ξ n9 (d + 5) j_N_unpackEntry 156 [(0, .ref 16), (1, .ref a), (2, J x), (3, .ref q), (4, J z1), (5, JL z25), (7, J z27), (8, J z29), (9, J z30)] [J 9] s26)) ?_
                exact T.ireti rfl rfl ⟨_, rfl, gs26, by omega, by omega⟩
              · refine T.go 1 (fun n9 => (rfl : _ = exe ξ n9 (d + 5) j_N_unpackEntry 150 [(0, .ref 16), (1, .ref a), (2, J x), (3, .ref q), (4, J z1), (5, JL z25), (7, J z27), (8, J z29), (9, J z30)] [] s26)) ?_
                refine T.go 2 (fun n9 => (rfl : _ = exe ξ n9 (d + 5) j_N_unpackEntry 156 [(0, .ref 16), (1, .ref a), (2, J x), (3, .ref q), (4, J z1), (5, JL z25), (7, J z27), (8, J z29), (9, J z30)] [J 0] s26)) ?_
                exact T.ireti rfl rfl ⟨_, rfl, gs26, by omega, by omega⟩
              · refine T.go 1 (fun n9 => (rfl : _ = exe ξ n9 (d + 5) j_N_unpackEntry 154 [(0, .ref 16), (1, .ref a), (2, J x), (3, .ref q), (4, J z1), (5, JL z25), (7, J z27), (8, J z29), (9, J z30)] [] s26)) ?_
                refine T.go 1 (fun n9 => (rfl : _ = exe ξ n9 (d + 5) j_N_unpackEntry 156 [(0, .ref 16), (1, .ref a), (2, J x), (3, .ref q), (4, J z1), (5, JL z25), (7, J z27), (8, J z29), (9, J z30)] [J 9] s26)) ?_
                exact T.ireti rfl rfl ⟨_, rfl, gs26, by omega, by omega⟩
            · refine T.go 1 (fun n9 => (rfl : _ = exe ξ n9 (d + 5) j_N_unpackEntry 136 [(0, .ref 16), (1, .ref a), (2, J x), (3, .ref q), (4, J z1), (5, JL z25), (7, J z27), (8, J z29), (9, J z30)] [J 8] s26)) ?_
              exact T.ireti rfl rfl ⟨_, rfl, gs26, by omega, by omega⟩
          · refine T.go 1 (fun n9 => (rfl : _ = exe ξ n9 (d + 5) j_N_unpackEntry 78 [(0, .ref 16), (1, .ref a), (2, J x), (3, .ref q), (4, J z1), (5, JL z25), (7, J z27), (8, J z29)] [J z29] s23)) ?_
            refine T.i2l rfl (by omega) ?_
            refine T.go 1 (fun n9 => (rfl : _ = exe ξ n9 (d + 5) j_N_unpackEntry 81 [(0, .ref 16), (1, .ref a), (2, J x), (3, .ref q), (4, J z1), (5, JL z25), (7, J z27), (8, J z29)] [JL z25, JL z29] s23)) ?_
            refine T.lcmp rfl (by omega) (by omega) (fun c21 => ?_) (fun c21 => ?_) (fun c21 => ?_)
            · refine T.go 1 (fun n9 => (rfl : _ = exe ξ n9 (d + 5) j_N_unpackEntry 104 [(0, .ref 16), (1, .ref a), (2, J x), (3, .ref q), (4, J z1), (5, JL z25), (7, J z27), (8, J z29)] [] s23)) ?_
              refine T.go 6 (fun n9 => (rfl : _ = exe ξ n9 (d + 5) j_N_unpackEntry 136 [(0, .ref 16), (1, .ref a), (2, J x), (3, .ref q), (4, J z1), (5, JL z25), (7, J z27), (8, J z29), (9, J 0)] [J 8] s23)) ?_
              exact T.ireti rfl rfl ⟨_, rfl, hs23, by omega, by omega⟩
            · refine T.go 1 (fun n9 => (rfl : _ = exe ξ n9 (d + 5) j_N_unpackEntry 85 [(0, .ref 16), (1, .ref a), (2, J x), (3, .ref q), (4, J z1), (5, JL z25), (7, J z27), (8, J z29)] [] s23)) ?_
              refine T.go 2 (fun n9 => (rfl : _ = exe ξ n9 (d + 5) j_N_unpackEntry 87 [(0, .ref 16), (1, .ref a), (2, J x), (3, .ref q), (4, J z1), (5, JL z25), (7, J z27), (8, J z29)] [.ref a, .ref q] s23)) ?_
              refine T.get rfl rfl rfl k9 rfl ?_
              refine T.go 2 (fun n9 => (rfl : _ = exe ξ n9 (d + 5) j_N_unpackEntry 94 [(0, .ref 16), (1, .ref a), (2, J x), (3, .ref q), (4, J z1), (5, JL z25), (7, J z27), (8, J z29)] [J z29, J z27, .ref (a + 1), .ref q] s23)) ?_
              obtain ⟨mx13, nx13, bx13, lx13, hrx13, hbx13, fx13a, fx13b, fx13c, fx13d, fx13e, fx13g, fx13h, fx13i⟩ := hs23.1.row hq
              refine T.callv (as := [.ref (a + 1), J z27, J z29]) (r := []) rfl rfl rfl (RwL_lt _ hq).2.2.1 hrx13 rfl (s_R_addPart (d + 3) q (a + 1) z27 z29 s23 hs23.1 hq (kdX_ar _ ha).2.2.1 haq (by omega) (by omega)) (fun v29 s29 hqs29 => ?_)
              obtain ⟨z33, rfl, hs29, hzz33, hyz33, pz33_0⟩ := hqs29
              have es29 := hs29
              have hs29 := hs29.sub (w' := [17, 18, 20, 21, 22, 24, 25, 26, 28, 29, 30, q]) (List.forall_mem_cons.mpr ⟨(by simp), (fun _ h => by cases h)⟩)
              have k12 := es29.b.1 _ _ (nm_c ((by decide : ∀ u ∈ ArL, ∀ v ∈ RwL, u ≠ v) _ ha _ hq) nm_0) (fun l z => by cases z) k9
              have gs29 := hs23.trans hs29
              refine T.if_eq rfl rfl (by omega) (fun c22 => ?_) (fun c22 => ?_)
              · refine T.go 6 (fun n9 => (rfl : _ = exe ξ n9 (d + 5) j_N_unpackEntry 136 [(0, .ref 16), (1, .ref a), (2, J x), (3, .ref q), (4, J z1), (5, JL z25), (7, J z27), (8, J z29), (9, J 0)] [J 8] s29)) ?_
                exact T.ireti rfl rfl ⟨_, rfl, gs29, by omega, by omega⟩
              · refine T.go 6 (fun n9 => (rfl : _ = exe ξ n9 (d + 5) j_N_unpackEntry 138 [(0, .ref 16), (1, .ref a), (2, J x), (3, .ref q), (4, J z1), (5, JL z25), (7, J z27), (8, J z29), (9, J 1)] [.ref q] s29)) ?_
                refine T.calls (as := [.ref q]) (r := []) rfl rfl (by decide) rfl rfl (s_N_sumOf hX0 (d + 3) q s29 hs29.1 hq  ) (fun v30 s30 hqs30 => ?_)
                obtain ⟨z34, rfl, esz34, hzz34, hyz34⟩ := hqs30
                rw [esz34]
                refine T.go 2 (fun n9 => (rfl : _ = exe ξ n9 (d + 5) j_N_unpackEntry 143 [(0, .ref 16), (1, .ref a), (2, J x), (3, .ref q), (4, J z1), (5, JL z25), (7, J z27), (8, J z29), (9, J 1)] [J x, .ref a, JL z34] s29)) ?_
                refine T.callv (as := [J x]) (r := [JL z34]) rfl rfl rfl (ArL_lt _ ha).2.2.1 k12 rfl (s_A_sum (d + 2) a x s29 hs29.1 ha  (by omega)) (fun v31 s31 hqs31 => ?_)
                obtain ⟨z35, rfl, esz35, hzz35, hyz35⟩ := hqs31
                rw [esz35]
                refine T.lcmp rfl (by omega) (by omega) (fun c23 => ?_) (fun c23 => ?_) (fun c23 => ?_)
                · refine T.go 1 (fun n9 => (rfl : _ = exe ξ n9 (d + 5) j_N_unpackEntry 154 [(0, .ref 16), (1, .ref a), (2, J x), (3, .ref q), (4, J z1), (5, JL z25), (7, J z27), (8, J z29), (9, J 1)] [] s29)) ?_
                  refine T.go 1 (fun n9 => (rfl : _ = exe ξ n9 (d + 5) j_N_unpackEntry 156 [(0, .ref 16), (1, .ref a), (2, J x), (3, .ref q), (4, J z1), (5, JL z25), (7, J z27), (8, J z29), (9, J 1)] [J 9] s29)) ?_
                  exact T.ireti rfl rfl ⟨_, rfl, gs29, by omega, by omega⟩
                · refine T.go 1 (fun n9 => (rfl : _ = exe ξ n9 (d + 5) j_N_unpackEntry 150 [(0, .ref 16), (1, .ref a), (2, J x), (3, .ref q), (4, J z1), (5, JL z25), (7, J z27), (8, J z29), (9, J 1)] [] s29)) ?_
                  refine T.go 2 (fun n9 => (rfl : _ = exe ξ n9 (d + 5) j_N_unpackEntry 156 [(0, .ref 16), (1, .ref a), (2, J x), (3, .ref q), (4, J z1), (5, JL z25), (7, J z27), (8, J z29), (9, J 1)] [J 0] s29)) ?_
                  exact T.ireti rfl rfl ⟨_, rfl, gs29, by omega, by omega⟩
                · refine T.go 1 (fun n9 => (rfl : _ = exe ξ n9 (d + 5) j_N_unpackEntry 154 [(0, .ref 16), (1, .ref a), (2, J x), (3, .ref q), (4, J z1), (5, JL z25), (7, J z27), (8, J z29), (9, J 1)] [] s29)) ?_
                  refine T.go 1 (fun n9 => (rfl : _ = exe ξ n9 (d + 5) j_N_unpackEntry 156 [(0, .ref 16), (1, .ref a), (2, J x), (3, .ref q), (4, J z1), (5, JL z25), (7, J z27), (8, J z29), (9, J 1)] [J 9] s29)) ?_
                  exact T.ireti rfl rfl ⟨_, rfl, gs29, by omega, by omega⟩
            · refine T.go 1 (fun n9 => (rfl : _ = exe ξ n9 (d + 5) j_N_unpackEntry 104 [(0, .ref 16), (1, .ref a), (2, J x), (3, .ref q), (4, J z1), (5, JL z25), (7, J z27), (8, J z29)] [] s23)) ?_
              refine T.go 6 (fun n9 => (rfl : _ = exe ξ n9 (d + 5) j_N_unpackEntry 136 [(0, .ref 16), (1, .ref a), (2, J x), (3, .ref q), (4, J z1), (5, JL z25), (7, J z27), (8, J z29), (9, J 0)] [J 8] s23)) ?_
              exact T.ireti rfl rfl ⟨_, rfl, hs23, by omega, by omega⟩
        · refine T.go 1 (fun n9 => (rfl : _ = exe ξ n9 (d + 5) j_N_unpackEntry 52 [(0, .ref 16), (1, .ref a), (2, J x), (3, .ref q), (4, J z1), (5, JL z25)] [] σ)) ?_
          refine T.go 1 (fun n9 => (rfl : _ = exe ξ n9 (d + 5) j_N_unpackEntry 53 [(0, .ref 16), (1, .ref a), (2, J x), (3, .ref q), (4, J z1), (5, JL z25)] [.ref q] σ)) ?_
          obtain ⟨mx14, nx14, bx14, lx14, hrx14, hbx14, fx14a, fx14b, fx14c, fx14d, fx14e, fx14g, fx14h, fx14i⟩ := hK.row hq
          refine T.callv (as := []) (r := []) rfl rfl rfl (RwL_lt _ hq).2.2.1 hrx14 rfl (s_R_clear (d + 4) q σ hK hq  ) (fun v32 s32 hqs32 => ?_)
          obtain ⟨rfl, hs32, pz36_0, pz36_1⟩ := hqs32
          have es32 := hs32
          have hs32 := hs32.sub (w' := [17, 18, 20, 21, 22, 24, 25, 26, 28, 29, 30, q]) (List.forall_mem_cons.mpr ⟨(by simp), (fun _ h => by cases h)⟩)
          have k13 := es32.b.1 _ _ (nm_c ((by decide : ∀ u ∈ ArL, ∀ v ∈ RwL, u ≠ v) _ ha _ hq) nm_0) (fun l z => by cases z) hax1
          refine T.go 2 (fun n9 => (rfl : _ = exe ξ n9 (d + 5) j_N_unpackEntry 58 [(0, .ref 16), (1, .ref a), (2, J x), (3, .ref q), (4, J z1), (5, JL z25)] [J x, .ref a] s32)) ?_
          refine T.callv (as := [J x]) (r := []) rfl rfl rfl (ArL_lt _ ha).2.2.1 k13 rfl (s_A_dataPlace (d + 3) a x s32 hs32.1 ha  (by omega)) (fun v33 s33 hqs33 => ?_)
          obtain ⟨z37, rfl, esz37, hzz37, hyz37⟩ := hqs33
          rw [esz37]
          refine T.go 3 (fun n9 => (rfl : _ = exe ξ n9 (d + 5) j_N_unpackEntry 65 [(0, .ref 16), (1, .ref a), (2, J x), (3, .ref q), (4, J z1), (5, JL z25), (7, J z37)] [J x, .ref a] s32)) ?_
          refine T.callv (as := [J x]) (r := []) rfl rfl rfl (ArL_lt _ ha).2.2.1 k13 rfl (s_A_packedSize (d + 2) a x s32 hs32.1 ha  (by omega)) (fun v34 s34 hqs34 => ?_)
          obtain ⟨z38, rfl, esz38, hzz38, hyz38⟩ := hqs34
          rw [esz38]
          refine T.l2i rfl ?_
          refine T.norm (fun z39 hzz39 hyz39 hwz39 => ?_)
          refine T.go 2 (fun n9 => (rfl : _ = exe ξ n9 (d + 5) j_N_unpackEntry 73 [(0, .ref 16), (1, .ref a), (2, J x), (3, .ref q), (4, J z1), (5, JL z25), (7, J z37), (8, J z39)] [J z1] s32)) ?_
          refine T.if_ne rfl rfl (by omega) (fun c24 => ?_) (fun c24 => ?_)
          · refine T.go 1 (fun n9 => (rfl : _ = exe ξ n9 (d + 5) j_N_unpackEntry 109 [(0, .ref 16), (1, .ref a), (2, J x), (3, .ref q), (4, J z1), (5, JL z25), (7, J z37), (8, J z39)] [.ref 16] s32)) ?_
            obtain ⟨kex15, scx15, tpx15, oux15, mox15, sgx15, hox15, mcx15, lfx15, lpx15, hNx15, fx15ke, fx15sc, fx15tp, fx15ou, fx15mo, fx15sg, fx15d, fx15e, fx15f, fx15g, fx15h, fx15i, fx15j⟩ := hs32.1.na
            refine T.get rfl rfl rfl hNx15 rfl ?_
            refine T.go 1 (fun n9 => (rfl : _ = exe ξ n9 (d + 5) j_N_unpackEntry 113 [(0, .ref 16), (1, .ref a), (2, J x), (3, .ref q), (4, J z1), (5, JL z25), (7, J z37), (8, J z39)] [.ref a, .ref 17] s32)) ?_
            refine T.get rfl rfl rfl k13 rfl ?_
            refine T.go 4 (fun n9 => (rfl : _ = exe ξ n9 (d + 5) j_N_unpackEntry 123 [(0, .ref 16), (1, .ref a), (2, J x), (3, .ref q), (4, J z1), (5, JL z25), (7, J z37), (8, J z39)] [JL z25, .ref q, J z39, J z37, .ref (a + 1), .ref 17] s32)) ?_
            refine T.l2i rfl ?_
            obtain ⟨sx16, tx16, wx16, bix16, bex16, rox16, hux16, fx16a, fx16b, fx16c, fx16d, fx16e, fx16f, fx16g, fx16h, fx16i⟩ := hs32.1.unp
            refine T.callv (as := [.ref (a + 1), J z37, J z39, .ref q, J z25]) (r := []) rfl rfl rfl rfl hux16 rfl (s_U_unpack hX0 d (a + 1) z37 z39 q z25 s32 hs32.1 (kdX_ar _ ha).2.2.1 hq haq (by omega) (by omega) (by omega) (by omega) (by omega)) (fun v35 s35 hqs35 => ?_)
            obtain ⟨z40, rfl, hs35, hzz40, hyz40⟩ := hqs35
            have es35 := hs35
            have k14 := es35.b.1 _ _ (nm_c ((by decide : ∀ u ∈ ArL, u ≠ 17) _ ha) (nm_c ((by decide : ∀ u ∈ ArL, u ≠ 18) _ ha) (nm_c ((by decide : ∀ u ∈ ArL, u ≠ 20) _ ha) (nm_c ((by decide : ∀ u ∈ ArL, u ≠ 21) _ ha) (nm_c ((by decide : ∀ u ∈ ArL, u ≠ 22) _ ha) (nm_c ((by decide : ∀ u ∈ ArL, u ≠ 24) _ ha) (nm_c ((by decide : ∀ u ∈ ArL, u ≠ 25) _ ha) (nm_c ((by decide : ∀ u ∈ ArL, u ≠ 26) _ ha) (nm_c ((by decide : ∀ u ∈ ArL, u ≠ 28) _ ha) (nm_c ((by decide : ∀ u ∈ ArL, u ≠ 29) _ ha) (nm_c ((by decide : ∀ u ∈ ArL, u ≠ 30) _ ha) (nm_c ((by decide : ∀ u ∈ ArL, ∀ v ∈ RwL, u ≠ v) _ ha _ hq) nm_0)))))))))))) (fun l z => by cases z) k13
            have k15 := es35.b.1 _ _ (nm_c (by decide) (nm_c (by decide) (nm_c (by decide) (nm_c (by decide) (nm_c (by decide) (nm_c (by decide) (nm_c (by decide) (nm_c (by decide) (nm_c (by decide) (nm_c (by decide) (nm_c (by decide) (nm_c ((by decide : ∀ v ∈ RwL, (16 : Nat) ≠ v) _ hq) nm_0)))))))))))) (fun l z => by cases z) hNx15
            have gs35 := hs32.trans hs35
            refine T.go 2 (fun n9 => (rfl : _ = exe ξ n9 (d + 5) j_N_unpackEntry 131 [(0, .ref 16), (1, .ref a), (2, J x), (3, .ref q), (4, J z1), (5, JL z25), (7, J z37), (8, J z39), (9, J z40)] [J z40] s35)) ?_
            refine T.if_ne rfl rfl (by omega) (fun c25 => ?_) (fun c25 => ?_)
            · refine T.go 1 (fun n9 => (rfl : _ = exe ξ n9 (d + 5) j_N_unpackEntry 138 [(0, .ref 16), (1, .ref a), (2, J x), (3, .ref q), (4, J z1), (5, JL z25), (7, J z37), (8, J z39), (9, J z40)] [.ref q] s35)) ?_
              refine T.calls (as := [.ref q]) (r := []) rfl rfl (by decide) rfl rfl (s_N_sumOf hX0 (d + 3) q s35 hs35.1 hq  ) (fun v36 s36 hqs36 => ?_)
              obtain ⟨z41, rfl, esz41, hzz41, hyz41⟩ := hqs36
              rw [esz41]
              refine T.go 2 (fun n9 => (rfl : _ = exe ξ n9 (d + 5) j_N_unpackEntry 143 [(0, .ref 16), (1, .ref a), (2, J x), (3, .ref q), (4, J z1), (5, JL z25), (7, J z37), (8, J z39), (9, J z40)] [J x, .ref a, JL z41] s35)) ?_
              refine T.callv (as := [J x]) (r := [JL z41]) rfl rfl rfl (ArL_lt _ ha).2.2.1 k14 rfl (s_A_sum (d + 2) a x s35 hs35.1 ha  (by omega)) (fun v37 s37 hqs37 => ?_)
              obtain ⟨z42, rfl, esz42, hzz42, hyz42⟩ := hqs37
              rw [esz42]
              refine T.lcmp rfl (by omega) (by omega) (fun c26 => ?_) (fun c26 => ?_) (fun c26 => ?_)
              · refine T.go 1 (fun n9 => (rfl : _ = exe ξ n9 (d + 5) j_N_unpackEntry 154 [(0, .ref 16), (1, .ref a), (2, J x), (3, .ref q), (4, J z1), (5, JL z25), (7, J z37), (8, J z39), (9, J z40)] [] s35)) ?_
                refine T.go 1 (fun n9 => (rfl : _ = exe ξ n9 (d + 5) j_N_unpackEntry 156 [(0, .ref 16), (1, .ref a), (2, J x), (3, .ref q), (4, J z1), (5, JL z25), (7, J z37), (8, J z39), (9, J z40)] [J 9] s35)) ?_
                exact T.ireti rfl rfl ⟨_, rfl, gs35, by omega, by omega⟩
              · refine T.go 1 (fun n9 => (rfl : _ = exe ξ n9 (d + 5) j_N_unpackEntry 150 [(0, .ref 16), (1, .ref a), (2, J x), (3, .ref q), (4, J z1), (5, JL z25), (7, J z37), (8, J z39), (9, J z40)] [] s35)) ?_
                refine T.go 2 (fun n9 => (rfl : _ = exe ξ n9 (d + 5) j_N_unpackEntry 156 [(0, .ref 16), (1, .ref a), (2, J x), (3, .ref q), (4, J z1), (5, JL z25), (7, J z37), (8, J z39), (9, J z40)] [J 0] s35)) ?_
                exact T.ireti rfl rfl ⟨_, rfl, gs35, by omega, by omega⟩
              · refine T.go 1 (fun n9 => (rfl : _ = exe ξ n9 (d + 5) j_N_unpackEntry 154 [(0, .ref 16), (1, .ref a), (2, J x), (3, .ref q), (4, J z1), (5, JL z25), (7, J z37), (8, J z39), (9, J z40)] [] s35)) ?_
                refine T.go 1 (fun n9 => (rfl : _ = exe ξ n9 (d + 5) j_N_unpackEntry 156 [(0, .ref 16), (1, .ref a), (2, J x), (3, .ref q), (4, J z1), (5, JL z25), (7, J z37), (8, J z39), (9, J z40)] [J 9] s35)) ?_
                exact T.ireti rfl rfl ⟨_, rfl, gs35, by omega, by omega⟩
            · refine T.go 1 (fun n9 => (rfl : _ = exe ξ n9 (d + 5) j_N_unpackEntry 136 [(0, .ref 16), (1, .ref a), (2, J x), (3, .ref q), (4, J z1), (5, JL z25), (7, J z37), (8, J z39), (9, J z40)] [J 8] s35)) ?_
              exact T.ireti rfl rfl ⟨_, rfl, gs35, by omega, by omega⟩
          · refine T.go 1 (fun n9 => (rfl : _ = exe ξ n9 (d + 5) j_N_unpackEntry 78 [(0, .ref 16), (1, .ref a), (2, J x), (3, .ref q), (4, J z1), (5, JL z25), (7, J z37), (8, J z39)] [J z39] s32)) ?_
            refine T.i2l rfl (by omega) ?_
            refine T.go 1 (fun n9 => (rfl : _ = exe ξ n9 (d + 5) j_N_unpackEntry 81 [(0, .ref 16), (1, .ref a), (2, J x), (3, .ref q), (4, J z1), (5, JL z25), (7, J z37), (8, J z39)] [JL z25, JL z39] s32)) ?_
            refine T.lcmp rfl (by omega) (by omega) (fun c27 => ?_) (fun c27 => ?_) (fun c27 => ?_)
            · refine T.go 1 (fun n9 => (rfl : _ = exe ξ n9 (d + 5) j_N_unpackEntry 104 [(0, .ref 16), (1, .ref a), (2, J x), (3, .ref q), (4, J z1), (5, JL z25), (7, J z37), (8, J z39)] [] s32)) ?_
              refine T.go 6 (fun n9 => (rfl : _ = exe ξ n9 (d + 5) j_N_unpackEntry 136 [(0, .ref 16), (1, .ref a), (2, J x), (3, .ref q), (4, J z1), (5, JL z25), (7, J z37), (8, J z39), (9, J 0)] [J 8] s32)) ?_
              exact T.ireti rfl rfl ⟨_, rfl, hs32, by omega, by omega⟩
            · refine T.go 1 (fun n9 => (rfl : _ = exe ξ n9 (d + 5) j_N_unpackEntry 85 [(0, .ref 16), (1, .ref a), (2, J x), (3, .ref q), (4, J z1), (5, JL z25), (7, J z37), (8, J z39)] [] s32)) ?_
              refine T.go 2 (fun n9 => (rfl : _ = exe ξ n9 (d + 5) j_N_unpackEntry 87 [(0, .ref 16), (1, .ref a), (2, J x), (3, .ref q), (4, J z1), (5, JL z25), (7, J z37), (8, J z39)] [.ref a, .ref q] s32)) ?_
              refine T.get rfl rfl rfl k13 rfl ?_
              refine T.go 2 (fun n9 => (rfl : _ = exe ξ n9 (d + 5) j_N_unpackEntry 94 [(0, .ref 16), (1, .ref a), (2, J x), (3, .ref q), (4, J z1), (5, JL z25), (7, J z37), (8, J z39)] [J z39, J z37, .ref (a + 1), .ref q] s32)) ?_
              obtain ⟨mx17, nx17, bx17, lx17, hrx17, hbx17, fx17a, fx17b, fx17c, fx17d, fx17e, fx17g, fx17h, fx17i⟩ := hs32.1.row hq
              refine T.callv (as := [.ref (a + 1), J z37, J z39]) (r := []) rfl rfl rfl (RwL_lt _ hq).2.2.1 hrx17 rfl (s_R_addPart (d + 3) q (a + 1) z37 z39 s32 hs32.1 hq (kdX_ar _ ha).2.2.1 haq (by omega) (by omega)) (fun v38 s38 hqs38 => ?_)
              obtain ⟨z43, rfl, hs38, hzz43, hyz43, pz43_0⟩ := hqs38
              have es38 := hs38
              have hs38 := hs38.sub (w' := [17, 18, 20, 21, 22, 24, 25, 26, 28, 29, 30, q]) (List.forall_mem_cons.mpr ⟨(by simp), (fun _ h => by cases h)⟩)
              have k16 := es38.b.1 _ _ (nm_c ((by decide : ∀ u ∈ ArL, ∀ v ∈ RwL, u ≠ v) _ ha _ hq) nm_0) (fun l z => by cases z) k13
              have gs38 := hs32.trans hs38
              refine T.if_eq rfl rfl (by omega) (fun c28 => ?_) (fun c28 => ?_)
              · refine T.go 6 (fun n9 => (rfl : _ = exe ξ n9 (d + 5) j_N_unpackEntry 136 [(0, .ref 16), (1, .ref a), (2, J x), (3, .ref q), (4, J z1), (5, JL z25), (7, J z37), (8, J z39), (9, J 0)] [J 8] s38)) ?_
                exact T.ireti rfl rfl ⟨_, rfl, gs38, by omega, by omega⟩
              · refine T.go 6 (fun n9 => (rfl : _ = exe ξ n9 (d + 5) j_N_unpackEntry 138 [(0, .ref 16), (1, .ref a), (2, J x), (3, .ref q), (4, J z1), (5, JL z25), (7, J z37), (8, J z39), (9, J 1)] [.ref q] s38)) ?_
                refine T.calls (as := [.ref q]) (r := []) rfl rfl (by decide) rfl rfl (s_N_sumOf hX0 (d + 3) q s38 hs38.1 hq  ) (fun v39 s39 hqs39 => ?_)
                obtain ⟨z44, rfl, esz44, hzz44, hyz44⟩ := hqs39
                rw [esz44]
                refine T.go 2 (fun n9 => (rfl : _ = exe ξ n9 (d + 5) j_N_unpackEntry 143 [(0, .ref 16), (1, .ref a), (2, J x), (3, .ref q), (4, J z1), (5, JL z25), (7, J z37), (8, J z39), (9, J 1)] [J x, .ref a, JL z44] s38)) ?_
                refine T.callv (as := [J x]) (r := [JL z44]) rfl rfl rfl (ArL_lt _ ha).2.2.1 k16 rfl (s_A_sum (d + 2) a x s38 hs38.1 ha  (by omega)) (fun v40 s40 hqs40 => ?_)
                obtain ⟨z45, rfl, esz45, hzz45, hyz45⟩ := hqs40
                rw [esz45]
                refine T.lcmp rfl (by omega) (by omega) (fun c29 => ?_) (fun c29 => ?_) (fun c29 => ?_)
                · refine T.go 1 (fun n9 => (rfl : _ = exe ξ n9 (d + 5) j_N_unpackEntry 154 [(0, .ref 16), (1, .ref a), (2, J x), (3, .ref q), (4, J z1), (5, JL z25), (7, J z37), (8, J z39), (9, J 1)] [] s38)) ?_
                  refine T.go 1 (fun n9 => (rfl : _ = exe ξ n9 (d + 5) j_N_unpackEntry 156 [(0, .ref 16), (1, .ref a), (2, J x), (3, .ref q), (4, J z1), (5, JL z25), (7, J z37), (8, J z39), (9, J 1)] [J 9] s38)) ?_
                  exact T.ireti rfl rfl ⟨_, rfl, gs38, by omega, by omega⟩
                · refine T.go 1 (fun n9 => (rfl : _ = exe ξ n9 (d + 5) j_N_unpackEntry 150 [(0, .ref 16), (1, .ref a), (2, J x), (3, .ref q), (4, J z1), (5, JL z25), (7, J z37), (8, J z39), (9, J 1)] [] s38)) ?_
                  refine T.go 2 (fun n9 => (rfl : _ = exe ξ n9 (d + 5) j_N_unpackEntry 156 [(0, .ref 16), (1, .ref a), (2, J x), (3, .ref q), (4, J z1), (5, JL z25), (7, J z37), (8, J z39), (9, J 1)] [J 0] s38)) ?_
                  exact T.ireti rfl rfl ⟨_, rfl, gs38, by omega, by omega⟩
                · refine T.go 1 (fun n9 => (rfl : _ = exe ξ n9 (d + 5) j_N_unpackEntry 154 [(0, .ref 16), (1, .ref a), (2, J x), (3, .ref q), (4, J z1), (5, JL z25), (7, J z37), (8, J z39), (9, J 1)] [] s38)) ?_
                  refine T.go 1 (fun n9 => (rfl : _ = exe ξ n9 (d + 5) j_N_unpackEntry 156 [(0, .ref 16), (1, .ref a), (2, J x), (3, .ref q), (4, J z1), (5, JL z25), (7, J z37), (8, J z39), (9, J 1)] [J 9] s38)) ?_
                  exact T.ireti rfl rfl ⟨_, rfl, gs38, by omega, by omega⟩
            · refine T.go 1 (fun n9 => (rfl : _ = exe ξ n9 (d + 5) j_N_unpackEntry 104 [(0, .ref 16), (1, .ref a), (2, J x), (3, .ref q), (4, J z1), (5, JL z25), (7, J z37), (8, J z39)] [] s32)) ?_
              refine T.go 6 (fun n9 => (rfl : _ = exe ξ n9 (d + 5) j_N_unpackEntry 136 [(0, .ref 16), (1, .ref a), (2, J x), (3, .ref q), (4, J z1), (5, JL z25), (7, J z37), (8, J z39), (9, J 0)] [J 8] s32)) ?_
              exact T.ireti rfl rfl ⟨_, rfl, hs32, by omega, by omega⟩
        · refine T.go 1 (fun n9 => (rfl : _ = exe ξ n9 (d + 5) j_N_unpackEntry 49 [(0, .ref 16), (1, .ref a), (2, J x), (3, .ref q), (4, J z1), (5, JL z25)] [] σ)) ?_
          refine T.go 1 (fun n9 => (rfl : _ = exe ξ n9 (d + 5) j_N_unpackEntry 51 [(0, .ref 16), (1, .ref a), (2, J x), (3, .ref q), (4, J z1), (5, JL z25)] [J 7] σ)) ?_
          exact T.ireti rfl rfl ⟨_, rfl, (Fr.refl hK), by omega, by omega⟩
      · refine T.go 1 (fun n9 => (rfl : _ = exe ξ n9 (d + 5) j_N_unpackEntry 32 [(0, .ref 16), (1, .ref a), (2, J x), (3, .ref q), (4, J z1)] [J 6] σ)) ?_
        exact T.ireti rfl rfl ⟨_, rfl, (Fr.refl hK), by omega, by omega⟩

set_option maxRecDepth 10000 in
set_option maxHeartbeats 4000000 in
theorem s_N_archiveOf {ξ : Nat → Option (Nat × List Int32)} (d : Nat) (x : Int) (σ : qH) (hK : K σ)  (rx : -2147483648 ≤ x ∧ x ≤ 2147483647) : T ξ d j_N_archiveOf 0 (lv_args 0 [.ref 16, J x]) [] σ (fun v σ' => σ' = σ ∧ (v = some .null ∨ ∃ a : Nat, a ∈ ArL ∧ v = some (.ref a))) := by
  refine T.go 1 (fun n9 => (rfl : _ = exe ξ n9 d j_N_archiveOf 1 [(0, .ref 16), (1, J x)] [.ref 16] σ)) ?_
  obtain ⟨kex1, scx1, tpx1, oux1, mox1, sgx1, hox1, mcx1, lfx1, lpx1, hNx1, fx1ke, fx1sc, fx1tp, fx1ou, fx1mo, fx1sg, fx1d, fx1e, fx1f, fx1g, fx1h, fx1i, fx1j⟩ := hK.na
  refine T.get rfl rfl rfl hNx1 rfl ?_
  refine T.if_eq rfl rfl (by omega) (fun c1 => ?_) (fun c1 => ?_)
  · refine T.go 1 (fun n9 => (rfl : _ = exe ξ n9 d j_N_archiveOf 26 [(0, .ref 16), (1, J x)] [.null] σ)) ?_
    exact T.end 1 (fun n9 => rfl) ⟨rfl, Or.inl rfl⟩
  · refine T.go 1 (fun n9 => (rfl : _ = exe ξ n9 d j_N_archiveOf 8 [(0, .ref 16), (1, J x)] [J x] σ)) ?_
    refine T.if_lt rfl rfl (by omega) (fun c2 => ?_) (fun c2 => ?_)
    · refine T.go 1 (fun n9 => (rfl : _ = exe ξ n9 d j_N_archiveOf 26 [(0, .ref 16), (1, J x)] [.null] σ)) ?_
      exact T.end 1 (fun n9 => rfl) ⟨rfl, Or.inl rfl⟩
    · refine T.go 2 (fun n9 => (rfl : _ = exe ξ n9 d j_N_archiveOf 13 [(0, .ref 16), (1, J x)] [.ref 16, J x] σ)) ?_
      refine T.get rfl rfl rfl hNx1 rfl ?_
      refine T.icmp_gt rfl rfl (by omega) (by omega) (fun c3 => ?_) (fun c3 => ?_)
      · refine T.go 1 (fun n9 => (rfl : _ = exe ξ n9 d j_N_archiveOf 26 [(0, .ref 16), (1, J x)] [.null] σ)) ?_
        exact T.end 1 (fun n9 => rfl) ⟨rfl, Or.inl rfl⟩
      · refine T.go 2 (fun n9 => (rfl : _ = exe ξ n9 d j_N_archiveOf 22 [(0, .ref 16), (1, J x)] [J 6, J x] σ)) ?_
        refine T.icmp_le rfl rfl (by omega) (by omega) (fun c4 => ?_) (fun c4 => ?_)
        · refine T.go 1 (fun n9 => (rfl : _ = exe ξ n9 d j_N_archiveOf 28 [(0, .ref 16), (1, J x)] [J x] σ)) ?_
          refine T.if_ne rfl rfl (by omega) (fun c5 => ?_) (fun c5 => ?_)
          · refine T.go 1 (fun n9 => (rfl : _ = exe ξ n9 d j_N_archiveOf 39 [(0, .ref 16), (1, J x)] [.ref 16] σ)) ?_
            refine T.get rfl rfl rfl hNx1 rfl ?_
            refine T.go 2 (fun n9 => (rfl : _ = exe ξ n9 d j_N_archiveOf 44 [(0, .ref 16), (1, J x)] [J 1, J x, .ref mox1] σ)) ?_
            refine T.isub rfl ?_
            obtain ⟨lx2, hix2, elx2, emx2⟩ := hK.refs (na_mo fx1mo).1
            obtain ⟨a1, hga1, hha1⟩ := em_at (x := x - 1) emx2 (by omega)
            refine T.aald rfl hix2 (by omega) hga1 ?_
            exact T.end 1 (fun n9 => rfl) ⟨rfl, Or.inr ⟨_, (ArM_L hha1), rfl⟩⟩
          · refine T.go 1 (fun n9 => (rfl : _ = exe ξ n9 d j_N_archiveOf 32 [(0, .ref 16), (1, J x)] [.ref 16] σ)) ?_
            refine T.get rfl rfl rfl hNx1 rfl ?_
            refine T.go 1 (fun n9 => (rfl : _ = exe ξ n9 d j_N_archiveOf 46 [(0, .ref 16), (1, J x)] [.ref oux1] σ)) ?_
            exact T.end 1 (fun n9 => rfl) ⟨rfl, Or.inr ⟨_, (na_tp fx1ou), rfl⟩⟩
        · refine T.go 1 (fun n9 => (rfl : _ = exe ξ n9 d j_N_archiveOf 26 [(0, .ref 16), (1, J x)] [.null] σ)) ?_
          exact T.end 1 (fun n9 => rfl) ⟨rfl, Or.inl rfl⟩

set_option maxRecDepth 10000 in
set_option maxHeartbeats 4000000 in
theorem s_N_searchMounts {ξ : Nat → Option (Nat × List Int32)} (d : Nat) (x : Int) (σ : qH) (hK : K σ)  (rx : -2147483648 ≤ x ∧ x ≤ 2147483647) : T ξ (d + 2) j_N_searchMounts 0 (lv_args 0 [.ref 16, J x]) [] σ (fun v σ' => ∃ z : Int, v = some (J z) ∧ σ' = σ ∧ -1 ≤ z ∧ z ≤ 700) := by
  obtain ⟨kex1, scx1, tpx1, oux1, mox1, sgx1, hox1, mcx1, lfx1, lpx1, hNx1, fx1ke, fx1sc, fx1tp, fx1ou, fx1mo, fx1sg, fx1d, fx1e, fx1f, fx1g, fx1h, fx1i, fx1j⟩ := hK.na
  have loop2 : ∀ (f : Nat) (k : Int), -2147483648 ≤ k → k ≤ 2147483647 → (7 - k).toNat < f → T ξ (d + 2) j_N_searchMounts 2 [(0, .ref 16), (1, J x), (2, J k)] [] σ (fun v σ' => ∃ z : Int, v = some (J z) ∧ σ' = σ ∧ -1 ≤ z ∧ z ≤ 700) := by
    intro f
    induction f with
    | zero => intro k i0 i1 hm; omega
    | succ f ih =>
      intro k i0 i1 hm
      refine T.go 2 (fun n9 => (rfl : _ = exe ξ n9 (d + 2) j_N_searchMounts 4 [(0, .ref 16), (1, J x), (2, J k)] [J 1, J k] σ)) ?_
      refine T.icmp_lt rfl rfl (by omega) (by omega) (fun c1 => ?_) (fun c1 => ?_)
      · refine T.go 1 (fun n9 => (rfl : _ = exe ξ n9 (d + 2) j_N_searchMounts 64 [(0, .ref 16), (1, J x), (2, J k)] [J (-1)] σ)) ?_
        exact T.ireti rfl rfl ⟨_, rfl, rfl, by omega, by omega⟩
      · refine T.go 2 (fun n9 => (rfl : _ = exe ξ n9 (d + 2) j_N_searchMounts 9 [(0, .ref 16), (1, J x), (2, J k)] [.ref 16, J k] σ)) ?_
        refine T.get rfl rfl rfl hNx1 rfl ?_
        refine T.icmp_gt rfl rfl (by omega) (by omega) (fun c2 => ?_) (fun c2 => ?_)
        · refine T.go 1 (fun n9 => (rfl : _ = exe ξ n9 (d + 2) j_N_searchMounts 64 [(0, .ref 16), (1, J x), (2, J k)] [J (-1)] σ)) ?_
          exact T.ireti rfl rfl ⟨_, rfl, rfl, by omega, by omega⟩
        · refine T.go 2 (fun n9 => (rfl : _ = exe ξ n9 (d + 2) j_N_searchMounts 18 [(0, .ref 16), (1, J x), (2, J k)] [J 6, J k] σ)) ?_
          refine T.icmp_gt rfl rfl (by omega) (by omega) (fun c3 => ?_) (fun c3 => ?_)
          · refine T.go 1 (fun n9 => (rfl : _ = exe ξ n9 (d + 2) j_N_searchMounts 64 [(0, .ref 16), (1, J x), (2, J k)] [J (-1)] σ)) ?_
            exact T.ireti rfl rfl ⟨_, rfl, rfl, by omega, by omega⟩
          · refine T.go 1 (fun n9 => (rfl : _ = exe ξ n9 (d + 2) j_N_searchMounts 22 [(0, .ref 16), (1, J x), (2, J k)] [.ref 16] σ)) ?_
            refine T.get rfl rfl rfl hNx1 rfl ?_
            refine T.go 2 (fun n9 => (rfl : _ = exe ξ n9 (d + 2) j_N_searchMounts 27 [(0, .ref 16), (1, J x), (2, J k)] [J 1, J k, .ref mox1] σ)) ?_
            refine T.isub rfl ?_
            obtain ⟨lx2, hix2, elx2, emx2⟩ := hK.refs (na_mo fx1mo).1
            obtain ⟨a1, hga1, hha1⟩ := em_at (x := k - 1) emx2 (by omega)
            refine T.aald rfl hix2 (by omega) hga1 ?_
            refine T.go 1 (fun n9 => (rfl : _ = exe ξ n9 (d + 2) j_N_searchMounts 30 [(0, .ref 16), (1, J x), (2, J k)] [.ref 16, .ref a1] σ)) ?_
            refine T.get rfl rfl rfl hNx1 rfl ?_
            refine T.go 2 (fun n9 => (rfl : _ = exe ξ n9 (d + 2) j_N_searchMounts 35 [(0, .ref 16), (1, J x), (2, J k)] [.ref 16, J 0, .ref 51, .ref a1] σ)) ?_
            refine T.get rfl rfl rfl hNx1 rfl ?_
            obtain ⟨mx3, nx3, bx3, lx3, hrx3, hbx3, fx3a, fx3b, fx3c, fx3d, fx3e, fx3g, fx3h, fx3i⟩ := hK.row (r := 51) (by decide)
            refine T.get rfl rfl rfl hrx3 rfl ?_
            obtain ⟨ex4, erx4, dix4, bax4, fpx4, hax4, fx4a, fx4b, fx4c, fx4d, fx4e, fx4f, fx4g, fx4h, fx4i, fx4j⟩ := hK.arc (ArM_L hha1)
            refine T.callv (as := [.ref 51, J 0, J nx3]) (r := []) rfl rfl rfl (ArL_lt _ (ArM_L hha1)).2.2.1 hax4 rfl (s_A_lookUp d a1 51 0 nx3 σ hK (ArM_L hha1) (by decide)  (by omega) (by omega)) (fun v1 s1 hqs1 => ?_)
            obtain ⟨z1, rfl, esz1, hzz1, hyz1⟩ := hqs1
            rw [esz1]
            refine T.go 3 (fun n9 => (rfl : _ = exe ξ n9 (d + 2) j_N_searchMounts 47 [(0, .ref 16), (1, J x), (2, J k), (3, J z1)] [J (-1), J z1] σ)) ?_
            refine T.icmp_eq rfl rfl (by omega) (by omega) (fun c4 => ?_) (fun c4 => ?_)
            · refine T.iinc (lv' := [(0, .ref 16), (1, J x), (2, J (k + 1)), (3, J z1)]) rfl rfl rfl rfl ?_
              refine T.go 1 (fun n9 => (rfl : _ = exe ξ n9 (d + 2) j_N_searchMounts 2 [(0, .ref 16), (1, J x), (2, J (k + 1)), (3, J z1)] [] σ)) ?_
              refine T.drop (lv := [(0, .ref 16), (1, J x), (2, J (k + 1))]) [(3, J z1)] (by simp) ?_
              exact ih  (k + 1) (by omega) (by omega) (by omega)
            · refine T.go 2 (fun n9 => (rfl : _ = exe ξ n9 (d + 2) j_N_searchMounts 53 [(0, .ref 16), (1, J x), (2, J k), (3, J z1)] [J k, J 100] σ)) ?_
              refine T.imul rfl ?_
              refine T.go 1 (fun n9 => (rfl : _ = exe ξ n9 (d + 2) j_N_searchMounts 55 [(0, .ref 16), (1, J x), (2, J k), (3, J z1)] [J z1, J (100 * k)] σ)) ?_
              refine T.iadd rfl ?_
              exact T.ireti rfl rfl ⟨_, rfl, rfl, by omega, by omega⟩
  refine T.go 2 (fun n9 => (rfl : _ = exe ξ n9 (d + 2) j_N_searchMounts 2 [(0, .ref 16), (1, J x), (2, J x)] [] σ)) ?_
  exact loop2 _ x (by omega) (by omega) (Nat.lt_succ_self _)

set_option maxRecDepth 10000 in
set_option maxHeartbeats 4000000 in
theorem s_N_stageMount {ξ : Nat → Option (Nat × List Int32)} (hX : XT ξ) (d : Nat) (x : Int) (y : Int) (σ : qH) (hK : K σ)  (rx : -2147483648 ≤ x ∧ x ≤ 2147483647) (ry : -2147483648 ≤ y ∧ y ≤ 2147483647) (pre0 : 0 ≤ x) (pre1 : x ≤ 5) : T ξ (d + 6) j_N_stageMount 0 (lv_args 0 [.ref 16, J x, J y]) [] σ (fun v σ' => ∃ z : Int, v = some (J z) ∧ Fr WS σ σ' ∧ 0 ≤ z ∧ z ≤ 9) := by
  have hX0 := hX
  obtain ⟨⟨X1, hX1, lX1⟩, ⟨X2, hX2, lX2⟩, ⟨X3, hX3, lX3⟩, ⟨X4, hX4, lX4⟩, ⟨X5, hX5, lX5⟩, ⟨X6, hX6, lX6⟩⟩ := hX
  have lY1 : X1.length = 19 := by rw [lX1]; rfl
  have lY2 : X2.length = 29 := by rw [lX2]; rfl
  have lY3 : X3.length = 29 := by rw [lX3]; rfl
  have lY4 : X4.length = 30 := by rw [lX4]; rfl
  have lY5 : X5.length = 30 := by rw [lX5]; rfl
  have lY6 : X6.length = 16 := by rw [lX6]; rfl
  refine T.go 2 (fun n9 => (rfl : _ = exe ξ n9 (d + 6) j_N_stageMount 2 [(0, .ref 16), (1, J x), (2, J y)] [.ref 16, .ref 16] σ)) ?_
  obtain ⟨kex1, scx1, tpx1, oux1, mox1, sgx1, hox1, mcx1, lfx1, lpx1, hNx1, fx1ke, fx1sc, fx1tp, fx1ou, fx1mo, fx1sg, fx1d, fx1e, fx1f, fx1g, fx1h, fx1i, fx1j⟩ := hK.na
  refine T.get rfl rfl rfl hNx1 rfl ?_
  refine T.go 2 (fun n9 => (rfl : _ = exe ξ n9 (d + 6) j_N_stageMount 7 [(0, .ref 16), (1, J x), (2, J y)] [.ref 16, J y, .ref oux1, .ref 16] σ)) ?_
  refine T.get rfl rfl rfl hNx1 rfl ?_
  refine T.go 1 (fun n9 => (rfl : _ = exe ξ n9 (d + 6) j_N_stageMount 11 [(0, .ref 16), (1, J x), (2, J y)] [J x, .ref sgx1, J y, .ref oux1, .ref 16] σ)) ?_
  obtain ⟨lx2, hix2, elx2, emx2⟩ := hK.refs (na_mo fx1sg).1
  obtain ⟨a1, hga1, hha1⟩ := em_at (x := x) emx2 (by omega)
  refine T.aald rfl hix2 (by omega) hga1 ?_
  obtain ⟨ex3, erx3, dix3, bax3, fpx3, hax3, fx3a, fx3b, fx3c, fx3d, fx3e, fx3f, fx3g, fx3h, fx3i, fx3j⟩ := hK.arc (ArM_L hha1)
  refine T.get rfl rfl rfl hax3 rfl ?_
  refine T.callv (as := [.ref oux1, J y, .ref (a1 + 1)]) (r := []) rfl rfl rfl rfl hNx1 rfl (s_N_unpackEntry hX0 d oux1 y (a1 + 1) σ hK (na_tp fx1ou) (kdX_ar _ (ArM_L hha1)).2.2.1 ((by decide : ∀ u ∈ [63, 68], ∀ v ∈ ArM, u + 1 ≠ v + 1) _ (mem2 fx1ou) _ hha1) (by omega)) (fun v1 s1 hqs1 => ?_)
  obtain ⟨z1, rfl, hs1, hzz1, hyz1⟩ := hqs1
  have es1 := hs1
  have hs1 := hs1.sub (w' := WS) (List.forall_mem_cons.mpr ⟨(by decide), (List.forall_mem_cons.mpr ⟨(by decide), (List.forall_mem_cons.mpr ⟨(by decide), (List.forall_mem_cons.mpr ⟨(by decide), (List.forall_mem_cons.mpr ⟨(by decide), (List.forall_mem_cons.mpr ⟨(by decide), (List.forall_mem_cons.mpr ⟨(by decide), (List.forall_mem_cons.mpr ⟨(by decide), (List.forall_mem_cons.mpr ⟨(by decide), (List.forall_mem_cons.mpr ⟨(by decide), (List.forall_mem_cons.mpr ⟨(by decide), (List.forall_mem_cons.mpr ⟨((by decide : ∀ q ∈ ArM, q + 1 ∈ WS) _ hha1), (fun _ h => by cases h)⟩)⟩)⟩)⟩)⟩)⟩)⟩)⟩)⟩)⟩)⟩)⟩)
  have k1 := es1.b.1 _ _ (nm_c (by decide) (nm_c (by decide) (nm_c (by decide) (nm_c (by decide) (nm_c (by decide) (nm_c (by decide) (nm_c (by decide) (nm_c (by decide) (nm_c (by decide) (nm_c (by decide) (nm_c (by decide) (nm_c ((by decide : ∀ v ∈ ArM, (16 : Nat) ≠ v + 1) _ hha1) nm_0)))))))))))) (fun l z => by cases z) hNx1
  have k2 := es1.b.1 _ _ (nm_c ((by decide : ∀ u ∈ [73, 74], u ≠ 17) _ (mem2 fx1sg)) (nm_c ((by decide : ∀ u ∈ [73, 74], u ≠ 18) _ (mem2 fx1sg)) (nm_c ((by decide : ∀ u ∈ [73, 74], u ≠ 20) _ (mem2 fx1sg)) (nm_c ((by decide : ∀ u ∈ [73, 74], u ≠ 21) _ (mem2 fx1sg)) (nm_c ((by decide : ∀ u ∈ [73, 74], u ≠ 22) _ (mem2 fx1sg)) (nm_c ((by decide : ∀ u ∈ [73, 74], u ≠ 24) _ (mem2 fx1sg)) (nm_c ((by decide : ∀ u ∈ [73, 74], u ≠ 25) _ (mem2 fx1sg)) (nm_c ((by decide : ∀ u ∈ [73, 74], u ≠ 26) _ (mem2 fx1sg)) (nm_c ((by decide : ∀ u ∈ [73, 74], u ≠ 28) _ (mem2 fx1sg)) (nm_c ((by decide : ∀ u ∈ [73, 74], u ≠ 29) _ (mem2 fx1sg)) (nm_c ((by decide : ∀ u ∈ [73, 74], u ≠ 30) _ (mem2 fx1sg)) (nm_c ((by decide : ∀ u ∈ [73, 74], ∀ v ∈ ArM, u ≠ v + 1) _ (mem2 fx1sg) _ hha1) nm_0)))))))))))) (fun l z => by cases z) hix2
  have k3 := es1.b.1 _ _ (nm_c ((by decide : ∀ u ∈ ArM, u ≠ 17) _ hha1) (nm_c ((by decide : ∀ u ∈ ArM, u ≠ 18) _ hha1) (nm_c ((by decide : ∀ u ∈ ArM, u ≠ 20) _ hha1) (nm_c ((by decide : ∀ u ∈ ArM, u ≠ 21) _ hha1) (nm_c ((by decide : ∀ u ∈ ArM, u ≠ 22) _ hha1) (nm_c ((by decide : ∀ u ∈ ArM, u ≠ 24) _ hha1) (nm_c ((by decide : ∀ u ∈ ArM, u ≠ 25) _ hha1) (nm_c ((by decide : ∀ u ∈ ArM, u ≠ 26) _ hha1) (nm_c ((by decide : ∀ u ∈ ArM, u ≠ 28) _ hha1) (nm_c ((by decide : ∀ u ∈ ArM, u ≠ 29) _ hha1) (nm_c ((by decide : ∀ u ∈ ArM, u ≠ 30) _ hha1) (nm_c (by omega) nm_0)))))))))))) (fun l z => by cases z) hax3
  refine T.go 2 (fun n9 => (rfl : _ = exe ξ n9 (d + 6) j_N_stageMount 20 [(0, .ref 16), (1, J x), (2, J y), (3, J z1)] [J z1] s1)) ?_
  refine T.if_ne rfl rfl (by omega) (fun c1 => ?_) (fun c1 => ?_)
  · refine T.go 1 (fun n9 => (rfl : _ = exe ξ n9 (d + 6) j_N_stageMount 36 [(0, .ref 16), (1, J x), (2, J y), (3, J z1)] [J z1] s1)) ?_
    exact T.ireti rfl rfl ⟨_, rfl, hs1, by omega, by omega⟩
  · refine T.go 1 (fun n9 => (rfl : _ = exe ξ n9 (d + 6) j_N_stageMount 24 [(0, .ref 16), (1, J x), (2, J y), (3, J z1)] [.ref 16] s1)) ?_
    refine T.get rfl rfl rfl k1 rfl ?_
    refine T.go 1 (fun n9 => (rfl : _ = exe ξ n9 (d + 6) j_N_stageMount 28 [(0, .ref 16), (1, J x), (2, J y), (3, J z1)] [J x, .ref sgx1] s1)) ?_
    obtain ⟨a2, hga2, hha2⟩ := em_at (x := x) emx2 (by omega)
    refine T.aald rfl k2 (by omega) hga2 ?_
    obtain ⟨ex4, erx4, dix4, bax4, fpx4, hax4, fx4a, fx4b, fx4c, fx4d, fx4e, fx4f, fx4g, fx4h, fx4i, fx4j⟩ := hs1.1.arc (ArM_L hha2)
    refine T.callv (as := []) (r := []) rfl rfl rfl (ArL_lt _ (ArM_L hha2)).2.2.1 hax4 rfl (s_A_survey (d + 1) a2 s1 hs1.1 (ArM_L hha2)  ) (fun v2 s2 hqs2 => ?_)
    obtain ⟨z2, rfl, hs2, hzz2, hyz2⟩ := hqs2
    have es2 := hs2
    have hs2 := hs2.sub (w' := WS) (List.forall_mem_cons.mpr ⟨((by decide : ∀ q ∈ ArM, q ∈ WS) _ hha2), (List.forall_mem_cons.mpr ⟨((by decide : ∀ q ∈ ArM, q + 3 ∈ WS) _ hha2), (List.forall_mem_cons.mpr ⟨((by decide : ∀ q ∈ ArM, q + 4 ∈ WS) _ hha2), (fun _ h => by cases h)⟩)⟩)⟩)
    have k4 := es2.b.1 _ _ (nm_c ((by decide : ∀ v ∈ ArM, (16 : Nat) ≠ v) _ hha2) (nm_c ((by decide : ∀ v ∈ ArM, (16 : Nat) ≠ v + 3) _ hha2) (nm_c ((by decide : ∀ v ∈ ArM, (16 : Nat) ≠ v + 4) _ hha2) nm_0))) (fun l z => by cases z) k1
    have k5 := es2.b.1 _ _ (nm_c ((by decide : ∀ u ∈ [73, 74], ∀ v ∈ ArM, u ≠ v) _ (mem2 fx1sg) _ hha2) (nm_c ((by decide : ∀ u ∈ [73, 74], ∀ v ∈ ArM, u ≠ v + 3) _ (mem2 fx1sg) _ hha2) (nm_c ((by decide : ∀ u ∈ [73, 74], ∀ v ∈ ArM, u ≠ v + 4) _ (mem2 fx1sg) _ hha2) nm_0))) (fun l z => by cases z) k2
    have gs2 := hs1.trans hs2
    refine T.go 1 (fun n9 => (rfl : _ = exe ξ n9 (d + 6) j_N_stageMount 36 [(0, .ref 16), (1, J x), (2, J y), (3, J z1)] [J z2] s2)) ?_
    exact T.ireti rfl rfl ⟨_, rfl, gs2, by omega, by omega⟩

set_option maxRecDepth 10000 in
set_option maxHeartbeats 4000000 in
theorem s_N_fault {ξ : Nat → Option (Nat × List Int32)} (d : Nat)  (σ : qH) (hK : K σ)   : T ξ (d + 8) j_N_fault 0 (lv_args 0 [.ref 16]) [] σ (fun v σ' => ∃ z : Int, v = some (J z) ∧ σ' = σ ∧ -2147483648 ≤ z ∧ z ≤ 2147483647) := by
  refine T.go 1 (fun n9 => (rfl : _ = exe ξ n9 (d + 8) j_N_fault 1 [(0, .ref 16)] [.ref 16] σ)) ?_
  obtain ⟨kex1, scx1, tpx1, oux1, mox1, sgx1, hox1, mcx1, lfx1, lpx1, hNx1, fx1ke, fx1sc, fx1tp, fx1ou, fx1mo, fx1sg, fx1d, fx1e, fx1f, fx1g, fx1h, fx1i, fx1j⟩ := hK.na
  refine T.get rfl rfl rfl hNx1 rfl ?_
  exact T.ireti rfl rfl ⟨_, rfl, rfl, by omega, by omega⟩

set_option maxRecDepth 10000 in
set_option maxHeartbeats 4000000 in
theorem s_N_place {ξ : Nat → Option (Nat × List Int32)} (d : Nat)  (σ : qH) (hK : K σ)   : T ξ (d + 8) j_N_place 0 (lv_args 0 [.ref 16]) [] σ (fun v σ' => ∃ z : Int, v = some (J z) ∧ σ' = σ ∧ -2147483648 ≤ z ∧ z ≤ 2147483647) := by
  refine T.go 1 (fun n9 => (rfl : _ = exe ξ n9 (d + 8) j_N_place 1 [(0, .ref 16)] [.ref 16] σ)) ?_
  obtain ⟨kex1, scx1, tpx1, oux1, mox1, sgx1, hox1, mcx1, lfx1, lpx1, hNx1, fx1ke, fx1sc, fx1tp, fx1ou, fx1mo, fx1sg, fx1d, fx1e, fx1f, fx1g, fx1h, fx1i, fx1j⟩ := hK.na
  refine T.get rfl rfl rfl hNx1 rfl ?_
  exact T.ireti rfl rfl ⟨_, rfl, rfl, by omega, by omega⟩

set_option maxRecDepth 10000 in
set_option maxHeartbeats 4000000 in
theorem s_N_count {ξ : Nat → Option (Nat × List Int32)} (d : Nat) (x : Int) (σ : qH) (hK : K σ)  (rx : -2147483648 ≤ x ∧ x ≤ 2147483647) : T ξ (d + 8) j_N_count 0 (lv_args 0 [.ref 16, J x]) [] σ (fun v σ' => ∃ z : Int, v = some (J z) ∧ σ' = σ ∧ -2147483648 ≤ z ∧ z ≤ 2147483647) := by
  refine T.go 2 (fun n9 => (rfl : _ = exe ξ n9 (d + 8) j_N_count 2 [(0, .ref 16), (1, J x)] [J (-1), J x] σ)) ?_
  refine T.icmp_ne rfl rfl (by omega) (by omega) (fun c1 => ?_) (fun c1 => ?_)
  · refine T.go 2 (fun n9 => (rfl : _ = exe ξ n9 (d + 8) j_N_count 25 [(0, .ref 16), (1, J x)] [J x, .ref 16] σ)) ?_
    obtain ⟨kex1, scx1, tpx1, oux1, mox1, sgx1, hox1, mcx1, lfx1, lpx1, hNx1, fx1ke, fx1sc, fx1tp, fx1ou, fx1mo, fx1sg, fx1d, fx1e, fx1f, fx1g, fx1h, fx1i, fx1j⟩ := hK.na
    refine T.callv (as := [J x]) (r := []) rfl rfl rfl rfl hNx1 rfl (s_N_archiveOf (d + 7) x σ hK   (by omega)) (fun v1 s1 hqs1 => ?_)
    obtain ⟨esz1, rfl | ⟨a1, hAa1, rfl⟩⟩ := hqs1
    · rw [esz1]
      refine T.go 5 (fun n9 => (rfl : _ = exe ξ n9 (d + 8) j_N_count 41 [(0, .ref 16), (1, J x), (2, .null)] [J (-1)] σ)) ?_
      exact T.ireti rfl rfl ⟨_, rfl, rfl, by omega, by omega⟩
    · rw [esz1]
      refine T.go 4 (fun n9 => (rfl : _ = exe ξ n9 (d + 8) j_N_count 38 [(0, .ref 16), (1, J x), (2, .ref a1)] [.ref a1] σ)) ?_
      obtain ⟨ex2, erx2, dix2, bax2, fpx2, hax2, fx2a, fx2b, fx2c, fx2d, fx2e, fx2f, fx2g, fx2h, fx2i, fx2j⟩ := hK.arc hAa1
      refine T.get rfl rfl rfl hax2 rfl ?_
      exact T.ireti rfl rfl ⟨_, rfl, rfl, by omega, by omega⟩
  · refine T.go 1 (fun n9 => (rfl : _ = exe ξ n9 (d + 8) j_N_count 6 [(0, .ref 16), (1, J x)] [.ref 16] σ)) ?_
    obtain ⟨kex3, scx3, tpx3, oux3, mox3, sgx3, hox3, mcx3, lfx3, lpx3, hNx3, fx3ke, fx3sc, fx3tp, fx3ou, fx3mo, fx3sg, fx3d, fx3e, fx3f, fx3g, fx3h, fx3i, fx3j⟩ := hK.na
    refine T.get rfl rfl rfl hNx3 rfl ?_
    refine T.if_eq rfl rfl (by omega) (fun c2 => ?_) (fun c2 => ?_)
    · refine T.go 1 (fun n9 => (rfl : _ = exe ξ n9 (d + 8) j_N_count 22 [(0, .ref 16), (1, J x)] [J 0] σ)) ?_
      exact T.ireti rfl rfl ⟨_, rfl, rfl, by omega, by omega⟩
    · refine T.go 2 (fun n9 => (rfl : _ = exe ξ n9 (d + 8) j_N_count 14 [(0, .ref 16), (1, J x)] [.ref 16, J 1] σ)) ?_
      refine T.get rfl rfl rfl hNx3 rfl ?_
      refine T.iadd rfl ?_
      refine T.go 1 (fun n9 => (rfl : _ = exe ξ n9 (d + 8) j_N_count 22 [(0, .ref 16), (1, J x)] [J (1 + mcx3)] σ)) ?_
      exact T.ireti rfl rfl ⟨_, rfl, rfl, by omega, by omega⟩

set_option maxRecDepth 10000 in
set_option maxHeartbeats 4000000 in
theorem s_N_value {ξ : Nat → Option (Nat × List Int32)} (d : Nat) (x : Int) (σ : qH) (hK : K σ)  (rx : -2147483648 ≤ x ∧ x ≤ 2147483647) : T ξ (d + 8) j_N_value 0 (lv_args 0 [.ref 16, J x]) [] σ (fun v σ' => ∃ z : Int, v = some (J z) ∧ σ' = σ ∧ -2147483648 ≤ z ∧ z ≤ 2147483647) := by
  refine T.go 1 (fun n9 => (rfl : _ = exe ξ n9 (d + 8) j_N_value 1 [(0, .ref 16), (1, J x)] [.ref 16] σ)) ?_
  obtain ⟨kex1, scx1, tpx1, oux1, mox1, sgx1, hox1, mcx1, lfx1, lpx1, hNx1, fx1ke, fx1sc, fx1tp, fx1ou, fx1mo, fx1sg, fx1d, fx1e, fx1f, fx1g, fx1h, fx1i, fx1j⟩ := hK.na
  refine T.get rfl rfl rfl hNx1 rfl ?_
  refine T.go 1 (fun n9 => (rfl : _ = exe ξ n9 (d + 8) j_N_value 5 [(0, .ref 16), (1, J x)] [J x, .ref 57] σ)) ?_
  obtain ⟨mx2, nx2, bx2, lx2, hrx2, hbx2, fx2a, fx2b, fx2c, fx2d, fx2e, fx2g, fx2h, fx2i⟩ := hK.row (r := 57) (by decide)
  refine T.callv (as := [J x]) (r := []) rfl rfl rfl rfl hrx2 rfl (s_R_at (d + 7) 57 x σ hK (by decide)  (by omega)) (fun v1 s1 hqs1 => ?_)
  obtain ⟨z1, rfl, esz1, hzz1, hyz1⟩ := hqs1
  rw [esz1]
  exact T.ireti rfl rfl ⟨_, rfl, rfl, by omega, by omega⟩

set_option maxRecDepth 10000 in
set_option maxHeartbeats 4000000 in
theorem s_N_octet {ξ : Nat → Option (Nat × List Int32)} (d : Nat) (x : Int) (σ : qH) (hK : K σ)  (rx : -2147483648 ≤ x ∧ x ≤ 2147483647) : T ξ (d + 8) j_N_octet 0 (lv_args 0 [.ref 16, J x]) [] σ (fun v σ' => ∃ z : Int, v = some (J z) ∧ σ' = σ ∧ -2147483648 ≤ z ∧ z ≤ 2147483647) := by
  refine T.go 1 (fun n9 => (rfl : _ = exe ξ n9 (d + 8) j_N_octet 1 [(0, .ref 16), (1, J x)] [.ref 16] σ)) ?_
  obtain ⟨kex1, scx1, tpx1, oux1, mox1, sgx1, hox1, mcx1, lfx1, lpx1, hNx1, fx1ke, fx1sc, fx1tp, fx1ou, fx1mo, fx1sg, fx1d, fx1e, fx1f, fx1g, fx1h, fx1i, fx1j⟩ := hK.na
  refine T.get rfl rfl rfl hNx1 rfl ?_
  refine T.go 1 (fun n9 => (rfl : _ = exe ξ n9 (d + 8) j_N_octet 5 [(0, .ref 16), (1, J x)] [J x, .ref kex1] σ)) ?_
  obtain ⟨mx2, nx2, bx2, lx2, hrx2, hbx2, fx2a, fx2b, fx2c, fx2d, fx2e, fx2g, fx2h, fx2i⟩ := hK.row (na_ke fx1ke)
  refine T.callv (as := [J x]) (r := []) rfl rfl rfl (RwL_lt _ (na_ke fx1ke)).2.2.1 hrx2 rfl (s_R_at (d + 7) kex1 x σ hK (na_ke fx1ke)  (by omega)) (fun v1 s1 hqs1 => ?_)
  obtain ⟨z1, rfl, esz1, hzz1, hyz1⟩ := hqs1
  rw [esz1]
  exact T.ireti rfl rfl ⟨_, rfl, rfl, by omega, by omega⟩

set_option maxRecDepth 10000 in
set_option maxHeartbeats 4000000 in
theorem s_N_entry {ξ : Nat → Option (Nat × List Int32)} (d : Nat) (x : Int) (y : Int) (u : Int) (σ : qH) (hK : K σ)  (rx : -2147483648 ≤ x ∧ x ≤ 2147483647) (ry : -2147483648 ≤ y ∧ y ≤ 2147483647) (ru : -2147483648 ≤ u ∧ u ≤ 2147483647) : TX ξ (d + 8) j_N_entry 0 (lv_args 0 [.ref 16, J x, J y, J u]) [] σ (QX WR [0, 1] σ (fun s => nsx s = nsx σ) (fun v σ' => ∃ z : Int, v = some (JL z) ∧ Fr WR σ σ' ∧ -9223372036854775808 ≤ z ∧ z ≤ 9223372036854775807 ∧ nsx σ' = nsx σ)) := by
  obtain ⟨kex1, scx1, tpx1, oux1, mox1, sgx1, hox1, mcx1, lfx1, lpx1, hNx1, fx1ke, fx1sc, fx1tp, fx1ou, fx1mo, fx1sg, fx1d, fx1e, fx1f, fx1g, fx1h, fx1i, fx1j⟩ := hK.na
  refine TX.go 2 (fun n9 => (rfl : _ = exx ξ n9 (d + 8) j_N_entry 2 [(0, .ref 16), (1, J x), (2, J y), (3, J u)] [J x, .ref 16] σ)) ?_
  refine TX.callv (as := [J x]) (r := []) rfl rfl rfl rfl rfl hNx1 rfl (s_N_archiveOf (d + 7) x σ hK   (by omega)) (fun v1 s1 hqs1 => ?_)
  obtain ⟨esz1, rfl | ⟨a1, hAa1, rfl⟩⟩ := hqs1
  · rw [esz1]
    refine TX.go 3 (fun n9 => (rfl : _ = exx ξ n9 (d + 8) j_N_entry 21 [(0, .ref 16), (1, J x), (2, J y), (3, J u), (4, .null)] [] σ)) ?_
    exact TX.throw (Nat.ble_eq_true_of_le (by omega)) rfl rfl (QX_r (by decide) (Fr.refl hK) rfl)
  · rw [esz1]
    refine TX.go 5 (fun n9 => (rfl : _ = exx ξ n9 (d + 8) j_N_entry 15 [(0, .ref 16), (1, J x), (2, J y), (3, J u), (4, .ref a1)] [J y, .ref a1] σ)) ?_
    obtain ⟨ex2, erx2, dix2, bax2, fpx2, hax2, fx2a, fx2b, fx2c, fx2d, fx2e, fx2f, fx2g, fx2h, fx2i, fx2j⟩ := hK.arc hAa1
    refine TX.callv (as := [J y]) (r := []) rfl rfl rfl rfl (ArL_lt _ hAa1).2.2.1 hax2 rfl (s_A_hasEntry (d + 7) a1 y σ hK hAa1  (by omega)) (fun v2 s2 hqs2 => ?_)
    obtain ⟨z2, rfl, esz2, hzz2, hyz2, pz2_0⟩ := hqs2
    rw [esz2]
    refine TX.if_ne rfl rfl rfl (by omega) (fun c1 => ?_) (fun c1 => ?_)
    · refine TX.go 1 (fun n9 => (rfl : _ = exx ξ n9 (d + 8) j_N_entry 32 [(0, .ref 16), (1, J x), (2, J y), (3, J u), (4, .ref a1)] [J u] σ)) ?_
      by_cases c2 : u < 0 ∨ 5 < u
      · refine TX.jmp rfl rfl rfl (sw_out (off := 85) rfl c2 (by omega) (by rfl)) ?_
        exact TX.throw (Nat.ble_eq_true_of_le (by omega)) rfl rfl (QX_r (by decide) (Fr.refl hK) rfl)
      by_cases c3 : u = 0
      · refine TX.jmp rfl rfl rfl (sw_in (v := 0) (off := 40) c3 (by decide) rfl rfl) ?_
        refine TX.go 2 (fun n9 => (rfl : _ = exx ξ n9 (d + 8) j_N_entry 75 [(0, .ref 16), (1, J x), (2, J y), (3, J u), (4, .ref a1)] [J y, .ref a1] σ)) ?_
        refine TX.callv (as := [J y]) (r := []) rfl rfl rfl rfl (ArL_lt _ hAa1).2.2.1 hax2 rfl (s_A_size (d + 5) a1 y σ hK hAa1  (by omega)) (fun v3 s3 hqs3 => ?_)
        obtain ⟨z3, rfl, esz3, hzz3, hyz3⟩ := hqs3
        rw [esz3]
        exact TX.lret rfl rfl rfl (QX_l ⟨_, rfl, (Fr.refl hK), by omega, by omega, rfl⟩)
      by_cases c4 : u = 1
      · refine TX.jmp rfl rfl rfl (sw_in (v := 1) (off := 47) c4 (by decide) rfl rfl) ?_
        refine TX.go 2 (fun n9 => (rfl : _ = exx ξ n9 (d + 8) j_N_entry 82 [(0, .ref 16), (1, J x), (2, J y), (3, J u), (4, .ref a1)] [J y, .ref a1] σ)) ?_
        refine TX.callv (as := [J y]) (r := []) rfl rfl rfl rfl (ArL_lt _ hAa1).2.2.1 hax2 rfl (s_A_packedSize (d + 5) a1 y σ hK hAa1  (by omega)) (fun v4 s4 hqs4 => ?_)
        obtain ⟨z4, rfl, esz4, hzz4, hyz4⟩ := hqs4
        rw [esz4]
        exact TX.lret rfl rfl rfl (QX_l ⟨_, rfl, (Fr.refl hK), by omega, by omega, rfl⟩)
      by_cases c5 : u = 2
      · refine TX.jmp rfl rfl rfl (sw_in (v := 2) (off := 54) c5 (by decide) rfl rfl) ?_
        refine TX.go 2 (fun n9 => (rfl : _ = exx ξ n9 (d + 8) j_N_entry 89 [(0, .ref 16), (1, J x), (2, J y), (3, J u), (4, .ref a1)] [J y, .ref a1] σ)) ?_
        refine TX.callv (as := [J y]) (r := []) rfl rfl rfl rfl (ArL_lt _ hAa1).2.2.1 hax2 rfl (s_A_method (d + 5) a1 y σ hK hAa1  (by omega)) (fun v5 s5 hqs5 => ?_)
        obtain ⟨z5, rfl, esz5, hzz5, hyz5⟩ := hqs5
        rw [esz5]
        refine TX.i2l rfl rfl (by omega) ?_
        exact TX.lret rfl rfl rfl (QX_l ⟨_, rfl, (Fr.refl hK), by omega, by omega, rfl⟩)
      by_cases c6 : u = 3
      · refine TX.jmp rfl rfl rfl (sw_in (v := 3) (off := 62) c6 (by decide) rfl rfl) ?_
        refine TX.go 2 (fun n9 => (rfl : _ = exx ξ n9 (d + 8) j_N_entry 97 [(0, .ref 16), (1, J x), (2, J y), (3, J u), (4, .ref a1)] [J y, .ref a1] σ)) ?_
        refine TX.callv (as := [J y]) (r := []) rfl rfl rfl rfl (ArL_lt _ hAa1).2.2.1 hax2 rfl (s_A_sum (d + 5) a1 y σ hK hAa1  (by omega)) (fun v6 s6 hqs6 => ?_)
        obtain ⟨z6, rfl, esz6, hzz6, hyz6⟩ := hqs6
        rw [esz6]
        exact TX.lret rfl rfl rfl (QX_l ⟨_, rfl, (Fr.refl hK), by omega, by omega, rfl⟩)
      by_cases c7 : u = 4
      · refine TX.jmp rfl rfl rfl (sw_in (v := 4) (off := 69) c7 (by decide) rfl rfl) ?_
        refine TX.go 2 (fun n9 => (rfl : _ = exx ξ n9 (d + 8) j_N_entry 104 [(0, .ref 16), (1, J x), (2, J y), (3, J u), (4, .ref a1)] [J y, .ref a1] σ)) ?_
        refine TX.callv (as := [J y]) (r := []) rfl rfl rfl rfl (ArL_lt _ hAa1).2.2.1 hax2 rfl (s_A_flags (d + 5) a1 y σ hK hAa1  (by omega)) (fun v7 s7 hqs7 => ?_)
        obtain ⟨z7, rfl, esz7, hzz7, hyz7⟩ := hqs7
        rw [esz7]
        refine TX.i2l rfl rfl (by omega) ?_
        exact TX.lret rfl rfl rfl (QX_l ⟨_, rfl, (Fr.refl hK), by omega, by omega, rfl⟩)
      have c8 : u = 5 := by omega
      refine TX.jmp rfl rfl rfl (sw_in (v := 5) (off := 77) c8 (by decide) rfl rfl) ?_
      refine TX.go 2 (fun n9 => (rfl : _ = exx ξ n9 (d + 8) j_N_entry 112 [(0, .ref 16), (1, J x), (2, J y), (3, J u), (4, .ref a1)] [J y, .ref a1] σ)) ?_
      refine TX.callv (as := [J y]) (r := []) rfl rfl rfl rfl (ArL_lt _ hAa1).2.2.1 hax2 rfl (s_A_nameLength (d + 5) a1 y σ hK hAa1  (by omega)) (fun v8 s8 hqs8 => ?_)
      obtain ⟨z8, rfl, esz8, hzz8, hyz8⟩ := hqs8
      rw [esz8]
      refine TX.i2l rfl rfl (by omega) ?_
      exact TX.lret rfl rfl rfl (QX_l ⟨_, rfl, (Fr.refl hK), by omega, by omega, rfl⟩)
    · exact TX.throw (Nat.ble_eq_true_of_le (by omega)) rfl rfl (QX_r (by decide) (Fr.refl hK) rfl)

set_option maxRecDepth 10000 in
set_option maxHeartbeats 4000000 in
theorem s_N_letter {ξ : Nat → Option (Nat × List Int32)} (d : Nat) (x : Int) (y : Int) (u : Int) (σ : qH) (hK : K σ)  (rx : -2147483648 ≤ x ∧ x ≤ 2147483647) (ry : -2147483648 ≤ y ∧ y ≤ 2147483647) (ru : -2147483648 ≤ u ∧ u ≤ 2147483647) : TX ξ (d + 8) j_N_letter 0 (lv_args 0 [.ref 16, J x, J y, J u]) [] σ (QX WR [1] σ (fun s => nsx s = nsx σ) (fun v σ' => ∃ z : Int, v = some (J z) ∧ Fr WR σ σ' ∧ -2147483648 ≤ z ∧ z ≤ 2147483647 ∧ nsx σ' = nsx σ)) := by
  obtain ⟨kex1, scx1, tpx1, oux1, mox1, sgx1, hox1, mcx1, lfx1, lpx1, hNx1, fx1ke, fx1sc, fx1tp, fx1ou, fx1mo, fx1sg, fx1d, fx1e, fx1f, fx1g, fx1h, fx1i, fx1j⟩ := hK.na
  refine TX.go 2 (fun n9 => (rfl : _ = exx ξ n9 (d + 8) j_N_letter 2 [(0, .ref 16), (1, J x), (2, J y), (3, J u)] [J x, .ref 16] σ)) ?_
  refine TX.callv (as := [J x]) (r := []) rfl rfl rfl rfl rfl hNx1 rfl (s_N_archiveOf (d + 7) x σ hK   (by omega)) (fun v1 s1 hqs1 => ?_)
  obtain ⟨esz1, rfl | ⟨a1, hAa1, rfl⟩⟩ := hqs1
  · rw [esz1]
    refine TX.go 3 (fun n9 => (rfl : _ = exx ξ n9 (d + 8) j_N_letter 21 [(0, .ref 16), (1, J x), (2, J y), (3, J u), (4, .null)] [] σ)) ?_
    exact TX.throw (Nat.ble_eq_true_of_le (by omega)) rfl rfl (QX_r (by decide) (Fr.refl hK) rfl)
  · rw [esz1]
    refine TX.go 5 (fun n9 => (rfl : _ = exx ξ n9 (d + 8) j_N_letter 15 [(0, .ref 16), (1, J x), (2, J y), (3, J u), (4, .ref a1)] [J y, .ref a1] σ)) ?_
    obtain ⟨ex2, erx2, dix2, bax2, fpx2, hax2, fx2a, fx2b, fx2c, fx2d, fx2e, fx2f, fx2g, fx2h, fx2i, fx2j⟩ := hK.arc hAa1
    refine TX.callv (as := [J y]) (r := []) rfl rfl rfl rfl (ArL_lt _ hAa1).2.2.1 hax2 rfl (s_A_hasEntry (d + 7) a1 y σ hK hAa1  (by omega)) (fun v2 s2 hqs2 => ?_)
    obtain ⟨z2, rfl, esz2, hzz2, hyz2, pz2_0⟩ := hqs2
    rw [esz2]
    refine TX.if_ne rfl rfl rfl (by omega) (fun c1 => ?_) (fun c1 => ?_)
    · refine TX.go 3 (fun n9 => (rfl : _ = exx ξ n9 (d + 8) j_N_letter 35 [(0, .ref 16), (1, J x), (2, J y), (3, J u), (4, .ref a1)] [J u, J y, .ref a1] σ)) ?_
      refine TX.callv (as := [J y, J u]) (r := []) rfl rfl rfl rfl (ArL_lt _ hAa1).2.2.1 hax2 rfl (s_A_nameByte (d + 4) a1 y u σ hK hAa1  (by omega) (by omega)) (fun v3 s3 hqs3 => ?_)
      obtain ⟨z3, rfl, esz3, hzz3, hyz3⟩ := hqs3
      rw [esz3]
      exact TX.ireti rfl rfl rfl (QX_l ⟨_, rfl, (Fr.refl hK), by omega, by omega, rfl⟩)
    · exact TX.throw (Nat.ble_eq_true_of_le (by omega)) rfl rfl (QX_r (by decide) (Fr.refl hK) rfl)

set_option maxRecDepth 10000 in
set_option maxHeartbeats 4000000 in
theorem s_N_number {ξ : Nat → Option (Nat × List Int32)} (d : Nat) (x : Int) (σ : qH) (hK : K σ)  (rx : -2147483648 ≤ x ∧ x ≤ 2147483647) : TX ξ (d + 8) j_N_number 0 (lv_args 0 [.ref 16, J x]) [] σ (QX WR [1] σ (fun s => nsx s = nsx σ) (fun v σ' => ∃ z : Int, v = some (J z) ∧ Fr WR σ σ' ∧ -2147483648 ≤ z ∧ z ≤ 2147483647 ∧ nsx σ' = nsx σ)) := by
  obtain ⟨kex1, scx1, tpx1, oux1, mox1, sgx1, hox1, mcx1, lfx1, lpx1, hNx1, fx1ke, fx1sc, fx1tp, fx1ou, fx1mo, fx1sg, fx1d, fx1e, fx1f, fx1g, fx1h, fx1i, fx1j⟩ := hK.na
  refine TX.go 2 (fun n9 => (rfl : _ = exx ξ n9 (d + 8) j_N_number 2 [(0, .ref 16), (1, J x)] [J x, .ref 16] σ)) ?_
  refine TX.callv (as := [J x]) (r := []) rfl rfl rfl rfl rfl hNx1 rfl (s_N_archiveOf (d + 7) x σ hK   (by omega)) (fun v1 s1 hqs1 => ?_)
  obtain ⟨esz1, rfl | ⟨a1, hAa1, rfl⟩⟩ := hqs1
  · rw [esz1]
    refine TX.go 7 (fun n9 => (rfl : _ = exx ξ n9 (d + 8) j_N_number 32 [(0, .ref 16), (1, J x), (2, .null), (3, J (-1))] [.ref 16] σ)) ?_
    refine TX.get rfl rfl rfl rfl hNx1 rfl ?_
    obtain ⟨mx2, nx2, bx2, lx2, hrx2, hbx2, fx2a, fx2b, fx2c, fx2d, fx2e, fx2g, fx2h, fx2i⟩ := hK.row (r := 51) (by decide)
    refine TX.callv (as := []) (r := []) rfl rfl rfl rfl rfl hrx2 rfl (s_R_clear (d + 7) 51 σ hK (by decide)  ) (fun v2 s2 hqs2 => ?_)
    obtain ⟨rfl, hs2, pz2_0, pz2_1⟩ := hqs2
    have es2 := hs2
    have hs2 := hs2.sub (w' := WR) (List.forall_mem_cons.mpr ⟨(by decide), (fun _ h => by cases h)⟩)
    have k1 := es2.b.1 _ _ (nm_c (by decide) nm_0) (fun l z => by cases z) hNx1
    refine TX.go 2 (fun n9 => (rfl : _ = exx ξ n9 (d + 8) j_N_number 42 [(0, .ref 16), (1, J x), (2, .null), (3, J (-1))] [] s2)) ?_
    have tq1 : nsx s2 = nsx σ := (nsx_of k1).trans (nsx_of hNx1).symm
    exact TX.throw (Nat.ble_eq_true_of_le (by omega)) rfl rfl (QX_r (by decide) hs2 tq1)
  · rw [esz1]
    refine TX.go 5 (fun n9 => (rfl : _ = exx ξ n9 (d + 8) j_N_number 16 [(0, .ref 16), (1, J x), (2, .ref a1)] [.ref 16, .ref a1] σ)) ?_
    refine TX.get rfl rfl rfl rfl hNx1 rfl ?_
    refine TX.go 2 (fun n9 => (rfl : _ = exx ξ n9 (d + 8) j_N_number 21 [(0, .ref 16), (1, J x), (2, .ref a1)] [.ref 16, J 0, .ref 51, .ref a1] σ)) ?_
    refine TX.get rfl rfl rfl rfl hNx1 rfl ?_
    obtain ⟨mx3, nx3, bx3, lx3, hrx3, hbx3, fx3a, fx3b, fx3c, fx3d, fx3e, fx3g, fx3h, fx3i⟩ := hK.row (r := 51) (by decide)
    refine TX.get rfl rfl rfl rfl hrx3 rfl ?_
    obtain ⟨ex4, erx4, dix4, bax4, fpx4, hax4, fx4a, fx4b, fx4c, fx4d, fx4e, fx4f, fx4g, fx4h, fx4i, fx4j⟩ := hK.arc hAa1
    refine TX.callv (as := [.ref 51, J 0, J nx3]) (r := []) rfl rfl rfl rfl (ArL_lt _ hAa1).2.2.1 hax4 rfl (s_A_lookUp (d + 6) a1 51 0 nx3 σ hK hAa1 (by decide)  (by omega) (by omega)) (fun v3 s3 hqs3 => ?_)
    obtain ⟨z3, rfl, esz3, hzz3, hyz3⟩ := hqs3
    rw [esz3]
    refine TX.go 2 (fun n9 => (rfl : _ = exx ξ n9 (d + 8) j_N_number 32 [(0, .ref 16), (1, J x), (2, .ref a1), (3, J z3)] [.ref 16] σ)) ?_
    refine TX.get rfl rfl rfl rfl hNx1 rfl ?_
    refine TX.callv (as := []) (r := []) rfl rfl rfl rfl rfl hrx3 rfl (s_R_clear (d + 7) 51 σ hK (by decide)  ) (fun v4 s4 hqs4 => ?_)
    obtain ⟨rfl, hs4, pz4_0, pz4_1⟩ := hqs4
    have es4 := hs4
    have hs4 := hs4.sub (w' := WR) (List.forall_mem_cons.mpr ⟨(by decide), (fun _ h => by cases h)⟩)
    have k2 := es4.b.1 _ _ (nm_c (by decide) nm_0) (fun l z => by cases z) hNx1
    have k3 := es4.b.1 _ _ (nm_c ((by decide : ∀ u ∈ ArL, u ≠ 51) _ hAa1) nm_0) (fun l z => by cases z) hax4
    refine TX.go 3 (fun n9 => (rfl : _ = exx ξ n9 (d + 8) j_N_number 53 [(0, .ref 16), (1, J x), (2, .ref a1), (3, J z3)] [J z3] s4)) ?_
    have tq2 : nsx s4 = nsx σ := (nsx_of k2).trans (nsx_of hNx1).symm
    exact TX.ireti rfl rfl rfl (QX_l ⟨_, rfl, hs4, by omega, by omega, tq2⟩)

set_option maxRecDepth 10000 in
set_option maxHeartbeats 4000000 in
theorem s_N_find {ξ : Nat → Option (Nat × List Int32)} (d : Nat) (x : Int) (σ : qH) (hK : K σ)  (rx : -2147483648 ≤ x ∧ x ≤ 2147483647) : TX ξ (d + 8) j_N_find 0 (lv_args 0 [.ref 16, J x]) [] σ (QX WR [0] σ (fun s => nsx s = nsx σ) (fun v σ' => ∃ z : Int, v = some (J z) ∧ Fr WR σ σ' ∧ -2147483648 ≤ z ∧ z ≤ 2147483647 ∧ nsx σ' = nsx σ)) := by
  obtain ⟨kex1, scx1, tpx1, oux1, mox1, sgx1, hox1, mcx1, lfx1, lpx1, hNx1, fx1ke, fx1sc, fx1tp, fx1ou, fx1mo, fx1sg, fx1d, fx1e, fx1f, fx1g, fx1h, fx1i, fx1j⟩ := hK.na
  refine TX.go 2 (fun n9 => (rfl : _ = exx ξ n9 (d + 8) j_N_find 2 [(0, .ref 16), (1, J x)] [J 1, J x] σ)) ?_
  refine TX.icmp_ge rfl rfl rfl (by omega) (by omega) (fun c1 => ?_) (fun c1 => ?_)
  · refine TX.go 2 (fun n9 => (rfl : _ = exx ξ n9 (d + 8) j_N_find 11 [(0, .ref 16), (1, J x)] [J x, .ref 16] σ)) ?_
    refine TX.callv (as := [J x]) (r := []) rfl rfl rfl rfl rfl hNx1 rfl (s_N_searchMounts (d + 5) x σ hK   (by omega)) (fun v1 s1 hqs1 => ?_)
    obtain ⟨z1, rfl, esz1, hzz1, hyz1⟩ := hqs1
    rw [esz1]
    refine TX.go 2 (fun n9 => (rfl : _ = exx ξ n9 (d + 8) j_N_find 16 [(0, .ref 16), (1, J x), (2, J z1)] [.ref 16] σ)) ?_
    refine TX.get rfl rfl rfl rfl hNx1 rfl ?_
    obtain ⟨mx2, nx2, bx2, lx2, hrx2, hbx2, fx2a, fx2b, fx2c, fx2d, fx2e, fx2g, fx2h, fx2i⟩ := hK.row (r := 51) (by decide)
    refine TX.callv (as := []) (r := []) rfl rfl rfl rfl rfl hrx2 rfl (s_R_clear (d + 7) 51 σ hK (by decide)  ) (fun v2 s2 hqs2 => ?_)
    obtain ⟨rfl, hs2, pz2_0, pz2_1⟩ := hqs2
    have es2 := hs2
    have hs2 := hs2.sub (w' := WR) (List.forall_mem_cons.mpr ⟨(by decide), (fun _ h => by cases h)⟩)
    have k1 := es2.b.1 _ _ (nm_c (by decide) nm_0) (fun l z => by cases z) hNx1
    refine TX.go 2 (fun n9 => (rfl : _ = exx ξ n9 (d + 8) j_N_find 24 [(0, .ref 16), (1, J x), (2, J z1)] [J 1, J x] s2)) ?_
    refine TX.icmp_ge rfl rfl rfl (by omega) (by omega) (fun c2 => ?_) (fun c2 => ?_)
    · refine TX.go 1 (fun n9 => (rfl : _ = exx ξ n9 (d + 8) j_N_find 38 [(0, .ref 16), (1, J x), (2, J z1)] [J z1] s2)) ?_
      have tq1 : nsx s2 = nsx σ := (nsx_of k1).trans (nsx_of hNx1).symm
      exact TX.ireti rfl rfl rfl (QX_l ⟨_, rfl, hs2, by omega, by omega, tq1⟩)
    · have tq2 : nsx s2 = nsx σ := (nsx_of k1).trans (nsx_of hNx1).symm
      exact TX.throw (Nat.ble_eq_true_of_le (by omega)) rfl rfl (QX_r (by decide) hs2 tq2)
  · refine TX.go 4 (fun n9 => (rfl : _ = exx ξ n9 (d + 8) j_N_find 16 [(0, .ref 16), (1, J x), (2, J (-1))] [.ref 16] σ)) ?_
    refine TX.get rfl rfl rfl rfl hNx1 rfl ?_
    obtain ⟨mx3, nx3, bx3, lx3, hrx3, hbx3, fx3a, fx3b, fx3c, fx3d, fx3e, fx3g, fx3h, fx3i⟩ := hK.row (r := 51) (by decide)
    refine TX.callv (as := []) (r := []) rfl rfl rfl rfl rfl hrx3 rfl (s_R_clear (d + 7) 51 σ hK (by decide)  ) (fun v3 s3 hqs3 => ?_)
    obtain ⟨rfl, hs3, pz3_0, pz3_1⟩ := hqs3
    have es3 := hs3
    have hs3 := hs3.sub (w' := WR) (List.forall_mem_cons.mpr ⟨(by decide), (fun _ h => by cases h)⟩)
    have k2 := es3.b.1 _ _ (nm_c (by decide) nm_0) (fun l z => by cases z) hNx1
    refine TX.go 2 (fun n9 => (rfl : _ = exx ξ n9 (d + 8) j_N_find 24 [(0, .ref 16), (1, J x), (2, J (-1))] [J 1, J x] s3)) ?_
    refine TX.icmp_ge rfl rfl rfl (by omega) (by omega) (fun c3 => ?_) (fun c3 => ?_)
    · refine TX.go 1 (fun n9 => (rfl : _ = exx ξ n9 (d + 8) j_N_find 38 [(0, .ref 16), (1, J x), (2, J (-1))] [J (-1)] s3)) ?_
      have tq3 : nsx s3 = nsx σ := (nsx_of k2).trans (nsx_of hNx1).symm
      exact TX.ireti rfl rfl rfl (QX_l ⟨_, rfl, hs3, by omega, by omega, tq3⟩)
    · have tq4 : nsx s3 = nsx σ := (nsx_of k2).trans (nsx_of hNx1).symm
      exact TX.throw (Nat.ble_eq_true_of_le (by omega)) rfl rfl (QX_r (by decide) hs3 tq4)

set_option maxRecDepth 10000 in
set_option maxHeartbeats 4000000 in
theorem s_N_read {ξ : Nat → Option (Nat × List Int32)} (hX : XT ξ) (d : Nat) (x : Int) (y : Int) (σ : qH) (hK : K σ)  (rx : -2147483648 ≤ x ∧ x ≤ 2147483647) (ry : -2147483648 ≤ y ∧ y ≤ 2147483647) : TX ξ (d + 8) j_N_read 0 (lv_args 0 [.ref 16, J x, J y]) [] σ (QX WR [0, 1] σ (fun s => nsx s = nsx σ) (fun v σ' => ∃ z : Int, v = some (J z) ∧ Fr WR σ σ' ∧ -2147483648 ≤ z ∧ z ≤ 2147483647 ∧ nsx σ' = nsx σ)) := by
  have hX0 := hX
  obtain ⟨⟨X1, hX1, lX1⟩, ⟨X2, hX2, lX2⟩, ⟨X3, hX3, lX3⟩, ⟨X4, hX4, lX4⟩, ⟨X5, hX5, lX5⟩, ⟨X6, hX6, lX6⟩⟩ := hX
  have lY1 : X1.length = 19 := by rw [lX1]; rfl
  have lY2 : X2.length = 29 := by rw [lX2]; rfl
  have lY3 : X3.length = 29 := by rw [lX3]; rfl
  have lY4 : X4.length = 30 := by rw [lX4]; rfl
  have lY5 : X5.length = 30 := by rw [lX5]; rfl
  have lY6 : X6.length = 16 := by rw [lX6]; rfl
  obtain ⟨kex1, scx1, tpx1, oux1, mox1, sgx1, hox1, mcx1, lfx1, lpx1, hNx1, fx1ke, fx1sc, fx1tp, fx1ou, fx1mo, fx1sg, fx1d, fx1e, fx1f, fx1g, fx1h, fx1i, fx1j⟩ := hK.na
  refine TX.go 2 (fun n9 => (rfl : _ = exx ξ n9 (d + 8) j_N_read 2 [(0, .ref 16), (1, J x), (2, J y)] [J x, .ref 16] σ)) ?_
  refine TX.callv (as := [J x]) (r := []) rfl rfl rfl rfl rfl hNx1 rfl (s_N_archiveOf (d + 7) x σ hK   (by omega)) (fun v1 s1 hqs1 => ?_)
  obtain ⟨esz1, rfl | ⟨a1, hAa1, rfl⟩⟩ := hqs1
  · rw [esz1]
    refine TX.go 3 (fun n9 => (rfl : _ = exx ξ n9 (d + 8) j_N_read 18 [(0, .ref 16), (1, J x), (2, J y), (3, .null)] [] σ)) ?_
    exact TX.throw (Nat.ble_eq_true_of_le (by omega)) rfl rfl (QX_r (by decide) (Fr.refl hK) rfl)
  · rw [esz1]
    refine TX.go 5 (fun n9 => (rfl : _ = exx ξ n9 (d + 8) j_N_read 12 [(0, .ref 16), (1, J x), (2, J y), (3, .ref a1)] [J y, .ref a1] σ)) ?_
    obtain ⟨ex2, erx2, dix2, bax2, fpx2, hax2, fx2a, fx2b, fx2c, fx2d, fx2e, fx2f, fx2g, fx2h, fx2i, fx2j⟩ := hK.arc hAa1
    refine TX.callv (as := [J y]) (r := []) rfl rfl rfl rfl (ArL_lt _ hAa1).2.2.1 hax2 rfl (s_A_hasEntry (d + 7) a1 y σ hK hAa1  (by omega)) (fun v2 s2 hqs2 => ?_)
    obtain ⟨z2, rfl, esz2, hzz2, hyz2, pz2_0⟩ := hqs2
    rw [esz2]
    refine TX.if_ne rfl rfl rfl (by omega) (fun c1 => ?_) (fun c1 => ?_)
    · refine TX.go 4 (fun n9 => (rfl : _ = exx ξ n9 (d + 8) j_N_read 32 [(0, .ref 16), (1, J x), (2, J y), (3, .ref a1)] [.ref 16, J y, .ref a1, .ref 16] σ)) ?_
      refine TX.get rfl rfl rfl rfl hNx1 rfl ?_
      refine TX.callv (as := [.ref a1, J y, .ref scx1]) (r := []) rfl rfl rfl rfl rfl hNx1 rfl (s_N_unpackEntry hX0 (d + 2) a1 y scx1 σ hK hAa1 (na_ke fx1sc) ((by decide : ∀ u ∈ ArL, ∀ v ∈ [59, 61], u + 1 ≠ v) _ hAa1 _ (mem2 fx1sc)) (by omega)) (fun v3 s3 hqs3 => ?_)
      obtain ⟨z3, rfl, hs3, hzz3, hyz3⟩ := hqs3
      have es3 := hs3
      have hs3 := hs3.sub (w' := WR) (List.forall_mem_cons.mpr ⟨(by decide), (List.forall_mem_cons.mpr ⟨(by decide), (List.forall_mem_cons.mpr ⟨(by decide), (List.forall_mem_cons.mpr ⟨(by decide), (List.forall_mem_cons.mpr ⟨(by decide), (List.forall_mem_cons.mpr ⟨(by decide), (List.forall_mem_cons.mpr ⟨(by decide), (List.forall_mem_cons.mpr ⟨(by decide), (List.forall_mem_cons.mpr ⟨(by decide), (List.forall_mem_cons.mpr ⟨(by decide), (List.forall_mem_cons.mpr ⟨(by decide), (List.forall_mem_cons.mpr ⟨((by decide : ∀ q ∈ [59, 61], q ∈ WR) _ (mem2 fx1sc)), (fun _ h => by cases h)⟩)⟩)⟩)⟩)⟩)⟩)⟩)⟩)⟩)⟩)⟩)⟩)
      have k1 := es3.b.1 _ _ (nm_c (by decide) (nm_c (by decide) (nm_c (by decide) (nm_c (by decide) (nm_c (by decide) (nm_c (by decide) (nm_c (by decide) (nm_c (by decide) (nm_c (by decide) (nm_c (by decide) (nm_c (by decide) (nm_c ((by decide : ∀ v ∈ [59, 61], (16 : Nat) ≠ v) _ (mem2 fx1sc)) nm_0)))))))))))) (fun l z => by cases z) hNx1
      have k2 := es3.b.1 _ _ (nm_c ((by decide : ∀ u ∈ ArL, u ≠ 17) _ hAa1) (nm_c ((by decide : ∀ u ∈ ArL, u ≠ 18) _ hAa1) (nm_c ((by decide : ∀ u ∈ ArL, u ≠ 20) _ hAa1) (nm_c ((by decide : ∀ u ∈ ArL, u ≠ 21) _ hAa1) (nm_c ((by decide : ∀ u ∈ ArL, u ≠ 22) _ hAa1) (nm_c ((by decide : ∀ u ∈ ArL, u ≠ 24) _ hAa1) (nm_c ((by decide : ∀ u ∈ ArL, u ≠ 25) _ hAa1) (nm_c ((by decide : ∀ u ∈ ArL, u ≠ 26) _ hAa1) (nm_c ((by decide : ∀ u ∈ ArL, u ≠ 28) _ hAa1) (nm_c ((by decide : ∀ u ∈ ArL, u ≠ 29) _ hAa1) (nm_c ((by decide : ∀ u ∈ ArL, u ≠ 30) _ hAa1) (nm_c ((by decide : ∀ u ∈ ArL, ∀ v ∈ [59, 61], u ≠ v) _ hAa1 _ (mem2 fx1sc)) nm_0)))))))))))) (fun l z => by cases z) hax2
      refine TX.go 2 (fun n9 => (rfl : _ = exx ξ n9 (d + 8) j_N_read 42 [(0, .ref 16), (1, J x), (2, J y), (3, .ref a1), (4, J z3)] [J z3] s3)) ?_
      refine TX.if_eq rfl rfl rfl (by omega) (fun c2 => ?_) (fun c2 => ?_)
      · refine TX.go 1 (fun n9 => (rfl : _ = exx ξ n9 (d + 8) j_N_read 63 [(0, .ref 16), (1, J x), (2, J y), (3, .ref a1), (4, J z3)] [.ref 16] s3)) ?_
        refine TX.get rfl rfl rfl rfl k1 rfl ?_
        refine TX.go 3 (fun n9 => (rfl : _ = exx ξ n9 (d + 8) j_N_read 70 [(0, .ref 16), (1, J x), (2, J y), (3, .ref a1), (4, J z3), (5, .ref scx1)] [.ref 16, .ref 16] s3)) ?_
        refine TX.get rfl rfl rfl rfl k1 rfl ?_
        refine TX.putF (w := WR) rfl rfl rfl k1 rfl rfl rfl (fs' := [.ref 17, .ref 41, .ref 48, .ref 51, .ref 53, .ref 55, .ref 57, .ref kex1, .ref kex1, .ref tpx1, .ref oux1, J hox1, .ref mox1, .ref sgx1, J mcx1, J lfx1, J lpx1]) rfl (Fr.other hs3.1 k1 rfl (show okN _ from ⟨_, _, _, _, _, _, _, _, _, _, rfl, by omega⟩) (by decide) (Or.inl (by decide)) (fun _ z => by cases z) (by decide)) (fun s4 hs4 hcs4 hos4 => ?_)
        have gs4 := hs3.trans hs4
        have k3 := hos4 ((by decide : ∀ u ∈ ArL, u ≠ 16) _ hAa1) k2
        refine TX.go 2 (fun n9 => (rfl : _ = exx ξ n9 (d + 8) j_N_read 79 [(0, .ref 16), (1, J x), (2, J y), (3, .ref a1), (4, J z3), (5, .ref scx1)] [.ref scx1, .ref 16] s4)) ?_
        refine TX.putF (w := WR) rfl rfl rfl hcs4 rfl rfl rfl (fs' := [.ref 17, .ref 41, .ref 48, .ref 51, .ref 53, .ref 55, .ref 57, .ref scx1, .ref kex1, .ref tpx1, .ref oux1, J hox1, .ref mox1, .ref sgx1, J mcx1, J lfx1, J lpx1]) rfl (Fr.other hs4.1 hcs4 rfl (show okN _ from ⟨_, _, _, _, _, _, _, _, _, _, rfl, by omega⟩) (by decide) (Or.inl (by decide)) (fun _ z => by cases z) (by decide)) (fun s5 hs5 hcs5 hos5 => ?_)
        have gs5 := gs4.trans hs5
        have k4 := hos5 ((by decide : ∀ u ∈ ArL, u ≠ 16) _ hAa1) k3
        refine TX.go 1 (fun n9 => (rfl : _ = exx ξ n9 (d + 8) j_N_read 83 [(0, .ref 16), (1, J x), (2, J y), (3, .ref a1), (4, J z3), (5, .ref scx1)] [.ref 16] s5)) ?_
        refine TX.get rfl rfl rfl rfl hcs5 rfl ?_
        obtain ⟨mx3, nx3, bx3, lx3, hrx3, hbx3, fx3a, fx3b, fx3c, fx3d, fx3e, fx3g, fx3h, fx3i⟩ := hs5.1.row (na_ke fx1sc)
        refine TX.get rfl rfl rfl rfl hrx3 rfl ?_
        have tq1 : nsx s5 = nsx σ := (nsx_of hcs5).trans (nsx_of hNx1).symm
        exact TX.ireti rfl rfl rfl (QX_l ⟨_, rfl, gs5, by omega, by omega, tq1⟩)
      · refine TX.go 3 (fun n9 => (rfl : _ = exx ξ n9 (d + 8) j_N_read 49 [(0, .ref 16), (1, J x), (2, J y), (3, .ref a1), (4, J z3)] [J y, J z3, .ref 16] s3)) ?_
        have tq2 : nsx s3 = nsx σ := (nsx_of k1).trans (nsx_of hNx1).symm
        refine TX.callv (as := [J z3, J y]) (r := []) rfl rfl rfl rfl rfl k1 rfl (s_N_note (d + 7) z3 y s3 hs3.1   (by omega) (by omega)) (fun v4 s6 hqs6 => ?_)
        obtain ⟨rfl, hs6, pz4_0⟩ := hqs6
        have es6 := hs6
        have hs6 := hs6.sub (w' := WR) (List.forall_mem_cons.mpr ⟨(by decide), (fun _ h => by cases h)⟩)
        have k5 := es6.b.1 _ _ (nm_c ((by decide : ∀ u ∈ ArL, u ≠ 16) _ hAa1) nm_0) (fun l z => by cases z) k2
        have gs6 := hs3.trans hs6
        have tq3 := pz4_0.trans tq2
        exact TX.throw (Nat.ble_eq_true_of_le (by omega)) rfl rfl (QX_r (by decide) gs6 tq3)
    · exact TX.throw (Nat.ble_eq_true_of_le (by omega)) rfl rfl (QX_r (by decide) (Fr.refl hK) rfl)

set_option maxRecDepth 10000 in
set_option maxHeartbeats 4000000 in
theorem s_N_mount {ξ : Nat → Option (Nat × List Int32)} (hX : XT ξ) (d : Nat) (x : Int) (σ : qH) (hK : K σ)  (rx : -2147483648 ≤ x ∧ x ≤ 2147483647) : TX ξ (d + 8) j_N_mount 0 (lv_args 0 [.ref 16, J x]) [] σ (QX WQ [0, 1, 2] σ (fun s => tpf s = tpf σ) (fun v σ' => ∃ z : Int, v = some (J z) ∧ Fr WQ σ σ' ∧ -2147483648 ≤ z ∧ z ≤ 2147483647 ∧ tpf σ' = tpf σ)) := by
  have hX0 := hX
  obtain ⟨⟨X1, hX1, lX1⟩, ⟨X2, hX2, lX2⟩, ⟨X3, hX3, lX3⟩, ⟨X4, hX4, lX4⟩, ⟨X5, hX5, lX5⟩, ⟨X6, hX6, lX6⟩⟩ := hX
  have lY1 : X1.length = 19 := by rw [lX1]; rfl
  have lY2 : X2.length = 29 := by rw [lX2]; rfl
  have lY3 : X3.length = 29 := by rw [lX3]; rfl
  have lY4 : X4.length = 30 := by rw [lX4]; rfl
  have lY5 : X5.length = 30 := by rw [lX5]; rfl
  have lY6 : X6.length = 16 := by rw [lX6]; rfl
  obtain ⟨kex1, scx1, tpx1, oux1, mox1, sgx1, hox1, mcx1, lfx1, lpx1, hNx1, fx1ke, fx1sc, fx1tp, fx1ou, fx1mo, fx1sg, fx1d, fx1e, fx1f, fx1g, fx1h, fx1i, fx1j⟩ := hK.na
  refine TX.go 1 (fun n9 => (rfl : _ = exx ξ n9 (d + 8) j_N_mount 1 [(0, .ref 16), (1, J x)] [.ref 16] σ)) ?_
  refine TX.get rfl rfl rfl rfl hNx1 rfl ?_
  refine TX.if_eq rfl rfl rfl (by omega) (fun c1 => ?_) (fun c1 => ?_)
  · exact TX.throw (Nat.ble_eq_true_of_le (by omega)) rfl rfl (QX_r (by decide) (Fr.refl hK) rfl)
  · refine TX.go 1 (fun n9 => (rfl : _ = exx ξ n9 (d + 8) j_N_mount 8 [(0, .ref 16), (1, J x)] [.ref 16] σ)) ?_
    refine TX.get rfl rfl rfl rfl hNx1 rfl ?_
    refine TX.go 1 (fun n9 => (rfl : _ = exx ξ n9 (d + 8) j_N_mount 12 [(0, .ref 16), (1, J x)] [J x, .ref oux1] σ)) ?_
    obtain ⟨ex2, erx2, dix2, bax2, fpx2, hax2, fx2a, fx2b, fx2c, fx2d, fx2e, fx2f, fx2g, fx2h, fx2i, fx2j⟩ := hK.arc (na_tp fx1ou)
    refine TX.callv (as := [J x]) (r := []) rfl rfl rfl rfl (ArL_lt _ (na_tp fx1ou)).2.2.1 hax2 rfl (s_A_hasEntry (d + 7) oux1 x σ hK (na_tp fx1ou)  (by omega)) (fun v1 s1 hqs1 => ?_)
    obtain ⟨z1, rfl, esz1, hzz1, hyz1, pz1_0⟩ := hqs1
    rw [esz1]
    refine TX.if_ne rfl rfl rfl (by omega) (fun c2 => ?_) (fun c2 => ?_)
    · refine TX.go 3 (fun n9 => (rfl : _ = exx ξ n9 (d + 8) j_N_mount 31 [(0, .ref 16), (1, J x)] [J x, J 0, .ref 16] σ)) ?_
      refine TX.callv (as := [J 0, J x]) (r := []) rfl rfl rfl rfl rfl hNx1 rfl (s_N_stageMount hX0 (d + 1) 0 x σ hK   (by omega) (by omega) (by omega) (by omega)) (fun v2 s2 hqs2 => ?_)
      obtain ⟨z2, rfl, hs2, hzz2, hyz2⟩ := hqs2
      have es2 := hs2
      have hs2 := hs2.sub (w' := WQ) (by decide)
      have k1 := es2.b.1 _ _ (by decide) (fun l z => by cases z) hNx1
      have k2 := es2.b.1 _ _ ((by decide : ∀ q ∈ [63, 68], q + 0 ∉ WS) _ (mem2 fx1ou)) (fun l z => by cases z) hax2
      refine TX.go 2 (fun n9 => (rfl : _ = exx ξ n9 (d + 8) j_N_mount 36 [(0, .ref 16), (1, J x), (2, J z2)] [J z2] s2)) ?_
      refine TX.if_eq rfl rfl rfl (by omega) (fun c3 => ?_) (fun c3 => ?_)
      · refine TX.go 1 (fun n9 => (rfl : _ = exx ξ n9 (d + 8) j_N_mount 74 [(0, .ref 16), (1, J x), (2, J z2)] [.ref 16] s2)) ?_
        refine TX.get rfl rfl rfl rfl k1 rfl ?_
        refine TX.go 1 (fun n9 => (rfl : _ = exx ξ n9 (d + 8) j_N_mount 79 [(0, .ref 16), (1, J x), (2, J z2)] [J 6, J mcx1] s2)) ?_
        refine TX.icmp_lt rfl rfl rfl (by omega) (by omega) (fun c4 => ?_) (fun c4 => ?_)
        · refine TX.go 1 (fun n9 => (rfl : _ = exx ξ n9 (d + 8) j_N_mount 93 [(0, .ref 16), (1, J x), (2, J z2)] [.ref 16] s2)) ?_
          refine TX.get rfl rfl rfl rfl k1 rfl ?_
          refine TX.go 1 (fun n9 => (rfl : _ = exx ξ n9 (d + 8) j_N_mount 97 [(0, .ref 16), (1, J x), (2, J z2)] [J 0, .ref sgx1] s2)) ?_
          obtain ⟨lx3, hix3, elx3, emx3⟩ := hs2.1.refs (na_mo fx1sg).1
          obtain ⟨a1, hga1, hha1⟩ := em_at (x := 0) emx3 (by omega)
          refine TX.aald rfl rfl hix3 (by omega) hga1 ?_
          refine TX.go 2 (fun n9 => (rfl : _ = exx ξ n9 (d + 8) j_N_mount 100 [(0, .ref 16), (1, J x), (2, J z2), (3, .ref a1)] [.ref 16] s2)) ?_
          refine TX.get rfl rfl rfl rfl k1 rfl ?_
          refine TX.go 2 (fun n9 => (rfl : _ = exx ξ n9 (d + 8) j_N_mount 105 [(0, .ref 16), (1, J x), (2, J z2), (3, .ref a1)] [.ref 16, J 0, .ref sgx1] s2)) ?_
          refine TX.get rfl rfl rfl rfl k1 rfl ?_
          refine TX.go 1 (fun n9 => (rfl : _ = exx ξ n9 (d + 8) j_N_mount 109 [(0, .ref 16), (1, J x), (2, J z2), (3, .ref a1)] [.ref 16, .ref mox1, J 0, .ref sgx1] s2)) ?_
          refine TX.get rfl rfl rfl rfl k1 rfl ?_
          obtain ⟨lx4, hix4, elx4, emx4⟩ := hs2.1.refs (na_mo fx1mo).1
          obtain ⟨a2, hga2, hha2⟩ := em_at (x := mcx1) emx4 (by omega)
          refine TX.aald rfl rfl hix4 (by omega) hga2 ?_
          obtain ⟨ex5, erx5, dix5, bax5, fpx5, hax5, fx5a, fx5b, fx5c, fx5d, fx5e, fx5f, fx5g, fx5h, fx5i, fx5j⟩ := hs2.1.arc (ArM_L hha2)
          refine TX.aastF (w := WQ) rfl rfl hs2.1 hax5 hix3 emx3 (by omega) hha2 (na_mo fx1sg).2.1 (Or.inl (na_mo fx1sg).2.2) ((by decide : ∀ q ∈ [73, 74], q ∈ WQ) _ (mem2 fx1sg)) (fun s3 hs3 hcs3 hos3 => ?_)
          have els3 := List.length_set (as := lx3) (i := (0 : Int).toNat) (a := some a2)
          have ems3 : ∀ y ∈ lx3.set (0 : Int).toNat (some a2), ∃ a : Nat, y = some a ∧ a ∈ ArM := hs3.1.2 _ _ hcs3
          have gs3 := hs2.trans hs3
          have k3 := hos3 ((by decide : ∀ v ∈ [73, 74], (16 : Nat) ≠ v) _ (mem2 fx1sg)) k1
          have k4 := hos3 ((by decide : ∀ u ∈ [63, 68], ∀ v ∈ [73, 74], u ≠ v) _ (mem2 fx1ou) _ (mem2 fx1sg)) k2
          have k5 := hos3 ((by decide : ∀ u ∈ ArM, ∀ v ∈ [73, 74], u ≠ v) _ hha2 _ (mem2 fx1sg)) hax5
          refine TX.go 1 (fun n9 => (rfl : _ = exx ξ n9 (d + 8) j_N_mount 115 [(0, .ref 16), (1, J x), (2, J z2), (3, .ref a1)] [.ref 16] s3)) ?_
          refine TX.get rfl rfl rfl rfl k3 rfl ?_
          refine TX.go 1 (fun n9 => (rfl : _ = exx ξ n9 (d + 8) j_N_mount 119 [(0, .ref 16), (1, J x), (2, J z2), (3, .ref a1)] [.ref 16, .ref mox1] s3)) ?_
          refine TX.get rfl rfl rfl rfl k3 rfl ?_
          refine TX.go 1 (fun n9 => (rfl : _ = exx ξ n9 (d + 8) j_N_mount 123 [(0, .ref 16), (1, J x), (2, J z2), (3, .ref a1)] [.ref a1, J mcx1, .ref mox1] s3)) ?_
          obtain ⟨lx6, hix6, elx6, emx6⟩ := hs3.1.refs (na_mo fx1mo).1
          obtain ⟨ex7, erx7, dix7, bax7, fpx7, hax7, fx7a, fx7b, fx7c, fx7d, fx7e, fx7f, fx7g, fx7h, fx7i, fx7j⟩ := hs3.1.arc (ArM_L hha1)
          refine TX.aastF (w := WQ) rfl rfl hs3.1 hax7 hix6 emx6 (by omega) hha1 (na_mo fx1mo).2.1 (Or.inl (na_mo fx1mo).2.2) ((by decide : ∀ q ∈ [73, 74], q ∈ WQ) _ (mem2 fx1mo)) (fun s4 hs4 hcs4 hos4 => ?_)
          have els4 := List.length_set (as := lx6) (i := (mcx1 : Int).toNat) (a := some a1)
          have ems4 : ∀ y ∈ lx6.set (mcx1 : Int).toNat (some a1), ∃ a : Nat, y = some a ∧ a ∈ ArM := hs4.1.2 _ _ hcs4
          have gs4 := gs3.trans hs4
          have k6 := hos4 ((by decide : ∀ v ∈ [73, 74], (16 : Nat) ≠ v) _ (mem2 fx1mo)) k3
          have k7 := hos4 ((by decide : ∀ u ∈ [63, 68], ∀ v ∈ [73, 74], u ≠ v) _ (mem2 fx1ou) _ (mem2 fx1mo)) k4
          have k8 := hos4 ((by decide : ∀ u ∈ ArM, ∀ v ∈ [73, 74], u ≠ v) _ hha2 _ (mem2 fx1mo)) k5
          have k9 := hos4 ((by decide : ∀ u ∈ ArM, ∀ v ∈ [73, 74], u ≠ v) _ hha1 _ (mem2 fx1mo)) hax7
          refine TX.go 2 (fun n9 => (rfl : _ = exx ξ n9 (d + 8) j_N_mount 126 [(0, .ref 16), (1, J x), (2, J z2), (3, .ref a1)] [.ref 16, .ref 16] s4)) ?_
          refine TX.get rfl rfl rfl rfl k6 rfl ?_
          refine TX.go 1 (fun n9 => (rfl : _ = exx ξ n9 (d + 8) j_N_mount 130 [(0, .ref 16), (1, J x), (2, J z2), (3, .ref a1)] [J 1, J mcx1, .ref 16] s4)) ?_
          refine TX.iadd rfl rfl ?_
          refine TX.putF (w := WQ) rfl rfl rfl k6 rfl rfl rfl (fs' := [.ref 17, .ref 41, .ref 48, .ref 51, .ref 53, .ref 55, .ref 57, .ref kex1, .ref scx1, .ref tpx1, .ref oux1, J hox1, .ref mox1, .ref sgx1, J (mcx1 + 1), J lfx1, J lpx1]) rfl (Fr.other hs4.1 k6 rfl (show okN _ from ⟨_, _, _, _, _, _, _, _, _, _, rfl, by omega⟩) (by decide) (Or.inl (by decide)) (fun _ z => by cases z) (by decide)) (fun s5 hs5 hcs5 hos5 => ?_)
          have gs5 := gs4.trans hs5
          have k10 := hos5 ((by decide : ∀ u ∈ [73, 74], u ≠ 16) _ (mem2 fx1mo)) hcs4
          have k11 := hos5 ((by decide : ∀ u ∈ [63, 68], u ≠ 16) _ (mem2 fx1ou)) k7
          have k12 := hos5 ((by decide : ∀ u ∈ ArM, u ≠ 16) _ hha2) k8
          have k13 := hos5 ((by decide : ∀ u ∈ ArM, u ≠ 16) _ hha1) k9
          refine TX.go 1 (fun n9 => (rfl : _ = exx ξ n9 (d + 8) j_N_mount 135 [(0, .ref 16), (1, J x), (2, J z2), (3, .ref a1)] [.ref 16] s5)) ?_
          refine TX.get rfl rfl rfl rfl hcs5 rfl ?_
          have tq1 : tpf s5 = tpf σ := (tpf_of hcs5 rfl).trans (tpf_of hNx1 rfl).symm
          exact TX.ireti rfl rfl rfl (QX_l ⟨_, rfl, gs5, by omega, by omega, tq1⟩)
        · have tq2 : tpf s2 = tpf σ := (tpf_of k1 rfl).trans (tpf_of hNx1 rfl).symm
          exact TX.throw (Nat.ble_eq_true_of_le (by omega)) rfl rfl (QX_r (by decide) hs2 tq2)
      · refine TX.go 4 (fun n9 => (rfl : _ = exx ξ n9 (d + 8) j_N_mount 44 [(0, .ref 16), (1, J x), (2, J z2)] [J 6, J z2, J z2, .ref 16] s2)) ?_
        refine TX.icmp_lt rfl rfl rfl (by omega) (by omega) (fun c5 => ?_) (fun c5 => ?_)
        · refine TX.go 1 (fun n9 => (rfl : _ = exx ξ n9 (d + 8) j_N_mount 52 [(0, .ref 16), (1, J x), (2, J z2)] [.ref 16, J z2, .ref 16] s2)) ?_
          refine TX.get rfl rfl rfl rfl k1 rfl ?_
          refine TX.go 1 (fun n9 => (rfl : _ = exx ξ n9 (d + 8) j_N_mount 56 [(0, .ref 16), (1, J x), (2, J z2)] [J 0, .ref sgx1, J z2, .ref 16] s2)) ?_
          obtain ⟨lx8, hix8, elx8, emx8⟩ := hs2.1.refs (na_mo fx1sg).1
          obtain ⟨a3, hga3, hha3⟩ := em_at (x := 0) emx8 (by omega)
          refine TX.aald rfl rfl hix8 (by omega) hga3 ?_
          obtain ⟨ex9, erx9, dix9, bax9, fpx9, hax9, fx9a, fx9b, fx9c, fx9d, fx9e, fx9f, fx9g, fx9h, fx9i, fx9j⟩ := hs2.1.arc (ArM_L hha3)
          refine TX.get rfl rfl rfl rfl hax9 rfl ?_
          have tq3 : tpf s2 = tpf σ := (tpf_of k1 rfl).trans (tpf_of hNx1 rfl).symm
          refine TX.callv (as := [J z2, J fpx9]) (r := []) rfl rfl rfl rfl rfl k1 rfl (s_N_note (d + 7) z2 fpx9 s2 hs2.1   (by omega) (by omega)) (fun v3 s6 hqs6 => ?_)
          obtain ⟨rfl, hs6, pz3_0⟩ := hqs6
          have es6 := hs6
          have hs6 := hs6.sub (w' := WQ) (List.forall_mem_cons.mpr ⟨(by decide), (fun _ h => by cases h)⟩)
          have k14 := es6.b.1 _ _ (nm_c ((by decide : ∀ u ∈ [63, 68], u ≠ 16) _ (mem2 fx1ou)) nm_0) (fun l z => by cases z) k2
          have k15 := es6.b.1 _ _ (nm_c ((by decide : ∀ u ∈ [73, 74], u ≠ 16) _ (mem2 fx1sg)) nm_0) (fun l z => by cases z) hix8
          have k16 := es6.b.1 _ _ (nm_c ((by decide : ∀ u ∈ ArM, u ≠ 16) _ hha3) nm_0) (fun l z => by cases z) hax9
          have gs6 := hs2.trans hs6
          have tq4 := (nsx_tpf pz3_0).trans tq3
          exact TX.throw (Nat.ble_eq_true_of_le (by omega)) rfl rfl (QX_r (by decide) gs6 tq4)
        · refine TX.go 2 (fun n9 => (rfl : _ = exx ξ n9 (d + 8) j_N_mount 60 [(0, .ref 16), (1, J x), (2, J z2)] [J x, J z2, .ref 16] s2)) ?_
          have tq5 : tpf s2 = tpf σ := (tpf_of k1 rfl).trans (tpf_of hNx1 rfl).symm
          refine TX.callv (as := [J z2, J x]) (r := []) rfl rfl rfl rfl rfl k1 rfl (s_N_note (d + 7) z2 x s2 hs2.1   (by omega) (by omega)) (fun v4 s7 hqs7 => ?_)
          obtain ⟨rfl, hs7, pz4_0⟩ := hqs7
          have es7 := hs7
          have hs7 := hs7.sub (w' := WQ) (List.forall_mem_cons.mpr ⟨(by decide), (fun _ h => by cases h)⟩)
          have k17 := es7.b.1 _ _ (nm_c ((by decide : ∀ u ∈ [63, 68], u ≠ 16) _ (mem2 fx1ou)) nm_0) (fun l z => by cases z) k2
          have gs7 := hs2.trans hs7
          have tq6 := (nsx_tpf pz4_0).trans tq5
          exact TX.throw (Nat.ble_eq_true_of_le (by omega)) rfl rfl (QX_r (by decide) gs7 tq6)
    · exact TX.throw (Nat.ble_eq_true_of_le (by omega)) rfl rfl (QX_r (by decide) (Fr.refl hK) rfl)

set_option maxRecDepth 10000 in
set_option maxHeartbeats 4000000 in
theorem s_N_attribute {ξ : Nat → Option (Nat × List Int32)} (hX : XT ξ) (d : Nat) (x : Int) (σ : qH) (hK : K σ)  (rx : -2147483648 ≤ x ∧ x ≤ 2147483647) : TX ξ (d + 8) j_N_attribute 0 (lv_args 0 [.ref 16, J x]) [] σ (QX WR [0, 1] σ (fun s => nsx s = nsx σ) (fun v σ' => ∃ z : Int, v = some (J z) ∧ Fr WR σ σ' ∧ -2147483648 ≤ z ∧ z ≤ 2147483647 ∧ nsx σ' = nsx σ)) := by
  have hX0 := hX
  obtain ⟨⟨X1, hX1, lX1⟩, ⟨X2, hX2, lX2⟩, ⟨X3, hX3, lX3⟩, ⟨X4, hX4, lX4⟩, ⟨X5, hX5, lX5⟩, ⟨X6, hX6, lX6⟩⟩ := hX
  have lY1 : X1.length = 19 := by rw [lX1]; rfl
  have lY2 : X2.length = 29 := by rw [lX2]; rfl
  have lY3 : X3.length = 29 := by rw [lX3]; rfl
  have lY4 : X4.length = 30 := by rw [lX4]; rfl
  have lY5 : X5.length = 30 := by rw [lX5]; rfl
  have lY6 : X6.length = 16 := by rw [lX6]; rfl
  obtain ⟨kex1, scx1, tpx1, oux1, mox1, sgx1, hox1, mcx1, lfx1, lpx1, hNx1, fx1ke, fx1sc, fx1tp, fx1ou, fx1mo, fx1sg, fx1d, fx1e, fx1f, fx1g, fx1h, fx1i, fx1j⟩ := hK.na
  refine TX.go 2 (fun n9 => (rfl : _ = exx ξ n9 (d + 8) j_N_attribute 2 [(0, .ref 16), (1, J x)] [J x, .ref 16] σ)) ?_
  refine TX.callv (as := [J x]) (r := []) rfl rfl rfl rfl rfl hNx1 rfl (s_N_archiveOf (d + 7) x σ hK   (by omega)) (fun v1 s1 hqs1 => ?_)
  obtain ⟨esz1, rfl | ⟨a1, hAa1, rfl⟩⟩ := hqs1
  · rw [esz1]
    refine TX.go 16 (fun n9 => (rfl : _ = exx ξ n9 (d + 8) j_N_attribute 85 [(0, .ref 16), (1, J x), (2, .null), (3, J (-1)), (4, J 0)] [.ref 16] σ)) ?_
    refine TX.get rfl rfl rfl rfl hNx1 rfl ?_
    obtain ⟨mx2, nx2, bx2, lx2, hrx2, hbx2, fx2a, fx2b, fx2c, fx2d, fx2e, fx2g, fx2h, fx2i⟩ := hK.row (r := 51) (by decide)
    refine TX.callv (as := []) (r := []) rfl rfl rfl rfl rfl hrx2 rfl (s_R_clear (d + 7) 51 σ hK (by decide)  ) (fun v2 s2 hqs2 => ?_)
    obtain ⟨rfl, hs2, pz2_0, pz2_1⟩ := hqs2
    have es2 := hs2
    have hs2 := hs2.sub (w' := WR) (List.forall_mem_cons.mpr ⟨(by decide), (fun _ h => by cases h)⟩)
    have k1 := es2.b.1 _ _ (nm_c (by decide) nm_0) (fun l z => by cases z) hNx1
    refine TX.go 2 (fun n9 => (rfl : _ = exx ξ n9 (d + 8) j_N_attribute 95 [(0, .ref 16), (1, J x), (2, .null), (3, J (-1)), (4, J 0)] [] s2)) ?_
    have tq1 : nsx s2 = nsx σ := (nsx_of k1).trans (nsx_of hNx1).symm
    exact TX.throw (Nat.ble_eq_true_of_le (by omega)) rfl rfl (QX_r (by decide) hs2 tq1)
  · rw [esz1]
    refine TX.go 5 (fun n9 => (rfl : _ = exx ξ n9 (d + 8) j_N_attribute 16 [(0, .ref 16), (1, J x), (2, .ref a1)] [.ref 16, .ref a1] σ)) ?_
    refine TX.get rfl rfl rfl rfl hNx1 rfl ?_
    refine TX.go 2 (fun n9 => (rfl : _ = exx ξ n9 (d + 8) j_N_attribute 21 [(0, .ref 16), (1, J x), (2, .ref a1)] [.ref 16, J 0, .ref 53, .ref a1] σ)) ?_
    refine TX.get rfl rfl rfl rfl hNx1 rfl ?_
    obtain ⟨mx3, nx3, bx3, lx3, hrx3, hbx3, fx3a, fx3b, fx3c, fx3d, fx3e, fx3g, fx3h, fx3i⟩ := hK.row (r := 53) (by decide)
    refine TX.get rfl rfl rfl rfl hrx3 rfl ?_
    obtain ⟨ex4, erx4, dix4, bax4, fpx4, hax4, fx4a, fx4b, fx4c, fx4d, fx4e, fx4f, fx4g, fx4h, fx4i, fx4j⟩ := hK.arc hAa1
    refine TX.callv (as := [.ref 53, J 0, J nx3]) (r := []) rfl rfl rfl rfl (ArL_lt _ hAa1).2.2.1 hax4 rfl (s_A_lookUp (d + 6) a1 53 0 nx3 σ hK hAa1 (by decide)  (by omega) (by omega)) (fun v3 s3 hqs3 => ?_)
    obtain ⟨z3, rfl, esz3, hzz3, hyz3⟩ := hqs3
    rw [esz3]
    refine TX.go 3 (fun n9 => (rfl : _ = exx ξ n9 (d + 8) j_N_attribute 33 [(0, .ref 16), (1, J x), (2, .ref a1), (3, J z3)] [J (-1), J z3] σ)) ?_
    refine TX.icmp_ne rfl rfl rfl (by omega) (by omega) (fun c1 => ?_) (fun c1 => ?_)
    · refine TX.go 4 (fun n9 => (rfl : _ = exx ξ n9 (d + 8) j_N_attribute 44 [(0, .ref 16), (1, J x), (2, .ref a1), (3, J z3)] [.ref 16, J z3, .ref a1, .ref 16] σ)) ?_
      refine TX.get rfl rfl rfl rfl hNx1 rfl ?_
      refine TX.callv (as := [.ref a1, J z3, .ref scx1]) (r := []) rfl rfl rfl rfl rfl hNx1 rfl (s_N_unpackEntry hX0 (d + 2) a1 z3 scx1 σ hK hAa1 (na_ke fx1sc) ((by decide : ∀ u ∈ ArL, ∀ v ∈ [59, 61], u + 1 ≠ v) _ hAa1 _ (mem2 fx1sc)) (by omega)) (fun v4 s4 hqs4 => ?_)
      obtain ⟨z4, rfl, hs4, hzz4, hyz4⟩ := hqs4
      have es4 := hs4
      have hs4 := hs4.sub (w' := WR) (List.forall_mem_cons.mpr ⟨(by decide), (List.forall_mem_cons.mpr ⟨(by decide), (List.forall_mem_cons.mpr ⟨(by decide), (List.forall_mem_cons.mpr ⟨(by decide), (List.forall_mem_cons.mpr ⟨(by decide), (List.forall_mem_cons.mpr ⟨(by decide), (List.forall_mem_cons.mpr ⟨(by decide), (List.forall_mem_cons.mpr ⟨(by decide), (List.forall_mem_cons.mpr ⟨(by decide), (List.forall_mem_cons.mpr ⟨(by decide), (List.forall_mem_cons.mpr ⟨(by decide), (List.forall_mem_cons.mpr ⟨((by decide : ∀ q ∈ [59, 61], q ∈ WR) _ (mem2 fx1sc)), (fun _ h => by cases h)⟩)⟩)⟩)⟩)⟩)⟩)⟩)⟩)⟩)⟩)⟩)⟩)
      have k2 := es4.b.1 _ _ (nm_c (by decide) (nm_c (by decide) (nm_c (by decide) (nm_c (by decide) (nm_c (by decide) (nm_c (by decide) (nm_c (by decide) (nm_c (by decide) (nm_c (by decide) (nm_c (by decide) (nm_c (by decide) (nm_c ((by decide : ∀ v ∈ [59, 61], (16 : Nat) ≠ v) _ (mem2 fx1sc)) nm_0)))))))))))) (fun l z => by cases z) hNx1
      have k3 := es4.b.1 _ _ (nm_c (by decide) (nm_c (by decide) (nm_c (by decide) (nm_c (by decide) (nm_c (by decide) (nm_c (by decide) (nm_c (by decide) (nm_c (by decide) (nm_c (by decide) (nm_c (by decide) (nm_c (by decide) (nm_c ((by decide : ∀ v ∈ [59, 61], (53 : Nat) ≠ v) _ (mem2 fx1sc)) nm_0)))))))))))) (fun l z => by cases z) hrx3
      have k4 := es4.b.1 _ _ (nm_c ((by decide : ∀ u ∈ ArL, u ≠ 17) _ hAa1) (nm_c ((by decide : ∀ u ∈ ArL, u ≠ 18) _ hAa1) (nm_c ((by decide : ∀ u ∈ ArL, u ≠ 20) _ hAa1) (nm_c ((by decide : ∀ u ∈ ArL, u ≠ 21) _ hAa1) (nm_c ((by decide : ∀ u ∈ ArL, u ≠ 22) _ hAa1) (nm_c ((by decide : ∀ u ∈ ArL, u ≠ 24) _ hAa1) (nm_c ((by decide : ∀ u ∈ ArL, u ≠ 25) _ hAa1) (nm_c ((by decide : ∀ u ∈ ArL, u ≠ 26) _ hAa1) (nm_c ((by decide : ∀ u ∈ ArL, u ≠ 28) _ hAa1) (nm_c ((by decide : ∀ u ∈ ArL, u ≠ 29) _ hAa1) (nm_c ((by decide : ∀ u ∈ ArL, u ≠ 30) _ hAa1) (nm_c ((by decide : ∀ u ∈ ArL, ∀ v ∈ [59, 61], u ≠ v) _ hAa1 _ (mem2 fx1sc)) nm_0)))))))))))) (fun l z => by cases z) hax4
      refine TX.go 3 (fun n9 => (rfl : _ = exx ξ n9 (d + 8) j_N_attribute 54 [(0, .ref 16), (1, J x), (2, .ref a1), (3, J z3), (4, J z4)] [J (-1), J z3] s4)) ?_
      refine TX.icmp_eq rfl rfl rfl (by omega) (by omega) (fun c2 => ?_) (fun c2 => ?_)
      · refine TX.go 1 (fun n9 => (rfl : _ = exx ξ n9 (d + 8) j_N_attribute 85 [(0, .ref 16), (1, J x), (2, .ref a1), (3, J z3), (4, J z4)] [.ref 16] s4)) ?_
        refine TX.get rfl rfl rfl rfl k2 rfl ?_
        obtain ⟨mx5, nx5, bx5, lx5, hrx5, hbx5, fx5a, fx5b, fx5c, fx5d, fx5e, fx5g, fx5h, fx5i⟩ := hs4.1.row (r := 51) (by decide)
        refine TX.callv (as := []) (r := []) rfl rfl rfl rfl rfl hrx5 rfl (s_R_clear (d + 7) 51 s4 hs4.1 (by decide)  ) (fun v5 s5 hqs5 => ?_)
        obtain ⟨rfl, hs5, pz5_0, pz5_1⟩ := hqs5
        have es5 := hs5
        have hs5 := hs5.sub (w' := WR) (List.forall_mem_cons.mpr ⟨(by decide), (fun _ h => by cases h)⟩)
        have k5 := es5.b.1 _ _ (nm_c (by decide) nm_0) (fun l z => by cases z) k2
        have k6 := es5.b.1 _ _ (nm_c (by decide) nm_0) (fun l z => by cases z) k3
        have k7 := es5.b.1 _ _ (nm_c ((by decide : ∀ u ∈ ArL, u ≠ 51) _ hAa1) nm_0) (fun l z => by cases z) k4
        have gs5 := hs4.trans hs5
        refine TX.go 3 (fun n9 => (rfl : _ = exx ξ n9 (d + 8) j_N_attribute 107 [(0, .ref 16), (1, J x), (2, .ref a1), (3, J z3), (4, J z4)] [J z4] s5)) ?_
        refine TX.if_eq rfl rfl rfl (by omega) (fun c3 => ?_) (fun c3 => ?_)
        · refine TX.go 1 (fun n9 => (rfl : _ = exx ξ n9 (d + 8) j_N_attribute 128 [(0, .ref 16), (1, J x), (2, .ref a1), (3, J z3), (4, J z4)] [.ref 16] s5)) ?_
          refine TX.get rfl rfl rfl rfl k5 rfl ?_
          obtain ⟨mx6, nx6, bx6, lx6, hrx6, hbx6, fx6a, fx6b, fx6c, fx6d, fx6e, fx6g, fx6h, fx6i⟩ := hs5.1.row (r := 57) (by decide)
          refine TX.callv (as := []) (r := []) rfl rfl rfl rfl rfl hrx6 rfl (s_R_clear (d + 7) 57 s5 hs5.1 (by decide)  ) (fun v6 s6 hqs6 => ?_)
          obtain ⟨rfl, hs6, pz6_0, pz6_1⟩ := hqs6
          have es6 := hs6
          have hs6 := hs6.sub (w' := WR) (List.forall_mem_cons.mpr ⟨(by decide), (fun _ h => by cases h)⟩)
          have k8 := es6.b.1 _ _ (nm_c (by decide) nm_0) (fun l z => by cases z) k5
          have k9 := es6.b.1 _ _ (nm_c (by decide) nm_0) (fun l z => by cases z) k6
          have k10 := es6.b.1 _ _ (nm_c ((by decide : ∀ u ∈ ArL, u ≠ 57) _ hAa1) nm_0) (fun l z => by cases z) k7
          have gs6 := gs5.trans hs6
          refine TX.go 2 (fun n9 => (rfl : _ = exx ξ n9 (d + 8) j_N_attribute 136 [(0, .ref 16), (1, J x), (2, .ref a1), (3, J z3), (4, J z4)] [J (-1), J z3] s6)) ?_
          refine TX.icmp_eq rfl rfl rfl (by omega) (by omega) (fun c4 => ?_) (fun c4 => ?_)
          · refine TX.go 1 (fun n9 => (rfl : _ = exx ξ n9 (d + 8) j_N_attribute 151 [(0, .ref 16), (1, J x), (2, .ref a1), (3, J z3), (4, J z4)] [J (-1)] s6)) ?_
            have tq2 : nsx s6 = nsx σ := (nsx_of k8).trans (nsx_of hNx1).symm
            exact TX.ireti rfl rfl rfl (QX_l ⟨_, rfl, gs6, by omega, by omega, tq2⟩)
          · refine TX.go 1 (fun n9 => (rfl : _ = exx ξ n9 (d + 8) j_N_attribute 140 [(0, .ref 16), (1, J x), (2, .ref a1), (3, J z3), (4, J z4)] [.ref 16] s6)) ?_
            refine TX.get rfl rfl rfl rfl k8 rfl ?_
            obtain ⟨nx7, osx7, vsx7, vlx7, asx7, hmx7, fx7a, fx7b, fx7c, fx7d, fx7e, fx7f, fx7g, fx7h, fx7i⟩ := hs6.1.man
            refine TX.get rfl rfl rfl rfl hmx7 rfl ?_
            refine TX.go 1 (fun n9 => (rfl : _ = exx ξ n9 (d + 8) j_N_attribute 147 [(0, .ref 16), (1, J x), (2, .ref a1), (3, J z3), (4, J z4)] [J (-1), J vsx7] s6)) ?_
            refine TX.icmp_ne rfl rfl rfl (by omega) (by omega) (fun c5 => ?_) (fun c5 => ?_)
            · refine TX.go 1 (fun n9 => (rfl : _ = exx ξ n9 (d + 8) j_N_attribute 153 [(0, .ref 16), (1, J x), (2, .ref a1), (3, J z3), (4, J z4)] [.ref 16] s6)) ?_
              refine TX.get rfl rfl rfl rfl k8 rfl ?_
              refine TX.go 1 (fun n9 => (rfl : _ = exx ξ n9 (d + 8) j_N_attribute 157 [(0, .ref 16), (1, J x), (2, .ref a1), (3, J z3), (4, J z4)] [.ref 16, .ref 57] s6)) ?_
              refine TX.get rfl rfl rfl rfl k8 rfl ?_
              refine TX.get rfl rfl rfl rfl hmx7 rfl ?_
              refine TX.go 1 (fun n9 => (rfl : _ = exx ξ n9 (d + 8) j_N_attribute 164 [(0, .ref 16), (1, J x), (2, .ref a1), (3, J z3), (4, J z4)] [.ref 16, .ref 42, .ref 57] s6)) ?_
              refine TX.get rfl rfl rfl rfl k8 rfl ?_
              refine TX.get rfl rfl rfl rfl hmx7 rfl ?_
              refine TX.go 1 (fun n9 => (rfl : _ = exx ξ n9 (d + 8) j_N_attribute 171 [(0, .ref 16), (1, J x), (2, .ref a1), (3, J z3), (4, J z4)] [.ref 16, J vsx7, .ref 42, .ref 57] s6)) ?_
              refine TX.get rfl rfl rfl rfl k8 rfl ?_
              refine TX.get rfl rfl rfl rfl hmx7 rfl ?_
              obtain ⟨mx8, nx8, bx8, lx8, hrx8, hbx8, fx8a, fx8b, fx8c, fx8d, fx8e, fx8g, fx8h, fx8i⟩ := hs6.1.row (r := 57) (by decide)
              refine TX.callv (as := [.ref 42, J vsx7, J vlx7]) (r := []) rfl rfl rfl rfl rfl hrx8 rfl (s_R_addPart (d + 6) 57 42 vsx7 vlx7 s6 hs6.1 (by decide) (by decide) (by decide) (by omega) (by omega)) (fun v7 s7 hqs7 => ?_)
              obtain ⟨z7, rfl, hs7, hzz7, hyz7, pz7_0⟩ := hqs7
              have es7 := hs7
              have hs7 := hs7.sub (w' := WR) (List.forall_mem_cons.mpr ⟨(by decide), (fun _ h => by cases h)⟩)
              have k11 := es7.b.1 _ _ (nm_c (by decide) nm_0) (fun l z => by cases z) k8
              have k12 := es7.b.1 _ _ (nm_c (by decide) nm_0) (fun l z => by cases z) k9
              have k13 := es7.b.1 _ _ (nm_c ((by decide : ∀ u ∈ ArL, u ≠ 57) _ hAa1) nm_0) (fun l z => by cases z) k10
              have k14 := es7.b.1 _ _ (nm_c (by decide) nm_0) (fun l z => by cases z) hmx7
              have gs7 := gs6.trans hs7
              refine TX.go 2 (fun n9 => (rfl : _ = exx ξ n9 (d + 8) j_N_attribute 182 [(0, .ref 16), (1, J x), (2, .ref a1), (3, J z3), (4, J z4)] [.ref 16] s7)) ?_
              refine TX.get rfl rfl rfl rfl k11 rfl ?_
              obtain ⟨mx9, nx9, bx9, lx9, hrx9, hbx9, fx9a, fx9b, fx9c, fx9d, fx9e, fx9g, fx9h, fx9i⟩ := hs7.1.row (r := 57) (by decide)
              refine TX.get rfl rfl rfl rfl hrx9 rfl ?_
              have tq3 : nsx s7 = nsx σ := (nsx_of k11).trans (nsx_of hNx1).symm
              exact TX.ireti rfl rfl rfl (QX_l ⟨_, rfl, gs7, by omega, by omega, tq3⟩)
            · refine TX.go 1 (fun n9 => (rfl : _ = exx ξ n9 (d + 8) j_N_attribute 151 [(0, .ref 16), (1, J x), (2, .ref a1), (3, J z3), (4, J z4)] [J (-1)] s6)) ?_
              have tq4 : nsx s6 = nsx σ := (nsx_of k8).trans (nsx_of hNx1).symm
              exact TX.ireti rfl rfl rfl (QX_l ⟨_, rfl, gs6, by omega, by omega, tq4⟩)
        · refine TX.go 3 (fun n9 => (rfl : _ = exx ξ n9 (d + 8) j_N_attribute 114 [(0, .ref 16), (1, J x), (2, .ref a1), (3, J z3), (4, J z4)] [J z3, J z4, .ref 16] s5)) ?_
          have tq5 : nsx s5 = nsx σ := (nsx_of k5).trans (nsx_of hNx1).symm
          refine TX.callv (as := [J z4, J z3]) (r := []) rfl rfl rfl rfl rfl k5 rfl (s_N_note (d + 7) z4 z3 s5 hs5.1   (by omega) (by omega)) (fun v8 s8 hqs8 => ?_)
          obtain ⟨rfl, hs8, pz8_0⟩ := hqs8
          have es8 := hs8
          have hs8 := hs8.sub (w' := WR) (List.forall_mem_cons.mpr ⟨(by decide), (fun _ h => by cases h)⟩)
          have k15 := es8.b.1 _ _ (nm_c (by decide) nm_0) (fun l z => by cases z) k6
          have k16 := es8.b.1 _ _ (nm_c ((by decide : ∀ u ∈ ArL, u ≠ 16) _ hAa1) nm_0) (fun l z => by cases z) k7
          have gs8 := gs5.trans hs8
          have tq6 := pz8_0.trans tq5
          exact TX.throw (Nat.ble_eq_true_of_le (by omega)) rfl rfl (QX_r (by decide) gs8 tq6)
      · refine TX.go 1 (fun n9 => (rfl : _ = exx ξ n9 (d + 8) j_N_attribute 59 [(0, .ref 16), (1, J x), (2, .ref a1), (3, J z3), (4, J z4)] [J z4] s4)) ?_
        refine TX.if_ne rfl rfl rfl (by omega) (fun c6 => ?_) (fun c6 => ?_)
        · refine TX.go 1 (fun n9 => (rfl : _ = exx ξ n9 (d + 8) j_N_attribute 85 [(0, .ref 16), (1, J x), (2, .ref a1), (3, J z3), (4, J z4)] [.ref 16] s4)) ?_
          refine TX.get rfl rfl rfl rfl k2 rfl ?_
          obtain ⟨mx10, nx10, bx10, lx10, hrx10, hbx10, fx10a, fx10b, fx10c, fx10d, fx10e, fx10g, fx10h, fx10i⟩ := hs4.1.row (r := 51) (by decide)
          refine TX.callv (as := []) (r := []) rfl rfl rfl rfl rfl hrx10 rfl (s_R_clear (d + 7) 51 s4 hs4.1 (by decide)  ) (fun v9 s9 hqs9 => ?_)
          obtain ⟨rfl, hs9, pz9_0, pz9_1⟩ := hqs9
          have es9 := hs9
          have hs9 := hs9.sub (w' := WR) (List.forall_mem_cons.mpr ⟨(by decide), (fun _ h => by cases h)⟩)
          have k17 := es9.b.1 _ _ (nm_c (by decide) nm_0) (fun l z => by cases z) k2
          have k18 := es9.b.1 _ _ (nm_c (by decide) nm_0) (fun l z => by cases z) k3
          have k19 := es9.b.1 _ _ (nm_c ((by decide : ∀ u ∈ ArL, u ≠ 51) _ hAa1) nm_0) (fun l z => by cases z) k4
          have gs9 := hs4.trans hs9
          refine TX.go 3 (fun n9 => (rfl : _ = exx ξ n9 (d + 8) j_N_attribute 107 [(0, .ref 16), (1, J x), (2, .ref a1), (3, J z3), (4, J z4)] [J z4] s9)) ?_
          refine TX.if_eq rfl rfl rfl (by omega) (fun c7 => ?_) (fun c7 => ?_)
          · refine TX.go 1 (fun n9 => (rfl : _ = exx ξ n9 (d + 8) j_N_attribute 128 [(0, .ref 16), (1, J x), (2, .ref a1), (3, J z3), (4, J z4)] [.ref 16] s9)) ?_
            refine TX.get rfl rfl rfl rfl k17 rfl ?_
            obtain ⟨mx11, nx11, bx11, lx11, hrx11, hbx11, fx11a, fx11b, fx11c, fx11d, fx11e, fx11g, fx11h, fx11i⟩ := hs9.1.row (r := 57) (by decide)
            refine TX.callv (as := []) (r := []) rfl rfl rfl rfl rfl hrx11 rfl (s_R_clear (d + 7) 57 s9 hs9.1 (by decide)  ) (fun v10 s10 hqs10 => ?_)
            obtain ⟨rfl, hs10, pz10_0, pz10_1⟩ := hqs10
            have es10 := hs10
            have hs10 := hs10.sub (w' := WR) (List.forall_mem_cons.mpr ⟨(by decide), (fun _ h => by cases h)⟩)
            have k20 := es10.b.1 _ _ (nm_c (by decide) nm_0) (fun l z => by cases z) k17
            have k21 := es10.b.1 _ _ (nm_c (by decide) nm_0) (fun l z => by cases z) k18
            have k22 := es10.b.1 _ _ (nm_c ((by decide : ∀ u ∈ ArL, u ≠ 57) _ hAa1) nm_0) (fun l z => by cases z) k19
            have gs10 := gs9.trans hs10
            refine TX.go 2 (fun n9 => (rfl : _ = exx ξ n9 (d + 8) j_N_attribute 136 [(0, .ref 16), (1, J x), (2, .ref a1), (3, J z3), (4, J z4)] [J (-1), J z3] s10)) ?_
            refine TX.icmp_eq rfl rfl rfl (by omega) (by omega) (fun c8 => ?_) (fun c8 => ?_)
            · refine TX.go 1 (fun n9 => (rfl : _ = exx ξ n9 (d + 8) j_N_attribute 151 [(0, .ref 16), (1, J x), (2, .ref a1), (3, J z3), (4, J z4)] [J (-1)] s10)) ?_
              have tq7 : nsx s10 = nsx σ := (nsx_of k20).trans (nsx_of hNx1).symm
              exact TX.ireti rfl rfl rfl (QX_l ⟨_, rfl, gs10, by omega, by omega, tq7⟩)
            · refine TX.go 1 (fun n9 => (rfl : _ = exx ξ n9 (d + 8) j_N_attribute 140 [(0, .ref 16), (1, J x), (2, .ref a1), (3, J z3), (4, J z4)] [.ref 16] s10)) ?_
              refine TX.get rfl rfl rfl rfl k20 rfl ?_
              obtain ⟨nx12, osx12, vsx12, vlx12, asx12, hmx12, fx12a, fx12b, fx12c, fx12d, fx12e, fx12f, fx12g, fx12h, fx12i⟩ := hs10.1.man
              refine TX.get rfl rfl rfl rfl hmx12 rfl ?_
              refine TX.go 1 (fun n9 => (rfl : _ = exx ξ n9 (d + 8) j_N_attribute 147 [(0, .ref 16), (1, J x), (2, .ref a1), (3, J z3), (4, J z4)] [J (-1), J vsx12] s10)) ?_
              refine TX.icmp_ne rfl rfl rfl (by omega) (by omega) (fun c9 => ?_) (fun c9 => ?_)
              · refine TX.go 1 (fun n9 => (rfl : _ = exx ξ n9 (d + 8) j_N_attribute 153 [(0, .ref 16), (1, J x), (2, .ref a1), (3, J z3), (4, J z4)] [.ref 16] s10)) ?_
                refine TX.get rfl rfl rfl rfl k20 rfl ?_
                refine TX.go 1 (fun n9 => (rfl : _ = exx ξ n9 (d + 8) j_N_attribute 157 [(0, .ref 16), (1, J x), (2, .ref a1), (3, J z3), (4, J z4)] [.ref 16, .ref 57] s10)) ?_
                refine TX.get rfl rfl rfl rfl k20 rfl ?_
                refine TX.get rfl rfl rfl rfl hmx12 rfl ?_
                refine TX.go 1 (fun n9 => (rfl : _ = exx ξ n9 (d + 8) j_N_attribute 164 [(0, .ref 16), (1, J x), (2, .ref a1), (3, J z3), (4, J z4)] [.ref 16, .ref 42, .ref 57] s10)) ?_
                refine TX.get rfl rfl rfl rfl k20 rfl ?_
                refine TX.get rfl rfl rfl rfl hmx12 rfl ?_
                refine TX.go 1 (fun n9 => (rfl : _ = exx ξ n9 (d + 8) j_N_attribute 171 [(0, .ref 16), (1, J x), (2, .ref a1), (3, J z3), (4, J z4)] [.ref 16, J vsx12, .ref 42, .ref 57] s10)) ?_
                refine TX.get rfl rfl rfl rfl k20 rfl ?_
                refine TX.get rfl rfl rfl rfl hmx12 rfl ?_
                obtain ⟨mx13, nx13, bx13, lx13, hrx13, hbx13, fx13a, fx13b, fx13c, fx13d, fx13e, fx13g, fx13h, fx13i⟩ := hs10.1.row (r := 57) (by decide)
                refine TX.callv (as := [.ref 42, J vsx12, J vlx12]) (r := []) rfl rfl rfl rfl rfl hrx13 rfl (s_R_addPart (d + 6) 57 42 vsx12 vlx12 s10 hs10.1 (by decide) (by decide) (by decide) (by omega) (by omega)) (fun v11 s11 hqs11 => ?_)
                obtain ⟨z11, rfl, hs11, hzz11, hyz11, pz11_0⟩ := hqs11
                have es11 := hs11
                have hs11 := hs11.sub (w' := WR) (List.forall_mem_cons.mpr ⟨(by decide), (fun _ h => by cases h)⟩)
                have k23 := es11.b.1 _ _ (nm_c (by decide) nm_0) (fun l z => by cases z) k20
                have k24 := es11.b.1 _ _ (nm_c (by decide) nm_0) (fun l z => by cases z) k21
                have k25 := es11.b.1 _ _ (nm_c ((by decide : ∀ u ∈ ArL, u ≠ 57) _ hAa1) nm_0) (fun l z => by cases z) k22
                have k26 := es11.b.1 _ _ (nm_c (by decide) nm_0) (fun l z => by cases z) hmx12
                have gs11 := gs10.trans hs11
                refine TX.go 2 (fun n9 => (rfl : _ = exx ξ n9 (d + 8) j_N_attribute 182 [(0, .ref 16), (1, J x), (2, .ref a1), (3, J z3), (4, J z4)] [.ref 16] s11)) ?_
                refine TX.get rfl rfl rfl rfl k23 rfl ?_
                obtain ⟨mx14, nx14, bx14, lx14, hrx14, hbx14, fx14a, fx14b, fx14c, fx14d, fx14e, fx14g, fx14h, fx14i⟩ := hs11.1.row (r := 57) (by decide)
                refine TX.get rfl rfl rfl rfl hrx14 rfl ?_
                have tq8 : nsx s11 = nsx σ := (nsx_of k23).trans (nsx_of hNx1).symm
                exact TX.ireti rfl rfl rfl (QX_l ⟨_, rfl, gs11, by omega, by omega, tq8⟩)
              · refine TX.go 1 (fun n9 => (rfl : _ = exx ξ n9 (d + 8) j_N_attribute 151 [(0, .ref 16), (1, J x), (2, .ref a1), (3, J z3), (4, J z4)] [J (-1)] s10)) ?_
                have tq9 : nsx s10 = nsx σ := (nsx_of k20).trans (nsx_of hNx1).symm
                exact TX.ireti rfl rfl rfl (QX_l ⟨_, rfl, gs10, by omega, by omega, tq9⟩)
          · refine TX.go 3 (fun n9 => (rfl : _ = exx ξ n9 (d + 8) j_N_attribute 114 [(0, .ref 16), (1, J x), (2, .ref a1), (3, J z3), (4, J z4)] [J z3, J z4, .ref 16] s9)) ?_
            have tq10 : nsx s9 = nsx σ := (nsx_of k17).trans (nsx_of hNx1).symm
            refine TX.callv (as := [J z4, J z3]) (r := []) rfl rfl rfl rfl rfl k17 rfl (s_N_note (d + 7) z4 z3 s9 hs9.1   (by omega) (by omega)) (fun v12 s12 hqs12 => ?_)
            obtain ⟨rfl, hs12, pz12_0⟩ := hqs12
            have es12 := hs12
            have hs12 := hs12.sub (w' := WR) (List.forall_mem_cons.mpr ⟨(by decide), (fun _ h => by cases h)⟩)
            have k27 := es12.b.1 _ _ (nm_c (by decide) nm_0) (fun l z => by cases z) k18
            have k28 := es12.b.1 _ _ (nm_c ((by decide : ∀ u ∈ ArL, u ≠ 16) _ hAa1) nm_0) (fun l z => by cases z) k19
            have gs12 := gs9.trans hs12
            have tq11 := pz12_0.trans tq10
            exact TX.throw (Nat.ble_eq_true_of_le (by omega)) rfl rfl (QX_r (by decide) gs12 tq11)
        · refine TX.go 1 (fun n9 => (rfl : _ = exx ξ n9 (d + 8) j_N_attribute 63 [(0, .ref 16), (1, J x), (2, .ref a1), (3, J z3), (4, J z4)] [.ref 16] s4)) ?_
          refine TX.get rfl rfl rfl rfl k2 rfl ?_
          refine TX.go 1 (fun n9 => (rfl : _ = exx ξ n9 (d + 8) j_N_attribute 67 [(0, .ref 16), (1, J x), (2, .ref a1), (3, J z3), (4, J z4)] [.ref 16, .ref 41] s4)) ?_
          refine TX.get rfl rfl rfl rfl k2 rfl ?_
          refine TX.go 1 (fun n9 => (rfl : _ = exx ξ n9 (d + 8) j_N_attribute 71 [(0, .ref 16), (1, J x), (2, .ref a1), (3, J z3), (4, J z4)] [.ref 16, .ref scx1, .ref 41] s4)) ?_
          refine TX.get rfl rfl rfl rfl k2 rfl ?_
          obtain ⟨nx15, osx15, vsx15, vlx15, asx15, hmx15, fx15a, fx15b, fx15c, fx15d, fx15e, fx15f, fx15g, fx15h, fx15i⟩ := hs4.1.man
          refine TX.callv (as := [.ref scx1, .ref 51]) (r := []) rfl rfl rfl rfl rfl hmx15 rfl (s_F_learn (d + 2) scx1 51 s4 hs4.1 (na_ke fx1sc) (by decide) ((by decide : ∀ u ∈ [59, 61], u ≠ 42) _ (mem2 fx1sc)) ) (fun v13 s13 hqs13 => ?_)
          obtain ⟨z13, rfl, hs13, hzz13, hyz13⟩ := hqs13
          have es13 := hs13
          have hs13 := hs13.sub (w' := WR) (List.forall_mem_cons.mpr ⟨(by decide), (List.forall_mem_cons.mpr ⟨(by decide), (List.forall_mem_cons.mpr ⟨(by decide), (List.forall_mem_cons.mpr ⟨(by decide), (fun _ h => by cases h)⟩)⟩)⟩)⟩)
          have k29 := es13.b.1 _ _ (nm_c (by decide) (nm_c (by decide) (nm_c (by decide) (nm_c (by decide) nm_0)))) (fun l z => by cases z) k2
          have k30 := es13.b.1 _ _ (nm_c (by decide) (nm_c (by decide) (nm_c (by decide) (nm_c (by decide) nm_0)))) (fun l z => by cases z) k3
          have k31 := es13.b.1 _ _ (nm_c ((by decide : ∀ u ∈ ArL, u ≠ 41) _ hAa1) (nm_c ((by decide : ∀ u ∈ ArL, u ≠ 44) _ hAa1) (nm_c ((by decide : ∀ u ∈ ArL, u ≠ 45) _ hAa1) (nm_c ((by decide : ∀ u ∈ ArL, u ≠ 42) _ hAa1) nm_0)))) (fun l z => by cases z) k4
          have gs13 := hs4.trans hs13
          refine TX.if_ne rfl rfl rfl (by omega) (fun c10 => ?_) (fun c10 => ?_)
          · refine TX.go 1 (fun n9 => (rfl : _ = exx ξ n9 (d + 8) j_N_attribute 85 [(0, .ref 16), (1, J x), (2, .ref a1), (3, J z3), (4, J z4)] [.ref 16] s13)) ?_
            refine TX.get rfl rfl rfl rfl k29 rfl ?_
            obtain ⟨mx16, nx16, bx16, lx16, hrx16, hbx16, fx16a, fx16b, fx16c, fx16d, fx16e, fx16g, fx16h, fx16i⟩ := hs13.1.row (r := 51) (by decide)
            refine TX.callv (as := []) (r := []) rfl rfl rfl rfl rfl hrx16 rfl (s_R_clear (d + 7) 51 s13 hs13.1 (by decide)  ) (fun v14 s14 hqs14 => ?_)
            obtain ⟨rfl, hs14, pz14_0, pz14_1⟩ := hqs14
            have es14 := hs14
            have hs14 := hs14.sub (w' := WR) (List.forall_mem_cons.mpr ⟨(by decide), (fun _ h => by cases h)⟩)
            have k32 := es14.b.1 _ _ (nm_c (by decide) nm_0) (fun l z => by cases z) k29
            have k33 := es14.b.1 _ _ (nm_c (by decide) nm_0) (fun l z => by cases z) k30
            have k34 := es14.b.1 _ _ (nm_c ((by decide : ∀ u ∈ ArL, u ≠ 51) _ hAa1) nm_0) (fun l z => by cases z) k31
            have gs14 := gs13.trans hs14
            refine TX.go 3 (fun n9 => (rfl : _ = exx ξ n9 (d + 8) j_N_attribute 107 [(0, .ref 16), (1, J x), (2, .ref a1), (3, J z3), (4, J z4)] [J z4] s14)) ?_
            refine TX.if_eq rfl rfl rfl (by omega) (fun c11 => ?_) (fun c11 => ?_)
            · refine TX.go 1 (fun n9 => (rfl : _ = exx ξ n9 (d + 8) j_N_attribute 128 [(0, .ref 16), (1, J x), (2, .ref a1), (3, J z3), (4, J z4)] [.ref 16] s14)) ?_
              refine TX.get rfl rfl rfl rfl k32 rfl ?_
              obtain ⟨mx17, nx17, bx17, lx17, hrx17, hbx17, fx17a, fx17b, fx17c, fx17d, fx17e, fx17g, fx17h, fx17i⟩ := hs14.1.row (r := 57) (by decide)
              refine TX.callv (as := []) (r := []) rfl rfl rfl rfl rfl hrx17 rfl (s_R_clear (d + 7) 57 s14 hs14.1 (by decide)  ) (fun v15 s15 hqs15 => ?_)
              obtain ⟨rfl, hs15, pz15_0, pz15_1⟩ := hqs15
              have es15 := hs15
              have hs15 := hs15.sub (w' := WR) (List.forall_mem_cons.mpr ⟨(by decide), (fun _ h => by cases h)⟩)
              have k35 := es15.b.1 _ _ (nm_c (by decide) nm_0) (fun l z => by cases z) k32
              have k36 := es15.b.1 _ _ (nm_c (by decide) nm_0) (fun l z => by cases z) k33
              have k37 := es15.b.1 _ _ (nm_c ((by decide : ∀ u ∈ ArL, u ≠ 57) _ hAa1) nm_0) (fun l z => by cases z) k34
              have gs15 := gs14.trans hs15
              refine TX.go 2 (fun n9 => (rfl : _ = exx ξ n9 (d + 8) j_N_attribute 136 [(0, .ref 16), (1, J x), (2, .ref a1), (3, J z3), (4, J z4)] [J (-1), J z3] s15)) ?_
              refine TX.icmp_eq rfl rfl rfl (by omega) (by omega) (fun c12 => ?_) (fun c12 => ?_)
              · refine TX.go 1 (fun n9 => (rfl : _ = exx ξ n9 (d + 8) j_N_attribute 151 [(0, .ref 16), (1, J x), (2, .ref a1), (3, J z3), (4, J z4)] [J (-1)] s15)) ?_
                have tq12 : nsx s15 = nsx σ := (nsx_of k35).trans (nsx_of hNx1).symm
                exact TX.ireti rfl rfl rfl (QX_l ⟨_, rfl, gs15, by omega, by omega, tq12⟩)
              · refine TX.go 1 (fun n9 => (rfl : _ = exx ξ n9 (d + 8) j_N_attribute 140 [(0, .ref 16), (1, J x), (2, .ref a1), (3, J z3), (4, J z4)] [.ref 16] s15)) ?_
                refine TX.get rfl rfl rfl rfl k35 rfl ?_
                obtain ⟨nx18, osx18, vsx18, vlx18, asx18, hmx18, fx18a, fx18b, fx18c, fx18d, fx18e, fx18f, fx18g, fx18h, fx18i⟩ := hs15.1.man
                refine TX.get rfl rfl rfl rfl hmx18 rfl ?_
                refine TX.go 1 (fun n9 => (rfl : _ = exx ξ n9 (d + 8) j_N_attribute 147 [(0, .ref 16), (1, J x), (2, .ref a1), (3, J z3), (4, J z4)] [J (-1), J vsx18] s15)) ?_
                refine TX.icmp_ne rfl rfl rfl (by omega) (by omega) (fun c13 => ?_) (fun c13 => ?_)
                · refine TX.go 1 (fun n9 => (rfl : _ = exx ξ n9 (d + 8) j_N_attribute 153 [(0, .ref 16), (1, J x), (2, .ref a1), (3, J z3), (4, J z4)] [.ref 16] s15)) ?_
                  refine TX.get rfl rfl rfl rfl k35 rfl ?_
                  refine TX.go 1 (fun n9 => (rfl : _ = exx ξ n9 (d + 8) j_N_attribute 157 [(0, .ref 16), (1, J x), (2, .ref a1), (3, J z3), (4, J z4)] [.ref 16, .ref 57] s15)) ?_
                  refine TX.get rfl rfl rfl rfl k35 rfl ?_
                  refine TX.get rfl rfl rfl rfl hmx18 rfl ?_
                  refine TX.go 1 (fun n9 => (rfl : _ = exx ξ n9 (d + 8) j_N_attribute 164 [(0, .ref 16), (1, J x), (2, .ref a1), (3, J z3), (4, J z4)] [.ref 16, .ref 42, .ref 57] s15)) ?_
                  refine TX.get rfl rfl rfl rfl k35 rfl ?_
                  refine TX.get rfl rfl rfl rfl hmx18 rfl ?_
                  refine TX.go 1 (fun n9 => (rfl : _ = exx ξ n9 (d + 8) j_N_attribute 171 [(0, .ref 16), (1, J x), (2, .ref a1), (3, J z3), (4, J z4)] [.ref 16, J vsx18, .ref 42, .ref 57] s15)) ?_
                  refine TX.get rfl rfl rfl rfl k35 rfl ?_
                  refine TX.get rfl rfl rfl rfl hmx18 rfl ?_
                  obtain ⟨mx19, nx19, bx19, lx19, hrx19, hbx19, fx19a, fx19b, fx19c, fx19d, fx19e, fx19g, fx19h, fx19i⟩ := hs15.1.row (r := 57) (by decide)
                  refine TX.callv (as := [.ref 42, J vsx18, J vlx18]) (r := []) rfl rfl rfl rfl rfl hrx19 rfl (s_R_addPart (d + 6) 57 42 vsx18 vlx18 s15 hs15.1 (by decide) (by decide) (by decide) (by omega) (by omega)) (fun v16 s16 hqs16 => ?_)
                  obtain ⟨z16, rfl, hs16, hzz16, hyz16, pz16_0⟩ := hqs16
                  have es16 := hs16
                  have hs16 := hs16.sub (w' := WR) (List.forall_mem_cons.mpr ⟨(by decide), (fun _ h => by cases h)⟩)
                  have k38 := es16.b.1 _ _ (nm_c (by decide) nm_0) (fun l z => by cases z) k35
                  have k39 := es16.b.1 _ _ (nm_c (by decide) nm_0) (fun l z => by cases z) k36
                  have k40 := es16.b.1 _ _ (nm_c ((by decide : ∀ u ∈ ArL, u ≠ 57) _ hAa1) nm_0) (fun l z => by cases z) k37
                  have k41 := es16.b.1 _ _ (nm_c (by decide) nm_0) (fun l z => by cases z) hmx18
                  have gs16 := gs15.trans hs16
                  refine TX.go 2 (fun n9 => (rfl : _ = exx ξ n9 (d + 8) j_N_attribute 182 [(0, .ref 16), (1, J x), (2, .ref a1), (3, J z3), (4, J z4)] [.ref 16] s16)) ?_
                  refine TX.get rfl rfl rfl rfl k38 rfl ?_
                  obtain ⟨mx20, nx20, bx20, lx20, hrx20, hbx20, fx20a, fx20b, fx20c, fx20d, fx20e, fx20g, fx20h, fx20i⟩ := hs16.1.row (r := 57) (by decide)
                  refine TX.get rfl rfl rfl rfl hrx20 rfl ?_
                  have tq13 : nsx s16 = nsx σ := (nsx_of k38).trans (nsx_of hNx1).symm
                  exact TX.ireti rfl rfl rfl (QX_l ⟨_, rfl, gs16, by omega, by omega, tq13⟩)
                · refine TX.go 1 (fun n9 => (rfl : _ = exx ξ n9 (d + 8) j_N_attribute 151 [(0, .ref 16), (1, J x), (2, .ref a1), (3, J z3), (4, J z4)] [J (-1)] s15)) ?_
                  have tq14 : nsx s15 = nsx σ := (nsx_of k35).trans (nsx_of hNx1).symm
                  exact TX.ireti rfl rfl rfl (QX_l ⟨_, rfl, gs15, by omega, by omega, tq14⟩)
            · refine TX.go 3 (fun n9 => (rfl : _ = exx ξ n9 (d + 8) j_N_attribute 114 [(0, .ref 16), (1, J x), (2, .ref a1), (3, J z3), (4, J z4)] [J z3, J z4, .ref 16] s14)) ?_
              have tq15 : nsx s14 = nsx σ := (nsx_of k32).trans (nsx_of hNx1).symm
              refine TX.callv (as := [J z4, J z3]) (r := []) rfl rfl rfl rfl rfl k32 rfl (s_N_note (d + 7) z4 z3 s14 hs14.1   (by omega) (by omega)) (fun v17 s17 hqs17 => ?_)
              obtain ⟨rfl, hs17, pz17_0⟩ := hqs17
              have es17 := hs17
              have hs17 := hs17.sub (w' := WR) (List.forall_mem_cons.mpr ⟨(by decide), (fun _ h => by cases h)⟩)
              have k42 := es17.b.1 _ _ (nm_c (by decide) nm_0) (fun l z => by cases z) k33
              have k43 := es17.b.1 _ _ (nm_c ((by decide : ∀ u ∈ ArL, u ≠ 16) _ hAa1) nm_0) (fun l z => by cases z) k34
              have gs17 := gs14.trans hs17
              have tq16 := pz17_0.trans tq15
              exact TX.throw (Nat.ble_eq_true_of_le (by omega)) rfl rfl (QX_r (by decide) gs17 tq16)
          · refine TX.go 3 (fun n9 => (rfl : _ = exx ξ n9 (d + 8) j_N_attribute 85 [(0, .ref 16), (1, J x), (2, .ref a1), (3, J z3), (4, J 10)] [.ref 16] s13)) ?_
            refine TX.get rfl rfl rfl rfl k29 rfl ?_
            obtain ⟨mx21, nx21, bx21, lx21, hrx21, hbx21, fx21a, fx21b, fx21c, fx21d, fx21e, fx21g, fx21h, fx21i⟩ := hs13.1.row (r := 51) (by decide)
            refine TX.callv (as := []) (r := []) rfl rfl rfl rfl rfl hrx21 rfl (s_R_clear (d + 7) 51 s13 hs13.1 (by decide)  ) (fun v18 s18 hqs18 => ?_)
            obtain ⟨rfl, hs18, pz18_0, pz18_1⟩ := hqs18
            have es18 := hs18
            have hs18 := hs18.sub (w' := WR) (List.forall_mem_cons.mpr ⟨(by decide), (fun _ h => by cases h)⟩)
            have k44 := es18.b.1 _ _ (nm_c (by decide) nm_0) (fun l z => by cases z) k29
            have k45 := es18.b.1 _ _ (nm_c (by decide) nm_0) (fun l z => by cases z) k30
            have k46 := es18.b.1 _ _ (nm_c ((by decide : ∀ u ∈ ArL, u ≠ 51) _ hAa1) nm_0) (fun l z => by cases z) k31
            have gs18 := gs13.trans hs18
            refine TX.go 7 (fun n9 => (rfl : _ = exx ξ n9 (d + 8) j_N_attribute 114 [(0, .ref 16), (1, J x), (2, .ref a1), (3, J z3), (4, J 10)] [J z3, J 10, .ref 16] s18)) ?_
            have tq17 : nsx s18 = nsx σ := (nsx_of k44).trans (nsx_of hNx1).symm
            refine TX.callv (as := [J 10, J z3]) (r := []) rfl rfl rfl rfl rfl k44 rfl (s_N_note (d + 7) 10 z3 s18 hs18.1   (by omega) (by omega)) (fun v19 s19 hqs19 => ?_)
            obtain ⟨rfl, hs19, pz19_0⟩ := hqs19
            have es19 := hs19
            have hs19 := hs19.sub (w' := WR) (List.forall_mem_cons.mpr ⟨(by decide), (fun _ h => by cases h)⟩)
            have k47 := es19.b.1 _ _ (nm_c (by decide) nm_0) (fun l z => by cases z) k45
            have k48 := es19.b.1 _ _ (nm_c ((by decide : ∀ u ∈ ArL, u ≠ 16) _ hAa1) nm_0) (fun l z => by cases z) k46
            have gs19 := gs18.trans hs19
            have tq18 := pz19_0.trans tq17
            exact TX.throw (Nat.ble_eq_true_of_le (by omega)) rfl rfl (QX_r (by decide) gs19 tq18)
    · refine TX.go 5 (fun n9 => (rfl : _ = exx ξ n9 (d + 8) j_N_attribute 54 [(0, .ref 16), (1, J x), (2, .ref a1), (3, J z3), (4, J 0)] [J (-1), J z3] σ)) ?_
      refine TX.icmp_eq rfl rfl rfl (by omega) (by omega) (fun c14 => ?_) (fun c14 => ?_)
      · refine TX.go 1 (fun n9 => (rfl : _ = exx ξ n9 (d + 8) j_N_attribute 85 [(0, .ref 16), (1, J x), (2, .ref a1), (3, J z3), (4, J 0)] [.ref 16] σ)) ?_
        refine TX.get rfl rfl rfl rfl hNx1 rfl ?_
        obtain ⟨mx22, nx22, bx22, lx22, hrx22, hbx22, fx22a, fx22b, fx22c, fx22d, fx22e, fx22g, fx22h, fx22i⟩ := hK.row (r := 51) (by decide)
        refine TX.callv (as := []) (r := []) rfl rfl rfl rfl rfl hrx22 rfl (s_R_clear (d + 7) 51 σ hK (by decide)  ) (fun v20 s20 hqs20 => ?_)
        obtain ⟨rfl, hs20, pz20_0, pz20_1⟩ := hqs20
        have es20 := hs20
        have hs20 := hs20.sub (w' := WR) (List.forall_mem_cons.mpr ⟨(by decide), (fun _ h => by cases h)⟩)
        have k49 := es20.b.1 _ _ (nm_c (by decide) nm_0) (fun l z => by cases z) hNx1
        have k50 := es20.b.1 _ _ (nm_c (by decide) nm_0) (fun l z => by cases z) hrx3
        have k51 := es20.b.1 _ _ (nm_c ((by decide : ∀ u ∈ ArL, u ≠ 51) _ hAa1) nm_0) (fun l z => by cases z) hax4
        refine TX.go 5 (fun n9 => (rfl : _ = exx ξ n9 (d + 8) j_N_attribute 128 [(0, .ref 16), (1, J x), (2, .ref a1), (3, J z3), (4, J 0)] [.ref 16] s20)) ?_
        refine TX.get rfl rfl rfl rfl k49 rfl ?_
        obtain ⟨mx23, nx23, bx23, lx23, hrx23, hbx23, fx23a, fx23b, fx23c, fx23d, fx23e, fx23g, fx23h, fx23i⟩ := hs20.1.row (r := 57) (by decide)
        refine TX.callv (as := []) (r := []) rfl rfl rfl rfl rfl hrx23 rfl (s_R_clear (d + 7) 57 s20 hs20.1 (by decide)  ) (fun v21 s21 hqs21 => ?_)
        obtain ⟨rfl, hs21, pz21_0, pz21_1⟩ := hqs21
        have es21 := hs21
        have hs21 := hs21.sub (w' := WR) (List.forall_mem_cons.mpr ⟨(by decide), (fun _ h => by cases h)⟩)
        have k52 := es21.b.1 _ _ (nm_c (by decide) nm_0) (fun l z => by cases z) k49
        have k53 := es21.b.1 _ _ (nm_c (by decide) nm_0) (fun l z => by cases z) k50
        have k54 := es21.b.1 _ _ (nm_c ((by decide : ∀ u ∈ ArL, u ≠ 57) _ hAa1) nm_0) (fun l z => by cases z) k51
        have gs21 := hs20.trans hs21
        refine TX.go 2 (fun n9 => (rfl : _ = exx ξ n9 (d + 8) j_N_attribute 136 [(0, .ref 16), (1, J x), (2, .ref a1), (3, J z3), (4, J 0)] [J (-1), J z3] s21)) ?_
        refine TX.icmp_eq rfl rfl rfl (by omega) (by omega) (fun c15 => ?_) (fun c15 => ?_)
        · refine TX.go 1 (fun n9 => (rfl : _ = exx ξ n9 (d + 8) j_N_attribute 151 [(0, .ref 16), (1, J x), (2, .ref a1), (3, J z3), (4, J 0)] [J (-1)] s21)) ?_
          have tq19 : nsx s21 = nsx σ := (nsx_of k52).trans (nsx_of hNx1).symm
          exact TX.ireti rfl rfl rfl (QX_l ⟨_, rfl, gs21, by omega, by omega, tq19⟩)
        · refine TX.go 1 (fun n9 => (rfl : _ = exx ξ n9 (d + 8) j_N_attribute 140 [(0, .ref 16), (1, J x), (2, .ref a1), (3, J z3), (4, J 0)] [.ref 16] s21)) ?_
          refine TX.get rfl rfl rfl rfl k52 rfl ?_
          obtain ⟨nx24, osx24, vsx24, vlx24, asx24, hmx24, fx24a, fx24b, fx24c, fx24d, fx24e, fx24f, fx24g, fx24h, fx24i⟩ := hs21.1.man
          refine TX.get rfl rfl rfl rfl hmx24 rfl ?_
          refine TX.go 1 (fun n9 => (rfl : _ = exx ξ n9 (d + 8) j_N_attribute 147 [(0, .ref 16), (1, J x), (2, .ref a1), (3, J z3), (4, J 0)] [J (-1), J vsx24] s21)) ?_
          refine TX.icmp_ne rfl rfl rfl (by omega) (by omega) (fun c16 => ?_) (fun c16 => ?_)
          · refine TX.go 1 (fun n9 => (rfl : _ = exx ξ n9 (d + 8) j_N_attribute 153 [(0, .ref 16), (1, J x), (2, .ref a1), (3, J z3), (4, J 0)] [.ref 16] s21)) ?_
            refine TX.get rfl rfl rfl rfl k52 rfl ?_
            refine TX.go 1 (fun n9 => (rfl : _ = exx ξ n9 (d + 8) j_N_attribute 157 [(0, .ref 16), (1, J x), (2, .ref a1), (3, J z3), (4, J 0)] [.ref 16, .ref 57] s21)) ?_
            refine TX.get rfl rfl rfl rfl k52 rfl ?_
            refine TX.get rfl rfl rfl rfl hmx24 rfl ?_
            refine TX.go 1 (fun n9 => (rfl : _ = exx ξ n9 (d + 8) j_N_attribute 164 [(0, .ref 16), (1, J x), (2, .ref a1), (3, J z3), (4, J 0)] [.ref 16, .ref 42, .ref 57] s21)) ?_
            refine TX.get rfl rfl rfl rfl k52 rfl ?_
            refine TX.get rfl rfl rfl rfl hmx24 rfl ?_
            refine TX.go 1 (fun n9 => (rfl : _ = exx ξ n9 (d + 8) j_N_attribute 171 [(0, .ref 16), (1, J x), (2, .ref a1), (3, J z3), (4, J 0)] [.ref 16, J vsx24, .ref 42, .ref 57] s21)) ?_
            refine TX.get rfl rfl rfl rfl k52 rfl ?_
            refine TX.get rfl rfl rfl rfl hmx24 rfl ?_
            obtain ⟨mx25, nx25, bx25, lx25, hrx25, hbx25, fx25a, fx25b, fx25c, fx25d, fx25e, fx25g, fx25h, fx25i⟩ := hs21.1.row (r := 57) (by decide)
            refine TX.callv (as := [.ref 42, J vsx24, J vlx24]) (r := []) rfl rfl rfl rfl rfl hrx25 rfl (s_R_addPart (d + 6) 57 42 vsx24 vlx24 s21 hs21.1 (by decide) (by decide) (by decide) (by omega) (by omega)) (fun v22 s22 hqs22 => ?_)
            obtain ⟨z22, rfl, hs22, hzz22, hyz22, pz22_0⟩ := hqs22
            have es22 := hs22
            have hs22 := hs22.sub (w' := WR) (List.forall_mem_cons.mpr ⟨(by decide), (fun _ h => by cases h)⟩)
            have k55 := es22.b.1 _ _ (nm_c (by decide) nm_0) (fun l z => by cases z) k52
            have k56 := es22.b.1 _ _ (nm_c (by decide) nm_0) (fun l z => by cases z) k53
            have k57 := es22.b.1 _ _ (nm_c ((by decide : ∀ u ∈ ArL, u ≠ 57) _ hAa1) nm_0) (fun l z => by cases z) k54
            have k58 := es22.b.1 _ _ (nm_c (by decide) nm_0) (fun l z => by cases z) hmx24
            have gs22 := gs21.trans hs22
            refine TX.go 2 (fun n9 => (rfl : _ = exx ξ n9 (d + 8) j_N_attribute 182 [(0, .ref 16), (1, J x), (2, .ref a1), (3, J z3), (4, J 0)] [.ref 16] s22)) ?_
            refine TX.get rfl rfl rfl rfl k55 rfl ?_
            obtain ⟨mx26, nx26, bx26, lx26, hrx26, hbx26, fx26a, fx26b, fx26c, fx26d, fx26e, fx26g, fx26h, fx26i⟩ := hs22.1.row (r := 57) (by decide)
            refine TX.get rfl rfl rfl rfl hrx26 rfl ?_
            have tq20 : nsx s22 = nsx σ := (nsx_of k55).trans (nsx_of hNx1).symm
            exact TX.ireti rfl rfl rfl (QX_l ⟨_, rfl, gs22, by omega, by omega, tq20⟩)
          · refine TX.go 1 (fun n9 => (rfl : _ = exx ξ n9 (d + 8) j_N_attribute 151 [(0, .ref 16), (1, J x), (2, .ref a1), (3, J z3), (4, J 0)] [J (-1)] s21)) ?_
            have tq21 : nsx s21 = nsx σ := (nsx_of k52).trans (nsx_of hNx1).symm
            exact TX.ireti rfl rfl rfl (QX_l ⟨_, rfl, gs21, by omega, by omega, tq21⟩)
      · refine TX.go 3 (fun n9 => (rfl : _ = exx ξ n9 (d + 8) j_N_attribute 63 [(0, .ref 16), (1, J x), (2, .ref a1), (3, J z3), (4, J 0)] [.ref 16] σ)) ?_
        refine TX.get rfl rfl rfl rfl hNx1 rfl ?_
        refine TX.go 1 (fun n9 => (rfl : _ = exx ξ n9 (d + 8) j_N_attribute 67 [(0, .ref 16), (1, J x), (2, .ref a1), (3, J z3), (4, J 0)] [.ref 16, .ref 41] σ)) ?_
        refine TX.get rfl rfl rfl rfl hNx1 rfl ?_
        refine TX.go 1 (fun n9 => (rfl : _ = exx ξ n9 (d + 8) j_N_attribute 71 [(0, .ref 16), (1, J x), (2, .ref a1), (3, J z3), (4, J 0)] [.ref 16, .ref scx1, .ref 41] σ)) ?_
        refine TX.get rfl rfl rfl rfl hNx1 rfl ?_
        obtain ⟨nx27, osx27, vsx27, vlx27, asx27, hmx27, fx27a, fx27b, fx27c, fx27d, fx27e, fx27f, fx27g, fx27h, fx27i⟩ := hK.man
        refine TX.callv (as := [.ref scx1, .ref 51]) (r := []) rfl rfl rfl rfl rfl hmx27 rfl (s_F_learn (d + 2) scx1 51 σ hK (na_ke fx1sc) (by decide) ((by decide : ∀ u ∈ [59, 61], u ≠ 42) _ (mem2 fx1sc)) ) (fun v23 s23 hqs23 => ?_)
        obtain ⟨z23, rfl, hs23, hzz23, hyz23⟩ := hqs23
        have es23 := hs23
        have hs23 := hs23.sub (w' := WR) (List.forall_mem_cons.mpr ⟨(by decide), (List.forall_mem_cons.mpr ⟨(by decide), (List.forall_mem_cons.mpr ⟨(by decide), (List.forall_mem_cons.mpr ⟨(by decide), (fun _ h => by cases h)⟩)⟩)⟩)⟩)
        have k59 := es23.b.1 _ _ (nm_c (by decide) (nm_c (by decide) (nm_c (by decide) (nm_c (by decide) nm_0)))) (fun l z => by cases z) hNx1
        have k60 := es23.b.1 _ _ (nm_c (by decide) (nm_c (by decide) (nm_c (by decide) (nm_c (by decide) nm_0)))) (fun l z => by cases z) hrx3
        have k61 := es23.b.1 _ _ (nm_c ((by decide : ∀ u ∈ ArL, u ≠ 41) _ hAa1) (nm_c ((by decide : ∀ u ∈ ArL, u ≠ 44) _ hAa1) (nm_c ((by decide : ∀ u ∈ ArL, u ≠ 45) _ hAa1) (nm_c ((by decide : ∀ u ∈ ArL, u ≠ 42) _ hAa1) nm_0)))) (fun l z => by cases z) hax4
        refine TX.if_ne rfl rfl rfl (by omega) (fun c17 => ?_) (fun c17 => ?_)
        · refine TX.go 1 (fun n9 => (rfl : _ = exx ξ n9 (d + 8) j_N_attribute 85 [(0, .ref 16), (1, J x), (2, .ref a1), (3, J z3), (4, J 0)] [.ref 16] s23)) ?_
          refine TX.get rfl rfl rfl rfl k59 rfl ?_
          obtain ⟨mx28, nx28, bx28, lx28, hrx28, hbx28, fx28a, fx28b, fx28c, fx28d, fx28e, fx28g, fx28h, fx28i⟩ := hs23.1.row (r := 51) (by decide)
          refine TX.callv (as := []) (r := []) rfl rfl rfl rfl rfl hrx28 rfl (s_R_clear (d + 7) 51 s23 hs23.1 (by decide)  ) (fun v24 s24 hqs24 => ?_)
          obtain ⟨rfl, hs24, pz24_0, pz24_1⟩ := hqs24
          have es24 := hs24
          have hs24 := hs24.sub (w' := WR) (List.forall_mem_cons.mpr ⟨(by decide), (fun _ h => by cases h)⟩)
          have k62 := es24.b.1 _ _ (nm_c (by decide) nm_0) (fun l z => by cases z) k59
          have k63 := es24.b.1 _ _ (nm_c (by decide) nm_0) (fun l z => by cases z) k60
          have k64 := es24.b.1 _ _ (nm_c ((by decide : ∀ u ∈ ArL, u ≠ 51) _ hAa1) nm_0) (fun l z => by cases z) k61
          have gs24 := hs23.trans hs24
          refine TX.go 5 (fun n9 => (rfl : _ = exx ξ n9 (d + 8) j_N_attribute 128 [(0, .ref 16), (1, J x), (2, .ref a1), (3, J z3), (4, J 0)] [.ref 16] s24)) ?_
          refine TX.get rfl rfl rfl rfl k62 rfl ?_
          obtain ⟨mx29, nx29, bx29, lx29, hrx29, hbx29, fx29a, fx29b, fx29c, fx29d, fx29e, fx29g, fx29h, fx29i⟩ := hs24.1.row (r := 57) (by decide)
          refine TX.callv (as := []) (r := []) rfl rfl rfl rfl rfl hrx29 rfl (s_R_clear (d + 7) 57 s24 hs24.1 (by decide)  ) (fun v25 s25 hqs25 => ?_)
          obtain ⟨rfl, hs25, pz25_0, pz25_1⟩ := hqs25
          have es25 := hs25
          have hs25 := hs25.sub (w' := WR) (List.forall_mem_cons.mpr ⟨(by decide), (fun _ h => by cases h)⟩)
          have k65 := es25.b.1 _ _ (nm_c (by decide) nm_0) (fun l z => by cases z) k62
          have k66 := es25.b.1 _ _ (nm_c (by decide) nm_0) (fun l z => by cases z) k63
          have k67 := es25.b.1 _ _ (nm_c ((by decide : ∀ u ∈ ArL, u ≠ 57) _ hAa1) nm_0) (fun l z => by cases z) k64
          have gs25 := gs24.trans hs25
          refine TX.go 2 (fun n9 => (rfl : _ = exx ξ n9 (d + 8) j_N_attribute 136 [(0, .ref 16), (1, J x), (2, .ref a1), (3, J z3), (4, J 0)] [J (-1), J z3] s25)) ?_
          refine TX.icmp_eq rfl rfl rfl (by omega) (by omega) (fun c18 => ?_) (fun c18 => ?_)
          · refine TX.go 1 (fun n9 => (rfl : _ = exx ξ n9 (d + 8) j_N_attribute 151 [(0, .ref 16), (1, J x), (2, .ref a1), (3, J z3), (4, J 0)] [J (-1)] s25)) ?_
            have tq22 : nsx s25 = nsx σ := (nsx_of k65).trans (nsx_of hNx1).symm
            exact TX.ireti rfl rfl rfl (QX_l ⟨_, rfl, gs25, by omega, by omega, tq22⟩)
          · refine TX.go 1 (fun n9 => (rfl : _ = exx ξ n9 (d + 8) j_N_attribute 140 [(0, .ref 16), (1, J x), (2, .ref a1), (3, J z3), (4, J 0)] [.ref 16] s25)) ?_
            refine TX.get rfl rfl rfl rfl k65 rfl ?_
            obtain ⟨nx30, osx30, vsx30, vlx30, asx30, hmx30, fx30a, fx30b, fx30c, fx30d, fx30e, fx30f, fx30g, fx30h, fx30i⟩ := hs25.1.man
            refine TX.get rfl rfl rfl rfl hmx30 rfl ?_
            refine TX.go 1 (fun n9 => (rfl : _ = exx ξ n9 (d + 8) j_N_attribute 147 [(0, .ref 16), (1, J x), (2, .ref a1), (3, J z3), (4, J 0)] [J (-1), J vsx30] s25)) ?_
            refine TX.icmp_ne rfl rfl rfl (by omega) (by omega) (fun c19 => ?_) (fun c19 => ?_)
            · refine TX.go 1 (fun n9 => (rfl : _ = exx ξ n9 (d + 8) j_N_attribute 153 [(0, .ref 16), (1, J x), (2, .ref a1), (3, J z3), (4, J 0)] [.ref 16] s25)) ?_
              refine TX.get rfl rfl rfl rfl k65 rfl ?_
              refine TX.go 1 (fun n9 => (rfl : _ = exx ξ n9 (d + 8) j_N_attribute 157 [(0, .ref 16), (1, J x), (2, .ref a1), (3, J z3), (4, J 0)] [.ref 16, .ref 57] s25)) ?_
              refine TX.get rfl rfl rfl rfl k65 rfl ?_
              refine TX.get rfl rfl rfl rfl hmx30 rfl ?_
              refine TX.go 1 (fun n9 => (rfl : _ = exx ξ n9 (d + 8) j_N_attribute 164 [(0, .ref 16), (1, J x), (2, .ref a1), (3, J z3), (4, J 0)] [.ref 16, .ref 42, .ref 57] s25)) ?_
              refine TX.get rfl rfl rfl rfl k65 rfl ?_
              refine TX.get rfl rfl rfl rfl hmx30 rfl ?_
              refine TX.go 1 (fun n9 => (rfl : _ = exx ξ n9 (d + 8) j_N_attribute 171 [(0, .ref 16), (1, J x), (2, .ref a1), (3, J z3), (4, J 0)] [.ref 16, J vsx30, .ref 42, .ref 57] s25)) ?_
              refine TX.get rfl rfl rfl rfl k65 rfl ?_
              refine TX.get rfl rfl rfl rfl hmx30 rfl ?_
              obtain ⟨mx31, nx31, bx31, lx31, hrx31, hbx31, fx31a, fx31b, fx31c, fx31d, fx31e, fx31g, fx31h, fx31i⟩ := hs25.1.row (r := 57) (by decide)
              refine TX.callv (as := [.ref 42, J vsx30, J vlx30]) (r := []) rfl rfl rfl rfl rfl hrx31 rfl (s_R_addPart (d + 6) 57 42 vsx30 vlx30 s25 hs25.1 (by decide) (by decide) (by decide) (by omega) (by omega)) (fun v26 s26 hqs26 => ?_)
              obtain ⟨z26, rfl, hs26, hzz26, hyz26, pz26_0⟩ := hqs26
              have es26 := hs26
              have hs26 := hs26.sub (w' := WR) (List.forall_mem_cons.mpr ⟨(by decide), (fun _ h => by cases h)⟩)
              have k68 := es26.b.1 _ _ (nm_c (by decide) nm_0) (fun l z => by cases z) k65
              have k69 := es26.b.1 _ _ (nm_c (by decide) nm_0) (fun l z => by cases z) k66
              have k70 := es26.b.1 _ _ (nm_c ((by decide : ∀ u ∈ ArL, u ≠ 57) _ hAa1) nm_0) (fun l z => by cases z) k67
              have k71 := es26.b.1 _ _ (nm_c (by decide) nm_0) (fun l z => by cases z) hmx30
              have gs26 := gs25.trans hs26
              refine TX.go 2 (fun n9 => (rfl : _ = exx ξ n9 (d + 8) j_N_attribute 182 [(0, .ref 16), (1, J x), (2, .ref a1), (3, J z3), (4, J 0)] [.ref 16] s26)) ?_
              refine TX.get rfl rfl rfl rfl k68 rfl ?_
              obtain ⟨mx32, nx32, bx32, lx32, hrx32, hbx32, fx32a, fx32b, fx32c, fx32d, fx32e, fx32g, fx32h, fx32i⟩ := hs26.1.row (r := 57) (by decide)
              refine TX.get rfl rfl rfl rfl hrx32 rfl ?_
              have tq23 : nsx s26 = nsx σ := (nsx_of k68).trans (nsx_of hNx1).symm
              exact TX.ireti rfl rfl rfl (QX_l ⟨_, rfl, gs26, by omega, by omega, tq23⟩)
            · refine TX.go 1 (fun n9 => (rfl : _ = exx ξ n9 (d + 8) j_N_attribute 151 [(0, .ref 16), (1, J x), (2, .ref a1), (3, J z3), (4, J 0)] [J (-1)] s25)) ?_
              have tq24 : nsx s25 = nsx σ := (nsx_of k65).trans (nsx_of hNx1).symm
              exact TX.ireti rfl rfl rfl (QX_l ⟨_, rfl, gs25, by omega, by omega, tq24⟩)
        · refine TX.go 3 (fun n9 => (rfl : _ = exx ξ n9 (d + 8) j_N_attribute 85 [(0, .ref 16), (1, J x), (2, .ref a1), (3, J z3), (4, J 10)] [.ref 16] s23)) ?_
          refine TX.get rfl rfl rfl rfl k59 rfl ?_
          obtain ⟨mx33, nx33, bx33, lx33, hrx33, hbx33, fx33a, fx33b, fx33c, fx33d, fx33e, fx33g, fx33h, fx33i⟩ := hs23.1.row (r := 51) (by decide)
          refine TX.callv (as := []) (r := []) rfl rfl rfl rfl rfl hrx33 rfl (s_R_clear (d + 7) 51 s23 hs23.1 (by decide)  ) (fun v27 s27 hqs27 => ?_)
          obtain ⟨rfl, hs27, pz27_0, pz27_1⟩ := hqs27
          have es27 := hs27
          have hs27 := hs27.sub (w' := WR) (List.forall_mem_cons.mpr ⟨(by decide), (fun _ h => by cases h)⟩)
          have k72 := es27.b.1 _ _ (nm_c (by decide) nm_0) (fun l z => by cases z) k59
          have k73 := es27.b.1 _ _ (nm_c (by decide) nm_0) (fun l z => by cases z) k60
          have k74 := es27.b.1 _ _ (nm_c ((by decide : ∀ u ∈ ArL, u ≠ 51) _ hAa1) nm_0) (fun l z => by cases z) k61
          have gs27 := hs23.trans hs27
          refine TX.go 7 (fun n9 => (rfl : _ = exx ξ n9 (d + 8) j_N_attribute 114 [(0, .ref 16), (1, J x), (2, .ref a1), (3, J z3), (4, J 10)] [J z3, J 10, .ref 16] s27)) ?_
          have tq25 : nsx s27 = nsx σ := (nsx_of k72).trans (nsx_of hNx1).symm
          refine TX.callv (as := [J 10, J z3]) (r := []) rfl rfl rfl rfl rfl k72 rfl (s_N_note (d + 7) 10 z3 s27 hs27.1   (by omega) (by omega)) (fun v28 s28 hqs28 => ?_)
          obtain ⟨rfl, hs28, pz28_0⟩ := hqs28
          have es28 := hs28
          have hs28 := hs28.sub (w' := WR) (List.forall_mem_cons.mpr ⟨(by decide), (fun _ h => by cases h)⟩)
          have k75 := es28.b.1 _ _ (nm_c (by decide) nm_0) (fun l z => by cases z) k73
          have k76 := es28.b.1 _ _ (nm_c ((by decide : ∀ u ∈ ArL, u ≠ 16) _ hAa1) nm_0) (fun l z => by cases z) k74
          have gs28 := gs27.trans hs28
          have tq26 := pz28_0.trans tq25
          exact TX.throw (Nat.ble_eq_true_of_le (by omega)) rfl rfl (QX_r (by decide) gs28 tq26)

set_option maxRecDepth 10000 in
set_option maxHeartbeats 4000000 in
theorem s_N_index {ξ : Nat → Option (Nat × List Int32)} (hX : XT ξ) (d : Nat)  (σ : qH) (hK : K σ)   : TX ξ (d + 8) j_N_index 0 (lv_args 0 [.ref 16]) [] σ (QX WQ [0, 2] σ (fun s => tpf s = tpf σ) (fun v σ' => ∃ z : Int, v = some (J z) ∧ Fr WQ σ σ' ∧ -2147483648 ≤ z ∧ z ≤ 2147483647 ∧ tpf σ' = tpf σ)) := by
  have hX0 := hX
  obtain ⟨⟨X1, hX1, lX1⟩, ⟨X2, hX2, lX2⟩, ⟨X3, hX3, lX3⟩, ⟨X4, hX4, lX4⟩, ⟨X5, hX5, lX5⟩, ⟨X6, hX6, lX6⟩⟩ := hX
  have lY1 : X1.length = 19 := by rw [lX1]; rfl
  have lY2 : X2.length = 29 := by rw [lX2]; rfl
  have lY3 : X3.length = 29 := by rw [lX3]; rfl
  have lY4 : X4.length = 30 := by rw [lX4]; rfl
  have lY5 : X5.length = 30 := by rw [lX5]; rfl
  have lY6 : X6.length = 16 := by rw [lX6]; rfl
  obtain ⟨kex1, scx1, tpx1, oux1, mox1, sgx1, hox1, mcx1, lfx1, lpx1, hNx1, fx1ke, fx1sc, fx1tp, fx1ou, fx1mo, fx1sg, fx1d, fx1e, fx1f, fx1g, fx1h, fx1i, fx1j⟩ := hK.na
  have loop120 : ∀ (f : Nat) (u1 : Int) (u2 : Int) (k : Int) (τ : qH), Fr WQ σ τ → tpf τ = tpf σ → -1 ≤ u1 → u1 ≤ 63 → 0 ≤ u2 → u2 ≤ 12 → 0 ≤ k → k ≤ 6 → (6 - k).toNat < f → TX ξ (d + 8) j_N_index 120 [(0, .ref 16), (1, J u1), (2, J u2), (3, J k)] [] τ (QX WQ [0, 2] σ (fun s => tpf s = tpf σ) (fun v σ' => ∃ z : Int, v = some (J z) ∧ Fr WQ σ σ' ∧ -2147483648 ≤ z ∧ z ≤ 2147483647 ∧ tpf σ' = tpf σ)) := by
    intro f
    induction f with
    | zero => intro u1 u2 k τ hτ tτ i0 i1 i2 i3 i4 i5 hm; omega
    | succ f ih =>
      intro u1 u2 k τ hτ tτ i0 i1 i2 i3 i4 i5 hm
      refine TX.go 2 (fun n9 => (rfl : _ = exx ξ n9 (d + 8) j_N_index 122 [(0, .ref 16), (1, J u1), (2, J u2), (3, J k)] [.ref 16, J k] τ)) ?_
      obtain ⟨kex2, scx2, tpx2, oux2, mox2, sgx2, hox2, mcx2, lfx2, lpx2, hNx2, fx2ke, fx2sc, fx2tp, fx2ou, fx2mo, fx2sg, fx2d, fx2e, fx2f, fx2g, fx2h, fx2i, fx2j⟩ := hτ.1.na
      refine TX.get rfl rfl rfl rfl hNx2 rfl ?_
      obtain ⟨nx3, hmx3, fx3a, fx3b⟩ := hτ.1.idx
      refine TX.get rfl rfl rfl rfl hmx3 rfl ?_
      refine TX.icmp_ge rfl rfl rfl (by omega) (by omega) (fun c1 => ?_) (fun c1 => ?_)
      · refine TX.go 1 (fun n9 => (rfl : _ = exx ξ n9 (d + 8) j_N_index 211 [(0, .ref 16), (1, J u1), (2, J u2), (3, J k)] [.ref 16] τ)) ?_
        refine TX.get rfl rfl rfl rfl hNx2 rfl ?_
        refine TX.go 3 (fun n9 => (rfl : _ = exx ξ n9 (d + 8) j_N_index 217 [(0, .ref 16), (1, J u1), (2, J u2), (3, .ref sgx2)] [.ref 16, .ref 16] τ)) ?_
        refine TX.get rfl rfl rfl rfl hNx2 rfl ?_
        refine TX.putF (w := WQ) rfl rfl rfl hNx2 rfl rfl rfl (fs' := [.ref 17, .ref 41, .ref 48, .ref 51, .ref 53, .ref 55, .ref 57, .ref kex2, .ref scx2, .ref tpx2, .ref oux2, J hox2, .ref mox2, .ref mox2, J mcx2, J lfx2, J lpx2]) rfl (Fr.other hτ.1 hNx2 rfl (show okN _ from ⟨_, _, _, _, _, _, _, _, _, _, rfl, by omega⟩) (by decide) (Or.inl (by decide)) (fun _ z => by cases z) (by decide)) (fun s1 hs1 hcs1 hos1 => ?_)
        have gs1 := hτ.trans hs1
        have k1 := hos1 (by decide) hmx3
        refine TX.go 2 (fun n9 => (rfl : _ = exx ξ n9 (d + 8) j_N_index 225 [(0, .ref 16), (1, J u1), (2, J u2), (3, .ref sgx2)] [.ref sgx2, .ref 16] s1)) ?_
        refine TX.putF (w := WQ) rfl rfl rfl hcs1 rfl rfl rfl (fs' := [.ref 17, .ref 41, .ref 48, .ref 51, .ref 53, .ref 55, .ref 57, .ref kex2, .ref scx2, .ref tpx2, .ref oux2, J hox2, .ref sgx2, .ref mox2, J mcx2, J lfx2, J lpx2]) rfl (Fr.other hs1.1 hcs1 rfl (show okN _ from ⟨_, _, _, _, _, _, _, _, _, _, rfl, by omega⟩) (by decide) (Or.inl (by decide)) (fun _ z => by cases z) (by decide)) (fun s2 hs2 hcs2 hos2 => ?_)
        have gs2 := gs1.trans hs2
        have k2 := hos2 (by decide) k1
        refine TX.go 2 (fun n9 => (rfl : _ = exx ξ n9 (d + 8) j_N_index 230 [(0, .ref 16), (1, J u1), (2, J u2), (3, .ref sgx2)] [.ref 16, .ref 16] s2)) ?_
        refine TX.get rfl rfl rfl rfl hcs2 rfl ?_
        refine TX.get rfl rfl rfl rfl k2 rfl ?_
        refine TX.putF (w := WQ) rfl rfl rfl hcs2 rfl rfl rfl (fs' := [.ref 17, .ref 41, .ref 48, .ref 51, .ref 53, .ref 55, .ref 57, .ref kex2, .ref scx2, .ref tpx2, .ref oux2, J hox2, .ref sgx2, .ref mox2, J nx3, J lfx2, J lpx2]) rfl (Fr.other hs2.1 hcs2 rfl (show okN _ from ⟨_, _, _, _, _, _, _, _, _, _, rfl, by omega⟩) (by decide) (Or.inl (by decide)) (fun _ z => by cases z) (by decide)) (fun s3 hs3 hcs3 hos3 => ?_)
        have gs3 := gs2.trans hs3
        have k3 := hos3 (by decide) k2
        refine TX.go 1 (fun n9 => (rfl : _ = exx ξ n9 (d + 8) j_N_index 240 [(0, .ref 16), (1, J u1), (2, J u2), (3, .ref sgx2)] [.ref 16] s3)) ?_
        refine TX.get rfl rfl rfl rfl hcs3 rfl ?_
        have tq1 : tpf s3 = tpf σ := ((tpf_of hcs3 rfl).trans (tpf_of hNx2 rfl).symm).trans tτ
        exact TX.ireti rfl rfl rfl (QX_l ⟨_, rfl, gs3, by omega, by omega, tq1⟩)
      · refine TX.go 2 (fun n9 => (rfl : _ = exx ξ n9 (d + 8) j_N_index 134 [(0, .ref 16), (1, J u1), (2, J u2), (3, J k)] [J 6, J k] τ)) ?_
        refine TX.icmp_ge rfl rfl rfl (by omega) (by omega) (fun c2 => ?_) (fun c2 => ?_)
        · refine TX.go 1 (fun n9 => (rfl : _ = exx ξ n9 (d + 8) j_N_index 211 [(0, .ref 16), (1, J u1), (2, J u2), (3, J k)] [.ref 16] τ)) ?_
          refine TX.get rfl rfl rfl rfl hNx2 rfl ?_
          refine TX.go 3 (fun n9 => (rfl : _ = exx ξ n9 (d + 8) j_N_index 217 [(0, .ref 16), (1, J u1), (2, J u2), (3, .ref sgx2)] [.ref 16, .ref 16] τ)) ?_
          refine TX.get rfl rfl rfl rfl hNx2 rfl ?_
          refine TX.putF (w := WQ) rfl rfl rfl hNx2 rfl rfl rfl (fs' := [.ref 17, .ref 41, .ref 48, .ref 51, .ref 53, .ref 55, .ref 57, .ref kex2, .ref scx2, .ref tpx2, .ref oux2, J hox2, .ref mox2, .ref mox2, J mcx2, J lfx2, J lpx2]) rfl (Fr.other hτ.1 hNx2 rfl (show okN _ from ⟨_, _, _, _, _, _, _, _, _, _, rfl, by omega⟩) (by decide) (Or.inl (by decide)) (fun _ z => by cases z) (by decide)) (fun s4 hs4 hcs4 hos4 => ?_)
          have gs4 := hτ.trans hs4
          have k4 := hos4 (by decide) hmx3
          refine TX.go 2 (fun n9 => (rfl : _ = exx ξ n9 (d + 8) j_N_index 225 [(0, .ref 16), (1, J u1), (2, J u2), (3, .ref sgx2)] [.ref sgx2, .ref 16] s4)) ?_
          refine TX.putF (w := WQ) rfl rfl rfl hcs4 rfl rfl rfl (fs' := [.ref 17, .ref 41, .ref 48, .ref 51, .ref 53, .ref 55, .ref 57, .ref kex2, .ref scx2, .ref tpx2, .ref oux2, J hox2, .ref sgx2, .ref mox2, J mcx2, J lfx2, J lpx2]) rfl (Fr.other hs4.1 hcs4 rfl (show okN _ from ⟨_, _, _, _, _, _, _, _, _, _, rfl, by omega⟩) (by decide) (Or.inl (by decide)) (fun _ z => by cases z) (by decide)) (fun s5 hs5 hcs5 hos5 => ?_)
          have gs5 := gs4.trans hs5
          have k5 := hos5 (by decide) k4
          refine TX.go 2 (fun n9 => (rfl : _ = exx ξ n9 (d + 8) j_N_index 230 [(0, .ref 16), (1, J u1), (2, J u2), (3, .ref sgx2)] [.ref 16, .ref 16] s5)) ?_
          refine TX.get rfl rfl rfl rfl hcs5 rfl ?_
          refine TX.get rfl rfl rfl rfl k5 rfl ?_
          refine TX.putF (w := WQ) rfl rfl rfl hcs5 rfl rfl rfl (fs' := [.ref 17, .ref 41, .ref 48, .ref 51, .ref 53, .ref 55, .ref 57, .ref kex2, .ref scx2, .ref tpx2, .ref oux2, J hox2, .ref sgx2, .ref mox2, J nx3, J lfx2, J lpx2]) rfl (Fr.other hs5.1 hcs5 rfl (show okN _ from ⟨_, _, _, _, _, _, _, _, _, _, rfl, by omega⟩) (by decide) (Or.inl (by decide)) (fun _ z => by cases z) (by decide)) (fun s6 hs6 hcs6 hos6 => ?_)
          have gs6 := gs5.trans hs6
          have k6 := hos6 (by decide) k5
          refine TX.go 1 (fun n9 => (rfl : _ = exx ξ n9 (d + 8) j_N_index 240 [(0, .ref 16), (1, J u1), (2, J u2), (3, .ref sgx2)] [.ref 16] s6)) ?_
          refine TX.get rfl rfl rfl rfl hcs6 rfl ?_
          have tq2 : tpf s6 = tpf σ := ((tpf_of hcs6 rfl).trans (tpf_of hNx2 rfl).symm).trans tτ
          exact TX.ireti rfl rfl rfl (QX_l ⟨_, rfl, gs6, by omega, by omega, tq2⟩)
        · refine TX.go 1 (fun n9 => (rfl : _ = exx ξ n9 (d + 8) j_N_index 138 [(0, .ref 16), (1, J u1), (2, J u2), (3, J k)] [.ref 16] τ)) ?_
          refine TX.get rfl rfl rfl rfl hNx2 rfl ?_
          refine TX.go 1 (fun n9 => (rfl : _ = exx ξ n9 (d + 8) j_N_index 142 [(0, .ref 16), (1, J u1), (2, J u2), (3, J k)] [.ref 16, .ref oux2] τ)) ?_
          refine TX.get rfl rfl rfl rfl hNx2 rfl ?_
          refine TX.go 1 (fun n9 => (rfl : _ = exx ξ n9 (d + 8) j_N_index 146 [(0, .ref 16), (1, J u1), (2, J u2), (3, J k)] [.ref 16, .ref scx2, .ref oux2] τ)) ?_
          refine TX.get rfl rfl rfl rfl hNx2 rfl ?_
          refine TX.get rfl rfl rfl rfl hmx3 rfl ?_
          refine TX.go 1 (fun n9 => (rfl : _ = exx ξ n9 (d + 8) j_N_index 153 [(0, .ref 16), (1, J u1), (2, J u2), (3, J k)] [J k, .ref 49, .ref scx2, .ref oux2] τ)) ?_
          obtain ⟨lx4, hix4, elx4⟩ := hτ.1.ints kdX_49
          refine TX.iald rfl rfl rfl hix4 (by omega) (fun z1 hzz1 hyz1 hez1 => ?_)
          refine TX.go 1 (fun n9 => (rfl : _ = exx ξ n9 (d + 8) j_N_index 155 [(0, .ref 16), (1, J u1), (2, J u2), (3, J k)] [.ref 16, J z1, .ref scx2, .ref oux2] τ)) ?_
          refine TX.get rfl rfl rfl rfl hNx2 rfl ?_
          refine TX.get rfl rfl rfl rfl hmx3 rfl ?_
          refine TX.go 1 (fun n9 => (rfl : _ = exx ξ n9 (d + 8) j_N_index 162 [(0, .ref 16), (1, J u1), (2, J u2), (3, J k)] [J k, .ref 50, J z1, .ref scx2, .ref oux2] τ)) ?_
          obtain ⟨lx5, hix5, elx5⟩ := hτ.1.ints kdX_50
          refine TX.iald rfl rfl rfl hix5 (by omega) (fun z2 hzz2 hyz2 hez2 => ?_)
          obtain ⟨ex6, erx6, dix6, bax6, fpx6, hax6, fx6a, fx6b, fx6c, fx6d, fx6e, fx6f, fx6g, fx6h, fx6i, fx6j⟩ := hτ.1.arc (na_tp fx2ou)
          refine TX.callv (as := [.ref scx2, J z1, J z2]) (r := []) rfl rfl rfl rfl (ArL_lt _ (na_tp fx2ou)).2.2.1 hax6 rfl (s_A_lookUp (d + 6) oux2 scx2 z1 z2 τ hτ.1 (na_tp fx2ou) (na_ke fx2sc)  (by omega) (by omega)) (fun v1 s7 hqs7 => ?_)
          obtain ⟨z3, rfl, esz3, hzz3, hyz3⟩ := hqs7
          rw [esz3]
          refine TX.go 3 (fun n9 => (rfl : _ = exx ξ n9 (d + 8) j_N_index 169 [(0, .ref 16), (1, J z3), (2, J u2), (3, J k)] [J (-1), J z3] τ)) ?_
          refine TX.icmp_ne rfl rfl rfl (by omega) (by omega) (fun c3 => ?_) (fun c3 => ?_)
          · refine TX.go 3 (fun n9 => (rfl : _ = exx ξ n9 (d + 8) j_N_index 180 [(0, .ref 16), (1, J z3), (2, J u2), (3, J k)] [J z3, J k, .ref 16] τ)) ?_
            refine TX.callv (as := [J k, J z3]) (r := []) rfl rfl rfl rfl rfl hNx2 rfl (s_N_stageMount hX0 (d + 1) k z3 τ hτ.1   (by omega) (by omega) (by omega) (by omega)) (fun v2 s8 hqs8 => ?_)
            obtain ⟨z4, rfl, hs8, hzz4, hyz4⟩ := hqs8
            have es8 := hs8
            have hs8 := hs8.sub (w' := WQ) (by decide)
            have k7 := es8.b.1 _ _ (by decide) (fun l z => by cases z) hNx2
            have k8 := es8.b.1 _ _ (by decide) (fun l z => by cases z) hmx3
            have k9 := es8.b.1 _ _ (by decide) (fun l z => by cases z) hix4
            have k10 := es8.b.1 _ _ (by decide) (fun l z => by cases z) hix5
            have k11 := es8.b.1 _ _ ((by decide : ∀ q ∈ [63, 68], q + 0 ∉ WS) _ (mem2 fx2ou)) (fun l z => by cases z) hax6
            have gs8 := hτ.trans hs8
            refine TX.go 2 (fun n9 => (rfl : _ = exx ξ n9 (d + 8) j_N_index 185 [(0, .ref 16), (1, J z3), (2, J z4), (3, J k)] [J z4] s8)) ?_
            refine TX.if_eq rfl rfl rfl (by omega) (fun c4 => ?_) (fun c4 => ?_)
            · refine TX.iinc (lv' := [(0, .ref 16), (1, J z3), (2, J z4), (3, J (k + 1))]) rfl rfl rfl rfl rfl ?_
              refine TX.go 1 (fun n9 => (rfl : _ = exx ξ n9 (d + 8) j_N_index 120 [(0, .ref 16), (1, J z3), (2, J z4), (3, J (k + 1))] [] s8)) ?_
              have tq3 : tpf s8 = tpf σ := ((tpf_of k7 rfl).trans (tpf_of hNx2 rfl).symm).trans tτ
              exact ih  z3 z4 (k + 1) s8 gs8 tq3 (by omega) (by omega) (by omega) (by omega) (by omega) (by omega) (by omega)
            · refine TX.go 3 (fun n9 => (rfl : _ = exx ξ n9 (d + 8) j_N_index 191 [(0, .ref 16), (1, J z3), (2, J z4), (3, J k)] [J k, J z4, .ref 16] s8)) ?_
              have tq4 : tpf s8 = tpf σ := ((tpf_of k7 rfl).trans (tpf_of hNx2 rfl).symm).trans tτ
              refine TX.callv (as := [J z4, J k]) (r := []) rfl rfl rfl rfl rfl k7 rfl (s_N_note (d + 7) z4 k s8 hs8.1   (by omega) (by omega)) (fun v3 s9 hqs9 => ?_)
              obtain ⟨rfl, hs9, pz5_0⟩ := hqs9
              have es9 := hs9
              have hs9 := hs9.sub (w' := WQ) (List.forall_mem_cons.mpr ⟨(by decide), (fun _ h => by cases h)⟩)
              have k12 := es9.b.1 _ _ (nm_c (by decide) nm_0) (fun l z => by cases z) k8
              have k13 := es9.b.1 _ _ (nm_c (by decide) nm_0) (fun l z => by cases z) k9
              have k14 := es9.b.1 _ _ (nm_c (by decide) nm_0) (fun l z => by cases z) k10
              have k15 := es9.b.1 _ _ (nm_c ((by decide : ∀ u ∈ [63, 68], u ≠ 16) _ (mem2 fx2ou)) nm_0) (fun l z => by cases z) k11
              have gs9 := gs8.trans hs9
              have tq5 := (nsx_tpf pz5_0).trans tq4
              exact TX.throw (Nat.ble_eq_true_of_le (by omega)) rfl rfl (QX_r (by decide) gs9 tq5)
          · refine TX.go 8 (fun n9 => (rfl : _ = exx ξ n9 (d + 8) j_N_index 191 [(0, .ref 16), (1, J z3), (2, J 12), (3, J k)] [J k, J 12, .ref 16] τ)) ?_
            refine TX.callv (as := [J 12, J k]) (r := []) rfl rfl rfl rfl rfl hNx2 rfl (s_N_note (d + 7) 12 k τ hτ.1   (by omega) (by omega)) (fun v4 s10 hqs10 => ?_)
            obtain ⟨rfl, hs10, pz6_0⟩ := hqs10
            have es10 := hs10
            have hs10 := hs10.sub (w' := WQ) (List.forall_mem_cons.mpr ⟨(by decide), (fun _ h => by cases h)⟩)
            have k16 := es10.b.1 _ _ (nm_c (by decide) nm_0) (fun l z => by cases z) hmx3
            have k17 := es10.b.1 _ _ (nm_c (by decide) nm_0) (fun l z => by cases z) hix4
            have k18 := es10.b.1 _ _ (nm_c (by decide) nm_0) (fun l z => by cases z) hix5
            have k19 := es10.b.1 _ _ (nm_c ((by decide : ∀ u ∈ [63, 68], u ≠ 16) _ (mem2 fx2ou)) nm_0) (fun l z => by cases z) hax6
            have gs10 := hτ.trans hs10
            have tq6 := (nsx_tpf pz6_0).trans tτ
            exact TX.throw (Nat.ble_eq_true_of_le (by omega)) rfl rfl (QX_r (by decide) gs10 tq6)
  refine TX.go 1 (fun n9 => (rfl : _ = exx ξ n9 (d + 8) j_N_index 1 [(0, .ref 16)] [.ref 16] σ)) ?_
  refine TX.get rfl rfl rfl rfl hNx1 rfl ?_
  refine TX.if_ne rfl rfl rfl (by omega) (fun c5 => ?_) (fun c5 => ?_)
  · refine TX.go 1 (fun n9 => (rfl : _ = exx ξ n9 (d + 8) j_N_index 18 [(0, .ref 16)] [.ref 16] σ)) ?_
    refine TX.get rfl rfl rfl rfl hNx1 rfl ?_
    refine TX.go 1 (fun n9 => (rfl : _ = exx ξ n9 (d + 8) j_N_index 22 [(0, .ref 16)] [.ref 16, .ref oux1] σ)) ?_
    refine TX.get rfl rfl rfl rfl hNx1 rfl ?_
    refine TX.go 2 (fun n9 => (rfl : _ = exx ξ n9 (d + 8) j_N_index 27 [(0, .ref 16)] [.ref 16, J 0, .ref 55, .ref oux1] σ)) ?_
    refine TX.get rfl rfl rfl rfl hNx1 rfl ?_
    obtain ⟨mx7, nx7, bx7, lx7, hrx7, hbx7, fx7a, fx7b, fx7c, fx7d, fx7e, fx7g, fx7h, fx7i⟩ := hK.row (r := 55) (by decide)
    refine TX.get rfl rfl rfl rfl hrx7 rfl ?_
    obtain ⟨ex8, erx8, dix8, bax8, fpx8, hax8, fx8a, fx8b, fx8c, fx8d, fx8e, fx8f, fx8g, fx8h, fx8i, fx8j⟩ := hK.arc (na_tp fx1ou)
    refine TX.callv (as := [.ref 55, J 0, J nx7]) (r := []) rfl rfl rfl rfl (ArL_lt _ (na_tp fx1ou)).2.2.1 hax8 rfl (s_A_lookUp (d + 6) oux1 55 0 nx7 σ hK (na_tp fx1ou) (by decide)  (by omega) (by omega)) (fun v5 s11 hqs11 => ?_)
    obtain ⟨z7, rfl, esz7, hzz7, hyz7⟩ := hqs11
    rw [esz7]
    refine TX.go 3 (fun n9 => (rfl : _ = exx ξ n9 (d + 8) j_N_index 39 [(0, .ref 16), (1, J z7)] [J (-1), J z7] σ)) ?_
    refine TX.icmp_ne rfl rfl rfl (by omega) (by omega) (fun c6 => ?_) (fun c6 => ?_)
    · refine TX.go 2 (fun n9 => (rfl : _ = exx ξ n9 (d + 8) j_N_index 49 [(0, .ref 16), (1, J z7)] [.ref 16, .ref 16] σ)) ?_
      refine TX.get rfl rfl rfl rfl hNx1 rfl ?_
      refine TX.go 2 (fun n9 => (rfl : _ = exx ξ n9 (d + 8) j_N_index 54 [(0, .ref 16), (1, J z7)] [.ref 16, J z7, .ref oux1, .ref 16] σ)) ?_
      refine TX.get rfl rfl rfl rfl hNx1 rfl ?_
      refine TX.callv (as := [.ref oux1, J z7, .ref scx1]) (r := []) rfl rfl rfl rfl rfl hNx1 rfl (s_N_unpackEntry hX0 (d + 2) oux1 z7 scx1 σ hK (na_tp fx1ou) (na_ke fx1sc) ((by decide : ∀ u ∈ [63, 68], ∀ v ∈ [59, 61], u + 1 ≠ v) _ (mem2 fx1ou) _ (mem2 fx1sc)) (by omega)) (fun v6 s12 hqs12 => ?_)
      obtain ⟨z8, rfl, hs12, hzz8, hyz8⟩ := hqs12
      have es12 := hs12
      have hs12 := hs12.sub (w' := WQ) (List.forall_mem_cons.mpr ⟨(by decide), (List.forall_mem_cons.mpr ⟨(by decide), (List.forall_mem_cons.mpr ⟨(by decide), (List.forall_mem_cons.mpr ⟨(by decide), (List.forall_mem_cons.mpr ⟨(by decide), (List.forall_mem_cons.mpr ⟨(by decide), (List.forall_mem_cons.mpr ⟨(by decide), (List.forall_mem_cons.mpr ⟨(by decide), (List.forall_mem_cons.mpr ⟨(by decide), (List.forall_mem_cons.mpr ⟨(by decide), (List.forall_mem_cons.mpr ⟨(by decide), (List.forall_mem_cons.mpr ⟨((by decide : ∀ q ∈ [59, 61], q ∈ WQ) _ (mem2 fx1sc)), (fun _ h => by cases h)⟩)⟩)⟩)⟩)⟩)⟩)⟩)⟩)⟩)⟩)⟩)⟩)
      have k20 := es12.b.1 _ _ (nm_c (by decide) (nm_c (by decide) (nm_c (by decide) (nm_c (by decide) (nm_c (by decide) (nm_c (by decide) (nm_c (by decide) (nm_c (by decide) (nm_c (by decide) (nm_c (by decide) (nm_c (by decide) (nm_c ((by decide : ∀ v ∈ [59, 61], (16 : Nat) ≠ v) _ (mem2 fx1sc)) nm_0)))))))))))) (fun l z => by cases z) hNx1
      have k21 := es12.b.1 _ _ (nm_c (by decide) (nm_c (by decide) (nm_c (by decide) (nm_c (by decide) (nm_c (by decide) (nm_c (by decide) (nm_c (by decide) (nm_c (by decide) (nm_c (by decide) (nm_c (by decide) (nm_c (by decide) (nm_c ((by decide : ∀ v ∈ [59, 61], (55 : Nat) ≠ v) _ (mem2 fx1sc)) nm_0)))))))))))) (fun l z => by cases z) hrx7
      have k22 := es12.b.1 _ _ (nm_c ((by decide : ∀ u ∈ [63, 68], u ≠ 17) _ (mem2 fx1ou)) (nm_c ((by decide : ∀ u ∈ [63, 68], u ≠ 18) _ (mem2 fx1ou)) (nm_c ((by decide : ∀ u ∈ [63, 68], u ≠ 20) _ (mem2 fx1ou)) (nm_c ((by decide : ∀ u ∈ [63, 68], u ≠ 21) _ (mem2 fx1ou)) (nm_c ((by decide : ∀ u ∈ [63, 68], u ≠ 22) _ (mem2 fx1ou)) (nm_c ((by decide : ∀ u ∈ [63, 68], u ≠ 24) _ (mem2 fx1ou)) (nm_c ((by decide : ∀ u ∈ [63, 68], u ≠ 25) _ (mem2 fx1ou)) (nm_c ((by decide : ∀ u ∈ [63, 68], u ≠ 26) _ (mem2 fx1ou)) (nm_c ((by decide : ∀ u ∈ [63, 68], u ≠ 28) _ (mem2 fx1ou)) (nm_c ((by decide : ∀ u ∈ [63, 68], u ≠ 29) _ (mem2 fx1ou)) (nm_c ((by decide : ∀ u ∈ [63, 68], u ≠ 30) _ (mem2 fx1ou)) (nm_c ((by decide : ∀ u ∈ [63, 68], ∀ v ∈ [59, 61], u ≠ v) _ (mem2 fx1ou) _ (mem2 fx1sc)) nm_0)))))))))))) (fun l z => by cases z) hax8
      refine TX.go 2 (fun n9 => (rfl : _ = exx ξ n9 (d + 8) j_N_index 62 [(0, .ref 16), (1, J z7), (2, J z8)] [J z8] s12)) ?_
      refine TX.if_eq rfl rfl rfl (by omega) (fun c7 => ?_) (fun c7 => ?_)
      · refine TX.go 1 (fun n9 => (rfl : _ = exx ξ n9 (d + 8) j_N_index 82 [(0, .ref 16), (1, J z7), (2, J z8)] [.ref 16] s12)) ?_
        refine TX.get rfl rfl rfl rfl k20 rfl ?_
        refine TX.go 1 (fun n9 => (rfl : _ = exx ξ n9 (d + 8) j_N_index 86 [(0, .ref 16), (1, J z7), (2, J z8)] [.ref 16, .ref 48] s12)) ?_
        refine TX.get rfl rfl rfl rfl k20 rfl ?_
        obtain ⟨nx9, hmx9, fx9a, fx9b⟩ := hs12.1.idx
        refine TX.callv (as := [.ref scx1]) (r := []) rfl rfl rfl rfl rfl hmx9 rfl (s_I_learn (d + 5) scx1 s12 hs12.1 (na_ke fx1sc)  ) (fun v7 s13 hqs13 => ?_)
        obtain ⟨z9, rfl, hs13, hzz9, hyz9⟩ := hqs13
        have es13 := hs13
        have hs13 := hs13.sub (w' := WQ) (List.forall_mem_cons.mpr ⟨(by decide), (List.forall_mem_cons.mpr ⟨(by decide), (List.forall_mem_cons.mpr ⟨(by decide), (fun _ h => by cases h)⟩)⟩)⟩)
        have k23 := es13.b.1 _ _ (nm_c (by decide) (nm_c (by decide) (nm_c (by decide) nm_0))) (fun l z => by cases z) k20
        have k24 := es13.b.1 _ _ (nm_c (by decide) (nm_c (by decide) (nm_c (by decide) nm_0))) (fun l z => by cases z) k21
        have k25 := es13.b.1 _ _ (nm_c ((by decide : ∀ u ∈ [63, 68], u ≠ 48) _ (mem2 fx1ou)) (nm_c ((by decide : ∀ u ∈ [63, 68], u ≠ 49) _ (mem2 fx1ou)) (nm_c ((by decide : ∀ u ∈ [63, 68], u ≠ 50) _ (mem2 fx1ou)) nm_0))) (fun l z => by cases z) k22
        have gs13 := hs12.trans hs13
        refine TX.if_ne rfl rfl rfl (by omega) (fun c8 => ?_) (fun c8 => ?_)
        · refine TX.go 2 (fun n9 => (rfl : _ = exx ξ n9 (d + 8) j_N_index 120 [(0, .ref 16), (1, J z7), (2, J z8), (3, J 0)] [] s13)) ?_
          have tq7 : tpf s13 = tpf σ := (tpf_of k23 rfl).trans (tpf_of hNx1 rfl).symm
          exact loop120 _ z7 z8 0 s13 gs13 tq7 (by omega) (by omega) (by omega) (by omega) (by omega) (by omega) (Nat.lt_succ_self _)
        · refine TX.go 3 (fun n9 => (rfl : _ = exx ξ n9 (d + 8) j_N_index 99 [(0, .ref 16), (1, J z7), (2, J z8)] [.ref 16, J 11, .ref 16] s13)) ?_
          refine TX.get rfl rfl rfl rfl k23 rfl ?_
          obtain ⟨nx10, hmx10, fx10a, fx10b⟩ := hs13.1.idx
          refine TX.get rfl rfl rfl rfl hmx10 rfl ?_
          have tq8 : tpf s13 = tpf σ := (tpf_of k23 rfl).trans (tpf_of hNx1 rfl).symm
          refine TX.callv (as := [J 11, J nx10]) (r := []) rfl rfl rfl rfl rfl k23 rfl (s_N_note (d + 7) 11 nx10 s13 hs13.1   (by omega) (by omega)) (fun v8 s14 hqs14 => ?_)
          obtain ⟨rfl, hs14, pz10_0⟩ := hqs14
          have es14 := hs14
          have hs14 := hs14.sub (w' := WQ) (List.forall_mem_cons.mpr ⟨(by decide), (fun _ h => by cases h)⟩)
          have k26 := es14.b.1 _ _ (nm_c (by decide) nm_0) (fun l z => by cases z) k24
          have k27 := es14.b.1 _ _ (nm_c ((by decide : ∀ u ∈ [63, 68], u ≠ 16) _ (mem2 fx1ou)) nm_0) (fun l z => by cases z) k25
          have k28 := es14.b.1 _ _ (nm_c (by decide) nm_0) (fun l z => by cases z) hmx10
          have gs14 := gs13.trans hs14
          have tq9 := (nsx_tpf pz10_0).trans tq8
          exact TX.throw (Nat.ble_eq_true_of_le (by omega)) rfl rfl (QX_r (by decide) gs14 tq9)
      · refine TX.go 3 (fun n9 => (rfl : _ = exx ξ n9 (d + 8) j_N_index 68 [(0, .ref 16), (1, J z7), (2, J z8)] [J z7, J z8, .ref 16] s12)) ?_
        have tq10 : tpf s12 = tpf σ := (tpf_of k20 rfl).trans (tpf_of hNx1 rfl).symm
        refine TX.callv (as := [J z8, J z7]) (r := []) rfl rfl rfl rfl rfl k20 rfl (s_N_note (d + 7) z8 z7 s12 hs12.1   (by omega) (by omega)) (fun v9 s15 hqs15 => ?_)
        obtain ⟨rfl, hs15, pz11_0⟩ := hqs15
        have es15 := hs15
        have hs15 := hs15.sub (w' := WQ) (List.forall_mem_cons.mpr ⟨(by decide), (fun _ h => by cases h)⟩)
        have k29 := es15.b.1 _ _ (nm_c (by decide) nm_0) (fun l z => by cases z) k21
        have k30 := es15.b.1 _ _ (nm_c ((by decide : ∀ u ∈ [63, 68], u ≠ 16) _ (mem2 fx1ou)) nm_0) (fun l z => by cases z) k22
        have gs15 := hs12.trans hs15
        have tq11 := (nsx_tpf pz11_0).trans tq10
        exact TX.throw (Nat.ble_eq_true_of_le (by omega)) rfl rfl (QX_r (by decide) gs15 tq11)
    · refine TX.go 8 (fun n9 => (rfl : _ = exx ξ n9 (d + 8) j_N_index 68 [(0, .ref 16), (1, J z7), (2, J 11)] [J z7, J 11, .ref 16] σ)) ?_
      refine TX.callv (as := [J 11, J z7]) (r := []) rfl rfl rfl rfl rfl hNx1 rfl (s_N_note (d + 7) 11 z7 σ hK   (by omega) (by omega)) (fun v10 s16 hqs16 => ?_)
      obtain ⟨rfl, hs16, pz12_0⟩ := hqs16
      have es16 := hs16
      have hs16 := hs16.sub (w' := WQ) (List.forall_mem_cons.mpr ⟨(by decide), (fun _ h => by cases h)⟩)
      have k31 := es16.b.1 _ _ (nm_c (by decide) nm_0) (fun l z => by cases z) hrx7
      have k32 := es16.b.1 _ _ (nm_c ((by decide : ∀ u ∈ [63, 68], u ≠ 16) _ (mem2 fx1ou)) nm_0) (fun l z => by cases z) hax8
      have tq12 := (nsx_tpf pz12_0).trans rfl
      exact TX.throw (Nat.ble_eq_true_of_le (by omega)) rfl rfl (QX_r (by decide) hs16 tq12)
  · exact TX.throw (Nat.ble_eq_true_of_le (by omega)) rfl rfl (QX_r (by decide) (Fr.refl hK) rfl)

set_option maxRecDepth 10000 in
set_option maxHeartbeats 4000000 in
theorem s_N_feedInt {ξ : Nat → Option (Nat × List Int32)} (d : Nat) (x : Int) (σ : qH) (hK : K σ)  (rx : -2147483648 ≤ x ∧ x ≤ 2147483647) (pre0 : tl σ ≤ 7996) : T ξ (d + 1) j_N_feedInt 0 (lv_args 0 [.ref 16, J x]) [] σ (fun v σ' => v = none ∧ Fr WT σ σ' ∧ tl σ' = tl σ + 4) := by
  obtain ⟨kex1, scx1, tpx1, oux1, mox1, sgx1, hox1, mcx1, lfx1, lpx1, hNx1, fx1ke, fx1sc, fx1tp, fx1ou, fx1mo, fx1sg, fx1d, fx1e, fx1f, fx1g, fx1h, fx1i, fx1j⟩ := hK.na
  obtain ⟨ex2, erx2, dix2, bax2, fpx2, hax2, fx2a, fx2b, fx2c, fx2d, fx2e, fx2f, fx2g, fx2h, fx2i, fx2j⟩ := hK.arc (na_tp fx1tp)
  obtain ⟨mx3, nx3, bx3, lx3, hrx3, hbx3, fx3a, fx3b, fx3c, fx3d, fx3e, fx3g, fx3h, fx3i⟩ := hK.row (kdX_ar _ (na_tp fx1tp)).2.2.1
  have hm := mst_tp fx1tp
  have t0 := tl_at hNx1 rfl
  have t1 := rl_of hrx3 (by omega)
  refine T.go 5 (fun n9 => (rfl : _ = exe ξ n9 (d + 1) j_N_feedInt 8 [(0, .ref 16), (1, J x), (2, J 24)] [.ref 16] σ)) ?_
  refine T.get rfl rfl rfl hNx1 rfl ?_
  refine T.get rfl rfl rfl hax2 rfl ?_
  refine T.go 2 (fun n9 => (rfl : _ = exe ξ n9 (d + 1) j_N_feedInt 16 [(0, .ref 16), (1, J x), (2, J 24)] [J 24, J x, .ref (tpx1 + 1)] σ)) ?_
  refine T.some1 rfl rfl (fun z1 hzz1 hyz1 _ => ?_)
  refine T.go 1 (fun n9 => (rfl : _ = exe ξ n9 (d + 1) j_N_feedInt 20 [(0, .ref 16), (1, J x), (2, J 24)] [J 255, J z1, .ref (tpx1 + 1)] σ)) ?_
  refine T.iandm (p := 256) 8 rfl (by decide) (by decide) (by decide) (by omega) ?_
  refine T.callv (as := [J (z1 % 256)]) (r := []) rfl rfl rfl (RwL_lt _ (kdX_ar _ (na_tp fx1tp)).2.2.1).2.2.1 hrx3 rfl (s_R_add d (tpx1 + 1) (z1 % 256) σ hK (kdX_ar _ (na_tp fx1tp)).2.2.1  (by omega)) (fun v1 s1 hqs1 => ?_)
  obtain ⟨z3, rfl, hs1, hzz3, hyz3, pz3_0, pz3_1⟩ := hqs1
  have es1 := hs1
  have hs1 := hs1.sub (w' := WT) (List.forall_mem_cons.mpr ⟨((by decide : ∀ q ∈ [63, 68], q + 1 ∈ WT) _ (mem2 fx1tp)), (fun _ h => by cases h)⟩)
  have k1 := es1.b.1 _ _ (nm_c ((by decide : ∀ v ∈ [63, 68], (16 : Nat) ≠ v + 1) _ (mem2 fx1tp)) nm_0) (fun l z => by cases z) hNx1
  have k2 := es1.b.1 _ _ (nm_c (by omega) nm_0) (fun l z => by cases z) hax2
  refine T.go 1 (fun n9 => (rfl : _ = exe ξ n9 (d + 1) j_N_feedInt 25 [(0, .ref 16), (1, J x), (2, J 24)] [] s1)) ?_
  refine T.iinc (lv' := [(0, .ref 16), (1, J x), (2, J 16)]) rfl rfl rfl rfl ?_
  refine T.go 4 (fun n9 => (rfl : _ = exe ξ n9 (d + 1) j_N_feedInt 8 [(0, .ref 16), (1, J x), (2, J 16)] [.ref 16] s1)) ?_
  refine T.get rfl rfl rfl k1 rfl ?_
  refine T.get rfl rfl rfl k2 rfl ?_
  refine T.go 2 (fun n9 => (rfl : _ = exe ξ n9 (d + 1) j_N_feedInt 16 [(0, .ref 16), (1, J x), (2, J 16)] [J 16, J x, .ref (tpx1 + 1)] s1)) ?_
  refine T.some1 rfl rfl (fun z4 hzz4 hyz4 _ => ?_)
  refine T.go 1 (fun n9 => (rfl : _ = exe ξ n9 (d + 1) j_N_feedInt 20 [(0, .ref 16), (1, J x), (2, J 16)] [J 255, J z4, .ref (tpx1 + 1)] s1)) ?_
  refine T.iandm (p := 256) 8 rfl (by decide) (by decide) (by decide) (by omega) ?_
  obtain ⟨mx4, nx4, bx4, lx4, hrx4, hbx4, fx4a, fx4b, fx4c, fx4d, fx4e, fx4g, fx4h, fx4i⟩ := hs1.1.row (kdX_ar _ (na_tp fx1tp)).2.2.1
  refine T.callv (as := [J (z4 % 256)]) (r := []) rfl rfl rfl (RwL_lt _ (kdX_ar _ (na_tp fx1tp)).2.2.1).2.2.1 hrx4 rfl (s_R_add d (tpx1 + 1) (z4 % 256) s1 hs1.1 (kdX_ar _ (na_tp fx1tp)).2.2.1  (by omega)) (fun v2 s2 hqs2 => ?_)
  obtain ⟨z6, rfl, hs2, hzz6, hyz6, pz6_0, pz6_1⟩ := hqs2
  have es2 := hs2
  have hs2 := hs2.sub (w' := WT) (List.forall_mem_cons.mpr ⟨((by decide : ∀ q ∈ [63, 68], q + 1 ∈ WT) _ (mem2 fx1tp)), (fun _ h => by cases h)⟩)
  have k3 := es2.b.1 _ _ (nm_c ((by decide : ∀ v ∈ [63, 68], (16 : Nat) ≠ v + 1) _ (mem2 fx1tp)) nm_0) (fun l z => by cases z) k1
  have k4 := es2.b.1 _ _ (nm_c (by omega) nm_0) (fun l z => by cases z) k2
  have gs2 := hs1.trans hs2
  refine T.go 1 (fun n9 => (rfl : _ = exe ξ n9 (d + 1) j_N_feedInt 25 [(0, .ref 16), (1, J x), (2, J 16)] [] s2)) ?_
  refine T.iinc (lv' := [(0, .ref 16), (1, J x), (2, J 8)]) rfl rfl rfl rfl ?_
  refine T.go 4 (fun n9 => (rfl : _ = exe ξ n9 (d + 1) j_N_feedInt 8 [(0, .ref 16), (1, J x), (2, J 8)] [.ref 16] s2)) ?_
  refine T.get rfl rfl rfl k3 rfl ?_
  refine T.get rfl rfl rfl k4 rfl ?_
  refine T.go 2 (fun n9 => (rfl : _ = exe ξ n9 (d + 1) j_N_feedInt 16 [(0, .ref 16), (1, J x), (2, J 8)] [J 8, J x, .ref (tpx1 + 1)] s2)) ?_
  refine T.some1 rfl rfl (fun z7 hzz7 hyz7 _ => ?_)
  refine T.go 1 (fun n9 => (rfl : _ = exe ξ n9 (d + 1) j_N_feedInt 20 [(0, .ref 16), (1, J x), (2, J 8)] [J 255, J z7, .ref (tpx1 + 1)] s2)) ?_
  refine T.iandm (p := 256) 8 rfl (by decide) (by decide) (by decide) (by omega) ?_
  obtain ⟨mx5, nx5, bx5, lx5, hrx5, hbx5, fx5a, fx5b, fx5c, fx5d, fx5e, fx5g, fx5h, fx5i⟩ := hs2.1.row (kdX_ar _ (na_tp fx1tp)).2.2.1
  refine T.callv (as := [J (z7 % 256)]) (r := []) rfl rfl rfl (RwL_lt _ (kdX_ar _ (na_tp fx1tp)).2.2.1).2.2.1 hrx5 rfl (s_R_add d (tpx1 + 1) (z7 % 256) s2 hs2.1 (kdX_ar _ (na_tp fx1tp)).2.2.1  (by omega)) (fun v3 s3 hqs3 => ?_)
  obtain ⟨z9, rfl, hs3, hzz9, hyz9, pz9_0, pz9_1⟩ := hqs3
  have es3 := hs3
  have hs3 := hs3.sub (w' := WT) (List.forall_mem_cons.mpr ⟨((by decide : ∀ q ∈ [63, 68], q + 1 ∈ WT) _ (mem2 fx1tp)), (fun _ h => by cases h)⟩)
  have k5 := es3.b.1 _ _ (nm_c ((by decide : ∀ v ∈ [63, 68], (16 : Nat) ≠ v + 1) _ (mem2 fx1tp)) nm_0) (fun l z => by cases z) k3
  have k6 := es3.b.1 _ _ (nm_c (by omega) nm_0) (fun l z => by cases z) k4
  have gs3 := gs2.trans hs3
  refine T.go 1 (fun n9 => (rfl : _ = exe ξ n9 (d + 1) j_N_feedInt 25 [(0, .ref 16), (1, J x), (2, J 8)] [] s3)) ?_
  refine T.iinc (lv' := [(0, .ref 16), (1, J x), (2, J 0)]) rfl rfl rfl rfl ?_
  refine T.go 4 (fun n9 => (rfl : _ = exe ξ n9 (d + 1) j_N_feedInt 8 [(0, .ref 16), (1, J x), (2, J 0)] [.ref 16] s3)) ?_
  refine T.get rfl rfl rfl k5 rfl ?_
  refine T.get rfl rfl rfl k6 rfl ?_
  refine T.go 2 (fun n9 => (rfl : _ = exe ξ n9 (d + 1) j_N_feedInt 16 [(0, .ref 16), (1, J x), (2, J 0)] [J 0, J x, .ref (tpx1 + 1)] s3)) ?_
  refine T.some1 rfl rfl (fun z10 hzz10 hyz10 _ => ?_)
  refine T.go 1 (fun n9 => (rfl : _ = exe ξ n9 (d + 1) j_N_feedInt 20 [(0, .ref 16), (1, J x), (2, J 0)] [J 255, J z10, .ref (tpx1 + 1)] s3)) ?_
  refine T.iandm (p := 256) 8 rfl (by decide) (by decide) (by decide) (by omega) ?_
  obtain ⟨mx6, nx6, bx6, lx6, hrx6, hbx6, fx6a, fx6b, fx6c, fx6d, fx6e, fx6g, fx6h, fx6i⟩ := hs3.1.row (kdX_ar _ (na_tp fx1tp)).2.2.1
  refine T.callv (as := [J (z10 % 256)]) (r := []) rfl rfl rfl (RwL_lt _ (kdX_ar _ (na_tp fx1tp)).2.2.1).2.2.1 hrx6 rfl (s_R_add d (tpx1 + 1) (z10 % 256) s3 hs3.1 (kdX_ar _ (na_tp fx1tp)).2.2.1  (by omega)) (fun v4 s4 hqs4 => ?_)
  obtain ⟨z12, rfl, hs4, hzz12, hyz12, pz12_0, pz12_1⟩ := hqs4
  have es4 := hs4
  have hs4 := hs4.sub (w' := WT) (List.forall_mem_cons.mpr ⟨((by decide : ∀ q ∈ [63, 68], q + 1 ∈ WT) _ (mem2 fx1tp)), (fun _ h => by cases h)⟩)
  have k7 := es4.b.1 _ _ (nm_c ((by decide : ∀ v ∈ [63, 68], (16 : Nat) ≠ v + 1) _ (mem2 fx1tp)) nm_0) (fun l z => by cases z) k5
  have k8 := es4.b.1 _ _ (nm_c (by omega) nm_0) (fun l z => by cases z) k6
  have gs4 := gs3.trans hs4
  refine T.go 1 (fun n9 => (rfl : _ = exe ξ n9 (d + 1) j_N_feedInt 25 [(0, .ref 16), (1, J x), (2, J 0)] [] s4)) ?_
  refine T.iinc (lv' := [(0, .ref 16), (1, J x), (2, J (-8))]) rfl rfl rfl rfl ?_
  refine T.go 3 (fun n9 => (rfl : _ = exe ξ n9 (d + 1) j_N_feedInt 31 [(0, .ref 16), (1, J x), (2, J (-8))] [] s4)) ?_
  have t9 := tl_at k7 rfl
  exact T.vret rfl rfl ⟨rfl, gs4, by omega⟩

set_option maxRecDepth 10000 in
set_option maxHeartbeats 4000000 in
theorem s_N_feed {ξ : Nat → Option (Nat × List Int32)} (d : Nat) (x : Int) (y : Int) (u : Int) (v9 : Int) (w9 : Int) (σ : qH) (hK : K σ)  (rx : -2147483648 ≤ x ∧ x ≤ 2147483647) (ry : -2147483648 ≤ y ∧ y ≤ 2147483647) (ru : -2147483648 ≤ u ∧ u ≤ 2147483647) (rv9 : -2147483648 ≤ v9 ∧ v9 ≤ 2147483647) (rw9 : -2147483648 ≤ w9 ∧ w9 ≤ 2147483647) : T ξ (d + 8) j_N_feed 0 (lv_args 0 [.ref 16, J x, J y, J u, J v9, J w9]) [] σ (fun v σ' => ∃ z : Int, v = some (J z) ∧ Fr WT σ σ' ∧ 0 ≤ z ∧ z ≤ 1 ∧ (tl σ ≤ 7980 → z = 1 ∧ tl σ' = tl σ + 20) ∧ (7980 < tl σ → z = 0 ∧ tl σ' = tl σ)) := by
  obtain ⟨kex1, scx1, tpx1, oux1, mox1, sgx1, hox1, mcx1, lfx1, lpx1, hNx1, fx1ke, fx1sc, fx1tp, fx1ou, fx1mo, fx1sg, fx1d, fx1e, fx1f, fx1g, fx1h, fx1i, fx1j⟩ := hK.na
  obtain ⟨ex2, erx2, dix2, bax2, fpx2, hax2, fx2a, fx2b, fx2c, fx2d, fx2e, fx2f, fx2g, fx2h, fx2i, fx2j⟩ := hK.arc (na_tp fx1tp)
  obtain ⟨mx3, nx3, bx3, lx3, hrx3, hbx3, fx3a, fx3b, fx3c, fx3d, fx3e, fx3g, fx3h, fx3i⟩ := hK.row (kdX_ar _ (na_tp fx1tp)).2.2.1
  have hm := mst_tp fx1tp
  have t0 := tl_at hNx1 rfl
  have t1 := rl_of hrx3 (by omega)
  refine T.go 1 (fun n9 => (rfl : _ = exe ξ n9 (d + 8) j_N_feed 1 [(0, .ref 16), (1, J x), (2, J y), (3, J u), (4, J v9), (5, J w9)] [.ref 16] σ)) ?_
  refine T.get rfl rfl rfl hNx1 rfl ?_
  refine T.get rfl rfl rfl hax2 rfl ?_
  refine T.get rfl rfl rfl hrx3 rfl ?_
  refine T.go 1 (fun n9 => (rfl : _ = exe ξ n9 (d + 8) j_N_feed 13 [(0, .ref 16), (1, J x), (2, J y), (3, J u), (4, J v9), (5, J w9)] [J 7980, J nx3] σ)) ?_
  refine T.icmp_le rfl rfl (by omega) (by omega) (fun c1 => ?_) (fun c1 => ?_)
  · refine T.go 2 (fun n9 => (rfl : _ = exe ξ n9 (d + 8) j_N_feed 20 [(0, .ref 16), (1, J x), (2, J y), (3, J u), (4, J v9), (5, J w9)] [J x, .ref 16] σ)) ?_
    refine T.callv (as := [J x]) (r := []) rfl rfl rfl rfl hNx1 rfl (s_N_feedInt (d + 6) x σ hK   (by omega) (by omega)) (fun v1 s1 hqs1 => ?_)
    obtain ⟨rfl, hs1, pz1_0⟩ := hqs1
    have es1 := hs1
    refine T.go 2 (fun n9 => (rfl : _ = exe ξ n9 (d + 8) j_N_feed 25 [(0, .ref 16), (1, J x), (2, J y), (3, J u), (4, J v9), (5, J w9)] [J y, .ref 16] s1)) ?_
    obtain ⟨kex4, scx4, tpx4, oux4, mox4, sgx4, hox4, mcx4, lfx4, lpx4, hNx4, fx4ke, fx4sc, fx4tp, fx4ou, fx4mo, fx4sg, fx4d, fx4e, fx4f, fx4g, fx4h, fx4i, fx4j⟩ := hs1.1.na
    refine T.callv (as := [J y]) (r := []) rfl rfl rfl rfl hNx4 rfl (s_N_feedInt (d + 6) y s1 hs1.1   (by omega) (by omega)) (fun v2 s2 hqs2 => ?_)
    obtain ⟨rfl, hs2, pz2_0⟩ := hqs2
    have es2 := hs2
    have gs2 := hs1.trans hs2
    refine T.go 2 (fun n9 => (rfl : _ = exe ξ n9 (d + 8) j_N_feed 30 [(0, .ref 16), (1, J x), (2, J y), (3, J u), (4, J v9), (5, J w9)] [J u, .ref 16] s2)) ?_
    obtain ⟨kex5, scx5, tpx5, oux5, mox5, sgx5, hox5, mcx5, lfx5, lpx5, hNx5, fx5ke, fx5sc, fx5tp, fx5ou, fx5mo, fx5sg, fx5d, fx5e, fx5f, fx5g, fx5h, fx5i, fx5j⟩ := hs2.1.na
    refine T.callv (as := [J u]) (r := []) rfl rfl rfl rfl hNx5 rfl (s_N_feedInt (d + 6) u s2 hs2.1   (by omega) (by omega)) (fun v3 s3 hqs3 => ?_)
    obtain ⟨rfl, hs3, pz3_0⟩ := hqs3
    have es3 := hs3
    have gs3 := gs2.trans hs3
    refine T.go 2 (fun n9 => (rfl : _ = exe ξ n9 (d + 8) j_N_feed 36 [(0, .ref 16), (1, J x), (2, J y), (3, J u), (4, J v9), (5, J w9)] [J v9, .ref 16] s3)) ?_
    obtain ⟨kex6, scx6, tpx6, oux6, mox6, sgx6, hox6, mcx6, lfx6, lpx6, hNx6, fx6ke, fx6sc, fx6tp, fx6ou, fx6mo, fx6sg, fx6d, fx6e, fx6f, fx6g, fx6h, fx6i, fx6j⟩ := hs3.1.na
    refine T.callv (as := [J v9]) (r := []) rfl rfl rfl rfl hNx6 rfl (s_N_feedInt (d + 6) v9 s3 hs3.1   (by omega) (by omega)) (fun v4 s4 hqs4 => ?_)
    obtain ⟨rfl, hs4, pz4_0⟩ := hqs4
    have es4 := hs4
    have gs4 := gs3.trans hs4
    refine T.go 2 (fun n9 => (rfl : _ = exe ξ n9 (d + 8) j_N_feed 42 [(0, .ref 16), (1, J x), (2, J y), (3, J u), (4, J v9), (5, J w9)] [J w9, .ref 16] s4)) ?_
    obtain ⟨kex7, scx7, tpx7, oux7, mox7, sgx7, hox7, mcx7, lfx7, lpx7, hNx7, fx7ke, fx7sc, fx7tp, fx7ou, fx7mo, fx7sg, fx7d, fx7e, fx7f, fx7g, fx7h, fx7i, fx7j⟩ := hs4.1.na
    refine T.callv (as := [J w9]) (r := []) rfl rfl rfl rfl hNx7 rfl (s_N_feedInt (d + 6) w9 s4 hs4.1   (by omega) (by omega)) (fun v5 s5 hqs5 => ?_)
    obtain ⟨rfl, hs5, pz5_0⟩ := hqs5
    have es5 := hs5
    have gs5 := gs4.trans hs5
    refine T.go 1 (fun n9 => (rfl : _ = exe ξ n9 (d + 8) j_N_feed 46 [(0, .ref 16), (1, J x), (2, J y), (3, J u), (4, J v9), (5, J w9)] [J 1] s5)) ?_
    exact T.iretz rfl rfl (by omega) ⟨_, rfl, gs5, by omega, by omega, by omega, by omega⟩
  · refine T.go 1 (fun n9 => (rfl : _ = exe ξ n9 (d + 8) j_N_feed 17 [(0, .ref 16), (1, J x), (2, J y), (3, J u), (4, J v9), (5, J w9)] [J 0] σ)) ?_
    exact T.iretz rfl rfl (by omega) ⟨_, rfl, (Fr.refl hK), by omega, by omega, by omega, by omega⟩

set_option maxRecDepth 10000 in
set_option maxHeartbeats 4000000 in
theorem s_N_end {ξ : Nat → Option (Nat × List Int32)} (d : Nat) (x : Int) (σ : qH) (hK : K σ)  (rx : -2147483648 ≤ x ∧ x ≤ 2147483647) : T ξ (d + 8) j_N_end 0 (lv_args 0 [.ref 16, J x]) [] σ (fun v σ' => ∃ z : Int, v = some (J z) ∧ Fr WT σ σ' ∧ 0 ≤ z ∧ z ≤ 1 ∧ (0 ≤ x ∧ x ≤ tl σ → z = 1 ∧ tl σ' = x) ∧ (¬ (0 ≤ x ∧ x ≤ tl σ) → z = 0 ∧ tl σ' = tl σ)) := by
  obtain ⟨kex1, scx1, tpx1, oux1, mox1, sgx1, hox1, mcx1, lfx1, lpx1, hNx1, fx1ke, fx1sc, fx1tp, fx1ou, fx1mo, fx1sg, fx1d, fx1e, fx1f, fx1g, fx1h, fx1i, fx1j⟩ := hK.na
  obtain ⟨ex2, erx2, dix2, bax2, fpx2, hax2, fx2a, fx2b, fx2c, fx2d, fx2e, fx2f, fx2g, fx2h, fx2i, fx2j⟩ := hK.arc (na_tp fx1tp)
  obtain ⟨mx3, nx3, bx3, lx3, hrx3, hbx3, fx3a, fx3b, fx3c, fx3d, fx3e, fx3g, fx3h, fx3i⟩ := hK.row (kdX_ar _ (na_tp fx1tp)).2.2.1
  have hm := mst_tp fx1tp
  have t0 := tl_at hNx1 rfl
  have t1 := rl_of hrx3 (by omega)
  refine T.go 1 (fun n9 => (rfl : _ = exe ξ n9 (d + 8) j_N_end 1 [(0, .ref 16), (1, J x)] [J x] σ)) ?_
  refine T.if_lt rfl rfl (by omega) (fun c1 => ?_) (fun c1 => ?_)
  · refine T.go 1 (fun n9 => (rfl : _ = exe ξ n9 (d + 8) j_N_end 19 [(0, .ref 16), (1, J x)] [J 0] σ)) ?_
    have t8 := tl_at hNx1 rfl
    have t9 := rl_of hrx3 (by omega)
    exact T.iretz rfl rfl (by omega) ⟨_, rfl, (Fr.refl hK), by omega, by omega, by omega, by omega⟩
  · refine T.go 2 (fun n9 => (rfl : _ = exe ξ n9 (d + 8) j_N_end 6 [(0, .ref 16), (1, J x)] [.ref 16, J x] σ)) ?_
    refine T.get rfl rfl rfl hNx1 rfl ?_
    refine T.get rfl rfl rfl hax2 rfl ?_
    refine T.get rfl rfl rfl hrx3 rfl ?_
    refine T.icmp_le rfl rfl (by omega) (by omega) (fun c2 => ?_) (fun c2 => ?_)
    · refine T.go 1 (fun n9 => (rfl : _ = exe ξ n9 (d + 8) j_N_end 21 [(0, .ref 16), (1, J x)] [.ref 16] σ)) ?_
      refine T.get rfl rfl rfl hNx1 rfl ?_
      refine T.get rfl rfl rfl hax2 rfl ?_
      refine T.go 1 (fun n9 => (rfl : _ = exe ξ n9 (d + 8) j_N_end 28 [(0, .ref 16), (1, J x)] [J x, .ref (tpx1 + 1)] σ)) ?_
      refine T.putF (w := WT) rfl rfl hrx3 rfl rfl rfl (fs' := [J mx3, .ref bx3, J x]) rfl (Fr.len hK (kdX_ar _ (na_tp fx1tp)).2.2.1 hrx3 hbx3 (by omega) ((by decide : ∀ q ∈ [63, 68], q + 1 ∈ WT) _ (mem2 fx1tp))) (fun s1 hs1 hcs1 hos1 => ?_)
      have k1 := hos1 ((by decide : ∀ v ∈ [63, 68], (16 : Nat) ≠ v + 1) _ (mem2 fx1tp)) hNx1
      have k2 := hos1 (by omega) hax2
      have k3 := hos1 (q_dif hbx3 hrx3 (fun z => by cases z)) hbx3
      refine T.go 1 (fun n9 => (rfl : _ = exe ξ n9 (d + 8) j_N_end 32 [(0, .ref 16), (1, J x)] [J 1] s1)) ?_
      have t8 := tl_at k1 rfl
      have t9 := rl_of hcs1 (by omega)
      exact T.iretz rfl rfl (by omega) ⟨_, rfl, hs1, by omega, by omega, by omega, by omega⟩
    · refine T.go 1 (fun n9 => (rfl : _ = exe ξ n9 (d + 8) j_N_end 19 [(0, .ref 16), (1, J x)] [J 0] σ)) ?_
      have t8 := tl_at hNx1 rfl
      have t9 := rl_of hrx3 (by omega)
      exact T.iretz rfl rfl (by omega) ⟨_, rfl, (Fr.refl hK), by omega, by omega, by omega, by omega⟩

set_option maxRecDepth 10000 in
set_option maxHeartbeats 4000000 in
theorem s_N_open {ξ : Nat → Option (Nat × List Int32)} (d : Nat)  (σ : qH) (hK : K σ)   : TX ξ (d + 8) j_N_open 0 (lv_args 0 [.ref 16]) [] σ (QX WT [0] σ (fun s => tl s = 0) (fun v σ' => ∃ z : Int, v = some (J z) ∧ Fr WT σ σ' ∧ -2147483648 ≤ z ∧ z ≤ 2147483647 ∧ tl σ' = 0)) := by
  refine TX.go 1 (fun n9 => (rfl : _ = exx ξ n9 (d + 8) j_N_open 1 [(0, .ref 16)] [.ref 16] σ)) ?_
  obtain ⟨kex1, scx1, tpx1, oux1, mox1, sgx1, hox1, mcx1, lfx1, lpx1, hNx1, fx1ke, fx1sc, fx1tp, fx1ou, fx1mo, fx1sg, fx1d, fx1e, fx1f, fx1g, fx1h, fx1i, fx1j⟩ := hK.na
  refine TX.get rfl rfl rfl rfl hNx1 rfl ?_
  obtain ⟨ex2, erx2, dix2, bax2, fpx2, hax2, fx2a, fx2b, fx2c, fx2d, fx2e, fx2f, fx2g, fx2h, fx2i, fx2j⟩ := hK.arc (na_tp fx1tp)
  refine TX.callv (as := []) (r := []) rfl rfl rfl rfl (ArL_lt _ (na_tp fx1tp)).2.2.1 hax2 rfl (s_A_survey (d + 3) tpx1 σ hK (na_tp fx1tp)  ) (fun v1 s1 hqs1 => ?_)
  obtain ⟨z1, rfl, hs1, hzz1, hyz1⟩ := hqs1
  have es1 := hs1
  have hs1 := hs1.sub (w' := WT) (List.forall_mem_cons.mpr ⟨((by decide : ∀ q ∈ [63, 68], q ∈ WT) _ (mem2 fx1tp)), (List.forall_mem_cons.mpr ⟨((by decide : ∀ q ∈ [63, 68], q + 3 ∈ WT) _ (mem2 fx1tp)), (List.forall_mem_cons.mpr ⟨((by decide : ∀ q ∈ [63, 68], q + 4 ∈ WT) _ (mem2 fx1tp)), (fun _ h => by cases h)⟩)⟩)⟩)
  have k1 := es1.b.1 _ _ (nm_c ((by decide : ∀ v ∈ [63, 68], (16 : Nat) ≠ v) _ (mem2 fx1tp)) (nm_c ((by decide : ∀ v ∈ [63, 68], (16 : Nat) ≠ v + 3) _ (mem2 fx1tp)) (nm_c ((by decide : ∀ v ∈ [63, 68], (16 : Nat) ≠ v + 4) _ (mem2 fx1tp)) nm_0))) (fun l z => by cases z) hNx1
  refine TX.go 2 (fun n9 => (rfl : _ = exx ξ n9 (d + 8) j_N_open 9 [(0, .ref 16), (1, J z1)] [J z1] s1)) ?_
  refine TX.if_eq rfl rfl rfl (by omega) (fun c1 => ?_) (fun c1 => ?_)
  · refine TX.go 1 (fun n9 => (rfl : _ = exx ξ n9 (d + 8) j_N_open 45 [(0, .ref 16), (1, J z1)] [.ref 16] s1)) ?_
    refine TX.get rfl rfl rfl rfl k1 rfl ?_
    refine TX.go 3 (fun n9 => (rfl : _ = exx ξ n9 (d + 8) j_N_open 51 [(0, .ref 16), (1, J z1), (2, .ref tpx1)] [.ref 16, .ref 16] s1)) ?_
    refine TX.get rfl rfl rfl rfl k1 rfl ?_
    refine TX.putF (w := WT) rfl rfl rfl k1 rfl rfl rfl (fs' := [.ref 17, .ref 41, .ref 48, .ref 51, .ref 53, .ref 55, .ref 57, .ref kex1, .ref scx1, .ref oux1, .ref oux1, J hox1, .ref mox1, .ref sgx1, J mcx1, J lfx1, J lpx1]) rfl (Fr.other hs1.1 k1 rfl (show okN _ from ⟨_, _, _, _, _, _, _, _, _, _, rfl, by omega⟩) (by decide) (Or.inl (by decide)) (fun _ z => by cases z) (by decide)) (fun s2 hs2 hcs2 hos2 => ?_)
    have gs2 := hs1.trans hs2
    refine TX.go 1 (fun n9 => (rfl : _ = exx ξ n9 (d + 8) j_N_open 58 [(0, .ref 16), (1, J z1), (2, .ref tpx1)] [.ref 16] s2)) ?_
    refine TX.get rfl rfl rfl rfl hcs2 rfl ?_
    obtain ⟨ex3, erx3, dix3, bax3, fpx3, hax3, fx3a, fx3b, fx3c, fx3d, fx3e, fx3f, fx3g, fx3h, fx3i, fx3j⟩ := hs2.1.arc (na_tp fx1ou)
    refine TX.get rfl rfl rfl rfl hax3 rfl ?_
    obtain ⟨mx4, nx4, bx4, lx4, hrx4, hbx4, fx4a, fx4b, fx4c, fx4d, fx4e, fx4g, fx4h, fx4i⟩ := hs2.1.row (kdX_ar _ (na_tp fx1ou)).2.2.1
    refine TX.callv (as := []) (r := []) rfl rfl rfl rfl (RwL_lt _ (kdX_ar _ (na_tp fx1ou)).2.2.1).2.2.1 hrx4 rfl (s_R_clear (d + 7) (oux1 + 1) s2 hs2.1 (kdX_ar _ (na_tp fx1ou)).2.2.1  ) (fun v2 s3 hqs3 => ?_)
    obtain ⟨rfl, hs3, pz2_0, pz2_1⟩ := hqs3
    have es3 := hs3
    have hs3 := hs3.sub (w' := WT) (List.forall_mem_cons.mpr ⟨((by decide : ∀ q ∈ [63, 68], q + 1 ∈ WT) _ (mem2 fx1ou)), (fun _ h => by cases h)⟩)
    have k2 := es3.b.1 _ _ (nm_c ((by decide : ∀ v ∈ [63, 68], (16 : Nat) ≠ v + 1) _ (mem2 fx1ou)) nm_0) (fun l z => by cases z) hcs2
    have k3 := es3.b.1 _ _ (nm_c (by omega) nm_0) (fun l z => by cases z) hax3
    have gs3 := gs2.trans hs3
    obtain ⟨mx5, nx5, bx5, lx5, hrx5, hbx5, fx5a, fx5b, fx5c, fx5d, fx5e, fx5g, fx5h, fx5i⟩ := hs3.1.row (kdX_ar _ (na_tp fx1ou)).2.2.1
    have cz2 := rl_of hrx5 (by omega)
    refine TX.go 2 (fun n9 => (rfl : _ = exx ξ n9 (d + 8) j_N_open 69 [(0, .ref 16), (1, J z1), (2, .ref tpx1)] [.ref tpx1, .ref 16] s3)) ?_
    refine TX.putF (w := WT) rfl rfl rfl k2 rfl rfl rfl (fs' := [.ref 17, .ref 41, .ref 48, .ref 51, .ref 53, .ref 55, .ref 57, .ref kex1, .ref scx1, .ref oux1, .ref tpx1, J hox1, .ref mox1, .ref sgx1, J mcx1, J lfx1, J lpx1]) rfl (Fr.other hs3.1 k2 rfl (show okN _ from ⟨_, _, _, _, _, _, _, _, _, _, rfl, by omega⟩) (by decide) (Or.inl (by decide)) (fun _ z => by cases z) (by decide)) (fun s4 hs4 hcs4 hos4 => ?_)
    have gs4 := gs3.trans hs4
    have k4 := hos4 ((by decide : ∀ u ∈ [63, 68], u ≠ 16) _ (mem2 fx1ou)) k3
    have k5 := hos4 ((by decide : ∀ u ∈ [63, 68], u + 1 ≠ 16) _ (mem2 fx1ou)) hrx5
    have k6 := hos4 (q_dif hbx5 k2 (fun z => by cases z)) hbx5
    refine TX.go 2 (fun n9 => (rfl : _ = exx ξ n9 (d + 8) j_N_open 74 [(0, .ref 16), (1, J z1), (2, .ref tpx1)] [J 1, .ref 16] s4)) ?_
    refine TX.putF (w := WT) rfl rfl rfl hcs4 rfl rfl rfl (fs' := [.ref 17, .ref 41, .ref 48, .ref 51, .ref 53, .ref 55, .ref 57, .ref kex1, .ref scx1, .ref oux1, .ref tpx1, J 1, .ref mox1, .ref sgx1, J mcx1, J lfx1, J lpx1]) rfl (Fr.other hs4.1 hcs4 rfl (show okN _ from ⟨_, _, _, _, _, _, _, _, _, _, rfl, by omega⟩) (by decide) (Or.inl (by decide)) (fun _ z => by cases z) (by decide)) (fun s5 hs5 hcs5 hos5 => ?_)
    have gs5 := gs4.trans hs5
    have k7 := hos5 ((by decide : ∀ u ∈ [63, 68], u ≠ 16) _ (mem2 fx1ou)) k4
    have k8 := hos5 ((by decide : ∀ u ∈ [63, 68], u + 1 ≠ 16) _ (mem2 fx1ou)) k5
    have k9 := hos5 (q_dif k6 hcs4 (fun z => by cases z)) k6
    refine TX.go 2 (fun n9 => (rfl : _ = exx ξ n9 (d + 8) j_N_open 79 [(0, .ref 16), (1, J z1), (2, .ref tpx1)] [J 0, .ref 16] s5)) ?_
    refine TX.putF (w := WT) rfl rfl rfl hcs5 rfl rfl rfl (fs' := [.ref 17, .ref 41, .ref 48, .ref 51, .ref 53, .ref 55, .ref 57, .ref kex1, .ref scx1, .ref oux1, .ref tpx1, J 1, .ref mox1, .ref sgx1, J 0, J lfx1, J lpx1]) rfl (Fr.other hs5.1 hcs5 rfl (show okN _ from ⟨_, _, _, _, _, _, _, _, _, _, rfl, by omega⟩) (by decide) (Or.inl (by decide)) (fun _ z => by cases z) (by decide)) (fun s6 hs6 hcs6 hos6 => ?_)
    have gs6 := gs5.trans hs6
    have k10 := hos6 ((by decide : ∀ u ∈ [63, 68], u ≠ 16) _ (mem2 fx1ou)) k7
    have k11 := hos6 ((by decide : ∀ u ∈ [63, 68], u + 1 ≠ 16) _ (mem2 fx1ou)) k8
    have k12 := hos6 (q_dif k9 hcs5 (fun z => by cases z)) k9
    refine TX.go 1 (fun n9 => (rfl : _ = exx ξ n9 (d + 8) j_N_open 83 [(0, .ref 16), (1, J z1), (2, .ref tpx1)] [.ref 16] s6)) ?_
    refine TX.get rfl rfl rfl rfl hcs6 rfl ?_
    obtain ⟨mx6, nx6, bx6, lx6, hrx6, hbx6, fx6a, fx6b, fx6c, fx6d, fx6e, fx6g, fx6h, fx6i⟩ := hs6.1.row (na_ke fx1ke)
    refine TX.callv (as := []) (r := []) rfl rfl rfl rfl (RwL_lt _ (na_ke fx1ke)).2.2.1 hrx6 rfl (s_R_clear (d + 7) kex1 s6 hs6.1 (na_ke fx1ke)  ) (fun v3 s7 hqs7 => ?_)
    obtain ⟨rfl, hs7, pz3_0, pz3_1⟩ := hqs7
    have es7 := hs7
    have hs7 := hs7.sub (w' := WT) (List.forall_mem_cons.mpr ⟨((by decide : ∀ q ∈ [59, 61], q ∈ WT) _ (mem2 fx1ke)), (fun _ h => by cases h)⟩)
    have k13 := es7.b.1 _ _ (nm_c ((by decide : ∀ v ∈ [59, 61], (16 : Nat) ≠ v) _ (mem2 fx1ke)) nm_0) (fun l z => by cases z) hcs6
    have k14 := es7.b.1 _ _ (nm_c ((by decide : ∀ u ∈ [63, 68], ∀ v ∈ [59, 61], u ≠ v) _ (mem2 fx1ou) _ (mem2 fx1ke)) nm_0) (fun l z => by cases z) k10
    have k15 := es7.b.1 _ _ (nm_c ((by decide : ∀ u ∈ [63, 68], ∀ v ∈ [59, 61], u + 1 ≠ v) _ (mem2 fx1ou) _ (mem2 fx1ke)) nm_0) (fun l z => by cases z) k11
    have gs7 := gs6.trans hs7
    refine TX.go 1 (fun n9 => (rfl : _ = exx ξ n9 (d + 8) j_N_open 90 [(0, .ref 16), (1, J z1), (2, .ref tpx1)] [.ref 16] s7)) ?_
    refine TX.get rfl rfl rfl rfl k13 rfl ?_
    obtain ⟨ex7, erx7, dix7, bax7, fpx7, hax7, fx7a, fx7b, fx7c, fx7d, fx7e, fx7f, fx7g, fx7h, fx7i, fx7j⟩ := hs7.1.arc (na_tp fx1tp)
    refine TX.get rfl rfl rfl rfl hax7 rfl ?_
    have tz1a := tl_at k13 rfl
    have tz1b := rl_of k15 (by omega)
    have tz1 : tl s7 = 0 := by omega
    exact TX.ireti rfl rfl rfl (QX_l ⟨_, rfl, gs7, by omega, by omega, tz1⟩)
  · refine TX.go 1 (fun n9 => (rfl : _ = exx ξ n9 (d + 8) j_N_open 13 [(0, .ref 16), (1, J z1)] [.ref 16] s1)) ?_
    refine TX.get rfl rfl rfl rfl k1 rfl ?_
    obtain ⟨ex8, erx8, dix8, bax8, fpx8, hax8, fx8a, fx8b, fx8c, fx8d, fx8e, fx8f, fx8g, fx8h, fx8i, fx8j⟩ := hs1.1.arc (na_tp fx1tp)
    refine TX.get rfl rfl rfl rfl hax8 rfl ?_
    obtain ⟨mx9, nx9, bx9, lx9, hrx9, hbx9, fx9a, fx9b, fx9c, fx9d, fx9e, fx9g, fx9h, fx9i⟩ := hs1.1.row (kdX_ar _ (na_tp fx1tp)).2.2.1
    refine TX.callv (as := []) (r := []) rfl rfl rfl rfl (RwL_lt _ (kdX_ar _ (na_tp fx1tp)).2.2.1).2.2.1 hrx9 rfl (s_R_clear (d + 7) (tpx1 + 1) s1 hs1.1 (kdX_ar _ (na_tp fx1tp)).2.2.1  ) (fun v4 s8 hqs8 => ?_)
    obtain ⟨rfl, hs8, pz4_0, pz4_1⟩ := hqs8
    have es8 := hs8
    have hs8 := hs8.sub (w' := WT) (List.forall_mem_cons.mpr ⟨((by decide : ∀ q ∈ [63, 68], q + 1 ∈ WT) _ (mem2 fx1tp)), (fun _ h => by cases h)⟩)
    have k16 := es8.b.1 _ _ (nm_c ((by decide : ∀ v ∈ [63, 68], (16 : Nat) ≠ v + 1) _ (mem2 fx1tp)) nm_0) (fun l z => by cases z) k1
    have k17 := es8.b.1 _ _ (nm_c (by omega) nm_0) (fun l z => by cases z) hax8
    have gs8 := hs1.trans hs8
    obtain ⟨mx10, nx10, bx10, lx10, hrx10, hbx10, fx10a, fx10b, fx10c, fx10d, fx10e, fx10g, fx10h, fx10i⟩ := hs8.1.row (kdX_ar _ (na_tp fx1tp)).2.2.1
    have cz4 := rl_of hrx10 (by omega)
    refine TX.go 3 (fun n9 => (rfl : _ = exx ξ n9 (d + 8) j_N_open 25 [(0, .ref 16), (1, J z1)] [.ref 16, J z1, .ref 16] s8)) ?_
    refine TX.get rfl rfl rfl rfl k16 rfl ?_
    refine TX.get rfl rfl rfl rfl k17 rfl ?_
    have tz2a := tl_at k16 rfl
    have tz2b := rl_of hrx10 (by omega)
    have tz2 : tl s8 = 0 := by omega
    refine TX.callv (as := [J z1, J fpx8]) (r := []) rfl rfl rfl rfl rfl k16 rfl (s_N_note (d + 7) z1 fpx8 s8 hs8.1   (by omega) (by omega)) (fun v5 s9 hqs9 => ?_)
    obtain ⟨rfl, hs9, pz5_0⟩ := hqs9
    have es9 := hs9
    have hs9 := hs9.sub (w' := WT) (List.forall_mem_cons.mpr ⟨(by decide), (fun _ h => by cases h)⟩)
    have k18 := es9.b.1 _ _ (nm_c ((by decide : ∀ u ∈ [63, 68], u ≠ 16) _ (mem2 fx1tp)) nm_0) (fun l z => by cases z) k17
    have k19 := es9.b.1 _ _ (nm_c ((by decide : ∀ u ∈ [63, 68], u + 1 ≠ 16) _ (mem2 fx1tp)) nm_0) (fun l z => by cases z) hrx10
    have gs9 := gs8.trans hs9
    have tz3 := (tl_note hs8.1 es9 (nsx_tpf pz5_0)).trans tz2
    exact TX.throw (Nat.ble_eq_true_of_le (by omega)) rfl rfl (QX_r (by decide) gs9 tz3)

set_option maxRecDepth 10000 in
set_option maxHeartbeats 4000000 in
theorem s_N_type {ξ : Nat → Option (Nat × List Int32)} (d : Nat) (x : Int) (σ : qH) (hK : K σ)  (rx : -9223372036854775808 ≤ x ∧ x ≤ 9223372036854775807) : T ξ (d + 8) j_N_type 0 (lv_args 0 [.ref 16, JL x]) [] σ (fun v σ' => ∃ z : Int, v = some (J z) ∧ Fr WR σ σ' ∧ 0 ≤ z ∧ z ≤ 1 ∧ nsx σ' = nsx σ) := by
  obtain ⟨kex1, scx1, tpx1, oux1, mox1, sgx1, hox1, mcx1, lfx1, lpx1, hNx1, fx1ke, fx1sc, fx1tp, fx1ou, fx1mo, fx1sg, fx1d, fx1e, fx1f, fx1g, fx1h, fx1i, fx1j⟩ := hK.na
  have loop76 : ∀ (f : Nat) (n : Int) (s : Int) (τ : qH), Fr WR σ τ → nsx τ = nsx σ → -8 ≤ s → s ≤ 56 → (s + 8).toNat < f → T ξ (d + 8) j_N_type 76 [(0, .ref 16), (1, JL x), (3, J n), (4, J s)] [] τ (fun v σ' => ∃ z : Int, v = some (J z) ∧ Fr WR σ σ' ∧ 0 ≤ z ∧ z ≤ 1 ∧ nsx σ' = nsx σ) := by
    intro f
    induction f with
    | zero => intro n s τ hτ tτ i0 i1 hm; omega
    | succ f ih =>
      intro n s τ hτ tτ i0 i1 hm
      refine T.go 1 (fun n9 => (rfl : _ = exe ξ n9 (d + 8) j_N_type 78 [(0, .ref 16), (1, JL x), (3, J n), (4, J s)] [J s] τ)) ?_
      refine T.if_lt rfl rfl (by omega) (fun c1 => ?_) (fun c1 => ?_)
      · refine T.go 1 (fun n9 => (rfl : _ = exe ξ n9 (d + 8) j_N_type 114 [(0, .ref 16), (1, JL x), (3, J n), (4, J s)] [J 1] τ)) ?_
        exact T.iretz rfl rfl (by omega) ⟨_, rfl, hτ, by omega, by omega, tτ⟩
      · refine T.go 2 (fun n9 => (rfl : _ = exe ξ n9 (d + 8) j_N_type 84 [(0, .ref 16), (1, JL x), (3, J n), (4, J s)] [J s, JL x] τ)) ?_
        refine T.some2 rfl rfl (fun z1 hzz1 hyz1 _ => ?_)
        refine T.l2i rfl ?_
        refine T.norm (fun z2 hzz2 hyz2 hwz2 => ?_)
        refine T.go 1 (fun n9 => (rfl : _ = exe ξ n9 (d + 8) j_N_type 89 [(0, .ref 16), (1, JL x), (3, J n), (4, J s)] [J 255, J z2] τ)) ?_
        refine T.iandm (p := 256) 8 rfl (by decide) (by decide) (by decide) (by omega) ?_
        refine T.go 2 (fun n9 => (rfl : _ = exe ξ n9 (d + 8) j_N_type 94 [(0, .ref 16), (1, JL x), (3, J n), (4, J s), (5, J (z2 % 256))] [J (z2 % 256)] τ)) ?_
        refine T.if_eq rfl rfl (by omega) (fun c2 => ?_) (fun c2 => ?_)
        · refine T.iinc (lv' := [(0, .ref 16), (1, JL x), (3, J n), (4, J (s + (-8))), (5, J (z2 % 256))]) rfl rfl rfl rfl ?_
          refine T.go 1 (fun n9 => (rfl : _ = exe ξ n9 (d + 8) j_N_type 76 [(0, .ref 16), (1, JL x), (3, J n), (4, J (s + (-8))), (5, J (z2 % 256))] [] τ)) ?_
          refine T.drop (lv := [(0, .ref 16), (1, JL x), (3, J n), (4, J (s + (-8)))]) [(5, J (z2 % 256))] (by simp) ?_
          exact ih  n (s + (-8)) τ hτ tτ (by omega) (by omega) (by omega)
        · refine T.go 1 (fun n9 => (rfl : _ = exe ξ n9 (d + 8) j_N_type 98 [(0, .ref 16), (1, JL x), (3, J n), (4, J s), (5, J (z2 % 256))] [.ref 16] τ)) ?_
          obtain ⟨kex2, scx2, tpx2, oux2, mox2, sgx2, hox2, mcx2, lfx2, lpx2, hNx2, fx2ke, fx2sc, fx2tp, fx2ou, fx2mo, fx2sg, fx2d, fx2e, fx2f, fx2g, fx2h, fx2i, fx2j⟩ := hτ.1.na
          refine T.get rfl rfl rfl hNx2 rfl ?_
          refine T.go 1 (fun n9 => (rfl : _ = exe ξ n9 (d + 8) j_N_type 103 [(0, .ref 16), (1, JL x), (3, J n), (4, J s), (5, J (z2 % 256))] [J (z2 % 256), .ref 51] τ)) ?_
          obtain ⟨mx3, nx3, bx3, lx3, hrx3, hbx3, fx3a, fx3b, fx3c, fx3d, fx3e, fx3g, fx3h, fx3i⟩ := hτ.1.row (r := 51) (by decide)
          refine T.callv (as := [J (z2 % 256)]) (r := []) rfl rfl rfl rfl hrx3 rfl (s_R_add (d + 7) 51 (z2 % 256) τ hτ.1 (by decide)  (by omega)) (fun v1 s1 hqs1 => ?_)
          obtain ⟨z4, rfl, hs1, hzz4, hyz4, pz4_0, pz4_1⟩ := hqs1
          have es1 := hs1
          have hs1 := hs1.sub (w' := WR) (List.forall_mem_cons.mpr ⟨(by decide), (fun _ h => by cases h)⟩)
          have k1 := es1.b.1 _ _ (nm_c (by decide) nm_0) (fun l z => by cases z) hNx2
          have gs1 := hτ.trans hs1
          refine T.go 1 (fun n9 => (rfl : _ = exe ξ n9 (d + 8) j_N_type 107 [(0, .ref 16), (1, JL x), (3, J n), (4, J s), (5, J (z2 % 256))] [] s1)) ?_
          refine T.iinc (lv' := [(0, .ref 16), (1, JL x), (3, J n), (4, J (s + (-8))), (5, J (z2 % 256))]) rfl rfl rfl rfl ?_
          refine T.go 1 (fun n9 => (rfl : _ = exe ξ n9 (d + 8) j_N_type 76 [(0, .ref 16), (1, JL x), (3, J n), (4, J (s + (-8))), (5, J (z2 % 256))] [] s1)) ?_
          refine T.drop (lv := [(0, .ref 16), (1, JL x), (3, J n), (4, J (s + (-8)))]) [(5, J (z2 % 256))] (by simp) ?_
          have tq1 : nsx s1 = nsx σ := ((nsx_of k1).trans (nsx_of hNx2).symm).trans tτ
          exact ih  n (s + (-8)) s1 gs1 tq1 (by omega) (by omega) (by omega)
  have loop6 : ∀ (f : Nat) (n : Int) (s : Int), 0 ≤ n → n ≤ 1000 - s → -8 ≤ s → s ≤ 56 → (s + 8).toNat < f → T ξ (d + 8) j_N_type 6 [(0, .ref 16), (1, JL x), (3, J n), (4, J s)] [] σ (fun v σ' => ∃ z : Int, v = some (J z) ∧ Fr WR σ σ' ∧ 0 ≤ z ∧ z ≤ 1 ∧ nsx σ' = nsx σ) := by
    intro f
    induction f with
    | zero => intro n s i0 i1 i2 i3 hm; omega
    | succ f ih =>
      intro n s i0 i1 i2 i3 hm
      refine T.go 1 (fun n9 => (rfl : _ = exe ξ n9 (d + 8) j_N_type 8 [(0, .ref 16), (1, JL x), (3, J n), (4, J s)] [J s] σ)) ?_
      refine T.if_lt rfl rfl (by omega) (fun c3 => ?_) (fun c3 => ?_)
      · refine T.go 3 (fun n9 => (rfl : _ = exe ξ n9 (d + 8) j_N_type 60 [(0, .ref 16), (1, JL x), (3, J n), (4, J s)] [.ref 16, J 40, J n] σ)) ?_
        refine T.get rfl rfl rfl hNx1 rfl ?_
        obtain ⟨mx4, nx4, bx4, lx4, hrx4, hbx4, fx4a, fx4b, fx4c, fx4d, fx4e, fx4g, fx4h, fx4i⟩ := hK.row (r := 51) (by decide)
        refine T.get rfl rfl rfl hrx4 rfl ?_
        refine T.isub rfl ?_
        refine T.icmp_le rfl rfl (by omega) (by omega) (fun c4 => ?_) (fun c4 => ?_)
        · refine T.go 2 (fun n9 => (rfl : _ = exe ξ n9 (d + 8) j_N_type 76 [(0, .ref 16), (1, JL x), (3, J n), (4, J 56)] [] σ)) ?_
          exact loop76 _ n 56 σ (Fr.refl hK) rfl (by omega) (by omega) (Nat.lt_succ_self _)
        · refine T.go 1 (fun n9 => (rfl : _ = exe ξ n9 (d + 8) j_N_type 71 [(0, .ref 16), (1, JL x), (3, J n), (4, J s)] [J 0] σ)) ?_
          exact T.iretz rfl rfl (by omega) ⟨_, rfl, (Fr.refl hK), by omega, by omega, rfl⟩
      · refine T.go 2 (fun n9 => (rfl : _ = exe ξ n9 (d + 8) j_N_type 14 [(0, .ref 16), (1, JL x), (3, J n), (4, J s)] [J s, JL x] σ)) ?_
        refine T.some2 rfl rfl (fun z5 hzz5 hyz5 _ => ?_)
        refine T.l2i rfl ?_
        refine T.norm (fun z6 hzz6 hyz6 hwz6 => ?_)
        refine T.go 1 (fun n9 => (rfl : _ = exe ξ n9 (d + 8) j_N_type 19 [(0, .ref 16), (1, JL x), (3, J n), (4, J s)] [J 255, J z6] σ)) ?_
        refine T.iandm (p := 256) 8 rfl (by decide) (by decide) (by decide) (by omega) ?_
        refine T.go 2 (fun n9 => (rfl : _ = exe ξ n9 (d + 8) j_N_type 24 [(0, .ref 16), (1, JL x), (3, J n), (4, J s), (5, J (z6 % 256))] [J (z6 % 256)] σ)) ?_
        refine T.if_eq rfl rfl (by omega) (fun c5 => ?_) (fun c5 => ?_)
        · refine T.go 2 (fun n9 => (rfl : _ = exe ξ n9 (d + 8) j_N_type 40 [(0, .ref 16), (1, JL x), (3, J n), (4, J s), (5, J (z6 % 256))] [J (z6 % 256), J n] σ)) ?_
          refine T.if_ne rfl rfl (by omega) (fun c6 => ?_) (fun c6 => ?_)
          · refine T.go 1 (fun n9 => (rfl : _ = exe ξ n9 (d + 8) j_N_type 48 [(0, .ref 16), (1, JL x), (3, J n), (4, J s), (5, J (z6 % 256))] [J 1, J n] σ)) ?_
            refine T.iadd rfl ?_
            refine T.go 1 (fun n9 => (rfl : _ = exe ξ n9 (d + 8) j_N_type 50 [(0, .ref 16), (1, JL x), (3, J (n + 1)), (4, J s), (5, J (z6 % 256))] [] σ)) ?_
            refine T.iinc (lv' := [(0, .ref 16), (1, JL x), (3, J (n + 1)), (4, J (s + (-8))), (5, J (z6 % 256))]) rfl rfl rfl rfl ?_
            refine T.go 1 (fun n9 => (rfl : _ = exe ξ n9 (d + 8) j_N_type 6 [(0, .ref 16), (1, JL x), (3, J (n + 1)), (4, J (s + (-8))), (5, J (z6 % 256))] [] σ)) ?_
            refine T.drop (lv := [(0, .ref 16), (1, JL x), (3, J (n + 1)), (4, J (s + (-8)))]) [(5, J (z6 % 256))] (by simp) ?_
            exact ih  (n + 1) (s + (-8)) (by omega) (by omega) (by omega) (by omega) (by omega)
          · refine T.go 2 (fun n9 => (rfl : _ = exe ξ n9 (d + 8) j_N_type 48 [(0, .ref 16), (1, JL x), (3, J n), (4, J s), (5, J (z6 % 256))] [J 0, J n] σ)) ?_
            refine T.iadd rfl ?_
            refine T.go 1 (fun n9 => (rfl : _ = exe ξ n9 (d + 8) j_N_type 50 [(0, .ref 16), (1, JL x), (3, J (n + 0)), (4, J s), (5, J (z6 % 256))] [] σ)) ?_
            refine T.iinc (lv' := [(0, .ref 16), (1, JL x), (3, J (n + 0)), (4, J (s + (-8))), (5, J (z6 % 256))]) rfl rfl rfl rfl ?_
            refine T.go 1 (fun n9 => (rfl : _ = exe ξ n9 (d + 8) j_N_type 6 [(0, .ref 16), (1, JL x), (3, J (n + 0)), (4, J (s + (-8))), (5, J (z6 % 256))] [] σ)) ?_
            refine T.drop (lv := [(0, .ref 16), (1, JL x), (3, J (n + 0)), (4, J (s + (-8)))]) [(5, J (z6 % 256))] (by simp) ?_
            exact ih  (n + 0) (s + (-8)) (by omega) (by omega) (by omega) (by omega) (by omega)
        · refine T.go 1 (fun n9 => (rfl : _ = exe ξ n9 (d + 8) j_N_type 29 [(0, .ref 16), (1, JL x), (3, J n), (4, J s), (5, J (z6 % 256))] [J (z6 % 256)] σ)) ?_
          refine T.calls (as := [J (z6 % 256)]) (r := []) rfl rfl (by decide) rfl rfl (s_N_isLetter (d + 7) (z6 % 256) σ hK   (by omega)) (fun v2 s2 hqs2 => ?_)
          obtain ⟨z8, rfl, esz8, hzz8, hyz8⟩ := hqs2
          rw [esz8]
          refine T.if_ne rfl rfl (by omega) (fun c7 => ?_) (fun c7 => ?_)
          · refine T.go 2 (fun n9 => (rfl : _ = exe ξ n9 (d + 8) j_N_type 40 [(0, .ref 16), (1, JL x), (3, J n), (4, J s), (5, J (z6 % 256))] [J (z6 % 256), J n] σ)) ?_
            refine T.if_ne rfl rfl (by omega) (fun c8 => ?_) (fun c8 => ?_)
            · refine T.go 1 (fun n9 => (rfl : _ = exe ξ n9 (d + 8) j_N_type 48 [(0, .ref 16), (1, JL x), (3, J n), (4, J s), (5, J (z6 % 256))] [J 1, J n] σ)) ?_
              refine T.iadd rfl ?_
              refine T.go 1 (fun n9 => (rfl : _ = exe ξ n9 (d + 8) j_N_type 50 [(0, .ref 16), (1, JL x), (3, J (n + 1)), (4, J s), (5, J (z6 % 256))] [] σ)) ?_
              refine T.iinc (lv' := [(0, .ref 16), (1, JL x), (3, J (n + 1)), (4, J (s + (-8))), (5, J (z6 % 256))]) rfl rfl rfl rfl ?_
              refine T.go 1 (fun n9 => (rfl : _ = exe ξ n9 (d + 8) j_N_type 6 [(0, .ref 16), (1, JL x), (3, J (n + 1)), (4, J (s + (-8))), (5, J (z6 % 256))] [] σ)) ?_
              refine T.drop (lv := [(0, .ref 16), (1, JL x), (3, J (n + 1)), (4, J (s + (-8)))]) [(5, J (z6 % 256))] (by simp) ?_
              exact ih  (n + 1) (s + (-8)) (by omega) (by omega) (by omega) (by omega) (by omega)
            · refine T.go 2 (fun n9 => (rfl : _ = exe ξ n9 (d + 8) j_N_type 48 [(0, .ref 16), (1, JL x), (3, J n), (4, J s), (5, J (z6 % 256))] [J 0, J n] σ)) ?_
              refine T.iadd rfl ?_
              refine T.go 1 (fun n9 => (rfl : _ = exe ξ n9 (d + 8) j_N_type 50 [(0, .ref 16), (1, JL x), (3, J (n + 0)), (4, J s), (5, J (z6 % 256))] [] σ)) ?_
              refine T.iinc (lv' := [(0, .ref 16), (1, JL x), (3, J (n + 0)), (4, J (s + (-8))), (5, J (z6 % 256))]) rfl rfl rfl rfl ?_
              refine T.go 1 (fun n9 => (rfl : _ = exe ξ n9 (d + 8) j_N_type 6 [(0, .ref 16), (1, JL x), (3, J (n + 0)), (4, J (s + (-8))), (5, J (z6 % 256))] [] σ)) ?_
              refine T.drop (lv := [(0, .ref 16), (1, JL x), (3, J (n + 0)), (4, J (s + (-8)))]) [(5, J (z6 % 256))] (by simp) ?_
              exact ih  (n + 0) (s + (-8)) (by omega) (by omega) (by omega) (by omega) (by omega)
          · refine T.go 1 (fun n9 => (rfl : _ = exe ξ n9 (d + 8) j_N_type 36 [(0, .ref 16), (1, JL x), (3, J n), (4, J s), (5, J (z6 % 256))] [J 0] σ)) ?_
            exact T.iretz rfl rfl (by omega) ⟨_, rfl, (Fr.refl hK), by omega, by omega, rfl⟩
  refine T.go 4 (fun n9 => (rfl : _ = exe ξ n9 (d + 8) j_N_type 6 [(0, .ref 16), (1, JL x), (3, J 0), (4, J 56)] [] σ)) ?_
  exact loop6 _ 0 56 (by omega) (by omega) (by omega) (by omega) (Nat.lt_succ_self _)
