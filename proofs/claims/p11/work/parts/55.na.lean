/-! class NestedArchives: what its calls stand on. -/
set_option maxRecDepth 10000 in
set_option maxHeartbeats 4000000 in
theorem s_N_sumOf {ξ : Nat → Option (Nat × List Int32)} (hX : XT ξ) (d : Nat) (r : Nat) (σ : qH) (hK : K σ) (hr : r ∈ RwL)  : T ξ (d + 1) j_N_sumOf 0 (lv_args 0 [.ref r]) [] σ (fun v σ' => ∃ z : Int, v = some (JL z) ∧ σ' = σ ∧ -9223372036854775808 ≤ z ∧ z ≤ 9223372036854775807) := by
  have hX0 := hX
  obtain ⟨⟨X1, hX1, lX1⟩, ⟨X2, hX2, lX2⟩, ⟨X3, hX3, lX3⟩, ⟨X4, hX4, lX4⟩, ⟨X5, hX5, lX5⟩, ⟨X6, hX6, lX6⟩⟩ := hX
  have lY1 : X1.length = 19 := by rw [lX1]; rfl
  have lY2 : X2.length = 29 := by rw [lX2]; rfl
  have lY3 : X3.length = 29 := by rw [lX3]; rfl
  have lY4 : X4.length = 30 := by rw [lX4]; rfl
  have lY5 : X5.length = 30 := by rw [lX5]; rfl
  have lY6 : X6.length = 16 := by rw [lX6]; rfl
  obtain ⟨mx1, nx1, bx1, lx1, hrx1, hbx1, fx1a, fx1b, fx1c, fx1d, fx1e, fx1g, fx1h, fx1i⟩ := hK.row hr
  have loop4 : ∀ (f : Nat) (u : Int) (k : Int), -2147483648 ≤ u → u ≤ 2147483647 → 0 ≤ k → k ≤ 8000 → (nx1 - k).toNat < f → T ξ (d + 1) j_N_sumOf 4 [(0, .ref r), (1, J u), (2, J k)] [] σ (fun v σ' => ∃ z : Int, v = some (JL z) ∧ σ' = σ ∧ -9223372036854775808 ≤ z ∧ z ≤ 9223372036854775807) := by
    intro f
    induction f with
    | zero => intro u k i0 i1 i2 i3 hm; omega
    | succ f ih =>
      intro u k i0 i1 i2 i3 hm
      refine T.go 2 (fun n9 => (rfl : _ = exe ξ n9 (d + 1) j_N_sumOf 6 [(0, .ref r), (1, J u), (2, J k)] [.ref r, J k] σ)) ?_
      refine T.get rfl rfl rfl hrx1 rfl ?_
      refine T.icmp_ge rfl rfl (by omega) (by omega) (fun c1 => ?_) (fun c1 => ?_)
      · refine T.go 2 (fun n9 => (rfl : _ = exe ξ n9 (d + 1) j_N_sumOf 54 [(0, .ref r), (1, J u), (2, J k)] [J (-1), J u] σ)) ?_
        refine T.some1 rfl rfl (fun z1 hzz1 hyz1 _ => ?_)
        refine T.i2l rfl (by omega) ?_
        refine T.go 1 (fun n9 => (rfl : _ = exe ξ n9 (d + 1) j_N_sumOf 59 [(0, .ref r), (1, J u), (2, J k)] [JL 4294967295, JL z1] σ)) ?_
        refine T.some2 rfl rfl (fun z2 hzz2 hyz2 _ => ?_)
        exact T.lret rfl rfl ⟨_, rfl, rfl, by omega, by omega⟩
      · refine T.go 3 (fun n9 => (rfl : _ = exe ξ n9 (d + 1) j_N_sumOf 15 [(0, .ref r), (1, J u), (2, J k)] [J k, .ref r, J u] σ)) ?_
        refine T.callv (as := [J k]) (r := [J u]) rfl rfl rfl (RwL_lt _ hr).2.2.1 hrx1 rfl (s_R_at d r k σ hK hr  (by omega)) (fun v1 s1 hqs1 => ?_)
        obtain ⟨z3, rfl, esz3, hzz3, hyz3⟩ := hqs1
        rw [esz3]
        refine T.some1 rfl rfl (fun z4 hzz4 hyz4 _ => ?_)
        refine T.go 3 (fun n9 => (rfl : _ = exe ξ n9 (d + 1) j_N_sumOf 22 [(0, .ref r), (1, J z4), (2, J k)] [J 4, J z4] σ)) ?_
        refine T.some1 rfl rfl (fun z5 hzz5 hyz5 _ => ?_)
        refine T.go 3 (fun n9 => (rfl : _ = exe ξ n9 (d + 1) j_N_sumOf 29 [(0, .ref r), (1, J z4), (2, J k)] [J 15, J z4, .ref 6, J z5] σ)) ?_
        refine T.iandm (p := 16) 4 rfl (by decide) (by decide) (by decide) (by omega) ?_
        refine T.xld rfl rfl hX6 (by omega) (fun z7 hzz7 hyz7 hez7 => ?_)
        refine T.some1 rfl rfl (fun z8 hzz8 hyz8 _ => ?_)
        refine T.go 3 (fun n9 => (rfl : _ = exe ξ n9 (d + 1) j_N_sumOf 35 [(0, .ref r), (1, J z8), (2, J k)] [J 4, J z8] σ)) ?_
        refine T.some1 rfl rfl (fun z9 hzz9 hyz9 _ => ?_)
        refine T.go 3 (fun n9 => (rfl : _ = exe ξ n9 (d + 1) j_N_sumOf 42 [(0, .ref r), (1, J z8), (2, J k)] [J 15, J z8, .ref 6, J z9] σ)) ?_
        refine T.iandm (p := 16) 4 rfl (by decide) (by decide) (by decide) (by omega) ?_
        refine T.xld rfl rfl hX6 (by omega) (fun z11 hzz11 hyz11 hez11 => ?_)
        refine T.some1 rfl rfl (fun z12 hzz12 hyz12 _ => ?_)
        refine T.go 1 (fun n9 => (rfl : _ = exe ξ n9 (d + 1) j_N_sumOf 46 [(0, .ref r), (1, J z12), (2, J k)] [] σ)) ?_
        refine T.iinc (lv' := [(0, .ref r), (1, J z12), (2, J (k + 1))]) rfl rfl rfl rfl ?_
        refine T.go 1 (fun n9 => (rfl : _ = exe ξ n9 (d + 1) j_N_sumOf 4 [(0, .ref r), (1, J z12), (2, J (k + 1))] [] σ)) ?_
        exact ih  z12 (k + 1) (by omega) (by omega) (by omega) (by omega) (by omega)
  refine T.go 4 (fun n9 => (rfl : _ = exe ξ n9 (d + 1) j_N_sumOf 4 [(0, .ref r), (1, J (-1)), (2, J 0)] [] σ)) ?_
  exact loop4 _ (-1) 0 (by omega) (by omega) (by omega) (by omega) (Nat.lt_succ_self _)

set_option maxRecDepth 10000 in
set_option maxHeartbeats 4000000 in
theorem s_N_unpackEntry {ξ : Nat → Option (Nat × List Int32)} (hX : XT ξ) (d : Nat) (a : Nat) (x : Int) (q : Nat) (σ : qH) (hK : K σ) (ha : a ∈ ArL) (hq : q ∈ RwL) (haq : a + 1 ≠ q) (rx : -2147483648 ≤ x ∧ x ≤ 2147483647) : T ξ (d + 5) j_N_unpackEntry 0 (lv_args 0 [.ref 16, .ref a, J x, .ref q]) [] σ (fun v σ' => ∃ z : Int, v = some (J z) ∧ Fr [17, 18, 20, 21, 22, 24, 25, 26, 28, 29, 30, q] σ σ' ∧ 0 ≤ z ∧ z ≤ 9) := by
  have hX0 := hX
  obtain ⟨⟨X1, hX1, lX1⟩, ⟨X2, hX2, lX2⟩, ⟨X3, hX3, lX3⟩, ⟨X4, hX4, lX4⟩, ⟨X5, hX5, lX5⟩, ⟨X6, hX6, lX6⟩⟩ := hX
  have lY1 : X1.length = 19 := by rw [lX1]; rfl
  have lY2 : X2.length = 29 := by rw [lX2]; rfl
  have lY3 : X3.length = 29 := by rw [lX3]; rfl
  have lY4 : X4.length = 30 := by rw [lX4]; rfl
  have lY5 : X5.length = 30 := by rw [lX5]; rfl
  have lY6 : X6.length = 16 := by rw [lX6]; rfl
  refine T.go 2 (fun n9 => (rfl : _ = exe ξ n9 (d + 5) j_N_unpackEntry 2 [(0, .ref 16), (1, .ref a), (2, J x), (3, .ref q)] [J x, .ref a] σ)) ?_
  obtain ⟨ex1, erx1, dix1, bax1, fpx1, hax1, fx1a, fx1b, fx1c, fx1d, fx1e, fx1f, fx1g, fx1h, fx1i, fx1j⟩ := hK.arc ha
  refine T.callv (as := [J x]) (r := []) rfl rfl rfl (ArL_lt _ ha).2.2.1 hax1 rfl (s_A_method (d + 2) a x σ hK ha  (by omega)) (fun v1 s1 hqs1 => ?_)
  obtain ⟨z1, rfl, esz1, hzz1, hyz1⟩ := hqs1
  rw [esz1]
  refine T.go 3 (fun n9 => (rfl : _ = exe ξ n9 (d + 5) j_N_unpackEntry 9 [(0, .ref 16), (1, .ref a), (2, J x), (3, .ref q), (4, J z1)] [J x, .ref a] σ)) ?_
  refine T.callv (as := [J x]) (r := []) rfl rfl rfl (ArL_lt _ ha).2.2.1 hax1 rfl (s_A_flags (d + 2) a x σ hK ha  (by omega)) (fun v2 s2 hqs2 => ?_)
  obtain ⟨z2, rfl, esz2, hzz2, hyz2⟩ := hqs2
  rw [esz2]
  refine T.go 1 (fun n9 => (rfl : _ = exe ξ n9 (d + 5) j_N_unpackEntry 13 [(0, .ref 16), (1, .ref a), (2, J x), (3, .ref q), (4, J z1)] [J 1, J z2] σ)) ?_
  refine T.iandm (p := 2) 1 rfl (by decide) (by decide) (by decide) (by omega) ?_
  refine T.go 1 (fun n9 => (rfl : _ = exe ξ n9 (d + 5) j_N_unpackEntry 15 [(0, .ref 16), (1, .ref a), (2, J x), (3, .ref q), (4, J z1)] [J 1, J (z2 % 2)] σ)) ?_
  refine T.icmp_eq rfl rfl (by omega) (by omega) (fun c1 => ?_) (fun c1 => ?_)
  · refine T.go 1 (fun n9 => (rfl : _ = exe ξ n9 (d + 5) j_N_unpackEntry 32 [(0, .ref 16), (1, .ref a), (2, J x), (3, .ref q), (4, J z1)] [J 6] σ)) ?_
    exact T.ireti rfl rfl ⟨_, rfl, (Fr.refl hK), by omega, by omega⟩
  · refine T.go 1 (fun n9 => (rfl : _ = exe ξ n9 (d + 5) j_N_unpackEntry 20 [(0, .ref 16), (1, .ref a), (2, J x), (3, .ref q), (4, J z1)] [J z1] σ)) ?_
    refine T.if_eq rfl rfl (by omega) (fun c2 => ?_) (fun c2 => ?_)
    · refine T.go 2 (fun n9 => (rfl : _ = exe ξ n9 (d + 5) j_N_unpackEntry 35 [(0, .ref 16), (1, .ref a), (2, J x), (3, .ref q), (4, J z1)] [J x, .ref a] σ)) ?_
      refine T.callv (as := [J x]) (r := []) rfl rfl rfl (ArL_lt _ ha).2.2.1 hax1 rfl (s_A_size (d + 2) a x σ hK ha  (by omega)) (fun v3 s3 hqs3 => ?_)
      obtain ⟨z4, rfl, esz4, hzz4, hyz4⟩ := hqs3
      rw [esz4]
      refine T.go 2 (fun n9 => (rfl : _ = exe ξ n9 (d + 5) j_N_unpackEntry 42 [(0, .ref 16), (1, .ref a), (2, J x), (3, .ref q), (4, J z1), (5, JL z4)] [JL z4] σ)) ?_
      refine T.go 1 (fun n9 => (rfl : _ = exe ξ n9 (d + 5) j_N_unpackEntry 45 [(0, .ref 16), (1, .ref a), (2, J x), (3, .ref q), (4, J z1), (5, JL z4)] [JL 8000, JL z4] σ)) ?_
      refine T.lcmp rfl (by omega) (by omega) (fun c3 => ?_) (fun c3 => ?_) (fun c3 => ?_)
      · refine T.go 1 (fun n9 => (rfl : _ = exe ξ n9 (d + 5) j_N_unpackEntry 52 [(0, .ref 16), (1, .ref a), (2, J x), (3, .ref q), (4, J z1), (5, JL z4)] [] σ)) ?_
        refine T.go 1 (fun n9 => (rfl : _ = exe ξ n9 (d + 5) j_N_unpackEntry 53 [(0, .ref 16), (1, .ref a), (2, J x), (3, .ref q), (4, J z1), (5, JL z4)] [.ref q] σ)) ?_
        obtain ⟨mx2, nx2, bx2, lx2, hrx2, hbx2, fx2a, fx2b, fx2c, fx2d, fx2e, fx2g, fx2h, fx2i⟩ := hK.row hq
        refine T.callv (as := []) (r := []) rfl rfl rfl (RwL_lt _ hq).2.2.1 hrx2 rfl (s_R_clear (d + 4) q σ hK hq  ) (fun v4 s4 hqs4 => ?_)
        obtain ⟨rfl, hs4, pz5_0, pz5_1⟩ := hqs4
        have es4 := hs4
        have hs4 := hs4.sub (w' := [17, 18, 20, 21, 22, 24, 25, 26, 28, 29, 30, q]) (List.forall_mem_cons.mpr ⟨(by simp), (fun _ h => by cases h)⟩)
        have k1 := es4.b.1 _ _ (nm_c ((by decide : ∀ u ∈ ArL, ∀ v ∈ RwL, u ≠ v) _ ha _ hq) nm_0) (fun l z => by cases z) hax1
        refine T.go 2 (fun n9 => (rfl : _ = exe ξ n9 (d + 5) j_N_unpackEntry 58 [(0, .ref 16), (1, .ref a), (2, J x), (3, .ref q), (4, J z1), (5, JL z4)] [J x, .ref a] s4)) ?_
        refine T.callv (as := [J x]) (r := []) rfl rfl rfl (ArL_lt _ ha).2.2.1 k1 rfl (s_A_dataPlace (d + 3) a x s4 hs4.1 ha  (by omega)) (fun v5 s5 hqs5 => ?_)
        obtain ⟨z6, rfl, esz6, hzz6, hyz6⟩ := hqs5
        rw [esz6]
        refine T.go 3 (fun n9 => (rfl : _ = exe ξ n9 (d + 5) j_N_unpackEntry 65 [(0, .ref 16), (1, .ref a), (2, J x), (3, .ref q), (4, J z1), (5, JL z4), (7, J z6)] [J x, .ref a] s4)) ?_
        refine T.callv (as := [J x]) (r := []) rfl rfl rfl (ArL_lt _ ha).2.2.1 k1 rfl (s_A_packedSize (d + 2) a x s4 hs4.1 ha  (by omega)) (fun v6 s6 hqs6 => ?_)
        obtain ⟨z7, rfl, esz7, hzz7, hyz7⟩ := hqs6
        rw [esz7]
        refine T.l2i rfl ?_
        refine T.norm (fun z8 hzz8 hyz8 hwz8 => ?_)
        refine T.go 2 (fun n9 => (rfl : _ = exe ξ n9 (d + 5) j_N_unpackEntry 73 [(0, .ref 16), (1, .ref a), (2, J x), (3, .ref q), (4, J z1), (5, JL z4), (7, J z6), (8, J z8)] [J z1] s4)) ?_
        refine T.if_ne rfl rfl (by omega) (fun c4 => ?_) (fun c4 => ?_)
        · refine T.go 1 (fun n9 => (rfl : _ = exe ξ n9 (d + 5) j_N_unpackEntry 109 [(0, .ref 16), (1, .ref a), (2, J x), (3, .ref q), (4, J z1), (5, JL z4), (7, J z6), (8, J z8)] [.ref 16] s4)) ?_
          obtain ⟨kex3, scx3, tpx3, oux3, mox3, sgx3, hox3, mcx3, lfx3, lpx3, hNx3, fx3ke, fx3sc, fx3tp, fx3ou, fx3mo, fx3sg, fx3d, fx3e, fx3f, fx3g, fx3h, fx3i, fx3j⟩ := hs4.1.na
          refine T.get rfl rfl rfl hNx3 rfl ?_
          refine T.go 1 (fun n9 => (rfl : _ = exe ξ n9 (d + 5) j_N_unpackEntry 113 [(0, .ref 16), (1, .ref a), (2, J x), (3, .ref q), (4, J z1), (5, JL z4), (7, J z6), (8, J z8)] [.ref a, .ref 17] s4)) ?_
          refine T.get rfl rfl rfl k1 rfl ?_
          refine T.go 4 (fun n9 => (rfl : _ = exe ξ n9 (d + 5) j_N_unpackEntry 123 [(0, .ref 16), (1, .ref a), (2, J x), (3, .ref q), (4, J z1), (5, JL z4), (7, J z6), (8, J z8)] [JL z4, .ref q, J z8, J z6, .ref (a + 1), .ref 17] s4)) ?_
          refine T.l2i rfl ?_
          obtain ⟨sx4, tx4, wx4, bix4, bex4, rox4, hux4, fx4a, fx4b, fx4c, fx4d, fx4e, fx4f, fx4g, fx4h, fx4i⟩ := hs4.1.unp
          refine T.callv (as := [.ref (a + 1), J z6, J z8, .ref q, J z4]) (r := []) rfl rfl rfl rfl hux4 rfl (s_U_unpack hX0 d (a + 1) z6 z8 q z4 s4 hs4.1 (kdX_ar _ ha).2.2.1 hq haq (by omega) (by omega) (by omega) (by omega) (by omega)) (fun v7 s7 hqs7 => ?_)
          obtain ⟨z9, rfl, hs7, hzz9, hyz9⟩ := hqs7
          have es7 := hs7
          have k2 := es7.b.1 _ _ (nm_c ((by decide : ∀ u ∈ ArL, u ≠ 17) _ ha) (nm_c ((by decide : ∀ u ∈ ArL, u ≠ 18) _ ha) (nm_c ((by decide : ∀ u ∈ ArL, u ≠ 20) _ ha) (nm_c ((by decide : ∀ u ∈ ArL, u ≠ 21) _ ha) (nm_c ((by decide : ∀ u ∈ ArL, u ≠ 22) _ ha) (nm_c ((by decide : ∀ u ∈ ArL, u ≠ 24) _ ha) (nm_c ((by decide : ∀ u ∈ ArL, u ≠ 25) _ ha) (nm_c ((by decide : ∀ u ∈ ArL, u ≠ 26) _ ha) (nm_c ((by decide : ∀ u ∈ ArL, u ≠ 28) _ ha) (nm_c ((by decide : ∀ u ∈ ArL, u ≠ 29) _ ha) (nm_c ((by decide : ∀ u ∈ ArL, u ≠ 30) _ ha) (nm_c ((by decide : ∀ u ∈ ArL, ∀ v ∈ RwL, u ≠ v) _ ha _ hq) nm_0)))))))))))) (fun l z => by cases z) k1
          have k3 := es7.b.1 _ _ (nm_c (by decide) (nm_c (by decide) (nm_c (by decide) (nm_c (by decide) (nm_c (by decide) (nm_c (by decide) (nm_c (by decide) (nm_c (by decide) (nm_c (by decide) (nm_c (by decide) (nm_c (by decide) (nm_c ((by decide : ∀ v ∈ RwL, (16 : Nat) ≠ v) _ hq) nm_0)))))))))))) (fun l z => by cases z) hNx3
          have gs7 := hs4.trans hs7
          refine T.go 2 (fun n9 => (rfl : _ = exe ξ n9 (d + 5) j_N_unpackEntry 131 [(0, .ref 16), (1, .ref a), (2, J x), (3, .ref q), (4, J z1), (5, JL z4), (7, J z6), (8, J z8), (9, J z9)] [J z9] s7)) ?_
          refine T.if_ne rfl rfl (by omega) (fun c5 => ?_) (fun c5 => ?_)
          · refine T.go 1 (fun n9 => (rfl : _ = exe ξ n9 (d + 5) j_N_unpackEntry 138 [(0, .ref 16), (1, .ref a), (2, J x), (3, .ref q), (4, J z1), (5, JL z4), (7, J z6), (8, J z8), (9, J z9)] [.ref q] s7)) ?_
            refine T.calls (as := [.ref q]) (r := []) rfl rfl (by decide) rfl rfl (s_N_sumOf hX0 (d + 3) q s7 hs7.1 hq  ) (fun v8 s8 hqs8 => ?_)
            obtain ⟨z10, rfl, esz10, hzz10, hyz10⟩ := hqs8
            rw [esz10]
            refine T.go 2 (fun n9 => (rfl : _ = exe ξ n9 (d + 5) j_N_unpackEntry 143 [(0, .ref 16), (1, .ref a), (2, J x), (3, .ref q), (4, J z1), (5, JL z4), (7, J z6), (8, J z8), (9, J z9)] [J x, .ref a, JL z10] s7)) ?_
            refine T.callv (as := [J x]) (r := [JL z10]) rfl rfl rfl (ArL_lt _ ha).2.2.1 k2 rfl (s_A_sum (d + 2) a x s7 hs7.1 ha  (by omega)) (fun v9 s9 hqs9 => ?_)
            obtain ⟨z11, rfl, esz11, hzz11, hyz11⟩ := hqs9
            rw [esz11]
            refine T.lcmp rfl (by omega) (by omega) (fun c6 => ?_) (fun c6 => ?_) (fun c6 => ?_)
            · refine T.go 1 (fun n9 => (rfl : _ = exe ξ n9 (d + 5) j_N_unpackEntry 154 [(0, .ref 16), (1, .ref a), (2, J x), (3, .ref q), (4, J z1), (5, JL z4), (7, J z6), (8, J z8), (9, J z9)] [] s7)) ?_
              refine T.go 1 (fun n9 => (rfl : _ = exe ξ n9 (d + 5) j_N_unpackEntry 156 [(0, .ref 16), (1, .ref a), (2, J x), (3, .ref q), (4, J z1), (5, JL z4), (7, J z6), (8, J z8), (9, J z9)] [J 9] s7)) ?_
              exact T.ireti rfl rfl ⟨_, rfl, gs7, by omega, by omega⟩
            · refine T.go 1 (fun n9 => (rfl : _ = exe ξ n9 (d + 5) j_N_unpackEntry 150 [(0, .ref 16), (1, .ref a), (2, J x), (3, .ref q), (4, J z1), (5, JL z4), (7, J z6), (8, J z8), (9, J z9)] [] s7)) ?_
              refine T.go 2 (fun n9 => (rfl : _ = exe ξ n9 (d + 5) j_N_unpackEntry 156 [(0, .ref 16), (1, .ref a), (2, J x), (3, .ref q), (4, J z1), (5, JL z4), (7, J z6), (8, J z8), (9, J z9)] [J 0] s7)) ?_
              exact T.ireti rfl rfl ⟨_, rfl, gs7, by omega, by omega⟩
            · refine T.go 1 (fun n9 => (rfl : _ = exe ξ n9 (d + 5) j_N_unpackEntry 154 [(0, .ref 16), (1, .ref a), (2, J x), (3, .ref q), (4, J z1), (5, JL z4), (7, J z6), (8, J z8), (9, J z9)] [] s7)) ?_
              refine T.go 1 (fun n9 => (rfl : _ = exe ξ n9 (d + 5) j_N_unpackEntry 156 [(0, .ref 16), (1, .ref a), (2, J x), (3, .ref q), (4, J z1), (5, JL z4), (7, J z6), (8, J z8), (9, J z9)] [J 9] s7)) ?_
              exact T.ireti rfl rfl ⟨_, rfl, gs7, by omega, by omega⟩
          · refine T.go 1 (fun n9 => (rfl : _ = exe ξ n9 (d + 5) j_N_unpackEntry 136 [(0, .ref 16), (1, .ref a), (2, J x), (3, .ref q), (4, J z1), (5, JL z4), (7, J z6), (8, J z8), (9, J z9)] [J 8] s7)) ?_
            exact T.ireti rfl rfl ⟨_, rfl, gs7, by omega, by omega⟩
        · refine T.go 1 (fun n9 => (rfl : _ = exe ξ n9 (d + 5) j_N_unpackEntry 78 [(0, .ref 16), (1, .ref a), (2, J x), (3, .ref q), (4, J z1), (5, JL z4), (7, J z6), (8, J z8)] [J z8] s4)) ?_
          refine T.i2l rfl (by omega) ?_
          refine T.go 1 (fun n9 => (rfl : _ = exe ξ n9 (d + 5) j_N_unpackEntry 81 [(0, .ref 16), (1, .ref a), (2, J x), (3, .ref q), (4, J z1), (5, JL z4), (7, J z6), (8, J z8)] [JL z4, JL z8] s4)) ?_
          refine T.lcmp rfl (by omega) (by omega) (fun c7 => ?_) (fun c7 => ?_) (fun c7 => ?_)
          · refine T.go 1 (fun n9 => (rfl : _ = exe ξ n9 (d + 5) j_N_unpackEntry 104 [(0, .ref 16), (1, .ref a), (2, J x), (3, .ref q), (4, J z1), (5, JL z4), (7, J z6), (8, J z8)] [] s4)) ?_
            refine T.go 6 (fun n9 => (rfl : _ = exe ξ n9 (d + 5) j_N_unpackEntry 136 [(0, .ref 16), (1, .ref a), (2, J x), (3, .ref q), (4, J z1), (5, JL z4), (7, J z6), (8, J z8), (9, J 0)] [J 8] s4)) ?_
            exact T.ireti rfl rfl ⟨_, rfl, hs4, by omega, by omega⟩
          · refine T.go 1 (fun n9 => (rfl : _ = exe ξ n9 (d + 5) j_N_unpackEntry 85 [(0, .ref 16), (1, .ref a), (2, J x), (3, .ref q), (4, J z1), (5, JL z4), (7, J z6), (8, J z8)] [] s4)) ?_
            refine T.go 2 (fun n9 => (rfl : _ = exe ξ n9 (d + 5) j_N_unpackEntry 87 [(0, .ref 16), (1, .ref a), (2, J x), (3, .ref q), (4, J z1), (5, JL z4), (7, J z6), (8, J z8)] [.ref a, .ref q] s4)) ?_
            refine T.get rfl rfl rfl k1 rfl ?_
            refine T.go 2 (fun n9 => (rfl : _ = exe ξ n9 (d + 5) j_N_unpackEntry 94 [(0, .ref 16), (1, .ref a), (2, J x), (3, .ref q), (4, J z1), (5, JL z4), (7, J z6), (8, J z8)] [J z8, J z6, .ref (a + 1), .ref q] s4)) ?_
            obtain ⟨mx5, nx5, bx5, lx5, hrx5, hbx5, fx5a, fx5b, fx5c, fx5d, fx5e, fx5g, fx5h, fx5i⟩ := hs4.1.row hq
            refine T.callv (as := [.ref (a + 1), J z6, J z8]) (r := []) rfl rfl rfl (RwL_lt _ hq).2.2.1 hrx5 rfl (s_R_addPart (d + 3) q (a + 1) z6 z8 s4 hs4.1 hq (kdX_ar _ ha).2.2.1 haq (by omega) (by omega)) (fun v10 s10 hqs10 => ?_)
            obtain ⟨z12, rfl, hs10, hzz12, hyz12, pz12_0⟩ := hqs10
            have es10 := hs10
            have hs10 := hs10.sub (w' := [17, 18, 20, 21, 22, 24, 25, 26, 28, 29, 30, q]) (List.forall_mem_cons.mpr ⟨(by simp), (fun _ h => by cases h)⟩)
            have k4 := es10.b.1 _ _ (nm_c ((by decide : ∀ u ∈ ArL, ∀ v ∈ RwL, u ≠ v) _ ha _ hq) nm_0) (fun l z => by cases z) k1
            have gs10 := hs4.trans hs10
            refine T.if_eq rfl rfl (by omega) (fun c8 => ?_) (fun c8 => ?_)
            · refine T.go 6 (fun n9 => (rfl : _ = exe ξ n9 (d + 5) j_N_unpackEntry 136 [(0, .ref 16), (1, .ref a), (2, J x), (3, .ref q), (4, J z1), (5, JL z4), (7, J z6), (8, J z8), (9, J 0)] [J 8] s10)) ?_
              exact T.ireti rfl rfl ⟨_, rfl, gs10, by omega, by omega⟩
            · refine T.go 6 (fun n9 => (rfl : _ = exe ξ n9 (d + 5) j_N_unpackEntry 138 [(0, .ref 16), (1, .ref a), (2, J x), (3, .ref q), (4, J z1), (5, JL z4), (7, J z6), (8, J z8), (9, J 1)] [.ref q] s10)) ?_
              refine T.calls (as := [.ref q]) (r := []) rfl rfl (by decide) rfl rfl (s_N_sumOf hX0 (d + 3) q s10 hs10.1 hq  ) (fun v11 s11 hqs11 => ?_)
              obtain ⟨z13, rfl, esz13, hzz13, hyz13⟩ := hqs11
              rw [esz13]
              refine T.go 2 (fun n9 => (rfl : _ = exe ξ n9 (d + 5) j_N_unpackEntry 143 [(0, .ref 16), (1, .ref a), (2, J x), (3, .ref q), (4, J z1), (5, JL z4), (7, J z6), (8, J z8), (9, J 1)] [J x, .ref a, JL z13] s10)) ?_
              refine T.callv (as := [J x]) (r := [JL z13]) rfl rfl rfl (ArL_lt _ ha).2.2.1 k4 rfl (s_A_sum (d + 2) a x s10 hs10.1 ha  (by omega)) (fun v12 s12 hqs12 => ?_)
              obtain ⟨z14, rfl, esz14, hzz14, hyz14⟩ := hqs12
              rw [esz14]
              refine T.lcmp rfl (by omega) (by omega) (fun c9 => ?_) (fun c9 => ?_) (fun c9 => ?_)
              · refine T.go 1 (fun n9 => (rfl : _ = exe ξ n9 (d + 5) j_N_unpackEntry 154 [(0, .ref 16), (1, .ref a), (2, J x), (3, .ref q), (4, J z1), (5, JL z4), (7, J z6), (8, J z8), (9, J 1)] [] s10)) ?_
                refine T.go 1 (fun n9 => (rfl : _ = exe ξ n9 (d + 5) j_N_unpackEntry 156 [(0, .ref 16), (1, .ref a), (2, J x), (3, .ref q), (4, J z1), (5, JL z4), (7, J z6), (8, J z8), (9, J 1)] [J 9] s10)) ?_
                exact T.ireti rfl rfl ⟨_, rfl, gs10, by omega, by omega⟩
              · refine T.go 1 (fun n9 => (rfl : _ = exe ξ n9 (d + 5) j_N_unpackEntry 150 [(0, .ref 16), (1, .ref a), (2, J x), (3, .ref q), (4, J z1), (5, JL z4), (7, J z6), (8, J z8), (9, J 1)] [] s10)) ?_
                refine T.go 2 (fun n9 => (rfl : _ = exe ξ n9 (d + 5) j_N_unpackEntry 156 [(0, .ref 16), (1, .ref a), (2, J x), (3, .ref q), (4, J z1), (5, JL z4), (7, J z6), (8, J z8), (9, J 1)] [J 0] s10)) ?_
                exact T.ireti rfl rfl ⟨_, rfl, gs10, by omega, by omega⟩
              · refine T.go 1 (fun n9 => (rfl : _ = exe ξ n9 (d + 5) j_N_unpackEntry 154 [(0, .ref 16), (1, .ref a), (2, J x), (3, .ref q), (4, J z1), (5, JL z4), (7, J z6), (8, J z8), (9, J 1)] [] s10)) ?_
                refine T.go 1 (fun n9 => (rfl : _ = exe ξ n9 (d + 5) j_N_unpackEntry 156 [(0, .ref 16), (1, .ref a), (2, J x), (3, .ref q), (4, J z1), (5, JL z4), (7, J z6), (8, J z8), (9, J 1)] [J 9] s10)) ?_
                exact T.ireti rfl rfl ⟨_, rfl, gs10, by omega, by omega⟩
          · refine T.go 1 (fun n9 => (rfl : _ = exe ξ n9 (d + 5) j_N_unpackEntry 104 [(0, .ref 16), (1, .ref a), (2, J x), (3, .ref q), (4, J z1), (5, JL z4), (7, J z6), (8, J z8)] [] s4)) ?_
            refine T.go 6 (fun n9 => (rfl : _ = exe ξ n9 (d + 5) j_N_unpackEntry 136 [(0, .ref 16), (1, .ref a), (2, J x), (3, .ref q), (4, J z1), (5, JL z4), (7, J z6), (8, J z8), (9, J 0)] [J 8] s4)) ?_
            exact T.ireti rfl rfl ⟨_, rfl, hs4, by omega, by omega⟩
      · refine T.go 1 (fun n9 => (rfl : _ = exe ξ n9 (d + 5) j_N_unpackEntry 52 [(0, .ref 16), (1, .ref a), (2, J x), (3, .ref q), (4, J z1), (5, JL z4)] [] σ)) ?_
        refine T.go 1 (fun n9 => (rfl : _ = exe ξ n9 (d + 5) j_N_unpackEntry 53 [(0, .ref 16), (1, .ref a), (2, J x), (3, .ref q), (4, J z1), (5, JL z4)] [.ref q] σ)) ?_
        obtain ⟨mx6, nx6, bx6, lx6, hrx6, hbx6, fx6a, fx6b, fx6c, fx6d, fx6e, fx6g, fx6h, fx6i⟩ := hK.row hq
        refine T.callv (as := []) (r := []) rfl rfl rfl (RwL_lt _ hq).2.2.1 hrx6 rfl (s_R_clear (d + 4) q σ hK hq  ) (fun v13 s13 hqs13 => ?_)
        obtain ⟨rfl, hs13, pz15_0, pz15_1⟩ := hqs13
        have es13 := hs13
        have hs13 := hs13.sub (w' := [17, 18, 20, 21, 22, 24, 25, 26, 28, 29, 30, q]) (List.forall_mem_cons.mpr ⟨(by simp), (fun _ h => by cases h)⟩)
        have k5 := es13.b.1 _ _ (nm_c ((by decide : ∀ u ∈ ArL, ∀ v ∈ RwL, u ≠ v) _ ha _ hq) nm_0) (fun l z => by cases z) hax1
        refine T.go 2 (fun n9 => (rfl : _ = exe ξ n9 (d + 5) j_N_unpackEntry 58 [(0, .ref 16), (1, .ref a), (2, J x), (3, .ref q), (4, J z1), (5, JL z4)] [J x, .ref a] s13)) ?_
        refine T.callv (as := [J x]) (r := []) rfl rfl rfl (ArL_lt _ ha).2.2.1 k5 rfl (s_A_dataPlace (d + 3) a x s13 hs13.1 ha  (by omega)) (fun v14 s14 hqs14 => ?_)
        obtain ⟨z16, rfl, esz16, hzz16, hyz16⟩ := hqs14
        rw [esz16]
        refine T.go 3 (fun n9 => (rfl : _ = exe ξ n9 (d + 5) j_N_unpackEntry 65 [(0, .ref 16), (1, .ref a), (2, J x), (3, .ref q), (4, J z1), (5, JL z4), (7, J z16)] [J x, .ref a] s13)) ?_
        refine T.callv (as := [J x]) (r := []) rfl rfl rfl (ArL_lt _ ha).2.2.1 k5 rfl (s_A_packedSize (d + 2) a x s13 hs13.1 ha  (by omega)) (fun v15 s15 hqs15 => ?_)
        obtain ⟨z17, rfl, esz17, hzz17, hyz17⟩ := hqs15
        rw [esz17]
        refine T.l2i rfl ?_
        refine T.norm (fun z18 hzz18 hyz18 hwz18 => ?_)
        refine T.go 2 (fun n9 => (rfl : _ = exe ξ n9 (d + 5) j_N_unpackEntry 73 [(0, .ref 16), (1, .ref a), (2, J x), (3, .ref q), (4, J z1), (5, JL z4), (7, J z16), (8, J z18)] [J z1] s13)) ?_
        refine T.if_ne rfl rfl (by omega) (fun c10 => ?_) (fun c10 => ?_)
        · refine T.go 1 (fun n9 => (rfl : _ = exe ξ n9 (d + 5) j_N_unpackEntry 109 [(0, .ref 16), (1, .ref a), (2, J x), (3, .ref q), (4, J z1), (5, JL z4), (7, J z16), (8, J z18)] [.ref 16] s13)) ?_
          obtain ⟨kex7, scx7, tpx7, oux7, mox7, sgx7, hox7, mcx7, lfx7, lpx7, hNx7, fx7ke, fx7sc, fx7tp, fx7ou, fx7mo, fx7sg, fx7d, fx7e, fx7f, fx7g, fx7h, fx7i, fx7j⟩ := hs13.1.na
          refine T.get rfl rfl rfl hNx7 rfl ?_
          refine T.go 1 (fun n9 => (rfl : _ = exe ξ n9 (d + 5) j_N_unpackEntry 113 [(0, .ref 16), (1, .ref a), (2, J x), (3, .ref q), (4, J z1), (5, JL z4), (7, J z16), (8, J z18)] [.ref a, .ref 17] s13)) ?_
          refine T.get rfl rfl rfl k5 rfl ?_
          refine T.go 4 (fun n9 => (rfl : _ = exe ξ n9 (d + 5) j_N_unpackEntry 123 [(0, .ref 16), (1, .ref a), (2, J x), (3, .ref q), (4, J z1), (5, JL z4), (7, J z16), (8, J z18)] [JL z4, .ref q, J z18, J z16, .ref (a + 1), .ref 17] s13)) ?_
          refine T.l2i rfl ?_
          obtain ⟨sx8, tx8, wx8, bix8, bex8, rox8, hux8, fx8a, fx8b, fx8c, fx8d, fx8e, fx8f, fx8g, fx8h, fx8i⟩ := hs13.1.unp
          refine T.callv (as := [.ref (a + 1), J z16, J z18, .ref q, J z4]) (r := []) rfl rfl rfl rfl hux8 rfl (s_U_unpack hX0 d (a + 1) z16 z18 q z4 s13 hs13.1 (kdX_ar _ ha).2.2.1 hq haq (by omega) (by omega) (by omega) (by omega) (by omega)) (fun v16 s16 hqs16 => ?_)
          obtain ⟨z19, rfl, hs16, hzz19, hyz19⟩ := hqs16
          have es16 := hs16
          have k6 := es16.b.1 _ _ (nm_c ((by decide : ∀ u ∈ ArL, u ≠ 17) _ ha) (nm_c ((by decide : ∀ u ∈ ArL, u ≠ 18) _ ha) (nm_c ((by decide : ∀ u ∈ ArL, u ≠ 20) _ ha) (nm_c ((by decide : ∀ u ∈ ArL, u ≠ 21) _ ha) (nm_c ((by decide : ∀ u ∈ ArL, u ≠ 22) _ ha) (nm_c ((by decide : ∀ u ∈ ArL, u ≠ 24) _ ha) (nm_c ((by decide : ∀ u ∈ ArL, u ≠ 25) _ ha) (nm_c ((by decide : ∀ u ∈ ArL, u ≠ 26) _ ha) (nm_c ((by decide : ∀ u ∈ ArL, u ≠ 28) _ ha) (nm_c ((by decide : ∀ u ∈ ArL, u ≠ 29) _ ha) (nm_c ((by decide : ∀ u ∈ ArL, u ≠ 30) _ ha) (nm_c ((by decide : ∀ u ∈ ArL, ∀ v ∈ RwL, u ≠ v) _ ha _ hq) nm_0)))))))))))) (fun l z => by cases z) k5
          have k7 := es16.b.1 _ _ (nm_c (by decide) (nm_c (by decide) (nm_c (by decide) (nm_c (by decide) (nm_c (by decide) (nm_c (by decide) (nm_c (by decide) (nm_c (by decide) (nm_c (by decide) (nm_c (by decide) (nm_c (by decide) (nm_c ((by decide : ∀ v ∈ RwL, (16 : Nat) ≠ v) _ hq) nm_0)))))))))))) (fun l z => by cases z) hNx7
          have gs16 := hs13.trans hs16
          refine T.go 2 (fun n9 => (rfl : _ = exe ξ n9 (d + 5) j_N_unpackEntry 131 [(0, .ref 16), (1, .ref a), (2, J x), (3, .ref q), (4, J z1), (5, JL z4), (7, J z16), (8, J z18), (9, J z19)] [J z19] s16)) ?_
          refine T.if_ne rfl rfl (by omega) (fun c11 => ?_) (fun c11 => ?_)
          · refine T.go 1 (fun n9 => (rfl : _ = exe ξ n9 (d + 5) j_N_unpackEntry 138 [(0, .ref 16), (1, .ref a), (2, J x), (3, .ref q), (4, J z1), (5, JL z4), (7, J z16), (8, J z18), (9, J z19)] [.ref q] s16)) ?_
            refine T.calls (as := [.ref q]) (r := []) rfl rfl (by decide) rfl rfl (s_N_sumOf hX0 (d + 3) q s16 hs16.1 hq  ) (fun v17 s17 hqs17 => ?_)
            obtain ⟨z20, rfl, esz20, hzz20, hyz20⟩ := hqs17
            rw [esz20]
            refine T.go 2 (fun n9 => (rfl : _ = exe ξ n9 (d + 5) j_N_unpackEntry 143 [(0, .ref 16), (1, .ref a), (2, J x), (3, .ref q), (4, J z1), (5, JL z4), (7, J z16), (8, J z18), (9, J z19)] [J x, .ref a, JL z20] s16)) ?_
            refine T.callv (as := [J x]) (r := [JL z20]) rfl rfl rfl (ArL_lt _ ha).2.2.1 k6 rfl (s_A_sum (d + 2) a x s16 hs16.1 ha  (by omega)) (fun v18 s18 hqs18 => ?_)
            obtain ⟨z21, rfl, esz21, hzz21, hyz21⟩ := hqs18
            rw [esz21]
            refine T.lcmp rfl (by omega) (by omega) (fun c12 => ?_) (fun c12 => ?_) (fun c12 => ?_)
            · refine T.go 1 (fun n9 => (rfl : _ = exe ξ n9 (d + 5) j_N_unpackEntry 154 [(0, .ref 16), (1, .ref a), (2, J x), (3, .ref q), (4, J z1), (5, JL z4), (7, J z16), (8, J z18), (9, J z19)] [] s16)) ?_
              refine T.go 1 (fun n9 => (rfl : _ = exe ξ n9 (d + 5) j_N_unpackEntry 156 [(0, .ref 16), (1, .ref a), (2, J x), (3, .ref q), (4, J z1), (5, JL z4), (7, J z16), (8, J z18), (9, J z19)] [J 9] s16)) ?_
              exact T.ireti rfl rfl ⟨_, rfl, gs16, by omega, by omega⟩
            · refine T.go 1 (fun n9 => (rfl : _ = exe ξ n9 (d + 5) j_N_unpackEntry 150 [(0, .ref 16), (1, .ref a), (2, J x), (3, .ref q), (4, J z1), (5, JL z4), (7, J z16), (8, J z18), (9, J z19)] [] s16)) ?_
              refine T.go 2 (fun n9 => (rfl : _ = exe ξ n9 (d + 5) j_N_unpackEntry 156 [(0, .ref 16), (1, .ref a), (2, J x), (3, .ref q), (4, J z1), (5, JL z4), (7, J z16), (8, J z18), (9, J z19)] [J 0] s16)) ?_
              exact T.ireti rfl rfl ⟨_, rfl, gs16, by omega, by omega⟩
            · refine T.go 1 (fun n9 => (rfl : _ = exe ξ n9 (d + 5) j_N_unpackEntry 154 [(0, .ref 16), (1, .ref a), (2, J x), (3, .ref q), (4, J z1), (5, JL z4), (7, J z16), (8, J z18), (9, J z19)] [] s16)) ?_
              refine T.go 1 (fun n9 => (rfl : _ = exe ξ n9 (d + 5) j_N_unpackEntry 156 [(0, .ref 16), (1, .ref a), (2, J x), (3, .ref q), (4, J z1), (5, JL z4), (7, J z16), (8, J z18), (9, J z19)] [J 9] s16)) ?_
              exact T.ireti rfl rfl ⟨_, rfl, gs16, by omega, by omega⟩
          · refine T.go 1 (fun n9 => (rfl : _ = exe ξ n9 (d + 5) j_N_unpackEntry 136 [(0, .ref 16), (1, .ref a), (2, J x), (3, .ref q), (4, J z1), (5, JL z4), (7, J z16), (8, J z18), (9, J z19)] [J 8] s16)) ?_
            exact T.ireti rfl rfl ⟨_, rfl, gs16, by omega, by omega⟩
        · refine T.go 1 (fun n9 => (rfl : _ = exe ξ n9 (d + 5) j_N_unpackEntry 78 [(0, .ref 16), (1, .ref a), (2, J x), (3, .ref q), (4, J z1), (5, JL z4), (7, J z16), (8, J z18)] [J z18] s13)) ?_
          refine T.i2l rfl (by omega) ?_
          refine T.go 1 (fun n9 => (rfl : _ = exe ξ n9 (d + 5) j_N_unpackEntry 81 [(0, .ref 16), (1, .ref a), (2, J x), (3, .ref q), (4, J z1), (5, JL z4), (7, J z16), (8, J z18)] [JL z4, JL z18] s13)) ?_
          refine T.lcmp rfl (by omega) (by omega) (fun c13 => ?_) (fun c13 => ?_) (fun c13 => ?_)
          · refine T.go 1 (fun n9 => (rfl : _ = exe ξ n9 (d + 5) j_N_unpackEntry 104 [(0, .ref 16), (1, .ref a), (2, J x), (3, .ref q), (4, J z1), (5, JL z4), (7, J z16), (8, J z18)] [] s13)) ?_
            refine T.go 6 (fun n9 => (rfl : _ = exe ξ n9 (d + 5) j_N_unpackEntry 136 [(0, .ref 16), (1, .ref a), (2, J x), (3, .ref q), (4, J z1), (5, JL z4), (7, J z16), (8, J z18), (9, J 0)] [J 8] s13)) ?_
            exact T.ireti rfl rfl ⟨_, rfl, hs13, by omega, by omega⟩
          · refine T.go 1 (fun n9 => (rfl : _ = exe ξ n9 (d + 5) j_N_unpackEntry 85 [(0, .ref 16), (1, .ref a), (2, J x), (3, .ref q), (4, J z1), (5, JL z4), (7, J z16), (8, J z18)] [] s13)) ?_
            refine T.go 2 (fun n9 => (rfl : _ = exe ξ n9 (d + 5) j_N_unpackEntry 87 [(0, .ref 16), (1, .ref a), (2, J x), (3, .ref q), (4, J z1), (5, JL z4), (7, J z16), (8, J z18)] [.ref a, .ref q] s13)) ?_
            refine T.get rfl rfl rfl k5 rfl ?_
            refine T.go 2 (fun n9 => (rfl : _ = exe ξ n9 (d + 5) j_N_unpackEntry 94 [(0, .ref 16), (1, .ref a), (2, J x), (3, .ref q), (4, J z1), (5, JL z4), (7, J z16), (8, J z18)] [J z18, J z16, .ref (a + 1), .ref q] s13)) ?_
            obtain ⟨mx9, nx9, bx9, lx9, hrx9, hbx9, fx9a, fx9b, fx9c, fx9d, fx9e, fx9g, fx9h, fx9i⟩ := hs13.1.row hq
            refine T.callv (as := [.ref (a + 1), J z16, J z18]) (r := []) rfl rfl rfl (RwL_lt _ hq).2.2.1 hrx9 rfl (s_R_addPart (d + 3) q (a + 1) z16 z18 s13 hs13.1 hq (kdX_ar _ ha).2.2.1 haq (by omega) (by omega)) (fun v19 s19 hqs19 => ?_)
            obtain ⟨z22, rfl, hs19, hzz22, hyz22, pz22_0⟩ := hqs19
            have es19 := hs19
            have hs19 := hs19.sub (w' := [17, 18, 20, 21, 22, 24, 25, 26, 28, 29, 30, q]) (List.forall_mem_cons.mpr ⟨(by simp), (fun _ h => by cases h)⟩)
            have k8 := es19.b.1 _ _ (nm_c ((by decide : ∀ u ∈ ArL, ∀ v ∈ RwL, u ≠ v) _ ha _ hq) nm_0) (fun l z => by cases z) k5
            have gs19 := hs13.trans hs19
            refine T.if_eq rfl rfl (by omega) (fun c14 => ?_) (fun c14 => ?_)
            · refine T.go 6 (fun n9 => (rfl : _ = exe ξ n9 (d + 5) j_N_unpackEntry 136 [(0, .ref 16), (1, .ref a), (2, J x), (3, .ref q), (4, J z1), (5, JL z4), (7, J z16), (8, J z18), (9, J 0)] [J 8] s19)) ?_
              exact T.ireti rfl rfl ⟨_, rfl, gs19, by omega, by omega⟩
            · refine T.go 6 (fun n9 => (rfl : _ = exe ξ n9 (d + 5) j_N_unpackEntry 138 [(0, .ref 16), (1, .ref a), (2, J x), (3, .ref q), (4, J z1), (5, JL z4), (7, J z16), (8, J z18), (9, J 1)] [.ref q] s19)) ?_
              refine T.calls (as := [.ref q]) (r := []) rfl rfl (by decide) rfl rfl (s_N_sumOf hX0 (d + 3) q s19 hs19.1 hq  ) (fun v20 s20 hqs20 => ?_)
              obtain ⟨z23, rfl, esz23, hzz23, hyz23⟩ := hqs20
              rw [esz23]
              refine T.go 2 (fun n9 => (rfl : _ = exe ξ n9 (d + 5) j_N_unpackEntry 143 [(0, .ref 16), (1, .ref a), (2, J x), (3, .ref q), (4, J z1), (5, JL z4), (7, J z16), (8, J z18), (9, J 1)] [J x, .ref a, JL z23] s19)) ?_
              refine T.callv (as := [J x]) (r := [JL z23]) rfl rfl rfl (ArL_lt _ ha).2.2.1 k8 rfl (s_A_sum (d + 2) a x s19 hs19.1 ha  (by omega)) (fun v21 s21 hqs21 => ?_)
              obtain ⟨z24, rfl, esz24, hzz24, hyz24⟩ := hqs21
              rw [esz24]
              refine T.lcmp rfl (by omega) (by omega) (fun c15 => ?_) (fun c15 => ?_) (fun c15 => ?_)
              · refine T.go 1 (fun n9 => (rfl : _ = exe ξ n9 (d + 5) j_N_unpackEntry 154 [(0, .ref 16), (1, .ref a), (2, J x), (3, .ref q), (4, J z1), (5, JL z4), (7, J z16), (8, J z18), (9, J 1)] [] s19)) ?_
                refine T.go 1 (fun n9 => (rfl : _ = exe ξ n9 (d + 5) j_N_unpackEntry 156 [(0, .ref 16), (1, .ref a), (2, J x), (3, .ref q), (4, J z1), (5, JL z4), (7, J z16), (8, J z18), (9, J 1)] [J 9] s19)) ?_
                exact T.ireti rfl rfl ⟨_, rfl, gs19, by omega, by omega⟩
              · refine T.go 1 (fun n9 => (rfl : _ = exe ξ n9 (d + 5) j_N_unpackEntry 150 [(0, .ref 16), (1, .ref a), (2, J x), (3, .ref q), (4, J z1), (5, JL z4), (7, J z16), (8, J z18), (9, J 1)] [] s19)) ?_
                refine T.go 2 (fun n9 => (rfl : _ = exe ξ n9 (d + 5) j_N_unpackEntry 156 [(0, .ref 16), (1, .ref a), (2, J x), (3, .ref q), (4, J z1), (5, JL z4), (7, J z16), (8, J z18), (9, J 1)] [J 0] s19)) ?_
                exact T.ireti rfl rfl ⟨_, rfl, gs19, by omega, by omega⟩
              · refine T.go 1 (fun n9 => (rfl : _ = exe ξ n9 (d + 5) j_N_unpackEntry 154 [(0, .ref 16), (1, .ref a), (2, J x), (3, .ref q), (4, J z1), (5, JL z4), (7, J z16), (8, J z18), (9, J 1)] [] s19)) ?_
                refine T.go 1 (fun n9 => (rfl : _ = exe ξ n9 (d + 5) j_N_unpackEntry 156 [(0, .ref 16), (1, .ref a), (2, J x), (3, .ref q), (4, J z1), (5, JL z4), (7, J z16), (8, J z18), (9, J 1)] [J 9] s19)) ?_
                exact T.ireti rfl rfl ⟨_, rfl, gs19, by omega, by omega⟩
          · refine T.go 1 (fun n9 => (rfl : _ = exe ξ n9 (d + 5) j_N_unpackEntry 104 [(0, .ref 16), (1, .ref a), (2, J x), (3, .ref q), (4, J z1), (5, JL z4), (7, J z16), (8, J z18)] [] s13)) ?_
            refine T.go 6 (fun n9 => (rfl : _ = exe ξ n9 (d + 5) j_N_unpackEntry 136 [(0, .ref 16), (1, .ref a), (2, J x), (3, .ref q), (4, J z1), (5, JL z4), (7, J z16), (8, J z18), (9, J 0)] [J 8] s13)) ?_
            exact T.ireti rfl rfl ⟨_, rfl, hs13, by omega, by omega⟩
      · refine T.go 1 (fun n9 => (rfl : _ = exe ξ n9 (d + 5) j_N_unpackEntry 49 [(0, .ref 16), (1, .ref a), (2, J x), (3, .ref q), (4, J z1), (5, JL z4)] [] σ)) ?_
        refine T.go 1 (fun n9 => (rfl : _ = exe ξ n9 (d + 5) j_N_unpackEntry 51 [(0, .ref 16), (1, .ref a), (2, J x), (3, .ref q), (4, J z1), (5, JL z4)] [J 7] σ)) ?_
        exact T.ireti rfl rfl ⟨_, rfl, (Fr.refl hK), by omega, by omega⟩
    · refine T.go 2 (fun n9 => (rfl : _ = exe ξ n9 (d + 5) j_N_unpackEntry 27 [(0, .ref 16), (1, .ref a), (2, J x), (3, .ref q), (4, J z1)] [J 8, J z1] σ)) ?_
      refine T.icmp_eq rfl rfl (by omega) (by omega) (fun c16 => ?_) (fun c16 => ?_)
      · refine T.go 2 (fun n9 => (rfl : _ = exe ξ n9 (d + 5) j_N_unpackEntry 35 [(0, .ref 16), (1, .ref a), (2, J x), (3, .ref q), (4, J z1)] [J x, .ref a] σ)) ?_
        refine T.callv (as := [J x]) (r := []) rfl rfl rfl (ArL_lt _ ha).2.2.1 hax1 rfl (s_A_size (d + 2) a x σ hK ha  (by omega)) (fun v22 s22 hqs22 => ?_)
        obtain ⟨z25, rfl, esz25, hzz25, hyz25⟩ := hqs22
        rw [esz25]
        refine T.go 2 (fun n9 => (rfl : _ = exe ξ n9 (d + 5) j_N_unpackEntry 42 [(0, .ref 16), (1, .ref a), (2, J x), (3, .ref q), (4, J z1), (5, JL z25)] [JL z25] σ)) ?_
        refine T.go 1 (fun n9 => (rfl : _ = exe ξ n9 (d + 5) j_N_unpackEntry 45 [(0, .ref 16), (1, .ref a), (2, J x), (3, .ref q), (4, J z1), (5, JL z25)] [JL 8000, JL z25] σ)) ?_
        refine T.lcmp rfl (by omega) (by omega) (fun c17 => ?_) (fun c17 => ?_) (fun c17 => ?_)
        · refine T.go 1 (fun n9 => (rfl : _ = exe ξ n9 (d + 5) j_N_unpackEntry 52 [(0, .ref 16), (1, .ref a), (2, J x), (3, .ref q), (4, J z1), (5, JL z25)] [] σ)) ?_
          refine T.go 1 (fun n9 => (rfl : _ = exe ξ n9 (d + 5) j_N_unpackEntry 53 [(0, .ref 16), (1, .ref a), (2, J x), (3, .ref q), (4, J z1), (5, JL z25)] [.ref q] σ)) ?_
          obtain ⟨mx10, nx10, bx10, lx10, hrx10, hbx10, fx10a, fx10b, fx10c, fx10d, fx10e, fx10g, fx10h, fx10i⟩ := hK.row hq
          refine T.callv (as := []) (r := []) rfl rfl rfl (RwL_lt _ hq).2.2.1 hrx10 rfl (s_R_clear (d + 4) q σ hK hq  ) (fun v23 s23 hqs23 => ?_)
          obtain ⟨rfl, hs23, pz26_0, pz26_1⟩ := hqs23
          have es23 := hs23
          have hs23 := hs23.sub (w' := [17, 18, 20, 21, 22, 24, 25, 26, 28, 29, 30, q]) (List.forall_mem_cons.mpr ⟨(by simp), (fun _ h => by cases h)⟩)
          have k9 := es23.b.1 _ _ (nm_c ((by decide : ∀ u ∈ ArL, ∀ v ∈ RwL, u ≠ v) _ ha _ hq) nm_0) (fun l z => by cases z) hax1
          refine T.go 2 (fun n9 => (rfl : _ = exe ξ n9 (d + 5) j_N_unpackEntry 58 [(0, .ref 16), (1, .ref a), (2, J x), (3, .ref q), (4, J z1), (5, JL z25)] [J x, .ref a] s23)) ?_
          refine T.callv (as := [J x]) (r := []) rfl rfl rfl (ArL_lt _ ha).2.2.1 k9 rfl (s_A_dataPlace (d + 3) a x s23 hs23.1 ha  (by omega)) (fun v24 s24 hqs24 => ?_)
          obtain ⟨z27, rfl, esz27, hzz27, hyz27⟩ := hqs24
          rw [esz27]
          refine T.go 3 (fun n9 => (rfl : _ = exe ξ n9 (d + 5) j_N_unpackEntry 65 [(0, .ref 16), (1, .ref a), (2, J x), (3, .ref q), (4, J z1), (5, JL z25), (7, J z27)] [J x, .ref a] s23)) ?_
          refine T.callv (as := [J x]) (r := []) rfl rfl rfl (ArL_lt _ ha).2.2.1 k9 rfl (s_A_packedSize (d + 2) a x s23 hs23.1 ha  (by omega)) (fun v25 s25 hqs25 => ?_)
          obtain ⟨z28, rfl, esz28, hzz28, hyz28⟩ := hqs25
          rw [esz28]
          refine T.l2i rfl ?_
          refine T.norm (fun z29 hzz29 hyz29 hwz29 => ?_)
          refine T.go 2 (fun n9 => (rfl : _ = exe ξ n9 (d + 5) j_N_unpackEntry 73 [(0, .ref 16), (1, .ref a), (2, J x), (3, .ref q), (4, J z1), (5, JL z25), (7, J z27), (8, J z29)] [J z1] s23)) ?_
          refine T.if_ne rfl rfl (by omega) (fun c18 => ?_) (fun c18 => ?_)
          · refine T.go 1 (fun n9 => (rfl : _ = exe ξ n9 (d + 5) j_N_unpackEntry 109 [(0, .ref 16), (1, .ref a), (2, J x), (3, .ref q), (4, J z1), (5, JL z25), (7, J z27), (8, J z29)] [.ref 16] s23)) ?_
            obtain ⟨kex11, scx11, tpx11, oux11, mox11, sgx11, hox11, mcx11, lfx11, lpx11, hNx11, fx11ke, fx11sc, fx11tp, fx11ou, fx11mo, fx11sg, fx11d, fx11e, fx11f, fx11g, fx11h, fx11i, fx11j⟩ := hs23.1.na
            refine T.get rfl rfl rfl hNx11 rfl ?_
            refine T.go 1 (fun n9 => (rfl : _ = exe ξ n9 (d + 5) j_N_unpackEntry 113 [(0, .ref 16), (1, .ref a), (2, J x), (3, .ref q), (4, J z1), (5, JL z25), (7, J z27), (8, J z29)] [.ref a, .ref 17] s23)) ?_
            refine T.get rfl rfl rfl k9 rfl ?_
            refine T.go 4 (fun n9 => (rfl : _ = exe ξ n9 (d + 5) j_N_unpackEntry 123 [(0, .ref 16), (1, .ref a), (2, J x), (3, .ref q), (4, J z1), (5, JL z25), (7, J z27), (8, J z29)] [JL z25, .ref q, J z29, J z27, .ref (a + 1), .ref 17] s23)) ?_
            refine T.l2i rfl ?_
            obtain ⟨sx12, tx12, wx12, bix12, bex12, rox12, hux12, fx12a, fx12b, fx12c, fx12d, fx12e, fx12f, fx12g, fx12h, fx12i⟩ := hs23.1.unp
            refine T.callv (as := [.ref (a + 1), J z27, J z29, .ref q, J z25]) (r := []) rfl rfl rfl rfl hux12 rfl (s_U_unpack hX0 d (a + 1) z27 z29 q z25 s23 hs23.1 (kdX_ar _ ha).2.2.1 hq haq (by omega) (by omega) (by omega) (by omega) (by omega)) (fun v26 s26 hqs26 => ?_)
            obtain ⟨z30, rfl, hs26, hzz30, hyz30⟩ := hqs26
            have es26 := hs26
            have k10 := es26.b.1 _ _ (nm_c ((by decide : ∀ u ∈ ArL, u ≠ 17) _ ha) (nm_c ((by decide : ∀ u ∈ ArL, u ≠ 18) _ ha) (nm_c ((by decide : ∀ u ∈ ArL, u ≠ 20) _ ha) (nm_c ((by decide : ∀ u ∈ ArL, u ≠ 21) _ ha) (nm_c ((by decide : ∀ u ∈ ArL, u ≠ 22) _ ha) (nm_c ((by decide : ∀ u ∈ ArL, u ≠ 24) _ ha) (nm_c ((by decide : ∀ u ∈ ArL, u ≠ 25) _ ha) (nm_c ((by decide : ∀ u ∈ ArL, u ≠ 26) _ ha) (nm_c ((by decide : ∀ u ∈ ArL, u ≠ 28) _ ha) (nm_c ((by decide : ∀ u ∈ ArL, u ≠ 29) _ ha) (nm_c ((by decide : ∀ u ∈ ArL, u ≠ 30) _ ha) (nm_c ((by decide : ∀ u ∈ ArL, ∀ v ∈ RwL, u ≠ v) _ ha _ hq) nm_0)))))))))))) (fun l z => by cases z) k9
            have k11 := es26.b.1 _ _ (nm_c (by decide) (nm_c (by decide) (nm_c (by decide) (nm_c (by decide) (nm_c (by decide) (nm_c (by decide) (nm_c (by decide) (nm_c (by decide) (nm_c (by decide) (nm_c (by decide) (nm_c (by decide) (nm_c ((by decide : ∀ v ∈ RwL, (16 : Nat) ≠ v) _ hq) nm_0)))))))))))) (fun l z => by cases z) hNx11
            have gs26 := hs23.trans hs26
            refine T.go 2 (fun n9 => (rfl : _ = exe ξ n9 (d + 5) j_N_unpackEntry 131 [(0, .ref 16), (1, .ref a), (2, J x), (3, .ref q), (4, J z1), (5, JL z25), (7, J z27), (8, J z29), (9, J z30)] [J z30] s26)) ?_
            refine T.if_ne rfl rfl (by omega) (fun c19 => ?_) (fun c19 => ?_)
            · refine T.go 1 (fun n9 => (rfl : _ = exe ξ n9 (d + 5) j_N_unpackEntry 138 [(0, .ref 16), (1, .ref a), (2, J x), (3, .ref q), (4, J z1), (5, JL z25), (7, J z27), (8, J z29), (9, J z30)] [.ref q] s26)) ?_
              refine T.calls (as := [.ref q]) (r := []) rfl rfl (by decide) rfl rfl (s_N_sumOf hX0 (d + 3) q s26 hs26.1 hq  ) (fun v27 s27 hqs27 => ?_)
              obtain ⟨z31, rfl, esz31, hzz31, hyz31⟩ := hqs27
              rw [esz31]
              refine T.go 2 (fun n9 => (rfl : _ = exe ξ n9 (d + 5) j_N_unpackEntry 143 [(0, .ref 16), (1, .ref a), (2, J x), (3, .ref q), (4, J z1), (5, JL z25), (7, J z27), (8, J z29), (9, J z30)] [J x, .ref a, JL z31] s26)) ?_
              refine T.callv (as := [J x]) (r := [JL z31]) rfl rfl rfl (ArL_lt _ ha).2.2.1 k10 rfl (s_A_sum (d + 2) a x s26 hs26.1 ha  (by omega)) (fun v28 s28 hqs28 => ?_)
              obtain ⟨z32, rfl, esz32, hzz32, hyz32⟩ := hqs28
              rw [esz32]
              refine T.lcmp rfl (by omega) (by omega) (fun c20 => ?_) (fun c20 => ?_) (fun c20 => ?_)
              · refine T.go 1 (fun n9 => (rfl : _ = exe ξ n9 (d + 5) j_N_unpackEntry 154 [(0, .ref 16), (1, .ref a), (2, J x), (3, .ref q), (4, J z1), (5, JL z25), (7, J z27), (8, J z29), (9, J z30)] [] s26)) ?_
                refine T.go 1 (fun n9 => (rfl : _ = exe ξ n9 (d + 5) j_N_unpackEntry 156 [(0, .ref 16), (1, .ref a), (2, J x), (3, .ref q), (4, J z1), (5, JL z25), (7, J z27), (8, J z29), (9, J z30)] [J 9] s26)) ?_
                exact T.ireti rfl rfl ⟨_, rfl, gs26, by omega, by omega⟩
              · refine T.go 1 (fun n9 => (rfl : _ = exe ξ n9 (d + 5) j_N_unpackEntry 150 [(0, .ref 16), (1, .ref a), (2, J x), (3, .ref q), (4, J z1), (5, JL z25), (7, J z27), (8, J z29), (9, J z30)] [] s26)) ?_
                refine T.go 2 (fun n9 => (rfl : _ = exe ξ n9 (d + 5) j_N_unpackEntry 156 [(0, .ref 16), (1, .ref a), (2, J x), (3, .ref q), (4, J z1), (5, JL z25), (7, J z27), (8, J z29), (9, J z30)] [J 0] s26)) ?_
                exact T.ireti rfl rfl ⟨_, rfl, gs26, by omega, by omega⟩
              · refine T.go 1 (fun n9 => (rfl : _ = exe ξ n9 (d + 5) j_N_unpackEntry 154 [(0, .ref 16), (1, .ref a), (2, J x), (3, .ref q), (4, J z1), (5, JL z25), (7, J z27), (8, J z29), (9, J z30)] [] s26)) ?_
                refine T.go 1 (fun n9 => (rfl : _ = exe ξ n9 (d + 5) j_N_unpackEntry 156 [(0, .ref 16), (1, .ref a), (2, J x), (3, .ref q), (4, J z1), (5, JL z25), (7, J z27), (8, J z29), (9, J z30)] [J 9] s26)) ?_
                exact T.ireti rfl rfl ⟨_, rfl, gs26, by omega, by omega⟩
            · refine T.go 1 (fun n9 => (rfl : _ = exe ξ n9 (d + 5) j_N_unpackEntry 136 [(0, .ref 16), (1, .ref a), (2, J x), (3, .ref q), (4, J z1), (5, JL z25), (7, J z27), (8, J z29), (9, J z30)] [J 8] s26)) ?_
              exact T.ireti rfl rfl ⟨_, rfl, gs26, by omega, by omega⟩
          · refine T.go 1 (fun n9 => (rfl : _ = exe ξ n9 (d + 5) j_N_unpackEntry 78 [(0, .ref 16), (1, .ref a), (2, J x), (3, .ref q), (4, J z1), (5, JL z25), (7, J z27), (8, J z29)] [J z29] s23)) ?_
            refine T.i2l rfl (by omega) ?_
            refine T.go 1 (fun n9 => (rfl : _ = exe ξ n9 (d + 5) j_N_unpackEntry 81 [(0, .ref 16), (1, .ref a), (2, J x), (3, .ref q), (4, J z1), (5, JL z25), (7, J z27), (8, J z29)] [JL z25, JL z29] s23)) ?_
            refine T.lcmp rfl (by omega) (by omega) (fun c21 => ?_) (fun c21 => ?_) (fun c21 => ?_)
            · refine T.go 1 (fun n9 => (rfl : _ = exe ξ n9 (d + 5) j_N_unpackEntry 104 [(0, .ref 16), (1, .ref a), (2, J x), (3, .ref q), (4, J z1), (5, JL z25), (7, J z27), (8, J z29)] [] s23)) ?_
              refine T.go 6 (fun n9 => (rfl : _ = exe ξ n9 (d + 5) j_N_unpackEntry 136 [(0, .ref 16), (1, .ref a), (2, J x), (3, .ref q), (4, J z1), (5, JL z25), (7, J z27), (8, J z29), (9, J 0)] [J 8] s23)) ?_
              exact T.ireti rfl rfl ⟨_, rfl, hs23, by omega, by omega⟩
            · refine T.go 1 (fun n9 => (rfl : _ = exe ξ n9 (d + 5) j_N_unpackEntry 85 [(0, .ref 16), (1, .ref a), (2, J x), (3, .ref q), (4, J z1), (5, JL z25), (7, J z27), (8, J z29)] [] s23)) ?_
              refine T.go 2 (fun n9 => (rfl : _ = exe ξ n9 (d + 5) j_N_unpackEntry 87 [(0, .ref 16), (1, .ref a), (2, J x), (3, .ref q), (4, J z1), (5, JL z25), (7, J z27), (8, J z29)] [.ref a, .ref q] s23)) ?_
              refine T.get rfl rfl rfl k9 rfl ?_
              refine T.go 2 (fun n9 => (rfl : _ = exe ξ n9 (d + 5) j_N_unpackEntry 94 [(0, .ref 16), (1, .ref a), (2, J x), (3, .ref q), (4, J z1), (5, JL z25), (7, J z27), (8, J z29)] [J z29, J z27, .ref (a + 1), .ref q] s23)) ?_
              obtain ⟨mx13, nx13, bx13, lx13, hrx13, hbx13, fx13a, fx13b, fx13c, fx13d, fx13e, fx13g, fx13h, fx13i⟩ := hs23.1.row hq
              refine T.callv (as := [.ref (a + 1), J z27, J z29]) (r := []) rfl rfl rfl (RwL_lt _ hq).2.2.1 hrx13 rfl (s_R_addPart (d + 3) q (a + 1) z27 z29 s23 hs23.1 hq (kdX_ar _ ha).2.2.1 haq (by omega) (by omega)) (fun v29 s29 hqs29 => ?_)
              obtain ⟨z33, rfl, hs29, hzz33, hyz33, pz33_0⟩ := hqs29
              have es29 := hs29
              have hs29 := hs29.sub (w' := [17, 18, 20, 21, 22, 24, 25, 26, 28, 29, 30, q]) (List.forall_mem_cons.mpr ⟨(by simp), (fun _ h => by cases h)⟩)
              have k12 := es29.b.1 _ _ (nm_c ((by decide : ∀ u ∈ ArL, ∀ v ∈ RwL, u ≠ v) _ ha _ hq) nm_0) (fun l z => by cases z) k9
              have gs29 := hs23.trans hs29
              refine T.if_eq rfl rfl (by omega) (fun c22 => ?_) (fun c22 => ?_)
              · refine T.go 6 (fun n9 => (rfl : _ = exe ξ n9 (d + 5) j_N_unpackEntry 136 [(0, .ref 16), (1, .ref a), (2, J x), (3, .ref q), (4, J z1), (5, JL z25), (7, J z27), (8, J z29), (9, J 0)] [J 8] s29)) ?_
                exact T.ireti rfl rfl ⟨_, rfl, gs29, by omega, by omega⟩
              · refine T.go 6 (fun n9 => (rfl : _ = exe ξ n9 (d + 5) j_N_unpackEntry 138 [(0, .ref 16), (1, .ref a), (2, J x), (3, .ref q), (4, J z1), (5, JL z25), (7, J z27), (8, J z29), (9, J 1)] [.ref q] s29)) ?_
                refine T.calls (as := [.ref q]) (r := []) rfl rfl (by decide) rfl rfl (s_N_sumOf hX0 (d + 3) q s29 hs29.1 hq  ) (fun v30 s30 hqs30 => ?_)
                obtain ⟨z34, rfl, esz34, hzz34, hyz34⟩ := hqs30
                rw [esz34]
                refine T.go 2 (fun n9 => (rfl : _ = exe ξ n9 (d + 5) j_N_unpackEntry 143 [(0, .ref 16), (1, .ref a), (2, J x), (3, .ref q), (4, J z1), (5, JL z25), (7, J z27), (8, J z29), (9, J 1)] [J x, .ref a, JL z34] s29)) ?_
                refine T.callv (as := [J x]) (r := [JL z34]) rfl rfl rfl (ArL_lt _ ha).2.2.1 k12 rfl (s_A_sum (d + 2) a x s29 hs29.1 ha  (by omega)) (fun v31 s31 hqs31 => ?_)
                obtain ⟨z35, rfl, esz35, hzz35, hyz35⟩ := hqs31
                rw [esz35]
                refine T.lcmp rfl (by omega) (by omega) (fun c23 => ?_) (fun c23 => ?_) (fun c23 => ?_)
                · refine T.go 1 (fun n9 => (rfl : _ = exe ξ n9 (d + 5) j_N_unpackEntry 154 [(0, .ref 16), (1, .ref a), (2, J x), (3, .ref q), (4, J z1), (5, JL z25), (7, J z27), (8, J z29), (9, J 1)] [] s29)) ?_
                  refine T.go 1 (fun n9 => (rfl : _ = exe ξ n9 (d + 5) j_N_unpackEntry 156 [(0, .ref 16), (1, .ref a), (2, J x), (3, .ref q), (4, J z1), (5, JL z25), (7, J z27), (8, J z29), (9, J 1)] [J 9] s29)) ?_
                  exact T.ireti rfl rfl ⟨_, rfl, gs29, by omega, by omega⟩
                · refine T.go 1 (fun n9 => (rfl : _ = exe ξ n9 (d + 5) j_N_unpackEntry 150 [(0, .ref 16), (1, .ref a), (2, J x), (3, .ref q), (4, J z1), (5, JL z25), (7, J z27), (8, J z29), (9, J 1)] [] s29)) ?_
                  refine T.go 2 (fun n9 => (rfl : _ = exe ξ n9 (d + 5) j_N_unpackEntry 156 [(0, .ref 16), (1, .ref a), (2, J x), (3, .ref q), (4, J z1), (5, JL z25), (7, J z27), (8, J z29), (9, J 1)] [J 0] s29)) ?_
                  exact T.ireti rfl rfl ⟨_, rfl, gs29, by omega, by omega⟩
                · refine T.go 1 (fun n9 => (rfl : _ = exe ξ n9 (d + 5) j_N_unpackEntry 154 [(0, .ref 16), (1, .ref a), (2, J x), (3, .ref q), (4, J z1), (5, JL z25), (7, J z27), (8, J z29), (9, J 1)] [] s29)) ?_
                  refine T.go 1 (fun n9 => (rfl : _ = exe ξ n9 (d + 5) j_N_unpackEntry 156 [(0, .ref 16), (1, .ref a), (2, J x), (3, .ref q), (4, J z1), (5, JL z25), (7, J z27), (8, J z29), (9, J 1)] [J 9] s29)) ?_
                  exact T.ireti rfl rfl ⟨_, rfl, gs29, by omega, by omega⟩
            · refine T.go 1 (fun n9 => (rfl : _ = exe ξ n9 (d + 5) j_N_unpackEntry 104 [(0, .ref 16), (1, .ref a), (2, J x), (3, .ref q), (4, J z1), (5, JL z25), (7, J z27), (8, J z29)] [] s23)) ?_
              refine T.go 6 (fun n9 => (rfl : _ = exe ξ n9 (d + 5) j_N_unpackEntry 136 [(0, .ref 16), (1, .ref a), (2, J x), (3, .ref q), (4, J z1), (5, JL z25), (7, J z27), (8, J z29), (9, J 0)] [J 8] s23)) ?_
              exact T.ireti rfl rfl ⟨_, rfl, hs23, by omega, by omega⟩
        · refine T.go 1 (fun n9 => (rfl : _ = exe ξ n9 (d + 5) j_N_unpackEntry 52 [(0, .ref 16), (1, .ref a), (2, J x), (3, .ref q), (4, J z1), (5, JL z25)] [] σ)) ?_
          refine T.go 1 (fun n9 => (rfl : _ = exe ξ n9 (d + 5) j_N_unpackEntry 53 [(0, .ref 16), (1, .ref a), (2, J x), (3, .ref q), (4, J z1), (5, JL z25)] [.ref q] σ)) ?_
          obtain ⟨mx14, nx14, bx14, lx14, hrx14, hbx14, fx14a, fx14b, fx14c, fx14d, fx14e, fx14g, fx14h, fx14i⟩ := hK.row hq
          refine T.callv (as := []) (r := []) rfl rfl rfl (RwL_lt _ hq).2.2.1 hrx14 rfl (s_R_clear (d + 4) q σ hK hq  ) (fun v32 s32 hqs32 => ?_)
          obtain ⟨rfl, hs32, pz36_0, pz36_1⟩ := hqs32
          have es32 := hs32
          have hs32 := hs32.sub (w' := [17, 18, 20, 21, 22, 24, 25, 26, 28, 29, 30, q]) (List.forall_mem_cons.mpr ⟨(by simp), (fun _ h => by cases h)⟩)
          have k13 := es32.b.1 _ _ (nm_c ((by decide : ∀ u ∈ ArL, ∀ v ∈ RwL, u ≠ v) _ ha _ hq) nm_0) (fun l z => by cases z) hax1
          refine T.go 2 (fun n9 => (rfl : _ = exe ξ n9 (d + 5) j_N_unpackEntry 58 [(0, .ref 16), (1, .ref a), (2, J x), (3, .ref q), (4, J z1), (5, JL z25)] [J x, .ref a] s32)) ?_
          refine T.callv (as := [J x]) (r := []) rfl rfl rfl (ArL_lt _ ha).2.2.1 k13 rfl (s_A_dataPlace (d + 3) a x s32 hs32.1 ha  (by omega)) (fun v33 s33 hqs33 => ?_)
          obtain ⟨z37, rfl, esz37, hzz37, hyz37⟩ := hqs33
          rw [esz37]
          refine T.go 3 (fun n9 => (rfl : _ = exe ξ n9 (d + 5) j_N_unpackEntry 65 [(0, .ref 16), (1, .ref a), (2, J x), (3, .ref q), (4, J z1), (5, JL z25), (7, J z37)] [J x, .ref a] s32)) ?_
          refine T.callv (as := [J x]) (r := []) rfl rfl rfl (ArL_lt _ ha).2.2.1 k13 rfl (s_A_packedSize (d + 2) a x s32 hs32.1 ha  (by omega)) (fun v34 s34 hqs34 => ?_)
          obtain ⟨z38, rfl, esz38, hzz38, hyz38⟩ := hqs34
          rw [esz38]
          refine T.l2i rfl ?_
          refine T.norm (fun z39 hzz39 hyz39 hwz39 => ?_)
          refine T.go 2 (fun n9 => (rfl : _ = exe ξ n9 (d + 5) j_N_unpackEntry 73 [(0, .ref 16), (1, .ref a), (2, J x), (3, .ref q), (4, J z1), (5, JL z25), (7, J z37), (8, J z39)] [J z1] s32)) ?_
          refine T.if_ne rfl rfl (by omega) (fun c24 => ?_) (fun c24 => ?_)
          · refine T.go 1 (fun n9 => (rfl : _ = exe ξ n9 (d + 5) j_N_unpackEntry 109 [(0, .ref 16), (1, .ref a), (2, J x), (3, .ref q), (4, J z1), (5, JL z25), (7, J z37), (8, J z39)] [.ref 16] s32)) ?_
            obtain ⟨kex15, scx15, tpx15, oux15, mox15, sgx15, hox15, mcx15, lfx15, lpx15, hNx15, fx15ke, fx15sc, fx15tp, fx15ou, fx15mo, fx15sg, fx15d, fx15e, fx15f, fx15g, fx15h, fx15i, fx15j⟩ := hs32.1.na
            refine T.get rfl rfl rfl hNx15 rfl ?_
            refine T.go 1 (fun n9 => (rfl : _ = exe ξ n9 (d + 5) j_N_unpackEntry 113 [(0, .ref 16), (1, .ref a), (2, J x), (3, .ref q), (4, J z1), (5, JL z25), (7, J z37), (8, J z39)] [.ref a, .ref 17] s32)) ?_
            refine T.get rfl rfl rfl k13 rfl ?_
            refine T.go 4 (fun n9 => (rfl : _ = exe ξ n9 (d + 5) j_N_unpackEntry 123 [(0, .ref 16), (1, .ref a), (2, J x), (3, .ref q), (4, J z1), (5, JL z25), (7, J z37), (8, J z39)] [JL z25, .ref q, J z39, J z37, .ref (a + 1), .ref 17] s32)) ?_
            refine T.l2i rfl ?_
            obtain ⟨sx16, tx16, wx16, bix16, bex16, rox16, hux16, fx16a, fx16b, fx16c, fx16d, fx16e, fx16f, fx16g, fx16h, fx16i⟩ := hs32.1.unp
            refine T.callv (as := [.ref (a + 1), J z37, J z39, .ref q, J z25]) (r := []) rfl rfl rfl rfl hux16 rfl (s_U_unpack hX0 d (a + 1) z37 z39 q z25 s32 hs32.1 (kdX_ar _ ha).2.2.1 hq haq (by omega) (by omega) (by omega) (by omega) (by omega)) (fun v35 s35 hqs35 => ?_)
            obtain ⟨z40, rfl, hs35, hzz40, hyz40⟩ := hqs35
            have es35 := hs35
            have k14 := es35.b.1 _ _ (nm_c ((by decide : ∀ u ∈ ArL, u ≠ 17) _ ha) (nm_c ((by decide : ∀ u ∈ ArL, u ≠ 18) _ ha) (nm_c ((by decide : ∀ u ∈ ArL, u ≠ 20) _ ha) (nm_c ((by decide : ∀ u ∈ ArL, u ≠ 21) _ ha) (nm_c ((by decide : ∀ u ∈ ArL, u ≠ 22) _ ha) (nm_c ((by decide : ∀ u ∈ ArL, u ≠ 24) _ ha) (nm_c ((by decide : ∀ u ∈ ArL, u ≠ 25) _ ha) (nm_c ((by decide : ∀ u ∈ ArL, u ≠ 26) _ ha) (nm_c ((by decide : ∀ u ∈ ArL, u ≠ 28) _ ha) (nm_c ((by decide : ∀ u ∈ ArL, u ≠ 29) _ ha) (nm_c ((by decide : ∀ u ∈ ArL, u ≠ 30) _ ha) (nm_c ((by decide : ∀ u ∈ ArL, ∀ v ∈ RwL, u ≠ v) _ ha _ hq) nm_0)))))))))))) (fun l z => by cases z) k13
            have k15 := es35.b.1 _ _ (nm_c (by decide) (nm_c (by decide) (nm_c (by decide) (nm_c (by decide) (nm_c (by decide) (nm_c (by decide) (nm_c (by decide) (nm_c (by decide) (nm_c (by decide) (nm_c (by decide) (nm_c (by decide) (nm_c ((by decide : ∀ v ∈ RwL, (16 : Nat) ≠ v) _ hq) nm_0)))))))))))) (fun l z => by cases z) hNx15
            have gs35 := hs32.trans hs35
            refine T.go 2 (fun n9 => (rfl : _ = exe ξ n9 (d + 5) j_N_unpackEntry 131 [(0, .ref 16), (1, .ref a), (2, J x), (3, .ref q), (4, J z1), (5, JL z25), (7, J z37), (8, J z39), (9, J z40)] [J z40] s35)) ?_
            refine T.if_ne rfl rfl (by omega) (fun c25 => ?_) (fun c25 => ?_)
            · refine T.go 1 (fun n9 => (rfl : _ = exe ξ n9 (d + 5) j_N_unpackEntry 138 [(0, .ref 16), (1, .ref a), (2, J x), (3, .ref q), (4, J z1), (5, JL z25), (7, J z37), (8, J z39), (9, J z40)] [.ref q] s35)) ?_
              refine T.calls (as := [.ref q]) (r := []) rfl rfl (by decide) rfl rfl (s_N_sumOf hX0 (d + 3) q s35 hs35.1 hq  ) (fun v36 s36 hqs36 => ?_)
              obtain ⟨z41, rfl, esz41, hzz41, hyz41⟩ := hqs36
              rw [esz41]
              refine T.go 2 (fun n9 => (rfl : _ = exe ξ n9 (d + 5) j_N_unpackEntry 143 [(0, .ref 16), (1, .ref a), (2, J x), (3, .ref q), (4, J z1), (5, JL z25), (7, J z37), (8, J z39), (9, J z40)] [J x, .ref a, JL z41] s35)) ?_
              refine T.callv (as := [J x]) (r := [JL z41]) rfl rfl rfl (ArL_lt _ ha).2.2.1 k14 rfl (s_A_sum (d + 2) a x s35 hs35.1 ha  (by omega)) (fun v37 s37 hqs37 => ?_)
              obtain ⟨z42, rfl, esz42, hzz42, hyz42⟩ := hqs37
              rw [esz42]
              refine T.lcmp rfl (by omega) (by omega) (fun c26 => ?_) (fun c26 => ?_) (fun c26 => ?_)
              · refine T.go 1 (fun n9 => (rfl : _ = exe ξ n9 (d + 5) j_N_unpackEntry 154 [(0, .ref 16), (1, .ref a), (2, J x), (3, .ref q), (4, J z1), (5, JL z25), (7, J z37), (8, J z39), (9, J z40)] [] s35)) ?_
                refine T.go 1 (fun n9 => (rfl : _ = exe ξ n9 (d + 5) j_N_unpackEntry 156 [(0, .ref 16), (1, .ref a), (2, J x), (3, .ref q), (4, J z1), (5, JL z25), (7, J z37), (8, J z39), (9, J z40)] [J 9] s35)) ?_
                exact T.ireti rfl rfl ⟨_, rfl, gs35, by omega, by omega⟩
              · refine T.go 1 (fun n9 => (rfl : _ = exe ξ n9 (d + 5) j_N_unpackEntry 150 [(0, .ref 16), (1, .ref a), (2, J x), (3, .ref q), (4, J z1), (5, JL z25), (7, J z37), (8, J z39), (9, J z40)] [] s35)) ?_
                refine T.go 2 (fun n9 => (rfl : _ = exe ξ n9 (d + 5) j_N_unpackEntry 156 [(0, .ref 16), (1, .ref a), (2, J x), (3, .ref q), (4, J z1), (5, JL z25), (7, J z37), (8, J z39), (9, J z40)] [J 0] s35)) ?_
                exact T.ireti rfl rfl ⟨_, rfl, gs35, by omega, by omega⟩
              · refine T.go 1 (fun n9 => (rfl : _ = exe ξ n9 (d + 5) j_N_unpackEntry 154 [(0, .ref 16), (1, .ref a), (2, J x), (3, .ref q), (4, J z1), (5, JL z25), (7, J z37), (8, J z39), (9, J z40)] [] s35)) ?_
                refine T.go 1 (fun n9 => (rfl : _ = exe ξ n9 (d + 5) j_N_unpackEntry 156 [(0, .ref 16), (1, .ref a), (2, J x), (3, .ref q), (4, J z1), (5, JL z25), (7, J z37), (8, J z39), (9, J z40)] [J 9] s35)) ?_
                exact T.ireti rfl rfl ⟨_, rfl, gs35, by omega, by omega⟩
            · refine T.go 1 (fun n9 => (rfl : _ = exe ξ n9 (d + 5) j_N_unpackEntry 136 [(0, .ref 16), (1, .ref a), (2, J x), (3, .ref q), (4, J z1), (5, JL z25), (7, J z37), (8, J z39), (9, J z40)] [J 8] s35)) ?_
              exact T.ireti rfl rfl ⟨_, rfl, gs35, by omega, by omega⟩
          · refine T.go 1 (fun n9 => (rfl : _ = exe ξ n9 (d + 5) j_N_unpackEntry 78 [(0, .ref 16), (1, .ref a), (2, J x), (3, .ref q), (4, J z1), (5, JL z25), (7, J z37), (8, J z39)] [J z39] s32)) ?_
            refine T.i2l rfl (by omega) ?_
            refine T.go 1 (fun n9 => (rfl : _ = exe ξ n9 (d + 5) j_N_unpackEntry 81 [(0, .ref 16), (1, .ref a), (2, J x), (3, .ref q), (4, J z1), (5, JL z25), (7, J z37), (8, J z39)] [JL z25, JL z39] s32)) ?_
            refine T.lcmp rfl (by omega) (by omega) (fun c27 => ?_) (fun c27 => ?_) (fun c27 => ?_)
            · refine T.go 1 (fun n9 => (rfl : _ = exe ξ n9 (d + 5) j_N_unpackEntry 104 [(0, .ref 16), (1, .ref a), (2, J x), (3, .ref q), (4, J z1), (5, JL z25), (7, J z37), (8, J z39)] [] s32)) ?_
              refine T.go 6 (fun n9 => (rfl : _ = exe ξ n9 (d + 5) j_N_unpackEntry 136 [(0, .ref 16), (1, .ref a), (2, J x), (3, .ref q), (4, J z1), (5, JL z25), (7, J z37), (8, J z39), (9, J 0)] [J 8] s32)) ?_
              exact T.ireti rfl rfl ⟨_, rfl, hs32, by omega, by omega⟩
            · refine T.go 1 (fun n9 => (rfl : _ = exe ξ n9 (d + 5) j_N_unpackEntry 85 [(0, .ref 16), (1, .ref a), (2, J x), (3, .ref q), (4, J z1), (5, JL z25), (7, J z37), (8, J z39)] [] s32)) ?_
              refine T.go 2 (fun n9 => (rfl : _ = exe ξ n9 (d + 5) j_N_unpackEntry 87 [(0, .ref 16), (1, .ref a), (2, J x), (3, .ref q), (4, J z1), (5, JL z25), (7, J z37), (8, J z39)] [.ref a, .ref q] s32)) ?_
              refine T.get rfl rfl rfl k13 rfl ?_
              refine T.go 2 (fun n9 => (rfl : _ = exe ξ n9 (d + 5) j_N_unpackEntry 94 [(0, .ref 16), (1, .ref a), (2, J x), (3, .ref q), (4, J z1), (5, JL z25), (7, J z37), (8, J z39)] [J z39, J z37, .ref (a + 1), .ref q] s32)) ?_
              obtain ⟨mx17, nx17, bx17, lx17, hrx17, hbx17, fx17a, fx17b, fx17c, fx17d, fx17e, fx17g, fx17h, fx17i⟩ := hs32.1.row hq
              refine T.callv (as := [.ref (a + 1), J z37, J z39]) (r := []) rfl rfl rfl (RwL_lt _ hq).2.2.1 hrx17 rfl (s_R_addPart (d + 3) q (a + 1) z37 z39 s32 hs32.1 hq (kdX_ar _ ha).2.2.1 haq (by omega) (by omega)) (fun v38 s38 hqs38 => ?_)
              obtain ⟨z43, rfl, hs38, hzz43, hyz43, pz43_0⟩ := hqs38
              have es38 := hs38
              have hs38 := hs38.sub (w' := [17, 18, 20, 21, 22, 24, 25, 26, 28, 29, 30, q]) (List.forall_mem_cons.mpr ⟨(by simp), (fun _ h => by cases h)⟩)
              have k16 := es38.b.1 _ _ (nm_c ((by decide : ∀ u ∈ ArL, ∀ v ∈ RwL, u ≠ v) _ ha _ hq) nm_0) (fun l z => by cases z) k13
              have gs38 := hs32.trans hs38
              refine T.if_eq rfl rfl (by omega) (fun c28 => ?_) (fun c28 => ?_)
              · refine T.go 6 (fun n9 => (rfl : _ = exe ξ n9 (d + 5) j_N_unpackEntry 136 [(0, .ref 16), (1, .ref a), (2, J x), (3, .ref q), (4, J z1), (5, JL z25), (7, J z37), (8, J z39), (9, J 0)] [J 8] s38)) ?_
                exact T.ireti rfl rfl ⟨_, rfl, gs38, by omega, by omega⟩
              · refine T.go 6 (fun n9 => (rfl : _ = exe ξ n9 (d + 5) j_N_unpackEntry 138 [(0, .ref 16), (1, .ref a), (2, J x), (3, .ref q), (4, J z1), (5, JL z25), (7, J z37), (8, J z39), (9, J 1)] [.ref q] s38)) ?_
                refine T.calls (as := [.ref q]) (r := []) rfl rfl (by decide) rfl rfl (s_N_sumOf hX0 (d + 3) q s38 hs38.1 hq  ) (fun v39 s39 hqs39 => ?_)
                obtain ⟨z44, rfl, esz44, hzz44, hyz44⟩ := hqs39
                rw [esz44]
                refine T.go 2 (fun n9 => (rfl : _ = exe ξ n9 (d + 5) j_N_unpackEntry 143 [(0, .ref 16), (1, .ref a), (2, J x), (3, .ref q), (4, J z1), (5, JL z25), (7, J z37), (8, J z39), (9, J 1)] [J x, .ref a, JL z44] s38)) ?_
                refine T.callv (as := [J x]) (r := [JL z44]) rfl rfl rfl (ArL_lt _ ha).2.2.1 k16 rfl (s_A_sum (d + 2) a x s38 hs38.1 ha  (by omega)) (fun v40 s40 hqs40 => ?_)
                obtain ⟨z45, rfl, esz45, hzz45, hyz45⟩ := hqs40
                rw [esz45]
                refine T.lcmp rfl (by omega) (by omega) (fun c29 => ?_) (fun c29 => ?_) (fun c29 => ?_)
                · refine T.go 1 (fun n9 => (rfl : _ = exe ξ n9 (d + 5) j_N_unpackEntry 154 [(0, .ref 16), (1, .ref a), (2, J x), (3, .ref q), (4, J z1), (5, JL z25), (7, J z37), (8, J z39), (9, J 1)] [] s38)) ?_
                  refine T.go 1 (fun n9 => (rfl : _ = exe ξ n9 (d + 5) j_N_unpackEntry 156 [(0, .ref 16), (1, .ref a), (2, J x), (3, .ref q), (4, J z1), (5, JL z25), (7, J z37), (8, J z39), (9, J 1)] [J 9] s38)) ?_
                  exact T.ireti rfl rfl ⟨_, rfl, gs38, by omega, by omega⟩
                · refine T.go 1 (fun n9 => (rfl : _ = exe ξ n9 (d + 5) j_N_unpackEntry 150 [(0, .ref 16), (1, .ref a), (2, J x), (3, .ref q), (4, J z1), (5, JL z25), (7, J z37), (8, J z39), (9, J 1)] [] s38)) ?_
                  refine T.go 2 (fun n9 => (rfl : _ = exe ξ n9 (d + 5) j_N_unpackEntry 156 [(0, .ref 16), (1, .ref a), (2, J x), (3, .ref q), (4, J z1), (5, JL z25), (7, J z37), (8, J z39), (9, J 1)] [J 0] s38)) ?_
                  exact T.ireti rfl rfl ⟨_, rfl, gs38, by omega, by omega⟩
                · refine T.go 1 (fun n9 => (rfl : _ = exe ξ n9 (d + 5) j_N_unpackEntry 154 [(0, .ref 16), (1, .ref a), (2, J x), (3, .ref q), (4, J z1), (5, JL z25), (7, J z37), (8, J z39), (9, J 1)] [] s38)) ?_
                  refine T.go 1 (fun n9 => (rfl : _ = exe ξ n9 (d + 5) j_N_unpackEntry 156 [(0, .ref 16), (1, .ref a), (2, J x), (3, .ref q), (4, J z1), (5, JL z25), (7, J z37), (8, J z39), (9, J 1)] [J 9] s38)) ?_
                  exact T.ireti rfl rfl ⟨_, rfl, gs38, by omega, by omega⟩
            · refine T.go 1 (fun n9 => (rfl : _ = exe ξ n9 (d + 5) j_N_unpackEntry 104 [(0, .ref 16), (1, .ref a), (2, J x), (3, .ref q), (4, J z1), (5, JL z25), (7, J z37), (8, J z39)] [] s32)) ?_
              refine T.go 6 (fun n9 => (rfl : _ = exe ξ n9 (d + 5) j_N_unpackEntry 136 [(0, .ref 16), (1, .ref a), (2, J x), (3, .ref q), (4, J z1), (5, JL z25), (7, J z37), (8, J z39), (9, J 0)] [J 8] s32)) ?_
              exact T.ireti rfl rfl ⟨_, rfl, hs32, by omega, by omega⟩
        · refine T.go 1 (fun n9 => (rfl : _ = exe ξ n9 (d + 5) j_N_unpackEntry 49 [(0, .ref 16), (1, .ref a), (2, J x), (3, .ref q), (4, J z1), (5, JL z25)] [] σ)) ?_
          refine T.go 1 (fun n9 => (rfl : _ = exe ξ n9 (d + 5) j_N_unpackEntry 51 [(0, .ref 16), (1, .ref a), (2, J x), (3, .ref q), (4, J z1), (5, JL z25)] [J 7] σ)) ?_
          exact T.ireti rfl rfl ⟨_, rfl, (Fr.refl hK), by omega, by omega⟩
      · refine T.go 1 (fun n9 => (rfl : _ = exe ξ n9 (d + 5) j_N_unpackEntry 32 [(0, .ref 16), (1, .ref a), (2, J x), (3, .ref q), (4, J z1)] [J 6] σ)) ?_
        exact T.ireti rfl rfl ⟨_, rfl, (Fr.refl hK), by omega, by omega⟩

set_option maxRecDepth 10000 in
set_option maxHeartbeats 4000000 in
theorem s_N_archiveOf {ξ : Nat → Option (Nat × List Int32)} (d : Nat) (x : Int) (σ : qH) (hK : K σ)  (rx : -2147483648 ≤ x ∧ x ≤ 2147483647) : T ξ d j_N_archiveOf 0 (lv_args 0 [.ref 16, J x]) [] σ (fun v σ' => σ' = σ ∧ (v = some .null ∨ ∃ a : Nat, a ∈ ArL ∧ v = some (.ref a))) := by
  refine T.go 1 (fun n9 => (rfl : _ = exe ξ n9 d j_N_archiveOf 1 [(0, .ref 16), (1, J x)] [.ref 16] σ)) ?_
  obtain ⟨kex1, scx1, tpx1, oux1, mox1, sgx1, hox1, mcx1, lfx1, lpx1, hNx1, fx1ke, fx1sc, fx1tp, fx1ou, fx1mo, fx1sg, fx1d, fx1e, fx1f, fx1g, fx1h, fx1i, fx1j⟩ := hK.na
  refine T.get rfl rfl rfl hNx1 rfl ?_
  refine T.if_eq rfl rfl (by omega) (fun c1 => ?_) (fun c1 => ?_)
  · refine T.go 1 (fun n9 => (rfl : _ = exe ξ n9 d j_N_archiveOf 26 [(0, .ref 16), (1, J x)] [.null] σ)) ?_
    exact T.end 1 (fun n9 => rfl) ⟨rfl, Or.inl rfl⟩
  · refine T.go 1 (fun n9 => (rfl : _ = exe ξ n9 d j_N_archiveOf 8 [(0, .ref 16), (1, J x)] [J x] σ)) ?_
    refine T.if_lt rfl rfl (by omega) (fun c2 => ?_) (fun c2 => ?_)
    · refine T.go 1 (fun n9 => (rfl : _ = exe ξ n9 d j_N_archiveOf 26 [(0, .ref 16), (1, J x)] [.null] σ)) ?_
      exact T.end 1 (fun n9 => rfl) ⟨rfl, Or.inl rfl⟩
    · refine T.go 2 (fun n9 => (rfl : _ = exe ξ n9 d j_N_archiveOf 13 [(0, .ref 16), (1, J x)] [.ref 16, J x] σ)) ?_
      refine T.get rfl rfl rfl hNx1 rfl ?_
      refine T.icmp_gt rfl rfl (by omega) (by omega) (fun c3 => ?_) (fun c3 => ?_)
      · refine T.go 1 (fun n9 => (rfl : _ = exe ξ n9 d j_N_archiveOf 26 [(0, .ref 16), (1, J x)] [.null] σ)) ?_
        exact T.end 1 (fun n9 => rfl) ⟨rfl, Or.inl rfl⟩
      · refine T.go 2 (fun n9 => (rfl : _ = exe ξ n9 d j_N_archiveOf 22 [(0, .ref 16), (1, J x)] [J 6, J x] σ)) ?_
        refine T.icmp_le rfl rfl (by omega) (by omega) (fun c4 => ?_) (fun c4 => ?_)
        · refine T.go 1 (fun n9 => (rfl : _ = exe ξ n9 d j_N_archiveOf 28 [(0, .ref 16), (1, J x)] [J x] σ)) ?_
          refine T.if_ne rfl rfl (by omega) (fun c5 => ?_) (fun c5 => ?_)
          · refine T.go 1 (fun n9 => (rfl : _ = exe ξ n9 d j_N_archiveOf 39 [(0, .ref 16), (1, J x)] [.ref 16] σ)) ?_
            refine T.get rfl rfl rfl hNx1 rfl ?_
            refine T.go 2 (fun n9 => (rfl : _ = exe ξ n9 d j_N_archiveOf 44 [(0, .ref 16), (1, J x)] [J 1, J x, .ref mox1] σ)) ?_
            refine T.isub rfl ?_
            obtain ⟨lx2, hix2, elx2, emx2⟩ := hK.refs (na_mo fx1mo).1
            obtain ⟨a1, hga1, hha1⟩ := em_at (x := x - 1) emx2 (by omega)
            refine T.aald rfl hix2 (by omega) hga1 ?_
            exact T.end 1 (fun n9 => rfl) ⟨rfl, Or.inr ⟨_, (ArM_L hha1), rfl⟩⟩
          · refine T.go 1 (fun n9 => (rfl : _ = exe ξ n9 d j_N_archiveOf 32 [(0, .ref 16), (1, J x)] [.ref 16] σ)) ?_
            refine T.get rfl rfl rfl hNx1 rfl ?_
            refine T.go 1 (fun n9 => (rfl : _ = exe ξ n9 d j_N_archiveOf 46 [(0, .ref 16), (1, J x)] [.ref oux1] σ)) ?_
            exact T.end 1 (fun n9 => rfl) ⟨rfl, Or.inr ⟨_, (na_tp fx1ou), rfl⟩⟩
        · refine T.go 1 (fun n9 => (rfl : _ = exe ξ n9 d j_N_archiveOf 26 [(0, .ref 16), (1, J x)] [.null] σ)) ?_
          exact T.end 1 (fun n9 => rfl) ⟨rfl, Or.inl rfl⟩

set_option maxRecDepth 10000 in
set_option maxHeartbeats 4000000 in
theorem s_N_fault {ξ : Nat → Option (Nat × List Int32)} (d : Nat)  (σ : qH) (hK : K σ)   : T ξ (d + 8) j_N_fault 0 (lv_args 0 [.ref 16]) [] σ (fun v σ' => ∃ z : Int, v = some (J z) ∧ σ' = σ ∧ -2147483648 ≤ z ∧ z ≤ 2147483647) := by
  refine T.go 1 (fun n9 => (rfl : _ = exe ξ n9 (d + 8) j_N_fault 1 [(0, .ref 16)] [.ref 16] σ)) ?_
  obtain ⟨kex1, scx1, tpx1, oux1, mox1, sgx1, hox1, mcx1, lfx1, lpx1, hNx1, fx1ke, fx1sc, fx1tp, fx1ou, fx1mo, fx1sg, fx1d, fx1e, fx1f, fx1g, fx1h, fx1i, fx1j⟩ := hK.na
  refine T.get rfl rfl rfl hNx1 rfl ?_
  exact T.ireti rfl rfl ⟨_, rfl, rfl, by omega, by omega⟩

set_option maxRecDepth 10000 in
set_option maxHeartbeats 4000000 in
theorem s_N_place {ξ : Nat → Option (Nat × List Int32)} (d : Nat)  (σ : qH) (hK : K σ)   : T ξ (d + 8) j_N_place 0 (lv_args 0 [.ref 16]) [] σ (fun v σ' => ∃ z : Int, v = some (J z) ∧ σ' = σ ∧ -2147483648 ≤ z ∧ z ≤ 2147483647) := by
  refine T.go 1 (fun n9 => (rfl : _ = exe ξ n9 (d + 8) j_N_place 1 [(0, .ref 16)] [.ref 16] σ)) ?_
  obtain ⟨kex1, scx1, tpx1, oux1, mox1, sgx1, hox1, mcx1, lfx1, lpx1, hNx1, fx1ke, fx1sc, fx1tp, fx1ou, fx1mo, fx1sg, fx1d, fx1e, fx1f, fx1g, fx1h, fx1i, fx1j⟩ := hK.na
  refine T.get rfl rfl rfl hNx1 rfl ?_
  exact T.ireti rfl rfl ⟨_, rfl, rfl, by omega, by omega⟩

set_option maxRecDepth 10000 in
set_option maxHeartbeats 4000000 in
theorem s_N_value {ξ : Nat → Option (Nat × List Int32)} (d : Nat) (x : Int) (σ : qH) (hK : K σ)  (rx : -2147483648 ≤ x ∧ x ≤ 2147483647) : T ξ (d + 8) j_N_value 0 (lv_args 0 [.ref 16, J x]) [] σ (fun v σ' => ∃ z : Int, v = some (J z) ∧ σ' = σ ∧ -2147483648 ≤ z ∧ z ≤ 2147483647) := by
  refine T.go 1 (fun n9 => (rfl : _ = exe ξ n9 (d + 8) j_N_value 1 [(0, .ref 16), (1, J x)] [.ref 16] σ)) ?_
  obtain ⟨kex1, scx1, tpx1, oux1, mox1, sgx1, hox1, mcx1, lfx1, lpx1, hNx1, fx1ke, fx1sc, fx1tp, fx1ou, fx1mo, fx1sg, fx1d, fx1e, fx1f, fx1g, fx1h, fx1i, fx1j⟩ := hK.na
  refine T.get rfl rfl rfl hNx1 rfl ?_
  refine T.go 1 (fun n9 => (rfl : _ = exe ξ n9 (d + 8) j_N_value 5 [(0, .ref 16), (1, J x)] [J x, .ref 57] σ)) ?_
  obtain ⟨mx2, nx2, bx2, lx2, hrx2, hbx2, fx2a, fx2b, fx2c, fx2d, fx2e, fx2g, fx2h, fx2i⟩ := hK.row (r := 57) (by decide)
  refine T.callv (as := [J x]) (r := []) rfl rfl rfl rfl hrx2 rfl (s_R_at (d + 7) 57 x σ hK (by decide)  (by omega)) (fun v1 s1 hqs1 => ?_)
  obtain ⟨z1, rfl, esz1, hzz1, hyz1⟩ := hqs1
  rw [esz1]
  exact T.ireti rfl rfl ⟨_, rfl, rfl, by omega, by omega⟩
