/-! An entry that is unpacked. -/
set_option maxRecDepth 10000 in
set_option maxHeartbeats 4000000 in
theorem s_N_funpackEntry {ξ : Nat → Option (Nat × List Int32)} (hX : XT ξ) (d : Nat) (g : Int → Int) (a : Nat) (x : Int) (q : Nat) (σ : qH) (hK : K σ) (ha : a ∈ ArL) (hq : q ∈ RwL) (haq : a + 1 ≠ q) (h255 : ∀ k, 0 ≤ g k ∧ g k ≤ 255) (hNA : NA σ) (hg : AGR σ (a + 1) g) (hmt : mst q = 8000) (hf1 : CD σ 31 fixA 288) (hf2 : CD σ 35 (fun _ => 5) 32) (rx : -2147483648 ≤ x ∧ x ≤ 2147483647) (pre0 : 0 ≤ x) (pre1 : x < afld σ a 3) (pre2 : 0 ≤ gl (il σ (a + 3)) x) (pre3 : gl (il σ (a + 3)) x + 46 ≤ rl σ (a + 1)) (pre4 : 0 ≤ gl (il σ (a + 4)) x) (pre5 : gl (il σ (a + 4)) x + W4 g (gl (il σ (a + 3)) x + 20) ≤ rl σ (a + 1)) : T ξ (d + 5) j_N_unpackEntry 0 (lv_args 0 [.ref 16, .ref a, J x, .ref q]) [] σ (fun v σ' => ∃ z : Int, v = some (J z) ∧ Fr [17, 18, 20, 21, 22, 24, 25, 26, 28, 29, 30, q] σ σ' ∧ 0 ≤ z ∧ z ≤ 9 ∧ (z = 0 → RD g (gl (il σ (a + 3)) x) (gl (il σ (a + 4)) x) (nb σ' q) ∧ rl σ' q = W4 g (gl (il σ (a + 3)) x + 24)) ∧ (z ≠ 0 → ∀ o : Int → Int, ¬ RD g (gl (il σ (a + 3)) x) (gl (il σ (a + 4)) x) o)) := by
  have hX0 := hX
  obtain ⟨⟨X1, hX1, lX1⟩, ⟨X2, hX2, lX2⟩, ⟨X3, hX3, lX3⟩, ⟨X4, hX4, lX4⟩, ⟨X5, hX5, lX5⟩, ⟨X6, hX6, lX6⟩⟩ := hX
  have lY1 : X1.length = 19 := by rw [lX1]; rfl
  have lY2 : X2.length = 29 := by rw [lX2]; rfl
  have lY3 : X3.length = 29 := by rw [lX3]; rfl
  have lY4 : X4.length = 30 := by rw [lX4]; rfl
  have lY5 : X5.length = 30 := by rw [lX5]; rfl
  have lY6 : X6.length = 16 := by rw [lX6]; rfl
  have la := (ArL_lt a ha).2.1
  have hW := W2_r h255
  have hV := W4_r h255
  obtain ⟨ex1, erx1, dix1, bax1, fpx1, hax1, fx1a, fx1b, fx1c, fx1d, fx1e, fx1f, fx1g, fx1h, fx1i, fx1j⟩ := hK.arc ha
  have af3x1 := af_of (i := 3) hax1 rfl (by omega)
  subst af3x1
  have af4x1 := af_of (i := 4) hax1 rfl (by omega)
  subst af4x1
  have af5x1 := af_of (i := 5) hax1 rfl (by omega)
  subst af5x1
  have af6x1 := af_of (i := 6) hax1 rfl (by omega)
  subst af6x1
  have af7x1 := af_of (i := 7) hax1 rfl (by omega)
  subst af7x1
  obtain ⟨mx2, nx2, bx2, lx2, hrx2, hbx2, fx2a, fx2b, fx2c, fx2d, fx2e, fx2g, fx2h, fx2i⟩ := hK.row (kdX_ar _ ha).2.2.1
  have ctx2 := CT_of hrx2 hbx2
  have rwx2 := rl_of hrx2 (by omega)
  subst rwx2
  obtain ⟨mx3, nx3, bx3, lx3, hrx3, hbx3, fx3a, fx3b, fx3c, fx3d, fx3e, fx3g, fx3h, fx3i⟩ := hK.row hq
  have ctx3 := CT_of hrx3 hbx3
  have rwx3 := rl_of hrx3 (by omega)
  subst rwx3
  refine T.go 2 (fun n9 => (rfl : _ = exe ξ n9 (d + 5) j_N_unpackEntry 2 [(0, .ref 16), (1, .ref a), (2, J x), (3, .ref q)] [J x, .ref a] σ)) ?_
  refine T.callv (as := [J x]) (r := []) rfl rfl rfl (ArL_lt _ ha).2.2.1 hax1 rfl (s_A_fmethod (d + 2) g a x σ hK ha h255 hg (by omega) (by omega) (by omega) (by omega) (by omega)) (fun v1 s1 hqs1 => ?_)
  obtain ⟨z1, rfl, esz1, hzz1, hyz1, pz1_0⟩ := hqs1
  rw [esz1]
  subst pz1_0
  have v10_37 := hW (gl (il σ (a + 3)) x + 10)
  refine T.go 3 (fun n9 => (rfl : _ = exe ξ n9 (d + 5) j_N_unpackEntry 9 [(0, .ref 16), (1, .ref a), (2, J x), (3, .ref q), (4, J (W2 g (gl (il σ (a + 3)) x + 10)))] [J x, .ref a] σ)) ?_
  refine T.callv (as := [J x]) (r := []) rfl rfl rfl (ArL_lt _ ha).2.2.1 hax1 rfl (s_A_fflags (d + 2) g a x σ hK ha h255 hg (by omega) (by omega) (by omega) (by omega) (by omega)) (fun v2 s2 hqs2 => ?_)
  obtain ⟨z2, rfl, esz2, hzz2, hyz2, pz2_0⟩ := hqs2
  rw [esz2]
  subst pz2_0
  have v8_43 := hW (gl (il σ (a + 3)) x + 8)
  refine T.go 1 (fun n9 => (rfl : _ = exe ξ n9 (d + 5) j_N_unpackEntry 13 [(0, .ref 16), (1, .ref a), (2, J x), (3, .ref q), (4, J (W2 g (gl (il σ (a + 3)) x + 10)))] [J 1, J (W2 g (gl (il σ (a + 3)) x + 8))] σ)) ?_
  refine T.iandm (p := 2) 1 rfl (by decide) (by decide) (by decide) (by omega) ?_
  refine T.go 1 (fun n9 => (rfl : _ = exe ξ n9 (d + 5) j_N_unpackEntry 15 [(0, .ref 16), (1, .ref a), (2, J x), (3, .ref q), (4, J (W2 g (gl (il σ (a + 3)) x + 10)))] [J 1, J ((W2 g (gl (il σ (a + 3)) x + 8)) % 2)] σ)) ?_
  refine T.icmp_eq rfl rfl (by omega) (by omega) (fun c1 => ?_) (fun c1 => ?_)
  · refine T.go 1 (fun n9 => (rfl : _ = exe ξ n9 (d + 5) j_N_unpackEntry 32 [(0, .ref 16), (1, .ref a), (2, J x), (3, .ref q), (4, J (W2 g (gl (il σ (a + 3)) x + 10)))] [J 6] σ)) ?_
    exact T.ireti rfl rfl ⟨_, rfl, (Fr.refl hK), by omega, by omega, (fun h => absurd h (by decide)), (fun _ o => RD_6 (by omega))⟩
  · refine T.go 1 (fun n9 => (rfl : _ = exe ξ n9 (d + 5) j_N_unpackEntry 20 [(0, .ref 16), (1, .ref a), (2, J x), (3, .ref q), (4, J (W2 g (gl (il σ (a + 3)) x + 10)))] [J (W2 g (gl (il σ (a + 3)) x + 10))] σ)) ?_
    refine T.if_eq rfl rfl (by omega) (fun c2 => ?_) (fun c2 => ?_)
    · refine T.go 2 (fun n9 => (rfl : _ = exe ξ n9 (d + 5) j_N_unpackEntry 35 [(0, .ref 16), (1, .ref a), (2, J x), (3, .ref q), (4, J (W2 g (gl (il σ (a + 3)) x + 10)))] [J x, .ref a] σ)) ?_
      refine T.callv (as := [J x]) (r := []) rfl rfl rfl (ArL_lt _ ha).2.2.1 hax1 rfl (s_A_fsize (d + 2) g a x σ hK ha h255 hg (by omega) (by omega) (by omega) (by omega) (by omega)) (fun v3 s3 hqs3 => ?_)
      obtain ⟨z4, rfl, esz4, hzz4, hyz4, pz4_0⟩ := hqs3
      rw [esz4]
      subst pz4_0
      have v24_57 := hV (gl (il σ (a + 3)) x + 24)
      refine T.go 2 (fun n9 => (rfl : _ = exe ξ n9 (d + 5) j_N_unpackEntry 42 [(0, .ref 16), (1, .ref a), (2, J x), (3, .ref q), (4, J (W2 g (gl (il σ (a + 3)) x + 10))), (5, JL (W4 g (gl (il σ (a + 3)) x + 24)))] [JL (W4 g (gl (il σ (a + 3)) x + 24))] σ)) ?_
      refine T.go 1 (fun n9 => (rfl : _ = exe ξ n9 (d + 5) j_N_unpackEntry 45 [(0, .ref 16), (1, .ref a), (2, J x), (3, .ref q), (4, J (W2 g (gl (il σ (a + 3)) x + 10))), (5, JL (W4 g (gl (il σ (a + 3)) x + 24)))] [JL 8000, JL (W4 g (gl (il σ (a + 3)) x + 24))] σ)) ?_
      refine T.lcmp rfl (by omega) (by omega) (fun c3 => ?_) (fun c3 => ?_) (fun c3 => ?_)
      · refine T.go 1 (fun n9 => (rfl : _ = exe ξ n9 (d + 5) j_N_unpackEntry 52 [(0, .ref 16), (1, .ref a), (2, J x), (3, .ref q), (4, J (W2 g (gl (il σ (a + 3)) x + 10))), (5, JL (W4 g (gl (il σ (a + 3)) x + 24)))] [] σ)) ?_
        refine T.go 1 (fun n9 => (rfl : _ = exe ξ n9 (d + 5) j_N_unpackEntry 53 [(0, .ref 16), (1, .ref a), (2, J x), (3, .ref q), (4, J (W2 g (gl (il σ (a + 3)) x + 10))), (5, JL (W4 g (gl (il σ (a + 3)) x + 24)))] [.ref q] σ)) ?_
        refine T.callv (as := []) (r := []) rfl rfl rfl (RwL_lt _ hq).2.2.1 hrx3 rfl (s_R_clear (d + 4) q σ hK hq  ) (fun v4 s4 hqs4 => ?_)
        obtain ⟨rfl, hs4, pz5_0, pz5_1⟩ := hqs4
        have es4 := hs4
        have hs4 := hs4.sub (w' := [17, 18, 20, 21, 22, 24, 25, 26, 28, 29, 30, q]) (List.forall_mem_cons.mpr ⟨(by simp), (fun _ h => by cases h)⟩)
        have k1 := es4.b.1 _ _ (nm_c (dq_17 _ ha _ hq) nm_0) (fun l z => by cases z) hax1
        have k2 := es4.b.1 _ _ (nm_c haq nm_0) (fun l z => by cases z) hrx2
        refine T.go 2 (fun n9 => (rfl : _ = exe ξ n9 (d + 5) j_N_unpackEntry 58 [(0, .ref 16), (1, .ref a), (2, J x), (3, .ref q), (4, J (W2 g (gl (il σ (a + 3)) x + 10))), (5, JL (W4 g (gl (il σ (a + 3)) x + 24)))] [J x, .ref a] s4)) ?_
        have hgqs4 := hg.fr hNA hs4 (kdX_ar _ ha).2.2.1 (nm_c (dq_18 _ ha) (nm_c (dq_19 _ ha) (nm_c (dq_20 _ ha) (nm_c (dq_21 _ ha) (nm_c (dq_22 _ ha) (nm_c (dq_23 _ ha) (nm_c (dq_24 _ ha) (nm_c (dq_25 _ ha) (nm_c (dq_26 _ ha) (nm_c (dq_27 _ ha) (nm_c (dq_28 _ ha) (nm_c haq nm_0))))))))))))
        have rlqs4 := rl_eq (hs4.2.2.1 (a + 1) (List.mem_cons_of_mem _ (kdX_ar _ ha).2.2.1) (nm_c (dq_18 _ ha) (nm_c (dq_19 _ ha) (nm_c (dq_20 _ ha) (nm_c (dq_21 _ ha) (nm_c (dq_22 _ ha) (nm_c (dq_23 _ ha) (nm_c (dq_24 _ ha) (nm_c (dq_25 _ ha) (nm_c (dq_26 _ ha) (nm_c (dq_27 _ ha) (nm_c (dq_28 _ ha) (nm_c haq nm_0)))))))))))))
        have i3qs4 := il_fr hK (kdX_ar _ ha).2.2.2.1 hs4 (nm_c (dq_29 _ ha) (nm_c (dq_30 _ ha) (nm_c (dq_31 _ ha) (nm_c (dq_32 _ ha) (nm_c (dq_33 _ ha) (nm_c (dq_34 _ ha) (nm_c (dq_35 _ ha) (nm_c (dq_36 _ ha) (nm_c (dq_37 _ ha) (nm_c (dq_38 _ ha) (nm_c (dq_39 _ ha) (nm_c (dq_40 _ ha _ hq) nm_0))))))))))))
        have i4qs4 := il_fr hK (kdX_ar _ ha).2.2.2.2 hs4 (nm_c (dq_41 _ ha) (nm_c (dq_42 _ ha) (nm_c (dq_43 _ ha) (nm_c (dq_44 _ ha) (nm_c (dq_45 _ ha) (nm_c (dq_46 _ ha) (nm_c (dq_47 _ ha) (nm_c (dq_48 _ ha) (nm_c (dq_49 _ ha) (nm_c (dq_50 _ ha) (nm_c (dq_51 _ ha) (nm_c (dq_52 _ ha _ hq) nm_0))))))))))))
        have a3qs4 : afld s4 a 3 = afld σ a 3 := by unfold afld; rw [hs4.b.1 a _ (nm_c (dq_53 _ ha) (nm_c (dq_54 _ ha) (nm_c (dq_55 _ ha) (nm_c (dq_56 _ ha) (nm_c (dq_57 _ ha) (nm_c (dq_58 _ ha) (nm_c (dq_59 _ ha) (nm_c (dq_60 _ ha) (nm_c (dq_61 _ ha) (nm_c (dq_62 _ ha) (nm_c (dq_63 _ ha) (nm_c (dq_17 _ ha _ hq) nm_0)))))))))))) (fun l z => by cases z) hax1, hax1]
        have hxqs4 : gl (il s4 (a + 3)) x = gl (il σ (a + 3)) x := by rw [i3qs4]
        refine T.callv (as := [J x]) (r := []) rfl rfl rfl (ArL_lt _ ha).2.2.1 k1 rfl (s_A_fdataPlace (d + 3) a x s4 hs4.1 ha  (by omega)) (fun v5 s5 hqs5 => ?_)
        obtain ⟨z6, rfl, esz6, hzz6, hyz6, pz6_0⟩ := hqs5
        rw [esz6]
        have d9 := pz6_0 (by omega)
        rw [i4qs4] at d9
        subst d9
        refine T.go 3 (fun n9 => (rfl : _ = exe ξ n9 (d + 5) j_N_unpackEntry 65 [(0, .ref 16), (1, .ref a), (2, J x), (3, .ref q), (4, J (W2 g (gl (il σ (a + 3)) x + 10))), (5, JL (W4 g (gl (il σ (a + 3)) x + 24))), (7, J (gl (il σ (a + 4)) x))] [J x, .ref a] s4)) ?_
        refine T.callv (as := [J x]) (r := []) rfl rfl rfl (ArL_lt _ ha).2.2.1 k1 rfl (s_A_fpackedSize (d + 2) g a x s4 hs4.1 ha h255 hgqs4 (by omega) (by omega) (by omega) (by omega) (by omega)) (fun v6 s6 hqs6 => ?_)
        obtain ⟨z7, rfl, esz7, hzz7, hyz7, pz7_0⟩ := hqs6
        rw [esz7]
        rw [hxqs4] at pz7_0
        subst pz7_0
        have v20_88 := hV (gl (il σ (a + 3)) x + 20)
        refine T.l2i rfl ?_
        refine T.go 2 (fun n9 => (rfl : _ = exe ξ n9 (d + 5) j_N_unpackEntry 73 [(0, .ref 16), (1, .ref a), (2, J x), (3, .ref q), (4, J (W2 g (gl (il σ (a + 3)) x + 10))), (5, JL (W4 g (gl (il σ (a + 3)) x + 24))), (7, J (gl (il σ (a + 4)) x)), (8, J (W4 g (gl (il σ (a + 3)) x + 20)))] [J (W2 g (gl (il σ (a + 3)) x + 10))] s4)) ?_
        refine T.if_ne rfl rfl (by omega) (fun c4 => ?_) (fun c4 => ?_)
        · refine T.go 1 (fun n9 => (rfl : _ = exe ξ n9 (d + 5) j_N_unpackEntry 109 [(0, .ref 16), (1, .ref a), (2, J x), (3, .ref q), (4, J (W2 g (gl (il σ (a + 3)) x + 10))), (5, JL (W4 g (gl (il σ (a + 3)) x + 24))), (7, J (gl (il σ (a + 4)) x)), (8, J (W4 g (gl (il σ (a + 3)) x + 20)))] [.ref 16] s4)) ?_
          obtain ⟨kex4, scx4, tpx4, oux4, mox4, sgx4, hox4, mcx4, lfx4, lpx4, hNx4, fx4ke, fx4sc, fx4tp, fx4ou, fx4mo, fx4sg, fx4d, fx4e, fx4f, fx4g, fx4h, fx4i, fx4j⟩ := hs4.1.na
          refine T.get rfl rfl rfl hNx4 rfl ?_
          refine T.go 1 (fun n9 => (rfl : _ = exe ξ n9 (d + 5) j_N_unpackEntry 113 [(0, .ref 16), (1, .ref a), (2, J x), (3, .ref q), (4, J (W2 g (gl (il σ (a + 3)) x + 10))), (5, JL (W4 g (gl (il σ (a + 3)) x + 24))), (7, J (gl (il σ (a + 4)) x)), (8, J (W4 g (gl (il σ (a + 3)) x + 20)))] [.ref a, .ref 17] s4)) ?_
          refine T.get rfl rfl rfl k1 rfl ?_
          refine T.go 4 (fun n9 => (rfl : _ = exe ξ n9 (d + 5) j_N_unpackEntry 123 [(0, .ref 16), (1, .ref a), (2, J x), (3, .ref q), (4, J (W2 g (gl (il σ (a + 3)) x + 10))), (5, JL (W4 g (gl (il σ (a + 3)) x + 24))), (7, J (gl (il σ (a + 4)) x)), (8, J (W4 g (gl (il σ (a + 3)) x + 20)))] [JL (W4 g (gl (il σ (a + 3)) x + 24)), .ref q, J (W4 g (gl (il σ (a + 3)) x + 20)), J (gl (il σ (a + 4)) x), .ref (a + 1), .ref 17] s4)) ?_
          refine T.l2i rfl ?_
          obtain ⟨sx5, tx5, wx5, bix5, bex5, rox5, hux5, fx5a, fx5b, fx5c, fx5d, fx5e, fx5f, fx5g, fx5h, fx5i⟩ := hs4.1.unp
          refine T.callv (as := [.ref (a + 1), J (gl (il σ (a + 4)) x), J (W4 g (gl (il σ (a + 3)) x + 20)), .ref q, J (W4 g (gl (il σ (a + 3)) x + 24))]) (r := []) rfl rfl rfl rfl hux5 rfl (s_U_funpack hX0 d g (a + 1) (gl (il σ (a + 4)) x) (W4 g (gl (il σ (a + 3)) x + 20)) q (W4 g (gl (il σ (a + 3)) x + 24)) s4 hs4.1 (kdX_ar _ ha).2.2.1 hq haq (hs4.b.2 hNA).1 hgqs4 hmt (hf1.fr hK (by decide) hs4 (nm_c (by decide) (nm_c (by decide) (nm_c (by decide) (nm_c (by decide) (nm_c (by decide) (nm_c (by decide) (nm_c (by decide) (nm_c (by decide) (nm_c (by decide) (nm_c (by decide) (nm_c (by decide) (nm_c (dq_13 _ hq) nm_0)))))))))))) (nm_c (by decide) (nm_c (by decide) (nm_c (by decide) (nm_c (by decide) (nm_c (by decide) (nm_c (by decide) (nm_c (by decide) (nm_c (by decide) (nm_c (by decide) (nm_c (by decide) (nm_c (by decide) (nm_c (dq_14 _ hq) nm_0))))))))))))) (hf2.fr hK (by decide) hs4 (nm_c (by decide) (nm_c (by decide) (nm_c (by decide) (nm_c (by decide) (nm_c (by decide) (nm_c (by decide) (nm_c (by decide) (nm_c (by decide) (nm_c (by decide) (nm_c (by decide) (nm_c (by decide) (nm_c (dq_15 _ hq) nm_0)))))))))))) (nm_c (by decide) (nm_c (by decide) (nm_c (by decide) (nm_c (by decide) (nm_c (by decide) (nm_c (by decide) (nm_c (by decide) (nm_c (by decide) (nm_c (by decide) (nm_c (by decide) (nm_c (by decide) (nm_c (dq_16 _ hq) nm_0))))))))))))) (by omega) (by omega) (by omega) (by omega) (by omega) (by omega) (by omega) (by omega) (by omega)) (fun v7 s7 hqs7 => ?_)
          obtain ⟨z8, rfl, hs7, hzz8, hyz8, pz8_0, pz8_1⟩ := hqs7
          have es7 := hs7
          have k3 := es7.b.1 _ _ (nm_c (dq_53 _ ha) (nm_c (dq_54 _ ha) (nm_c (dq_55 _ ha) (nm_c (dq_56 _ ha) (nm_c (dq_57 _ ha) (nm_c (dq_58 _ ha) (nm_c (dq_59 _ ha) (nm_c (dq_60 _ ha) (nm_c (dq_61 _ ha) (nm_c (dq_62 _ ha) (nm_c (dq_63 _ ha) (nm_c (dq_17 _ ha _ hq) nm_0)))))))))))) (fun l z => by cases z) k1
          have k4 := es7.b.1 _ _ (nm_c (dq_18 _ ha) (nm_c (dq_19 _ ha) (nm_c (dq_20 _ ha) (nm_c (dq_21 _ ha) (nm_c (dq_22 _ ha) (nm_c (dq_23 _ ha) (nm_c (dq_24 _ ha) (nm_c (dq_25 _ ha) (nm_c (dq_26 _ ha) (nm_c (dq_27 _ ha) (nm_c (dq_28 _ ha) (nm_c haq nm_0)))))))))))) (fun l z => by cases z) k2
          have k5 := es7.b.1 _ _ (nm_c (by decide) (nm_c (by decide) (nm_c (by decide) (nm_c (by decide) (nm_c (by decide) (nm_c (by decide) (nm_c (by decide) (nm_c (by decide) (nm_c (by decide) (nm_c (by decide) (nm_c (by decide) (nm_c (dq_64 _ hq) nm_0)))))))))))) (fun l z => by cases z) hNx4
          have gs7 := hs4.trans hs7
          have uyz8 : z8 = 1 → IFy g (8 * (gl (il σ (a + 4)) x + W4 g (gl (il σ (a + 3)) x + 20))) (W4 g (gl (il σ (a + 3)) x + 24)) (8 * gl (il σ (a + 4)) x) (rl s7 q) (nb s7 q) := fun h => by obtain ⟨v, q1, q2, q3, q4, q5⟩ := pz8_0 h; exact ⟨v, q1, q2, q3, q4, q5⟩
          have unz8 : z8 = 0 → IFn g (8 * (gl (il σ (a + 4)) x + W4 g (gl (il σ (a + 3)) x + 20))) (W4 g (gl (il σ (a + 3)) x + 24)) (8 * gl (il σ (a + 4)) x) := pz8_1
          clear pz8_0 pz8_1
          refine T.go 2 (fun n9 => (rfl : _ = exe ξ n9 (d + 5) j_N_unpackEntry 131 [(0, .ref 16), (1, .ref a), (2, J x), (3, .ref q), (4, J (W2 g (gl (il σ (a + 3)) x + 10))), (5, JL (W4 g (gl (il σ (a + 3)) x + 24))), (7, J (gl (il σ (a + 4)) x)), (8, J (W4 g (gl (il σ (a + 3)) x + 20))), (9, J z8)] [J z8] s7)) ?_
          refine T.if_ne rfl rfl (by omega) (fun c5 => ?_) (fun c5 => ?_)
          · refine T.go 1 (fun n9 => (rfl : _ = exe ξ n9 (d + 5) j_N_unpackEntry 138 [(0, .ref 16), (1, .ref a), (2, J x), (3, .ref q), (4, J (W2 g (gl (il σ (a + 3)) x + 10))), (5, JL (W4 g (gl (il σ (a + 3)) x + 24))), (7, J (gl (il σ (a + 4)) x)), (8, J (W4 g (gl (il σ (a + 3)) x + 20))), (9, J z8)] [.ref q] s7)) ?_
            obtain ⟨v9, n1, n2, n3, n4, n5⟩ := uyz8 (by omega)
            refine T.calls (as := [.ref q]) (r := []) rfl rfl (by decide) rfl rfl (s_N_fsumOf hX0 (d + 3) (nb s7 q) q s7 hs7.1 hq (fun k => nb_r k) nb_ag ) (fun v8 s8 hqs8 => ?_)
            obtain ⟨z9, rfl, esz9, hzz9, hyz9, pz9_0⟩ := hqs8
            rw [esz9]
            have hRQ : RQ g (gl (il σ (a + 3)) x) (gl (il σ (a + 4)) x) (nb s7 q) := RQ_8 (by omega) (by omega) (by omega) n1 n2 n3 n5
            have rN : rl s7 q = W4 g (gl (il σ (a + 3)) x + 24) := n4
            rw [rN] at pz9_0
            refine T.go 2 (fun n9 => (rfl : _ = exe ξ n9 (d + 5) j_N_unpackEntry 143 [(0, .ref 16), (1, .ref a), (2, J x), (3, .ref q), (4, J (W2 g (gl (il σ (a + 3)) x + 10))), (5, JL (W4 g (gl (il σ (a + 3)) x + 24))), (7, J (gl (il σ (a + 4)) x)), (8, J (W4 g (gl (il σ (a + 3)) x + 20))), (9, J z8)] [J x, .ref a, JL z9] s7)) ?_
            have hgqs7 := hg.fr hNA gs7 (kdX_ar _ ha).2.2.1 (nm_c (dq_18 _ ha) (nm_c (dq_19 _ ha) (nm_c (dq_20 _ ha) (nm_c (dq_21 _ ha) (nm_c (dq_22 _ ha) (nm_c (dq_23 _ ha) (nm_c (dq_24 _ ha) (nm_c (dq_25 _ ha) (nm_c (dq_26 _ ha) (nm_c (dq_27 _ ha) (nm_c (dq_28 _ ha) (nm_c haq nm_0))))))))))))
            have rlqs7 := rl_eq (gs7.2.2.1 (a + 1) (List.mem_cons_of_mem _ (kdX_ar _ ha).2.2.1) (nm_c (dq_18 _ ha) (nm_c (dq_19 _ ha) (nm_c (dq_20 _ ha) (nm_c (dq_21 _ ha) (nm_c (dq_22 _ ha) (nm_c (dq_23 _ ha) (nm_c (dq_24 _ ha) (nm_c (dq_25 _ ha) (nm_c (dq_26 _ ha) (nm_c (dq_27 _ ha) (nm_c (dq_28 _ ha) (nm_c haq nm_0)))))))))))))
            have i3qs7 := il_fr hK (kdX_ar _ ha).2.2.2.1 gs7 (nm_c (dq_29 _ ha) (nm_c (dq_30 _ ha) (nm_c (dq_31 _ ha) (nm_c (dq_32 _ ha) (nm_c (dq_33 _ ha) (nm_c (dq_34 _ ha) (nm_c (dq_35 _ ha) (nm_c (dq_36 _ ha) (nm_c (dq_37 _ ha) (nm_c (dq_38 _ ha) (nm_c (dq_39 _ ha) (nm_c (dq_40 _ ha _ hq) nm_0))))))))))))
            have i4qs7 := il_fr hK (kdX_ar _ ha).2.2.2.2 gs7 (nm_c (dq_41 _ ha) (nm_c (dq_42 _ ha) (nm_c (dq_43 _ ha) (nm_c (dq_44 _ ha) (nm_c (dq_45 _ ha) (nm_c (dq_46 _ ha) (nm_c (dq_47 _ ha) (nm_c (dq_48 _ ha) (nm_c (dq_49 _ ha) (nm_c (dq_50 _ ha) (nm_c (dq_51 _ ha) (nm_c (dq_52 _ ha _ hq) nm_0))))))))))))
            have a3qs7 : afld s7 a 3 = afld σ a 3 := by unfold afld; rw [gs7.b.1 a _ (nm_c (dq_53 _ ha) (nm_c (dq_54 _ ha) (nm_c (dq_55 _ ha) (nm_c (dq_56 _ ha) (nm_c (dq_57 _ ha) (nm_c (dq_58 _ ha) (nm_c (dq_59 _ ha) (nm_c (dq_60 _ ha) (nm_c (dq_61 _ ha) (nm_c (dq_62 _ ha) (nm_c (dq_63 _ ha) (nm_c (dq_17 _ ha _ hq) nm_0)))))))))))) (fun l z => by cases z) hax1, hax1]
            have hxqs7 : gl (il s7 (a + 3)) x = gl (il σ (a + 3)) x := by rw [i3qs7]
            refine T.callv (as := [J x]) (r := [JL z9]) rfl rfl rfl (ArL_lt _ ha).2.2.1 k3 rfl (s_A_fsum (d + 2) g a x s7 hs7.1 ha h255 hgqs7 (by omega) (by omega) (by omega) (by omega) (by omega)) (fun v9 s9 hqs9 => ?_)
            obtain ⟨z10, rfl, esz10, hzz10, hyz10, pz10_0⟩ := hqs9
            rw [esz10]
            rw [hxqs7] at pz10_0
            subst pz10_0
            have v16_132 := hV (gl (il σ (a + 3)) x + 16)
            refine T.lcmp rfl (by omega) (by omega) (fun c6 => ?_) (fun c6 => ?_) (fun c6 => ?_)
            · refine T.go 1 (fun n9 => (rfl : _ = exe ξ n9 (d + 5) j_N_unpackEntry 154 [(0, .ref 16), (1, .ref a), (2, J x), (3, .ref q), (4, J (W2 g (gl (il σ (a + 3)) x + 10))), (5, JL (W4 g (gl (il σ (a + 3)) x + 24))), (7, J (gl (il σ (a + 4)) x)), (8, J (W4 g (gl (il σ (a + 3)) x + 20))), (9, J z8)] [] s7)) ?_
              refine T.go 1 (fun n9 => (rfl : _ = exe ξ n9 (d + 5) j_N_unpackEntry 156 [(0, .ref 16), (1, .ref a), (2, J x), (3, .ref q), (4, J (W2 g (gl (il σ (a + 3)) x + 10))), (5, JL (W4 g (gl (il σ (a + 3)) x + 24))), (7, J (gl (il σ (a + 4)) x)), (8, J (W4 g (gl (il σ (a + 3)) x + 20))), (9, J z8)] [J 9] s7)) ?_
              exact T.ireti rfl rfl ⟨_, rfl, gs7, by omega, by omega, (fun h => absurd h (by decide)), (fun _ o => RD_9 hRQ (by omega))⟩
            · refine T.go 1 (fun n9 => (rfl : _ = exe ξ n9 (d + 5) j_N_unpackEntry 150 [(0, .ref 16), (1, .ref a), (2, J x), (3, .ref q), (4, J (W2 g (gl (il σ (a + 3)) x + 10))), (5, JL (W4 g (gl (il σ (a + 3)) x + 24))), (7, J (gl (il σ (a + 4)) x)), (8, J (W4 g (gl (il σ (a + 3)) x + 20))), (9, J z8)] [] s7)) ?_
              refine T.go 2 (fun n9 => (rfl : _ = exe ξ n9 (d + 5) j_N_unpackEntry 156 [(0, .ref 16), (1, .ref a), (2, J x), (3, .ref q), (4, J (W2 g (gl (il σ (a + 3)) x + 10))), (5, JL (W4 g (gl (il σ (a + 3)) x + 24))), (7, J (gl (il σ (a + 4)) x)), (8, J (W4 g (gl (il σ (a + 3)) x + 20))), (9, J z8)] [J 0] s7)) ?_
              exact T.ireti rfl rfl ⟨_, rfl, gs7, by omega, by omega, (fun _ => ⟨RD_is hRQ (by omega), rN⟩), (fun h => absurd rfl h)⟩
            · refine T.go 1 (fun n9 => (rfl : _ = exe ξ n9 (d + 5) j_N_unpackEntry 154 [(0, .ref 16), (1, .ref a), (2, J x), (3, .ref q), (4, J (W2 g (gl (il σ (a + 3)) x + 10))), (5, JL (W4 g (gl (il σ (a + 3)) x + 24))), (7, J (gl (il σ (a + 4)) x)), (8, J (W4 g (gl (il σ (a + 3)) x + 20))), (9, J z8)] [] s7)) ?_
              refine T.go 1 (fun n9 => (rfl : _ = exe ξ n9 (d + 5) j_N_unpackEntry 156 [(0, .ref 16), (1, .ref a), (2, J x), (3, .ref q), (4, J (W2 g (gl (il σ (a + 3)) x + 10))), (5, JL (W4 g (gl (il σ (a + 3)) x + 24))), (7, J (gl (il σ (a + 4)) x)), (8, J (W4 g (gl (il σ (a + 3)) x + 20))), (9, J z8)] [J 9] s7)) ?_
              exact T.ireti rfl rfl ⟨_, rfl, gs7, by omega, by omega, (fun h => absurd h (by decide)), (fun _ o => RD_9 hRQ (by omega))⟩
          · refine T.go 1 (fun n9 => (rfl : _ = exe ξ n9 (d + 5) j_N_unpackEntry 136 [(0, .ref 16), (1, .ref a), (2, J x), (3, .ref q), (4, J (W2 g (gl (il σ (a + 3)) x + 10))), (5, JL (W4 g (gl (il σ (a + 3)) x + 24))), (7, J (gl (il σ (a + 4)) x)), (8, J (W4 g (gl (il σ (a + 3)) x + 20))), (9, J z8)] [J 8] s7)) ?_
            exact T.ireti rfl rfl ⟨_, rfl, gs7, by omega, by omega, (fun h => absurd h (by decide)), (fun _ o => RD_88 (by omega) (unz8 (by omega)))⟩
        · refine T.go 1 (fun n9 => (rfl : _ = exe ξ n9 (d + 5) j_N_unpackEntry 78 [(0, .ref 16), (1, .ref a), (2, J x), (3, .ref q), (4, J (W2 g (gl (il σ (a + 3)) x + 10))), (5, JL (W4 g (gl (il σ (a + 3)) x + 24))), (7, J (gl (il σ (a + 4)) x)), (8, J (W4 g (gl (il σ (a + 3)) x + 20)))] [J (W4 g (gl (il σ (a + 3)) x + 20))] s4)) ?_
          refine T.i2l rfl (by omega) ?_
          refine T.go 1 (fun n9 => (rfl : _ = exe ξ n9 (d + 5) j_N_unpackEntry 81 [(0, .ref 16), (1, .ref a), (2, J x), (3, .ref q), (4, J (W2 g (gl (il σ (a + 3)) x + 10))), (5, JL (W4 g (gl (il σ (a + 3)) x + 24))), (7, J (gl (il σ (a + 4)) x)), (8, J (W4 g (gl (il σ (a + 3)) x + 20)))] [JL (W4 g (gl (il σ (a + 3)) x + 24)), JL (W4 g (gl (il σ (a + 3)) x + 20))] s4)) ?_
          refine T.lcmp rfl (by omega) (by omega) (fun c7 => ?_) (fun c7 => ?_) (fun c7 => ?_)
          · refine T.go 1 (fun n9 => (rfl : _ = exe ξ n9 (d + 5) j_N_unpackEntry 104 [(0, .ref 16), (1, .ref a), (2, J x), (3, .ref q), (4, J (W2 g (gl (il σ (a + 3)) x + 10))), (5, JL (W4 g (gl (il σ (a + 3)) x + 24))), (7, J (gl (il σ (a + 4)) x)), (8, J (W4 g (gl (il σ (a + 3)) x + 20)))] [] s4)) ?_
            refine T.go 6 (fun n9 => (rfl : _ = exe ξ n9 (d + 5) j_N_unpackEntry 136 [(0, .ref 16), (1, .ref a), (2, J x), (3, .ref q), (4, J (W2 g (gl (il σ (a + 3)) x + 10))), (5, JL (W4 g (gl (il σ (a + 3)) x + 24))), (7, J (gl (il σ (a + 4)) x)), (8, J (W4 g (gl (il σ (a + 3)) x + 20))), (9, J 0)] [J 8] s4)) ?_
            exact T.ireti rfl rfl ⟨_, rfl, hs4, by omega, by omega, (fun h => absurd h (by decide)), (fun _ o => RD_80 (by omega) (by omega))⟩
          · refine T.go 1 (fun n9 => (rfl : _ = exe ξ n9 (d + 5) j_N_unpackEntry 85 [(0, .ref 16), (1, .ref a), (2, J x), (3, .ref q), (4, J (W2 g (gl (il σ (a + 3)) x + 10))), (5, JL (W4 g (gl (il σ (a + 3)) x + 24))), (7, J (gl (il σ (a + 4)) x)), (8, J (W4 g (gl (il σ (a + 3)) x + 20)))] [] s4)) ?_
            refine T.go 2 (fun n9 => (rfl : _ = exe ξ n9 (d + 5) j_N_unpackEntry 87 [(0, .ref 16), (1, .ref a), (2, J x), (3, .ref q), (4, J (W2 g (gl (il σ (a + 3)) x + 10))), (5, JL (W4 g (gl (il σ (a + 3)) x + 24))), (7, J (gl (il σ (a + 4)) x)), (8, J (W4 g (gl (il σ (a + 3)) x + 20)))] [.ref a, .ref q] s4)) ?_
            refine T.get rfl rfl rfl k1 rfl ?_
            refine T.go 2 (fun n9 => (rfl : _ = exe ξ n9 (d + 5) j_N_unpackEntry 94 [(0, .ref 16), (1, .ref a), (2, J x), (3, .ref q), (4, J (W2 g (gl (il σ (a + 3)) x + 10))), (5, JL (W4 g (gl (il σ (a + 3)) x + 24))), (7, J (gl (il σ (a + 4)) x)), (8, J (W4 g (gl (il σ (a + 3)) x + 20)))] [J (W4 g (gl (il σ (a + 3)) x + 20)), J (gl (il σ (a + 4)) x), .ref (a + 1), .ref q] s4)) ?_
            obtain ⟨mx6, nx6, bx6, lx6, hrx6, hbx6, fx6a, fx6b, fx6c, fx6d, fx6e, fx6g, fx6h, fx6i⟩ := hs4.1.row hq
            have ctx6 := CT_of hrx6 hbx6
            have rwx6 := rl_of hrx6 (by omega)
            subst rwx6
            refine T.callv (as := [.ref (a + 1), J (gl (il σ (a + 4)) x), J (W4 g (gl (il σ (a + 3)) x + 20))]) (r := []) rfl rfl rfl (RwL_lt _ hq).2.2.1 hrx6 rfl (s_R_faddPart (d + 3) q (a + 1) (gl (il σ (a + 4)) x) (W4 g (gl (il σ (a + 3)) x + 20)) s4 hs4.1 hq (kdX_ar _ ha).2.2.1 haq (by omega) (by omega) (by omega) (by omega) (by omega) (by omega)) (fun v10 s10 hqs10 => ?_)
            obtain ⟨z11, rfl, hs10, hzz11, hyz11, pz11_0, pz11_1, pz11_2, pz11_3⟩ := hqs10
            have es10 := hs10
            have hs10 := hs10.sub (w' := [17, 18, 20, 21, 22, 24, 25, 26, 28, 29, 30, q]) (List.forall_mem_cons.mpr ⟨(by simp), (fun _ h => by cases h)⟩)
            have k6 := es10.b.1 _ _ (nm_c (dq_17 _ ha _ hq) nm_0) (fun l z => by cases z) k1
            have k7 := es10.b.1 _ _ (nm_c haq nm_0) (fun l z => by cases z) k2
            have gs10 := hs4.trans hs10
            subst pz11_2
            have ag := pz11_3 g (fun _ => 0) hgqs4 (AGR.none pz5_1)
            rw [pz5_1] at ag
            have zb : ZB (PLC g (fun _ => 0) 0 (gl (il σ (a + 4)) x) (W4 g (gl (il σ (a + 3)) x + 20) : Int).toNat) (rl s10 q) := by rw [pz11_1, pz5_1]; have h9 := ZB_plc (g := g) (o := fun _ => 0) (m := 0) (a := gl (il σ (a + 4)) x) (n := (W4 g (gl (il σ (a + 3)) x + 20) : Int).toNat) (fun _ _ => rfl) (by decide); rw [Int.toNat_of_nonneg (by omega)] at h9; exact h9
            have nbN := nb_of ag zb
            refine T.go 7 (fun n9 => (rfl : _ = exe ξ n9 (d + 5) j_N_unpackEntry 138 [(0, .ref 16), (1, .ref a), (2, J x), (3, .ref q), (4, J (W2 g (gl (il σ (a + 3)) x + 10))), (5, JL (W4 g (gl (il σ (a + 3)) x + 24))), (7, J (gl (il σ (a + 4)) x)), (8, J (W4 g (gl (il σ (a + 3)) x + 20))), (9, J 1)] [.ref q] s10)) ?_
            refine T.calls (as := [.ref q]) (r := []) rfl rfl (by decide) rfl rfl (s_N_fsumOf hX0 (d + 3) (nb s10 q) q s10 hs10.1 hq (fun k => nb_r k) nb_ag ) (fun v11 s11 hqs11 => ?_)
            obtain ⟨z12, rfl, esz12, hzz12, hyz12, pz12_0⟩ := hqs11
            rw [esz12]
            have hRQ : RQ g (gl (il σ (a + 3)) x) (gl (il σ (a + 4)) x) (nb s10 q) := RQ_0 (by omega) (by omega) (by omega) (by omega) (by rw [nbN, show W4 g (gl (il σ (a + 3)) x + 20) = W4 g (gl (il σ (a + 3)) x + 24) by omega])
            have rN : rl s10 q = W4 g (gl (il σ (a + 3)) x + 24) := by omega
            rw [rN] at pz12_0
            refine T.go 2 (fun n9 => (rfl : _ = exe ξ n9 (d + 5) j_N_unpackEntry 143 [(0, .ref 16), (1, .ref a), (2, J x), (3, .ref q), (4, J (W2 g (gl (il σ (a + 3)) x + 10))), (5, JL (W4 g (gl (il σ (a + 3)) x + 24))), (7, J (gl (il σ (a + 4)) x)), (8, J (W4 g (gl (il σ (a + 3)) x + 20))), (9, J 1)] [J x, .ref a, JL z12] s10)) ?_
            have hgqs10 := hg.fr hNA gs10 (kdX_ar _ ha).2.2.1 (nm_c (dq_18 _ ha) (nm_c (dq_19 _ ha) (nm_c (dq_20 _ ha) (nm_c (dq_21 _ ha) (nm_c (dq_22 _ ha) (nm_c (dq_23 _ ha) (nm_c (dq_24 _ ha) (nm_c (dq_25 _ ha) (nm_c (dq_26 _ ha) (nm_c (dq_27 _ ha) (nm_c (dq_28 _ ha) (nm_c haq nm_0))))))))))))
            have rlqs10 := rl_eq (gs10.2.2.1 (a + 1) (List.mem_cons_of_mem _ (kdX_ar _ ha).2.2.1) (nm_c (dq_18 _ ha) (nm_c (dq_19 _ ha) (nm_c (dq_20 _ ha) (nm_c (dq_21 _ ha) (nm_c (dq_22 _ ha) (nm_c (dq_23 _ ha) (nm_c (dq_24 _ ha) (nm_c (dq_25 _ ha) (nm_c (dq_26 _ ha) (nm_c (dq_27 _ ha) (nm_c (dq_28 _ ha) (nm_c haq nm_0)))))))))))))
            have i3qs10 := il_fr hK (kdX_ar _ ha).2.2.2.1 gs10 (nm_c (dq_29 _ ha) (nm_c (dq_30 _ ha) (nm_c (dq_31 _ ha) (nm_c (dq_32 _ ha) (nm_c (dq_33 _ ha) (nm_c (dq_34 _ ha) (nm_c (dq_35 _ ha) (nm_c (dq_36 _ ha) (nm_c (dq_37 _ ha) (nm_c (dq_38 _ ha) (nm_c (dq_39 _ ha) (nm_c (dq_40 _ ha _ hq) nm_0))))))))))))
            have i4qs10 := il_fr hK (kdX_ar _ ha).2.2.2.2 gs10 (nm_c (dq_41 _ ha) (nm_c (dq_42 _ ha) (nm_c (dq_43 _ ha) (nm_c (dq_44 _ ha) (nm_c (dq_45 _ ha) (nm_c (dq_46 _ ha) (nm_c (dq_47 _ ha) (nm_c (dq_48 _ ha) (nm_c (dq_49 _ ha) (nm_c (dq_50 _ ha) (nm_c (dq_51 _ ha) (nm_c (dq_52 _ ha _ hq) nm_0))))))))))))
            have a3qs10 : afld s10 a 3 = afld σ a 3 := by unfold afld; rw [gs10.b.1 a _ (nm_c (dq_53 _ ha) (nm_c (dq_54 _ ha) (nm_c (dq_55 _ ha) (nm_c (dq_56 _ ha) (nm_c (dq_57 _ ha) (nm_c (dq_58 _ ha) (nm_c (dq_59 _ ha) (nm_c (dq_60 _ ha) (nm_c (dq_61 _ ha) (nm_c (dq_62 _ ha) (nm_c (dq_63 _ ha) (nm_c (dq_17 _ ha _ hq) nm_0)))))))))))) (fun l z => by cases z) hax1, hax1]
            have hxqs10 : gl (il s10 (a + 3)) x = gl (il σ (a + 3)) x := by rw [i3qs10]
            refine T.callv (as := [J x]) (r := [JL z12]) rfl rfl rfl (ArL_lt _ ha).2.2.1 k6 rfl (s_A_fsum (d + 2) g a x s10 hs10.1 ha h255 hgqs10 (by omega) (by omega) (by omega) (by omega) (by omega)) (fun v12 s12 hqs12 => ?_)
            obtain ⟨z13, rfl, esz13, hzz13, hyz13, pz13_0⟩ := hqs12
            rw [esz13]
            rw [hxqs10] at pz13_0
            subst pz13_0
            have v16_191 := hV (gl (il σ (a + 3)) x + 16)
            refine T.lcmp rfl (by omega) (by omega) (fun c8 => ?_) (fun c8 => ?_) (fun c8 => ?_)
            · refine T.go 1 (fun n9 => (rfl : _ = exe ξ n9 (d + 5) j_N_unpackEntry 154 [(0, .ref 16), (1, .ref a), (2, J x), (3, .ref q), (4, J (W2 g (gl (il σ (a + 3)) x + 10))), (5, JL (W4 g (gl (il σ (a + 3)) x + 24))), (7, J (gl (il σ (a + 4)) x)), (8, J (W4 g (gl (il σ (a + 3)) x + 20))), (9, J 1)] [] s10)) ?_
              refine T.go 1 (fun n9 => (rfl : _ = exe ξ n9 (d + 5) j_N_unpackEntry 156 [(0, .ref 16), (1, .ref a), (2, J x), (3, .ref q), (4, J (W2 g (gl (il σ (a + 3)) x + 10))), (5, JL (W4 g (gl (il σ (a + 3)) x + 24))), (7, J (gl (il σ (a + 4)) x)), (8, J (W4 g (gl (il σ (a + 3)) x + 20))), (9, J 1)] [J 9] s10)) ?_
              exact T.ireti rfl rfl ⟨_, rfl, gs10, by omega, by omega, (fun h => absurd h (by decide)), (fun _ o => RD_9 hRQ (by omega))⟩
            · refine T.go 1 (fun n9 => (rfl : _ = exe ξ n9 (d + 5) j_N_unpackEntry 150 [(0, .ref 16), (1, .ref a), (2, J x), (3, .ref q), (4, J (W2 g (gl (il σ (a + 3)) x + 10))), (5, JL (W4 g (gl (il σ (a + 3)) x + 24))), (7, J (gl (il σ (a + 4)) x)), (8, J (W4 g (gl (il σ (a + 3)) x + 20))), (9, J 1)] [] s10)) ?_
              refine T.go 2 (fun n9 => (rfl : _ = exe ξ n9 (d + 5) j_N_unpackEntry 156 [(0, .ref 16), (1, .ref a), (2, J x), (3, .ref q), (4, J (W2 g (gl (il σ (a + 3)) x + 10))), (5, JL (W4 g (gl (il σ (a + 3)) x + 24))), (7, J (gl (il σ (a + 4)) x)), (8, J (W4 g (gl (il σ (a + 3)) x + 20))), (9, J 1)] [J 0] s10)) ?_
              exact T.ireti rfl rfl ⟨_, rfl, gs10, by omega, by omega, (fun _ => ⟨RD_is hRQ (by omega), rN⟩), (fun h => absurd rfl h)⟩
            · refine T.go 1 (fun n9 => (rfl : _ = exe ξ n9 (d + 5) j_N_unpackEntry 154 [(0, .ref 16), (1, .ref a), (2, J x), (3, .ref q), (4, J (W2 g (gl (il σ (a + 3)) x + 10))), (5, JL (W4 g (gl (il σ (a + 3)) x + 24))), (7, J (gl (il σ (a + 4)) x)), (8, J (W4 g (gl (il σ (a + 3)) x + 20))), (9, J 1)] [] s10)) ?_
              refine T.go 1 (fun n9 => (rfl : _ = exe ξ n9 (d + 5) j_N_unpackEntry 156 [(0, .ref 16), (1, .ref a), (2, J x), (3, .ref q), (4, J (W2 g (gl (il σ (a + 3)) x + 10))), (5, JL (W4 g (gl (il σ (a + 3)) x + 24))), (7, J (gl (il σ (a + 4)) x)), (8, J (W4 g (gl (il σ (a + 3)) x + 20))), (9, J 1)] [J 9] s10)) ?_
              exact T.ireti rfl rfl ⟨_, rfl, gs10, by omega, by omega, (fun h => absurd h (by decide)), (fun _ o => RD_9 hRQ (by omega))⟩
          · refine T.go 1 (fun n9 => (rfl : _ = exe ξ n9 (d + 5) j_N_unpackEntry 104 [(0, .ref 16), (1, .ref a), (2, J x), (3, .ref q), (4, J (W2 g (gl (il σ (a + 3)) x + 10))), (5, JL (W4 g (gl (il σ (a + 3)) x + 24))), (7, J (gl (il σ (a + 4)) x)), (8, J (W4 g (gl (il σ (a + 3)) x + 20)))] [] s4)) ?_
            refine T.go 6 (fun n9 => (rfl : _ = exe ξ n9 (d + 5) j_N_unpackEntry 136 [(0, .ref 16), (1, .ref a), (2, J x), (3, .ref q), (4, J (W2 g (gl (il σ (a + 3)) x + 10))), (5, JL (W4 g (gl (il σ (a + 3)) x + 24))), (7, J (gl (il σ (a + 4)) x)), (8, J (W4 g (gl (il σ (a + 3)) x + 20))), (9, J 0)] [J 8] s4)) ?_
            exact T.ireti rfl rfl ⟨_, rfl, hs4, by omega, by omega, (fun h => absurd h (by decide)), (fun _ o => RD_80 (by omega) (by omega))⟩
      · refine T.go 1 (fun n9 => (rfl : _ = exe ξ n9 (d + 5) j_N_unpackEntry 52 [(0, .ref 16), (1, .ref a), (2, J x), (3, .ref q), (4, J (W2 g (gl (il σ (a + 3)) x + 10))), (5, JL (W4 g (gl (il σ (a + 3)) x + 24)))] [] σ)) ?_
        refine T.go 1 (fun n9 => (rfl : _ = exe ξ n9 (d + 5) j_N_unpackEntry 53 [(0, .ref 16), (1, .ref a), (2, J x), (3, .ref q), (4, J (W2 g (gl (il σ (a + 3)) x + 10))), (5, JL (W4 g (gl (il σ (a + 3)) x + 24)))] [.ref q] σ)) ?_
        refine T.callv (as := []) (r := []) rfl rfl rfl (RwL_lt _ hq).2.2.1 hrx3 rfl (s_R_clear (d + 4) q σ hK hq  ) (fun v13 s13 hqs13 => ?_)
        obtain ⟨rfl, hs13, pz14_0, pz14_1⟩ := hqs13
        have es13 := hs13
        have hs13 := hs13.sub (w' := [17, 18, 20, 21, 22, 24, 25, 26, 28, 29, 30, q]) (List.forall_mem_cons.mpr ⟨(by simp), (fun _ h => by cases h)⟩)
        have k8 := es13.b.1 _ _ (nm_c (dq_17 _ ha _ hq) nm_0) (fun l z => by cases z) hax1
        have k9 := es13.b.1 _ _ (nm_c haq nm_0) (fun l z => by cases z) hrx2
        refine T.go 2 (fun n9 => (rfl : _ = exe ξ n9 (d + 5) j_N_unpackEntry 58 [(0, .ref 16), (1, .ref a), (2, J x), (3, .ref q), (4, J (W2 g (gl (il σ (a + 3)) x + 10))), (5, JL (W4 g (gl (il σ (a + 3)) x + 24)))] [J x, .ref a] s13)) ?_
        have hgqs13 := hg.fr hNA hs13 (kdX_ar _ ha).2.2.1 (nm_c (dq_18 _ ha) (nm_c (dq_19 _ ha) (nm_c (dq_20 _ ha) (nm_c (dq_21 _ ha) (nm_c (dq_22 _ ha) (nm_c (dq_23 _ ha) (nm_c (dq_24 _ ha) (nm_c (dq_25 _ ha) (nm_c (dq_26 _ ha) (nm_c (dq_27 _ ha) (nm_c (dq_28 _ ha) (nm_c haq nm_0))))))))))))
        have rlqs13 := rl_eq (hs13.2.2.1 (a + 1) (List.mem_cons_of_mem _ (kdX_ar _ ha).2.2.1) (nm_c (dq_18 _ ha) (nm_c (dq_19 _ ha) (nm_c (dq_20 _ ha) (nm_c (dq_21 _ ha) (nm_c (dq_22 _ ha) (nm_c (dq_23 _ ha) (nm_c (dq_24 _ ha) (nm_c (dq_25 _ ha) (nm_c (dq_26 _ ha) (nm_c (dq_27 _ ha) (nm_c (dq_28 _ ha) (nm_c haq nm_0)))))))))))))
        have i3qs13 := il_fr hK (kdX_ar _ ha).2.2.2.1 hs13 (nm_c (dq_29 _ ha) (nm_c (dq_30 _ ha) (nm_c (dq_31 _ ha) (nm_c (dq_32 _ ha) (nm_c (dq_33 _ ha) (nm_c (dq_34 _ ha) (nm_c (dq_35 _ ha) (nm_c (dq_36 _ ha) (nm_c (dq_37 _ ha) (nm_c (dq_38 _ ha) (nm_c (dq_39 _ ha) (nm_c (dq_40 _ ha _ hq) nm_0))))))))))))
        have i4qs13 := il_fr hK (kdX_ar _ ha).2.2.2.2 hs13 (nm_c (dq_41 _ ha) (nm_c (dq_42 _ ha) (nm_c (dq_43 _ ha) (nm_c (dq_44 _ ha) (nm_c (dq_45 _ ha) (nm_c (dq_46 _ ha) (nm_c (dq_47 _ ha) (nm_c (dq_48 _ ha) (nm_c (dq_49 _ ha) (nm_c (dq_50 _ ha) (nm_c (dq_51 _ ha) (nm_c (dq_52 _ ha _ hq) nm_0))))))))))))
        have a3qs13 : afld s13 a 3 = afld σ a 3 := by unfold afld; rw [hs13.b.1 a _ (nm_c (dq_53 _ ha) (nm_c (dq_54 _ ha) (nm_c (dq_55 _ ha) (nm_c (dq_56 _ ha) (nm_c (dq_57 _ ha) (nm_c (dq_58 _ ha) (nm_c (dq_59 _ ha) (nm_c (dq_60 _ ha) (nm_c (dq_61 _ ha) (nm_c (dq_62 _ ha) (nm_c (dq_63 _ ha) (nm_c (dq_17 _ ha _ hq) nm_0)))))))))))) (fun l z => by cases z) hax1, hax1]
        have hxqs13 : gl (il s13 (a + 3)) x = gl (il σ (a + 3)) x := by rw [i3qs13]
        refine T.callv (as := [J x]) (r := []) rfl rfl rfl (ArL_lt _ ha).2.2.1 k8 rfl (s_A_fdataPlace (d + 3) a x s13 hs13.1 ha  (by omega)) (fun v14 s14 hqs14 => ?_)
        obtain ⟨z15, rfl, esz15, hzz15, hyz15, pz15_0⟩ := hqs14
        rw [esz15]
        have d9 := pz15_0 (by omega)
        rw [i4qs13] at d9
        subst d9
        refine T.go 3 (fun n9 => (rfl : _ = exe ξ n9 (d + 5) j_N_unpackEntry 65 [(0, .ref 16), (1, .ref a), (2, J x), (3, .ref q), (4, J (W2 g (gl (il σ (a + 3)) x + 10))), (5, JL (W4 g (gl (il σ (a + 3)) x + 24))), (7, J (gl (il σ (a + 4)) x))] [J x, .ref a] s13)) ?_
        refine T.callv (as := [J x]) (r := []) rfl rfl rfl (ArL_lt _ ha).2.2.1 k8 rfl (s_A_fpackedSize (d + 2) g a x s13 hs13.1 ha h255 hgqs13 (by omega) (by omega) (by omega) (by omega) (by omega)) (fun v15 s15 hqs15 => ?_)
        obtain ⟨z16, rfl, esz16, hzz16, hyz16, pz16_0⟩ := hqs15
        rw [esz16]
        rw [hxqs13] at pz16_0
        subst pz16_0
        have v20_232 := hV (gl (il σ (a + 3)) x + 20)
        refine T.l2i rfl ?_
        refine T.go 2 (fun n9 => (rfl : _ = exe ξ n9 (d + 5) j_N_unpackEntry 73 [(0, .ref 16), (1, .ref a), (2, J x), (3, .ref q), (4, J (W2 g (gl (il σ (a + 3)) x + 10))), (5, JL (W4 g (gl (il σ (a + 3)) x + 24))), (7, J (gl (il σ (a + 4)) x)), (8, J (W4 g (gl (il σ (a + 3)) x + 20)))] [J (W2 g (gl (il σ (a + 3)) x + 10))] s13)) ?_
        refine T.if_ne rfl rfl (by omega) (fun c9 => ?_) (fun c9 => ?_)
        · refine T.go 1 (fun n9 => (rfl : _ = exe ξ n9 (d + 5) j_N_unpackEntry 109 [(0, .ref 16), (1, .ref a), (2, J x), (3, .ref q), (4, J (W2 g (gl (il σ (a + 3)) x + 10))), (5, JL (W4 g (gl (il σ (a + 3)) x + 24))), (7, J (gl (il σ (a + 4)) x)), (8, J (W4 g (gl (il σ (a + 3)) x + 20)))] [.ref 16] s13)) ?_
          obtain ⟨kex7, scx7, tpx7, oux7, mox7, sgx7, hox7, mcx7, lfx7, lpx7, hNx7, fx7ke, fx7sc, fx7tp, fx7ou, fx7mo, fx7sg, fx7d, fx7e, fx7f, fx7g, fx7h, fx7i, fx7j⟩ := hs13.1.na
          refine T.get rfl rfl rfl hNx7 rfl ?_
          refine T.go 1 (fun n9 => (rfl : _ = exe ξ n9 (d + 5) j_N_unpackEntry 113 [(0, .ref 16), (1, .ref a), (2, J x), (3, .ref q), (4, J (W2 g (gl (il σ (a + 3)) x + 10))), (5, JL (W4 g (gl (il σ (a + 3)) x + 24))), (7, J (gl (il σ (a + 4)) x)), (8, J (W4 g (gl (il σ (a + 3)) x + 20)))] [.ref a, .ref 17] s13)) ?_
          refine T.get rfl rfl rfl k8 rfl ?_
          refine T.go 4 (fun n9 => (rfl : _ = exe ξ n9 (d + 5) j_N_unpackEntry 123 [(0, .ref 16), (1, .ref a), (2, J x), (3, .ref q), (4, J (W2 g (gl (il σ (a + 3)) x + 10))), (5, JL (W4 g (gl (il σ (a + 3)) x + 24))), (7, J (gl (il σ (a + 4)) x)), (8, J (W4 g (gl (il σ (a + 3)) x + 20)))] [JL (W4 g (gl (il σ (a + 3)) x + 24)), .ref q, J (W4 g (gl (il σ (a + 3)) x + 20)), J (gl (il σ (a + 4)) x), .ref (a + 1), .ref 17] s13)) ?_
          refine T.l2i rfl ?_
          obtain ⟨sx8, tx8, wx8, bix8, bex8, rox8, hux8, fx8a, fx8b, fx8c, fx8d, fx8e, fx8f, fx8g, fx8h, fx8i⟩ := hs13.1.unp
          refine T.callv (as := [.ref (a + 1), J (gl (il σ (a + 4)) x), J (W4 g (gl (il σ (a + 3)) x + 20)), .ref q, J (W4 g (gl (il σ (a + 3)) x + 24))]) (r := []) rfl rfl rfl rfl hux8 rfl (s_U_funpack hX0 d g (a + 1) (gl (il σ (a + 4)) x) (W4 g (gl (il σ (a + 3)) x + 20)) q (W4 g (gl (il σ (a + 3)) x + 24)) s13 hs13.1 (kdX_ar _ ha).2.2.1 hq haq (hs13.b.2 hNA).1 hgqs13 hmt (hf1.fr hK (by decide) hs13 (nm_c (by decide) (nm_c (by decide) (nm_c (by decide) (nm_c (by decide) (nm_c (by decide) (nm_c (by decide) (nm_c (by decide) (nm_c (by decide) (nm_c (by decide) (nm_c (by decide) (nm_c (by decide) (nm_c (dq_13 _ hq) nm_0)))))))))))) (nm_c (by decide) (nm_c (by decide) (nm_c (by decide) (nm_c (by decide) (nm_c (by decide) (nm_c (by decide) (nm_c (by decide) (nm_c (by decide) (nm_c (by decide) (nm_c (by decide) (nm_c (by decide) (nm_c (dq_14 _ hq) nm_0))))))))))))) (hf2.fr hK (by decide) hs13 (nm_c (by decide) (nm_c (by decide) (nm_c (by decide) (nm_c (by decide) (nm_c (by decide) (nm_c (by decide) (nm_c (by decide) (nm_c (by decide) (nm_c (by decide) (nm_c (by decide) (nm_c (by decide) (nm_c (dq_15 _ hq) nm_0)))))))))))) (nm_c (by decide) (nm_c (by decide) (nm_c (by decide) (nm_c (by decide) (nm_c (by decide) (nm_c (by decide) (nm_c (by decide) (nm_c (by decide) (nm_c (by decide) (nm_c (by decide) (nm_c (by decide) (nm_c (dq_16 _ hq) nm_0))))))))))))) (by omega) (by omega) (by omega) (by omega) (by omega) (by omega) (by omega) (by omega) (by omega)) (fun v16 s16 hqs16 => ?_)
          obtain ⟨z17, rfl, hs16, hzz17, hyz17, pz17_0, pz17_1⟩ := hqs16
          have es16 := hs16
          have k10 := es16.b.1 _ _ (nm_c (dq_53 _ ha) (nm_c (dq_54 _ ha) (nm_c (dq_55 _ ha) (nm_c (dq_56 _ ha) (nm_c (dq_57 _ ha) (nm_c (dq_58 _ ha) (nm_c (dq_59 _ ha) (nm_c (dq_60 _ ha) (nm_c (dq_61 _ ha) (nm_c (dq_62 _ ha) (nm_c (dq_63 _ ha) (nm_c (dq_17 _ ha _ hq) nm_0)))))))))))) (fun l z => by cases z) k8
          have k11 := es16.b.1 _ _ (nm_c (dq_18 _ ha) (nm_c (dq_19 _ ha) (nm_c (dq_20 _ ha) (nm_c (dq_21 _ ha) (nm_c (dq_22 _ ha) (nm_c (dq_23 _ ha) (nm_c (dq_24 _ ha) (nm_c (dq_25 _ ha) (nm_c (dq_26 _ ha) (nm_c (dq_27 _ ha) (nm_c (dq_28 _ ha) (nm_c haq nm_0)))))))))))) (fun l z => by cases z) k9
          have k12 := es16.b.1 _ _ (nm_c (by decide) (nm_c (by decide) (nm_c (by decide) (nm_c (by decide) (nm_c (by decide) (nm_c (by decide) (nm_c (by decide) (nm_c (by decide) (nm_c (by decide) (nm_c (by decide) (nm_c (by decide) (nm_c (dq_64 _ hq) nm_0)))))))))))) (fun l z => by cases z) hNx7
          have gs16 := hs13.trans hs16
          have uyz17 : z17 = 1 → IFy g (8 * (gl (il σ (a + 4)) x + W4 g (gl (il σ (a + 3)) x + 20))) (W4 g (gl (il σ (a + 3)) x + 24)) (8 * gl (il σ (a + 4)) x) (rl s16 q) (nb s16 q) := fun h => by obtain ⟨v, q1, q2, q3, q4, q5⟩ := pz17_0 h; exact ⟨v, q1, q2, q3, q4, q5⟩
          have unz17 : z17 = 0 → IFn g (8 * (gl (il σ (a + 4)) x + W4 g (gl (il σ (a + 3)) x + 20))) (W4 g (gl (il σ (a + 3)) x + 24)) (8 * gl (il σ (a + 4)) x) := pz17_1
          clear pz17_0 pz17_1
          refine T.go 2 (fun n9 => (rfl : _ = exe ξ n9 (d + 5) j_N_unpackEntry 131 [(0, .ref 16), (1, .ref a), (2, J x), (3, .ref q), (4, J (W2 g (gl (il σ (a + 3)) x + 10))), (5, JL (W4 g (gl (il σ (a + 3)) x + 24))), (7, J (gl (il σ (a + 4)) x)), (8, J (W4 g (gl (il σ (a + 3)) x + 20))), (9, J z17)] [J z17] s16)) ?_
          refine T.if_ne rfl rfl (by omega) (fun c10 => ?_) (fun c10 => ?_)
          · refine T.go 1 (fun n9 => (rfl : _ = exe ξ n9 (d + 5) j_N_unpackEntry 138 [(0, .ref 16), (1, .ref a), (2, J x), (3, .ref q), (4, J (W2 g (gl (il σ (a + 3)) x + 10))), (5, JL (W4 g (gl (il σ (a + 3)) x + 24))), (7, J (gl (il σ (a + 4)) x)), (8, J (W4 g (gl (il σ (a + 3)) x + 20))), (9, J z17)] [.ref q] s16)) ?_
            obtain ⟨v9, n1, n2, n3, n4, n5⟩ := uyz17 (by omega)
            refine T.calls (as := [.ref q]) (r := []) rfl rfl (by decide) rfl rfl (s_N_fsumOf hX0 (d + 3) (nb s16 q) q s16 hs16.1 hq (fun k => nb_r k) nb_ag ) (fun v17 s17 hqs17 => ?_)
            obtain ⟨z18, rfl, esz18, hzz18, hyz18, pz18_0⟩ := hqs17
            rw [esz18]
            have hRQ : RQ g (gl (il σ (a + 3)) x) (gl (il σ (a + 4)) x) (nb s16 q) := RQ_8 (by omega) (by omega) (by omega) n1 n2 n3 n5
            have rN : rl s16 q = W4 g (gl (il σ (a + 3)) x + 24) := n4
            rw [rN] at pz18_0
            refine T.go 2 (fun n9 => (rfl : _ = exe ξ n9 (d + 5) j_N_unpackEntry 143 [(0, .ref 16), (1, .ref a), (2, J x), (3, .ref q), (4, J (W2 g (gl (il σ (a + 3)) x + 10))), (5, JL (W4 g (gl (il σ (a + 3)) x + 24))), (7, J (gl (il σ (a + 4)) x)), (8, J (W4 g (gl (il σ (a + 3)) x + 20))), (9, J z17)] [J x, .ref a, JL z18] s16)) ?_
            have hgqs16 := hg.fr hNA gs16 (kdX_ar _ ha).2.2.1 (nm_c (dq_18 _ ha) (nm_c (dq_19 _ ha) (nm_c (dq_20 _ ha) (nm_c (dq_21 _ ha) (nm_c (dq_22 _ ha) (nm_c (dq_23 _ ha) (nm_c (dq_24 _ ha) (nm_c (dq_25 _ ha) (nm_c (dq_26 _ ha) (nm_c (dq_27 _ ha) (nm_c (dq_28 _ ha) (nm_c haq nm_0))))))))))))
            have rlqs16 := rl_eq (gs16.2.2.1 (a + 1) (List.mem_cons_of_mem _ (kdX_ar _ ha).2.2.1) (nm_c (dq_18 _ ha) (nm_c (dq_19 _ ha) (nm_c (dq_20 _ ha) (nm_c (dq_21 _ ha) (nm_c (dq_22 _ ha) (nm_c (dq_23 _ ha) (nm_c (dq_24 _ ha) (nm_c (dq_25 _ ha) (nm_c (dq_26 _ ha) (nm_c (dq_27 _ ha) (nm_c (dq_28 _ ha) (nm_c haq nm_0)))))))))))))
            have i3qs16 := il_fr hK (kdX_ar _ ha).2.2.2.1 gs16 (nm_c (dq_29 _ ha) (nm_c (dq_30 _ ha) (nm_c (dq_31 _ ha) (nm_c (dq_32 _ ha) (nm_c (dq_33 _ ha) (nm_c (dq_34 _ ha) (nm_c (dq_35 _ ha) (nm_c (dq_36 _ ha) (nm_c (dq_37 _ ha) (nm_c (dq_38 _ ha) (nm_c (dq_39 _ ha) (nm_c (dq_40 _ ha _ hq) nm_0))))))))))))
            have i4qs16 := il_fr hK (kdX_ar _ ha).2.2.2.2 gs16 (nm_c (dq_41 _ ha) (nm_c (dq_42 _ ha) (nm_c (dq_43 _ ha) (nm_c (dq_44 _ ha) (nm_c (dq_45 _ ha) (nm_c (dq_46 _ ha) (nm_c (dq_47 _ ha) (nm_c (dq_48 _ ha) (nm_c (dq_49 _ ha) (nm_c (dq_50 _ ha) (nm_c (dq_51 _ ha) (nm_c (dq_52 _ ha _ hq) nm_0))))))))))))
            have a3qs16 : afld s16 a 3 = afld σ a 3 := by unfold afld; rw [gs16.b.1 a _ (nm_c (dq_53 _ ha) (nm_c (dq_54 _ ha) (nm_c (dq_55 _ ha) (nm_c (dq_56 _ ha) (nm_c (dq_57 _ ha) (nm_c (dq_58 _ ha) (nm_c (dq_59 _ ha) (nm_c (dq_60 _ ha) (nm_c (dq_61 _ ha) (nm_c (dq_62 _ ha) (nm_c (dq_63 _ ha) (nm_c (dq_17 _ ha _ hq) nm_0)))))))))))) (fun l z => by cases z) hax1, hax1]
            have hxqs16 : gl (il s16 (a + 3)) x = gl (il σ (a + 3)) x := by rw [i3qs16]
            refine T.callv (as := [J x]) (r := [JL z18]) rfl rfl rfl (ArL_lt _ ha).2.2.1 k10 rfl (s_A_fsum (d + 2) g a x s16 hs16.1 ha h255 hgqs16 (by omega) (by omega) (by omega) (by omega) (by omega)) (fun v18 s18 hqs18 => ?_)
            obtain ⟨z19, rfl, esz19, hzz19, hyz19, pz19_0⟩ := hqs18
            rw [esz19]
            rw [hxqs16] at pz19_0
            subst pz19_0
            have v16_276 := hV (gl (il σ (a + 3)) x + 16)
            refine T.lcmp rfl (by omega) (by omega) (fun c11 => ?_) (fun c11 => ?_) (fun c11 => ?_)
            · refine T.go 1 (fun n9 => (rfl : _ = exe ξ n9 (d + 5) j_N_unpackEntry 154 [(0, .ref 16), (1, .ref a), (2, J x), (3, .ref q), (4, J (W2 g (gl (il σ (a + 3)) x + 10))), (5, JL (W4 g (gl (il σ (a + 3)) x + 24))), (7, J (gl (il σ (a + 4)) x)), (8, J (W4 g (gl (il σ (a + 3)) x + 20))), (9, J z17)] [] s16)) ?_
              refine T.go 1 (fun n9 => (rfl : _ = exe ξ n9 (d + 5) j_N_unpackEntry 156 [(0, .ref 16), (1, .ref a), (2, J x), (3, .ref q), (4, J (W2 g (gl (il σ (a + 3)) x + 10))), (5, JL (W4 g (gl (il σ (a + 3)) x + 24))), (7, J (gl (il σ (a + 4)) x)), (8, J (W4 g (gl (il σ (a + 3)) x + 20))), (9, J z17)] [J 9] s16)) ?_
              exact T.ireti rfl rfl ⟨_, rfl, gs16, by omega, by omega, (fun h => absurd h (by decide)), (fun _ o => RD_9 hRQ (by omega))⟩
            · refine T.go 1 (fun n9 => (rfl : _ = exe ξ n9 (d + 5) j_N_unpackEntry 150 [(0, .ref 16), (1, .ref a), (2, J x), (3, .ref q), (4, J (W2 g (gl (il σ (a + 3)) x + 10))), (5, JL (W4 g (gl (il σ (a + 3)) x + 24))), (7, J (gl (il σ (a + 4)) x)), (8, J (W4 g (gl (il σ (a + 3)) x + 20))), (9, J z17)] [] s16)) ?_
              refine T.go 2 (fun n9 => (rfl : _ = exe ξ n9 (d + 5) j_N_unpackEntry 156 [(0, .ref 16), (1, .ref a), (2, J x), (3, .ref q), (4, J (W2 g (gl (il σ (a + 3)) x + 10))), (5, JL (W4 g (gl (il σ (a + 3)) x + 24))), (7, J (gl (il σ (a + 4)) x)), (8, J (W4 g (gl (il σ (a + 3)) x + 20))), (9, J z17)] [J 0] s16)) ?_
              exact T.ireti rfl rfl ⟨_, rfl, gs16, by omega, by omega, (fun _ => ⟨RD_is hRQ (by omega), rN⟩), (fun h => absurd rfl h)⟩
            · refine T.go 1 (fun n9 => (rfl : _ = exe ξ n9 (d + 5) j_N_unpackEntry 154 [(0, .ref 16), (1, .ref a), (2, J x), (3, .ref q), (4, J (W2 g (gl (il σ (a + 3)) x + 10))), (5, JL (W4 g (gl (il σ (a + 3)) x + 24))), (7, J (gl (il σ (a + 4)) x)), (8, J (W4 g (gl (il σ (a + 3)) x + 20))), (9, J z17)] [] s16)) ?_
              refine T.go 1 (fun n9 => (rfl : _ = exe ξ n9 (d + 5) j_N_unpackEntry 156 [(0, .ref 16), (1, .ref a), (2, J x), (3, .ref q), (4, J (W2 g (gl (il σ (a + 3)) x + 10))), (5, JL (W4 g (gl (il σ (a + 3)) x + 24))), (7, J (gl (il σ (a + 4)) x)), (8, J (W4 g (gl (il σ (a + 3)) x + 20))), (9, J z17)] [J 9] s16)) ?_
              exact T.ireti rfl rfl ⟨_, rfl, gs16, by omega, by omega, (fun h => absurd h (by decide)), (fun _ o => RD_9 hRQ (by omega))⟩
          · refine T.go 1 (fun n9 => (rfl : _ = exe ξ n9 (d + 5) j_N_unpackEntry 136 [(0, .ref 16), (1, .ref a), (2, J x), (3, .ref q), (4, J (W2 g (gl (il σ (a + 3)) x + 10))), (5, JL (W4 g (gl (il σ (a + 3)) x + 24))), (7, J (gl (il σ (a + 4)) x)), (8, J (W4 g (gl (il σ (a + 3)) x + 20))), (9, J z17)] [J 8] s16)) ?_
            exact T.ireti rfl rfl ⟨_, rfl, gs16, by omega, by omega, (fun h => absurd h (by decide)), (fun _ o => RD_88 (by omega) (unz17 (by omega)))⟩
        · refine T.go 1 (fun n9 => (rfl : _ = exe ξ n9 (d + 5) j_N_unpackEntry 78 [(0, .ref 16), (1, .ref a), (2, J x), (3, .ref q), (4, J (W2 g (gl (il σ (a + 3)) x + 10))), (5, JL (W4 g (gl (il σ (a + 3)) x + 24))), (7, J (gl (il σ (a + 4)) x)), (8, J (W4 g (gl (il σ (a + 3)) x + 20)))] [J (W4 g (gl (il σ (a + 3)) x + 20))] s13)) ?_
          refine T.i2l rfl (by omega) ?_
          refine T.go 1 (fun n9 => (rfl : _ = exe ξ n9 (d + 5) j_N_unpackEntry 81 [(0, .ref 16), (1, .ref a), (2, J x), (3, .ref q), (4, J (W2 g (gl (il σ (a + 3)) x + 10))), (5, JL (W4 g (gl (il σ (a + 3)) x + 24))), (7, J (gl (il σ (a + 4)) x)), (8, J (W4 g (gl (il σ (a + 3)) x + 20)))] [JL (W4 g (gl (il σ (a + 3)) x + 24)), JL (W4 g (gl (il σ (a + 3)) x + 20))] s13)) ?_
          refine T.lcmp rfl (by omega) (by omega) (fun c12 => ?_) (fun c12 => ?_) (fun c12 => ?_)
          · refine T.go 1 (fun n9 => (rfl : _ = exe ξ n9 (d + 5) j_N_unpackEntry 104 [(0, .ref 16), (1, .ref a), (2, J x), (3, .ref q), (4, J (W2 g (gl (il σ (a + 3)) x + 10))), (5, JL (W4 g (gl (il σ (a + 3)) x + 24))), (7, J (gl (il σ (a + 4)) x)), (8, J (W4 g (gl (il σ (a + 3)) x + 20)))] [] s13)) ?_
            refine T.go 6 (fun n9 => (rfl : _ = exe ξ n9 (d + 5) j_N_unpackEntry 136 [(0, .ref 16), (1, .ref a), (2, J x), (3, .ref q), (4, J (W2 g (gl (il σ (a + 3)) x + 10))), (5, JL (W4 g (gl (il σ (a + 3)) x + 24))), (7, J (gl (il σ (a + 4)) x)), (8, J (W4 g (gl (il σ (a + 3)) x + 20))), (9, J 0)] [J 8] s13)) ?_
            exact T.ireti rfl rfl ⟨_, rfl, hs13, by omega, by omega, (fun h => absurd h (by decide)), (fun _ o => RD_80 (by omega) (by omega))⟩
          · refine T.go 1 (fun n9 => (rfl : _ = exe ξ n9 (d + 5) j_N_unpackEntry 85 [(0, .ref 16), (1, .ref a), (2, J x), (3, .ref q), (4, J (W2 g (gl (il σ (a + 3)) x + 10))), (5, JL (W4 g (gl (il σ (a + 3)) x + 24))), (7, J (gl (il σ (a + 4)) x)), (8, J (W4 g (gl (il σ (a + 3)) x + 20)))] [] s13)) ?_
            refine T.go 2 (fun n9 => (rfl : _ = exe ξ n9 (d + 5) j_N_unpackEntry 87 [(0, .ref 16), (1, .ref a), (2, J x), (3, .ref q), (4, J (W2 g (gl (il σ (a + 3)) x + 10))), (5, JL (W4 g (gl (il σ (a + 3)) x + 24))), (7, J (gl (il σ (a + 4)) x)), (8, J (W4 g (gl (il σ (a + 3)) x + 20)))] [.ref a, .ref q] s13)) ?_
            refine T.get rfl rfl rfl k8 rfl ?_
            refine T.go 2 (fun n9 => (rfl : _ = exe ξ n9 (d + 5) j_N_unpackEntry 94 [(0, .ref 16), (1, .ref a), (2, J x), (3, .ref q), (4, J (W2 g (gl (il σ (a + 3)) x + 10))), (5, JL (W4 g (gl (il σ (a + 3)) x + 24))), (7, J (gl (il σ (a + 4)) x)), (8, J (W4 g (gl (il σ (a + 3)) x + 20)))] [J (W4 g (gl (il σ (a + 3)) x + 20)), J (gl (il σ (a + 4)) x), .ref (a + 1), .ref q] s13)) ?_
            obtain ⟨mx9, nx9, bx9, lx9, hrx9, hbx9, fx9a, fx9b, fx9c, fx9d, fx9e, fx9g, fx9h, fx9i⟩ := hs13.1.row hq
            have ctx9 := CT_of hrx9 hbx9
            have rwx9 := rl_of hrx9 (by omega)
            subst rwx9
            refine T.callv (as := [.ref (a + 1), J (gl (il σ (a + 4)) x), J (W4 g (gl (il σ (a + 3)) x + 20))]) (r := []) rfl rfl rfl (RwL_lt _ hq).2.2.1 hrx9 rfl (s_R_faddPart (d + 3) q (a + 1) (gl (il σ (a + 4)) x) (W4 g (gl (il σ (a + 3)) x + 20)) s13 hs13.1 hq (kdX_ar _ ha).2.2.1 haq (by omega) (by omega) (by omega) (by omega) (by omega) (by omega)) (fun v19 s19 hqs19 => ?_)
            obtain ⟨z20, rfl, hs19, hzz20, hyz20, pz20_0, pz20_1, pz20_2, pz20_3⟩ := hqs19
            have es19 := hs19
            have hs19 := hs19.sub (w' := [17, 18, 20, 21, 22, 24, 25, 26, 28, 29, 30, q]) (List.forall_mem_cons.mpr ⟨(by simp), (fun _ h => by cases h)⟩)
            have k13 := es19.b.1 _ _ (nm_c (dq_17 _ ha _ hq) nm_0) (fun l z => by cases z) k8
            have k14 := es19.b.1 _ _ (nm_c haq nm_0) (fun l z => by cases z) k9
            have gs19 := hs13.trans hs19
            subst pz20_2
            have ag := pz20_3 g (fun _ => 0) hgqs13 (AGR.none pz14_1)
            rw [pz14_1] at ag
            have zb : ZB (PLC g (fun _ => 0) 0 (gl (il σ (a + 4)) x) (W4 g (gl (il σ (a + 3)) x + 20) : Int).toNat) (rl s19 q) := by rw [pz20_1, pz14_1]; have h9 := ZB_plc (g := g) (o := fun _ => 0) (m := 0) (a := gl (il σ (a + 4)) x) (n := (W4 g (gl (il σ (a + 3)) x + 20) : Int).toNat) (fun _ _ => rfl) (by decide); rw [Int.toNat_of_nonneg (by omega)] at h9; exact h9
            have nbN := nb_of ag zb
            refine T.go 7 (fun n9 => (rfl : _ = exe ξ n9 (d + 5) j_N_unpackEntry 138 [(0, .ref 16), (1, .ref a), (2, J x), (3, .ref q), (4, J (W2 g (gl (il σ (a + 3)) x + 10))), (5, JL (W4 g (gl (il σ (a + 3)) x + 24))), (7, J (gl (il σ (a + 4)) x)), (8, J (W4 g (gl (il σ (a + 3)) x + 20))), (9, J 1)] [.ref q] s19)) ?_
            refine T.calls (as := [.ref q]) (r := []) rfl rfl (by decide) rfl rfl (s_N_fsumOf hX0 (d + 3) (nb s19 q) q s19 hs19.1 hq (fun k => nb_r k) nb_ag ) (fun v20 s20 hqs20 => ?_)
            obtain ⟨z21, rfl, esz21, hzz21, hyz21, pz21_0⟩ := hqs20
            rw [esz21]
            have hRQ : RQ g (gl (il σ (a + 3)) x) (gl (il σ (a + 4)) x) (nb s19 q) := RQ_0 (by omega) (by omega) (by omega) (by omega) (by rw [nbN, show W4 g (gl (il σ (a + 3)) x + 20) = W4 g (gl (il σ (a + 3)) x + 24) by omega])
            have rN : rl s19 q = W4 g (gl (il σ (a + 3)) x + 24) := by omega
            rw [rN] at pz21_0
            refine T.go 2 (fun n9 => (rfl : _ = exe ξ n9 (d + 5) j_N_unpackEntry 143 [(0, .ref 16), (1, .ref a), (2, J x), (3, .ref q), (4, J (W2 g (gl (il σ (a + 3)) x + 10))), (5, JL (W4 g (gl (il σ (a + 3)) x + 24))), (7, J (gl (il σ (a + 4)) x)), (8, J (W4 g (gl (il σ (a + 3)) x + 20))), (9, J 1)] [J x, .ref a, JL z21] s19)) ?_
            have hgqs19 := hg.fr hNA gs19 (kdX_ar _ ha).2.2.1 (nm_c (dq_18 _ ha) (nm_c (dq_19 _ ha) (nm_c (dq_20 _ ha) (nm_c (dq_21 _ ha) (nm_c (dq_22 _ ha) (nm_c (dq_23 _ ha) (nm_c (dq_24 _ ha) (nm_c (dq_25 _ ha) (nm_c (dq_26 _ ha) (nm_c (dq_27 _ ha) (nm_c (dq_28 _ ha) (nm_c haq nm_0))))))))))))
            have rlqs19 := rl_eq (gs19.2.2.1 (a + 1) (List.mem_cons_of_mem _ (kdX_ar _ ha).2.2.1) (nm_c (dq_18 _ ha) (nm_c (dq_19 _ ha) (nm_c (dq_20 _ ha) (nm_c (dq_21 _ ha) (nm_c (dq_22 _ ha) (nm_c (dq_23 _ ha) (nm_c (dq_24 _ ha) (nm_c (dq_25 _ ha) (nm_c (dq_26 _ ha) (nm_c (dq_27 _ ha) (nm_c (dq_28 _ ha) (nm_c haq nm_0)))))))))))))
            have i3qs19 := il_fr hK (kdX_ar _ ha).2.2.2.1 gs19 (nm_c (dq_29 _ ha) (nm_c (dq_30 _ ha) (nm_c (dq_31 _ ha) (nm_c (dq_32 _ ha) (nm_c (dq_33 _ ha) (nm_c (dq_34 _ ha) (nm_c (dq_35 _ ha) (nm_c (dq_36 _ ha) (nm_c (dq_37 _ ha) (nm_c (dq_38 _ ha) (nm_c (dq_39 _ ha) (nm_c (dq_40 _ ha _ hq) nm_0))))))))))))
            have i4qs19 := il_fr hK (kdX_ar _ ha).2.2.2.2 gs19 (nm_c (dq_41 _ ha) (nm_c (dq_42 _ ha) (nm_c (dq_43 _ ha) (nm_c (dq_44 _ ha) (nm_c (dq_45 _ ha) (nm_c (dq_46 _ ha) (nm_c (dq_47 _ ha) (nm_c (dq_48 _ ha) (nm_c (dq_49 _ ha) (nm_c (dq_50 _ ha) (nm_c (dq_51 _ ha) (nm_c (dq_52 _ ha _ hq) nm_0))))))))))))
            have a3qs19 : afld s19 a 3 = afld σ a 3 := by unfold afld; rw [gs19.b.1 a _ (nm_c (dq_53 _ ha) (nm_c (dq_54 _ ha) (nm_c (dq_55 _ ha) (nm_c (dq_56 _ ha) (nm_c (dq_57 _ ha) (nm_c (dq_58 _ ha) (nm_c (dq_59 _ ha) (nm_c (dq_60 _ ha) (nm_c (dq_61 _ ha) (nm_c (dq_62 _ ha) (nm_c (dq_63 _ ha) (nm_c (dq_17 _ ha _ hq) nm_0)))))))))))) (fun l z => by cases z) hax1, hax1]
            have hxqs19 : gl (il s19 (a + 3)) x = gl (il σ (a + 3)) x := by rw [i3qs19]
            refine T.callv (as := [J x]) (r := [JL z21]) rfl rfl rfl (ArL_lt _ ha).2.2.1 k13 rfl (s_A_fsum (d + 2) g a x s19 hs19.1 ha h255 hgqs19 (by omega) (by omega) (by omega) (by omega) (by omega)) (fun v21 s21 hqs21 => ?_)
            obtain ⟨z22, rfl, esz22, hzz22, hyz22, pz22_0⟩ := hqs21
            rw [esz22]
            rw [hxqs19] at pz22_0
            subst pz22_0
            have v16_335 := hV (gl (il σ (a + 3)) x + 16)
            refine T.lcmp rfl (by omega) (by omega) (fun c13 => ?_) (fun c13 => ?_) (fun c13 => ?_)
            · refine T.go 1 (fun n9 => (rfl : _ = exe ξ n9 (d + 5) j_N_unpackEntry 154 [(0, .ref 16), (1, .ref a), (2, J x), (3, .ref q), (4, J (W2 g (gl (il σ (a + 3)) x + 10))), (5, JL (W4 g (gl (il σ (a + 3)) x + 24))), (7, J (gl (il σ (a + 4)) x)), (8, J (W4 g (gl (il σ (a + 3)) x + 20))), (9, J 1)] [] s19)) ?_
              refine T.go 1 (fun n9 => (rfl : _ = exe ξ n9 (d + 5) j_N_unpackEntry 156 [(0, .ref 16), (1, .ref a), (2, J x), (3, .ref q), (4, J (W2 g (gl (il σ (a + 3)) x + 10))), (5, JL (W4 g (gl (il σ (a + 3)) x + 24))), (7, J (gl (il σ (a + 4)) x)), (8, J (W4 g (gl (il σ (a + 3)) x + 20))), (9, J 1)] [J 9] s19)) ?_
              exact T.ireti rfl rfl ⟨_, rfl, gs19, by omega, by omega, (fun h => absurd h (by decide)), (fun _ o => RD_9 hRQ (by omega))⟩
            · refine T.go 1 (fun n9 => (rfl : _ = exe ξ n9 (d + 5) j_N_unpackEntry 150 [(0, .ref 16), (1, .ref a), (2, J x), (3, .ref q), (4, J (W2 g (gl (il σ (a + 3)) x + 10))), (5, JL (W4 g (gl (il σ (a + 3)) x + 24))), (7, J (gl (il σ (a + 4)) x)), (8, J (W4 g (gl (il σ (a + 3)) x + 20))), (9, J 1)] [] s19)) ?_
              refine T.go 2 (fun n9 => (rfl : _ = exe ξ n9 (d + 5) j_N_unpackEntry 156 [(0, .ref 16), (1, .ref a), (2, J x), (3, .ref q), (4, J (W2 g (gl (il σ (a + 3)) x + 10))), (5, JL (W4 g (gl (il σ (a + 3)) x + 24))), (7, J (gl (il σ (a + 4)) x)), (8, J (W4 g (gl (il σ (a + 3)) x + 20))), (9, J 1)] [J 0] s19)) ?_
              exact T.ireti rfl rfl ⟨_, rfl, gs19, by omega, by omega, (fun _ => ⟨RD_is hRQ (by omega), rN⟩), (fun h => absurd rfl h)⟩
            · refine T.go 1 (fun n9 => (rfl : _ = exe ξ n9 (d + 5) j_N_unpackEntry 154 [(0, .ref 16), (1, .ref a), (2, J x), (3, .ref q), (4, J (W2 g (gl (il σ (a + 3)) x + 10))), (5, JL (W4 g (gl (il σ (a + 3)) x + 24))), (7, J (gl (il σ (a + 4)) x)), (8, J (W4 g (gl (il σ (a + 3)) x + 20))), (9, J 1)] [] s19)) ?_
              refine T.go 1 (fun n9 => (rfl : _ = exe ξ n9 (d + 5) j_N_unpackEntry 156 [(0, .ref 16), (1, .ref a), (2, J x), (3, .ref q), (4, J (W2 g (gl (il σ (a + 3)) x + 10))), (5, JL (W4 g (gl (il σ (a + 3)) x + 24))), (7, J (gl (il σ (a + 4)) x)), (8, J (W4 g (gl (il σ (a + 3)) x + 20))), (9, J 1)] [J 9] s19)) ?_
              exact T.ireti rfl rfl ⟨_, rfl, gs19, by omega, by omega, (fun h => absurd h (by decide)), (fun _ o => RD_9 hRQ (by omega))⟩
          · refine T.go 1 (fun n9 => (rfl : _ = exe ξ n9 (d + 5) j_N_unpackEntry 104 [(0, .ref 16), (1, .ref a), (2, J x), (3, .ref q), (4, J (W2 g (gl (il σ (a + 3)) x + 10))), (5, JL (W4 g (gl (il σ (a + 3)) x + 24))), (7, J (gl (il σ (a + 4)) x)), (8, J (W4 g (gl (il σ (a + 3)) x + 20)))] [] s13)) ?_
            refine T.go 6 (fun n9 => (rfl : _ = exe ξ n9 (d + 5) j_N_unpackEntry 136 [(0, .ref 16), (1, .ref a), (2, J x), (3, .ref q), (4, J (W2 g (gl (il σ (a + 3)) x + 10))), (5, JL (W4 g (gl (il σ (a + 3)) x + 24))), (7, J (gl (il σ (a + 4)) x)), (8, J (W4 g (gl (il σ (a + 3)) x + 20))), (9, J 0)] [J 8] s13)) ?_
            exact T.ireti rfl rfl ⟨_, rfl, hs13, by omega, by omega, (fun h => absurd h (by decide)), (fun _ o => RD_80 (by omega) (by omega))⟩
      · refine T.go 1 (fun n9 => (rfl : _ = exe ξ n9 (d + 5) j_N_unpackEntry 49 [(0, .ref 16), (1, .ref a), (2, J x), (3, .ref q), (4, J (W2 g (gl (il σ (a + 3)) x + 10))), (5, JL (W4 g (gl (il σ (a + 3)) x + 24)))] [] σ)) ?_
        refine T.go 1 (fun n9 => (rfl : _ = exe ξ n9 (d + 5) j_N_unpackEntry 51 [(0, .ref 16), (1, .ref a), (2, J x), (3, .ref q), (4, J (W2 g (gl (il σ (a + 3)) x + 10))), (5, JL (W4 g (gl (il σ (a + 3)) x + 24)))] [J 7] σ)) ?_
        exact T.ireti rfl rfl ⟨_, rfl, (Fr.refl hK), by omega, by omega, (fun h => absurd h (by decide)), (fun _ o => RD_7 (by omega))⟩
    · refine T.go 2 (fun n9 => (rfl : _ = exe ξ n9 (d + 5) j_N_unpackEntry 27 [(0, .ref 16), (1, .ref a), (2, J x), (3, .ref q), (4, J (W2 g (gl (il σ (a + 3)) x + 10)))] [J 8, J (W2 g (gl (il σ (a + 3)) x + 10))] σ)) ?_
      refine T.icmp_eq rfl rfl (by omega) (by omega) (fun c14 => ?_) (fun c14 => ?_)
      · refine T.go 2 (fun n9 => (rfl : _ = exe ξ n9 (d + 5) j_N_unpackEntry 35 [(0, .ref 16), (1, .ref a), (2, J x), (3, .ref q), (4, J (W2 g (gl (il σ (a + 3)) x + 10)))] [J x, .ref a] σ)) ?_
        refine T.callv (as := [J x]) (r := []) rfl rfl rfl (ArL_lt _ ha).2.2.1 hax1 rfl (s_A_fsize (d + 2) g a x σ hK ha h255 hg (by omega) (by omega) (by omega) (by omega) (by omega)) (fun v22 s22 hqs22 => ?_)
        obtain ⟨z23, rfl, esz23, hzz23, hyz23, pz23_0⟩ := hqs22
        rw [esz23]
        subst pz23_0
        have v24_359 := hV (gl (il σ (a + 3)) x + 24)
        refine T.go 2 (fun n9 => (rfl : _ = exe ξ n9 (d + 5) j_N_unpackEntry 42 [(0, .ref 16), (1, .ref a), (2, J x), (3, .ref q), (4, J (W2 g (gl (il σ (a + 3)) x + 10))), (5, JL (W4 g (gl (il σ (a + 3)) x + 24)))] [JL (W4 g (gl (il σ (a + 3)) x + 24))] σ)) ?_
        refine T.go 1 (fun n9 => (rfl : _ = exe ξ n9 (d + 5) j_N_unpackEntry 45 [(0, .ref 16), (1, .ref a), (2, J x), (3, .ref q), (4, J (W2 g (gl (il σ (a + 3)) x + 10))), (5, JL (W4 g (gl (il σ (a + 3)) x + 24)))] [JL 8000, JL (W4 g (gl (il σ (a + 3)) x + 24))] σ)) ?_
        refine T.lcmp rfl (by omega) (by omega) (fun c15 => ?_) (fun c15 => ?_) (fun c15 => ?_)
        · refine T.go 1 (fun n9 => (rfl : _ = exe ξ n9 (d + 5) j_N_unpackEntry 52 [(0, .ref 16), (1, .ref a), (2, J x), (3, .ref q), (4, J (W2 g (gl (il σ (a + 3)) x + 10))), (5, JL (W4 g (gl (il σ (a + 3)) x + 24)))] [] σ)) ?_
          refine T.go 1 (fun n9 => (rfl : _ = exe ξ n9 (d + 5) j_N_unpackEntry 53 [(0, .ref 16), (1, .ref a), (2, J x), (3, .ref q), (4, J (W2 g (gl (il σ (a + 3)) x + 10))), (5, JL (W4 g (gl (il σ (a + 3)) x + 24)))] [.ref q] σ)) ?_
          refine T.callv (as := []) (r := []) rfl rfl rfl (RwL_lt _ hq).2.2.1 hrx3 rfl (s_R_clear (d + 4) q σ hK hq  ) (fun v23 s23 hqs23 => ?_)
          obtain ⟨rfl, hs23, pz24_0, pz24_1⟩ := hqs23
          have es23 := hs23
          have hs23 := hs23.sub (w' := [17, 18, 20, 21, 22, 24, 25, 26, 28, 29, 30, q]) (List.forall_mem_cons.mpr ⟨(by simp), (fun _ h => by cases h)⟩)
          have k15 := es23.b.1 _ _ (nm_c (dq_17 _ ha _ hq) nm_0) (fun l z => by cases z) hax1
          have k16 := es23.b.1 _ _ (nm_c haq nm_0) (fun l z => by cases z) hrx2
          refine T.go 2 (fun n9 => (rfl : _ = exe ξ n9 (d + 5) j_N_unpackEntry 58 [(0, .ref 16), (1, .ref a), (2, J x), (3, .ref q), (4, J (W2 g (gl (il σ (a + 3)) x + 10))), (5, JL (W4 g (gl (il σ (a + 3)) x + 24)))] [J x, .ref a] s23)) ?_
          have hgqs23 := hg.fr hNA hs23 (kdX_ar _ ha).2.2.1 (nm_c (dq_18 _ ha) (nm_c (dq_19 _ ha) (nm_c (dq_20 _ ha) (nm_c (dq_21 _ ha) (nm_c (dq_22 _ ha) (nm_c (dq_23 _ ha) (nm_c (dq_24 _ ha) (nm_c (dq_25 _ ha) (nm_c (dq_26 _ ha) (nm_c (dq_27 _ ha) (nm_c (dq_28 _ ha) (nm_c haq nm_0))))))))))))
          have rlqs23 := rl_eq (hs23.2.2.1 (a + 1) (List.mem_cons_of_mem _ (kdX_ar _ ha).2.2.1) (nm_c (dq_18 _ ha) (nm_c (dq_19 _ ha) (nm_c (dq_20 _ ha) (nm_c (dq_21 _ ha) (nm_c (dq_22 _ ha) (nm_c (dq_23 _ ha) (nm_c (dq_24 _ ha) (nm_c (dq_25 _ ha) (nm_c (dq_26 _ ha) (nm_c (dq_27 _ ha) (nm_c (dq_28 _ ha) (nm_c haq nm_0)))))))))))))
          have i3qs23 := il_fr hK (kdX_ar _ ha).2.2.2.1 hs23 (nm_c (dq_29 _ ha) (nm_c (dq_30 _ ha) (nm_c (dq_31 _ ha) (nm_c (dq_32 _ ha) (nm_c (dq_33 _ ha) (nm_c (dq_34 _ ha) (nm_c (dq_35 _ ha) (nm_c (dq_36 _ ha) (nm_c (dq_37 _ ha) (nm_c (dq_38 _ ha) (nm_c (dq_39 _ ha) (nm_c (dq_40 _ ha _ hq) nm_0))))))))))))
          have i4qs23 := il_fr hK (kdX_ar _ ha).2.2.2.2 hs23 (nm_c (dq_41 _ ha) (nm_c (dq_42 _ ha) (nm_c (dq_43 _ ha) (nm_c (dq_44 _ ha) (nm_c (dq_45 _ ha) (nm_c (dq_46 _ ha) (nm_c (dq_47 _ ha) (nm_c (dq_48 _ ha) (nm_c (dq_49 _ ha) (nm_c (dq_50 _ ha) (nm_c (dq_51 _ ha) (nm_c (dq_52 _ ha _ hq) nm_0))))))))))))
          have a3qs23 : afld s23 a 3 = afld σ a 3 := by unfold afld; rw [hs23.b.1 a _ (nm_c (dq_53 _ ha) (nm_c (dq_54 _ ha) (nm_c (dq_55 _ ha) (nm_c (dq_56 _ ha) (nm_c (dq_57 _ ha) (nm_c (dq_58 _ ha) (nm_c (dq_59 _ ha) (nm_c (dq_60 _ ha) (nm_c (dq_61 _ ha) (nm_c (dq_62 _ ha) (nm_c (dq_63 _ ha) (nm_c (dq_17 _ ha _ hq) nm_0)))))))))))) (fun l z => by cases z) hax1, hax1]
          have hxqs23 : gl (il s23 (a + 3)) x = gl (il σ (a + 3)) x := by rw [i3qs23]
          refine T.callv (as := [J x]) (r := []) rfl rfl rfl (ArL_lt _ ha).2.2.1 k15 rfl (s_A_fdataPlace (d + 3) a x s23 hs23.1 ha  (by omega)) (fun v24 s24 hqs24 => ?_)
          obtain ⟨z25, rfl, esz25, hzz25, hyz25, pz25_0⟩ := hqs24
          rw [esz25]
          have d9 := pz25_0 (by omega)
          rw [i4qs23] at d9
          subst d9
          refine T.go 3 (fun n9 => (rfl : _ = exe ξ n9 (d + 5) j_N_unpackEntry 65 [(0, .ref 16), (1, .ref a), (2, J x), (3, .ref q), (4, J (W2 g (gl (il σ (a + 3)) x + 10))), (5, JL (W4 g (gl (il σ (a + 3)) x + 24))), (7, J (gl (il σ (a + 4)) x))] [J x, .ref a] s23)) ?_
          refine T.callv (as := [J x]) (r := []) rfl rfl rfl (ArL_lt _ ha).2.2.1 k15 rfl (s_A_fpackedSize (d + 2) g a x s23 hs23.1 ha h255 hgqs23 (by omega) (by omega) (by omega) (by omega) (by omega)) (fun v25 s25 hqs25 => ?_)
          obtain ⟨z26, rfl, esz26, hzz26, hyz26, pz26_0⟩ := hqs25
          rw [esz26]
          rw [hxqs23] at pz26_0
          subst pz26_0
          have v20_390 := hV (gl (il σ (a + 3)) x + 20)
          refine T.l2i rfl ?_
          refine T.go 2 (fun n9 => (rfl : _ = exe ξ n9 (d + 5) j_N_unpackEntry 73 [(0, .ref 16), (1, .ref a), (2, J x), (3, .ref q), (4, J (W2 g (gl (il σ (a + 3)) x + 10))), (5, JL (W4 g (gl (il σ (a + 3)) x + 24))), (7, J (gl (il σ (a + 4)) x)), (8, J (W4 g (gl (il σ (a + 3)) x + 20)))] [J (W2 g (gl (il σ (a + 3)) x + 10))] s23)) ?_
          refine T.if_ne rfl rfl (by omega) (fun c16 => ?_) (fun c16 => ?_)
          · refine T.go 1 (fun n9 => (rfl : _ = exe ξ n9 (d + 5) j_N_unpackEntry 109 [(0, .ref 16), (1, .ref a), (2, J x), (3, .ref q), (4, J (W2 g (gl (il σ (a + 3)) x + 10))), (5, JL (W4 g (gl (il σ (a + 3)) x + 24))), (7, J (gl (il σ (a + 4)) x)), (8, J (W4 g (gl (il σ (a + 3)) x + 20)))] [.ref 16] s23)) ?_
            obtain ⟨kex10, scx10, tpx10, oux10, mox10, sgx10, hox10, mcx10, lfx10, lpx10, hNx10, fx10ke, fx10sc, fx10tp, fx10ou, fx10mo, fx10sg, fx10d, fx10e, fx10f, fx10g, fx10h, fx10i, fx10j⟩ := hs23.1.na
            refine T.get rfl rfl rfl hNx10 rfl ?_
            refine T.go 1 (fun n9 => (rfl : _ = exe ξ n9 (d + 5) j_N_unpackEntry 113 [(0, .ref 16), (1, .ref a), (2, J x), (3, .ref q), (4, J (W2 g (gl (il σ (a + 3)) x + 10))), (5, JL (W4 g (gl (il σ (a + 3)) x + 24))), (7, J (gl (il σ (a + 4)) x)), (8, J (W4 g (gl (il σ (a + 3)) x + 20)))] [.ref a, .ref 17] s23)) ?_
            refine T.get rfl rfl rfl k15 rfl ?_
            refine T.go 4 (fun n9 => (rfl : _ = exe ξ n9 (d + 5) j_N_unpackEntry 123 [(0, .ref 16), (1, .ref a), (2, J x), (3, .ref q), (4, J (W2 g (gl (il σ (a + 3)) x + 10))), (5, JL (W4 g (gl (il σ (a + 3)) x + 24))), (7, J (gl (il σ (a + 4)) x)), (8, J (W4 g (gl (il σ (a + 3)) x + 20)))] [JL (W4 g (gl (il σ (a + 3)) x + 24)), .ref q, J (W4 g (gl (il σ (a + 3)) x + 20)), J (gl (il σ (a + 4)) x), .ref (a + 1), .ref 17] s23)) ?_
            refine T.l2i rfl ?_
            obtain ⟨sx11, tx11, wx11, bix11, bex11, rox11, hux11, fx11a, fx11b, fx11c, fx11d, fx11e, fx11f, fx11g, fx11h, fx11i⟩ := hs23.1.unp
            refine T.callv (as := [.ref (a + 1), J (gl (il σ (a + 4)) x), J (W4 g (gl (il σ (a + 3)) x + 20)), .ref q, J (W4 g (gl (il σ (a + 3)) x + 24))]) (r := []) rfl rfl rfl rfl hux11 rfl (s_U_funpack hX0 d g (a + 1) (gl (il σ (a + 4)) x) (W4 g (gl (il σ (a + 3)) x + 20)) q (W4 g (gl (il σ (a + 3)) x + 24)) s23 hs23.1 (kdX_ar _ ha).2.2.1 hq haq (hs23.b.2 hNA).1 hgqs23 hmt (hf1.fr hK (by decide) hs23 (nm_c (by decide) (nm_c (by decide) (nm_c (by decide) (nm_c (by decide) (nm_c (by decide) (nm_c (by decide) (nm_c (by decide) (nm_c (by decide) (nm_c (by decide) (nm_c (by decide) (nm_c (by decide) (nm_c (dq_13 _ hq) nm_0)))))))))))) (nm_c (by decide) (nm_c (by decide) (nm_c (by decide) (nm_c (by decide) (nm_c (by decide) (nm_c (by decide) (nm_c (by decide) (nm_c (by decide) (nm_c (by decide) (nm_c (by decide) (nm_c (by decide) (nm_c (dq_14 _ hq) nm_0))))))))))))) (hf2.fr hK (by decide) hs23 (nm_c (by decide) (nm_c (by decide) (nm_c (by decide) (nm_c (by decide) (nm_c (by decide) (nm_c (by decide) (nm_c (by decide) (nm_c (by decide) (nm_c (by decide) (nm_c (by decide) (nm_c (by decide) (nm_c (dq_15 _ hq) nm_0)))))))))))) (nm_c (by decide) (nm_c (by decide) (nm_c (by decide) (nm_c (by decide) (nm_c (by decide) (nm_c (by decide) (nm_c (by decide) (nm_c (by decide) (nm_c (by decide) (nm_c (by decide) (nm_c (by decide) (nm_c (dq_16 _ hq) nm_0))))))))))))) (by omega) (by omega) (by omega) (by omega) (by omega) (by omega) (by omega) (by omega) (by omega)) (fun v26 s26 hqs26 => ?_)
            obtain ⟨z27, rfl, hs26, hzz27, hyz27, pz27_0, pz27_1⟩ := hqs26
            have es26 := hs26
            have k17 := es26.b.1 _ _ (nm_c (dq_53 _ ha) (nm_c (dq_54 _ ha) (nm_c (dq_55 _ ha) (nm_c (dq_56 _ ha) (nm_c (dq_57 _ ha) (nm_c (dq_58 _ ha) (nm_c (dq_59 _ ha) (nm_c (dq_60 _ ha) (nm_c (dq_61 _ ha) (nm_c (dq_62 _ ha) (nm_c (dq_63 _ ha) (nm_c (dq_17 _ ha _ hq) nm_0)))))))))))) (fun l z => by cases z) k15
            have k18 := es26.b.1 _ _ (nm_c (dq_18 _ ha) (nm_c (dq_19 _ ha) (nm_c (dq_20 _ ha) (nm_c (dq_21 _ ha) (nm_c (dq_22 _ ha) (nm_c (dq_23 _ ha) (nm_c (dq_24 _ ha) (nm_c (dq_25 _ ha) (nm_c (dq_26 _ ha) (nm_c (dq_27 _ ha) (nm_c (dq_28 _ ha) (nm_c haq nm_0)))))))))))) (fun l z => by cases z) k16
            have k19 := es26.b.1 _ _ (nm_c (by decide) (nm_c (by decide) (nm_c (by decide) (nm_c (by decide) (nm_c (by decide) (nm_c (by decide) (nm_c (by decide) (nm_c (by decide) (nm_c (by decide) (nm_c (by decide) (nm_c (by decide) (nm_c (dq_64 _ hq) nm_0)))))))))))) (fun l z => by cases z) hNx10
            have gs26 := hs23.trans hs26
            have uyz27 : z27 = 1 → IFy g (8 * (gl (il σ (a + 4)) x + W4 g (gl (il σ (a + 3)) x + 20))) (W4 g (gl (il σ (a + 3)) x + 24)) (8 * gl (il σ (a + 4)) x) (rl s26 q) (nb s26 q) := fun h => by obtain ⟨v, q1, q2, q3, q4, q5⟩ := pz27_0 h; exact ⟨v, q1, q2, q3, q4, q5⟩
            have unz27 : z27 = 0 → IFn g (8 * (gl (il σ (a + 4)) x + W4 g (gl (il σ (a + 3)) x + 20))) (W4 g (gl (il σ (a + 3)) x + 24)) (8 * gl (il σ (a + 4)) x) := pz27_1
            clear pz27_0 pz27_1
            refine T.go 2 (fun n9 => (rfl : _ = exe ξ n9 (d + 5) j_N_unpackEntry 131 [(0, .ref 16), (1, .ref a), (2, J x), (3, .ref q), (4, J (W2 g (gl (il σ (a + 3)) x + 10))), (5, JL (W4 g (gl (il σ (a + 3)) x + 24))), (7, J (gl (il σ (a + 4)) x)), (8, J (W4 g (gl (il σ (a + 3)) x + 20))), (9, J z27)] [J z27] s26)) ?_
            refine T.if_ne rfl rfl (by omega) (fun c17 => ?_) (fun c17 => ?_)
            · refine T.go 1 (fun n9 => (rfl : _ = exe ξ n9 (d + 5) j_N_unpackEntry 138 [(0, .ref 16), (1, .ref a), (2, J x), (3, .ref q), (4, J (W2 g (gl (il σ (a + 3)) x + 10))), (5, JL (W4 g (gl (il σ (a + 3)) x + 24))), (7, J (gl (il σ (a + 4)) x)), (8, J (W4 g (gl (il σ (a + 3)) x + 20))), (9, J z27)] [.ref q] s26)) ?_
              obtain ⟨v9, n1, n2, n3, n4, n5⟩ := uyz27 (by omega)
              refine T.calls (as := [.ref q]) (r := []) rfl rfl (by decide) rfl rfl (s_N_fsumOf hX0 (d + 3) (nb s26 q) q s26 hs26.1 hq (fun k => nb_r k) nb_ag ) (fun v27 s27 hqs27 => ?_)
              obtain ⟨z28, rfl, esz28, hzz28, hyz28, pz28_0⟩ := hqs27
              rw [esz28]
              have hRQ : RQ g (gl (il σ (a + 3)) x) (gl (il σ (a + 4)) x) (nb s26 q) := RQ_8 (by omega) (by omega) (by omega) n1 n2 n3 n5
              have rN : rl s26 q = W4 g (gl (il σ (a + 3)) x + 24) := n4
              rw [rN] at pz28_0
              refine T.go 2 (fun n9 => (rfl : _ = exe ξ n9 (d + 5) j_N_unpackEntry 143 [(0, .ref 16), (1, .ref a), (2, J x), (3, .ref q), (4, J (W2 g (gl (il σ (a + 3)) x + 10))), (5, JL (W4 g (gl (il σ (a + 3)) x + 24))), (7, J (gl (il σ (a + 4)) x)), (8, J (W4 g (gl (il σ (a + 3)) x + 20))), (9, J z27)] [J x, .ref a, JL z28] s26)) ?_
              have hgqs26 := hg.fr hNA gs26 (kdX_ar _ ha).2.2.1 (nm_c (dq_18 _ ha) (nm_c (dq_19 _ ha) (nm_c (dq_20 _ ha) (nm_c (dq_21 _ ha) (nm_c (dq_22 _ ha) (nm_c (dq_23 _ ha) (nm_c (dq_24 _ ha) (nm_c (dq_25 _ ha) (nm_c (dq_26 _ ha) (nm_c (dq_27 _ ha) (nm_c (dq_28 _ ha) (nm_c haq nm_0))))))))))))
              have rlqs26 := rl_eq (gs26.2.2.1 (a + 1) (List.mem_cons_of_mem _ (kdX_ar _ ha).2.2.1) (nm_c (dq_18 _ ha) (nm_c (dq_19 _ ha) (nm_c (dq_20 _ ha) (nm_c (dq_21 _ ha) (nm_c (dq_22 _ ha) (nm_c (dq_23 _ ha) (nm_c (dq_24 _ ha) (nm_c (dq_25 _ ha) (nm_c (dq_26 _ ha) (nm_c (dq_27 _ ha) (nm_c (dq_28 _ ha) (nm_c haq nm_0)))))))))))))
              have i3qs26 := il_fr hK (kdX_ar _ ha).2.2.2.1 gs26 (nm_c (dq_29 _ ha) (nm_c (dq_30 _ ha) (nm_c (dq_31 _ ha) (nm_c (dq_32 _ ha) (nm_c (dq_33 _ ha) (nm_c (dq_34 _ ha) (nm_c (dq_35 _ ha) (nm_c (dq_36 _ ha) (nm_c (dq_37 _ ha) (nm_c (dq_38 _ ha) (nm_c (dq_39 _ ha) (nm_c (dq_40 _ ha _ hq) nm_0))))))))))))
              have i4qs26 := il_fr hK (kdX_ar _ ha).2.2.2.2 gs26 (nm_c (dq_41 _ ha) (nm_c (dq_42 _ ha) (nm_c (dq_43 _ ha) (nm_c (dq_44 _ ha) (nm_c (dq_45 _ ha) (nm_c (dq_46 _ ha) (nm_c (dq_47 _ ha) (nm_c (dq_48 _ ha) (nm_c (dq_49 _ ha) (nm_c (dq_50 _ ha) (nm_c (dq_51 _ ha) (nm_c (dq_52 _ ha _ hq) nm_0))))))))))))
              have a3qs26 : afld s26 a 3 = afld σ a 3 := by unfold afld; rw [gs26.b.1 a _ (nm_c (dq_53 _ ha) (nm_c (dq_54 _ ha) (nm_c (dq_55 _ ha) (nm_c (dq_56 _ ha) (nm_c (dq_57 _ ha) (nm_c (dq_58 _ ha) (nm_c (dq_59 _ ha) (nm_c (dq_60 _ ha) (nm_c (dq_61 _ ha) (nm_c (dq_62 _ ha) (nm_c (dq_63 _ ha) (nm_c (dq_17 _ ha _ hq) nm_0)))))))))))) (fun l z => by cases z) hax1, hax1]
              have hxqs26 : gl (il s26 (a + 3)) x = gl (il σ (a + 3)) x := by rw [i3qs26]
              refine T.callv (as := [J x]) (r := [JL z28]) rfl rfl rfl (ArL_lt _ ha).2.2.1 k17 rfl (s_A_fsum (d + 2) g a x s26 hs26.1 ha h255 hgqs26 (by omega) (by omega) (by omega) (by omega) (by omega)) (fun v28 s28 hqs28 => ?_)
              obtain ⟨z29, rfl, esz29, hzz29, hyz29, pz29_0⟩ := hqs28
              rw [esz29]
              rw [hxqs26] at pz29_0
              subst pz29_0
              have v16_434 := hV (gl (il σ (a + 3)) x + 16)
              refine T.lcmp rfl (by omega) (by omega) (fun c18 => ?_) (fun c18 => ?_) (fun c18 => ?_)
              · refine T.go 1 (fun n9 => (rfl : _ = exe ξ n9 (d + 5) j_N_unpackEntry 154 [(0, .ref 16), (1, .ref a), (2, J x), (3, .ref q), (4, J (W2 g (gl (il σ (a + 3)) x + 10))), (5, JL (W4 g (gl (il σ (a + 3)) x + 24))), (7, J (gl (il σ (a + 4)) x)), (8, J (W4 g (gl (il σ (a + 3)) x + 20))), (9, J z27)] [] s26)) ?_
                refine T.go 1 (fun n9 => (rfl : _ = exe ξ n9 (d + 5) j_N_unpackEntry 156 [(0, .ref 16), (1, .ref a), (2, J x), (3, .ref q), (4, J (W2 g (gl (il σ (a + 3)) x + 10))), (5, JL (W4 g (gl (il σ (a + 3)) x + 24))), (7, J (gl (il σ (a + 4)) x)), (8, J (W4 g (gl (il σ (a + 3)) x + 20))), (9, J z27)] [J 9] s26)) ?_
                exact T.ireti rfl rfl ⟨_, rfl, gs26, by omega, by omega, (fun h => absurd h (by decide)), (fun _ o => RD_9 hRQ (by omega))⟩
              · refine T.go 1 (fun n9 => (rfl : _ = exe ξ n9 (d + 5) j_N_unpackEntry 150 [(0, .ref 16), (1, .ref a), (2, J x), (3, .ref q), (4, J (W2 g (gl (il σ (a + 3)) x + 10))), (5, JL (W4 g (gl (il σ (a + 3)) x + 24))), (7, J (gl (il σ (a + 4)) x)), (8, J (W4 g (gl (il σ (a + 3)) x + 20))), (9, J z27)] [] s26)) ?_
                refine T.go 2 (fun n9 => (rfl : _ = exe ξ n9 (d + 5) j_N_unpackEntry 156 [(0, .ref 16), (1, .ref a), (2, J x), (3, .ref q), (4, J (W2 g (gl (il σ (a + 3)) x + 10))), (5, JL (W4 g (gl (il σ (a + 3)) x + 24))), (7, J (gl (il σ (a + 4)) x)), (8, J (W4 g (gl (il σ (a + 3)) x + 20))), (9, J z27)] [J 0] s26)) ?_
                exact T.ireti rfl rfl ⟨_, rfl, gs26, by omega, by omega, (fun _ => ⟨RD_is hRQ (by omega), rN⟩), (fun h => absurd rfl h)⟩
              · refine T.go 1 (fun n9 => (rfl : _ = exe ξ n9 (d + 5) j_N_unpackEntry 154 [(0, .ref 16), (1, .ref a), (2, J x), (3, .ref q), (4, J (W2 g (gl (il σ (a + 3)) x + 10))), (5, JL (W4 g (gl (il σ (a + 3)) x + 24))), (7, J (gl (il σ (a + 4)) x)), (8, J (W4 g (gl (il σ (a + 3)) x + 20))), (9, J z27)] [] s26)) ?_
                refine T.go 1 (fun n9 => (rfl : _ = exe ξ n9 (d + 5) j_N_unpackEntry 156 [(0, .ref 16), (1, .ref a), (2, J x), (3, .ref q), (4, J (W2 g (gl (il σ (a + 3)) x + 10))), (5, JL (W4 g (gl (il σ (a + 3)) x + 24))), (7, J (gl (il σ (a + 4)) x)), (8, J (W4 g (gl (il σ (a + 3)) x + 20))), (9, J z27)] [J 9] s26)) ?_
                exact T.ireti rfl rfl ⟨_, rfl, gs26, by omega, by omega, (fun h => absurd h (by decide)), (fun _ o => RD_9 hRQ (by omega))⟩
            · refine T.go 1 (fun n9 => (rfl : _ = exe ξ n9 (d + 5) j_N_unpackEntry 136 [(0, .ref 16), (1, .ref a), (2, J x), (3, .ref q), (4, J (W2 g (gl (il σ (a + 3)) x + 10))), (5, JL (W4 g (gl (il σ (a + 3)) x + 24))), (7, J (gl (il σ (a + 4)) x)), (8, J (W4 g (gl (il σ (a + 3)) x + 20))), (9, J z27)] [J 8] s26)) ?_
              exact T.ireti rfl rfl ⟨_, rfl, gs26, by omega, by omega, (fun h => absurd h (by decide)), (fun _ o => RD_88 (by omega) (unz27 (by omega)))⟩
          · refine T.go 1 (fun n9 => (rfl : _ = exe ξ n9 (d + 5) j_N_unpackEntry 78 [(0, .ref 16), (1, .ref a), (2, J x), (3, .ref q), (4, J (W2 g (gl (il σ (a + 3)) x + 10))), (5, JL (W4 g (gl (il σ (a + 3)) x + 24))), (7, J (gl (il σ (a + 4)) x)), (8, J (W4 g (gl (il σ (a + 3)) x + 20)))] [J (W4 g (gl (il σ (a + 3)) x + 20))] s23)) ?_
            refine T.i2l rfl (by omega) ?_
            refine T.go 1 (fun n9 => (rfl : _ = exe ξ n9 (d + 5) j_N_unpackEntry 81 [(0, .ref 16), (1, .ref a), (2, J x), (3, .ref q), (4, J (W2 g (gl (il σ (a + 3)) x + 10))), (5, JL (W4 g (gl (il σ (a + 3)) x + 24))), (7, J (gl (il σ (a + 4)) x)), (8, J (W4 g (gl (il σ (a + 3)) x + 20)))] [JL (W4 g (gl (il σ (a + 3)) x + 24)), JL (W4 g (gl (il σ (a + 3)) x + 20))] s23)) ?_
            refine T.lcmp rfl (by omega) (by omega) (fun c19 => ?_) (fun c19 => ?_) (fun c19 => ?_)
            · refine T.go 1 (fun n9 => (rfl : _ = exe ξ n9 (d + 5) j_N_unpackEntry 104 [(0, .ref 16), (1, .ref a), (2, J x), (3, .ref q), (4, J (W2 g (gl (il σ (a + 3)) x + 10))), (5, JL (W4 g (gl (il σ (a + 3)) x + 24))), (7, J (gl (il σ (a + 4)) x)), (8, J (W4 g (gl (il σ (a + 3)) x + 20)))] [] s23)) ?_
              refine T.go 6 (fun n9 => (rfl : _ = exe ξ n9 (d + 5) j_N_unpackEntry 136 [(0, .ref 16), (1, .ref a), (2, J x), (3, .ref q), (4, J (W2 g (gl (il σ (a + 3)) x + 10))), (5, JL (W4 g (gl (il σ (a + 3)) x + 24))), (7, J (gl (il σ (a + 4)) x)), (8, J (W4 g (gl (il σ (a + 3)) x + 20))), (9, J 0)] [J 8] s23)) ?_
              exact T.ireti rfl rfl ⟨_, rfl, hs23, by omega, by omega, (fun h => absurd h (by decide)), (fun _ o => RD_80 (by omega) (by omega))⟩
            · refine T.go 1 (fun n9 => (rfl : _ = exe ξ n9 (d + 5) j_N_unpackEntry 85 [(0, .ref 16), (1, .ref a), (2, J x), (3, .ref q), (4, J (W2 g (gl (il σ (a + 3)) x + 10))), (5, JL (W4 g (gl (il σ (a + 3)) x + 24))), (7, J (gl (il σ (a + 4)) x)), (8, J (W4 g (gl (il σ (a + 3)) x + 20)))] [] s23)) ?_
              refine T.go 2 (fun n9 => (rfl : _ = exe ξ n9 (d + 5) j_N_unpackEntry 87 [(0, .ref 16), (1, .ref a), (2, J x), (3, .ref q), (4, J (W2 g (gl (il σ (a + 3)) x + 10))), (5, JL (W4 g (gl (il σ (a + 3)) x + 24))), (7, J (gl (il σ (a + 4)) x)), (8, J (W4 g (gl (il σ (a + 3)) x + 20)))] [.ref a, .ref q] s23)) ?_
              refine T.get rfl rfl rfl k15 rfl ?_
              refine T.go 2 (fun n9 => (rfl : _ = exe ξ n9 (d + 5) j_N_unpackEntry 94 [(0, .ref 16), (1, .ref a), (2, J x), (3, .ref q), (4, J (W2 g (gl (il σ (a + 3)) x + 10))), (5, JL (W4 g (gl (il σ (a + 3)) x + 24))), (7, J (gl (il σ (a + 4)) x)), (8, J (W4 g (gl (il σ (a + 3)) x + 20)))] [J (W4 g (gl (il σ (a + 3)) x + 20)), J (gl (il σ (a + 4)) x), .ref (a + 1), .ref q] s23)) ?_
              obtain ⟨mx12, nx12, bx12, lx12, hrx12, hbx12, fx12a, fx12b, fx12c, fx12d, fx12e, fx12g, fx12h, fx12i⟩ := hs23.1.row hq
              have ctx12 := CT_of hrx12 hbx12
              have rwx12 := rl_of hrx12 (by omega)
              subst rwx12
              refine T.callv (as := [.ref (a + 1), J (gl (il σ (a + 4)) x), J (W4 g (gl (il σ (a + 3)) x + 20))]) (r := []) rfl rfl rfl (RwL_lt _ hq).2.2.1 hrx12 rfl (s_R_faddPart (d + 3) q (a + 1) (gl (il σ (a + 4)) x) (W4 g (gl (il σ (a + 3)) x + 20)) s23 hs23.1 hq (kdX_ar _ ha).2.2.1 haq (by omega) (by omega) (by omega) (by omega) (by omega) (by omega)) (fun v29 s29 hqs29 => ?_)
              obtain ⟨z30, rfl, hs29, hzz30, hyz30, pz30_0, pz30_1, pz30_2, pz30_3⟩ := hqs29
              have es29 := hs29
              have hs29 := hs29.sub (w' := [17, 18, 20, 21, 22, 24, 25, 26, 28, 29, 30, q]) (List.forall_mem_cons.mpr ⟨(by simp), (fun _ h => by cases h)⟩)
              have k20 := es29.b.1 _ _ (nm_c (dq_17 _ ha _ hq) nm_0) (fun l z => by cases z) k15
              have k21 := es29.b.1 _ _ (nm_c haq nm_0) (fun l z => by cases z) k16
              have gs29 := hs23.trans hs29
              subst pz30_2
              have ag := pz30_3 g (fun _ => 0) hgqs23 (AGR.none pz24_1)
              rw [pz24_1] at ag
              have zb : ZB (PLC g (fun _ => 0) 0 (gl (il σ (a + 4)) x) (W4 g (gl (il σ (a + 3)) x + 20) : Int).toNat) (rl s29 q) := by rw [pz30_1, pz24_1]; have h9 := ZB_plc (g := g) (o := fun _ => 0) (m := 0) (a := gl (il σ (a + 4)) x) (n := (W4 g (gl (il σ (a + 3)) x + 20) : Int).toNat) (fun _ _ => rfl) (by decide); rw [Int.toNat_of_nonneg (by omega)] at h9; exact h9
              have nbN := nb_of ag zb
              refine T.go 7 (fun n9 => (rfl : _ = exe ξ n9 (d + 5) j_N_unpackEntry 138 [(0, .ref 16), (1, .ref a), (2, J x), (3, .ref q), (4, J (W2 g (gl (il σ (a + 3)) x + 10))), (5, JL (W4 g (gl (il σ (a + 3)) x + 24))), (7, J (gl (il σ (a + 4)) x)), (8, J (W4 g (gl (il σ (a + 3)) x + 20))), (9, J 1)] [.ref q] s29)) ?_
              refine T.calls (as := [.ref q]) (r := []) rfl rfl (by decide) rfl rfl (s_N_fsumOf hX0 (d + 3) (nb s29 q) q s29 hs29.1 hq (fun k => nb_r k) nb_ag ) (fun v30 s30 hqs30 => ?_)
              obtain ⟨z31, rfl, esz31, hzz31, hyz31, pz31_0⟩ := hqs30
              rw [esz31]
              have hRQ : RQ g (gl (il σ (a + 3)) x) (gl (il σ (a + 4)) x) (nb s29 q) := RQ_0 (by omega) (by omega) (by omega) (by omega) (by rw [nbN, show W4 g (gl (il σ (a + 3)) x + 20) = W4 g (gl (il σ (a + 3)) x + 24) by omega])
              have rN : rl s29 q = W4 g (gl (il σ (a + 3)) x + 24) := by omega
              rw [rN] at pz31_0
              refine T.go 2 (fun n9 => (rfl : _ = exe ξ n9 (d + 5) j_N_unpackEntry 143 [(0, .ref 16), (1, .ref a), (2, J x), (3, .ref q), (4, J (W2 g (gl (il σ (a + 3)) x + 10))), (5, JL (W4 g (gl (il σ (a + 3)) x + 24))), (7, J (gl (il σ (a + 4)) x)), (8, J (W4 g (gl (il σ (a + 3)) x + 20))), (9, J 1)] [J x, .ref a, JL z31] s29)) ?_
              have hgqs29 := hg.fr hNA gs29 (kdX_ar _ ha).2.2.1 (nm_c (dq_18 _ ha) (nm_c (dq_19 _ ha) (nm_c (dq_20 _ ha) (nm_c (dq_21 _ ha) (nm_c (dq_22 _ ha) (nm_c (dq_23 _ ha) (nm_c (dq_24 _ ha) (nm_c (dq_25 _ ha) (nm_c (dq_26 _ ha) (nm_c (dq_27 _ ha) (nm_c (dq_28 _ ha) (nm_c haq nm_0))))))))))))
              have rlqs29 := rl_eq (gs29.2.2.1 (a + 1) (List.mem_cons_of_mem _ (kdX_ar _ ha).2.2.1) (nm_c (dq_18 _ ha) (nm_c (dq_19 _ ha) (nm_c (dq_20 _ ha) (nm_c (dq_21 _ ha) (nm_c (dq_22 _ ha) (nm_c (dq_23 _ ha) (nm_c (dq_24 _ ha) (nm_c (dq_25 _ ha) (nm_c (dq_26 _ ha) (nm_c (dq_27 _ ha) (nm_c (dq_28 _ ha) (nm_c haq nm_0)))))))))))))
              have i3qs29 := il_fr hK (kdX_ar _ ha).2.2.2.1 gs29 (nm_c (dq_29 _ ha) (nm_c (dq_30 _ ha) (nm_c (dq_31 _ ha) (nm_c (dq_32 _ ha) (nm_c (dq_33 _ ha) (nm_c (dq_34 _ ha) (nm_c (dq_35 _ ha) (nm_c (dq_36 _ ha) (nm_c (dq_37 _ ha) (nm_c (dq_38 _ ha) (nm_c (dq_39 _ ha) (nm_c (dq_40 _ ha _ hq) nm_0))))))))))))
              have i4qs29 := il_fr hK (kdX_ar _ ha).2.2.2.2 gs29 (nm_c (dq_41 _ ha) (nm_c (dq_42 _ ha) (nm_c (dq_43 _ ha) (nm_c (dq_44 _ ha) (nm_c (dq_45 _ ha) (nm_c (dq_46 _ ha) (nm_c (dq_47 _ ha) (nm_c (dq_48 _ ha) (nm_c (dq_49 _ ha) (nm_c (dq_50 _ ha) (nm_c (dq_51 _ ha) (nm_c (dq_52 _ ha _ hq) nm_0))))))))))))
              have a3qs29 : afld s29 a 3 = afld σ a 3 := by unfold afld; rw [gs29.b.1 a _ (nm_c (dq_53 _ ha) (nm_c (dq_54 _ ha) (nm_c (dq_55 _ ha) (nm_c (dq_56 _ ha) (nm_c (dq_57 _ ha) (nm_c (dq_58 _ ha) (nm_c (dq_59 _ ha) (nm_c (dq_60 _ ha) (nm_c (dq_61 _ ha) (nm_c (dq_62 _ ha) (nm_c (dq_63 _ ha) (nm_c (dq_17 _ ha _ hq) nm_0)))))))))))) (fun l z => by cases z) hax1, hax1]
              have hxqs29 : gl (il s29 (a + 3)) x = gl (il σ (a + 3)) x := by rw [i3qs29]
              refine T.callv (as := [J x]) (r := [JL z31]) rfl rfl rfl (ArL_lt _ ha).2.2.1 k20 rfl (s_A_fsum (d + 2) g a x s29 hs29.1 ha h255 hgqs29 (by omega) (by omega) (by omega) (by omega) (by omega)) (fun v31 s31 hqs31 => ?_)
              obtain ⟨z32, rfl, esz32, hzz32, hyz32, pz32_0⟩ := hqs31
              rw [esz32]
              rw [hxqs29] at pz32_0
              subst pz32_0
              have v16_493 := hV (gl (il σ (a + 3)) x + 16)
              refine T.lcmp rfl (by omega) (by omega) (fun c20 => ?_) (fun c20 => ?_) (fun c20 => ?_)
              · refine T.go 1 (fun n9 => (rfl : _ = exe ξ n9 (d + 5) j_N_unpackEntry 154 [(0, .ref 16), (1, .ref a), (2, J x), (3, .ref q), (4, J (W2 g (gl (il σ (a + 3)) x + 10))), (5, JL (W4 g (gl (il σ (a + 3)) x + 24))), (7, J (gl (il σ (a + 4)) x)), (8, J (W4 g (gl (il σ (a + 3)) x + 20))), (9, J 1)] [] s29)) ?_
                refine T.go 1 (fun n9 => (rfl : _ = exe ξ n9 (d + 5) j_N_unpackEntry 156 [(0, .ref 16), (1, .ref a), (2, J x), (3, .ref q), (4, J (W2 g (gl (il σ (a + 3)) x + 10))), (5, JL (W4 g (gl (il σ (a + 3)) x + 24))), (7, J (gl (il σ (a + 4)) x)), (8, J (W4 g (gl (il σ (a + 3)) x + 20))), (9, J 1)] [J 9] s29)) ?_
                exact T.ireti rfl rfl ⟨_, rfl, gs29, by omega, by omega, (fun h => absurd h (by decide)), (fun _ o => RD_9 hRQ (by omega))⟩
              · refine T.go 1 (fun n9 => (rfl : _ = exe ξ n9 (d + 5) j_N_unpackEntry 150 [(0, .ref 16), (1, .ref a), (2, J x), (3, .ref q), (4, J (W2 g (gl (il σ (a + 3)) x + 10))), (5, JL (W4 g (gl (il σ (a + 3)) x + 24))), (7, J (gl (il σ (a + 4)) x)), (8, J (W4 g (gl (il σ (a + 3)) x + 20))), (9, J 1)] [] s29)) ?_
                refine T.go 2 (fun n9 => (rfl : _ = exe ξ n9 (d + 5) j_N_unpackEntry 156 [(0, .ref 16), (1, .ref a), (2, J x), (3, .ref q), (4, J (W2 g (gl (il σ (a + 3)) x + 10))), (5, JL (W4 g (gl (il σ (a + 3)) x + 24))), (7, J (gl (il σ (a + 4)) x)), (8, J (W4 g (gl (il σ (a + 3)) x + 20))), (9, J 1)] [J 0] s29)) ?_
                exact T.ireti rfl rfl ⟨_, rfl, gs29, by omega, by omega, (fun _ => ⟨RD_is hRQ (by omega), rN⟩), (fun h => absurd rfl h)⟩
              · refine T.go 1 (fun n9 => (rfl : _ = exe ξ n9 (d + 5) j_N_unpackEntry 154 [(0, .ref 16), (1, .ref a), (2, J x), (3, .ref q), (4, J (W2 g (gl (il σ (a + 3)) x + 10))), (5, JL (W4 g (gl (il σ (a + 3)) x + 24))), (7, J (gl (il σ (a + 4)) x)), (8, J (W4 g (gl (il σ (a + 3)) x + 20))), (9, J 1)] [] s29)) ?_
                refine T.go 1 (fun n9 => (rfl : _ = exe ξ n9 (d + 5) j_N_unpackEntry 156 [(0, .ref 16), (1, .ref a), (2, J x), (3, .ref q), (4, J (W2 g (gl (il σ (a + 3)) x + 10))), (5, JL (W4 g (gl (il σ (a + 3)) x + 24))), (7, J (gl (il σ (a + 4)) x)), (8, J (W4 g (gl (il σ (a + 3)) x + 20))), (9, J 1)] [J 9] s29)) ?_
                exact T.ireti rfl rfl ⟨_, rfl, gs29, by omega, by omega, (fun h => absurd h (by decide)), (fun _ o => RD_9 hRQ (by omega))⟩
            · refine T.go 1 (fun n9 => (rfl : _ = exe ξ n9 (d + 5) j_N_unpackEntry 104 [(0, .ref 16), (1, .ref a), (2, J x), (3, .ref q), (4, J (W2 g (gl (il σ (a + 3)) x + 10))), (5, JL (W4 g (gl (il σ (a + 3)) x + 24))), (7, J (gl (il σ (a + 4)) x)), (8, J (W4 g (gl (il σ (a + 3)) x + 20)))] [] s23)) ?_
              refine T.go 6 (fun n9 => (rfl : _ = exe ξ n9 (d + 5) j_N_unpackEntry 136 [(0, .ref 16), (1, .ref a), (2, J x), (3, .ref q), (4, J (W2 g (gl (il σ (a + 3)) x + 10))), (5, JL (W4 g (gl (il σ (a + 3)) x + 24))), (7, J (gl (il σ (a + 4)) x)), (8, J (W4 g (gl (il σ (a + 3)) x + 20))), (9, J 0)] [J 8] s23)) ?_
              exact T.ireti rfl rfl ⟨_, rfl, hs23, by omega, by omega, (fun h => absurd h (by decide)), (fun _ o => RD_80 (by omega) (by omega))⟩
        · refine T.go 1 (fun n9 => (rfl : _ = exe ξ n9 (d + 5) j_N_unpackEntry 52 [(0, .ref 16), (1, .ref a), (2, J x), (3, .ref q), (4, J (W2 g (gl (il σ (a + 3)) x + 10))), (5, JL (W4 g (gl (il σ (a + 3)) x + 24)))] [] σ)) ?_
          refine T.go 1 (fun n9 => (rfl : _ = exe ξ n9 (d + 5) j_N_unpackEntry 53 [(0, .ref 16), (1, .ref a), (2, J x), (3, .ref q), (4, J (W2 g (gl (il σ (a + 3)) x + 10))), (5, JL (W4 g (gl (il σ (a + 3)) x + 24)))] [.ref q] σ)) ?_
          refine T.callv (as := []) (r := []) rfl rfl rfl (RwL_lt _ hq).2.2.1 hrx3 rfl (s_R_clear (d + 4) q σ hK hq  ) (fun v32 s32 hqs32 => ?_)
          obtain ⟨rfl, hs32, pz33_0, pz33_1⟩ := hqs32
          have es32 := hs32
          have hs32 := hs32.sub (w' := [17, 18, 20, 21, 22, 24, 25, 26, 28, 29, 30, q]) (List.forall_mem_cons.mpr ⟨(by simp), (fun _ h => by cases h)⟩)
          have k22 := es32.b.1 _ _ (nm_c (dq_17 _ ha _ hq) nm_0) (fun l z => by cases z) hax1
          have k23 := es32.b.1 _ _ (nm_c haq nm_0) (fun l z => by cases z) hrx2
          refine T.go 2 (fun n9 => (rfl : _ = exe ξ n9 (d + 5) j_N_unpackEntry 58 [(0, .ref 16), (1, .ref a), (2, J x), (3, .ref q), (4, J (W2 g (gl (il σ (a + 3)) x + 10))), (5, JL (W4 g (gl (il σ (a + 3)) x + 24)))] [J x, .ref a] s32)) ?_
          have hgqs32 := hg.fr hNA hs32 (kdX_ar _ ha).2.2.1 (nm_c (dq_18 _ ha) (nm_c (dq_19 _ ha) (nm_c (dq_20 _ ha) (nm_c (dq_21 _ ha) (nm_c (dq_22 _ ha) (nm_c (dq_23 _ ha) (nm_c (dq_24 _ ha) (nm_c (dq_25 _ ha) (nm_c (dq_26 _ ha) (nm_c (dq_27 _ ha) (nm_c (dq_28 _ ha) (nm_c haq nm_0))))))))))))
          have rlqs32 := rl_eq (hs32.2.2.1 (a + 1) (List.mem_cons_of_mem _ (kdX_ar _ ha).2.2.1) (nm_c (dq_18 _ ha) (nm_c (dq_19 _ ha) (nm_c (dq_20 _ ha) (nm_c (dq_21 _ ha) (nm_c (dq_22 _ ha) (nm_c (dq_23 _ ha) (nm_c (dq_24 _ ha) (nm_c (dq_25 _ ha) (nm_c (dq_26 _ ha) (nm_c (dq_27 _ ha) (nm_c (dq_28 _ ha) (nm_c haq nm_0)))))))))))))
          have i3qs32 := il_fr hK (kdX_ar _ ha).2.2.2.1 hs32 (nm_c (dq_29 _ ha) (nm_c (dq_30 _ ha) (nm_c (dq_31 _ ha) (nm_c (dq_32 _ ha) (nm_c (dq_33 _ ha) (nm_c (dq_34 _ ha) (nm_c (dq_35 _ ha) (nm_c (dq_36 _ ha) (nm_c (dq_37 _ ha) (nm_c (dq_38 _ ha) (nm_c (dq_39 _ ha) (nm_c (dq_40 _ ha _ hq) nm_0))))))))))))
          have i4qs32 := il_fr hK (kdX_ar _ ha).2.2.2.2 hs32 (nm_c (dq_41 _ ha) (nm_c (dq_42 _ ha) (nm_c (dq_43 _ ha) (nm_c (dq_44 _ ha) (nm_c (dq_45 _ ha) (nm_c (dq_46 _ ha) (nm_c (dq_47 _ ha) (nm_c (dq_48 _ ha) (nm_c (dq_49 _ ha) (nm_c (dq_50 _ ha) (nm_c (dq_51 _ ha) (nm_c (dq_52 _ ha _ hq) nm_0))))))))))))
          have a3qs32 : afld s32 a 3 = afld σ a 3 := by unfold afld; rw [hs32.b.1 a _ (nm_c (dq_53 _ ha) (nm_c (dq_54 _ ha) (nm_c (dq_55 _ ha) (nm_c (dq_56 _ ha) (nm_c (dq_57 _ ha) (nm_c (dq_58 _ ha) (nm_c (dq_59 _ ha) (nm_c (dq_60 _ ha) (nm_c (dq_61 _ ha) (nm_c (dq_62 _ ha) (nm_c (dq_63 _ ha) (nm_c (dq_17 _ ha _ hq) nm_0)))))))))))) (fun l z => by cases z) hax1, hax1]
          have hxqs32 : gl (il s32 (a + 3)) x = gl (il σ (a + 3)) x := by rw [i3qs32]
          refine T.callv (as := [J x]) (r := []) rfl rfl rfl (ArL_lt _ ha).2.2.1 k22 rfl (s_A_fdataPlace (d + 3) a x s32 hs32.1 ha  (by omega)) (fun v33 s33 hqs33 => ?_)
          obtain ⟨z34, rfl, esz34, hzz34, hyz34, pz34_0⟩ := hqs33
          rw [esz34]
          have d9 := pz34_0 (by omega)
          rw [i4qs32] at d9
          subst d9
          refine T.go 3 (fun n9 => (rfl : _ = exe ξ n9 (d + 5) j_N_unpackEntry 65 [(0, .ref 16), (1, .ref a), (2, J x), (3, .ref q), (4, J (W2 g (gl (il σ (a + 3)) x + 10))), (5, JL (W4 g (gl (il σ (a + 3)) x + 24))), (7, J (gl (il σ (a + 4)) x))] [J x, .ref a] s32)) ?_
          refine T.callv (as := [J x]) (r := []) rfl rfl rfl (ArL_lt _ ha).2.2.1 k22 rfl (s_A_fpackedSize (d + 2) g a x s32 hs32.1 ha h255 hgqs32 (by omega) (by omega) (by omega) (by omega) (by omega)) (fun v34 s34 hqs34 => ?_)
          obtain ⟨z35, rfl, esz35, hzz35, hyz35, pz35_0⟩ := hqs34
          rw [esz35]
          rw [hxqs32] at pz35_0
          subst pz35_0
          have v20_534 := hV (gl (il σ (a + 3)) x + 20)
          refine T.l2i rfl ?_
          refine T.go 2 (fun n9 => (rfl : _ = exe ξ n9 (d + 5) j_N_unpackEntry 73 [(0, .ref 16), (1, .ref a), (2, J x), (3, .ref q), (4, J (W2 g (gl (il σ (a + 3)) x + 10))), (5, JL (W4 g (gl (il σ (a + 3)) x + 24))), (7, J (gl (il σ (a + 4)) x)), (8, J (W4 g (gl (il σ (a + 3)) x + 20)))] [J (W2 g (gl (il σ (a + 3)) x + 10))] s32)) ?_
          refine T.if_ne rfl rfl (by omega) (fun c21 => ?_) (fun c21 => ?_)
          · refine T.go 1 (fun n9 => (rfl : _ = exe ξ n9 (d + 5) j_N_unpackEntry 109 [(0, .ref 16), (1, .ref a), (2, J x), (3, .ref q), (4, J (W2 g (gl (il σ (a + 3)) x + 10))), (5, JL (W4 g (gl (il σ (a + 3)) x + 24))), (7, J (gl (il σ (a + 4)) x)), (8, J (W4 g (gl (il σ (a + 3)) x + 20)))] [.ref 16] s32)) ?_
            obtain ⟨kex13, scx13, tpx13, oux13, mox13, sgx13, hox13, mcx13, lfx13, lpx13, hNx13, fx13ke, fx13sc, fx13tp, fx13ou, fx13mo, fx13sg, fx13d, fx13e, fx13f, fx13g, fx13h, fx13i, fx13j⟩ := hs32.1.na
            refine T.get rfl rfl rfl hNx13 rfl ?_
            refine T.go 1 (fun n9 => (rfl : _ = exe ξ n9 (d + 5) j_N_unpackEntry 113 [(0, .ref 16), (1, .ref a), (2, J x), (3, .ref q), (4, J (W2 g (gl (il σ (a + 3)) x + 10))), (5, JL (W4 g (gl (il σ (a + 3)) x + 24))), (7, J (gl (il σ (a + 4)) x)), (8, J (W4 g (gl (il σ (a + 3)) x + 20)))] [.ref a, .ref 17] s32)) ?_
            refine T.get rfl rfl rfl k22 rfl ?_
            refine T.go 4 (fun n9 => (rfl : _ = exe ξ n9 (d + 5) j_N_unpackEntry 123 [(0, .ref 16), (1, .ref a), (2, J x), (3, .ref q), (4, J (W2 g (gl (il σ (a + 3)) x + 10))), (5, JL (W4 g (gl (il σ (a + 3)) x + 24))), (7, J (gl (il σ (a + 4)) x)), (8, J (W4 g (gl (il σ (a + 3)) x + 20)))] [JL (W4 g (gl (il σ (a + 3)) x + 24)), .ref q, J (W4 g (gl (il σ (a + 3)) x + 20)), J (gl (il σ (a + 4)) x), .ref (a + 1), .ref 17] s32)) ?_
            refine T.l2i rfl ?_
            obtain ⟨sx14, tx14, wx14, bix14, bex14, rox14, hux14, fx14a, fx14b, fx14c, fx14d, fx14e, fx14f, fx14g, fx14h, fx14i⟩ := hs32.1.unp
            refine T.callv (as := [.ref (a + 1), J (gl (il σ (a + 4)) x), J (W4 g (gl (il σ (a + 3)) x + 20)), .ref q, J (W4 g (gl (il σ (a + 3)) x + 24))]) (r := []) rfl rfl rfl rfl hux14 rfl (s_U_funpack hX0 d g (a + 1) (gl (il σ (a + 4)) x) (W4 g (gl (il σ (a + 3)) x + 20)) q (W4 g (gl (il σ (a + 3)) x + 24)) s32 hs32.1 (kdX_ar _ ha).2.2.1 hq haq (hs32.b.2 hNA).1 hgqs32 hmt (hf1.fr hK (by decide) hs32 (nm_c (by decide) (nm_c (by decide) (nm_c (by decide) (nm_c (by decide) (nm_c (by decide) (nm_c (by decide) (nm_c (by decide) (nm_c (by decide) (nm_c (by decide) (nm_c (by decide) (nm_c (by decide) (nm_c (dq_13 _ hq) nm_0)))))))))))) (nm_c (by decide) (nm_c (by decide) (nm_c (by decide) (nm_c (by decide) (nm_c (by decide) (nm_c (by decide) (nm_c (by decide) (nm_c (by decide) (nm_c (by decide) (nm_c (by decide) (nm_c (by decide) (nm_c (dq_14 _ hq) nm_0))))))))))))) (hf2.fr hK (by decide) hs32 (nm_c (by decide) (nm_c (by decide) (nm_c (by decide) (nm_c (by decide) (nm_c (by decide) (nm_c (by decide) (nm_c (by decide) (nm_c (by decide) (nm_c (by decide) (nm_c (by decide) (nm_c (by decide) (nm_c (dq_15 _ hq) nm_0)))))))))))) (nm_c (by decide) (nm_c (by decide) (nm_c (by decide) (nm_c (by decide) (nm_c (by decide) (nm_c (by decide) (nm_c (by decide) (nm_c (by decide) (nm_c (by decide) (nm_c (by decide) (nm_c (by decide) (nm_c (dq_16 _ hq) nm_0))))))))))))) (by omega) (by omega) (by omega) (by omega) (by omega) (by omega) (by omega) (by omega) (by omega)) (fun v35 s35 hqs35 => ?_)
            obtain ⟨z36, rfl, hs35, hzz36, hyz36, pz36_0, pz36_1⟩ := hqs35
            have es35 := hs35
            have k24 := es35.b.1 _ _ (nm_c (dq_53 _ ha) (nm_c (dq_54 _ ha) (nm_c (dq_55 _ ha) (nm_c (dq_56 _ ha) (nm_c (dq_57 _ ha) (nm_c (dq_58 _ ha) (nm_c (dq_59 _ ha) (nm_c (dq_60 _ ha) (nm_c (dq_61 _ ha) (nm_c (dq_62 _ ha) (nm_c (dq_63 _ ha) (nm_c (dq_17 _ ha _ hq) nm_0)))))))))))) (fun l z => by cases z) k22
            have k25 := es35.b.1 _ _ (nm_c (dq_18 _ ha) (nm_c (dq_19 _ ha) (nm_c (dq_20 _ ha) (nm_c (dq_21 _ ha) (nm_c (dq_22 _ ha) (nm_c (dq_23 _ ha) (nm_c (dq_24 _ ha) (nm_c (dq_25 _ ha) (nm_c (dq_26 _ ha) (nm_c (dq_27 _ ha) (nm_c (dq_28 _ ha) (nm_c haq nm_0)))))))))))) (fun l z => by cases z) k23
            have k26 := es35.b.1 _ _ (nm_c (by decide) (nm_c (by decide) (nm_c (by decide) (nm_c (by decide) (nm_c (by decide) (nm_c (by decide) (nm_c (by decide) (nm_c (by decide) (nm_c (by decide) (nm_c (by decide) (nm_c (by decide) (nm_c (dq_64 _ hq) nm_0)))))))))))) (fun l z => by cases z) hNx13
            have gs35 := hs32.trans hs35
            have uyz36 : z36 = 1 → IFy g (8 * (gl (il σ (a + 4)) x + W4 g (gl (il σ (a + 3)) x + 20))) (W4 g (gl (il σ (a + 3)) x + 24)) (8 * gl (il σ (a + 4)) x) (rl s35 q) (nb s35 q) := fun h => by obtain ⟨v, q1, q2, q3, q4, q5⟩ := pz36_0 h; exact ⟨v, q1, q2, q3, q4, q5⟩
            have unz36 : z36 = 0 → IFn g (8 * (gl (il σ (a + 4)) x + W4 g (gl (il σ (a + 3)) x + 20))) (W4 g (gl (il σ (a + 3)) x + 24)) (8 * gl (il σ (a + 4)) x) := pz36_1
            clear pz36_0 pz36_1
            refine T.go 2 (fun n9 => (rfl : _ = exe ξ n9 (d + 5) j_N_unpackEntry 131 [(0, .ref 16), (1, .ref a), (2, J x), (3, .ref q), (4, J (W2 g (gl (il σ (a + 3)) x + 10))), (5, JL (W4 g (gl (il σ (a + 3)) x + 24))), (7, J (gl (il σ (a + 4)) x)), (8, J (W4 g (gl (il σ (a + 3)) x + 20))), (9, J z36)] [J z36] s35)) ?_
            refine T.if_ne rfl rfl (by omega) (fun c22 => ?_) (fun c22 => ?_)
            · refine T.go 1 (fun n9 => (rfl : _ = exe ξ n9 (d + 5) j_N_unpackEntry 138 [(0, .ref 16), (1, .ref a), (2, J x), (3, .ref q), (4, J (W2 g (gl (il σ (a + 3)) x + 10))), (5, JL (W4 g (gl (il σ (a + 3)) x + 24))), (7, J (gl (il σ (a + 4)) x)), (8, J (W4 g (gl (il σ (a + 3)) x + 20))), (9, J z36)] [.ref q] s35)) ?_
              obtain ⟨v9, n1, n2, n3, n4, n5⟩ := uyz36 (by omega)
              refine T.calls (as := [.ref q]) (r := []) rfl rfl (by decide) rfl rfl (s_N_fsumOf hX0 (d + 3) (nb s35 q) q s35 hs35.1 hq (fun k => nb_r k) nb_ag ) (fun v36 s36 hqs36 => ?_)
              obtain ⟨z37, rfl, esz37, hzz37, hyz37, pz37_0⟩ := hqs36
              rw [esz37]
              have hRQ : RQ g (gl (il σ (a + 3)) x) (gl (il σ (a + 4)) x) (nb s35 q) := RQ_8 (by omega) (by omega) (by omega) n1 n2 n3 n5
              have rN : rl s35 q = W4 g (gl (il σ (a + 3)) x + 24) := n4
              rw [rN] at pz37_0
              refine T.go 2 (fun n9 => (rfl : _ = exe ξ n9 (d + 5) j_N_unpackEntry 143 [(0, .ref 16), (1, .ref a), (2, J x), (3, .ref q), (4, J (W2 g (gl (il σ (a + 3)) x + 10))), (5, JL (W4 g (gl (il σ (a + 3)) x + 24))), (7, J (gl (il σ (a + 4)) x)), (8, J (W4 g (gl (il σ (a + 3)) x + 20))), (9, J z36)] [J x, .ref a, JL z37] s35)) ?_
              have hgqs35 := hg.fr hNA gs35 (kdX_ar _ ha).2.2.1 (nm_c (dq_18 _ ha) (nm_c (dq_19 _ ha) (nm_c (dq_20 _ ha) (nm_c (dq_21 _ ha) (nm_c (dq_22 _ ha) (nm_c (dq_23 _ ha) (nm_c (dq_24 _ ha) (nm_c (dq_25 _ ha) (nm_c (dq_26 _ ha) (nm_c (dq_27 _ ha) (nm_c (dq_28 _ ha) (nm_c haq nm_0))))))))))))
              have rlqs35 := rl_eq (gs35.2.2.1 (a + 1) (List.mem_cons_of_mem _ (kdX_ar _ ha).2.2.1) (nm_c (dq_18 _ ha) (nm_c (dq_19 _ ha) (nm_c (dq_20 _ ha) (nm_c (dq_21 _ ha) (nm_c (dq_22 _ ha) (nm_c (dq_23 _ ha) (nm_c (dq_24 _ ha) (nm_c (dq_25 _ ha) (nm_c (dq_26 _ ha) (nm_c (dq_27 _ ha) (nm_c (dq_28 _ ha) (nm_c haq nm_0)))))))))))))
              have i3qs35 := il_fr hK (kdX_ar _ ha).2.2.2.1 gs35 (nm_c (dq_29 _ ha) (nm_c (dq_30 _ ha) (nm_c (dq_31 _ ha) (nm_c (dq_32 _ ha) (nm_c (dq_33 _ ha) (nm_c (dq_34 _ ha) (nm_c (dq_35 _ ha) (nm_c (dq_36 _ ha) (nm_c (dq_37 _ ha) (nm_c (dq_38 _ ha) (nm_c (dq_39 _ ha) (nm_c (dq_40 _ ha _ hq) nm_0))))))))))))
              have i4qs35 := il_fr hK (kdX_ar _ ha).2.2.2.2 gs35 (nm_c (dq_41 _ ha) (nm_c (dq_42 _ ha) (nm_c (dq_43 _ ha) (nm_c (dq_44 _ ha) (nm_c (dq_45 _ ha) (nm_c (dq_46 _ ha) (nm_c (dq_47 _ ha) (nm_c (dq_48 _ ha) (nm_c (dq_49 _ ha) (nm_c (dq_50 _ ha) (nm_c (dq_51 _ ha) (nm_c (dq_52 _ ha _ hq) nm_0))))))))))))
              have a3qs35 : afld s35 a 3 = afld σ a 3 := by unfold afld; rw [gs35.b.1 a _ (nm_c (dq_53 _ ha) (nm_c (dq_54 _ ha) (nm_c (dq_55 _ ha) (nm_c (dq_56 _ ha) (nm_c (dq_57 _ ha) (nm_c (dq_58 _ ha) (nm_c (dq_59 _ ha) (nm_c (dq_60 _ ha) (nm_c (dq_61 _ ha) (nm_c (dq_62 _ ha) (nm_c (dq_63 _ ha) (nm_c (dq_17 _ ha _ hq) nm_0)))))))))))) (fun l z => by cases z) hax1, hax1]
              have hxqs35 : gl (il s35 (a + 3)) x = gl (il σ (a + 3)) x := by rw [i3qs35]
              refine T.callv (as := [J x]) (r := [JL z37]) rfl rfl rfl (ArL_lt _ ha).2.2.1 k24 rfl (s_A_fsum (d + 2) g a x s35 hs35.1 ha h255 hgqs35 (by omega) (by omega) (by omega) (by omega) (by omega)) (fun v37 s37 hqs37 => ?_)
              obtain ⟨z38, rfl, esz38, hzz38, hyz38, pz38_0⟩ := hqs37
              rw [esz38]
              rw [hxqs35] at pz38_0
              subst pz38_0
              have v16_578 := hV (gl (il σ (a + 3)) x + 16)
              refine T.lcmp rfl (by omega) (by omega) (fun c23 => ?_) (fun c23 => ?_) (fun c23 => ?_)
              · refine T.go 1 (fun n9 => (rfl : _ = exe ξ n9 (d + 5) j_N_unpackEntry 154 [(0, .ref 16), (1, .ref a), (2, J x), (3, .ref q), (4, J (W2 g (gl (il σ (a + 3)) x + 10))), (5, JL (W4 g (gl (il σ (a + 3)) x + 24))), (7, J (gl (il σ (a + 4)) x)), (8, J (W4 g (gl (il σ (a + 3)) x + 20))), (9, J z36)] [] s35)) ?_
                refine T.go 1 (fun n9 => (rfl : _ = exe ξ n9 (d + 5) j_N_unpackEntry 156 [(0, .ref 16), (1, .ref a), (2, J x), (3, .ref q), (4, J (W2 g (gl (il σ (a + 3)) x + 10))), (5, JL (W4 g (gl (il σ (a + 3)) x + 24))), (7, J (gl (il σ (a + 4)) x)), (8, J (W4 g (gl (il σ (a + 3)) x + 20))), (9, J z36)] [J 9] s35)) ?_
                exact T.ireti rfl rfl ⟨_, rfl, gs35, by omega, by omega, (fun h => absurd h (by decide)), (fun _ o => RD_9 hRQ (by omega))⟩
              · refine T.go 1 (fun n9 => (rfl : _ = exe ξ n9 (d + 5) j_N_unpackEntry 150 [(0, .ref 16), (1, .ref a), (2, J x), (3, .ref q), (4, J (W2 g (gl (il σ (a + 3)) x + 10))), (5, JL (W4 g (gl (il σ (a + 3)) x + 24))), (7, J (gl (il σ (a + 4)) x)), (8, J (W4 g (gl (il σ (a + 3)) x + 20))), (9, J z36)] [] s35)) ?_
                refine T.go 2 (fun n9 => (rfl : _ = exe ξ n9 (d + 5) j_N_unpackEntry 156 [(0, .ref 16), (1, .ref a), (2, J x), (3, .ref q), (4, J (W2 g (gl (il σ (a + 3)) x + 10))), (5, JL (W4 g (gl (il σ (a + 3)) x + 24))), (7, J (gl (il σ (a + 4)) x)), (8, J (W4 g (gl (il σ (a + 3)) x + 20))), (9, J z36)] [J 0] s35)) ?_
                exact T.ireti rfl rfl ⟨_, rfl, gs35, by omega, by omega, (fun _ => ⟨RD_is hRQ (by omega), rN⟩), (fun h => absurd rfl h)⟩
              · refine T.go 1 (fun n9 => (rfl : _ = exe ξ n9 (d + 5) j_N_unpackEntry 154 [(0, .ref 16), (1, .ref a), (2, J x), (3, .ref q), (4, J (W2 g (gl (il σ (a + 3)) x + 10))), (5, JL (W4 g (gl (il σ (a + 3)) x + 24))), (7, J (gl (il σ (a + 4)) x)), (8, J (W4 g (gl (il σ (a + 3)) x + 20))), (9, J z36)] [] s35)) ?_
                refine T.go 1 (fun n9 => (rfl : _ = exe ξ n9 (d + 5) j_N_unpackEntry 156 [(0, .ref 16), (1, .ref a), (2, J x), (3, .ref q), (4, J (W2 g (gl (il σ (a + 3)) x + 10))), (5, JL (W4 g (gl (il σ (a + 3)) x + 24))), (7, J (gl (il σ (a + 4)) x)), (8, J (W4 g (gl (il σ (a + 3)) x + 20))), (9, J z36)] [J 9] s35)) ?_
                exact T.ireti rfl rfl ⟨_, rfl, gs35, by omega, by omega, (fun h => absurd h (by decide)), (fun _ o => RD_9 hRQ (by omega))⟩
            · refine T.go 1 (fun n9 => (rfl : _ = exe ξ n9 (d + 5) j_N_unpackEntry 136 [(0, .ref 16), (1, .ref a), (2, J x), (3, .ref q), (4, J (W2 g (gl (il σ (a + 3)) x + 10))), (5, JL (W4 g (gl (il σ (a + 3)) x + 24))), (7, J (gl (il σ (a + 4)) x)), (8, J (W4 g (gl (il σ (a + 3)) x + 20))), (9, J z36)] [J 8] s35)) ?_
              exact T.ireti rfl rfl ⟨_, rfl, gs35, by omega, by omega, (fun h => absurd h (by decide)), (fun _ o => RD_88 (by omega) (unz36 (by omega)))⟩
          · refine T.go 1 (fun n9 => (rfl : _ = exe ξ n9 (d + 5) j_N_unpackEntry 78 [(0, .ref 16), (1, .ref a), (2, J x), (3, .ref q), (4, J (W2 g (gl (il σ (a + 3)) x + 10))), (5, JL (W4 g (gl (il σ (a + 3)) x + 24))), (7, J (gl (il σ (a + 4)) x)), (8, J (W4 g (gl (il σ (a + 3)) x + 20)))] [J (W4 g (gl (il σ (a + 3)) x + 20))] s32)) ?_
            refine T.i2l rfl (by omega) ?_
            refine T.go 1 (fun n9 => (rfl : _ = exe ξ n9 (d + 5) j_N_unpackEntry 81 [(0, .ref 16), (1, .ref a), (2, J x), (3, .ref q), (4, J (W2 g (gl (il σ (a + 3)) x + 10))), (5, JL (W4 g (gl (il σ (a + 3)) x + 24))), (7, J (gl (il σ (a + 4)) x)), (8, J (W4 g (gl (il σ (a + 3)) x + 20)))] [JL (W4 g (gl (il σ (a + 3)) x + 24)), JL (W4 g (gl (il σ (a + 3)) x + 20))] s32)) ?_
            refine T.lcmp rfl (by omega) (by omega) (fun c24 => ?_) (fun c24 => ?_) (fun c24 => ?_)
            · refine T.go 1 (fun n9 => (rfl : _ = exe ξ n9 (d + 5) j_N_unpackEntry 104 [(0, .ref 16), (1, .ref a), (2, J x), (3, .ref q), (4, J (W2 g (gl (il σ (a + 3)) x + 10))), (5, JL (W4 g (gl (il σ (a + 3)) x + 24))), (7, J (gl (il σ (a + 4)) x)), (8, J (W4 g (gl (il σ (a + 3)) x + 20)))] [] s32)) ?_
              refine T.go 6 (fun n9 => (rfl : _ = exe ξ n9 (d + 5) j_N_unpackEntry 136 [(0, .ref 16), (1, .ref a), (2, J x), (3, .ref q), (4, J (W2 g (gl (il σ (a + 3)) x + 10))), (5, JL (W4 g (gl (il σ (a + 3)) x + 24))), (7, J (gl (il σ (a + 4)) x)), (8, J (W4 g (gl (il σ (a + 3)) x + 20))), (9, J 0)] [J 8] s32)) ?_
              exact T.ireti rfl rfl ⟨_, rfl, hs32, by omega, by omega, (fun h => absurd h (by decide)), (fun _ o => RD_80 (by omega) (by omega))⟩
            · refine T.go 1 (fun n9 => (rfl : _ = exe ξ n9 (d + 5) j_N_unpackEntry 85 [(0, .ref 16), (1, .ref a), (2, J x), (3, .ref q), (4, J (W2 g (gl (il σ (a + 3)) x + 10))), (5, JL (W4 g (gl (il σ (a + 3)) x + 24))), (7, J (gl (il σ (a + 4)) x)), (8, J (W4 g (gl (il σ (a + 3)) x + 20)))] [] s32)) ?_
              refine T.go 2 (fun n9 => (rfl : _ = exe ξ n9 (d + 5) j_N_unpackEntry 87 [(0, .ref 16), (1, .ref a), (2, J x), (3, .ref q), (4, J (W2 g (gl (il σ (a + 3)) x + 10))), (5, JL (W4 g (gl (il σ (a + 3)) x + 24))), (7, J (gl (il σ (a + 4)) x)), (8, J (W4 g (gl (il σ (a + 3)) x + 20)))] [.ref a, .ref q] s32)) ?_
              refine T.get rfl rfl rfl k22 rfl ?_
              refine T.go 2 (fun n9 => (rfl : _ = exe ξ n9 (d + 5) j_N_unpackEntry 94 [(0, .ref 16), (1, .ref a), (2, J x), (3, .ref q), (4, J (W2 g (gl (il σ (a + 3)) x + 10))), (5, JL (W4 g (gl (il σ (a + 3)) x + 24))), (7, J (gl (il σ (a + 4)) x)), (8, J (W4 g (gl (il σ (a + 3)) x + 20)))] [J (W4 g (gl (il σ (a + 3)) x + 20)), J (gl (il σ (a + 4)) x), .ref (a + 1), .ref q] s32)) ?_
              obtain ⟨mx15, nx15, bx15, lx15, hrx15, hbx15, fx15a, fx15b, fx15c, fx15d, fx15e, fx15g, fx15h, fx15i⟩ := hs32.1.row hq
              have ctx15 := CT_of hrx15 hbx15
              have rwx15 := rl_of hrx15 (by omega)
              subst rwx15
              refine T.callv (as := [.ref (a + 1), J (gl (il σ (a + 4)) x), J (W4 g (gl (il σ (a + 3)) x + 20))]) (r := []) rfl rfl rfl (RwL_lt _ hq).2.2.1 hrx15 rfl (s_R_faddPart (d + 3) q (a + 1) (gl (il σ (a + 4)) x) (W4 g (gl (il σ (a + 3)) x + 20)) s32 hs32.1 hq (kdX_ar _ ha).2.2.1 haq (by omega) (by omega) (by omega) (by omega) (by omega) (by omega)) (fun v38 s38 hqs38 => ?_)
              obtain ⟨z39, rfl, hs38, hzz39, hyz39, pz39_0, pz39_1, pz39_2, pz39_3⟩ := hqs38
              have es38 := hs38
              have hs38 := hs38.sub (w' := [17, 18, 20, 21, 22, 24, 25, 26, 28, 29, 30, q]) (List.forall_mem_cons.mpr ⟨(by simp), (fun _ h => by cases h)⟩)
              have k27 := es38.b.1 _ _ (nm_c (dq_17 _ ha _ hq) nm_0) (fun l z => by cases z) k22
              have k28 := es38.b.1 _ _ (nm_c haq nm_0) (fun l z => by cases z) k23
              have gs38 := hs32.trans hs38
              subst pz39_2
              have ag := pz39_3 g (fun _ => 0) hgqs32 (AGR.none pz33_1)
              rw [pz33_1] at ag
              have zb : ZB (PLC g (fun _ => 0) 0 (gl (il σ (a + 4)) x) (W4 g (gl (il σ (a + 3)) x + 20) : Int).toNat) (rl s38 q) := by rw [pz39_1, pz33_1]; have h9 := ZB_plc (g := g) (o := fun _ => 0) (m := 0) (a := gl (il σ (a + 4)) x) (n := (W4 g (gl (il σ (a + 3)) x + 20) : Int).toNat) (fun _ _ => rfl) (by decide); rw [Int.toNat_of_nonneg (by omega)] at h9; exact h9
              have nbN := nb_of ag zb
              refine T.go 7 (fun n9 => (rfl : _ = exe ξ n9 (d + 5) j_N_unpackEntry 138 [(0, .ref 16), (1, .ref a), (2, J x), (3, .ref q), (4, J (W2 g (gl (il σ (a + 3)) x + 10))), (5, JL (W4 g (gl (il σ (a + 3)) x + 24))), (7, J (gl (il σ (a + 4)) x)), (8, J (W4 g (gl (il σ (a + 3)) x + 20))), (9, J 1)] [.ref q] s38)) ?_
              refine T.calls (as := [.ref q]) (r := []) rfl rfl (by decide) rfl rfl (s_N_fsumOf hX0 (d + 3) (nb s38 q) q s38 hs38.1 hq (fun k => nb_r k) nb_ag ) (fun v39 s39 hqs39 => ?_)
              obtain ⟨z40, rfl, esz40, hzz40, hyz40, pz40_0⟩ := hqs39
              rw [esz40]
              have hRQ : RQ g (gl (il σ (a + 3)) x) (gl (il σ (a + 4)) x) (nb s38 q) := RQ_0 (by omega) (by omega) (by omega) (by omega) (by rw [nbN, show W4 g (gl (il σ (a + 3)) x + 20) = W4 g (gl (il σ (a + 3)) x + 24) by omega])
              have rN : rl s38 q = W4 g (gl (il σ (a + 3)) x + 24) := by omega
              rw [rN] at pz40_0
              refine T.go 2 (fun n9 => (rfl : _ = exe ξ n9 (d + 5) j_N_unpackEntry 143 [(0, .ref 16), (1, .ref a), (2, J x), (3, .ref q), (4, J (W2 g (gl (il σ (a + 3)) x + 10))), (5, JL (W4 g (gl (il σ (a + 3)) x + 24))), (7, J (gl (il σ (a + 4)) x)), (8, J (W4 g (gl (il σ (a + 3)) x + 20))), (9, J 1)] [J x, .ref a, JL z40] s38)) ?_
              have hgqs38 := hg.fr hNA gs38 (kdX_ar _ ha).2.2.1 (nm_c (dq_18 _ ha) (nm_c (dq_19 _ ha) (nm_c (dq_20 _ ha) (nm_c (dq_21 _ ha) (nm_c (dq_22 _ ha) (nm_c (dq_23 _ ha) (nm_c (dq_24 _ ha) (nm_c (dq_25 _ ha) (nm_c (dq_26 _ ha) (nm_c (dq_27 _ ha) (nm_c (dq_28 _ ha) (nm_c haq nm_0))))))))))))
              have rlqs38 := rl_eq (gs38.2.2.1 (a + 1) (List.mem_cons_of_mem _ (kdX_ar _ ha).2.2.1) (nm_c (dq_18 _ ha) (nm_c (dq_19 _ ha) (nm_c (dq_20 _ ha) (nm_c (dq_21 _ ha) (nm_c (dq_22 _ ha) (nm_c (dq_23 _ ha) (nm_c (dq_24 _ ha) (nm_c (dq_25 _ ha) (nm_c (dq_26 _ ha) (nm_c (dq_27 _ ha) (nm_c (dq_28 _ ha) (nm_c haq nm_0)))))))))))))
              have i3qs38 := il_fr hK (kdX_ar _ ha).2.2.2.1 gs38 (nm_c (dq_29 _ ha) (nm_c (dq_30 _ ha) (nm_c (dq_31 _ ha) (nm_c (dq_32 _ ha) (nm_c (dq_33 _ ha) (nm_c (dq_34 _ ha) (nm_c (dq_35 _ ha) (nm_c (dq_36 _ ha) (nm_c (dq_37 _ ha) (nm_c (dq_38 _ ha) (nm_c (dq_39 _ ha) (nm_c (dq_40 _ ha _ hq) nm_0))))))))))))
              have i4qs38 := il_fr hK (kdX_ar _ ha).2.2.2.2 gs38 (nm_c (dq_41 _ ha) (nm_c (dq_42 _ ha) (nm_c (dq_43 _ ha) (nm_c (dq_44 _ ha) (nm_c (dq_45 _ ha) (nm_c (dq_46 _ ha) (nm_c (dq_47 _ ha) (nm_c (dq_48 _ ha) (nm_c (dq_49 _ ha) (nm_c (dq_50 _ ha) (nm_c (dq_51 _ ha) (nm_c (dq_52 _ ha _ hq) nm_0))))))))))))
              have a3qs38 : afld s38 a 3 = afld σ a 3 := by unfold afld; rw [gs38.b.1 a _ (nm_c (dq_53 _ ha) (nm_c (dq_54 _ ha) (nm_c (dq_55 _ ha) (nm_c (dq_56 _ ha) (nm_c (dq_57 _ ha) (nm_c (dq_58 _ ha) (nm_c (dq_59 _ ha) (nm_c (dq_60 _ ha) (nm_c (dq_61 _ ha) (nm_c (dq_62 _ ha) (nm_c (dq_63 _ ha) (nm_c (dq_17 _ ha _ hq) nm_0)))))))))))) (fun l z => by cases z) hax1, hax1]
              have hxqs38 : gl (il s38 (a + 3)) x = gl (il σ (a + 3)) x := by rw [i3qs38]
              refine T.callv (as := [J x]) (r := [JL z40]) rfl rfl rfl (ArL_lt _ ha).2.2.1 k27 rfl (s_A_fsum (d + 2) g a x s38 hs38.1 ha h255 hgqs38 (by omega) (by omega) (by omega) (by omega) (by omega)) (fun v40 s40 hqs40 => ?_)
              obtain ⟨z41, rfl, esz41, hzz41, hyz41, pz41_0⟩ := hqs40
              rw [esz41]
              rw [hxqs38] at pz41_0
              subst pz41_0
              have v16_637 := hV (gl (il σ (a + 3)) x + 16)
              refine T.lcmp rfl (by omega) (by omega) (fun c25 => ?_) (fun c25 => ?_) (fun c25 => ?_)
              · refine T.go 1 (fun n9 => (rfl : _ = exe ξ n9 (d + 5) j_N_unpackEntry 154 [(0, .ref 16), (1, .ref a), (2, J x), (3, .ref q), (4, J (W2 g (gl (il σ (a + 3)) x + 10))), (5, JL (W4 g (gl (il σ (a + 3)) x + 24))), (7, J (gl (il σ (a + 4)) x)), (8, J (W4 g (gl (il σ (a + 3)) x + 20))), (9, J 1)] [] s38)) ?_
                refine T.go 1 (fun n9 => (rfl : _ = exe ξ n9 (d + 5) j_N_unpackEntry 156 [(0, .ref 16), (1, .ref a), (2, J x), (3, .ref q), (4, J (W2 g (gl (il σ (a + 3)) x + 10))), (5, JL (W4 g (gl (il σ (a + 3)) x + 24))), (7, J (gl (il σ (a + 4)) x)), (8, J (W4 g (gl (il σ (a + 3)) x + 20))), (9, J 1)] [J 9] s38)) ?_
                exact T.ireti rfl rfl ⟨_, rfl, gs38, by omega, by omega, (fun h => absurd h (by decide)), (fun _ o => RD_9 hRQ (by omega))⟩
              · refine T.go 1 (fun n9 => (rfl : _ = exe ξ n9 (d + 5) j_N_unpackEntry 150 [(0, .ref 16), (1, .ref a), (2, J x), (3, .ref q), (4, J (W2 g (gl (il σ (a + 3)) x + 10))), (5, JL (W4 g (gl (il σ (a + 3)) x + 24))), (7, J (gl (il σ (a + 4)) x)), (8, J (W4 g (gl (il σ (a + 3)) x + 20))), (9, J 1)] [] s38)) ?_
                refine T.go 2 (fun n9 => (rfl : _ = exe ξ n9 (d + 5) j_N_unpackEntry 156 [(0, .ref 16), (1, .ref a), (2, J x), (3, .ref q), (4, J (W2 g (gl (il σ (a + 3)) x + 10))), (5, JL (W4 g (gl (il σ (a + 3)) x + 24))), (7, J (gl (il σ (a + 4)) x)), (8, J (W4 g (gl (il σ (a + 3)) x + 20))), (9, J 1)] [J 0] s38)) ?_
                exact T.ireti rfl rfl ⟨_, rfl, gs38, by omega, by omega, (fun _ => ⟨RD_is hRQ (by omega), rN⟩), (fun h => absurd rfl h)⟩
              · refine T.go 1 (fun n9 => (rfl : _ = exe ξ n9 (d + 5) j_N_unpackEntry 154 [(0, .ref 16), (1, .ref a), (2, J x), (3, .ref q), (4, J (W2 g (gl (il σ (a + 3)) x + 10))), (5, JL (W4 g (gl (il σ (a + 3)) x + 24))), (7, J (gl (il σ (a + 4)) x)), (8, J (W4 g (gl (il σ (a + 3)) x + 20))), (9, J 1)] [] s38)) ?_
                refine T.go 1 (fun n9 => (rfl : _ = exe ξ n9 (d + 5) j_N_unpackEntry 156 [(0, .ref 16), (1, .ref a), (2, J x), (3, .ref q), (4, J (W2 g (gl (il σ (a + 3)) x + 10))), (5, JL (W4 g (gl (il σ (a + 3)) x + 24))), (7, J (gl (il σ (a + 4)) x)), (8, J (W4 g (gl (il σ (a + 3)) x + 20))), (9, J 1)] [J 9] s38)) ?_
                exact T.ireti rfl rfl ⟨_, rfl, gs38, by omega, by omega, (fun h => absurd h (by decide)), (fun _ o => RD_9 hRQ (by omega))⟩
            · refine T.go 1 (fun n9 => (rfl : _ = exe ξ n9 (d + 5) j_N_unpackEntry 104 [(0, .ref 16), (1, .ref a), (2, J x), (3, .ref q), (4, J (W2 g (gl (il σ (a + 3)) x + 10))), (5, JL (W4 g (gl (il σ (a + 3)) x + 24))), (7, J (gl (il σ (a + 4)) x)), (8, J (W4 g (gl (il σ (a + 3)) x + 20)))] [] s32)) ?_
              refine T.go 6 (fun n9 => (rfl : _ = exe ξ n9 (d + 5) j_N_unpackEntry 136 [(0, .ref 16), (1, .ref a), (2, J x), (3, .ref q), (4, J (W2 g (gl (il σ (a + 3)) x + 10))), (5, JL (W4 g (gl (il σ (a + 3)) x + 24))), (7, J (gl (il σ (a + 4)) x)), (8, J (W4 g (gl (il σ (a + 3)) x + 20))), (9, J 0)] [J 8] s32)) ?_
              exact T.ireti rfl rfl ⟨_, rfl, hs32, by omega, by omega, (fun h => absurd h (by decide)), (fun _ o => RD_80 (by omega) (by omega))⟩
        · refine T.go 1 (fun n9 => (rfl : _ = exe ξ n9 (d + 5) j_N_unpackEntry 49 [(0, .ref 16), (1, .ref a), (2, J x), (3, .ref q), (4, J (W2 g (gl (il σ (a + 3)) x + 10))), (5, JL (W4 g (gl (il σ (a + 3)) x + 24)))] [] σ)) ?_
          refine T.go 1 (fun n9 => (rfl : _ = exe ξ n9 (d + 5) j_N_unpackEntry 51 [(0, .ref 16), (1, .ref a), (2, J x), (3, .ref q), (4, J (W2 g (gl (il σ (a + 3)) x + 10))), (5, JL (W4 g (gl (il σ (a + 3)) x + 24)))] [J 7] σ)) ?_
          exact T.ireti rfl rfl ⟨_, rfl, (Fr.refl hK), by omega, by omega, (fun h => absurd h (by decide)), (fun _ o => RD_7 (by omega))⟩
      · refine T.go 1 (fun n9 => (rfl : _ = exe ξ n9 (d + 5) j_N_unpackEntry 32 [(0, .ref 16), (1, .ref a), (2, J x), (3, .ref q), (4, J (W2 g (gl (il σ (a + 3)) x + 10)))] [J 6] σ)) ?_
        exact T.ireti rfl rfl ⟨_, rfl, (Fr.refl hK), by omega, by omega, (fun h => absurd h (by decide)), (fun _ o => RD_6 (by omega))⟩
