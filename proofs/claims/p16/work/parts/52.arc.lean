/-! class Archive, whatever is asked of it. -/
set_option maxRecDepth 10000 in
set_option maxHeartbeats 4000000 in
theorem s_N_isLetter {ξ : Nat → Option (Nat × List Int32)} (d : Nat) (x : Int) (σ : qH) (hK : K σ)  (rx : -2147483648 ≤ x ∧ x ≤ 2147483647) : T ξ d j_N_isLetter 0 (lv_args 0 [J x]) [] σ (fun v σ' => ∃ z : Int, v = some (J z) ∧ σ' = σ ∧ 0 ≤ z ∧ z ≤ 1) := by
  refine T.go 2 (fun n9 => (rfl : _ = exe ξ n9 d j_N_isLetter 3 [(0, J x)] [J 33, J x] σ)) ?_
  refine T.icmp_lt rfl rfl (by omega) (by omega) (fun c1 => ?_) (fun c1 => ?_)
  · refine T.go 1 (fun n9 => (rfl : _ = exe ξ n9 d j_N_isLetter 17 [(0, J x)] [J 0] σ)) ?_
    exact T.iretz rfl rfl (by omega) ⟨_, rfl, rfl, by omega, by omega⟩
  · refine T.go 2 (fun n9 => (rfl : _ = exe ξ n9 d j_N_isLetter 9 [(0, J x)] [J 126, J x] σ)) ?_
    refine T.icmp_gt rfl rfl (by omega) (by omega) (fun c2 => ?_) (fun c2 => ?_)
    · refine T.go 1 (fun n9 => (rfl : _ = exe ξ n9 d j_N_isLetter 17 [(0, J x)] [J 0] σ)) ?_
      exact T.iretz rfl rfl (by omega) ⟨_, rfl, rfl, by omega, by omega⟩
    · refine T.go 2 (fun n9 => (rfl : _ = exe ξ n9 d j_N_isLetter 17 [(0, J x)] [J 1] σ)) ?_
      exact T.iretz rfl rfl (by omega) ⟨_, rfl, rfl, by omega, by omega⟩

set_option maxRecDepth 10000 in
set_option maxHeartbeats 4000000 in
theorem s_A_lastEndRecord {ξ : Nat → Option (Nat × List Int32)} (d : Nat) (a : Nat) (σ : qH) (hK : K σ) (ha : a ∈ ArL)  : T ξ (d + 2) j_A_lastEndRecord 0 (lv_args 0 [.ref a]) [] σ (fun v σ' => ∃ z : Int, v = some (J z) ∧ σ' = σ ∧ -1 ≤ z ∧ z ≤ 7978) := by
  obtain ⟨ex1, erx1, dix1, bax1, fpx1, hax1, fx1a, fx1b, fx1c, fx1d, fx1e, fx1f, fx1g, fx1h, fx1i, fx1j⟩ := hK.arc ha
  obtain ⟨mx2, nx2, bx2, lx2, hrx2, hbx2, fx2a, fx2b, fx2c, fx2d, fx2e, fx2g, fx2h, fx2i⟩ := hK.row (kdX_ar _ ha).2.2.1
  have loop11 : ∀ (f : Nat) (e : Int), e ≤ nx2 - 22 → -22 ≤ e → (e + 1).toNat < f → T ξ (d + 2) j_A_lastEndRecord 11 [(0, .ref a), (1, J e)] [] σ (fun v σ' => ∃ z : Int, v = some (J z) ∧ σ' = σ ∧ -1 ≤ z ∧ z ≤ 7978) := by
    intro f
    induction f with
    | zero => intro e i0 i1 hm; omega
    | succ f ih =>
      intro e i0 i1 hm
      refine T.go 1 (fun n9 => (rfl : _ = exe ξ n9 (d + 2) j_A_lastEndRecord 12 [(0, .ref a), (1, J e)] [J e] σ)) ?_
      refine T.if_lt rfl rfl (by omega) (fun c1 => ?_) (fun c1 => ?_)
      · refine T.go 1 (fun n9 => (rfl : _ = exe ξ n9 (d + 2) j_A_lastEndRecord 64 [(0, .ref a), (1, J e)] [J (-1)] σ)) ?_
        exact T.ireti rfl rfl ⟨_, rfl, rfl, by omega, by omega⟩
      · refine T.go 1 (fun n9 => (rfl : _ = exe ξ n9 (d + 2) j_A_lastEndRecord 16 [(0, .ref a), (1, J e)] [.ref a] σ)) ?_
        refine T.get rfl rfl rfl hax1 rfl ?_
        refine T.go 3 (fun n9 => (rfl : _ = exe ξ n9 (d + 2) j_A_lastEndRecord 23 [(0, .ref a), (1, J e)] [J 6, J 5, J e, .ref (a + 1)] σ)) ?_
        refine T.callv (as := [J e, J 5, J 6]) (r := []) rfl rfl rfl (RwL_lt _ (kdX_ar _ ha).2.2.1).2.2.1 hrx2 rfl (s_R_hasMark d (a + 1) e 5 6 σ hK (kdX_ar _ ha).2.2.1  (by omega) (by omega) (by omega)) (fun v1 s1 hqs1 => ?_)
        obtain ⟨z1, rfl, esz1, hzz1, hyz1⟩ := hqs1
        rw [esz1]
        refine T.if_eq rfl rfl (by omega) (fun c2 => ?_) (fun c2 => ?_)
        · refine T.iinc (lv' := [(0, .ref a), (1, J (e + (-1)))]) rfl rfl rfl rfl ?_
          refine T.go 1 (fun n9 => (rfl : _ = exe ξ n9 (d + 2) j_A_lastEndRecord 11 [(0, .ref a), (1, J (e + (-1)))] [] σ)) ?_
          exact ih  (e + (-1)) (by omega) (by omega) (by omega)
        · refine T.go 1 (fun n9 => (rfl : _ = exe ξ n9 (d + 2) j_A_lastEndRecord 30 [(0, .ref a), (1, J e)] [.ref a] σ)) ?_
          refine T.get rfl rfl rfl hax1 rfl ?_
          refine T.go 2 (fun n9 => (rfl : _ = exe ξ n9 (d + 2) j_A_lastEndRecord 36 [(0, .ref a), (1, J e)] [J 20, J e, .ref (a + 1)] σ)) ?_
          refine T.iadd rfl ?_
          refine T.callv (as := [J (e + 20)]) (r := []) rfl rfl rfl (RwL_lt _ (kdX_ar _ ha).2.2.1).2.2.1 hrx2 rfl (s_R_two (d + 1) (a + 1) (e + 20) σ hK (kdX_ar _ ha).2.2.1  (by omega)) (fun v2 s2 hqs2 => ?_)
          obtain ⟨z2, rfl, esz2, hzz2, hyz2⟩ := hqs2
          rw [esz2]
          refine T.go 1 (fun n9 => (rfl : _ = exe ξ n9 (d + 2) j_A_lastEndRecord 41 [(0, .ref a), (1, J e)] [.ref a, J z2] σ)) ?_
          refine T.get rfl rfl rfl hax1 rfl ?_
          refine T.get rfl rfl rfl hrx2 rfl ?_
          refine T.go 1 (fun n9 => (rfl : _ = exe ξ n9 (d + 2) j_A_lastEndRecord 48 [(0, .ref a), (1, J e)] [J e, J nx2, J z2] σ)) ?_
          refine T.isub rfl ?_
          refine T.go 1 (fun n9 => (rfl : _ = exe ξ n9 (d + 2) j_A_lastEndRecord 51 [(0, .ref a), (1, J e)] [J 22, J (nx2 - e), J z2] σ)) ?_
          refine T.isub rfl ?_
          refine T.icmp_ne rfl rfl (by omega) (by omega) (fun c3 => ?_) (fun c3 => ?_)
          · refine T.iinc (lv' := [(0, .ref a), (1, J (e + (-1)))]) rfl rfl rfl rfl ?_
            refine T.go 1 (fun n9 => (rfl : _ = exe ξ n9 (d + 2) j_A_lastEndRecord 11 [(0, .ref a), (1, J (e + (-1)))] [] σ)) ?_
            exact ih  (e + (-1)) (by omega) (by omega) (by omega)
          · refine T.go 1 (fun n9 => (rfl : _ = exe ξ n9 (d + 2) j_A_lastEndRecord 56 [(0, .ref a), (1, J e)] [J e] σ)) ?_
            exact T.ireti rfl rfl ⟨_, rfl, rfl, by omega, by omega⟩
  refine T.go 1 (fun n9 => (rfl : _ = exe ξ n9 (d + 2) j_A_lastEndRecord 1 [(0, .ref a)] [.ref a] σ)) ?_
  refine T.get rfl rfl rfl hax1 rfl ?_
  refine T.get rfl rfl rfl hrx2 rfl ?_
  refine T.go 1 (fun n9 => (rfl : _ = exe ξ n9 (d + 2) j_A_lastEndRecord 9 [(0, .ref a)] [J 22, J nx2] σ)) ?_
  refine T.isub rfl ?_
  refine T.go 1 (fun n9 => (rfl : _ = exe ξ n9 (d + 2) j_A_lastEndRecord 11 [(0, .ref a), (1, J (nx2 - 22))] [] σ)) ?_
  exact loop11 _ (nx2 - 22) (by omega) (by omega) (Nat.lt_succ_self _)

set_option maxRecDepth 10000 in
set_option maxHeartbeats 4000000 in
theorem s_A_placeDirectory {ξ : Nat → Option (Nat × List Int32)} (d : Nat) (a : Nat) (σ : qH) (hK : K σ) (ha : a ∈ ArL)  : T ξ (d + 2) j_A_placeDirectory 0 (lv_args 0 [.ref a]) [] σ (fun v σ' => ∃ z : Int, v = some (J z) ∧ Fr [a] σ σ' ∧ 0 ≤ z ∧ z ≤ 1) := by
  have la := (ArL_lt a ha).2.1
  refine T.go 1 (fun n9 => (rfl : _ = exe ξ n9 (d + 2) j_A_placeDirectory 1 [(0, .ref a)] [.ref a] σ)) ?_
  obtain ⟨ex1, erx1, dix1, bax1, fpx1, hax1, fx1a, fx1b, fx1c, fx1d, fx1e, fx1f, fx1g, fx1h, fx1i, fx1j⟩ := hK.arc ha
  refine T.get rfl rfl rfl hax1 rfl ?_
  refine T.go 1 (fun n9 => (rfl : _ = exe ξ n9 (d + 2) j_A_placeDirectory 5 [(0, .ref a)] [.ref a, .ref (a + 1)] σ)) ?_
  refine T.get rfl rfl rfl hax1 rfl ?_
  refine T.go 1 (fun n9 => (rfl : _ = exe ξ n9 (d + 2) j_A_placeDirectory 10 [(0, .ref a)] [J 8, J erx1, .ref (a + 1)] σ)) ?_
  refine T.iadd rfl ?_
  obtain ⟨mx2, nx2, bx2, lx2, hrx2, hbx2, fx2a, fx2b, fx2c, fx2d, fx2e, fx2g, fx2h, fx2i⟩ := hK.row (kdX_ar _ ha).2.2.1
  refine T.callv (as := [J (erx1 + 8)]) (r := []) rfl rfl rfl (RwL_lt _ (kdX_ar _ ha).2.2.1).2.2.1 hrx2 rfl (s_R_two (d + 1) (a + 1) (erx1 + 8) σ hK (kdX_ar _ ha).2.2.1  (by omega)) (fun v1 s1 hqs1 => ?_)
  obtain ⟨z1, rfl, esz1, hzz1, hyz1⟩ := hqs1
  rw [esz1]
  refine T.go 2 (fun n9 => (rfl : _ = exe ξ n9 (d + 2) j_A_placeDirectory 16 [(0, .ref a), (1, J z1)] [.ref a] σ)) ?_
  refine T.get rfl rfl rfl hax1 rfl ?_
  refine T.go 1 (fun n9 => (rfl : _ = exe ξ n9 (d + 2) j_A_placeDirectory 20 [(0, .ref a), (1, J z1)] [.ref a, .ref (a + 1)] σ)) ?_
  refine T.get rfl rfl rfl hax1 rfl ?_
  refine T.go 1 (fun n9 => (rfl : _ = exe ξ n9 (d + 2) j_A_placeDirectory 24 [(0, .ref a), (1, J z1)] [J 4, J erx1, .ref (a + 1)] σ)) ?_
  refine T.iadd rfl ?_
  refine T.callv (as := [J (erx1 + 4)]) (r := []) rfl rfl rfl (RwL_lt _ (kdX_ar _ ha).2.2.1).2.2.1 hrx2 rfl (s_R_two (d + 1) (a + 1) (erx1 + 4) σ hK (kdX_ar _ ha).2.2.1  (by omega)) (fun v2 s2 hqs2 => ?_)
  obtain ⟨z2, rfl, esz2, hzz2, hyz2⟩ := hqs2
  rw [esz2]
  refine T.if_ne rfl rfl (by omega) (fun c1 => ?_) (fun c1 => ?_)
  · refine T.go 1 (fun n9 => (rfl : _ = exe ξ n9 (d + 2) j_A_placeDirectory 73 [(0, .ref a), (1, J z1)] [J 0] σ)) ?_
    exact T.iretz rfl rfl (by omega) ⟨_, rfl, (Fr.refl hK), by omega, by omega⟩
  · refine T.go 1 (fun n9 => (rfl : _ = exe ξ n9 (d + 2) j_A_placeDirectory 32 [(0, .ref a), (1, J z1)] [.ref a] σ)) ?_
    refine T.get rfl rfl rfl hax1 rfl ?_
    refine T.go 1 (fun n9 => (rfl : _ = exe ξ n9 (d + 2) j_A_placeDirectory 36 [(0, .ref a), (1, J z1)] [.ref a, .ref (a + 1)] σ)) ?_
    refine T.get rfl rfl rfl hax1 rfl ?_
    refine T.go 1 (fun n9 => (rfl : _ = exe ξ n9 (d + 2) j_A_placeDirectory 41 [(0, .ref a), (1, J z1)] [J 6, J erx1, .ref (a + 1)] σ)) ?_
    refine T.iadd rfl ?_
    refine T.callv (as := [J (erx1 + 6)]) (r := []) rfl rfl rfl (RwL_lt _ (kdX_ar _ ha).2.2.1).2.2.1 hrx2 rfl (s_R_two (d + 1) (a + 1) (erx1 + 6) σ hK (kdX_ar _ ha).2.2.1  (by omega)) (fun v3 s3 hqs3 => ?_)
    obtain ⟨z3, rfl, esz3, hzz3, hyz3⟩ := hqs3
    rw [esz3]
    refine T.if_ne rfl rfl (by omega) (fun c2 => ?_) (fun c2 => ?_)
    · refine T.go 1 (fun n9 => (rfl : _ = exe ξ n9 (d + 2) j_A_placeDirectory 73 [(0, .ref a), (1, J z1)] [J 0] σ)) ?_
      exact T.iretz rfl rfl (by omega) ⟨_, rfl, (Fr.refl hK), by omega, by omega⟩
    · refine T.go 2 (fun n9 => (rfl : _ = exe ξ n9 (d + 2) j_A_placeDirectory 50 [(0, .ref a), (1, J z1)] [.ref a, J z1] σ)) ?_
      refine T.get rfl rfl rfl hax1 rfl ?_
      refine T.go 1 (fun n9 => (rfl : _ = exe ξ n9 (d + 2) j_A_placeDirectory 54 [(0, .ref a), (1, J z1)] [.ref a, .ref (a + 1), J z1] σ)) ?_
      refine T.get rfl rfl rfl hax1 rfl ?_
      refine T.go 1 (fun n9 => (rfl : _ = exe ξ n9 (d + 2) j_A_placeDirectory 59 [(0, .ref a), (1, J z1)] [J 10, J erx1, .ref (a + 1), J z1] σ)) ?_
      refine T.iadd rfl ?_
      refine T.callv (as := [J (erx1 + 10)]) (r := [J z1]) rfl rfl rfl (RwL_lt _ (kdX_ar _ ha).2.2.1).2.2.1 hrx2 rfl (s_R_two (d + 1) (a + 1) (erx1 + 10) σ hK (kdX_ar _ ha).2.2.1  (by omega)) (fun v4 s4 hqs4 => ?_)
      obtain ⟨z4, rfl, esz4, hzz4, hyz4⟩ := hqs4
      rw [esz4]
      refine T.icmp_ne rfl rfl (by omega) (by omega) (fun c3 => ?_) (fun c3 => ?_)
      · refine T.go 1 (fun n9 => (rfl : _ = exe ξ n9 (d + 2) j_A_placeDirectory 73 [(0, .ref a), (1, J z1)] [J 0] σ)) ?_
        exact T.iretz rfl rfl (by omega) ⟨_, rfl, (Fr.refl hK), by omega, by omega⟩
      · refine T.go 2 (fun n9 => (rfl : _ = exe ξ n9 (d + 2) j_A_placeDirectory 69 [(0, .ref a), (1, J z1)] [J 64, J z1] σ)) ?_
        refine T.icmp_le rfl rfl (by omega) (by omega) (fun c4 => ?_) (fun c4 => ?_)
        · refine T.go 1 (fun n9 => (rfl : _ = exe ξ n9 (d + 2) j_A_placeDirectory 75 [(0, .ref a), (1, J z1)] [.ref a] σ)) ?_
          refine T.get rfl rfl rfl hax1 rfl ?_
          refine T.i2l rfl (by omega) ?_
          refine T.go 1 (fun n9 => (rfl : _ = exe ξ n9 (d + 2) j_A_placeDirectory 80 [(0, .ref a), (1, J z1)] [.ref a, JL erx1] σ)) ?_
          refine T.get rfl rfl rfl hax1 rfl ?_
          refine T.go 1 (fun n9 => (rfl : _ = exe ξ n9 (d + 2) j_A_placeDirectory 84 [(0, .ref a), (1, J z1)] [.ref a, .ref (a + 1), JL erx1] σ)) ?_
          refine T.get rfl rfl rfl hax1 rfl ?_
          refine T.go 1 (fun n9 => (rfl : _ = exe ξ n9 (d + 2) j_A_placeDirectory 89 [(0, .ref a), (1, J z1)] [J 12, J erx1, .ref (a + 1), JL erx1] σ)) ?_
          refine T.iadd rfl ?_
          refine T.callv (as := [J (erx1 + 12)]) (r := [JL erx1]) rfl rfl rfl (RwL_lt _ (kdX_ar _ ha).2.2.1).2.2.1 hrx2 rfl (s_R_four d (a + 1) (erx1 + 12) σ hK (kdX_ar _ ha).2.2.1  (by omega)) (fun v5 s5 hqs5 => ?_)
          obtain ⟨z5, rfl, esz5, hzz5, hyz5⟩ := hqs5
          rw [esz5]
          refine T.lsub rfl ?_
          refine T.go 3 (fun n9 => (rfl : _ = exe ξ n9 (d + 2) j_A_placeDirectory 97 [(0, .ref a), (1, J z1), (2, JL (erx1 - z5))] [.ref a, JL (erx1 - z5)] σ)) ?_
          refine T.get rfl rfl rfl hax1 rfl ?_
          refine T.go 1 (fun n9 => (rfl : _ = exe ξ n9 (d + 2) j_A_placeDirectory 101 [(0, .ref a), (1, J z1), (2, JL (erx1 - z5))] [.ref a, .ref (a + 1), JL (erx1 - z5)] σ)) ?_
          refine T.get rfl rfl rfl hax1 rfl ?_
          refine T.go 1 (fun n9 => (rfl : _ = exe ξ n9 (d + 2) j_A_placeDirectory 106 [(0, .ref a), (1, J z1), (2, JL (erx1 - z5))] [J 16, J erx1, .ref (a + 1), JL (erx1 - z5)] σ)) ?_
          refine T.iadd rfl ?_
          refine T.callv (as := [J (erx1 + 16)]) (r := [JL (erx1 - z5)]) rfl rfl rfl (RwL_lt _ (kdX_ar _ ha).2.2.1).2.2.1 hrx2 rfl (s_R_four d (a + 1) (erx1 + 16) σ hK (kdX_ar _ ha).2.2.1  (by omega)) (fun v6 s6 hqs6 => ?_)
          obtain ⟨z6, rfl, esz6, hzz6, hyz6⟩ := hqs6
          rw [esz6]
          refine T.lsub rfl ?_
          refine T.go 3 (fun n9 => (rfl : _ = exe ξ n9 (d + 2) j_A_placeDirectory 115 [(0, .ref a), (1, J z1), (2, JL (erx1 - z5)), (4, JL ((erx1 - z5) - z6))] [JL 0, JL (erx1 - z5)] σ)) ?_
          refine T.lcmp rfl (by omega) (by omega) (fun c5 => ?_) (fun c5 => ?_) (fun c5 => ?_)
          · refine T.go 1 (fun n9 => (rfl : _ = exe ξ n9 (d + 2) j_A_placeDirectory 126 [(0, .ref a), (1, J z1), (2, JL (erx1 - z5)), (4, JL ((erx1 - z5) - z6))] [] σ)) ?_
            refine T.go 1 (fun n9 => (rfl : _ = exe ξ n9 (d + 2) j_A_placeDirectory 127 [(0, .ref a), (1, J z1), (2, JL (erx1 - z5)), (4, JL ((erx1 - z5) - z6))] [J 0] σ)) ?_
            exact T.iretz rfl rfl (by omega) ⟨_, rfl, (Fr.refl hK), by omega, by omega⟩
          · refine T.go 1 (fun n9 => (rfl : _ = exe ξ n9 (d + 2) j_A_placeDirectory 119 [(0, .ref a), (1, J z1), (2, JL (erx1 - z5)), (4, JL ((erx1 - z5) - z6))] [] σ)) ?_
            refine T.go 2 (fun n9 => (rfl : _ = exe ξ n9 (d + 2) j_A_placeDirectory 122 [(0, .ref a), (1, J z1), (2, JL (erx1 - z5)), (4, JL ((erx1 - z5) - z6))] [JL 0, JL ((erx1 - z5) - z6)] σ)) ?_
            refine T.lcmp rfl (by omega) (by omega) (fun c6 => ?_) (fun c6 => ?_) (fun c6 => ?_)
            · refine T.go 1 (fun n9 => (rfl : _ = exe ξ n9 (d + 2) j_A_placeDirectory 126 [(0, .ref a), (1, J z1), (2, JL (erx1 - z5)), (4, JL ((erx1 - z5) - z6))] [] σ)) ?_
              refine T.go 1 (fun n9 => (rfl : _ = exe ξ n9 (d + 2) j_A_placeDirectory 127 [(0, .ref a), (1, J z1), (2, JL (erx1 - z5)), (4, JL ((erx1 - z5) - z6))] [J 0] σ)) ?_
              exact T.iretz rfl rfl (by omega) ⟨_, rfl, (Fr.refl hK), by omega, by omega⟩
            · refine T.go 1 (fun n9 => (rfl : _ = exe ξ n9 (d + 2) j_A_placeDirectory 128 [(0, .ref a), (1, J z1), (2, JL (erx1 - z5)), (4, JL ((erx1 - z5) - z6))] [] σ)) ?_
              refine T.go 2 (fun n9 => (rfl : _ = exe ξ n9 (d + 2) j_A_placeDirectory 130 [(0, .ref a), (1, J z1), (2, JL (erx1 - z5)), (4, JL ((erx1 - z5) - z6))] [JL (erx1 - z5), .ref a] σ)) ?_
              refine T.l2i rfl ?_
              refine T.putF (w := [a]) rfl rfl hax1 rfl rfl rfl (fs' := [.ref (a + 1), .ref (a + 3), .ref (a + 4), J ex1, J erx1, J (erx1 - z5), J bax1, J fpx1]) rfl (Fr.other hK hax1 rfl ⟨_, _, _, _, _, rfl, by omega⟩ (ArL_nR _ ha) (Or.inl (by have := ArL_lt _ ha; omega)) (fun _ z => by cases z) (by simp)) (fun s7 hs7 hcs7 hos7 => ?_)
              have k1 := hos7 (by omega) hrx2
              have k2 := hos7 (q_dif hbx2 hax1 (fun z => by cases z)) hbx2
              refine T.go 2 (fun n9 => (rfl : _ = exe ξ n9 (d + 2) j_A_placeDirectory 137 [(0, .ref a), (1, J z1), (2, JL (erx1 - z5)), (4, JL ((erx1 - z5) - z6))] [JL ((erx1 - z5) - z6), .ref a] s7)) ?_
              refine T.l2i rfl ?_
              refine T.putF (w := [a]) rfl rfl hcs7 rfl rfl rfl (fs' := [.ref (a + 1), .ref (a + 3), .ref (a + 4), J ex1, J erx1, J (erx1 - z5), J ((erx1 - z5) - z6), J fpx1]) rfl (Fr.other hs7.1 hcs7 rfl ⟨_, _, _, _, _, rfl, by omega⟩ (ArL_nR _ ha) (Or.inl (by have := ArL_lt _ ha; omega)) (fun _ z => by cases z) (by simp)) (fun s8 hs8 hcs8 hos8 => ?_)
              have gs8 := hs7.trans hs8
              have k3 := hos8 (by omega) k1
              have k4 := hos8 (q_dif k2 hcs7 (fun z => by cases z)) k2
              refine T.go 1 (fun n9 => (rfl : _ = exe ξ n9 (d + 2) j_A_placeDirectory 142 [(0, .ref a), (1, J z1), (2, JL (erx1 - z5)), (4, JL ((erx1 - z5) - z6))] [J 1] s8)) ?_
              exact T.iretz rfl rfl (by omega) ⟨_, rfl, gs8, by omega, by omega⟩
            · refine T.go 1 (fun n9 => (rfl : _ = exe ξ n9 (d + 2) j_A_placeDirectory 128 [(0, .ref a), (1, J z1), (2, JL (erx1 - z5)), (4, JL ((erx1 - z5) - z6))] [] σ)) ?_
              refine T.go 2 (fun n9 => (rfl : _ = exe ξ n9 (d + 2) j_A_placeDirectory 130 [(0, .ref a), (1, J z1), (2, JL (erx1 - z5)), (4, JL ((erx1 - z5) - z6))] [JL (erx1 - z5), .ref a] σ)) ?_
              refine T.l2i rfl ?_
              refine T.putF (w := [a]) rfl rfl hax1 rfl rfl rfl (fs' := [.ref (a + 1), .ref (a + 3), .ref (a + 4), J ex1, J erx1, J (erx1 - z5), J bax1, J fpx1]) rfl (Fr.other hK hax1 rfl ⟨_, _, _, _, _, rfl, by omega⟩ (ArL_nR _ ha) (Or.inl (by have := ArL_lt _ ha; omega)) (fun _ z => by cases z) (by simp)) (fun s9 hs9 hcs9 hos9 => ?_)
              have k5 := hos9 (by omega) hrx2
              have k6 := hos9 (q_dif hbx2 hax1 (fun z => by cases z)) hbx2
              refine T.go 2 (fun n9 => (rfl : _ = exe ξ n9 (d + 2) j_A_placeDirectory 137 [(0, .ref a), (1, J z1), (2, JL (erx1 - z5)), (4, JL ((erx1 - z5) - z6))] [JL ((erx1 - z5) - z6), .ref a] s9)) ?_
              refine T.l2i rfl ?_
              refine T.putF (w := [a]) rfl rfl hcs9 rfl rfl rfl (fs' := [.ref (a + 1), .ref (a + 3), .ref (a + 4), J ex1, J erx1, J (erx1 - z5), J ((erx1 - z5) - z6), J fpx1]) rfl (Fr.other hs9.1 hcs9 rfl ⟨_, _, _, _, _, rfl, by omega⟩ (ArL_nR _ ha) (Or.inl (by have := ArL_lt _ ha; omega)) (fun _ z => by cases z) (by simp)) (fun s10 hs10 hcs10 hos10 => ?_)
              have gs10 := hs9.trans hs10
              have k7 := hos10 (by omega) k5
              have k8 := hos10 (q_dif k6 hcs9 (fun z => by cases z)) k6
              refine T.go 1 (fun n9 => (rfl : _ = exe ξ n9 (d + 2) j_A_placeDirectory 142 [(0, .ref a), (1, J z1), (2, JL (erx1 - z5)), (4, JL ((erx1 - z5) - z6))] [J 1] s10)) ?_
              exact T.iretz rfl rfl (by omega) ⟨_, rfl, gs10, by omega, by omega⟩
          · refine T.go 1 (fun n9 => (rfl : _ = exe ξ n9 (d + 2) j_A_placeDirectory 119 [(0, .ref a), (1, J z1), (2, JL (erx1 - z5)), (4, JL ((erx1 - z5) - z6))] [] σ)) ?_
            refine T.go 2 (fun n9 => (rfl : _ = exe ξ n9 (d + 2) j_A_placeDirectory 122 [(0, .ref a), (1, J z1), (2, JL (erx1 - z5)), (4, JL ((erx1 - z5) - z6))] [JL 0, JL ((erx1 - z5) - z6)] σ)) ?_
            refine T.lcmp rfl (by omega) (by omega) (fun c7 => ?_) (fun c7 => ?_) (fun c7 => ?_)
            · refine T.go 1 (fun n9 => (rfl : _ = exe ξ n9 (d + 2) j_A_placeDirectory 126 [(0, .ref a), (1, J z1), (2, JL (erx1 - z5)), (4, JL ((erx1 - z5) - z6))] [] σ)) ?_
              refine T.go 1 (fun n9 => (rfl : _ = exe ξ n9 (d + 2) j_A_placeDirectory 127 [(0, .ref a), (1, J z1), (2, JL (erx1 - z5)), (4, JL ((erx1 - z5) - z6))] [J 0] σ)) ?_
              exact T.iretz rfl rfl (by omega) ⟨_, rfl, (Fr.refl hK), by omega, by omega⟩
            · refine T.go 1 (fun n9 => (rfl : _ = exe ξ n9 (d + 2) j_A_placeDirectory 128 [(0, .ref a), (1, J z1), (2, JL (erx1 - z5)), (4, JL ((erx1 - z5) - z6))] [] σ)) ?_
              refine T.go 2 (fun n9 => (rfl : _ = exe ξ n9 (d + 2) j_A_placeDirectory 130 [(0, .ref a), (1, J z1), (2, JL (erx1 - z5)), (4, JL ((erx1 - z5) - z6))] [JL (erx1 - z5), .ref a] σ)) ?_
              refine T.l2i rfl ?_
              refine T.putF (w := [a]) rfl rfl hax1 rfl rfl rfl (fs' := [.ref (a + 1), .ref (a + 3), .ref (a + 4), J ex1, J erx1, J (erx1 - z5), J bax1, J fpx1]) rfl (Fr.other hK hax1 rfl ⟨_, _, _, _, _, rfl, by omega⟩ (ArL_nR _ ha) (Or.inl (by have := ArL_lt _ ha; omega)) (fun _ z => by cases z) (by simp)) (fun s11 hs11 hcs11 hos11 => ?_)
              have k9 := hos11 (by omega) hrx2
              have k10 := hos11 (q_dif hbx2 hax1 (fun z => by cases z)) hbx2
              refine T.go 2 (fun n9 => (rfl : _ = exe ξ n9 (d + 2) j_A_placeDirectory 137 [(0, .ref a), (1, J z1), (2, JL (erx1 - z5)), (4, JL ((erx1 - z5) - z6))] [JL ((erx1 - z5) - z6), .ref a] s11)) ?_
              refine T.l2i rfl ?_
              refine T.putF (w := [a]) rfl rfl hcs11 rfl rfl rfl (fs' := [.ref (a + 1), .ref (a + 3), .ref (a + 4), J ex1, J erx1, J (erx1 - z5), J ((erx1 - z5) - z6), J fpx1]) rfl (Fr.other hs11.1 hcs11 rfl ⟨_, _, _, _, _, rfl, by omega⟩ (ArL_nR _ ha) (Or.inl (by have := ArL_lt _ ha; omega)) (fun _ z => by cases z) (by simp)) (fun s12 hs12 hcs12 hos12 => ?_)
              have gs12 := hs11.trans hs12
              have k11 := hos12 (by omega) k9
              have k12 := hos12 (q_dif k10 hcs11 (fun z => by cases z)) k10
              refine T.go 1 (fun n9 => (rfl : _ = exe ξ n9 (d + 2) j_A_placeDirectory 142 [(0, .ref a), (1, J z1), (2, JL (erx1 - z5)), (4, JL ((erx1 - z5) - z6))] [J 1] s12)) ?_
              exact T.iretz rfl rfl (by omega) ⟨_, rfl, gs12, by omega, by omega⟩
            · refine T.go 1 (fun n9 => (rfl : _ = exe ξ n9 (d + 2) j_A_placeDirectory 128 [(0, .ref a), (1, J z1), (2, JL (erx1 - z5)), (4, JL ((erx1 - z5) - z6))] [] σ)) ?_
              refine T.go 2 (fun n9 => (rfl : _ = exe ξ n9 (d + 2) j_A_placeDirectory 130 [(0, .ref a), (1, J z1), (2, JL (erx1 - z5)), (4, JL ((erx1 - z5) - z6))] [JL (erx1 - z5), .ref a] σ)) ?_
              refine T.l2i rfl ?_
              refine T.putF (w := [a]) rfl rfl hax1 rfl rfl rfl (fs' := [.ref (a + 1), .ref (a + 3), .ref (a + 4), J ex1, J erx1, J (erx1 - z5), J bax1, J fpx1]) rfl (Fr.other hK hax1 rfl ⟨_, _, _, _, _, rfl, by omega⟩ (ArL_nR _ ha) (Or.inl (by have := ArL_lt _ ha; omega)) (fun _ z => by cases z) (by simp)) (fun s13 hs13 hcs13 hos13 => ?_)
              have k13 := hos13 (by omega) hrx2
              have k14 := hos13 (q_dif hbx2 hax1 (fun z => by cases z)) hbx2
              refine T.go 2 (fun n9 => (rfl : _ = exe ξ n9 (d + 2) j_A_placeDirectory 137 [(0, .ref a), (1, J z1), (2, JL (erx1 - z5)), (4, JL ((erx1 - z5) - z6))] [JL ((erx1 - z5) - z6), .ref a] s13)) ?_
              refine T.l2i rfl ?_
              refine T.putF (w := [a]) rfl rfl hcs13 rfl rfl rfl (fs' := [.ref (a + 1), .ref (a + 3), .ref (a + 4), J ex1, J erx1, J (erx1 - z5), J ((erx1 - z5) - z6), J fpx1]) rfl (Fr.other hs13.1 hcs13 rfl ⟨_, _, _, _, _, rfl, by omega⟩ (ArL_nR _ ha) (Or.inl (by have := ArL_lt _ ha; omega)) (fun _ z => by cases z) (by simp)) (fun s14 hs14 hcs14 hos14 => ?_)
              have gs14 := hs13.trans hs14
              have k15 := hos14 (by omega) k13
              have k16 := hos14 (q_dif k14 hcs13 (fun z => by cases z)) k14
              refine T.go 1 (fun n9 => (rfl : _ = exe ξ n9 (d + 2) j_A_placeDirectory 142 [(0, .ref a), (1, J z1), (2, JL (erx1 - z5)), (4, JL ((erx1 - z5) - z6))] [J 1] s14)) ?_
              exact T.iretz rfl rfl (by omega) ⟨_, rfl, gs14, by omega, by omega⟩
        · refine T.go 1 (fun n9 => (rfl : _ = exe ξ n9 (d + 2) j_A_placeDirectory 73 [(0, .ref a), (1, J z1)] [J 0] σ)) ?_
          exact T.iretz rfl rfl (by omega) ⟨_, rfl, (Fr.refl hK), by omega, by omega⟩

set_option maxRecDepth 10000 in
set_option maxHeartbeats 4000000 in
theorem s_A_headerLength {ξ : Nat → Option (Nat × List Int32)} (d : Nat) (a : Nat) (x : Int) (σ : qH) (hK : K σ) (ha : a ∈ ArL) (rx : -2147483648 ≤ x ∧ x ≤ 2147483647) (pre0 : x ≤ 2147400000) : T ξ (d + 1) j_A_headerLength 0 (lv_args 0 [.ref a, J x]) [] σ (fun v σ' => ∃ z : Int, v = some (J z) ∧ σ' = σ ∧ 43 ≤ z ∧ z ≤ 196651) := by
  refine T.go 2 (fun n9 => (rfl : _ = exe ξ n9 (d + 1) j_A_headerLength 3 [(0, .ref a), (1, J x)] [.ref a, J 46] σ)) ?_
  obtain ⟨ex1, erx1, dix1, bax1, fpx1, hax1, fx1a, fx1b, fx1c, fx1d, fx1e, fx1f, fx1g, fx1h, fx1i, fx1j⟩ := hK.arc ha
  refine T.get rfl rfl rfl hax1 rfl ?_
  refine T.go 2 (fun n9 => (rfl : _ = exe ξ n9 (d + 1) j_A_headerLength 9 [(0, .ref a), (1, J x)] [J 28, J x, .ref (a + 1), J 46] σ)) ?_
  refine T.iadd rfl ?_
  obtain ⟨mx2, nx2, bx2, lx2, hrx2, hbx2, fx2a, fx2b, fx2c, fx2d, fx2e, fx2g, fx2h, fx2i⟩ := hK.row (kdX_ar _ ha).2.2.1
  refine T.callv (as := [J (x + 28)]) (r := [J 46]) rfl rfl rfl (RwL_lt _ (kdX_ar _ ha).2.2.1).2.2.1 hrx2 rfl (s_R_two d (a + 1) (x + 28) σ hK (kdX_ar _ ha).2.2.1  (by omega)) (fun v1 s1 hqs1 => ?_)
  obtain ⟨z1, rfl, esz1, hzz1, hyz1⟩ := hqs1
  rw [esz1]
  refine T.iadd rfl ?_
  refine T.go 1 (fun n9 => (rfl : _ = exe ξ n9 (d + 1) j_A_headerLength 15 [(0, .ref a), (1, J x)] [.ref a, J (46 + z1)] σ)) ?_
  refine T.get rfl rfl rfl hax1 rfl ?_
  refine T.go 2 (fun n9 => (rfl : _ = exe ξ n9 (d + 1) j_A_headerLength 21 [(0, .ref a), (1, J x)] [J 30, J x, .ref (a + 1), J (46 + z1)] σ)) ?_
  refine T.iadd rfl ?_
  refine T.callv (as := [J (x + 30)]) (r := [J (46 + z1)]) rfl rfl rfl (RwL_lt _ (kdX_ar _ ha).2.2.1).2.2.1 hrx2 rfl (s_R_two d (a + 1) (x + 30) σ hK (kdX_ar _ ha).2.2.1  (by omega)) (fun v2 s2 hqs2 => ?_)
  obtain ⟨z2, rfl, esz2, hzz2, hyz2⟩ := hqs2
  rw [esz2]
  refine T.iadd rfl ?_
  refine T.go 1 (fun n9 => (rfl : _ = exe ξ n9 (d + 1) j_A_headerLength 27 [(0, .ref a), (1, J x)] [.ref a, J ((46 + z1) + z2)] σ)) ?_
  refine T.get rfl rfl rfl hax1 rfl ?_
  refine T.go 2 (fun n9 => (rfl : _ = exe ξ n9 (d + 1) j_A_headerLength 33 [(0, .ref a), (1, J x)] [J 32, J x, .ref (a + 1), J ((46 + z1) + z2)] σ)) ?_
  refine T.iadd rfl ?_
  refine T.callv (as := [J (x + 32)]) (r := [J ((46 + z1) + z2)]) rfl rfl rfl (RwL_lt _ (kdX_ar _ ha).2.2.1).2.2.1 hrx2 rfl (s_R_two d (a + 1) (x + 32) σ hK (kdX_ar _ ha).2.2.1  (by omega)) (fun v3 s3 hqs3 => ?_)
  obtain ⟨z3, rfl, esz3, hzz3, hyz3⟩ := hqs3
  rw [esz3]
  refine T.iadd rfl ?_
  exact T.ireti rfl rfl ⟨_, rfl, rfl, by omega, by omega⟩

set_option maxRecDepth 10000 in
set_option maxHeartbeats 4000000 in
theorem s_A_lookUp {ξ : Nat → Option (Nat × List Int32)} (d : Nat) (a : Nat) (o : Nat) (x : Int) (n : Int) (σ : qH) (hK : K σ) (ha : a ∈ ArL) (ho : o ∈ RwL) (rx : -2147483648 ≤ x ∧ x ≤ 2147483647) (rn : -2147483648 ≤ n ∧ n ≤ 2147483647) : T ξ (d + 1) j_A_lookUp 0 (lv_args 0 [.ref a, .ref o, J x, J n]) [] σ (fun v σ' => ∃ z : Int, v = some (J z) ∧ σ' = σ ∧ -1 ≤ z ∧ z ≤ 63) := by
  have la := (ArL_lt a ha).2.1
  obtain ⟨ex1, erx1, dix1, bax1, fpx1, hax1, fx1a, fx1b, fx1c, fx1d, fx1e, fx1f, fx1g, fx1h, fx1i, fx1j⟩ := hK.arc ha
  obtain ⟨mx2, nx2, bx2, lx2, hrx2, hbx2, fx2a, fx2b, fx2c, fx2d, fx2e, fx2g, fx2h, fx2i⟩ := hK.row (kdX_ar _ ha).2.2.1
  have loop3 : ∀ (f : Nat) (k : Int), 0 ≤ k → k ≤ 64 → (64 - k).toNat < f → T ξ (d + 1) j_A_lookUp 3 [(0, .ref a), (1, .ref o), (2, J x), (3, J n), (4, J k)] [] σ (fun v σ' => ∃ z : Int, v = some (J z) ∧ σ' = σ ∧ -1 ≤ z ∧ z ≤ 63) := by
    intro f
    induction f with
    | zero => intro k i0 i1 hm; omega
    | succ f ih =>
      intro k i0 i1 hm
      refine T.go 2 (fun n9 => (rfl : _ = exe ξ n9 (d + 1) j_A_lookUp 6 [(0, .ref a), (1, .ref o), (2, J x), (3, J n), (4, J k)] [.ref a, J k] σ)) ?_
      refine T.get rfl rfl rfl hax1 rfl ?_
      refine T.icmp_ge rfl rfl (by omega) (by omega) (fun c1 => ?_) (fun c1 => ?_)
      · refine T.go 1 (fun n9 => (rfl : _ = exe ξ n9 (d + 1) j_A_lookUp 73 [(0, .ref a), (1, .ref o), (2, J x), (3, J n), (4, J k)] [J (-1)] σ)) ?_
        exact T.ireti rfl rfl ⟨_, rfl, rfl, by omega, by omega⟩
      · refine T.go 2 (fun n9 => (rfl : _ = exe ξ n9 (d + 1) j_A_lookUp 16 [(0, .ref a), (1, .ref o), (2, J x), (3, J n), (4, J k)] [J 64, J k] σ)) ?_
        refine T.icmp_ge rfl rfl (by omega) (by omega) (fun c2 => ?_) (fun c2 => ?_)
        · refine T.go 1 (fun n9 => (rfl : _ = exe ξ n9 (d + 1) j_A_lookUp 73 [(0, .ref a), (1, .ref o), (2, J x), (3, J n), (4, J k)] [J (-1)] σ)) ?_
          exact T.ireti rfl rfl ⟨_, rfl, rfl, by omega, by omega⟩
        · refine T.go 1 (fun n9 => (rfl : _ = exe ξ n9 (d + 1) j_A_lookUp 20 [(0, .ref a), (1, .ref o), (2, J x), (3, J n), (4, J k)] [.ref a] σ)) ?_
          refine T.get rfl rfl rfl hax1 rfl ?_
          refine T.go 1 (fun n9 => (rfl : _ = exe ξ n9 (d + 1) j_A_lookUp 24 [(0, .ref a), (1, .ref o), (2, J x), (3, J n), (4, J k)] [.ref a, .ref (a + 1)] σ)) ?_
          refine T.get rfl rfl rfl hax1 rfl ?_
          refine T.go 1 (fun n9 => (rfl : _ = exe ξ n9 (d + 1) j_A_lookUp 29 [(0, .ref a), (1, .ref o), (2, J x), (3, J n), (4, J k)] [J k, .ref (a + 3), .ref (a + 1)] σ)) ?_
          obtain ⟨lx3, hix3, elx3⟩ := hK.ints (kdX_ar _ ha).2.2.2.1
          refine T.iald rfl (blt_f (by omega)) hix3 (by omega) (fun z1 hzz1 hyz1 hez1 => ?_)
          refine T.go 1 (fun n9 => (rfl : _ = exe ξ n9 (d + 1) j_A_lookUp 32 [(0, .ref a), (1, .ref o), (2, J x), (3, J n), (4, J k)] [J 28, J z1, .ref (a + 1)] σ)) ?_
          refine T.iadd rfl ?_
          refine T.norm (fun z2 hzz2 hyz2 hwz2 => ?_)
          refine T.callv (as := [J z2]) (r := []) rfl rfl rfl (RwL_lt _ (kdX_ar _ ha).2.2.1).2.2.1 hrx2 rfl (s_R_two d (a + 1) z2 σ hK (kdX_ar _ ha).2.2.1  (by omega)) (fun v1 s1 hqs1 => ?_)
          obtain ⟨z3, rfl, esz3, hzz3, hyz3⟩ := hqs1
          rw [esz3]
          refine T.go 1 (fun n9 => (rfl : _ = exe ξ n9 (d + 1) j_A_lookUp 37 [(0, .ref a), (1, .ref o), (2, J x), (3, J n), (4, J k)] [J n, J z3] σ)) ?_
          refine T.icmp_ne rfl rfl (by omega) (by omega) (fun c3 => ?_) (fun c3 => ?_)
          · refine T.iinc (lv' := [(0, .ref a), (1, .ref o), (2, J x), (3, J n), (4, J (k + 1))]) rfl rfl rfl rfl ?_
            refine T.go 1 (fun n9 => (rfl : _ = exe ξ n9 (d + 1) j_A_lookUp 3 [(0, .ref a), (1, .ref o), (2, J x), (3, J n), (4, J (k + 1))] [] σ)) ?_
            exact ih  (k + 1) (by omega) (by omega) (by omega)
          · refine T.go 1 (fun n9 => (rfl : _ = exe ξ n9 (d + 1) j_A_lookUp 41 [(0, .ref a), (1, .ref o), (2, J x), (3, J n), (4, J k)] [.ref a] σ)) ?_
            refine T.get rfl rfl rfl hax1 rfl ?_
            refine T.go 1 (fun n9 => (rfl : _ = exe ξ n9 (d + 1) j_A_lookUp 45 [(0, .ref a), (1, .ref o), (2, J x), (3, J n), (4, J k)] [.ref a, .ref (a + 1)] σ)) ?_
            refine T.get rfl rfl rfl hax1 rfl ?_
            refine T.go 1 (fun n9 => (rfl : _ = exe ξ n9 (d + 1) j_A_lookUp 50 [(0, .ref a), (1, .ref o), (2, J x), (3, J n), (4, J k)] [J k, .ref (a + 3), .ref (a + 1)] σ)) ?_
            refine T.iald rfl (blt_f (by omega)) hix3 (by omega) (fun z4 hzz4 hyz4 hez4 => ?_)
            refine T.go 1 (fun n9 => (rfl : _ = exe ξ n9 (d + 1) j_A_lookUp 53 [(0, .ref a), (1, .ref o), (2, J x), (3, J n), (4, J k)] [J 46, J z4, .ref (a + 1)] σ)) ?_
            refine T.iadd rfl ?_
            refine T.norm (fun z5 hzz5 hyz5 hwz5 => ?_)
            refine T.go 3 (fun n9 => (rfl : _ = exe ξ n9 (d + 1) j_A_lookUp 57 [(0, .ref a), (1, .ref o), (2, J x), (3, J n), (4, J k)] [J n, J x, .ref o, J z5, .ref (a + 1)] σ)) ?_
            refine T.callv (as := [J z5, .ref o, J x, J n]) (r := []) rfl rfl rfl (RwL_lt _ (kdX_ar _ ha).2.2.1).2.2.1 hrx2 rfl (s_R_hasPart d (a + 1) z5 o x n σ hK (kdX_ar _ ha).2.2.1 ho  (by omega) (by omega) (by omega)) (fun v2 s2 hqs2 => ?_)
            obtain ⟨z6, rfl, esz6, hzz6, hyz6⟩ := hqs2
            rw [esz6]
            refine T.if_eq rfl rfl (by omega) (fun c4 => ?_) (fun c4 => ?_)
            · refine T.iinc (lv' := [(0, .ref a), (1, .ref o), (2, J x), (3, J n), (4, J (k + 1))]) rfl rfl rfl rfl ?_
              refine T.go 1 (fun n9 => (rfl : _ = exe ξ n9 (d + 1) j_A_lookUp 3 [(0, .ref a), (1, .ref o), (2, J x), (3, J n), (4, J (k + 1))] [] σ)) ?_
              exact ih  (k + 1) (by omega) (by omega) (by omega)
            · refine T.go 1 (fun n9 => (rfl : _ = exe ξ n9 (d + 1) j_A_lookUp 65 [(0, .ref a), (1, .ref o), (2, J x), (3, J n), (4, J k)] [J k] σ)) ?_
              exact T.ireti rfl rfl ⟨_, rfl, rfl, by omega, by omega⟩
  refine T.go 2 (fun n9 => (rfl : _ = exe ξ n9 (d + 1) j_A_lookUp 3 [(0, .ref a), (1, .ref o), (2, J x), (3, J n), (4, J 0)] [] σ)) ?_
  exact loop3 _ 0 (by omega) (by omega) (Nat.lt_succ_self _)

set_option maxRecDepth 10000 in
set_option maxHeartbeats 4000000 in
theorem s_A_isFreshName {ξ : Nat → Option (Nat × List Int32)} (d : Nat) (a : Nat) (x : Int) (σ : qH) (hK : K σ) (ha : a ∈ ArL) (rx : -2147483648 ≤ x ∧ x ≤ 2147483647) (pre0 : x ≤ 2147400000) : T ξ (d + 2) j_A_isFreshName 0 (lv_args 0 [.ref a, J x]) [] σ (fun v σ' => ∃ z : Int, v = some (J z) ∧ σ' = σ ∧ 0 ≤ z ∧ z ≤ 1) := by
  obtain ⟨ex1, erx1, dix1, bax1, fpx1, hax1, fx1a, fx1b, fx1c, fx1d, fx1e, fx1f, fx1g, fx1h, fx1i, fx1j⟩ := hK.arc ha
  obtain ⟨mx2, nx2, bx2, lx2, hrx2, hbx2, fx2a, fx2b, fx2c, fx2d, fx2e, fx2g, fx2h, fx2i⟩ := hK.row (kdX_ar _ ha).2.2.1
  have loop27 : ∀ (f : Nat) (n : Int) (k : Int), 1 ≤ n → n ≤ 40 → 0 ≤ k → k ≤ n → (n - k).toNat < f → T ξ (d + 2) j_A_isFreshName 27 [(0, .ref a), (1, J x), (2, J n), (3, J k)] [] σ (fun v σ' => ∃ z : Int, v = some (J z) ∧ σ' = σ ∧ 0 ≤ z ∧ z ≤ 1) := by
    intro f
    induction f with
    | zero => intro n k i0 i1 i2 i3 hm; omega
    | succ f ih =>
      intro n k i0 i1 i2 i3 hm
      refine T.go 2 (fun n9 => (rfl : _ = exe ξ n9 (d + 2) j_A_isFreshName 29 [(0, .ref a), (1, J x), (2, J n), (3, J k)] [J n, J k] σ)) ?_
      refine T.icmp_ge rfl rfl (by omega) (by omega) (fun c1 => ?_) (fun c1 => ?_)
      · refine T.go 2 (fun n9 => (rfl : _ = exe ξ n9 (d + 2) j_A_isFreshName 61 [(0, .ref a), (1, J x), (2, J n), (3, J k)] [.ref a, .ref a] σ)) ?_
        refine T.get rfl rfl rfl hax1 rfl ?_
        refine T.go 2 (fun n9 => (rfl : _ = exe ξ n9 (d + 2) j_A_isFreshName 67 [(0, .ref a), (1, J x), (2, J n), (3, J k)] [J 46, J x, .ref (a + 1), .ref a] σ)) ?_
        refine T.iadd rfl ?_
        refine T.go 1 (fun n9 => (rfl : _ = exe ξ n9 (d + 2) j_A_isFreshName 69 [(0, .ref a), (1, J x), (2, J n), (3, J k)] [J n, J (x + 46), .ref (a + 1), .ref a] σ)) ?_
        refine T.callv (as := [.ref (a + 1), J (x + 46), J n]) (r := []) rfl rfl rfl (ArL_lt _ ha).2.2.1 hax1 rfl (s_A_lookUp d a (a + 1) (x + 46) n σ hK ha (kdX_ar _ ha).2.2.1  (by omega) (by omega)) (fun v1 s1 hqs1 => ?_)
        obtain ⟨z1, rfl, esz1, hzz1, hyz1⟩ := hqs1
        rw [esz1]
        refine T.go 1 (fun n9 => (rfl : _ = exe ξ n9 (d + 2) j_A_isFreshName 73 [(0, .ref a), (1, J x), (2, J n), (3, J k)] [J (-1), J z1] σ)) ?_
        refine T.icmp_ne rfl rfl (by omega) (by omega) (fun c2 => ?_) (fun c2 => ?_)
        · refine T.go 1 (fun n9 => (rfl : _ = exe ξ n9 (d + 2) j_A_isFreshName 81 [(0, .ref a), (1, J x), (2, J n), (3, J k)] [J 0] σ)) ?_
          exact T.iretz rfl rfl (by omega) ⟨_, rfl, rfl, by omega, by omega⟩
        · refine T.go 2 (fun n9 => (rfl : _ = exe ξ n9 (d + 2) j_A_isFreshName 81 [(0, .ref a), (1, J x), (2, J n), (3, J k)] [J 1] σ)) ?_
          exact T.iretz rfl rfl (by omega) ⟨_, rfl, rfl, by omega, by omega⟩
      · refine T.go 1 (fun n9 => (rfl : _ = exe ξ n9 (d + 2) j_A_isFreshName 33 [(0, .ref a), (1, J x), (2, J n), (3, J k)] [.ref a] σ)) ?_
        refine T.get rfl rfl rfl hax1 rfl ?_
        refine T.go 2 (fun n9 => (rfl : _ = exe ξ n9 (d + 2) j_A_isFreshName 39 [(0, .ref a), (1, J x), (2, J n), (3, J k)] [J 46, J x, .ref (a + 1)] σ)) ?_
        refine T.iadd rfl ?_
        refine T.go 1 (fun n9 => (rfl : _ = exe ξ n9 (d + 2) j_A_isFreshName 41 [(0, .ref a), (1, J x), (2, J n), (3, J k)] [J k, J (x + 46), .ref (a + 1)] σ)) ?_
        refine T.iadd rfl ?_
        refine T.callv (as := [J ((x + 46) + k)]) (r := []) rfl rfl rfl (RwL_lt _ (kdX_ar _ ha).2.2.1).2.2.1 hrx2 rfl (s_R_at (d + 1) (a + 1) ((x + 46) + k) σ hK (kdX_ar _ ha).2.2.1  (by omega)) (fun v2 s2 hqs2 => ?_)
        obtain ⟨z2, rfl, esz2, hzz2, hyz2⟩ := hqs2
        rw [esz2]
        refine T.calls (as := [J z2]) (r := []) rfl rfl (by decide) rfl rfl (s_N_isLetter (d + 1) z2 σ hK   (by omega)) (fun v3 s3 hqs3 => ?_)
        obtain ⟨z3, rfl, esz3, hzz3, hyz3⟩ := hqs3
        rw [esz3]
        refine T.if_ne rfl rfl (by omega) (fun c3 => ?_) (fun c3 => ?_)
        · refine T.iinc (lv' := [(0, .ref a), (1, J x), (2, J n), (3, J (k + 1))]) rfl rfl rfl rfl ?_
          refine T.go 1 (fun n9 => (rfl : _ = exe ξ n9 (d + 2) j_A_isFreshName 27 [(0, .ref a), (1, J x), (2, J n), (3, J (k + 1))] [] σ)) ?_
          exact ih  n (k + 1) (by omega) (by omega) (by omega) (by omega) (by omega)
        · refine T.go 1 (fun n9 => (rfl : _ = exe ξ n9 (d + 2) j_A_isFreshName 52 [(0, .ref a), (1, J x), (2, J n), (3, J k)] [J 0] σ)) ?_
          exact T.iretz rfl rfl (by omega) ⟨_, rfl, rfl, by omega, by omega⟩
  refine T.go 1 (fun n9 => (rfl : _ = exe ξ n9 (d + 2) j_A_isFreshName 1 [(0, .ref a), (1, J x)] [.ref a] σ)) ?_
  refine T.get rfl rfl rfl hax1 rfl ?_
  refine T.go 2 (fun n9 => (rfl : _ = exe ξ n9 (d + 2) j_A_isFreshName 7 [(0, .ref a), (1, J x)] [J 28, J x, .ref (a + 1)] σ)) ?_
  refine T.iadd rfl ?_
  refine T.callv (as := [J (x + 28)]) (r := []) rfl rfl rfl (RwL_lt _ (kdX_ar _ ha).2.2.1).2.2.1 hrx2 rfl (s_R_two (d + 1) (a + 1) (x + 28) σ hK (kdX_ar _ ha).2.2.1  (by omega)) (fun v4 s4 hqs4 => ?_)
  obtain ⟨z4, rfl, esz4, hzz4, hyz4⟩ := hqs4
  rw [esz4]
  refine T.go 3 (fun n9 => (rfl : _ = exe ξ n9 (d + 2) j_A_isFreshName 14 [(0, .ref a), (1, J x), (2, J z4)] [J 1, J z4] σ)) ?_
  refine T.icmp_lt rfl rfl (by omega) (by omega) (fun c4 => ?_) (fun c4 => ?_)
  · refine T.go 1 (fun n9 => (rfl : _ = exe ξ n9 (d + 2) j_A_isFreshName 24 [(0, .ref a), (1, J x), (2, J z4)] [J 0] σ)) ?_
    exact T.iretz rfl rfl (by omega) ⟨_, rfl, rfl, by omega, by omega⟩
  · refine T.go 2 (fun n9 => (rfl : _ = exe ξ n9 (d + 2) j_A_isFreshName 20 [(0, .ref a), (1, J x), (2, J z4)] [J 40, J z4] σ)) ?_
    refine T.icmp_le rfl rfl (by omega) (by omega) (fun c5 => ?_) (fun c5 => ?_)
    · refine T.go 2 (fun n9 => (rfl : _ = exe ξ n9 (d + 2) j_A_isFreshName 27 [(0, .ref a), (1, J x), (2, J z4), (3, J 0)] [] σ)) ?_
      exact loop27 _ z4 0 (by omega) (by omega) (by omega) (by omega) (Nat.lt_succ_self _)
    · refine T.go 1 (fun n9 => (rfl : _ = exe ξ n9 (d + 2) j_A_isFreshName 24 [(0, .ref a), (1, J x), (2, J z4)] [J 0] σ)) ?_
      exact T.iretz rfl rfl (by omega) ⟨_, rfl, rfl, by omega, by omega⟩

set_option maxRecDepth 10000 in
set_option maxHeartbeats 4000000 in
theorem s_A_placeData {ξ : Nat → Option (Nat × List Int32)} (d : Nat) (a : Nat) (x : Int) (σ : qH) (hK : K σ) (ha : a ∈ ArL) (rx : -2147483648 ≤ x ∧ x ≤ 2147483647) (pre0 : x ≤ 2147400000) : T ξ (d + 2) j_A_placeData 0 (lv_args 0 [.ref a, J x]) [] σ (fun v σ' => ∃ z : Int, v = some (J z) ∧ σ' = σ ∧ -2147483648 ≤ z ∧ z ≤ 2147483647) := by
  refine T.go 1 (fun n9 => (rfl : _ = exe ξ n9 (d + 2) j_A_placeData 1 [(0, .ref a), (1, J x)] [.ref a] σ)) ?_
  obtain ⟨ex1, erx1, dix1, bax1, fpx1, hax1, fx1a, fx1b, fx1c, fx1d, fx1e, fx1f, fx1g, fx1h, fx1i, fx1j⟩ := hK.arc ha
  refine T.get rfl rfl rfl hax1 rfl ?_
  refine T.go 2 (fun n9 => (rfl : _ = exe ξ n9 (d + 2) j_A_placeData 7 [(0, .ref a), (1, J x)] [J 28, J x, .ref (a + 1)] σ)) ?_
  refine T.iadd rfl ?_
  obtain ⟨mx2, nx2, bx2, lx2, hrx2, hbx2, fx2a, fx2b, fx2c, fx2d, fx2e, fx2g, fx2h, fx2i⟩ := hK.row (kdX_ar _ ha).2.2.1
  refine T.callv (as := [J (x + 28)]) (r := []) rfl rfl rfl (RwL_lt _ (kdX_ar _ ha).2.2.1).2.2.1 hrx2 rfl (s_R_two (d + 1) (a + 1) (x + 28) σ hK (kdX_ar _ ha).2.2.1  (by omega)) (fun v1 s1 hqs1 => ?_)
  obtain ⟨z1, rfl, esz1, hzz1, hyz1⟩ := hqs1
  rw [esz1]
  refine T.go 2 (fun n9 => (rfl : _ = exe ξ n9 (d + 2) j_A_placeData 13 [(0, .ref a), (1, J x), (2, J z1)] [.ref a] σ)) ?_
  refine T.get rfl rfl rfl hax1 rfl ?_
  refine T.i2l rfl (by omega) ?_
  refine T.go 1 (fun n9 => (rfl : _ = exe ξ n9 (d + 2) j_A_placeData 18 [(0, .ref a), (1, J x), (2, J z1)] [.ref a, JL bax1] σ)) ?_
  refine T.get rfl rfl rfl hax1 rfl ?_
  refine T.go 2 (fun n9 => (rfl : _ = exe ξ n9 (d + 2) j_A_placeData 24 [(0, .ref a), (1, J x), (2, J z1)] [J 42, J x, .ref (a + 1), JL bax1] σ)) ?_
  refine T.iadd rfl ?_
  refine T.callv (as := [J (x + 42)]) (r := [JL bax1]) rfl rfl rfl (RwL_lt _ (kdX_ar _ ha).2.2.1).2.2.1 hrx2 rfl (s_R_four d (a + 1) (x + 42) σ hK (kdX_ar _ ha).2.2.1  (by omega)) (fun v2 s2 hqs2 => ?_)
  obtain ⟨z2, rfl, esz2, hzz2, hyz2⟩ := hqs2
  rw [esz2]
  refine T.ladd rfl ?_
  refine T.go 3 (fun n9 => (rfl : _ = exe ξ n9 (d + 2) j_A_placeData 32 [(0, .ref a), (1, J x), (2, J z1), (3, JL (bax1 + z2))] [.ref a, JL (bax1 + z2)] σ)) ?_
  refine T.get rfl rfl rfl hax1 rfl ?_
  refine T.go 1 (fun n9 => (rfl : _ = exe ξ n9 (d + 2) j_A_placeData 37 [(0, .ref a), (1, J x), (2, J z1), (3, JL (bax1 + z2))] [J 30, J dix1, JL (bax1 + z2)] σ)) ?_
  refine T.isub rfl ?_
  refine T.i2l rfl (by omega) ?_
  refine T.lcmp rfl (by omega) (by omega) (fun c1 => ?_) (fun c1 => ?_) (fun c1 => ?_)
  · refine T.go 1 (fun n9 => (rfl : _ = exe ξ n9 (d + 2) j_A_placeData 45 [(0, .ref a), (1, J x), (2, J z1), (3, JL (bax1 + z2))] [] σ)) ?_
    refine T.go 1 (fun n9 => (rfl : _ = exe ξ n9 (d + 2) j_A_placeData 46 [(0, .ref a), (1, J x), (2, J z1), (3, JL (bax1 + z2))] [JL (bax1 + z2)] σ)) ?_
    refine T.l2i rfl ?_
    refine T.go 2 (fun n9 => (rfl : _ = exe ξ n9 (d + 2) j_A_placeData 50 [(0, .ref a), (1, J x), (2, J z1), (3, JL (bax1 + z2)), (5, J (bax1 + z2))] [.ref a] σ)) ?_
    refine T.get rfl rfl rfl hax1 rfl ?_
    refine T.go 3 (fun n9 => (rfl : _ = exe ξ n9 (d + 2) j_A_placeData 57 [(0, .ref a), (1, J x), (2, J z1), (3, JL (bax1 + z2)), (5, J (bax1 + z2))] [J 4, J 3, J (bax1 + z2), .ref (a + 1)] σ)) ?_
    refine T.callv (as := [J (bax1 + z2), J 3, J 4]) (r := []) rfl rfl rfl (RwL_lt _ (kdX_ar _ ha).2.2.1).2.2.1 hrx2 rfl (s_R_hasMark d (a + 1) (bax1 + z2) 3 4 σ hK (kdX_ar _ ha).2.2.1  (by omega) (by omega) (by omega)) (fun v3 s3 hqs3 => ?_)
    obtain ⟨z3, rfl, esz3, hzz3, hyz3⟩ := hqs3
    rw [esz3]
    refine T.if_eq rfl rfl (by omega) (fun c2 => ?_) (fun c2 => ?_)
    · refine T.go 1 (fun n9 => (rfl : _ = exe ξ n9 (d + 2) j_A_placeData 80 [(0, .ref a), (1, J x), (2, J z1), (3, JL (bax1 + z2)), (5, J (bax1 + z2))] [J (-1)] σ)) ?_
      exact T.ireti rfl rfl ⟨_, rfl, rfl, by omega, by omega⟩
    · refine T.go 1 (fun n9 => (rfl : _ = exe ξ n9 (d + 2) j_A_placeData 64 [(0, .ref a), (1, J x), (2, J z1), (3, JL (bax1 + z2)), (5, J (bax1 + z2))] [.ref a] σ)) ?_
      refine T.get rfl rfl rfl hax1 rfl ?_
      refine T.go 2 (fun n9 => (rfl : _ = exe ξ n9 (d + 2) j_A_placeData 71 [(0, .ref a), (1, J x), (2, J z1), (3, JL (bax1 + z2)), (5, J (bax1 + z2))] [J 26, J (bax1 + z2), .ref (a + 1)] σ)) ?_
      refine T.iadd rfl ?_
      refine T.callv (as := [J ((bax1 + z2) + 26)]) (r := []) rfl rfl rfl (RwL_lt _ (kdX_ar _ ha).2.2.1).2.2.1 hrx2 rfl (s_R_two (d + 1) (a + 1) ((bax1 + z2) + 26) σ hK (kdX_ar _ ha).2.2.1  (by omega)) (fun v4 s4 hqs4 => ?_)
      obtain ⟨z4, rfl, esz4, hzz4, hyz4⟩ := hqs4
      rw [esz4]
      refine T.go 1 (fun n9 => (rfl : _ = exe ξ n9 (d + 2) j_A_placeData 76 [(0, .ref a), (1, J x), (2, J z1), (3, JL (bax1 + z2)), (5, J (bax1 + z2))] [J z1, J z4] σ)) ?_
      refine T.icmp_eq rfl rfl (by omega) (by omega) (fun c3 => ?_) (fun c3 => ?_)
      · refine T.go 2 (fun n9 => (rfl : _ = exe ξ n9 (d + 2) j_A_placeData 85 [(0, .ref a), (1, J x), (2, J z1), (3, JL (bax1 + z2)), (5, J (bax1 + z2))] [J 30, J (bax1 + z2)] σ)) ?_
        refine T.iadd rfl ?_
        refine T.go 1 (fun n9 => (rfl : _ = exe ξ n9 (d + 2) j_A_placeData 87 [(0, .ref a), (1, J x), (2, J z1), (3, JL (bax1 + z2)), (5, J (bax1 + z2))] [J z1, J ((bax1 + z2) + 30)] σ)) ?_
        refine T.iadd rfl ?_
        refine T.go 1 (fun n9 => (rfl : _ = exe ξ n9 (d + 2) j_A_placeData 89 [(0, .ref a), (1, J x), (2, J z1), (3, JL (bax1 + z2)), (5, J (bax1 + z2))] [.ref a, J (((bax1 + z2) + 30) + z1)] σ)) ?_
        refine T.get rfl rfl rfl hax1 rfl ?_
        refine T.go 2 (fun n9 => (rfl : _ = exe ξ n9 (d + 2) j_A_placeData 96 [(0, .ref a), (1, J x), (2, J z1), (3, JL (bax1 + z2)), (5, J (bax1 + z2))] [J 28, J (bax1 + z2), .ref (a + 1), J (((bax1 + z2) + 30) + z1)] σ)) ?_
        refine T.iadd rfl ?_
        refine T.callv (as := [J ((bax1 + z2) + 28)]) (r := [J (((bax1 + z2) + 30) + z1)]) rfl rfl rfl (RwL_lt _ (kdX_ar _ ha).2.2.1).2.2.1 hrx2 rfl (s_R_two (d + 1) (a + 1) ((bax1 + z2) + 28) σ hK (kdX_ar _ ha).2.2.1  (by omega)) (fun v5 s5 hqs5 => ?_)
        obtain ⟨z5, rfl, esz5, hzz5, hyz5⟩ := hqs5
        rw [esz5]
        refine T.iadd rfl ?_
        refine T.go 2 (fun n9 => (rfl : _ = exe ξ n9 (d + 2) j_A_placeData 105 [(0, .ref a), (1, J x), (2, J z1), (3, JL (bax1 + z2)), (5, J (bax1 + z2)), (6, J ((((bax1 + z2) + 30) + z1) + z5))] [J ((((bax1 + z2) + 30) + z1) + z5)] σ)) ?_
        refine T.i2l rfl (by omega) ?_
        refine T.go 1 (fun n9 => (rfl : _ = exe ξ n9 (d + 2) j_A_placeData 107 [(0, .ref a), (1, J x), (2, J z1), (3, JL (bax1 + z2)), (5, J (bax1 + z2)), (6, J ((((bax1 + z2) + 30) + z1) + z5))] [.ref a, JL ((((bax1 + z2) + 30) + z1) + z5)] σ)) ?_
        refine T.get rfl rfl rfl hax1 rfl ?_
        refine T.go 2 (fun n9 => (rfl : _ = exe ξ n9 (d + 2) j_A_placeData 113 [(0, .ref a), (1, J x), (2, J z1), (3, JL (bax1 + z2)), (5, J (bax1 + z2)), (6, J ((((bax1 + z2) + 30) + z1) + z5))] [J 20, J x, .ref (a + 1), JL ((((bax1 + z2) + 30) + z1) + z5)] σ)) ?_
        refine T.iadd rfl ?_
        refine T.callv (as := [J (x + 20)]) (r := [JL ((((bax1 + z2) + 30) + z1) + z5)]) rfl rfl rfl (RwL_lt _ (kdX_ar _ ha).2.2.1).2.2.1 hrx2 rfl (s_R_four d (a + 1) (x + 20) σ hK (kdX_ar _ ha).2.2.1  (by omega)) (fun v6 s6 hqs6 => ?_)
        obtain ⟨z6, rfl, esz6, hzz6, hyz6⟩ := hqs6
        rw [esz6]
        refine T.ladd rfl ?_
        refine T.go 1 (fun n9 => (rfl : _ = exe ξ n9 (d + 2) j_A_placeData 119 [(0, .ref a), (1, J x), (2, J z1), (3, JL (bax1 + z2)), (5, J (bax1 + z2)), (6, J ((((bax1 + z2) + 30) + z1) + z5))] [.ref a, JL (((((bax1 + z2) + 30) + z1) + z5) + z6)] σ)) ?_
        refine T.get rfl rfl rfl hax1 rfl ?_
        refine T.i2l rfl (by omega) ?_
        refine T.lcmp rfl (by omega) (by omega) (fun c4 => ?_) (fun c4 => ?_) (fun c4 => ?_)
        · refine T.go 1 (fun n9 => (rfl : _ = exe ξ n9 (d + 2) j_A_placeData 127 [(0, .ref a), (1, J x), (2, J z1), (3, JL (bax1 + z2)), (5, J (bax1 + z2)), (6, J ((((bax1 + z2) + 30) + z1) + z5))] [] σ)) ?_
          refine T.go 1 (fun n9 => (rfl : _ = exe ξ n9 (d + 2) j_A_placeData 128 [(0, .ref a), (1, J x), (2, J z1), (3, JL (bax1 + z2)), (5, J (bax1 + z2)), (6, J ((((bax1 + z2) + 30) + z1) + z5))] [.ref a] σ)) ?_
          refine T.get rfl rfl rfl hax1 rfl ?_
          refine T.go 2 (fun n9 => (rfl : _ = exe ξ n9 (d + 2) j_A_placeData 135 [(0, .ref a), (1, J x), (2, J z1), (3, JL (bax1 + z2)), (5, J (bax1 + z2)), (6, J ((((bax1 + z2) + 30) + z1) + z5))] [J 30, J (bax1 + z2), .ref (a + 1)] σ)) ?_
          refine T.iadd rfl ?_
          refine T.go 1 (fun n9 => (rfl : _ = exe ξ n9 (d + 2) j_A_placeData 137 [(0, .ref a), (1, J x), (2, J z1), (3, JL (bax1 + z2)), (5, J (bax1 + z2)), (6, J ((((bax1 + z2) + 30) + z1) + z5))] [.ref a, J ((bax1 + z2) + 30), .ref (a + 1)] σ)) ?_
          refine T.get rfl rfl rfl hax1 rfl ?_
          refine T.go 2 (fun n9 => (rfl : _ = exe ξ n9 (d + 2) j_A_placeData 143 [(0, .ref a), (1, J x), (2, J z1), (3, JL (bax1 + z2)), (5, J (bax1 + z2)), (6, J ((((bax1 + z2) + 30) + z1) + z5))] [J 46, J x, .ref (a + 1), J ((bax1 + z2) + 30), .ref (a + 1)] σ)) ?_
          refine T.iadd rfl ?_
          refine T.go 1 (fun n9 => (rfl : _ = exe ξ n9 (d + 2) j_A_placeData 145 [(0, .ref a), (1, J x), (2, J z1), (3, JL (bax1 + z2)), (5, J (bax1 + z2)), (6, J ((((bax1 + z2) + 30) + z1) + z5))] [J z1, J (x + 46), .ref (a + 1), J ((bax1 + z2) + 30), .ref (a + 1)] σ)) ?_
          refine T.callv (as := [J ((bax1 + z2) + 30), .ref (a + 1), J (x + 46), J z1]) (r := []) rfl rfl rfl (RwL_lt _ (kdX_ar _ ha).2.2.1).2.2.1 hrx2 rfl (s_R_hasPart (d + 1) (a + 1) ((bax1 + z2) + 30) (a + 1) (x + 46) z1 σ hK (kdX_ar _ ha).2.2.1 (kdX_ar _ ha).2.2.1  (by omega) (by omega) (by omega)) (fun v7 s7 hqs7 => ?_)
          obtain ⟨z7, rfl, esz7, hzz7, hyz7⟩ := hqs7
          rw [esz7]
          refine T.if_ne rfl rfl (by omega) (fun c5 => ?_) (fun c5 => ?_)
          · refine T.go 1 (fun n9 => (rfl : _ = exe ξ n9 (d + 2) j_A_placeData 155 [(0, .ref a), (1, J x), (2, J z1), (3, JL (bax1 + z2)), (5, J (bax1 + z2)), (6, J ((((bax1 + z2) + 30) + z1) + z5))] [J ((((bax1 + z2) + 30) + z1) + z5)] σ)) ?_
            exact T.ireti rfl rfl ⟨_, rfl, rfl, by omega, by omega⟩
          · refine T.go 1 (fun n9 => (rfl : _ = exe ξ n9 (d + 2) j_A_placeData 152 [(0, .ref a), (1, J x), (2, J z1), (3, JL (bax1 + z2)), (5, J (bax1 + z2)), (6, J ((((bax1 + z2) + 30) + z1) + z5))] [J (-1)] σ)) ?_
            exact T.ireti rfl rfl ⟨_, rfl, rfl, by omega, by omega⟩
        · refine T.go 1 (fun n9 => (rfl : _ = exe ξ n9 (d + 2) j_A_placeData 127 [(0, .ref a), (1, J x), (2, J z1), (3, JL (bax1 + z2)), (5, J (bax1 + z2)), (6, J ((((bax1 + z2) + 30) + z1) + z5))] [] σ)) ?_
          refine T.go 1 (fun n9 => (rfl : _ = exe ξ n9 (d + 2) j_A_placeData 128 [(0, .ref a), (1, J x), (2, J z1), (3, JL (bax1 + z2)), (5, J (bax1 + z2)), (6, J ((((bax1 + z2) + 30) + z1) + z5))] [.ref a] σ)) ?_
          refine T.get rfl rfl rfl hax1 rfl ?_
          refine T.go 2 (fun n9 => (rfl : _ = exe ξ n9 (d + 2) j_A_placeData 135 [(0, .ref a), (1, J x), (2, J z1), (3, JL (bax1 + z2)), (5, J (bax1 + z2)), (6, J ((((bax1 + z2) + 30) + z1) + z5))] [J 30, J (bax1 + z2), .ref (a + 1)] σ)) ?_
          refine T.iadd rfl ?_
          refine T.go 1 (fun n9 => (rfl : _ = exe ξ n9 (d + 2) j_A_placeData 137 [(0, .ref a), (1, J x), (2, J z1), (3, JL (bax1 + z2)), (5, J (bax1 + z2)), (6, J ((((bax1 + z2) + 30) + z1) + z5))] [.ref a, J ((bax1 + z2) + 30), .ref (a + 1)] σ)) ?_
          refine T.get rfl rfl rfl hax1 rfl ?_
          refine T.go 2 (fun n9 => (rfl : _ = exe ξ n9 (d + 2) j_A_placeData 143 [(0, .ref a), (1, J x), (2, J z1), (3, JL (bax1 + z2)), (5, J (bax1 + z2)), (6, J ((((bax1 + z2) + 30) + z1) + z5))] [J 46, J x, .ref (a + 1), J ((bax1 + z2) + 30), .ref (a + 1)] σ)) ?_
          refine T.iadd rfl ?_
          refine T.go 1 (fun n9 => (rfl : _ = exe ξ n9 (d + 2) j_A_placeData 145 [(0, .ref a), (1, J x), (2, J z1), (3, JL (bax1 + z2)), (5, J (bax1 + z2)), (6, J ((((bax1 + z2) + 30) + z1) + z5))] [J z1, J (x + 46), .ref (a + 1), J ((bax1 + z2) + 30), .ref (a + 1)] σ)) ?_
          refine T.callv (as := [J ((bax1 + z2) + 30), .ref (a + 1), J (x + 46), J z1]) (r := []) rfl rfl rfl (RwL_lt _ (kdX_ar _ ha).2.2.1).2.2.1 hrx2 rfl (s_R_hasPart (d + 1) (a + 1) ((bax1 + z2) + 30) (a + 1) (x + 46) z1 σ hK (kdX_ar _ ha).2.2.1 (kdX_ar _ ha).2.2.1  (by omega) (by omega) (by omega)) (fun v8 s8 hqs8 => ?_)
          obtain ⟨z8, rfl, esz8, hzz8, hyz8⟩ := hqs8
          rw [esz8]
          refine T.if_ne rfl rfl (by omega) (fun c6 => ?_) (fun c6 => ?_)
          · refine T.go 1 (fun n9 => (rfl : _ = exe ξ n9 (d + 2) j_A_placeData 155 [(0, .ref a), (1, J x), (2, J z1), (3, JL (bax1 + z2)), (5, J (bax1 + z2)), (6, J ((((bax1 + z2) + 30) + z1) + z5))] [J ((((bax1 + z2) + 30) + z1) + z5)] σ)) ?_
            exact T.ireti rfl rfl ⟨_, rfl, rfl, by omega, by omega⟩
          · refine T.go 1 (fun n9 => (rfl : _ = exe ξ n9 (d + 2) j_A_placeData 152 [(0, .ref a), (1, J x), (2, J z1), (3, JL (bax1 + z2)), (5, J (bax1 + z2)), (6, J ((((bax1 + z2) + 30) + z1) + z5))] [J (-1)] σ)) ?_
            exact T.ireti rfl rfl ⟨_, rfl, rfl, by omega, by omega⟩
        · refine T.go 1 (fun n9 => (rfl : _ = exe ξ n9 (d + 2) j_A_placeData 151 [(0, .ref a), (1, J x), (2, J z1), (3, JL (bax1 + z2)), (5, J (bax1 + z2)), (6, J ((((bax1 + z2) + 30) + z1) + z5))] [] σ)) ?_
          refine T.go 1 (fun n9 => (rfl : _ = exe ξ n9 (d + 2) j_A_placeData 152 [(0, .ref a), (1, J x), (2, J z1), (3, JL (bax1 + z2)), (5, J (bax1 + z2)), (6, J ((((bax1 + z2) + 30) + z1) + z5))] [J (-1)] σ)) ?_
          exact T.ireti rfl rfl ⟨_, rfl, rfl, by omega, by omega⟩
      · refine T.go 1 (fun n9 => (rfl : _ = exe ξ n9 (d + 2) j_A_placeData 80 [(0, .ref a), (1, J x), (2, J z1), (3, JL (bax1 + z2)), (5, J (bax1 + z2))] [J (-1)] σ)) ?_
        exact T.ireti rfl rfl ⟨_, rfl, rfl, by omega, by omega⟩
  · refine T.go 1 (fun n9 => (rfl : _ = exe ξ n9 (d + 2) j_A_placeData 45 [(0, .ref a), (1, J x), (2, J z1), (3, JL (bax1 + z2))] [] σ)) ?_
    refine T.go 1 (fun n9 => (rfl : _ = exe ξ n9 (d + 2) j_A_placeData 46 [(0, .ref a), (1, J x), (2, J z1), (3, JL (bax1 + z2))] [JL (bax1 + z2)] σ)) ?_
    refine T.l2i rfl ?_
    refine T.go 2 (fun n9 => (rfl : _ = exe ξ n9 (d + 2) j_A_placeData 50 [(0, .ref a), (1, J x), (2, J z1), (3, JL (bax1 + z2)), (5, J (bax1 + z2))] [.ref a] σ)) ?_
    refine T.get rfl rfl rfl hax1 rfl ?_
    refine T.go 3 (fun n9 => (rfl : _ = exe ξ n9 (d + 2) j_A_placeData 57 [(0, .ref a), (1, J x), (2, J z1), (3, JL (bax1 + z2)), (5, J (bax1 + z2))] [J 4, J 3, J (bax1 + z2), .ref (a + 1)] σ)) ?_
    refine T.callv (as := [J (bax1 + z2), J 3, J 4]) (r := []) rfl rfl rfl (RwL_lt _ (kdX_ar _ ha).2.2.1).2.2.1 hrx2 rfl (s_R_hasMark d (a + 1) (bax1 + z2) 3 4 σ hK (kdX_ar _ ha).2.2.1  (by omega) (by omega) (by omega)) (fun v9 s9 hqs9 => ?_)
    obtain ⟨z9, rfl, esz9, hzz9, hyz9⟩ := hqs9
    rw [esz9]
    refine T.if_eq rfl rfl (by omega) (fun c7 => ?_) (fun c7 => ?_)
    · refine T.go 1 (fun n9 => (rfl : _ = exe ξ n9 (d + 2) j_A_placeData 80 [(0, .ref a), (1, J x), (2, J z1), (3, JL (bax1 + z2)), (5, J (bax1 + z2))] [J (-1)] σ)) ?_
      exact T.ireti rfl rfl ⟨_, rfl, rfl, by omega, by omega⟩
    · refine T.go 1 (fun n9 => (rfl : _ = exe ξ n9 (d + 2) j_A_placeData 64 [(0, .ref a), (1, J x), (2, J z1), (3, JL (bax1 + z2)), (5, J (bax1 + z2))] [.ref a] σ)) ?_
      refine T.get rfl rfl rfl hax1 rfl ?_
      refine T.go 2 (fun n9 => (rfl : _ = exe ξ n9 (d + 2) j_A_placeData 71 [(0, .ref a), (1, J x), (2, J z1), (3, JL (bax1 + z2)), (5, J (bax1 + z2))] [J 26, J (bax1 + z2), .ref (a + 1)] σ)) ?_
      refine T.iadd rfl ?_
      refine T.callv (as := [J ((bax1 + z2) + 26)]) (r := []) rfl rfl rfl (RwL_lt _ (kdX_ar _ ha).2.2.1).2.2.1 hrx2 rfl (s_R_two (d + 1) (a + 1) ((bax1 + z2) + 26) σ hK (kdX_ar _ ha).2.2.1  (by omega)) (fun v10 s10 hqs10 => ?_)
      obtain ⟨z10, rfl, esz10, hzz10, hyz10⟩ := hqs10
      rw [esz10]
      refine T.go 1 (fun n9 => (rfl : _ = exe ξ n9 (d + 2) j_A_placeData 76 [(0, .ref a), (1, J x), (2, J z1), (3, JL (bax1 + z2)), (5, J (bax1 + z2))] [J z1, J z10] σ)) ?_
      refine T.icmp_eq rfl rfl (by omega) (by omega) (fun c8 => ?_) (fun c8 => ?_)
      · refine T.go 2 (fun n9 => (rfl : _ = exe ξ n9 (d + 2) j_A_placeData 85 [(0, .ref a), (1, J x), (2, J z1), (3, JL (bax1 + z2)), (5, J (bax1 + z2))] [J 30, J (bax1 + z2)] σ)) ?_
        refine T.iadd rfl ?_
        refine T.go 1 (fun n9 => (rfl : _ = exe ξ n9 (d + 2) j_A_placeData 87 [(0, .ref a), (1, J x), (2, J z1), (3, JL (bax1 + z2)), (5, J (bax1 + z2))] [J z1, J ((bax1 + z2) + 30)] σ)) ?_
        refine T.iadd rfl ?_
        refine T.go 1 (fun n9 => (rfl : _ = exe ξ n9 (d + 2) j_A_placeData 89 [(0, .ref a), (1, J x), (2, J z1), (3, JL (bax1 + z2)), (5, J (bax1 + z2))] [.ref a, J (((bax1 + z2) + 30) + z1)] σ)) ?_
        refine T.get rfl rfl rfl hax1 rfl ?_
        refine T.go 2 (fun n9 => (rfl : _ = exe ξ n9 (d + 2) j_A_placeData 96 [(0, .ref a), (1, J x), (2, J z1), (3, JL (bax1 + z2)), (5, J (bax1 + z2))] [J 28, J (bax1 + z2), .ref (a + 1), J (((bax1 + z2) + 30) + z1)] σ)) ?_
        refine T.iadd rfl ?_
        refine T.callv (as := [J ((bax1 + z2) + 28)]) (r := [J (((bax1 + z2) + 30) + z1)]) rfl rfl rfl (RwL_lt _ (kdX_ar _ ha).2.2.1).2.2.1 hrx2 rfl (s_R_two (d + 1) (a + 1) ((bax1 + z2) + 28) σ hK (kdX_ar _ ha).2.2.1  (by omega)) (fun v11 s11 hqs11 => ?_)
        obtain ⟨z11, rfl, esz11, hzz11, hyz11⟩ := hqs11
        rw [esz11]
        refine T.iadd rfl ?_
        refine T.go 2 (fun n9 => (rfl : _ = exe ξ n9 (d + 2) j_A_placeData 105 [(0, .ref a), (1, J x), (2, J z1), (3, JL (bax1 + z2)), (5, J (bax1 + z2)), (6, J ((((bax1 + z2) + 30) + z1) + z11))] [J ((((bax1 + z2) + 30) + z1) + z11)] σ)) ?_
        refine T.i2l rfl (by omega) ?_
        refine T.go 1 (fun n9 => (rfl : _ = exe ξ n9 (d + 2) j_A_placeData 107 [(0, .ref a), (1, J x), (2, J z1), (3, JL (bax1 + z2)), (5, J (bax1 + z2)), (6, J ((((bax1 + z2) + 30) + z1) + z11))] [.ref a, JL ((((bax1 + z2) + 30) + z1) + z11)] σ)) ?_
        refine T.get rfl rfl rfl hax1 rfl ?_
        refine T.go 2 (fun n9 => (rfl : _ = exe ξ n9 (d + 2) j_A_placeData 113 [(0, .ref a), (1, J x), (2, J z1), (3, JL (bax1 + z2)), (5, J (bax1 + z2)), (6, J ((((bax1 + z2) + 30) + z1) + z11))] [J 20, J x, .ref (a + 1), JL ((((bax1 + z2) + 30) + z1) + z11)] σ)) ?_
        refine T.iadd rfl ?_
        refine T.callv (as := [J (x + 20)]) (r := [JL ((((bax1 + z2) + 30) + z1) + z11)]) rfl rfl rfl (RwL_lt _ (kdX_ar _ ha).2.2.1).2.2.1 hrx2 rfl (s_R_four d (a + 1) (x + 20) σ hK (kdX_ar _ ha).2.2.1  (by omega)) (fun v12 s12 hqs12 => ?_)
        obtain ⟨z12, rfl, esz12, hzz12, hyz12⟩ := hqs12
        rw [esz12]
        refine T.ladd rfl ?_
        refine T.go 1 (fun n9 => (rfl : _ = exe ξ n9 (d + 2) j_A_placeData 119 [(0, .ref a), (1, J x), (2, J z1), (3, JL (bax1 + z2)), (5, J (bax1 + z2)), (6, J ((((bax1 + z2) + 30) + z1) + z11))] [.ref a, JL (((((bax1 + z2) + 30) + z1) + z11) + z12)] σ)) ?_
        refine T.get rfl rfl rfl hax1 rfl ?_
        refine T.i2l rfl (by omega) ?_
        refine T.lcmp rfl (by omega) (by omega) (fun c9 => ?_) (fun c9 => ?_) (fun c9 => ?_)
        · refine T.go 1 (fun n9 => (rfl : _ = exe ξ n9 (d + 2) j_A_placeData 127 [(0, .ref a), (1, J x), (2, J z1), (3, JL (bax1 + z2)), (5, J (bax1 + z2)), (6, J ((((bax1 + z2) + 30) + z1) + z11))] [] σ)) ?_
          refine T.go 1 (fun n9 => (rfl : _ = exe ξ n9 (d + 2) j_A_placeData 128 [(0, .ref a), (1, J x), (2, J z1), (3, JL (bax1 + z2)), (5, J (bax1 + z2)), (6, J ((((bax1 + z2) + 30) + z1) + z11))] [.ref a] σ)) ?_
          refine T.get rfl rfl rfl hax1 rfl ?_
          refine T.go 2 (fun n9 => (rfl : _ = exe ξ n9 (d + 2) j_A_placeData 135 [(0, .ref a), (1, J x), (2, J z1), (3, JL (bax1 + z2)), (5, J (bax1 + z2)), (6, J ((((bax1 + z2) + 30) + z1) + z11))] [J 30, J (bax1 + z2), .ref (a + 1)] σ)) ?_
          refine T.iadd rfl ?_
          refine T.go 1 (fun n9 => (rfl : _ = exe ξ n9 (d + 2) j_A_placeData 137 [(0, .ref a), (1, J x), (2, J z1), (3, JL (bax1 + z2)), (5, J (bax1 + z2)), (6, J ((((bax1 + z2) + 30) + z1) + z11))] [.ref a, J ((bax1 + z2) + 30), .ref (a + 1)] σ)) ?_
          refine T.get rfl rfl rfl hax1 rfl ?_
          refine T.go 2 (fun n9 => (rfl : _ = exe ξ n9 (d + 2) j_A_placeData 143 [(0, .ref a), (1, J x), (2, J z1), (3, JL (bax1 + z2)), (5, J (bax1 + z2)), (6, J ((((bax1 + z2) + 30) + z1) + z11))] [J 46, J x, .ref (a + 1), J ((bax1 + z2) + 30), .ref (a + 1)] σ)) ?_
          refine T.iadd rfl ?_
          refine T.go 1 (fun n9 => (rfl : _ = exe ξ n9 (d + 2) j_A_placeData 145 [(0, .ref a), (1, J x), (2, J z1), (3, JL (bax1 + z2)), (5, J (bax1 + z2)), (6, J ((((bax1 + z2) + 30) + z1) + z11))] [J z1, J (x + 46), .ref (a + 1), J ((bax1 + z2) + 30), .ref (a + 1)] σ)) ?_
          refine T.callv (as := [J ((bax1 + z2) + 30), .ref (a + 1), J (x + 46), J z1]) (r := []) rfl rfl rfl (RwL_lt _ (kdX_ar _ ha).2.2.1).2.2.1 hrx2 rfl (s_R_hasPart (d + 1) (a + 1) ((bax1 + z2) + 30) (a + 1) (x + 46) z1 σ hK (kdX_ar _ ha).2.2.1 (kdX_ar _ ha).2.2.1  (by omega) (by omega) (by omega)) (fun v13 s13 hqs13 => ?_)
          obtain ⟨z13, rfl, esz13, hzz13, hyz13⟩ := hqs13
          rw [esz13]
          refine T.if_ne rfl rfl (by omega) (fun c10 => ?_) (fun c10 => ?_)
          · refine T.go 1 (fun n9 => (rfl : _ = exe ξ n9 (d + 2) j_A_placeData 155 [(0, .ref a), (1, J x), (2, J z1), (3, JL (bax1 + z2)), (5, J (bax1 + z2)), (6, J ((((bax1 + z2) + 30) + z1) + z11))] [J ((((bax1 + z2) + 30) + z1) + z11)] σ)) ?_
            exact T.ireti rfl rfl ⟨_, rfl, rfl, by omega, by omega⟩
          · refine T.go 1 (fun n9 => (rfl : _ = exe ξ n9 (d + 2) j_A_placeData 152 [(0, .ref a), (1, J x), (2, J z1), (3, JL (bax1 + z2)), (5, J (bax1 + z2)), (6, J ((((bax1 + z2) + 30) + z1) + z11))] [J (-1)] σ)) ?_
            exact T.ireti rfl rfl ⟨_, rfl, rfl, by omega, by omega⟩
        · refine T.go 1 (fun n9 => (rfl : _ = exe ξ n9 (d + 2) j_A_placeData 127 [(0, .ref a), (1, J x), (2, J z1), (3, JL (bax1 + z2)), (5, J (bax1 + z2)), (6, J ((((bax1 + z2) + 30) + z1) + z11))] [] σ)) ?_
          refine T.go 1 (fun n9 => (rfl : _ = exe ξ n9 (d + 2) j_A_placeData 128 [(0, .ref a), (1, J x), (2, J z1), (3, JL (bax1 + z2)), (5, J (bax1 + z2)), (6, J ((((bax1 + z2) + 30) + z1) + z11))] [.ref a] σ)) ?_
          refine T.get rfl rfl rfl hax1 rfl ?_
          refine T.go 2 (fun n9 => (rfl : _ = exe ξ n9 (d + 2) j_A_placeData 135 [(0, .ref a), (1, J x), (2, J z1), (3, JL (bax1 + z2)), (5, J (bax1 + z2)), (6, J ((((bax1 + z2) + 30) + z1) + z11))] [J 30, J (bax1 + z2), .ref (a + 1)] σ)) ?_
          refine T.iadd rfl ?_
          refine T.go 1 (fun n9 => (rfl : _ = exe ξ n9 (d + 2) j_A_placeData 137 [(0, .ref a), (1, J x), (2, J z1), (3, JL (bax1 + z2)), (5, J (bax1 + z2)), (6, J ((((bax1 + z2) + 30) + z1) + z11))] [.ref a, J ((bax1 + z2) + 30), .ref (a + 1)] σ)) ?_
          refine T.get rfl rfl rfl hax1 rfl ?_
          refine T.go 2 (fun n9 => (rfl : _ = exe ξ n9 (d + 2) j_A_placeData 143 [(0, .ref a), (1, J x), (2, J z1), (3, JL (bax1 + z2)), (5, J (bax1 + z2)), (6, J ((((bax1 + z2) + 30) + z1) + z11))] [J 46, J x, .ref (a + 1), J ((bax1 + z2) + 30), .ref (a + 1)] σ)) ?_
          refine T.iadd rfl ?_
          refine T.go 1 (fun n9 => (rfl : _ = exe ξ n9 (d + 2) j_A_placeData 145 [(0, .ref a), (1, J x), (2, J z1), (3, JL (bax1 + z2)), (5, J (bax1 + z2)), (6, J ((((bax1 + z2) + 30) + z1) + z11))] [J z1, J (x + 46), .ref (a + 1), J ((bax1 + z2) + 30), .ref (a + 1)] σ)) ?_
          refine T.callv (as := [J ((bax1 + z2) + 30), .ref (a + 1), J (x + 46), J z1]) (r := []) rfl rfl rfl (RwL_lt _ (kdX_ar _ ha).2.2.1).2.2.1 hrx2 rfl (s_R_hasPart (d + 1) (a + 1) ((bax1 + z2) + 30) (a + 1) (x + 46) z1 σ hK (kdX_ar _ ha).2.2.1 (kdX_ar _ ha).2.2.1  (by omega) (by omega) (by omega)) (fun v14 s14 hqs14 => ?_)
          obtain ⟨z14, rfl, esz14, hzz14, hyz14⟩ := hqs14
          rw [esz14]
          refine T.if_ne rfl rfl (by omega) (fun c11 => ?_) (fun c11 => ?_)
          · refine T.go 1 (fun n9 => (rfl : _ = exe ξ n9 (d + 2) j_A_placeData 155 [(0, .ref a), (1, J x), (2, J z1), (3, JL (bax1 + z2)), (5, J (bax1 + z2)), (6, J ((((bax1 + z2) + 30) + z1) + z11))] [J ((((bax1 + z2) + 30) + z1) + z11)] σ)) ?_
            exact T.ireti rfl rfl ⟨_, rfl, rfl, by omega, by omega⟩
          · refine T.go 1 (fun n9 => (rfl : _ = exe ξ n9 (d + 2) j_A_placeData 152 [(0, .ref a), (1, J x), (2, J z1), (3, JL (bax1 + z2)), (5, J (bax1 + z2)), (6, J ((((bax1 + z2) + 30) + z1) + z11))] [J (-1)] σ)) ?_
            exact T.ireti rfl rfl ⟨_, rfl, rfl, by omega, by omega⟩
        · refine T.go 1 (fun n9 => (rfl : _ = exe ξ n9 (d + 2) j_A_placeData 151 [(0, .ref a), (1, J x), (2, J z1), (3, JL (bax1 + z2)), (5, J (bax1 + z2)), (6, J ((((bax1 + z2) + 30) + z1) + z11))] [] σ)) ?_
          refine T.go 1 (fun n9 => (rfl : _ = exe ξ n9 (d + 2) j_A_placeData 152 [(0, .ref a), (1, J x), (2, J z1), (3, JL (bax1 + z2)), (5, J (bax1 + z2)), (6, J ((((bax1 + z2) + 30) + z1) + z11))] [J (-1)] σ)) ?_
          exact T.ireti rfl rfl ⟨_, rfl, rfl, by omega, by omega⟩
      · refine T.go 1 (fun n9 => (rfl : _ = exe ξ n9 (d + 2) j_A_placeData 80 [(0, .ref a), (1, J x), (2, J z1), (3, JL (bax1 + z2)), (5, J (bax1 + z2))] [J (-1)] σ)) ?_
        exact T.ireti rfl rfl ⟨_, rfl, rfl, by omega, by omega⟩
  · refine T.go 1 (fun n9 => (rfl : _ = exe ξ n9 (d + 2) j_A_placeData 43 [(0, .ref a), (1, J x), (2, J z1), (3, JL (bax1 + z2))] [] σ)) ?_
    refine T.go 1 (fun n9 => (rfl : _ = exe ξ n9 (d + 2) j_A_placeData 44 [(0, .ref a), (1, J x), (2, J z1), (3, JL (bax1 + z2))] [J (-1)] σ)) ?_
    exact T.ireti rfl rfl ⟨_, rfl, rfl, by omega, by omega⟩

set_option maxRecDepth 10000 in
set_option maxHeartbeats 4000000 in
theorem s_A_surveyHeader {ξ : Nat → Option (Nat × List Int32)} (d : Nat) (a : Nat) (x : Int) (σ : qH) (hK : K σ) (ha : a ∈ ArL) (rx : -2147483648 ≤ x ∧ x ≤ 2147483647) : T ξ (d + 3) j_A_surveyHeader 0 (lv_args 0 [.ref a, J x]) [] σ (fun v σ' => ∃ z : Int, v = some (J z) ∧ σ' = σ ∧ 0 ≤ z ∧ z ≤ 5 ∧ (z = 0 → x ≤ 8000)) := by
  refine T.go 2 (fun n9 => (rfl : _ = exe ξ n9 (d + 3) j_A_surveyHeader 2 [(0, .ref a), (1, J x)] [.ref a, J x] σ)) ?_
  obtain ⟨ex1, erx1, dix1, bax1, fpx1, hax1, fx1a, fx1b, fx1c, fx1d, fx1e, fx1f, fx1g, fx1h, fx1i, fx1j⟩ := hK.arc ha
  refine T.get rfl rfl rfl hax1 rfl ?_
  refine T.go 1 (fun n9 => (rfl : _ = exe ξ n9 (d + 3) j_A_surveyHeader 7 [(0, .ref a), (1, J x)] [J 46, J erx1, J x] σ)) ?_
  refine T.isub rfl ?_
  refine T.icmp_gt rfl rfl (by omega) (by omega) (fun c1 => ?_) (fun c1 => ?_)
  · refine T.go 1 (fun n9 => (rfl : _ = exe ξ n9 (d + 3) j_A_surveyHeader 53 [(0, .ref a), (1, J x)] [J 3] σ)) ?_
    exact T.ireti rfl rfl ⟨_, rfl, rfl, by omega, by omega, by omega⟩
  · refine T.go 1 (fun n9 => (rfl : _ = exe ξ n9 (d + 3) j_A_surveyHeader 12 [(0, .ref a), (1, J x)] [.ref a] σ)) ?_
    refine T.get rfl rfl rfl hax1 rfl ?_
    refine T.go 3 (fun n9 => (rfl : _ = exe ξ n9 (d + 3) j_A_surveyHeader 18 [(0, .ref a), (1, J x)] [J 2, J 1, J x, .ref (a + 1)] σ)) ?_
    obtain ⟨mx2, nx2, bx2, lx2, hrx2, hbx2, fx2a, fx2b, fx2c, fx2d, fx2e, fx2g, fx2h, fx2i⟩ := hK.row (kdX_ar _ ha).2.2.1
    refine T.callv (as := [J x, J 1, J 2]) (r := []) rfl rfl rfl (RwL_lt _ (kdX_ar _ ha).2.2.1).2.2.1 hrx2 rfl (s_R_hasMark (d + 1) (a + 1) x 1 2 σ hK (kdX_ar _ ha).2.2.1  (by omega) (by omega) (by omega)) (fun v1 s1 hqs1 => ?_)
    obtain ⟨z1, rfl, esz1, hzz1, hyz1⟩ := hqs1
    rw [esz1]
    refine T.if_eq rfl rfl (by omega) (fun c2 => ?_) (fun c2 => ?_)
    · refine T.go 1 (fun n9 => (rfl : _ = exe ξ n9 (d + 3) j_A_surveyHeader 53 [(0, .ref a), (1, J x)] [J 3] σ)) ?_
      exact T.ireti rfl rfl ⟨_, rfl, rfl, by omega, by omega, by omega⟩
    · refine T.go 1 (fun n9 => (rfl : _ = exe ξ n9 (d + 3) j_A_surveyHeader 25 [(0, .ref a), (1, J x)] [.ref a] σ)) ?_
      refine T.get rfl rfl rfl hax1 rfl ?_
      refine T.go 2 (fun n9 => (rfl : _ = exe ξ n9 (d + 3) j_A_surveyHeader 31 [(0, .ref a), (1, J x)] [J 34, J x, .ref (a + 1)] σ)) ?_
      refine T.iadd rfl ?_
      refine T.callv (as := [J (x + 34)]) (r := []) rfl rfl rfl (RwL_lt _ (kdX_ar _ ha).2.2.1).2.2.1 hrx2 rfl (s_R_two (d + 2) (a + 1) (x + 34) σ hK (kdX_ar _ ha).2.2.1  (by omega)) (fun v2 s2 hqs2 => ?_)
      obtain ⟨z2, rfl, esz2, hzz2, hyz2⟩ := hqs2
      rw [esz2]
      refine T.if_ne rfl rfl (by omega) (fun c3 => ?_) (fun c3 => ?_)
      · refine T.go 1 (fun n9 => (rfl : _ = exe ξ n9 (d + 3) j_A_surveyHeader 53 [(0, .ref a), (1, J x)] [J 3] σ)) ?_
        exact T.ireti rfl rfl ⟨_, rfl, rfl, by omega, by omega, by omega⟩
      · refine T.go 2 (fun n9 => (rfl : _ = exe ξ n9 (d + 3) j_A_surveyHeader 40 [(0, .ref a), (1, J x)] [J x, .ref a] σ)) ?_
        refine T.callv (as := [J x]) (r := []) rfl rfl rfl (ArL_lt _ ha).2.2.1 hax1 rfl (s_A_headerLength (d + 1) a x σ hK ha  (by omega) (by omega)) (fun v3 s3 hqs3 => ?_)
        obtain ⟨z3, rfl, esz3, hzz3, hyz3⟩ := hqs3
        rw [esz3]
        refine T.go 1 (fun n9 => (rfl : _ = exe ξ n9 (d + 3) j_A_surveyHeader 44 [(0, .ref a), (1, J x)] [.ref a, J z3] σ)) ?_
        refine T.get rfl rfl rfl hax1 rfl ?_
        refine T.go 1 (fun n9 => (rfl : _ = exe ξ n9 (d + 3) j_A_surveyHeader 48 [(0, .ref a), (1, J x)] [J x, J erx1, J z3] σ)) ?_
        refine T.isub rfl ?_
        refine T.norm (fun z4 hzz4 hyz4 hwz4 => ?_)
        refine T.icmp_le rfl rfl (by omega) (by omega) (fun c4 => ?_) (fun c4 => ?_)
        · refine T.go 2 (fun n9 => (rfl : _ = exe ξ n9 (d + 3) j_A_surveyHeader 56 [(0, .ref a), (1, J x)] [J x, .ref a] σ)) ?_
          refine T.callv (as := [J x]) (r := []) rfl rfl rfl (ArL_lt _ ha).2.2.1 hax1 rfl (s_A_isFreshName d a x σ hK ha  (by omega) (by omega)) (fun v4 s4 hqs4 => ?_)
          obtain ⟨z5, rfl, esz5, hzz5, hyz5⟩ := hqs4
          rw [esz5]
          refine T.if_ne rfl rfl (by omega) (fun c5 => ?_) (fun c5 => ?_)
          · refine T.go 2 (fun n9 => (rfl : _ = exe ξ n9 (d + 3) j_A_surveyHeader 66 [(0, .ref a), (1, J x)] [J x, .ref a] σ)) ?_
            refine T.callv (as := [J x]) (r := []) rfl rfl rfl (ArL_lt _ ha).2.2.1 hax1 rfl (s_A_placeData d a x σ hK ha  (by omega) (by omega)) (fun v5 s5 hqs5 => ?_)
            obtain ⟨z6, rfl, esz6, hzz6, hyz6⟩ := hqs5
            rw [esz6]
            refine T.if_ge rfl rfl (by omega) (fun c6 => ?_) (fun c6 => ?_)
            · refine T.go 1 (fun n9 => (rfl : _ = exe ξ n9 (d + 3) j_A_surveyHeader 77 [(0, .ref a), (1, J x)] [J 0] σ)) ?_
              exact T.ireti rfl rfl ⟨_, rfl, rfl, by omega, by omega, by omega⟩
            · refine T.go 2 (fun n9 => (rfl : _ = exe ξ n9 (d + 3) j_A_surveyHeader 77 [(0, .ref a), (1, J x)] [J 5] σ)) ?_
              exact T.ireti rfl rfl ⟨_, rfl, rfl, by omega, by omega, by omega⟩
          · refine T.go 1 (fun n9 => (rfl : _ = exe ξ n9 (d + 3) j_A_surveyHeader 63 [(0, .ref a), (1, J x)] [J 4] σ)) ?_
            exact T.ireti rfl rfl ⟨_, rfl, rfl, by omega, by omega, by omega⟩
        · refine T.go 1 (fun n9 => (rfl : _ = exe ξ n9 (d + 3) j_A_surveyHeader 53 [(0, .ref a), (1, J x)] [J 3] σ)) ?_
          exact T.ireti rfl rfl ⟨_, rfl, rfl, by omega, by omega, by omega⟩

set_option maxRecDepth 10000 in
set_option maxHeartbeats 4000000 in
theorem s_A_survey {ξ : Nat → Option (Nat × List Int32)} (d : Nat) (a : Nat) (σ : qH) (hK : K σ) (ha : a ∈ ArL)  : T ξ (d + 4) j_A_survey 0 (lv_args 0 [.ref a]) [] σ (fun v σ' => ∃ z : Int, v = some (J z) ∧ Fr [a, a + 3, a + 4] σ σ' ∧ 0 ≤ z ∧ z ≤ 5) := by
  have la := (ArL_lt a ha).2.1
  have loop58 : ∀ (f : Nat) (t : Int) (h : Int) (k : Int) (τ : qH), Fr [a, a + 3, a + 4] σ τ → -1 ≤ t → t ≤ 65535 → -2147483648 ≤ h → h ≤ 2147483647 → 0 ≤ k → k ≤ 64 → (64 - k).toNat < f → T ξ (d + 4) j_A_survey 58 [(0, .ref a), (1, J t), (2, J h), (3, J k)] [] τ (fun v σ' => ∃ z : Int, v = some (J z) ∧ Fr [a, a + 3, a + 4] σ σ' ∧ 0 ≤ z ∧ z ≤ 5) := by
    intro f
    induction f with
    | zero => intro t h k τ hτ i0 i1 i2 i3 i4 i5 hm; omega
    | succ f ih =>
      intro t h k τ hτ i0 i1 i2 i3 i4 i5 hm
      refine T.go 2 (fun n9 => (rfl : _ = exe ξ n9 (d + 4) j_A_survey 60 [(0, .ref a), (1, J t), (2, J h), (3, J k)] [J t, J k] τ)) ?_
      refine T.icmp_ge rfl rfl (by omega) (by omega) (fun c1 => ?_) (fun c1 => ?_)
      · refine T.go 2 (fun n9 => (rfl : _ = exe ξ n9 (d + 4) j_A_survey 130 [(0, .ref a), (1, J t), (2, J h), (3, J k)] [.ref a, .ref a] τ)) ?_
        obtain ⟨ex1, erx1, dix1, bax1, fpx1, hax1, fx1a, fx1b, fx1c, fx1d, fx1e, fx1f, fx1g, fx1h, fx1i, fx1j⟩ := hτ.1.arc ha
        refine T.get rfl rfl rfl hax1 rfl ?_
        refine T.putF (w := [a, a + 3, a + 4]) rfl rfl hax1 rfl rfl rfl (fs' := [.ref (a + 1), .ref (a + 3), .ref (a + 4), J ex1, J erx1, J dix1, J bax1, J ex1]) rfl (Fr.other hτ.1 hax1 rfl ⟨_, _, _, _, _, rfl, by omega⟩ (ArL_nR _ ha) (Or.inl (by have := ArL_lt _ ha; omega)) (fun _ z => by cases z) (by simp)) (fun s1 hs1 hcs1 hos1 => ?_)
        have gs1 := hτ.trans hs1
        refine T.go 2 (fun n9 => (rfl : _ = exe ξ n9 (d + 4) j_A_survey 138 [(0, .ref a), (1, J t), (2, J h), (3, J k)] [.ref a, J h] s1)) ?_
        refine T.get rfl rfl rfl hcs1 rfl ?_
        refine T.icmp_ne rfl rfl (by omega) (by omega) (fun c2 => ?_) (fun c2 => ?_)
        · refine T.go 1 (fun n9 => (rfl : _ = exe ξ n9 (d + 4) j_A_survey 149 [(0, .ref a), (1, J t), (2, J h), (3, J k)] [J 3] s1)) ?_
          exact T.ireti rfl rfl ⟨_, rfl, gs1, by omega, by omega⟩
        · refine T.go 2 (fun n9 => (rfl : _ = exe ξ n9 (d + 4) j_A_survey 149 [(0, .ref a), (1, J t), (2, J h), (3, J k)] [J 0] s1)) ?_
          exact T.ireti rfl rfl ⟨_, rfl, gs1, by omega, by omega⟩
      · refine T.go 2 (fun n9 => (rfl : _ = exe ξ n9 (d + 4) j_A_survey 66 [(0, .ref a), (1, J t), (2, J h), (3, J k)] [J 64, J k] τ)) ?_
        refine T.icmp_ge rfl rfl (by omega) (by omega) (fun c3 => ?_) (fun c3 => ?_)
        · refine T.go 2 (fun n9 => (rfl : _ = exe ξ n9 (d + 4) j_A_survey 130 [(0, .ref a), (1, J t), (2, J h), (3, J k)] [.ref a, .ref a] τ)) ?_
          obtain ⟨ex2, erx2, dix2, bax2, fpx2, hax2, fx2a, fx2b, fx2c, fx2d, fx2e, fx2f, fx2g, fx2h, fx2i, fx2j⟩ := hτ.1.arc ha
          refine T.get rfl rfl rfl hax2 rfl ?_
          refine T.putF (w := [a, a + 3, a + 4]) rfl rfl hax2 rfl rfl rfl (fs' := [.ref (a + 1), .ref (a + 3), .ref (a + 4), J ex2, J erx2, J dix2, J bax2, J ex2]) rfl (Fr.other hτ.1 hax2 rfl ⟨_, _, _, _, _, rfl, by omega⟩ (ArL_nR _ ha) (Or.inl (by have := ArL_lt _ ha; omega)) (fun _ z => by cases z) (by simp)) (fun s2 hs2 hcs2 hos2 => ?_)
          have gs2 := hτ.trans hs2
          refine T.go 2 (fun n9 => (rfl : _ = exe ξ n9 (d + 4) j_A_survey 138 [(0, .ref a), (1, J t), (2, J h), (3, J k)] [.ref a, J h] s2)) ?_
          refine T.get rfl rfl rfl hcs2 rfl ?_
          refine T.icmp_ne rfl rfl (by omega) (by omega) (fun c4 => ?_) (fun c4 => ?_)
          · refine T.go 1 (fun n9 => (rfl : _ = exe ξ n9 (d + 4) j_A_survey 149 [(0, .ref a), (1, J t), (2, J h), (3, J k)] [J 3] s2)) ?_
            exact T.ireti rfl rfl ⟨_, rfl, gs2, by omega, by omega⟩
          · refine T.go 2 (fun n9 => (rfl : _ = exe ξ n9 (d + 4) j_A_survey 149 [(0, .ref a), (1, J t), (2, J h), (3, J k)] [J 0] s2)) ?_
            exact T.ireti rfl rfl ⟨_, rfl, gs2, by omega, by omega⟩
        · refine T.go 2 (fun n9 => (rfl : _ = exe ξ n9 (d + 4) j_A_survey 71 [(0, .ref a), (1, J t), (2, J h), (3, J k)] [J h, .ref a] τ)) ?_
          obtain ⟨ex3, erx3, dix3, bax3, fpx3, hax3, fx3a, fx3b, fx3c, fx3d, fx3e, fx3f, fx3g, fx3h, fx3i, fx3j⟩ := hτ.1.arc ha
          refine T.callv (as := [J h]) (r := []) rfl rfl rfl (ArL_lt _ ha).2.2.1 hax3 rfl (s_A_surveyHeader d a h τ hτ.1 ha  (by omega)) (fun v1 s3 hqs3 => ?_)
          obtain ⟨z1, rfl, esz1, hzz1, hyz1, pz1_0⟩ := hqs3
          rw [esz1]
          refine T.go 2 (fun n9 => (rfl : _ = exe ξ n9 (d + 4) j_A_survey 78 [(0, .ref a), (1, J t), (2, J h), (3, J k), (4, J z1)] [J z1] τ)) ?_
          refine T.if_eq rfl rfl (by omega) (fun c5 => ?_) (fun c5 => ?_)
          · refine T.go 1 (fun n9 => (rfl : _ = exe ξ n9 (d + 4) j_A_survey 90 [(0, .ref a), (1, J t), (2, J h), (3, J k), (4, J z1)] [.ref a] τ)) ?_
            refine T.get rfl rfl rfl hax3 rfl ?_
            refine T.go 2 (fun n9 => (rfl : _ = exe ξ n9 (d + 4) j_A_survey 95 [(0, .ref a), (1, J t), (2, J h), (3, J k), (4, J z1)] [J h, J k, .ref (a + 3)] τ)) ?_
            obtain ⟨lx4, hix4, elx4⟩ := hτ.1.ints (kdX_ar _ ha).2.2.2.1
            refine T.iastF (w := [a, a + 3, a + 4]) rfl hτ.1 hix4 (by omega) (ArA_nR _ ha).1 (Or.inl (by have := ArL_lt _ ha; omega)) (by simp) (fun s4 hs4 hcs4 hos4 => ?_)
            have els4 : (lx4.set (k : Int).toNat (Int32.ofInt h)).length = 64 := List.length_set.trans elx4
            have gs4 := hτ.trans hs4
            have k1 := hos4 (by omega) hax3
            refine T.go 1 (fun n9 => (rfl : _ = exe ξ n9 (d + 4) j_A_survey 97 [(0, .ref a), (1, J t), (2, J h), (3, J k), (4, J z1)] [.ref a] s4)) ?_
            refine T.get rfl rfl rfl k1 rfl ?_
            refine T.go 3 (fun n9 => (rfl : _ = exe ξ n9 (d + 4) j_A_survey 103 [(0, .ref a), (1, J t), (2, J h), (3, J k), (4, J z1)] [J h, .ref a, J k, .ref (a + 4)] s4)) ?_
            refine T.callv (as := [J h]) (r := [J k, .ref (a + 4)]) rfl rfl rfl (ArL_lt _ ha).2.2.1 k1 rfl (s_A_placeData (d + 1) a h s4 hs4.1 ha  (by omega) (by omega)) (fun v2 s5 hqs5 => ?_)
            obtain ⟨z2, rfl, esz2, hzz2, hyz2⟩ := hqs5
            rw [esz2]
            obtain ⟨lx5, hix5, elx5⟩ := hs4.1.ints (kdX_ar _ ha).2.2.2.2
            refine T.iastF (w := [a, a + 3, a + 4]) rfl hs4.1 hix5 (by omega) (ArA_nR _ ha).2 (Or.inl (by have := ArL_lt _ ha; omega)) (by simp) (fun s6 hs6 hcs6 hos6 => ?_)
            have els6 : (lx5.set (k : Int).toNat (Int32.ofInt z2)).length = 64 := List.length_set.trans elx5
            have gs6 := gs4.trans hs6
            have k2 := hos6 (by omega) hcs4
            have k3 := hos6 (by omega) k1
            refine T.go 3 (fun n9 => (rfl : _ = exe ξ n9 (d + 4) j_A_survey 110 [(0, .ref a), (1, J t), (2, J h), (3, J k), (4, J z1)] [J 1, J k, .ref a] s6)) ?_
            refine T.iadd rfl ?_
            refine T.putF (w := [a, a + 3, a + 4]) rfl rfl k3 rfl rfl rfl (fs' := [.ref (a + 1), .ref (a + 3), .ref (a + 4), J (k + 1), J erx3, J dix3, J bax3, J fpx3]) rfl (Fr.other hs6.1 k3 rfl ⟨_, _, _, _, _, rfl, by omega⟩ (ArL_nR _ ha) (Or.inl (by have := ArL_lt _ ha; omega)) (fun _ z => by cases z) (by simp)) (fun s7 hs7 hcs7 hos7 => ?_)
            have gs7 := gs6.trans hs7
            have k4 := hos7 (by omega) hcs6
            have k5 := hos7 (by omega) k2
            refine T.go 3 (fun n9 => (rfl : _ = exe ξ n9 (d + 4) j_A_survey 117 [(0, .ref a), (1, J t), (2, J h), (3, J k), (4, J z1)] [J h, .ref a, J h] s7)) ?_
            refine T.callv (as := [J h]) (r := [J h]) rfl rfl rfl (ArL_lt _ ha).2.2.1 hcs7 rfl (s_A_headerLength (d + 2) a h s7 hs7.1 ha  (by omega) (by omega)) (fun v3 s8 hqs8 => ?_)
            obtain ⟨z3, rfl, esz3, hzz3, hyz3⟩ := hqs8
            rw [esz3]
            refine T.iadd rfl ?_
            refine T.norm (fun z4 hzz4 hyz4 hwz4 => ?_)
            refine T.go 1 (fun n9 => (rfl : _ = exe ξ n9 (d + 4) j_A_survey 122 [(0, .ref a), (1, J t), (2, J z4), (3, J k), (4, J z1)] [] s7)) ?_
            refine T.iinc (lv' := [(0, .ref a), (1, J t), (2, J z4), (3, J (k + 1)), (4, J z1)]) rfl rfl rfl rfl ?_
            refine T.go 1 (fun n9 => (rfl : _ = exe ξ n9 (d + 4) j_A_survey 58 [(0, .ref a), (1, J t), (2, J z4), (3, J (k + 1)), (4, J z1)] [] s7)) ?_
            refine T.drop (lv := [(0, .ref a), (1, J t), (2, J z4), (3, J (k + 1))]) [(4, J z1)] (by simp) ?_
            exact ih  t z4 (k + 1) s7 gs7 (by omega) (by omega) (by omega) (by omega) (by omega) (by omega) (by omega)
          · refine T.go 2 (fun n9 => (rfl : _ = exe ξ n9 (d + 4) j_A_survey 83 [(0, .ref a), (1, J t), (2, J h), (3, J k), (4, J z1)] [J k, .ref a] τ)) ?_
            refine T.putF (w := [a, a + 3, a + 4]) rfl rfl hax3 rfl rfl rfl (fs' := [.ref (a + 1), .ref (a + 3), .ref (a + 4), J ex3, J erx3, J dix3, J bax3, J k]) rfl (Fr.other hτ.1 hax3 rfl ⟨_, _, _, _, _, rfl, by omega⟩ (ArL_nR _ ha) (Or.inl (by have := ArL_lt _ ha; omega)) (fun _ z => by cases z) (by simp)) (fun s9 hs9 hcs9 hos9 => ?_)
            have gs9 := hτ.trans hs9
            refine T.go 1 (fun n9 => (rfl : _ = exe ξ n9 (d + 4) j_A_survey 88 [(0, .ref a), (1, J t), (2, J h), (3, J k), (4, J z1)] [J z1] s9)) ?_
            exact T.ireti rfl rfl ⟨_, rfl, gs9, by omega, by omega⟩
  refine T.go 2 (fun n9 => (rfl : _ = exe ξ n9 (d + 4) j_A_survey 2 [(0, .ref a)] [J 0, .ref a] σ)) ?_
  obtain ⟨ex6, erx6, dix6, bax6, fpx6, hax6, fx6a, fx6b, fx6c, fx6d, fx6e, fx6f, fx6g, fx6h, fx6i, fx6j⟩ := hK.arc ha
  refine T.putF (w := [a, a + 3, a + 4]) rfl rfl hax6 rfl rfl rfl (fs' := [.ref (a + 1), .ref (a + 3), .ref (a + 4), J 0, J erx6, J dix6, J bax6, J fpx6]) rfl (Fr.other hK hax6 rfl ⟨_, _, _, _, _, rfl, by omega⟩ (ArL_nR _ ha) (Or.inl (by have := ArL_lt _ ha; omega)) (fun _ z => by cases z) (by simp)) (fun s10 hs10 hcs10 hos10 => ?_)
  refine T.go 2 (fun n9 => (rfl : _ = exe ξ n9 (d + 4) j_A_survey 7 [(0, .ref a)] [J (-1), .ref a] s10)) ?_
  refine T.putF (w := [a, a + 3, a + 4]) rfl rfl hcs10 rfl rfl rfl (fs' := [.ref (a + 1), .ref (a + 3), .ref (a + 4), J 0, J erx6, J dix6, J bax6, J (-1)]) rfl (Fr.other hs10.1 hcs10 rfl ⟨_, _, _, _, _, rfl, by omega⟩ (ArL_nR _ ha) (Or.inl (by have := ArL_lt _ ha; omega)) (fun _ z => by cases z) (by simp)) (fun s11 hs11 hcs11 hos11 => ?_)
  have gs11 := hs10.trans hs11
  refine T.go 2 (fun n9 => (rfl : _ = exe ξ n9 (d + 4) j_A_survey 12 [(0, .ref a)] [.ref a, .ref a] s11)) ?_
  refine T.callv (as := []) (r := [.ref a]) rfl rfl rfl (ArL_lt _ ha).2.2.1 hcs11 rfl (s_A_lastEndRecord (d + 1) a s11 hs11.1 ha  ) (fun v4 s12 hqs12 => ?_)
  obtain ⟨z5, rfl, esz5, hzz5, hyz5⟩ := hqs12
  rw [esz5]
  refine T.putF (w := [a, a + 3, a + 4]) rfl rfl hcs11 rfl rfl rfl (fs' := [.ref (a + 1), .ref (a + 3), .ref (a + 4), J 0, J z5, J dix6, J bax6, J (-1)]) rfl (Fr.other hs11.1 hcs11 rfl ⟨_, _, _, _, _, rfl, by omega⟩ (ArL_nR _ ha) (Or.inl (by have := ArL_lt _ ha; omega)) (fun _ z => by cases z) (by simp)) (fun s13 hs13 hcs13 hos13 => ?_)
  have gs13 := gs11.trans hs13
  refine T.go 1 (fun n9 => (rfl : _ = exe ξ n9 (d + 4) j_A_survey 19 [(0, .ref a)] [.ref a] s13)) ?_
  refine T.get rfl rfl rfl hcs13 rfl ?_
  refine T.if_ge rfl rfl (by omega) (fun c6 => ?_) (fun c6 => ?_)
  · refine T.go 1 (fun n9 => (rfl : _ = exe ξ n9 (d + 4) j_A_survey 28 [(0, .ref a)] [.ref a] s13)) ?_
    refine T.callv (as := []) (r := []) rfl rfl rfl (ArL_lt _ ha).2.2.1 hcs13 rfl (s_A_placeDirectory (d + 1) a s13 hs13.1 ha  ) (fun v5 s14 hqs14 => ?_)
    obtain ⟨z6, rfl, hs14, hzz6, hyz6⟩ := hqs14
    have es14 := hs14
    have hs14 := hs14.sub (w' := [a, a + 3, a + 4]) (List.forall_mem_cons.mpr ⟨(by simp), (fun _ h => by cases h)⟩)
    have gs14 := gs13.trans hs14
    refine T.if_ne rfl rfl (by omega) (fun c7 => ?_) (fun c7 => ?_)
    · refine T.go 1 (fun n9 => (rfl : _ = exe ξ n9 (d + 4) j_A_survey 37 [(0, .ref a)] [.ref a] s14)) ?_
      obtain ⟨ex7, erx7, dix7, bax7, fpx7, hax7, fx7a, fx7b, fx7c, fx7d, fx7e, fx7f, fx7g, fx7h, fx7i, fx7j⟩ := hs14.1.arc ha
      refine T.get rfl rfl rfl hax7 rfl ?_
      refine T.go 1 (fun n9 => (rfl : _ = exe ξ n9 (d + 4) j_A_survey 41 [(0, .ref a)] [.ref a, .ref (a + 1)] s14)) ?_
      refine T.get rfl rfl rfl hax7 rfl ?_
      refine T.go 1 (fun n9 => (rfl : _ = exe ξ n9 (d + 4) j_A_survey 46 [(0, .ref a)] [J 8, J erx7, .ref (a + 1)] s14)) ?_
      refine T.iadd rfl ?_
      obtain ⟨mx8, nx8, bx8, lx8, hrx8, hbx8, fx8a, fx8b, fx8c, fx8d, fx8e, fx8g, fx8h, fx8i⟩ := hs14.1.row (kdX_ar _ ha).2.2.1
      refine T.callv (as := [J (erx7 + 8)]) (r := []) rfl rfl rfl (RwL_lt _ (kdX_ar _ ha).2.2.1).2.2.1 hrx8 rfl (s_R_two (d + 3) (a + 1) (erx7 + 8) s14 hs14.1 (kdX_ar _ ha).2.2.1  (by omega)) (fun v6 s15 hqs15 => ?_)
      obtain ⟨z7, rfl, esz7, hzz7, hyz7⟩ := hqs15
      rw [esz7]
      refine T.go 2 (fun n9 => (rfl : _ = exe ξ n9 (d + 4) j_A_survey 52 [(0, .ref a), (1, J z7)] [.ref a] s14)) ?_
      refine T.get rfl rfl rfl hax7 rfl ?_
      refine T.go 3 (fun n9 => (rfl : _ = exe ξ n9 (d + 4) j_A_survey 58 [(0, .ref a), (1, J z7), (2, J dix7), (3, J 0)] [] s14)) ?_
      exact loop58 _ z7 dix7 0 s14 gs14 (by omega) (by omega) (by omega) (by omega) (by omega) (by omega) (Nat.lt_succ_self _)
    · refine T.go 1 (fun n9 => (rfl : _ = exe ξ n9 (d + 4) j_A_survey 35 [(0, .ref a)] [J 2] s14)) ?_
      exact T.ireti rfl rfl ⟨_, rfl, gs14, by omega, by omega⟩
  · refine T.go 1 (fun n9 => (rfl : _ = exe ξ n9 (d + 4) j_A_survey 26 [(0, .ref a)] [J 1] s13)) ?_
    exact T.ireti rfl rfl ⟨_, rfl, gs13, by omega, by omega⟩

set_option maxRecDepth 10000 in
set_option maxHeartbeats 4000000 in
theorem s_A_hasEntry {ξ : Nat → Option (Nat × List Int32)} (d : Nat) (a : Nat) (x : Int) (σ : qH) (hK : K σ) (ha : a ∈ ArL) (rx : -2147483648 ≤ x ∧ x ≤ 2147483647) : T ξ d j_A_hasEntry 0 (lv_args 0 [.ref a, J x]) [] σ (fun v σ' => ∃ z : Int, v = some (J z) ∧ σ' = σ ∧ 0 ≤ z ∧ z ≤ 1 ∧ (z = 1 → 0 ≤ x ∧ x ≤ 63)) := by
  refine T.go 1 (fun n9 => (rfl : _ = exe ξ n9 d j_A_hasEntry 1 [(0, .ref a), (1, J x)] [J x] σ)) ?_
  refine T.if_lt rfl rfl (by omega) (fun c1 => ?_) (fun c1 => ?_)
  · refine T.go 1 (fun n9 => (rfl : _ = exe ξ n9 d j_A_hasEntry 23 [(0, .ref a), (1, J x)] [J 0] σ)) ?_
    exact T.iretz rfl rfl (by omega) ⟨_, rfl, rfl, by omega, by omega, by omega⟩
  · refine T.go 2 (fun n9 => (rfl : _ = exe ξ n9 d j_A_hasEntry 6 [(0, .ref a), (1, J x)] [.ref a, J x] σ)) ?_
    obtain ⟨ex1, erx1, dix1, bax1, fpx1, hax1, fx1a, fx1b, fx1c, fx1d, fx1e, fx1f, fx1g, fx1h, fx1i, fx1j⟩ := hK.arc ha
    refine T.get rfl rfl rfl hax1 rfl ?_
    refine T.icmp_ge rfl rfl (by omega) (by omega) (fun c2 => ?_) (fun c2 => ?_)
    · refine T.go 1 (fun n9 => (rfl : _ = exe ξ n9 d j_A_hasEntry 23 [(0, .ref a), (1, J x)] [J 0] σ)) ?_
      exact T.iretz rfl rfl (by omega) ⟨_, rfl, rfl, by omega, by omega, by omega⟩
    · refine T.go 2 (fun n9 => (rfl : _ = exe ξ n9 d j_A_hasEntry 15 [(0, .ref a), (1, J x)] [J 64, J x] σ)) ?_
      refine T.icmp_ge rfl rfl (by omega) (by omega) (fun c3 => ?_) (fun c3 => ?_)
      · refine T.go 1 (fun n9 => (rfl : _ = exe ξ n9 d j_A_hasEntry 23 [(0, .ref a), (1, J x)] [J 0] σ)) ?_
        exact T.iretz rfl rfl (by omega) ⟨_, rfl, rfl, by omega, by omega, by omega⟩
      · refine T.go 2 (fun n9 => (rfl : _ = exe ξ n9 d j_A_hasEntry 23 [(0, .ref a), (1, J x)] [J 1] σ)) ?_
        exact T.iretz rfl rfl (by omega) ⟨_, rfl, rfl, by omega, by omega, by omega⟩

set_option maxRecDepth 10000 in
set_option maxHeartbeats 4000000 in
theorem s_A_header {ξ : Nat → Option (Nat × List Int32)} (d : Nat) (a : Nat) (x : Int) (σ : qH) (hK : K σ) (ha : a ∈ ArL) (rx : -2147483648 ≤ x ∧ x ≤ 2147483647) : T ξ (d + 1) j_A_header 0 (lv_args 0 [.ref a, J x]) [] σ (fun v σ' => ∃ z : Int, v = some (J z) ∧ σ' = σ ∧ -2147483648 ≤ z ∧ z ≤ 2147483647) := by
  have la := (ArL_lt a ha).2.1
  refine T.go 2 (fun n9 => (rfl : _ = exe ξ n9 (d + 1) j_A_header 2 [(0, .ref a), (1, J x)] [J x, .ref a] σ)) ?_
  obtain ⟨ex1, erx1, dix1, bax1, fpx1, hax1, fx1a, fx1b, fx1c, fx1d, fx1e, fx1f, fx1g, fx1h, fx1i, fx1j⟩ := hK.arc ha
  refine T.callv (as := [J x]) (r := []) rfl rfl rfl (ArL_lt _ ha).2.2.1 hax1 rfl (s_A_hasEntry d a x σ hK ha  (by omega)) (fun v1 s1 hqs1 => ?_)
  obtain ⟨z1, rfl, esz1, hzz1, hyz1, pz1_0⟩ := hqs1
  rw [esz1]
  refine T.if_eq rfl rfl (by omega) (fun c1 => ?_) (fun c1 => ?_)
  · refine T.go 1 (fun n9 => (rfl : _ = exe ξ n9 (d + 1) j_A_header 18 [(0, .ref a), (1, J x)] [J 0] σ)) ?_
    exact T.ireti rfl rfl ⟨_, rfl, rfl, by omega, by omega⟩
  · refine T.go 1 (fun n9 => (rfl : _ = exe ξ n9 (d + 1) j_A_header 9 [(0, .ref a), (1, J x)] [.ref a] σ)) ?_
    refine T.get rfl rfl rfl hax1 rfl ?_
    refine T.go 1 (fun n9 => (rfl : _ = exe ξ n9 (d + 1) j_A_header 13 [(0, .ref a), (1, J x)] [J x, .ref (a + 3)] σ)) ?_
    obtain ⟨lx2, hix2, elx2⟩ := hK.ints (kdX_ar _ ha).2.2.2.1
    refine T.iald rfl (blt_f (by omega)) hix2 (by omega) (fun z2 hzz2 hyz2 hez2 => ?_)
    refine T.go 1 (fun n9 => (rfl : _ = exe ξ n9 (d + 1) j_A_header 18 [(0, .ref a), (1, J x)] [J z2] σ)) ?_
    exact T.ireti rfl rfl ⟨_, rfl, rfl, by omega, by omega⟩

set_option maxRecDepth 10000 in
set_option maxHeartbeats 4000000 in
theorem s_A_dataPlace {ξ : Nat → Option (Nat × List Int32)} (d : Nat) (a : Nat) (x : Int) (σ : qH) (hK : K σ) (ha : a ∈ ArL) (rx : -2147483648 ≤ x ∧ x ≤ 2147483647) : T ξ (d + 1) j_A_dataPlace 0 (lv_args 0 [.ref a, J x]) [] σ (fun v σ' => ∃ z : Int, v = some (J z) ∧ σ' = σ ∧ -2147483648 ≤ z ∧ z ≤ 2147483647) := by
  have la := (ArL_lt a ha).2.1
  refine T.go 2 (fun n9 => (rfl : _ = exe ξ n9 (d + 1) j_A_dataPlace 2 [(0, .ref a), (1, J x)] [J x, .ref a] σ)) ?_
  obtain ⟨ex1, erx1, dix1, bax1, fpx1, hax1, fx1a, fx1b, fx1c, fx1d, fx1e, fx1f, fx1g, fx1h, fx1i, fx1j⟩ := hK.arc ha
  refine T.callv (as := [J x]) (r := []) rfl rfl rfl (ArL_lt _ ha).2.2.1 hax1 rfl (s_A_hasEntry d a x σ hK ha  (by omega)) (fun v1 s1 hqs1 => ?_)
  obtain ⟨z1, rfl, esz1, hzz1, hyz1, pz1_0⟩ := hqs1
  rw [esz1]
  refine T.if_eq rfl rfl (by omega) (fun c1 => ?_) (fun c1 => ?_)
  · refine T.go 1 (fun n9 => (rfl : _ = exe ξ n9 (d + 1) j_A_dataPlace 18 [(0, .ref a), (1, J x)] [J 0] σ)) ?_
    exact T.ireti rfl rfl ⟨_, rfl, rfl, by omega, by omega⟩
  · refine T.go 1 (fun n9 => (rfl : _ = exe ξ n9 (d + 1) j_A_dataPlace 9 [(0, .ref a), (1, J x)] [.ref a] σ)) ?_
    refine T.get rfl rfl rfl hax1 rfl ?_
    refine T.go 1 (fun n9 => (rfl : _ = exe ξ n9 (d + 1) j_A_dataPlace 13 [(0, .ref a), (1, J x)] [J x, .ref (a + 4)] σ)) ?_
    obtain ⟨lx2, hix2, elx2⟩ := hK.ints (kdX_ar _ ha).2.2.2.2
    refine T.iald rfl (blt_f (by omega)) hix2 (by omega) (fun z2 hzz2 hyz2 hez2 => ?_)
    refine T.go 1 (fun n9 => (rfl : _ = exe ξ n9 (d + 1) j_A_dataPlace 18 [(0, .ref a), (1, J x)] [J z2] σ)) ?_
    exact T.ireti rfl rfl ⟨_, rfl, rfl, by omega, by omega⟩

set_option maxRecDepth 10000 in
set_option maxHeartbeats 4000000 in
theorem s_A_size {ξ : Nat → Option (Nat × List Int32)} (d : Nat) (a : Nat) (x : Int) (σ : qH) (hK : K σ) (ha : a ∈ ArL) (rx : -2147483648 ≤ x ∧ x ≤ 2147483647) : T ξ (d + 2) j_A_size 0 (lv_args 0 [.ref a, J x]) [] σ (fun v σ' => ∃ z : Int, v = some (JL z) ∧ σ' = σ ∧ -65536 ≤ z ∧ z ≤ 4294967295) := by
  refine T.go 1 (fun n9 => (rfl : _ = exe ξ n9 (d + 2) j_A_size 1 [(0, .ref a), (1, J x)] [.ref a] σ)) ?_
  obtain ⟨ex1, erx1, dix1, bax1, fpx1, hax1, fx1a, fx1b, fx1c, fx1d, fx1e, fx1f, fx1g, fx1h, fx1i, fx1j⟩ := hK.arc ha
  refine T.get rfl rfl rfl hax1 rfl ?_
  refine T.go 2 (fun n9 => (rfl : _ = exe ξ n9 (d + 2) j_A_size 6 [(0, .ref a), (1, J x)] [J x, .ref a, .ref (a + 1)] σ)) ?_
  refine T.callv (as := [J x]) (r := [.ref (a + 1)]) rfl rfl rfl (ArL_lt _ ha).2.2.1 hax1 rfl (s_A_header d a x σ hK ha  (by omega)) (fun v1 s1 hqs1 => ?_)
  obtain ⟨z1, rfl, esz1, hzz1, hyz1⟩ := hqs1
  rw [esz1]
  refine T.go 1 (fun n9 => (rfl : _ = exe ξ n9 (d + 2) j_A_size 11 [(0, .ref a), (1, J x)] [J 24, J z1, .ref (a + 1)] σ)) ?_
  refine T.iadd rfl ?_
  refine T.norm (fun z2 hzz2 hyz2 hwz2 => ?_)
  obtain ⟨mx2, nx2, bx2, lx2, hrx2, hbx2, fx2a, fx2b, fx2c, fx2d, fx2e, fx2g, fx2h, fx2i⟩ := hK.row (kdX_ar _ ha).2.2.1
  refine T.callv (as := [J z2]) (r := []) rfl rfl rfl (RwL_lt _ (kdX_ar _ ha).2.2.1).2.2.1 hrx2 rfl (s_R_four d (a + 1) z2 σ hK (kdX_ar _ ha).2.2.1  (by omega)) (fun v2 s2 hqs2 => ?_)
  obtain ⟨z3, rfl, esz3, hzz3, hyz3⟩ := hqs2
  rw [esz3]
  exact T.lret rfl rfl ⟨_, rfl, rfl, by omega, by omega⟩

set_option maxRecDepth 10000 in
set_option maxHeartbeats 4000000 in
theorem s_A_packedSize {ξ : Nat → Option (Nat × List Int32)} (d : Nat) (a : Nat) (x : Int) (σ : qH) (hK : K σ) (ha : a ∈ ArL) (rx : -2147483648 ≤ x ∧ x ≤ 2147483647) : T ξ (d + 2) j_A_packedSize 0 (lv_args 0 [.ref a, J x]) [] σ (fun v σ' => ∃ z : Int, v = some (JL z) ∧ σ' = σ ∧ -65536 ≤ z ∧ z ≤ 4294967295) := by
  refine T.go 1 (fun n9 => (rfl : _ = exe ξ n9 (d + 2) j_A_packedSize 1 [(0, .ref a), (1, J x)] [.ref a] σ)) ?_
  obtain ⟨ex1, erx1, dix1, bax1, fpx1, hax1, fx1a, fx1b, fx1c, fx1d, fx1e, fx1f, fx1g, fx1h, fx1i, fx1j⟩ := hK.arc ha
  refine T.get rfl rfl rfl hax1 rfl ?_
  refine T.go 2 (fun n9 => (rfl : _ = exe ξ n9 (d + 2) j_A_packedSize 6 [(0, .ref a), (1, J x)] [J x, .ref a, .ref (a + 1)] σ)) ?_
  refine T.callv (as := [J x]) (r := [.ref (a + 1)]) rfl rfl rfl (ArL_lt _ ha).2.2.1 hax1 rfl (s_A_header d a x σ hK ha  (by omega)) (fun v1 s1 hqs1 => ?_)
  obtain ⟨z1, rfl, esz1, hzz1, hyz1⟩ := hqs1
  rw [esz1]
  refine T.go 1 (fun n9 => (rfl : _ = exe ξ n9 (d + 2) j_A_packedSize 11 [(0, .ref a), (1, J x)] [J 20, J z1, .ref (a + 1)] σ)) ?_
  refine T.iadd rfl ?_
  refine T.norm (fun z2 hzz2 hyz2 hwz2 => ?_)
  obtain ⟨mx2, nx2, bx2, lx2, hrx2, hbx2, fx2a, fx2b, fx2c, fx2d, fx2e, fx2g, fx2h, fx2i⟩ := hK.row (kdX_ar _ ha).2.2.1
  refine T.callv (as := [J z2]) (r := []) rfl rfl rfl (RwL_lt _ (kdX_ar _ ha).2.2.1).2.2.1 hrx2 rfl (s_R_four d (a + 1) z2 σ hK (kdX_ar _ ha).2.2.1  (by omega)) (fun v2 s2 hqs2 => ?_)
  obtain ⟨z3, rfl, esz3, hzz3, hyz3⟩ := hqs2
  rw [esz3]
  exact T.lret rfl rfl ⟨_, rfl, rfl, by omega, by omega⟩

set_option maxRecDepth 10000 in
set_option maxHeartbeats 4000000 in
theorem s_A_sum {ξ : Nat → Option (Nat × List Int32)} (d : Nat) (a : Nat) (x : Int) (σ : qH) (hK : K σ) (ha : a ∈ ArL) (rx : -2147483648 ≤ x ∧ x ≤ 2147483647) : T ξ (d + 2) j_A_sum 0 (lv_args 0 [.ref a, J x]) [] σ (fun v σ' => ∃ z : Int, v = some (JL z) ∧ σ' = σ ∧ -65536 ≤ z ∧ z ≤ 4294967295) := by
  refine T.go 1 (fun n9 => (rfl : _ = exe ξ n9 (d + 2) j_A_sum 1 [(0, .ref a), (1, J x)] [.ref a] σ)) ?_
  obtain ⟨ex1, erx1, dix1, bax1, fpx1, hax1, fx1a, fx1b, fx1c, fx1d, fx1e, fx1f, fx1g, fx1h, fx1i, fx1j⟩ := hK.arc ha
  refine T.get rfl rfl rfl hax1 rfl ?_
  refine T.go 2 (fun n9 => (rfl : _ = exe ξ n9 (d + 2) j_A_sum 6 [(0, .ref a), (1, J x)] [J x, .ref a, .ref (a + 1)] σ)) ?_
  refine T.callv (as := [J x]) (r := [.ref (a + 1)]) rfl rfl rfl (ArL_lt _ ha).2.2.1 hax1 rfl (s_A_header d a x σ hK ha  (by omega)) (fun v1 s1 hqs1 => ?_)
  obtain ⟨z1, rfl, esz1, hzz1, hyz1⟩ := hqs1
  rw [esz1]
  refine T.go 1 (fun n9 => (rfl : _ = exe ξ n9 (d + 2) j_A_sum 11 [(0, .ref a), (1, J x)] [J 16, J z1, .ref (a + 1)] σ)) ?_
  refine T.iadd rfl ?_
  refine T.norm (fun z2 hzz2 hyz2 hwz2 => ?_)
  obtain ⟨mx2, nx2, bx2, lx2, hrx2, hbx2, fx2a, fx2b, fx2c, fx2d, fx2e, fx2g, fx2h, fx2i⟩ := hK.row (kdX_ar _ ha).2.2.1
  refine T.callv (as := [J z2]) (r := []) rfl rfl rfl (RwL_lt _ (kdX_ar _ ha).2.2.1).2.2.1 hrx2 rfl (s_R_four d (a + 1) z2 σ hK (kdX_ar _ ha).2.2.1  (by omega)) (fun v2 s2 hqs2 => ?_)
  obtain ⟨z3, rfl, esz3, hzz3, hyz3⟩ := hqs2
  rw [esz3]
  exact T.lret rfl rfl ⟨_, rfl, rfl, by omega, by omega⟩

set_option maxRecDepth 10000 in
set_option maxHeartbeats 4000000 in
theorem s_A_method {ξ : Nat → Option (Nat × List Int32)} (d : Nat) (a : Nat) (x : Int) (σ : qH) (hK : K σ) (ha : a ∈ ArL) (rx : -2147483648 ≤ x ∧ x ≤ 2147483647) : T ξ (d + 2) j_A_method 0 (lv_args 0 [.ref a, J x]) [] σ (fun v σ' => ∃ z : Int, v = some (J z) ∧ σ' = σ ∧ -1 ≤ z ∧ z ≤ 65535) := by
  refine T.go 1 (fun n9 => (rfl : _ = exe ξ n9 (d + 2) j_A_method 1 [(0, .ref a), (1, J x)] [.ref a] σ)) ?_
  obtain ⟨ex1, erx1, dix1, bax1, fpx1, hax1, fx1a, fx1b, fx1c, fx1d, fx1e, fx1f, fx1g, fx1h, fx1i, fx1j⟩ := hK.arc ha
  refine T.get rfl rfl rfl hax1 rfl ?_
  refine T.go 2 (fun n9 => (rfl : _ = exe ξ n9 (d + 2) j_A_method 6 [(0, .ref a), (1, J x)] [J x, .ref a, .ref (a + 1)] σ)) ?_
  refine T.callv (as := [J x]) (r := [.ref (a + 1)]) rfl rfl rfl (ArL_lt _ ha).2.2.1 hax1 rfl (s_A_header d a x σ hK ha  (by omega)) (fun v1 s1 hqs1 => ?_)
  obtain ⟨z1, rfl, esz1, hzz1, hyz1⟩ := hqs1
  rw [esz1]
  refine T.go 1 (fun n9 => (rfl : _ = exe ξ n9 (d + 2) j_A_method 11 [(0, .ref a), (1, J x)] [J 10, J z1, .ref (a + 1)] σ)) ?_
  refine T.iadd rfl ?_
  refine T.norm (fun z2 hzz2 hyz2 hwz2 => ?_)
  obtain ⟨mx2, nx2, bx2, lx2, hrx2, hbx2, fx2a, fx2b, fx2c, fx2d, fx2e, fx2g, fx2h, fx2i⟩ := hK.row (kdX_ar _ ha).2.2.1
  refine T.callv (as := [J z2]) (r := []) rfl rfl rfl (RwL_lt _ (kdX_ar _ ha).2.2.1).2.2.1 hrx2 rfl (s_R_two (d + 1) (a + 1) z2 σ hK (kdX_ar _ ha).2.2.1  (by omega)) (fun v2 s2 hqs2 => ?_)
  obtain ⟨z3, rfl, esz3, hzz3, hyz3⟩ := hqs2
  rw [esz3]
  exact T.ireti rfl rfl ⟨_, rfl, rfl, by omega, by omega⟩

set_option maxRecDepth 10000 in
set_option maxHeartbeats 4000000 in
theorem s_A_flags {ξ : Nat → Option (Nat × List Int32)} (d : Nat) (a : Nat) (x : Int) (σ : qH) (hK : K σ) (ha : a ∈ ArL) (rx : -2147483648 ≤ x ∧ x ≤ 2147483647) : T ξ (d + 2) j_A_flags 0 (lv_args 0 [.ref a, J x]) [] σ (fun v σ' => ∃ z : Int, v = some (J z) ∧ σ' = σ ∧ -1 ≤ z ∧ z ≤ 65535) := by
  refine T.go 1 (fun n9 => (rfl : _ = exe ξ n9 (d + 2) j_A_flags 1 [(0, .ref a), (1, J x)] [.ref a] σ)) ?_
  obtain ⟨ex1, erx1, dix1, bax1, fpx1, hax1, fx1a, fx1b, fx1c, fx1d, fx1e, fx1f, fx1g, fx1h, fx1i, fx1j⟩ := hK.arc ha
  refine T.get rfl rfl rfl hax1 rfl ?_
  refine T.go 2 (fun n9 => (rfl : _ = exe ξ n9 (d + 2) j_A_flags 6 [(0, .ref a), (1, J x)] [J x, .ref a, .ref (a + 1)] σ)) ?_
  refine T.callv (as := [J x]) (r := [.ref (a + 1)]) rfl rfl rfl (ArL_lt _ ha).2.2.1 hax1 rfl (s_A_header d a x σ hK ha  (by omega)) (fun v1 s1 hqs1 => ?_)
  obtain ⟨z1, rfl, esz1, hzz1, hyz1⟩ := hqs1
  rw [esz1]
  refine T.go 1 (fun n9 => (rfl : _ = exe ξ n9 (d + 2) j_A_flags 11 [(0, .ref a), (1, J x)] [J 8, J z1, .ref (a + 1)] σ)) ?_
  refine T.iadd rfl ?_
  refine T.norm (fun z2 hzz2 hyz2 hwz2 => ?_)
  obtain ⟨mx2, nx2, bx2, lx2, hrx2, hbx2, fx2a, fx2b, fx2c, fx2d, fx2e, fx2g, fx2h, fx2i⟩ := hK.row (kdX_ar _ ha).2.2.1
  refine T.callv (as := [J z2]) (r := []) rfl rfl rfl (RwL_lt _ (kdX_ar _ ha).2.2.1).2.2.1 hrx2 rfl (s_R_two (d + 1) (a + 1) z2 σ hK (kdX_ar _ ha).2.2.1  (by omega)) (fun v2 s2 hqs2 => ?_)
  obtain ⟨z3, rfl, esz3, hzz3, hyz3⟩ := hqs2
  rw [esz3]
  exact T.ireti rfl rfl ⟨_, rfl, rfl, by omega, by omega⟩

set_option maxRecDepth 10000 in
set_option maxHeartbeats 4000000 in
theorem s_A_nameLength {ξ : Nat → Option (Nat × List Int32)} (d : Nat) (a : Nat) (x : Int) (σ : qH) (hK : K σ) (ha : a ∈ ArL) (rx : -2147483648 ≤ x ∧ x ≤ 2147483647) : T ξ (d + 2) j_A_nameLength 0 (lv_args 0 [.ref a, J x]) [] σ (fun v σ' => ∃ z : Int, v = some (J z) ∧ σ' = σ ∧ -1 ≤ z ∧ z ≤ 65535) := by
  refine T.go 1 (fun n9 => (rfl : _ = exe ξ n9 (d + 2) j_A_nameLength 1 [(0, .ref a), (1, J x)] [.ref a] σ)) ?_
  obtain ⟨ex1, erx1, dix1, bax1, fpx1, hax1, fx1a, fx1b, fx1c, fx1d, fx1e, fx1f, fx1g, fx1h, fx1i, fx1j⟩ := hK.arc ha
  refine T.get rfl rfl rfl hax1 rfl ?_
  refine T.go 2 (fun n9 => (rfl : _ = exe ξ n9 (d + 2) j_A_nameLength 6 [(0, .ref a), (1, J x)] [J x, .ref a, .ref (a + 1)] σ)) ?_
  refine T.callv (as := [J x]) (r := [.ref (a + 1)]) rfl rfl rfl (ArL_lt _ ha).2.2.1 hax1 rfl (s_A_header d a x σ hK ha  (by omega)) (fun v1 s1 hqs1 => ?_)
  obtain ⟨z1, rfl, esz1, hzz1, hyz1⟩ := hqs1
  rw [esz1]
  refine T.go 1 (fun n9 => (rfl : _ = exe ξ n9 (d + 2) j_A_nameLength 11 [(0, .ref a), (1, J x)] [J 28, J z1, .ref (a + 1)] σ)) ?_
  refine T.iadd rfl ?_
  refine T.norm (fun z2 hzz2 hyz2 hwz2 => ?_)
  obtain ⟨mx2, nx2, bx2, lx2, hrx2, hbx2, fx2a, fx2b, fx2c, fx2d, fx2e, fx2g, fx2h, fx2i⟩ := hK.row (kdX_ar _ ha).2.2.1
  refine T.callv (as := [J z2]) (r := []) rfl rfl rfl (RwL_lt _ (kdX_ar _ ha).2.2.1).2.2.1 hrx2 rfl (s_R_two (d + 1) (a + 1) z2 σ hK (kdX_ar _ ha).2.2.1  (by omega)) (fun v2 s2 hqs2 => ?_)
  obtain ⟨z3, rfl, esz3, hzz3, hyz3⟩ := hqs2
  rw [esz3]
  exact T.ireti rfl rfl ⟨_, rfl, rfl, by omega, by omega⟩

set_option maxRecDepth 10000 in
set_option maxHeartbeats 4000000 in
theorem s_A_nameByte {ξ : Nat → Option (Nat × List Int32)} (d : Nat) (a : Nat) (x : Int) (y : Int) (σ : qH) (hK : K σ) (ha : a ∈ ArL) (rx : -2147483648 ≤ x ∧ x ≤ 2147483647) (ry : -2147483648 ≤ y ∧ y ≤ 2147483647) : T ξ (d + 3) j_A_nameByte 0 (lv_args 0 [.ref a, J x, J y]) [] σ (fun v σ' => ∃ z : Int, v = some (J z) ∧ σ' = σ ∧ -1 ≤ z ∧ z ≤ 255) := by
  refine T.go 1 (fun n9 => (rfl : _ = exe ξ n9 (d + 3) j_A_nameByte 1 [(0, .ref a), (1, J x), (2, J y)] [J y] σ)) ?_
  refine T.if_lt rfl rfl (by omega) (fun c1 => ?_) (fun c1 => ?_)
  · refine T.go 1 (fun n9 => (rfl : _ = exe ξ n9 (d + 3) j_A_nameByte 34 [(0, .ref a), (1, J x), (2, J y)] [J (-1)] σ)) ?_
    exact T.ireti rfl rfl ⟨_, rfl, rfl, by omega, by omega⟩
  · refine T.go 3 (fun n9 => (rfl : _ = exe ξ n9 (d + 3) j_A_nameByte 7 [(0, .ref a), (1, J x), (2, J y)] [J x, .ref a, J y] σ)) ?_
    obtain ⟨ex1, erx1, dix1, bax1, fpx1, hax1, fx1a, fx1b, fx1c, fx1d, fx1e, fx1f, fx1g, fx1h, fx1i, fx1j⟩ := hK.arc ha
    refine T.callv (as := [J x]) (r := [J y]) rfl rfl rfl (ArL_lt _ ha).2.2.1 hax1 rfl (s_A_nameLength d a x σ hK ha  (by omega)) (fun v1 s1 hqs1 => ?_)
    obtain ⟨z1, rfl, esz1, hzz1, hyz1⟩ := hqs1
    rw [esz1]
    refine T.icmp_ge rfl rfl (by omega) (by omega) (fun c2 => ?_) (fun c2 => ?_)
    · refine T.go 1 (fun n9 => (rfl : _ = exe ξ n9 (d + 3) j_A_nameByte 34 [(0, .ref a), (1, J x), (2, J y)] [J (-1)] σ)) ?_
      exact T.ireti rfl rfl ⟨_, rfl, rfl, by omega, by omega⟩
    · refine T.go 1 (fun n9 => (rfl : _ = exe ξ n9 (d + 3) j_A_nameByte 14 [(0, .ref a), (1, J x), (2, J y)] [.ref a] σ)) ?_
      refine T.get rfl rfl rfl hax1 rfl ?_
      refine T.go 2 (fun n9 => (rfl : _ = exe ξ n9 (d + 3) j_A_nameByte 19 [(0, .ref a), (1, J x), (2, J y)] [J x, .ref a, .ref (a + 1)] σ)) ?_
      refine T.callv (as := [J x]) (r := [.ref (a + 1)]) rfl rfl rfl (ArL_lt _ ha).2.2.1 hax1 rfl (s_A_header (d + 1) a x σ hK ha  (by omega)) (fun v2 s2 hqs2 => ?_)
      obtain ⟨z2, rfl, esz2, hzz2, hyz2⟩ := hqs2
      rw [esz2]
      refine T.go 1 (fun n9 => (rfl : _ = exe ξ n9 (d + 3) j_A_nameByte 24 [(0, .ref a), (1, J x), (2, J y)] [J 46, J z2, .ref (a + 1)] σ)) ?_
      refine T.iadd rfl ?_
      refine T.norm (fun z3 hzz3 hyz3 hwz3 => ?_)
      refine T.go 1 (fun n9 => (rfl : _ = exe ξ n9 (d + 3) j_A_nameByte 26 [(0, .ref a), (1, J x), (2, J y)] [J y, J z3, .ref (a + 1)] σ)) ?_
      refine T.iadd rfl ?_
      refine T.norm (fun z4 hzz4 hyz4 hwz4 => ?_)
      obtain ⟨mx2, nx2, bx2, lx2, hrx2, hbx2, fx2a, fx2b, fx2c, fx2d, fx2e, fx2g, fx2h, fx2i⟩ := hK.row (kdX_ar _ ha).2.2.1
      refine T.callv (as := [J z4]) (r := []) rfl rfl rfl (RwL_lt _ (kdX_ar _ ha).2.2.1).2.2.1 hrx2 rfl (s_R_at (d + 2) (a + 1) z4 σ hK (kdX_ar _ ha).2.2.1  (by omega)) (fun v3 s3 hqs3 => ?_)
      obtain ⟨z5, rfl, esz5, hzz5, hyz5⟩ := hqs3
      rw [esz5]
      refine T.go 1 (fun n9 => (rfl : _ = exe ξ n9 (d + 3) j_A_nameByte 34 [(0, .ref a), (1, J x), (2, J y)] [J z5] σ)) ?_
      exact T.ireti rfl rfl ⟨_, rfl, rfl, by omega, by omega⟩
