/-! entry, letter. -/
set_option maxRecDepth 10000 in
set_option maxHeartbeats 4000000 in
theorem s_A_fnameByte {ξ : Nat → Option (Nat × List Int32)} (d : Nat) (g : Int → Int) (a : Nat) (x : Int) (y : Int) (σ : qH) (hK : K σ) (ha : a ∈ ArL) (h255 : ∀ k, 0 ≤ g k ∧ g k ≤ 255) (hg : AGR σ (a + 1) g) (rx : -2147483648 ≤ x ∧ x ≤ 2147483647) (ry : -2147483648 ≤ y ∧ y ≤ 2147483647) (pre0 : 0 ≤ x) (pre1 : x < afld σ a 3) (pre2 : 0 ≤ gl (il σ (a + 3)) x) (pre3 : gl (il σ (a + 3)) x + 46 ≤ rl σ (a + 1)) (pre4 : gl (il σ (a + 3)) x + 46 + W2 g (gl (il σ (a + 3)) x + 28) ≤ rl σ (a + 1)) : T ξ (d + 3) j_A_nameByte 0 (lv_args 0 [.ref a, J x, J y]) [] σ (fun v σ' => ∃ z : Int, v = some (J z) ∧ σ' = σ ∧ -1 ≤ z ∧ z ≤ 255 ∧ z = LTv g (gl (il σ (a + 3)) x) y) := by
  have la := (ArL_lt a ha).2.1
  have hW := W2_r h255
  have hV := W4_r h255
  obtain ⟨ex1, erx1, dix1, bax1, fpx1, hax1, fx1a, fx1b, fx1c, fx1d, fx1e, fx1f, fx1g, fx1h, fx1i, fx1j⟩ := hK.arc ha
  have af3x1 := af_of (i := 3) hax1 rfl (by omega)
  subst af3x1
  have af4x1 := af_of (i := 4) hax1 rfl (by omega)
  subst af4x1
  have af5x1 := af_of (i := 5) hax1 rfl (by omega)
  subst af5x1
  have af6x1 := af_of (i := 6) hax1 rfl (by omega)
  subst af6x1
  have af7x1 := af_of (i := 7) hax1 rfl (by omega)
  subst af7x1
  obtain ⟨mx2, nx2, bx2, lx2, hrx2, hbx2, fx2a, fx2b, fx2c, fx2d, fx2e, fx2g, fx2h, fx2i⟩ := hK.row (kdX_ar _ ha).2.2.1
  have ctx2 := CT_of hrx2 hbx2
  have rwx2 := rl_of hrx2 (by omega)
  subst rwx2
  refine T.go 1 (fun n9 => (rfl : _ = exe ξ n9 (d + 3) j_A_nameByte 1 [(0, .ref a), (1, J x), (2, J y)] [J y] σ)) ?_
  refine T.if_lt rfl rfl (by omega) (fun c1 => ?_) (fun c1 => ?_)
  · refine T.go 1 (fun n9 => (rfl : _ = exe ξ n9 (d + 3) j_A_nameByte 34 [(0, .ref a), (1, J x), (2, J y)] [J (-1)] σ)) ?_
    exact T.ireti rfl rfl ⟨_, rfl, rfl, by omega, by omega, (by unfold LTv; rw [if_neg (by omega)])⟩
  · refine T.go 3 (fun n9 => (rfl : _ = exe ξ n9 (d + 3) j_A_nameByte 7 [(0, .ref a), (1, J x), (2, J y)] [J x, .ref a, J y] σ)) ?_
    refine T.callv (as := [J x]) (r := [J y]) rfl rfl rfl (ArL_lt _ ha).2.2.1 hax1 rfl (s_A_fnameLength d g a x σ hK ha h255 hg (by omega) (by omega) (by omega) (by omega) (by omega)) (fun v1 s1 hqs1 => ?_)
    obtain ⟨z1, rfl, esz1, hzz1, hyz1, pz1_0⟩ := hqs1
    rw [esz1]
    subst pz1_0
    refine T.icmp_ge rfl rfl (by omega) (by omega) (fun c2 => ?_) (fun c2 => ?_)
    · refine T.go 1 (fun n9 => (rfl : _ = exe ξ n9 (d + 3) j_A_nameByte 34 [(0, .ref a), (1, J x), (2, J y)] [J (-1)] σ)) ?_
      exact T.ireti rfl rfl ⟨_, rfl, rfl, by omega, by omega, (by unfold LTv; rw [if_neg (by omega)])⟩
    · refine T.go 1 (fun n9 => (rfl : _ = exe ξ n9 (d + 3) j_A_nameByte 14 [(0, .ref a), (1, J x), (2, J y)] [.ref a] σ)) ?_
      refine T.get rfl rfl rfl hax1 rfl ?_
      refine T.go 2 (fun n9 => (rfl : _ = exe ξ n9 (d + 3) j_A_nameByte 19 [(0, .ref a), (1, J x), (2, J y)] [J x, .ref a, .ref (a + 1)] σ)) ?_
      refine T.callv (as := [J x]) (r := [.ref (a + 1)]) rfl rfl rfl (ArL_lt _ ha).2.2.1 hax1 rfl (s_A_fheader (d + 1) a x σ hK ha  (by omega)) (fun v2 s2 hqs2 => ?_)
      obtain ⟨z2, rfl, esz2, hzz2, hyz2, pz2_0⟩ := hqs2
      rw [esz2]
      have ez2 := pz2_0 (by omega)
      subst ez2
      refine T.go 1 (fun n9 => (rfl : _ = exe ξ n9 (d + 3) j_A_nameByte 24 [(0, .ref a), (1, J x), (2, J y)] [J 46, J (gl (il σ (a + 3)) x), .ref (a + 1)] σ)) ?_
      refine T.iadd rfl ?_
      refine T.go 1 (fun n9 => (rfl : _ = exe ξ n9 (d + 3) j_A_nameByte 26 [(0, .ref a), (1, J x), (2, J y)] [J y, J ((gl (il σ (a + 3)) x) + 46), .ref (a + 1)] σ)) ?_
      refine T.iadd rfl ?_
      refine T.callv (as := [J (((gl (il σ (a + 3)) x) + 46) + y)]) (r := []) rfl rfl rfl (RwL_lt _ (kdX_ar _ ha).2.2.1).2.2.1 hrx2 rfl (s_R_fat (d + 2) g (a + 1) (((gl (il σ (a + 3)) x) + 46) + y) σ hK (kdX_ar _ ha).2.2.1 hg (by omega)) (fun v3 s3 hqs3 => ?_)
      obtain ⟨z3, rfl, esz3, hzz3, hyz3, pz3_0, pz3_1⟩ := hqs3
      rw [esz3]
      have ez3 := pz3_0 (by omega) (by omega)
      subst ez3
      refine T.go 1 (fun n9 => (rfl : _ = exe ξ n9 (d + 3) j_A_nameByte 34 [(0, .ref a), (1, J x), (2, J y)] [J (g (((gl (il σ (a + 3)) x) + 46) + y))] σ)) ?_
      exact T.ireti rfl rfl ⟨_, rfl, rfl, by omega, by omega, (by unfold LTv; rw [if_pos (by omega)])⟩

set_option maxRecDepth 10000 in
set_option maxHeartbeats 4000000 in
theorem s_N_eentry {ξ : Nat → Option (Nat × List Int32)} (d : Nat) (g : Int → Int) (fz : Int) (x : Int) (y : Int) (u : Int) (σ : qH) (hK : K σ)  (h255 : ∀ k, 0 ≤ g k ∧ g k ≤ 255) (hS : ∀ a : Nat, AOF σ x a → SV σ a g fz) (rx : -2147483648 ≤ x ∧ x ≤ 2147483647) (ry : -2147483648 ≤ y ∧ y ≤ 2147483647) (ru : -2147483648 ≤ u ∧ u ≤ 2147483647) : TX ξ (d + 8) j_N_entry 0 (lv_args 0 [.ref 16, J x, J y, J u]) [] σ (QE [] [0, 1] σ (fun e _ => NEN σ g fz x y u e) (fun v σ' => ∃ z : Int, v = some (JL z) ∧ Fr [] σ σ' ∧ -9223372036854775808 ≤ z ∧ z ≤ 9223372036854775807 ∧ (afld σ 16 11 = 1 ∧ 0 ≤ x ∧ x ≤ afld σ 16 14 ∧ 0 ≤ y ∧ y < NEf g fz) ∧ (0 ≤ u ∧ u ≤ 5) ∧ z = EVv g (Hj g fz y) u)) := by
  obtain ⟨kex1, scx1, tpx1, oux1, mox1, sgx1, hox1, mcx1, lfx1, lpx1, hNx1, fx1ke, fx1sc, fx1tp, fx1ou, fx1mo, fx1sg, fx1d, fx1e, fx1f, fx1g, fx1h, fx1i, fx1j⟩ := hK.na
  have h11 := af_of (i := 11) hNx1 rfl (by omega)
  have h14 := af_of (i := 14) hNx1 rfl (by omega)
  refine TX.go 2 (fun n9 => (rfl : _ = exx ξ n9 (d + 8) j_N_entry 2 [(0, .ref 16), (1, J x), (2, J y), (3, J u)] [J x, .ref 16] σ)) ?_
  refine TX.callv (as := [J x]) (r := []) rfl rfl rfl rfl rfl hNx1 rfl (s_N_farchiveOf (d + 7) x σ hK   (by omega)) (fun v1 s1 hqs1 => ?_)
  obtain ⟨esz1, ⟨rfl, hnaa1⟩ | ⟨a1, hAa1, rfl, haoa1⟩⟩ := hqs1
  · rw [esz1]
    refine TX.go 3 (fun n9 => (rfl : _ = exx ξ n9 (d + 8) j_N_entry 21 [(0, .ref 16), (1, J x), (2, J y), (3, J u), (4, .null)] [] σ)) ?_
    exact TX.throw (Nat.ble_eq_true_of_le (by omega)) rfl rfl (QE_r (by decide) (Fr.refl hK) ⟨(fun _ => by omega), (fun q => absurd q (by decide))⟩)
  · rw [esz1]; have hSa := hS a1 haoa1; have hS4 := hSa.2.2.2.1; have v1 := haoa1.1; have v2 := haoa1.2.1; have v3 := haoa1.2.2.1
    refine TX.go 5 (fun n9 => (rfl : _ = exx ξ n9 (d + 8) j_N_entry 15 [(0, .ref 16), (1, J x), (2, J y), (3, J u), (4, .ref a1)] [J y, .ref a1] σ)) ?_
    obtain ⟨ex2, erx2, dix2, bax2, fpx2, hax2, fx2a, fx2b, fx2c, fx2d, fx2e, fx2f, fx2g, fx2h, fx2i, fx2j⟩ := hK.arc hAa1
    have af3x2 := af_of (i := 3) hax2 rfl (by omega)
    subst af3x2
    have af4x2 := af_of (i := 4) hax2 rfl (by omega)
    subst af4x2
    have af5x2 := af_of (i := 5) hax2 rfl (by omega)
    subst af5x2
    have af6x2 := af_of (i := 6) hax2 rfl (by omega)
    subst af6x2
    have af7x2 := af_of (i := 7) hax2 rfl (by omega)
    subst af7x2
    refine TX.callv (as := [J y]) (r := []) rfl rfl rfl rfl (ArL_lt _ hAa1).2.2.1 hax2 rfl (s_A_fhasEntry (d + 7) a1 y σ hK hAa1  (by omega)) (fun v2 s2 hqs2 => ?_)
    obtain ⟨z2, rfl, esz2, hzz2, hyz2, pz2_0, pz2_1⟩ := hqs2
    rw [esz2]
    refine TX.if_ne rfl rfl rfl (by omega) (fun c1 => ?_) (fun c1 => ?_)
    · refine TX.go 1 (fun n9 => (rfl : _ = exx ξ n9 (d + 8) j_N_entry 32 [(0, .ref 16), (1, J x), (2, J y), (3, J u), (4, .ref a1)] [J u] σ)) ?_
      by_cases c2 : u < 0 ∨ 5 < u
      · refine TX.jmp rfl rfl rfl (sw_out (off := 85) rfl c2 (by omega) (by rfl)) ?_
        exact TX.throw (Nat.ble_eq_true_of_le (by omega)) rfl rfl (QE_r (by decide) (Fr.refl hK) ⟨(fun q => absurd q (by decide)), (fun _ => ⟨by omega, by omega⟩)⟩)
      by_cases c3 : u = 0
      · refine TX.jmp rfl rfl rfl (sw_in (v := 0) (off := 40) c3 (by decide) rfl rfl) ?_
        refine TX.go 2 (fun n9 => (rfl : _ = exx ξ n9 (d + 8) j_N_entry 75 [(0, .ref 16), (1, J x), (2, J y), (3, J u), (4, .ref a1)] [J y, .ref a1] σ)) ?_
        have s5 := hSa.2.2.2.2 y (by omega) (by omega)
        have s55 := s5.1
        have se := (FO_ent h255 hSa.2.2.1).2 y (by omega) (by omega)
        rw [← s55] at se
        have sr := hSa.1
        refine TX.callv (as := [J y]) (r := []) rfl rfl rfl rfl (ArL_lt _ hAa1).2.2.1 hax2 rfl (s_A_fsize (d + 5) g a1 y σ hK hAa1 h255 hSa.2.1 (by omega) (by omega) (by omega) (by omega) (by omega)) (fun v3 s3 hqs3 => ?_)
        obtain ⟨z3, rfl, esz3, hzz3, hyz3, pz3_0⟩ := hqs3
        rw [esz3]
        subst pz3_0
        exact TX.lret rfl rfl rfl (QE_l ⟨_, rfl, (Fr.refl hK), by omega, by omega, by omega, by omega, (by rw [s55, show u = 0 by omega]; rfl)⟩)
      by_cases c4 : u = 1
      · refine TX.jmp rfl rfl rfl (sw_in (v := 1) (off := 47) c4 (by decide) rfl rfl) ?_
        refine TX.go 2 (fun n9 => (rfl : _ = exx ξ n9 (d + 8) j_N_entry 82 [(0, .ref 16), (1, J x), (2, J y), (3, J u), (4, .ref a1)] [J y, .ref a1] σ)) ?_
        have s5 := hSa.2.2.2.2 y (by omega) (by omega)
        have s55 := s5.1
        have se := (FO_ent h255 hSa.2.2.1).2 y (by omega) (by omega)
        rw [← s55] at se
        have sr := hSa.1
        refine TX.callv (as := [J y]) (r := []) rfl rfl rfl rfl (ArL_lt _ hAa1).2.2.1 hax2 rfl (s_A_fpackedSize (d + 5) g a1 y σ hK hAa1 h255 hSa.2.1 (by omega) (by omega) (by omega) (by omega) (by omega)) (fun v4 s4 hqs4 => ?_)
        obtain ⟨z4, rfl, esz4, hzz4, hyz4, pz4_0⟩ := hqs4
        rw [esz4]
        subst pz4_0
        exact TX.lret rfl rfl rfl (QE_l ⟨_, rfl, (Fr.refl hK), by omega, by omega, by omega, by omega, (by rw [s55, show u = 1 by omega]; rfl)⟩)
      by_cases c5 : u = 2
      · refine TX.jmp rfl rfl rfl (sw_in (v := 2) (off := 54) c5 (by decide) rfl rfl) ?_
        refine TX.go 2 (fun n9 => (rfl : _ = exx ξ n9 (d + 8) j_N_entry 89 [(0, .ref 16), (1, J x), (2, J y), (3, J u), (4, .ref a1)] [J y, .ref a1] σ)) ?_
        have s5 := hSa.2.2.2.2 y (by omega) (by omega)
        have s55 := s5.1
        have se := (FO_ent h255 hSa.2.2.1).2 y (by omega) (by omega)
        rw [← s55] at se
        have sr := hSa.1
        refine TX.callv (as := [J y]) (r := []) rfl rfl rfl rfl (ArL_lt _ hAa1).2.2.1 hax2 rfl (s_A_fmethod (d + 5) g a1 y σ hK hAa1 h255 hSa.2.1 (by omega) (by omega) (by omega) (by omega) (by omega)) (fun v5 s5 hqs5 => ?_)
        obtain ⟨z5, rfl, esz5, hzz5, hyz5, pz5_0⟩ := hqs5
        rw [esz5]
        subst pz5_0
        refine TX.i2l rfl rfl (by omega) ?_
        exact TX.lret rfl rfl rfl (QE_l ⟨_, rfl, (Fr.refl hK), by omega, by omega, by omega, by omega, (by rw [s55, show u = 2 by omega]; rfl)⟩)
      by_cases c6 : u = 3
      · refine TX.jmp rfl rfl rfl (sw_in (v := 3) (off := 62) c6 (by decide) rfl rfl) ?_
        refine TX.go 2 (fun n9 => (rfl : _ = exx ξ n9 (d + 8) j_N_entry 97 [(0, .ref 16), (1, J x), (2, J y), (3, J u), (4, .ref a1)] [J y, .ref a1] σ)) ?_
        have s5 := hSa.2.2.2.2 y (by omega) (by omega)
        have s55 := s5.1
        have se := (FO_ent h255 hSa.2.2.1).2 y (by omega) (by omega)
        rw [← s55] at se
        have sr := hSa.1
        refine TX.callv (as := [J y]) (r := []) rfl rfl rfl rfl (ArL_lt _ hAa1).2.2.1 hax2 rfl (s_A_fsum (d + 5) g a1 y σ hK hAa1 h255 hSa.2.1 (by omega) (by omega) (by omega) (by omega) (by omega)) (fun v6 s6 hqs6 => ?_)
        obtain ⟨z6, rfl, esz6, hzz6, hyz6, pz6_0⟩ := hqs6
        rw [esz6]
        subst pz6_0
        exact TX.lret rfl rfl rfl (QE_l ⟨_, rfl, (Fr.refl hK), by omega, by omega, by omega, by omega, (by rw [s55, show u = 3 by omega]; rfl)⟩)
      by_cases c7 : u = 4
      · refine TX.jmp rfl rfl rfl (sw_in (v := 4) (off := 69) c7 (by decide) rfl rfl) ?_
        refine TX.go 2 (fun n9 => (rfl : _ = exx ξ n9 (d + 8) j_N_entry 104 [(0, .ref 16), (1, J x), (2, J y), (3, J u), (4, .ref a1)] [J y, .ref a1] σ)) ?_
        have s5 := hSa.2.2.2.2 y (by omega) (by omega)
        have s55 := s5.1
        have se := (FO_ent h255 hSa.2.2.1).2 y (by omega) (by omega)
        rw [← s55] at se
        have sr := hSa.1
        refine TX.callv (as := [J y]) (r := []) rfl rfl rfl rfl (ArL_lt _ hAa1).2.2.1 hax2 rfl (s_A_fflags (d + 5) g a1 y σ hK hAa1 h255 hSa.2.1 (by omega) (by omega) (by omega) (by omega) (by omega)) (fun v7 s7 hqs7 => ?_)
        obtain ⟨z7, rfl, esz7, hzz7, hyz7, pz7_0⟩ := hqs7
        rw [esz7]
        subst pz7_0
        refine TX.i2l rfl rfl (by omega) ?_
        exact TX.lret rfl rfl rfl (QE_l ⟨_, rfl, (Fr.refl hK), by omega, by omega, by omega, by omega, (by rw [s55, show u = 4 by omega]; rfl)⟩)
      have c8 : u = 5 := by omega
      refine TX.jmp rfl rfl rfl (sw_in (v := 5) (off := 77) c8 (by decide) rfl rfl) ?_
      refine TX.go 2 (fun n9 => (rfl : _ = exx ξ n9 (d + 8) j_N_entry 112 [(0, .ref 16), (1, J x), (2, J y), (3, J u), (4, .ref a1)] [J y, .ref a1] σ)) ?_
      have s5 := hSa.2.2.2.2 y (by omega) (by omega)
      have s55 := s5.1
      have se := (FO_ent h255 hSa.2.2.1).2 y (by omega) (by omega)
      rw [← s55] at se
      have sr := hSa.1
      refine TX.callv (as := [J y]) (r := []) rfl rfl rfl rfl (ArL_lt _ hAa1).2.2.1 hax2 rfl (s_A_fnameLength (d + 5) g a1 y σ hK hAa1 h255 hSa.2.1 (by omega) (by omega) (by omega) (by omega) (by omega)) (fun v8 s8 hqs8 => ?_)
      obtain ⟨z8, rfl, esz8, hzz8, hyz8, pz8_0⟩ := hqs8
      rw [esz8]
      subst pz8_0
      refine TX.i2l rfl rfl (by omega) ?_
      exact TX.lret rfl rfl rfl (QE_l ⟨_, rfl, (Fr.refl hK), by omega, by omega, by omega, by omega, (by rw [s55, show u = 5 by omega]; rfl)⟩)
    · exact TX.throw (Nat.ble_eq_true_of_le (by omega)) rfl rfl (QE_r (by decide) (Fr.refl hK) ⟨(fun _ => by omega), (fun q => absurd q (by decide))⟩)

set_option maxRecDepth 10000 in
set_option maxHeartbeats 4000000 in
theorem s_N_eletter {ξ : Nat → Option (Nat × List Int32)} (d : Nat) (g : Int → Int) (fz : Int) (x : Int) (y : Int) (u : Int) (σ : qH) (hK : K σ)  (h255 : ∀ k, 0 ≤ g k ∧ g k ≤ 255) (hS : ∀ a : Nat, AOF σ x a → SV σ a g fz) (rx : -2147483648 ≤ x ∧ x ≤ 2147483647) (ry : -2147483648 ≤ y ∧ y ≤ 2147483647) (ru : -2147483648 ≤ u ∧ u ≤ 2147483647) : TX ξ (d + 8) j_N_letter 0 (lv_args 0 [.ref 16, J x, J y, J u]) [] σ (QE [] [1] σ (fun e _ => NEN σ g fz x y u e) (fun v σ' => ∃ z : Int, v = some (J z) ∧ Fr [] σ σ' ∧ -2147483648 ≤ z ∧ z ≤ 2147483647 ∧ (afld σ 16 11 = 1 ∧ 0 ≤ x ∧ x ≤ afld σ 16 14 ∧ 0 ≤ y ∧ y < NEf g fz) ∧ z = LTv g (Hj g fz y) u)) := by
  obtain ⟨kex1, scx1, tpx1, oux1, mox1, sgx1, hox1, mcx1, lfx1, lpx1, hNx1, fx1ke, fx1sc, fx1tp, fx1ou, fx1mo, fx1sg, fx1d, fx1e, fx1f, fx1g, fx1h, fx1i, fx1j⟩ := hK.na
  have h11 := af_of (i := 11) hNx1 rfl (by omega)
  have h14 := af_of (i := 14) hNx1 rfl (by omega)
  refine TX.go 2 (fun n9 => (rfl : _ = exx ξ n9 (d + 8) j_N_letter 2 [(0, .ref 16), (1, J x), (2, J y), (3, J u)] [J x, .ref 16] σ)) ?_
  refine TX.callv (as := [J x]) (r := []) rfl rfl rfl rfl rfl hNx1 rfl (s_N_farchiveOf (d + 7) x σ hK   (by omega)) (fun v1 s1 hqs1 => ?_)
  obtain ⟨esz1, ⟨rfl, hnaa1⟩ | ⟨a1, hAa1, rfl, haoa1⟩⟩ := hqs1
  · rw [esz1]
    refine TX.go 3 (fun n9 => (rfl : _ = exx ξ n9 (d + 8) j_N_letter 21 [(0, .ref 16), (1, J x), (2, J y), (3, J u), (4, .null)] [] σ)) ?_
    exact TX.throw (Nat.ble_eq_true_of_le (by omega)) rfl rfl (QE_r (by decide) (Fr.refl hK) ⟨(fun _ => by omega), (fun q => absurd q (by decide))⟩)
  · rw [esz1]; have hSa := hS a1 haoa1; have hS4 := hSa.2.2.2.1; have v1 := haoa1.1; have v2 := haoa1.2.1; have v3 := haoa1.2.2.1
    refine TX.go 5 (fun n9 => (rfl : _ = exx ξ n9 (d + 8) j_N_letter 15 [(0, .ref 16), (1, J x), (2, J y), (3, J u), (4, .ref a1)] [J y, .ref a1] σ)) ?_
    obtain ⟨ex2, erx2, dix2, bax2, fpx2, hax2, fx2a, fx2b, fx2c, fx2d, fx2e, fx2f, fx2g, fx2h, fx2i, fx2j⟩ := hK.arc hAa1
    have af3x2 := af_of (i := 3) hax2 rfl (by omega)
    subst af3x2
    have af4x2 := af_of (i := 4) hax2 rfl (by omega)
    subst af4x2
    have af5x2 := af_of (i := 5) hax2 rfl (by omega)
    subst af5x2
    have af6x2 := af_of (i := 6) hax2 rfl (by omega)
    subst af6x2
    have af7x2 := af_of (i := 7) hax2 rfl (by omega)
    subst af7x2
    refine TX.callv (as := [J y]) (r := []) rfl rfl rfl rfl (ArL_lt _ hAa1).2.2.1 hax2 rfl (s_A_fhasEntry (d + 7) a1 y σ hK hAa1  (by omega)) (fun v2 s2 hqs2 => ?_)
    obtain ⟨z2, rfl, esz2, hzz2, hyz2, pz2_0, pz2_1⟩ := hqs2
    rw [esz2]
    refine TX.if_ne rfl rfl rfl (by omega) (fun c1 => ?_) (fun c1 => ?_)
    · refine TX.go 3 (fun n9 => (rfl : _ = exx ξ n9 (d + 8) j_N_letter 35 [(0, .ref 16), (1, J x), (2, J y), (3, J u), (4, .ref a1)] [J u, J y, .ref a1] σ)) ?_
      have s5 := hSa.2.2.2.2 y (by omega) (by omega)
      have s55 := s5.1
      have se := (FO_ent h255 hSa.2.2.1).2 y (by omega) (by omega)
      rw [← s55] at se
      have sr := hSa.1
      refine TX.callv (as := [J y, J u]) (r := []) rfl rfl rfl rfl (ArL_lt _ hAa1).2.2.1 hax2 rfl (s_A_fnameByte (d + 4) g a1 y u σ hK hAa1 h255 hSa.2.1 (by omega) (by omega) (by omega) (by omega) (by omega) (by omega) (by omega)) (fun v3 s3 hqs3 => ?_)
      obtain ⟨z3, rfl, esz3, hzz3, hyz3, pz3_0⟩ := hqs3
      rw [esz3]
      rw [s55] at pz3_0
      exact TX.ireti rfl rfl rfl (QE_l ⟨_, rfl, (Fr.refl hK), by omega, by omega, by omega, pz3_0⟩)
    · exact TX.throw (Nat.ble_eq_true_of_le (by omega)) rfl rfl (QE_r (by decide) (Fr.refl hK) ⟨(fun _ => by omega), (fun q => absurd q (by decide))⟩)
