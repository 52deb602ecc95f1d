/-! Entries: what is told of them, and how they are read. -/
set_option maxRecDepth 10000 in
set_option maxHeartbeats 4000000 in
theorem s_A_fhasEntry {ξ : Nat → Option (Nat × List Int32)} (d : Nat) (a : Nat) (x : Int) (σ : qH) (hK : K σ) (ha : a ∈ ArL) (rx : -2147483648 ≤ x ∧ x ≤ 2147483647) : T ξ d j_A_hasEntry 0 (lv_args 0 [.ref a, J x]) [] σ (fun v σ' => ∃ z : Int, v = some (J z) ∧ σ' = σ ∧ 0 ≤ z ∧ z ≤ 1 ∧ (0 ≤ x ∧ x < afld σ a 3 → z = 1) ∧ (¬ (0 ≤ x ∧ x < afld σ a 3) → z = 0)) := by
  have la := (ArL_lt a ha).2.1
  obtain ⟨ex1, erx1, dix1, bax1, fpx1, hax1, fx1a, fx1b, fx1c, fx1d, fx1e, fx1f, fx1g, fx1h, fx1i, fx1j⟩ := hK.arc ha
  have af3x1 := af_of (i := 3) hax1 rfl (by omega)
  subst af3x1
  have af4x1 := af_of (i := 4) hax1 rfl (by omega)
  subst af4x1
  have af5x1 := af_of (i := 5) hax1 rfl (by omega)
  subst af5x1
  have af6x1 := af_of (i := 6) hax1 rfl (by omega)
  subst af6x1
  have af7x1 := af_of (i := 7) hax1 rfl (by omega)
  subst af7x1
  refine T.go 1 (fun n9 => (rfl : _ = exe ξ n9 d j_A_hasEntry 1 [(0, .ref a), (1, J x)] [J x] σ)) ?_
  refine T.if_lt rfl rfl (by omega) (fun c1 => ?_) (fun c1 => ?_)
  · refine T.go 1 (fun n9 => (rfl : _ = exe ξ n9 d j_A_hasEntry 23 [(0, .ref a), (1, J x)] [J 0] σ)) ?_
    exact T.iretz rfl rfl (by omega) ⟨_, rfl, rfl, by omega, by omega, by omega, by omega⟩
  · refine T.go 2 (fun n9 => (rfl : _ = exe ξ n9 d j_A_hasEntry 6 [(0, .ref a), (1, J x)] [.ref a, J x] σ)) ?_
    refine T.get rfl rfl rfl hax1 rfl ?_
    refine T.icmp_ge rfl rfl (by omega) (by omega) (fun c2 => ?_) (fun c2 => ?_)
    · refine T.go 1 (fun n9 => (rfl : _ = exe ξ n9 d j_A_hasEntry 23 [(0, .ref a), (1, J x)] [J 0] σ)) ?_
      exact T.iretz rfl rfl (by omega) ⟨_, rfl, rfl, by omega, by omega, by omega, by omega⟩
    · refine T.go 2 (fun n9 => (rfl : _ = exe ξ n9 d j_A_hasEntry 15 [(0, .ref a), (1, J x)] [J 64, J x] σ)) ?_
      refine T.icmp_ge rfl rfl (by omega) (by omega) (fun c3 => ?_) (fun c3 => ?_)
      · refine T.go 1 (fun n9 => (rfl : _ = exe ξ n9 d j_A_hasEntry 23 [(0, .ref a), (1, J x)] [J 0] σ)) ?_
        exact T.iretz rfl rfl (by omega) ⟨_, rfl, rfl, by omega, by omega, by omega, by omega⟩
      · refine T.go 2 (fun n9 => (rfl : _ = exe ξ n9 d j_A_hasEntry 23 [(0, .ref a), (1, J x)] [J 1] σ)) ?_
        exact T.iretz rfl rfl (by omega) ⟨_, rfl, rfl, by omega, by omega, by omega, by omega⟩

set_option maxRecDepth 10000 in
set_option maxHeartbeats 4000000 in
theorem s_A_fheader {ξ : Nat → Option (Nat × List Int32)} (d : Nat) (a : Nat) (x : Int) (σ : qH) (hK : K σ) (ha : a ∈ ArL) (rx : -2147483648 ≤ x ∧ x ≤ 2147483647) : T ξ (d + 1) j_A_header 0 (lv_args 0 [.ref a, J x]) [] σ (fun v σ' => ∃ z : Int, v = some (J z) ∧ σ' = σ ∧ -2147483648 ≤ z ∧ z ≤ 2147483647 ∧ (0 ≤ x ∧ x < afld σ a 3 → z = gl (il σ (a + 3)) x)) := by
  have la := (ArL_lt a ha).2.1
  obtain ⟨ex1, erx1, dix1, bax1, fpx1, hax1, fx1a, fx1b, fx1c, fx1d, fx1e, fx1f, fx1g, fx1h, fx1i, fx1j⟩ := hK.arc ha
  have af3x1 := af_of (i := 3) hax1 rfl (by omega)
  subst af3x1
  have af4x1 := af_of (i := 4) hax1 rfl (by omega)
  subst af4x1
  have af5x1 := af_of (i := 5) hax1 rfl (by omega)
  subst af5x1
  have af6x1 := af_of (i := 6) hax1 rfl (by omega)
  subst af6x1
  have af7x1 := af_of (i := 7) hax1 rfl (by omega)
  subst af7x1
  refine T.go 2 (fun n9 => (rfl : _ = exe ξ n9 (d + 1) j_A_header 2 [(0, .ref a), (1, J x)] [J x, .ref a] σ)) ?_
  refine T.callv (as := [J x]) (r := []) rfl rfl rfl (ArL_lt _ ha).2.2.1 hax1 rfl (s_A_fhasEntry d a x σ hK ha  (by omega)) (fun v1 s1 hqs1 => ?_)
  obtain ⟨z1, rfl, esz1, hzz1, hyz1, pz1_0, pz1_1⟩ := hqs1
  rw [esz1]
  refine T.if_eq rfl rfl (by omega) (fun c1 => ?_) (fun c1 => ?_)
  · refine T.go 1 (fun n9 => (rfl : _ = exe ξ n9 (d + 1) j_A_header 18 [(0, .ref a), (1, J x)] [J 0] σ)) ?_
    exact T.ireti rfl rfl ⟨_, rfl, rfl, by omega, by omega, by omega⟩
  · refine T.go 1 (fun n9 => (rfl : _ = exe ξ n9 (d + 1) j_A_header 9 [(0, .ref a), (1, J x)] [.ref a] σ)) ?_
    refine T.get rfl rfl rfl hax1 rfl ?_
    refine T.go 1 (fun n9 => (rfl : _ = exe ξ n9 (d + 1) j_A_header 13 [(0, .ref a), (1, J x)] [J x, .ref (a + 3)] σ)) ?_
    obtain ⟨lx2, hix2, elx2⟩ := hK.ints (kdX_ar _ ha).2.2.2.1
    have ilx2 := il_of hix2
    refine T.iald rfl (blt_f (by omega)) hix2 (by omega) (fun z2 hzz2 hyz2 hez2 => ?_)
    have glz2 : gl (il σ (a + 3)) x = z2 := by rw [ilx2]; exact gl_of hez2 ⟨hzz2, hyz2⟩
    subst glz2
    refine T.go 1 (fun n9 => (rfl : _ = exe ξ n9 (d + 1) j_A_header 18 [(0, .ref a), (1, J x)] [J (gl (il σ (a + 3)) x)] σ)) ?_
    exact T.ireti rfl rfl ⟨_, rfl, rfl, by omega, by omega, by omega⟩

set_option maxRecDepth 10000 in
set_option maxHeartbeats 4000000 in
theorem s_A_fdataPlace {ξ : Nat → Option (Nat × List Int32)} (d : Nat) (a : Nat) (x : Int) (σ : qH) (hK : K σ) (ha : a ∈ ArL) (rx : -2147483648 ≤ x ∧ x ≤ 2147483647) : T ξ (d + 1) j_A_dataPlace 0 (lv_args 0 [.ref a, J x]) [] σ (fun v σ' => ∃ z : Int, v = some (J z) ∧ σ' = σ ∧ -2147483648 ≤ z ∧ z ≤ 2147483647 ∧ (0 ≤ x ∧ x < afld σ a 3 → z = gl (il σ (a + 4)) x)) := by
  have la := (ArL_lt a ha).2.1
  obtain ⟨ex1, erx1, dix1, bax1, fpx1, hax1, fx1a, fx1b, fx1c, fx1d, fx1e, fx1f, fx1g, fx1h, fx1i, fx1j⟩ := hK.arc ha
  have af3x1 := af_of (i := 3) hax1 rfl (by omega)
  subst af3x1
  have af4x1 := af_of (i := 4) hax1 rfl (by omega)
  subst af4x1
  have af5x1 := af_of (i := 5) hax1 rfl (by omega)
  subst af5x1
  have af6x1 := af_of (i := 6) hax1 rfl (by omega)
  subst af6x1
  have af7x1 := af_of (i := 7) hax1 rfl (by omega)
  subst af7x1
  refine T.go 2 (fun n9 => (rfl : _ = exe ξ n9 (d + 1) j_A_dataPlace 2 [(0, .ref a), (1, J x)] [J x, .ref a] σ)) ?_
  refine T.callv (as := [J x]) (r := []) rfl rfl rfl (ArL_lt _ ha).2.2.1 hax1 rfl (s_A_fhasEntry d a x σ hK ha  (by omega)) (fun v1 s1 hqs1 => ?_)
  obtain ⟨z1, rfl, esz1, hzz1, hyz1, pz1_0, pz1_1⟩ := hqs1
  rw [esz1]
  refine T.if_eq rfl rfl (by omega) (fun c1 => ?_) (fun c1 => ?_)
  · refine T.go 1 (fun n9 => (rfl : _ = exe ξ n9 (d + 1) j_A_dataPlace 18 [(0, .ref a), (1, J x)] [J 0] σ)) ?_
    exact T.ireti rfl rfl ⟨_, rfl, rfl, by omega, by omega, by omega⟩
  · refine T.go 1 (fun n9 => (rfl : _ = exe ξ n9 (d + 1) j_A_dataPlace 9 [(0, .ref a), (1, J x)] [.ref a] σ)) ?_
    refine T.get rfl rfl rfl hax1 rfl ?_
    refine T.go 1 (fun n9 => (rfl : _ = exe ξ n9 (d + 1) j_A_dataPlace 13 [(0, .ref a), (1, J x)] [J x, .ref (a + 4)] σ)) ?_
    obtain ⟨lx2, hix2, elx2⟩ := hK.ints (kdX_ar _ ha).2.2.2.2
    have ilx2 := il_of hix2
    refine T.iald rfl (blt_f (by omega)) hix2 (by omega) (fun z2 hzz2 hyz2 hez2 => ?_)
    have glz2 : gl (il σ (a + 4)) x = z2 := by rw [ilx2]; exact gl_of hez2 ⟨hzz2, hyz2⟩
    subst glz2
    refine T.go 1 (fun n9 => (rfl : _ = exe ξ n9 (d + 1) j_A_dataPlace 18 [(0, .ref a), (1, J x)] [J (gl (il σ (a + 4)) x)] σ)) ?_
    exact T.ireti rfl rfl ⟨_, rfl, rfl, by omega, by omega, by omega⟩

set_option maxRecDepth 10000 in
set_option maxHeartbeats 4000000 in
theorem s_A_fsize {ξ : Nat → Option (Nat × List Int32)} (d : Nat) (g : Int → Int) (a : Nat) (x : Int) (σ : qH) (hK : K σ) (ha : a ∈ ArL) (h255 : ∀ k, 0 ≤ g k ∧ g k ≤ 255) (hg : AGR σ (a + 1) g) (rx : -2147483648 ≤ x ∧ x ≤ 2147483647) (pre0 : 0 ≤ x) (pre1 : x < afld σ a 3) (pre2 : 0 ≤ gl (il σ (a + 3)) x) (pre3 : gl (il σ (a + 3)) x + 46 ≤ rl σ (a + 1)) : T ξ (d + 2) j_A_size 0 (lv_args 0 [.ref a, J x]) [] σ (fun v σ' => ∃ z : Int, v = some (JL z) ∧ σ' = σ ∧ 0 ≤ z ∧ z ≤ 4294967295 ∧ z = W4 g (gl (il σ (a + 3)) x + 24)) := by
  have la := (ArL_lt a ha).2.1
  have hW := W2_r h255
  have hV := W4_r h255
  obtain ⟨ex1, erx1, dix1, bax1, fpx1, hax1, fx1a, fx1b, fx1c, fx1d, fx1e, fx1f, fx1g, fx1h, fx1i, fx1j⟩ := hK.arc ha
  have af3x1 := af_of (i := 3) hax1 rfl (by omega)
  subst af3x1
  have af4x1 := af_of (i := 4) hax1 rfl (by omega)
  subst af4x1
  have af5x1 := af_of (i := 5) hax1 rfl (by omega)
  subst af5x1
  have af6x1 := af_of (i := 6) hax1 rfl (by omega)
  subst af6x1
  have af7x1 := af_of (i := 7) hax1 rfl (by omega)
  subst af7x1
  obtain ⟨mx2, nx2, bx2, lx2, hrx2, hbx2, fx2a, fx2b, fx2c, fx2d, fx2e, fx2g, fx2h, fx2i⟩ := hK.row (kdX_ar _ ha).2.2.1
  have ctx2 := CT_of hrx2 hbx2
  have rwx2 := rl_of hrx2 (by omega)
  subst rwx2
  refine T.go 1 (fun n9 => (rfl : _ = exe ξ n9 (d + 2) j_A_size 1 [(0, .ref a), (1, J x)] [.ref a] σ)) ?_
  refine T.get rfl rfl rfl hax1 rfl ?_
  refine T.go 2 (fun n9 => (rfl : _ = exe ξ n9 (d + 2) j_A_size 6 [(0, .ref a), (1, J x)] [J x, .ref a, .ref (a + 1)] σ)) ?_
  refine T.callv (as := [J x]) (r := [.ref (a + 1)]) rfl rfl rfl (ArL_lt _ ha).2.2.1 hax1 rfl (s_A_fheader d a x σ hK ha  (by omega)) (fun v1 s1 hqs1 => ?_)
  obtain ⟨z1, rfl, esz1, hzz1, hyz1, pz1_0⟩ := hqs1
  rw [esz1]
  have ez1 := pz1_0 (by omega)
  subst ez1
  refine T.go 1 (fun n9 => (rfl : _ = exe ξ n9 (d + 2) j_A_size 11 [(0, .ref a), (1, J x)] [J 24, J (gl (il σ (a + 3)) x), .ref (a + 1)] σ)) ?_
  refine T.iadd rfl ?_
  refine T.callv (as := [J ((gl (il σ (a + 3)) x) + 24)]) (r := []) rfl rfl rfl (RwL_lt _ (kdX_ar _ ha).2.2.1).2.2.1 hrx2 rfl (s_R_ffour d g (a + 1) ((gl (il σ (a + 3)) x) + 24) σ hK (kdX_ar _ ha).2.2.1 hg (by omega) (by omega) (by omega)) (fun v2 s2 hqs2 => ?_)
  obtain ⟨z2, rfl, esz2, hzz2, hyz2, pz2_0⟩ := hqs2
  rw [esz2]
  have ez2 := pz2_0 (by omega) (by omega)
  subst ez2
  have wz2 := hV ((gl (il σ (a + 3)) x) + 24)
  exact T.lret rfl rfl ⟨_, rfl, rfl, by omega, by omega, by omega⟩

set_option maxRecDepth 10000 in
set_option maxHeartbeats 4000000 in
theorem s_A_fpackedSize {ξ : Nat → Option (Nat × List Int32)} (d : Nat) (g : Int → Int) (a : Nat) (x : Int) (σ : qH) (hK : K σ) (ha : a ∈ ArL) (h255 : ∀ k, 0 ≤ g k ∧ g k ≤ 255) (hg : AGR σ (a + 1) g) (rx : -2147483648 ≤ x ∧ x ≤ 2147483647) (pre0 : 0 ≤ x) (pre1 : x < afld σ a 3) (pre2 : 0 ≤ gl (il σ (a + 3)) x) (pre3 : gl (il σ (a + 3)) x + 46 ≤ rl σ (a + 1)) : T ξ (d + 2) j_A_packedSize 0 (lv_args 0 [.ref a, J x]) [] σ (fun v σ' => ∃ z : Int, v = some (JL z) ∧ σ' = σ ∧ 0 ≤ z ∧ z ≤ 4294967295 ∧ z = W4 g (gl (il σ (a + 3)) x + 20)) := by
  have la := (ArL_lt a ha).2.1
  have hW := W2_r h255
  have hV := W4_r h255
  obtain ⟨ex1, erx1, dix1, bax1, fpx1, hax1, fx1a, fx1b, fx1c, fx1d, fx1e, fx1f, fx1g, fx1h, fx1i, fx1j⟩ := hK.arc ha
  have af3x1 := af_of (i := 3) hax1 rfl (by omega)
  subst af3x1
  have af4x1 := af_of (i := 4) hax1 rfl (by omega)
  subst af4x1
  have af5x1 := af_of (i := 5) hax1 rfl (by omega)
  subst af5x1
  have af6x1 := af_of (i := 6) hax1 rfl (by omega)
  subst af6x1
  have af7x1 := af_of (i := 7) hax1 rfl (by omega)
  subst af7x1
  obtain ⟨mx2, nx2, bx2, lx2, hrx2, hbx2, fx2a, fx2b, fx2c, fx2d, fx2e, fx2g, fx2h, fx2i⟩ := hK.row (kdX_ar _ ha).2.2.1
  have ctx2 := CT_of hrx2 hbx2
  have rwx2 := rl_of hrx2 (by omega)
  subst rwx2
  refine T.go 1 (fun n9 => (rfl : _ = exe ξ n9 (d + 2) j_A_packedSize 1 [(0, .ref a), (1, J x)] [.ref a] σ)) ?_
  refine T.get rfl rfl rfl hax1 rfl ?_
  refine T.go 2 (fun n9 => (rfl : _ = exe ξ n9 (d + 2) j_A_packedSize 6 [(0, .ref a), (1, J x)] [J x, .ref a, .ref (a + 1)] σ)) ?_
  refine T.callv (as := [J x]) (r := [.ref (a + 1)]) rfl rfl rfl (ArL_lt _ ha).2.2.1 hax1 rfl (s_A_fheader d a x σ hK ha  (by omega)) (fun v1 s1 hqs1 => ?_)
  obtain ⟨z1, rfl, esz1, hzz1, hyz1, pz1_0⟩ := hqs1
  rw [esz1]
  have ez1 := pz1_0 (by omega)
  subst ez1
  refine T.go 1 (fun n9 => (rfl : _ = exe ξ n9 (d + 2) j_A_packedSize 11 [(0, .ref a), (1, J x)] [J 20, J (gl (il σ (a + 3)) x), .ref (a + 1)] σ)) ?_
  refine T.iadd rfl ?_
  refine T.callv (as := [J ((gl (il σ (a + 3)) x) + 20)]) (r := []) rfl rfl rfl (RwL_lt _ (kdX_ar _ ha).2.2.1).2.2.1 hrx2 rfl (s_R_ffour d g (a + 1) ((gl (il σ (a + 3)) x) + 20) σ hK (kdX_ar _ ha).2.2.1 hg (by omega) (by omega) (by omega)) (fun v2 s2 hqs2 => ?_)
  obtain ⟨z2, rfl, esz2, hzz2, hyz2, pz2_0⟩ := hqs2
  rw [esz2]
  have ez2 := pz2_0 (by omega) (by omega)
  subst ez2
  have wz2 := hV ((gl (il σ (a + 3)) x) + 20)
  exact T.lret rfl rfl ⟨_, rfl, rfl, by omega, by omega, by omega⟩

set_option maxRecDepth 10000 in
set_option maxHeartbeats 4000000 in
theorem s_A_fsum {ξ : Nat → Option (Nat × List Int32)} (d : Nat) (g : Int → Int) (a : Nat) (x : Int) (σ : qH) (hK : K σ) (ha : a ∈ ArL) (h255 : ∀ k, 0 ≤ g k ∧ g k ≤ 255) (hg : AGR σ (a + 1) g) (rx : -2147483648 ≤ x ∧ x ≤ 2147483647) (pre0 : 0 ≤ x) (pre1 : x < afld σ a 3) (pre2 : 0 ≤ gl (il σ (a + 3)) x) (pre3 : gl (il σ (a + 3)) x + 46 ≤ rl σ (a + 1)) : T ξ (d + 2) j_A_sum 0 (lv_args 0 [.ref a, J x]) [] σ (fun v σ' => ∃ z : Int, v = some (JL z) ∧ σ' = σ ∧ 0 ≤ z ∧ z ≤ 4294967295 ∧ z = W4 g (gl (il σ (a + 3)) x + 16)) := by
  have la := (ArL_lt a ha).2.1
  have hW := W2_r h255
  have hV := W4_r h255
  obtain ⟨ex1, erx1, dix1, bax1, fpx1, hax1, fx1a, fx1b, fx1c, fx1d, fx1e, fx1f, fx1g, fx1h, fx1i, fx1j⟩ := hK.arc ha
  have af3x1 := af_of (i := 3) hax1 rfl (by omega)
  subst af3x1
  have af4x1 := af_of (i := 4) hax1 rfl (by omega)
  subst af4x1
  have af5x1 := af_of (i := 5) hax1 rfl (by omega)
  subst af5x1
  have af6x1 := af_of (i := 6) hax1 rfl (by omega)
  subst af6x1
  have af7x1 := af_of (i := 7) hax1 rfl (by omega)
  subst af7x1
  obtain ⟨mx2, nx2, bx2, lx2, hrx2, hbx2, fx2a, fx2b, fx2c, fx2d, fx2e, fx2g, fx2h, fx2i⟩ := hK.row (kdX_ar _ ha).2.2.1
  have ctx2 := CT_of hrx2 hbx2
  have rwx2 := rl_of hrx2 (by omega)
  subst rwx2
  refine T.go 1 (fun n9 => (rfl : _ = exe ξ n9 (d + 2) j_A_sum 1 [(0, .ref a), (1, J x)] [.ref a] σ)) ?_
  refine T.get rfl rfl rfl hax1 rfl ?_
  refine T.go 2 (fun n9 => (rfl : _ = exe ξ n9 (d + 2) j_A_sum 6 [(0, .ref a), (1, J x)] [J x, .ref a, .ref (a + 1)] σ)) ?_
  refine T.callv (as := [J x]) (r := [.ref (a + 1)]) rfl rfl rfl (ArL_lt _ ha).2.2.1 hax1 rfl (s_A_fheader d a x σ hK ha  (by omega)) (fun v1 s1 hqs1 => ?_)
  obtain ⟨z1, rfl, esz1, hzz1, hyz1, pz1_0⟩ := hqs1
  rw [esz1]
  have ez1 := pz1_0 (by omega)
  subst ez1
  refine T.go 1 (fun n9 => (rfl : _ = exe ξ n9 (d + 2) j_A_sum 11 [(0, .ref a), (1, J x)] [J 16, J (gl (il σ (a + 3)) x), .ref (a + 1)] σ)) ?_
  refine T.iadd rfl ?_
  refine T.callv (as := [J ((gl (il σ (a + 3)) x) + 16)]) (r := []) rfl rfl rfl (RwL_lt _ (kdX_ar _ ha).2.2.1).2.2.1 hrx2 rfl (s_R_ffour d g (a + 1) ((gl (il σ (a + 3)) x) + 16) σ hK (kdX_ar _ ha).2.2.1 hg (by omega) (by omega) (by omega)) (fun v2 s2 hqs2 => ?_)
  obtain ⟨z2, rfl, esz2, hzz2, hyz2, pz2_0⟩ := hqs2
  rw [esz2]
  have ez2 := pz2_0 (by omega) (by omega)
  subst ez2
  have wz2 := hV ((gl (il σ (a + 3)) x) + 16)
  exact T.lret rfl rfl ⟨_, rfl, rfl, by omega, by omega, by omega⟩

set_option maxRecDepth 10000 in
set_option maxHeartbeats 4000000 in
theorem s_A_fmethod {ξ : Nat → Option (Nat × List Int32)} (d : Nat) (g : Int → Int) (a : Nat) (x : Int) (σ : qH) (hK : K σ) (ha : a ∈ ArL) (h255 : ∀ k, 0 ≤ g k ∧ g k ≤ 255) (hg : AGR σ (a + 1) g) (rx : -2147483648 ≤ x ∧ x ≤ 2147483647) (pre0 : 0 ≤ x) (pre1 : x < afld σ a 3) (pre2 : 0 ≤ gl (il σ (a + 3)) x) (pre3 : gl (il σ (a + 3)) x + 46 ≤ rl σ (a + 1)) : T ξ (d + 2) j_A_method 0 (lv_args 0 [.ref a, J x]) [] σ (fun v σ' => ∃ z : Int, v = some (J z) ∧ σ' = σ ∧ 0 ≤ z ∧ z ≤ 65535 ∧ z = W2 g (gl (il σ (a + 3)) x + 10)) := by
  have la := (ArL_lt a ha).2.1
  have hW := W2_r h255
  have hV := W4_r h255
  obtain ⟨ex1, erx1, dix1, bax1, fpx1, hax1, fx1a, fx1b, fx1c, fx1d, fx1e, fx1f, fx1g, fx1h, fx1i, fx1j⟩ := hK.arc ha
  have af3x1 := af_of (i := 3) hax1 rfl (by omega)
  subst af3x1
  have af4x1 := af_of (i := 4) hax1 rfl (by omega)
  subst af4x1
  have af5x1 := af_of (i := 5) hax1 rfl (by omega)
  subst af5x1
  have af6x1 := af_of (i := 6) hax1 rfl (by omega)
  subst af6x1
  have af7x1 := af_of (i := 7) hax1 rfl (by omega)
  subst af7x1
  obtain ⟨mx2, nx2, bx2, lx2, hrx2, hbx2, fx2a, fx2b, fx2c, fx2d, fx2e, fx2g, fx2h, fx2i⟩ := hK.row (kdX_ar _ ha).2.2.1
  have ctx2 := CT_of hrx2 hbx2
  have rwx2 := rl_of hrx2 (by omega)
  subst rwx2
  refine T.go 1 (fun n9 => (rfl : _ = exe ξ n9 (d + 2) j_A_method 1 [(0, .ref a), (1, J x)] [.ref a] σ)) ?_
  refine T.get rfl rfl rfl hax1 rfl ?_
  refine T.go 2 (fun n9 => (rfl : _ = exe ξ n9 (d + 2) j_A_method 6 [(0, .ref a), (1, J x)] [J x, .ref a, .ref (a + 1)] σ)) ?_
  refine T.callv (as := [J x]) (r := [.ref (a + 1)]) rfl rfl rfl (ArL_lt _ ha).2.2.1 hax1 rfl (s_A_fheader d a x σ hK ha  (by omega)) (fun v1 s1 hqs1 => ?_)
  obtain ⟨z1, rfl, esz1, hzz1, hyz1, pz1_0⟩ := hqs1
  rw [esz1]
  have ez1 := pz1_0 (by omega)
  subst ez1
  refine T.go 1 (fun n9 => (rfl : _ = exe ξ n9 (d + 2) j_A_method 11 [(0, .ref a), (1, J x)] [J 10, J (gl (il σ (a + 3)) x), .ref (a + 1)] σ)) ?_
  refine T.iadd rfl ?_
  refine T.callv (as := [J ((gl (il σ (a + 3)) x) + 10)]) (r := []) rfl rfl rfl (RwL_lt _ (kdX_ar _ ha).2.2.1).2.2.1 hrx2 rfl (s_R_ftwo (d + 1) g (a + 1) ((gl (il σ (a + 3)) x) + 10) σ hK (kdX_ar _ ha).2.2.1 hg (by omega)) (fun v2 s2 hqs2 => ?_)
  obtain ⟨z2, rfl, esz2, hzz2, hyz2, pz2_0, pz2_1⟩ := hqs2
  rw [esz2]
  have ez2 := pz2_0 (by omega) (by omega)
  subst ez2
  have wz2 := hW ((gl (il σ (a + 3)) x) + 10)
  exact T.ireti rfl rfl ⟨_, rfl, rfl, by omega, by omega, by omega⟩

set_option maxRecDepth 10000 in
set_option maxHeartbeats 4000000 in
theorem s_A_fflags {ξ : Nat → Option (Nat × List Int32)} (d : Nat) (g : Int → Int) (a : Nat) (x : Int) (σ : qH) (hK : K σ) (ha : a ∈ ArL) (h255 : ∀ k, 0 ≤ g k ∧ g k ≤ 255) (hg : AGR σ (a + 1) g) (rx : -2147483648 ≤ x ∧ x ≤ 2147483647) (pre0 : 0 ≤ x) (pre1 : x < afld σ a 3) (pre2 : 0 ≤ gl (il σ (a + 3)) x) (pre3 : gl (il σ (a + 3)) x + 46 ≤ rl σ (a + 1)) : T ξ (d + 2) j_A_flags 0 (lv_args 0 [.ref a, J x]) [] σ (fun v σ' => ∃ z : Int, v = some (J z) ∧ σ' = σ ∧ 0 ≤ z ∧ z ≤ 65535 ∧ z = W2 g (gl (il σ (a + 3)) x + 8)) := by
  have la := (ArL_lt a ha).2.1
  have hW := W2_r h255
  have hV := W4_r h255
  obtain ⟨ex1, erx1, dix1, bax1, fpx1, hax1, fx1a, fx1b, fx1c, fx1d, fx1e, fx1f, fx1g, fx1h, fx1i, fx1j⟩ := hK.arc ha
  have af3x1 := af_of (i := 3) hax1 rfl (by omega)
  subst af3x1
  have af4x1 := af_of (i := 4) hax1 rfl (by omega)
  subst af4x1
  have af5x1 := af_of (i := 5) hax1 rfl (by omega)
  subst af5x1
  have af6x1 := af_of (i := 6) hax1 rfl (by omega)
  subst af6x1
  have af7x1 := af_of (i := 7) hax1 rfl (by omega)
  subst af7x1
  obtain ⟨mx2, nx2, bx2, lx2, hrx2, hbx2, fx2a, fx2b, fx2c, fx2d, fx2e, fx2g, fx2h, fx2i⟩ := hK.row (kdX_ar _ ha).2.2.1
  have ctx2 := CT_of hrx2 hbx2
  have rwx2 := rl_of hrx2 (by omega)
  subst rwx2
  refine T.go 1 (fun n9 => (rfl : _ = exe ξ n9 (d + 2) j_A_flags 1 [(0, .ref a), (1, J x)] [.ref a] σ)) ?_
  refine T.get rfl rfl rfl hax1 rfl ?_
  refine T.go 2 (fun n9 => (rfl : _ = exe ξ n9 (d + 2) j_A_flags 6 [(0, .ref a), (1, J x)] [J x, .ref a, .ref (a + 1)] σ)) ?_
  refine T.callv (as := [J x]) (r := [.ref (a + 1)]) rfl rfl rfl (ArL_lt _ ha).2.2.1 hax1 rfl (s_A_fheader d a x σ hK ha  (by omega)) (fun v1 s1 hqs1 => ?_)
  obtain ⟨z1, rfl, esz1, hzz1, hyz1, pz1_0⟩ := hqs1
  rw [esz1]
  have ez1 := pz1_0 (by omega)
  subst ez1
  refine T.go 1 (fun n9 => (rfl : _ = exe ξ n9 (d + 2) j_A_flags 11 [(0, .ref a), (1, J x)] [J 8, J (gl (il σ (a + 3)) x), .ref (a + 1)] σ)) ?_
  refine T.iadd rfl ?_
  refine T.callv (as := [J ((gl (il σ (a + 3)) x) + 8)]) (r := []) rfl rfl rfl (RwL_lt _ (kdX_ar _ ha).2.2.1).2.2.1 hrx2 rfl (s_R_ftwo (d + 1) g (a + 1) ((gl (il σ (a + 3)) x) + 8) σ hK (kdX_ar _ ha).2.2.1 hg (by omega)) (fun v2 s2 hqs2 => ?_)
  obtain ⟨z2, rfl, esz2, hzz2, hyz2, pz2_0, pz2_1⟩ := hqs2
  rw [esz2]
  have ez2 := pz2_0 (by omega) (by omega)
  subst ez2
  have wz2 := hW ((gl (il σ (a + 3)) x) + 8)
  exact T.ireti rfl rfl ⟨_, rfl, rfl, by omega, by omega, by omega⟩

set_option maxRecDepth 10000 in
set_option maxHeartbeats 4000000 in
theorem s_A_fnameLength {ξ : Nat → Option (Nat × List Int32)} (d : Nat) (g : Int → Int) (a : Nat) (x : Int) (σ : qH) (hK : K σ) (ha : a ∈ ArL) (h255 : ∀ k, 0 ≤ g k ∧ g k ≤ 255) (hg : AGR σ (a + 1) g) (rx : -2147483648 ≤ x ∧ x ≤ 2147483647) (pre0 : 0 ≤ x) (pre1 : x < afld σ a 3) (pre2 : 0 ≤ gl (il σ (a + 3)) x) (pre3 : gl (il σ (a + 3)) x + 46 ≤ rl σ (a + 1)) : T ξ (d + 2) j_A_nameLength 0 (lv_args 0 [.ref a, J x]) [] σ (fun v σ' => ∃ z : Int, v = some (J z) ∧ σ' = σ ∧ 0 ≤ z ∧ z ≤ 65535 ∧ z = W2 g (gl (il σ (a + 3)) x + 28)) := by
  have la := (ArL_lt a ha).2.1
  have hW := W2_r h255
  have hV := W4_r h255
  obtain ⟨ex1, erx1, dix1, bax1, fpx1, hax1, fx1a, fx1b, fx1c, fx1d, fx1e, fx1f, fx1g, fx1h, fx1i, fx1j⟩ := hK.arc ha
  have af3x1 := af_of (i := 3) hax1 rfl (by omega)
  subst af3x1
  have af4x1 := af_of (i := 4) hax1 rfl (by omega)
  subst af4x1
  have af5x1 := af_of (i := 5) hax1 rfl (by omega)
  subst af5x1
  have af6x1 := af_of (i := 6) hax1 rfl (by omega)
  subst af6x1
  have af7x1 := af_of (i := 7) hax1 rfl (by omega)
  subst af7x1
  obtain ⟨mx2, nx2, bx2, lx2, hrx2, hbx2, fx2a, fx2b, fx2c, fx2d, fx2e, fx2g, fx2h, fx2i⟩ := hK.row (kdX_ar _ ha).2.2.1
  have ctx2 := CT_of hrx2 hbx2
  have rwx2 := rl_of hrx2 (by omega)
  subst rwx2
  refine T.go 1 (fun n9 => (rfl : _ = exe ξ n9 (d + 2) j_A_nameLength 1 [(0, .ref a), (1, J x)] [.ref a] σ)) ?_
  refine T.get rfl rfl rfl hax1 rfl ?_
  refine T.go 2 (fun n9 => (rfl : _ = exe ξ n9 (d + 2) j_A_nameLength 6 [(0, .ref a), (1, J x)] [J x, .ref a, .ref (a + 1)] σ)) ?_
  refine T.callv (as := [J x]) (r := [.ref (a + 1)]) rfl rfl rfl (ArL_lt _ ha).2.2.1 hax1 rfl (s_A_fheader d a x σ hK ha  (by omega)) (fun v1 s1 hqs1 => ?_)
  obtain ⟨z1, rfl, esz1, hzz1, hyz1, pz1_0⟩ := hqs1
  rw [esz1]
  have ez1 := pz1_0 (by omega)
  subst ez1
  refine T.go 1 (fun n9 => (rfl : _ = exe ξ n9 (d + 2) j_A_nameLength 11 [(0, .ref a), (1, J x)] [J 28, J (gl (il σ (a + 3)) x), .ref (a + 1)] σ)) ?_
  refine T.iadd rfl ?_
  refine T.callv (as := [J ((gl (il σ (a + 3)) x) + 28)]) (r := []) rfl rfl rfl (RwL_lt _ (kdX_ar _ ha).2.2.1).2.2.1 hrx2 rfl (s_R_ftwo (d + 1) g (a + 1) ((gl (il σ (a + 3)) x) + 28) σ hK (kdX_ar _ ha).2.2.1 hg (by omega)) (fun v2 s2 hqs2 => ?_)
  obtain ⟨z2, rfl, esz2, hzz2, hyz2, pz2_0, pz2_1⟩ := hqs2
  rw [esz2]
  have ez2 := pz2_0 (by omega) (by omega)
  subst ez2
  have wz2 := hW ((gl (il σ (a + 3)) x) + 28)
  exact T.ireti rfl rfl ⟨_, rfl, rfl, by omega, by omega, by omega⟩
