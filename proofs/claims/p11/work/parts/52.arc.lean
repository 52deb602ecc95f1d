set_option maxRecDepth 10000 in
set_option maxHeartbeats 4000000 in
theorem s_A_lookUp {ξ : Nat → Option (Nat × List Int32)} (d : Nat) (a : Nat) (o : Nat) (x : Int) (n : Int) (σ : qH) (hK : K σ) (ha : a ∈ ArL) (ho : o ∈ RwL) (rx : -2147483648 ≤ x ∧ x ≤ 2147483647) (rn : -2147483648 ≤ n ∧ n ≤ 2147483647) : T ξ (d + 1) j_A_lookUp 0 (lv_args 0 [.ref a, .ref o, J x, J n]) [] σ (fun v σ' => ∃ z : Int, v = some (J z) ∧ σ' = σ ∧ -1 ≤ z ∧ z ≤ 63) := by
  have la := (ArL_lt a ha).2.1
  obtain ⟨ex1, erx1, dix1, bax1, fpx1, hax1, fx1a, fx1b, fx1c, fx1d, fx1e, fx1f, fx1g, fx1h, fx1i, fx1j⟩ := hK.arc ha
  obtain ⟨mx2, nx2, bx2, lx2, hrx2, hbx2, fx2a, fx2b, fx2c, fx2d, fx2e, fx2g, fx2h, fx2i⟩ := hK.row (kdX_ar _ ha).2.2.1
  have loop3 : ∀ (f : Nat) (k : Int), 0 ≤ k → k ≤ 64 → (64 - k).toNat < f → T ξ (d + 1) j_A_lookUp 3 [(0, .ref a), (1, .ref o), (2, J x), (3, J n), (4, J k)] [] σ (fun v σ' => ∃ z : Int, v = some (J z) ∧ σ' = σ ∧ -1 ≤ z ∧ z ≤ 63) := by
    intro f
    induction f with
    | zero => intro k i0 i1 hm; omega
    | succ f ih =>
      intro k i0 i1 hm
      refine T.go 2 (fun n9 => (rfl : _ = exe ξ n9 (d + 1) j_A_lookUp 6 [(0, .ref a), (1, .ref o), (2, J x), (3, J n), (4, J k)] [.ref a, J k] σ)) ?_
      refine T.get rfl rfl rfl hax1 rfl ?_
      refine T.icmp_ge rfl rfl (by omega) (by omega) (fun c1 => ?_) (fun c1 => ?_)
      · refine T.go 1 (fun n9 => (rfl : _ = exe ξ n9 (d + 1) j_A_lookUp 73 [(0, .ref a), (1, .ref o), (2, J x), (3, J n), (4, J k)] [J (-1)] σ)) ?_
        exact T.ireti rfl rfl ⟨_, rfl, rfl, by omega, by omega⟩
      · refine T.go 2 (fun n9 => (rfl : _ = exe ξ n9 (d + 1) j_A_lookUp 16 [(0, .ref a), (1, .ref o), (2, J x), (3, J n), (4, J k)] [J 64, J k] σ)) ?_
        refine T.icmp_ge rfl rfl (by omega) (by omega) (fun c2 => ?_) (fun c2 => ?_)
        · refine T.go 1 (fun n9 => (rfl : _ = exe ξ n9 (d + 1) j_A_lookUp 73 [(0, .ref a), (1, .ref o), (2, J x), (3, J n), (4, J k)] [J (-1)] σ)) ?_
          exact T.ireti rfl rfl ⟨_, rfl, rfl, by omega, by omega⟩
        · refine T.go 1 (fun n9 => (rfl : _ = exe ξ n9 (d + 1) j_A_lookUp 20 [(0, .ref a), (1, .ref o), (2, J x), (3, J n), (4, J k)] [.ref a] σ)) ?_
          refine T.get rfl rfl rfl hax1 rfl ?_
          refine T.go 1 (fun n9 => (rfl : _ = exe ξ n9 (d + 1) j_A_lookUp 24 [(0, .ref a), (1, .ref o), (2, J x), (3, J n), (4, J k)] [.ref a, .ref (a + 1)] σ)) ?_
          refine T.get rfl rfl rfl hax1 rfl ?_
          refine T.go 1 (fun n9 => (rfl : _ = exe ξ n9 (d + 1) j_A_lookUp 29 [(0, .ref a), (1, .ref o), (2, J x), (3, J n), (4, J k)] [J k, .ref (a + 3), .ref (a + 1)] σ)) ?_
          obtain ⟨lx3, hix3, elx3⟩ := hK.ints (kdX_ar _ ha).2.2.2.1
          refine T.iald rfl (blt_f (by omega)) hix3 (by omega) (fun z1 hzz1 hyz1 hez1 => ?_)
          refine T.go 1 (fun n9 => (rfl : _ = exe ξ n9 (d + 1) j_A_lookUp 32 [(0, .ref a), (1, .ref o), (2, J x), (3, J n), (4, J k)] [J 28, J z1, .ref (a + 1)] σ)) ?_
          refine T.iadd rfl ?_
          refine T.norm (fun z2 hzz2 hyz2 hwz2 => ?_)
          refine T.callv (as := [J z2]) (r := []) rfl rfl rfl (RwL_lt _ (kdX_ar _ ha).2.2.1).2.2.1 hrx2 rfl (s_R_two d (a + 1) z2 σ hK (kdX_ar _ ha).2.2.1  (by omega)) (fun v1 s1 hqs1 => ?_)
          obtain ⟨z3, rfl, esz3, hzz3, hyz3⟩ := hqs1
          rw [esz3]
          refine T.go 1 (fun n9 => (rfl : _ = exe ξ n9 (d + 1) j_A_lookUp 37 [(0, .ref a), (1, .ref o), (2, J x), (3, J n), (4, J k)] [J n, J z3] σ)) ?_
          refine T.icmp_ne rfl rfl (by omega) (by omega) (fun c3 => ?_) (fun c3 => ?_)
          · refine T.iinc (lv' := [(0, .ref a), (1, .ref o), (2, J x), (3, J n), (4, J (k + 1))]) rfl rfl rfl rfl ?_
            refine T.go 1 (fun n9 => (rfl : _ = exe ξ n9 (d + 1) j_A_lookUp 3 [(0, .ref a), (1, .ref o), (2, J x), (3, J n), (4, J (k + 1))] [] σ)) ?_
            exact ih  (k + 1) (by omega) (by omega) (by omega)
          · refine T.go 1 (fun n9 => (rfl : _ = exe ξ n9 (d + 1) j_A_lookUp 41 [(0, .ref a), (1, .ref o), (2, J x), (3, J n), (4, J k)] [.ref a] σ)) ?_
            refine T.get rfl rfl rfl hax1 rfl ?_
            refine T.go 1 (fun n9 => (rfl : _ = exe ξ n9 (d + 1) j_A_lookUp 45 [(0, .ref a), (1, .ref o), (2, J x), (3, J n), (4, J k)] [.ref a, .ref (a + 1)] σ)) ?_
            refine T.get rfl rfl rfl hax1 rfl ?_
            refine T.go 1 (fun n9 => (rfl : _ = exe ξ n9 (d + 1) j_A_lookUp 50 [(0, .ref a), (1, .ref o), (2, J x), (3, J n), (4, J k)] [J k, .ref (a + 3), .ref (a + 1)] σ)) ?_
            refine T.iald rfl (blt_f (by omega)) hix3 (by omega) (fun z4 hzz4 hyz4 hez4 => ?_)
            refine T.go 1 (fun n9 => (rfl : _ = exe ξ n9 (d + 1) j_A_lookUp 53 [(0, .ref a), (1, .ref o), (2, J x), (3, J n), (4, J k)] [J 46, J z4, .ref (a + 1)] σ)) ?_
            refine T.iadd rfl ?_
            refine T.norm (fun z5 hzz5 hyz5 hwz5 => ?_)
            refine T.go 3 (fun n9 => (rfl : _ = exe ξ n9 (d + 1) j_A_lookUp 57 [(0, .ref a), (1, .ref o), (2, J x), (3, J n), (4, J k)] [J n, J x, .ref o, J z5, .ref (a + 1)] σ)) ?_
            refine T.callv (as := [J z5, .ref o, J x, J n]) (r := []) rfl rfl rfl (RwL_lt _ (kdX_ar _ ha).2.2.1).2.2.1 hrx2 rfl (s_R_hasPart d (a + 1) z5 o x n σ hK (kdX_ar _ ha).2.2.1 ho  (by omega) (by omega) (by omega)) (fun v2 s2 hqs2 => ?_)
            obtain ⟨z6, rfl, esz6, hzz6, hyz6⟩ := hqs2
            rw [esz6]
            refine T.if_eq rfl rfl (by omega) (fun c4 => ?_) (fun c4 => ?_)
            · refine T.iinc (lv' := [(0, .ref a), (1, .ref o), (2, J x), (3, J n), (4, J (k + 1))]) rfl rfl rfl rfl ?_
              refine T.go 1 (fun n9 => (rfl : _ = exe ξ n9 (d + 1) j_A_lookUp 3 [(0, .ref a), (1, .ref o), (2, J x), (3, J n), (4, J (k + 1))] [] σ)) ?_
              exact ih  (k + 1) (by omega) (by omega) (by omega)
            · refine T.go 1 (fun n9 => (rfl : _ = exe ξ n9 (d + 1) j_A_lookUp 65 [(0, .ref a), (1, .ref o), (2, J x), (3, J n), (4, J k)] [J k] σ)) ?_
              exact T.ireti rfl rfl ⟨_, rfl, rfl, by omega, by omega⟩
  refine T.go 2 (fun n9 => (rfl : _ = exe ξ n9 (d + 1) j_A_lookUp 3 [(0, .ref a), (1, .ref o), (2, J x), (3, J n), (4, J 0)] [] σ)) ?_
  exact loop3 _ 0 (by omega) (by omega) (Nat.lt_succ_self _)

set_option maxRecDepth 10000 in
set_option maxHeartbeats 4000000 in
theorem s_A_hasEntry {ξ : Nat → Option (Nat × List Int32)} (d : Nat) (a : Nat) (x : Int) (σ : qH) (hK : K σ) (ha : a ∈ ArL) (rx : -2147483648 ≤ x ∧ x ≤ 2147483647) : T ξ d j_A_hasEntry 0 (lv_args 0 [.ref a, J x]) [] σ (fun v σ' => ∃ z : Int, v = some (J z) ∧ σ' = σ ∧ 0 ≤ z ∧ z ≤ 1 ∧ (z = 1 → 0 ≤ x ∧ x ≤ 63)) := by
  refine T.go 1 (fun n9 => (rfl : _ = exe ξ n9 d j_A_hasEntry 1 [(0, .ref a), (1, J x)] [J x] σ)) ?_
  refine T.if_lt rfl rfl (by omega) (fun c1 => ?_) (fun c1 => ?_)
  · refine T.go 1 (fun n9 => (rfl : _ = exe ξ n9 d j_A_hasEntry 23 [(0, .ref a), (1, J x)] [J 0] σ)) ?_
    exact T.iretz rfl rfl (by omega) ⟨_, rfl, rfl, by omega, by omega, by omega⟩
  · refine T.go 2 (fun n9 => (rfl : _ = exe ξ n9 d j_A_hasEntry 6 [(0, .ref a), (1, J x)] [.ref a, J x] σ)) ?_
    obtain ⟨ex1, erx1, dix1, bax1, fpx1, hax1, fx1a, fx1b, fx1c, fx1d, fx1e, fx1f, fx1g, fx1h, fx1i, fx1j⟩ := hK.arc ha
    refine T.get rfl rfl rfl hax1 rfl ?_
    refine T.icmp_ge rfl rfl (by omega) (by omega) (fun c2 => ?_) (fun c2 => ?_)
    · refine T.go 1 (fun n9 => (rfl : _ = exe ξ n9 d j_A_hasEntry 23 [(0, .ref a), (1, J x)] [J 0] σ)) ?_
      exact T.iretz rfl rfl (by omega) ⟨_, rfl, rfl, by omega, by omega, by omega⟩
    · refine T.go 2 (fun n9 => (rfl : _ = exe ξ n9 d j_A_hasEntry 15 [(0, .ref a), (1, J x)] [J 64, J x] σ)) ?_
      refine T.icmp_ge rfl rfl (by omega) (by omega) (fun c3 => ?_) (fun c3 => ?_)
      · refine T.go 1 (fun n9 => (rfl : _ = exe ξ n9 d j_A_hasEntry 23 [(0, .ref a), (1, J x)] [J 0] σ)) ?_
        exact T.iretz rfl rfl (by omega) ⟨_, rfl, rfl, by omega, by omega, by omega⟩
      · refine T.go 2 (fun n9 => (rfl : _ = exe ξ n9 d j_A_hasEntry 23 [(0, .ref a), (1, J x)] [J 1] σ)) ?_
        exact T.iretz rfl rfl (by omega) ⟨_, rfl, rfl, by omega, by omega, by omega⟩

set_option maxRecDepth 10000 in
set_option maxHeartbeats 4000000 in
theorem s_A_header {ξ : Nat → Option (Nat × List Int32)} (d : Nat) (a : Nat) (x : Int) (σ : qH) (hK : K σ) (ha : a ∈ ArL) (rx : -2147483648 ≤ x ∧ x ≤ 2147483647) : T ξ (d + 1) j_A_header 0 (lv_args 0 [.ref a, J x]) [] σ (fun v σ' => ∃ z : Int, v = some (J z) ∧ σ' = σ ∧ -2147483648 ≤ z ∧ z ≤ 2147483647) := by
  have la := (ArL_lt a ha).2.1
  refine T.go 2 (fun n9 => (rfl : _ = exe ξ n9 (d + 1) j_A_header 2 [(0, .ref a), (1, J x)] [J x, .ref a] σ)) ?_
  obtain ⟨ex1, erx1, dix1, bax1, fpx1, hax1, fx1a, fx1b, fx1c, fx1d, fx1e, fx1f, fx1g, fx1h, fx1i, fx1j⟩ := hK.arc ha
  refine T.callv (as := [J x]) (r := []) rfl rfl rfl (ArL_lt _ ha).2.2.1 hax1 rfl (s_A_hasEntry d a x σ hK ha  (by omega)) (fun v1 s1 hqs1 => ?_)
  obtain ⟨z1, rfl, esz1, hzz1, hyz1, pz1_0⟩ := hqs1
  rw [esz1]
  refine T.if_eq rfl rfl (by omega) (fun c1 => ?_) (fun c1 => ?_)
  · refine T.go 1 (fun n9 => (rfl : _ = exe ξ n9 (d + 1) j_A_header 18 [(0, .ref a), (1, J x)] [J 0] σ)) ?_
    exact T.ireti rfl rfl ⟨_, rfl, rfl, by omega, by omega⟩
  · refine T.go 1 (fun n9 => (rfl : _ = exe ξ n9 (d + 1) j_A_header 9 [(0, .ref a), (1, J x)] [.ref a] σ)) ?_
    refine T.get rfl rfl rfl hax1 rfl ?_
    refine T.go 1 (fun n9 => (rfl : _ = exe ξ n9 (d + 1) j_A_header 13 [(0, .ref a), (1, J x)] [J x, .ref (a + 3)] σ)) ?_
    obtain ⟨lx2, hix2, elx2⟩ := hK.ints (kdX_ar _ ha).2.2.2.1
    refine T.iald rfl (blt_f (by omega)) hix2 (by omega) (fun z2 hzz2 hyz2 hez2 => ?_)
    refine T.go 1 (fun n9 => (rfl : _ = exe ξ n9 (d + 1) j_A_header 18 [(0, .ref a), (1, J x)] [J z2] σ)) ?_
    exact T.ireti rfl rfl ⟨_, rfl, rfl, by omega, by omega⟩

set_option maxRecDepth 10000 in
set_option maxHeartbeats 4000000 in
theorem s_A_dataPlace {ξ : Nat → Option (Nat × List Int32)} (d : Nat) (a : Nat) (x : Int) (σ : qH) (hK : K σ) (ha : a ∈ ArL) (rx : -2147483648 ≤ x ∧ x ≤ 2147483647) : T ξ (d + 1) j_A_dataPlace 0 (lv_args 0 [.ref a, J x]) [] σ (fun v σ' => ∃ z : Int, v = some (J z) ∧ σ' = σ ∧ -2147483648 ≤ z ∧ z ≤ 2147483647) := by
  have la := (ArL_lt a ha).2.1
  refine T.go 2 (fun n9 => (rfl : _ = exe ξ n9 (d + 1) j_A_dataPlace 2 [(0, .ref a), (1, J x)] [J x, .ref a] σ)) ?_
  obtain ⟨ex1, erx1, dix1, bax1, fpx1, hax1, fx1a, fx1b, fx1c, fx1d, fx1e, fx1f, fx1g, fx1h, fx1i, fx1j⟩ := hK.arc ha
  refine T.callv (as := [J x]) (r := []) rfl rfl rfl (ArL_lt _ ha).2.2.1 hax1 rfl (s_A_hasEntry d a x σ hK ha  (by omega)) (fun v1 s1 hqs1 => ?_)
  obtain ⟨z1, rfl, esz1, hzz1, hyz1, pz1_0⟩ := hqs1
  rw [esz1]
  refine T.if_eq rfl rfl (by omega) (fun c1 => ?_) (fun c1 => ?_)
  · refine T.go 1 (fun n9 => (rfl : _ = exe ξ n9 (d + 1) j_A_dataPlace 18 [(0, .ref a), (1, J x)] [J 0] σ)) ?_
    exact T.ireti rfl rfl ⟨_, rfl, rfl, by omega, by omega⟩
  · refine T.go 1 (fun n9 => (rfl : _ = exe ξ n9 (d + 1) j_A_dataPlace 9 [(0, .ref a), (1, J x)] [.ref a] σ)) ?_
    refine T.get rfl rfl rfl hax1 rfl ?_
    refine T.go 1 (fun n9 => (rfl : _ = exe ξ n9 (d + 1) j_A_dataPlace 13 [(0, .ref a), (1, J x)] [J x, .ref (a + 4)] σ)) ?_
    obtain ⟨lx2, hix2, elx2⟩ := hK.ints (kdX_ar _ ha).2.2.2.2
    refine T.iald rfl (blt_f (by omega)) hix2 (by omega) (fun z2 hzz2 hyz2 hez2 => ?_)
    refine T.go 1 (fun n9 => (rfl : _ = exe ξ n9 (d + 1) j_A_dataPlace 18 [(0, .ref a), (1, J x)] [J z2] σ)) ?_
    exact T.ireti rfl rfl ⟨_, rfl, rfl, by omega, by omega⟩

set_option maxRecDepth 10000 in
set_option maxHeartbeats 4000000 in
theorem s_A_size {ξ : Nat → Option (Nat × List Int32)} (d : Nat) (a : Nat) (x : Int) (σ : qH) (hK : K σ) (ha : a ∈ ArL) (rx : -2147483648 ≤ x ∧ x ≤ 2147483647) : T ξ (d + 2) j_A_size 0 (lv_args 0 [.ref a, J x]) [] σ (fun v σ' => ∃ z : Int, v = some (JL z) ∧ σ' = σ ∧ -65536 ≤ z ∧ z ≤ 4294967295) := by
  refine T.go 1 (fun n9 => (rfl : _ = exe ξ n9 (d + 2) j_A_size 1 [(0, .ref a), (1, J x)] [.ref a] σ)) ?_
  obtain ⟨ex1, erx1, dix1, bax1, fpx1, hax1, fx1a, fx1b, fx1c, fx1d, fx1e, fx1f, fx1g, fx1h, fx1i, fx1j⟩ := hK.arc ha
  refine T.get rfl rfl rfl hax1 rfl ?_
  refine T.go 2 (fun n9 => (rfl : _ = exe ξ n9 (d + 2) j_A_size 6 [(0, .ref a), (1, J x)] [J x, .ref a, .ref (a + 1)] σ)) ?_
  refine T.callv (as := [J x]) (r := [.ref (a + 1)]) rfl rfl rfl (ArL_lt _ ha).2.2.1 hax1 rfl (s_A_header d a x σ hK ha  (by omega)) (fun v1 s1 hqs1 => ?_)
  obtain ⟨z1, rfl, esz1, hzz1, hyz1⟩ := hqs1
  rw [esz1]
  refine T.go 1 (fun n9 => (rfl : _ = exe ξ n9 (d + 2) j_A_size 11 [(0, .ref a), (1, J x)] [J 24, J z1, .ref (a + 1)] σ)) ?_
  refine T.iadd rfl ?_
  refine T.norm (fun z2 hzz2 hyz2 hwz2 => ?_)
  obtain ⟨mx2, nx2, bx2, lx2, hrx2, hbx2, fx2a, fx2b, fx2c, fx2d, fx2e, fx2g, fx2h, fx2i⟩ := hK.row (kdX_ar _ ha).2.2.1
  refine T.callv (as := [J z2]) (r := []) rfl rfl rfl (RwL_lt _ (kdX_ar _ ha).2.2.1).2.2.1 hrx2 rfl (s_R_four d (a + 1) z2 σ hK (kdX_ar _ ha).2.2.1  (by omega)) (fun v2 s2 hqs2 => ?_)
  obtain ⟨z3, rfl, esz3, hzz3, hyz3⟩ := hqs2
  rw [esz3]
  exact T.lret rfl rfl ⟨_, rfl, rfl, by omega, by omega⟩

set_option maxRecDepth 10000 in
set_option maxHeartbeats 4000000 in
theorem s_A_packedSize {ξ : Nat → Option (Nat × List Int32)} (d : Nat) (a : Nat) (x : Int) (σ : qH) (hK : K σ) (ha : a ∈ ArL) (rx : -2147483648 ≤ x ∧ x ≤ 2147483647) : T ξ (d + 2) j_A_packedSize 0 (lv_args 0 [.ref a, J x]) [] σ (fun v σ' => ∃ z : Int, v = some (JL z) ∧ σ' = σ ∧ -65536 ≤ z ∧ z ≤ 4294967295) := by
  refine T.go 1 (fun n9 => (rfl : _ = exe ξ n9 (d + 2) j_A_packedSize 1 [(0, .ref a), (1, J x)] [.ref a] σ)) ?_
  obtain ⟨ex1, erx1, dix1, bax1, fpx1, hax1, fx1a, fx1b, fx1c, fx1d, fx1e, fx1f, fx1g, fx1h, fx1i, fx1j⟩ := hK.arc ha
  refine T.get rfl rfl rfl hax1 rfl ?_
  refine T.go 2 (fun n9 => (rfl : _ = exe ξ n9 (d + 2) j_A_packedSize 6 [(0, .ref a), (1, J x)] [J x, .ref a, .ref (a + 1)] σ)) ?_
  refine T.callv (as := [J x]) (r := [.ref (a + 1)]) rfl rfl rfl (ArL_lt _ ha).2.2.1 hax1 rfl (s_A_header d a x σ hK ha  (by omega)) (fun v1 s1 hqs1 => ?_)
  obtain ⟨z1, rfl, esz1, hzz1, hyz1⟩ := hqs1
  rw [esz1]
  refine T.go 1 (fun n9 => (rfl : _ = exe ξ n9 (d + 2) j_A_packedSize 11 [(0, .ref a), (1, J x)] [J 20, J z1, .ref (a + 1)] σ)) ?_
  refine T.iadd rfl ?_
  refine T.norm (fun z2 hzz2 hyz2 hwz2 => ?_)
  obtain ⟨mx2, nx2, bx2, lx2, hrx2, hbx2, fx2a, fx2b, fx2c, fx2d, fx2e, fx2g, fx2h, fx2i⟩ := hK.row (kdX_ar _ ha).2.2.1
  refine T.callv (as := [J z2]) (r := []) rfl rfl rfl (RwL_lt _ (kdX_ar _ ha).2.2.1).2.2.1 hrx2 rfl (s_R_four d (a + 1) z2 σ hK (kdX_ar _ ha).2.2.1  (by omega)) (fun v2 s2 hqs2 => ?_)
  obtain ⟨z3, rfl, esz3, hzz3, hyz3⟩ := hqs2
  rw [esz3]
  exact T.lret rfl rfl ⟨_, rfl, rfl, by omega, by omega⟩

set_option maxRecDepth 10000 in
set_option maxHeartbeats 4000000 in
theorem s_A_sum {ξ : Nat → Option (Nat × List Int32)} (d : Nat) (a : Nat) (x : Int) (σ : qH) (hK : K σ) (ha : a ∈ ArL) (rx : -2147483648 ≤ x ∧ x ≤ 2147483647) : T ξ (d + 2) j_A_sum 0 (lv_args 0 [.ref a, J x]) [] σ (fun v σ' => ∃ z : Int, v = some (JL z) ∧ σ' = σ ∧ -65536 ≤ z ∧ z ≤ 4294967295) := by
  refine T.go 1 (fun n9 => (rfl : _ = exe ξ n9 (d + 2) j_A_sum 1 [(0, .ref a), (1, J x)] [.ref a] σ)) ?_
  obtain ⟨ex1, erx1, dix1, bax1, fpx1, hax1, fx1a, fx1b, fx1c, fx1d, fx1e, fx1f, fx1g, fx1h, fx1i, fx1j⟩ := hK.arc ha
  refine T.get rfl rfl rfl hax1 rfl ?_
  refine T.go 2 (fun n9 => (rfl : _ = exe ξ n9 (d + 2) j_A_sum 6 [(0, .ref a), (1, J x)] [J x, .ref a, .ref (a + 1)] σ)) ?_
  refine T.callv (as := [J x]) (r := [.ref (a + 1)]) rfl rfl rfl (ArL_lt _ ha).2.2.1 hax1 rfl (s_A_header d a x σ hK ha  (by omega)) (fun v1 s1 hqs1 => ?_)
  obtain ⟨z1, rfl, esz1, hzz1, hyz1⟩ := hqs1
  rw [esz1]
  refine T.go 1 (fun n9 => (rfl : _ = exe ξ n9 (d + 2) j_A_sum 11 [(0, .ref a), (1, J x)] [J 16, J z1, .ref (a + 1)] σ)) ?_
  refine T.iadd rfl ?_
  refine T.norm (fun z2 hzz2 hyz2 hwz2 => ?_)
  obtain ⟨mx2, nx2, bx2, lx2, hrx2, hbx2, fx2a, fx2b, fx2c, fx2d, fx2e, fx2g, fx2h, fx2i⟩ := hK.row (kdX_ar _ ha).2.2.1
  refine T.callv (as := [J z2]) (r := []) rfl rfl rfl (RwL_lt _ (kdX_ar _ ha).2.2.1).2.2.1 hrx2 rfl (s_R_four d (a + 1) z2 σ hK (kdX_ar _ ha).2.2.1  (by omega)) (fun v2 s2 hqs2 => ?_)
  obtain ⟨z3, rfl, esz3, hzz3, hyz3⟩ := hqs2
  rw [esz3]
  exact T.lret rfl rfl ⟨_, rfl, rfl, by omega, by omega⟩

set_option maxRecDepth 10000 in
set_option maxHeartbeats 4000000 in
theorem s_A_method {ξ : Nat → Option (Nat × List Int32)} (d : Nat) (a : Nat) (x : Int) (σ : qH) (hK : K σ) (ha : a ∈ ArL) (rx : -2147483648 ≤ x ∧ x ≤ 2147483647) : T ξ (d + 2) j_A_method 0 (lv_args 0 [.ref a, J x]) [] σ (fun v σ' => ∃ z : Int, v = some (J z) ∧ σ' = σ ∧ -1 ≤ z ∧ z ≤ 65535) := by
  refine T.go 1 (fun n9 => (rfl : _ = exe ξ n9 (d + 2) j_A_method 1 [(0, .ref a), (1, J x)] [.ref a] σ)) ?_
  obtain ⟨ex1, erx1, dix1, bax1, fpx1, hax1, fx1a, fx1b, fx1c, fx1d, fx1e, fx1f, fx1g, fx1h, fx1i, fx1j⟩ := hK.arc ha
  refine T.get rfl rfl rfl hax1 rfl ?_
  refine T.go 2 (fun n9 => (rfl : _ = exe ξ n9 (d + 2) j_A_method 6 [(0, .ref a), (1, J x)] [J x, .ref a, .ref (a + 1)] σ)) ?_
  refine T.callv (as := [J x]) (r := [.ref (a + 1)]) rfl rfl rfl (ArL_lt _ ha).2.2.1 hax1 rfl (s_A_header d a x σ hK ha  (by omega)) (fun v1 s1 hqs1 => ?_)
  obtain ⟨z1, rfl, esz1, hzz1, hyz1⟩ := hqs1
  rw [esz1]
  refine T.go 1 (fun n9 => (rfl : _ = exe ξ n9 (d + 2) j_A_method 11 [(0, .ref a), (1, J x)] [J 10, J z1, .ref (a + 1)] σ)) ?_
  refine T.iadd rfl ?_
  refine T.norm (fun z2 hzz2 hyz2 hwz2 => ?_)
  obtain ⟨mx2, nx2, bx2, lx2, hrx2, hbx2, fx2a, fx2b, fx2c, fx2d, fx2e, fx2g, fx2h, fx2i⟩ := hK.row (kdX_ar _ ha).2.2.1
  refine T.callv (as := [J z2]) (r := []) rfl rfl rfl (RwL_lt _ (kdX_ar _ ha).2.2.1).2.2.1 hrx2 rfl (s_R_two (d + 1) (a + 1) z2 σ hK (kdX_ar _ ha).2.2.1  (by omega)) (fun v2 s2 hqs2 => ?_)
  obtain ⟨z3, rfl, esz3, hzz3, hyz3⟩ := hqs2
  rw [esz3]
  exact T.ireti rfl rfl ⟨_, rfl, rfl, by omega, by omega⟩

set_option maxRecDepth 10000 in
set_option maxHeartbeats 4000000 in
theorem s_A_flags {ξ : Nat → Option (Nat × List Int32)} (d : Nat) (a : Nat) (x : Int) (σ : qH) (hK : K σ) (ha : a ∈ ArL) (rx : -2147483648 ≤ x ∧ x ≤ 2147483647) : T ξ (d + 2) j_A_flags 0 (lv_args 0 [.ref a, J x]) [] σ (fun v σ' => ∃ z : Int, v = some (J z) ∧ σ' = σ ∧ -1 ≤ z ∧ z ≤ 65535) := by
  refine T.go 1 (fun n9 => (rfl : _ = exe ξ n9 (d + 2) j_A_flags 1 [(0, .ref a), (1, J x)] [.ref a] σ)) ?_
  obtain ⟨ex1, erx1, dix1, bax1, fpx1, hax1, fx1a, fx1b, fx1c, fx1d, fx1e, fx1f, fx1g, fx1h, fx1i, fx1j⟩ := hK.arc ha
  refine T.get rfl rfl rfl hax1 rfl ?_
  refine T.go 2 (fun n9 => (rfl : _ = exe ξ n9 (d + 2) j_A_flags 6 [(0, .ref a), (1, J x)] [J x, .ref a, .ref (a + 1)] σ)) ?_
  refine T.callv (as := [J x]) (r := [.ref (a + 1)]) rfl rfl rfl (ArL_lt _ ha).2.2.1 hax1 rfl (s_A_header d a x σ hK ha  (by omega)) (fun v1 s1 hqs1 => ?_)
  obtain ⟨z1, rfl, esz1, hzz1, hyz1⟩ := hqs1
  rw [esz1]
  refine T.go 1 (fun n9 => (rfl : _ = exe ξ n9 (d + 2) j_A_flags 11 [(0, .ref a), (1, J x)] [J 8, J z1, .ref (a + 1)] σ)) ?_
  refine T.iadd rfl ?_
  refine T.norm (fun z2 hzz2 hyz2 hwz2 => ?_)
  obtain ⟨mx2, nx2, bx2, lx2, hrx2, hbx2, fx2a, fx2b, fx2c, fx2d, fx2e, fx2g, fx2h, fx2i⟩ := hK.row (kdX_ar _ ha).2.2.1
  refine T.callv (as := [J z2]) (r := []) rfl rfl rfl (RwL_lt _ (kdX_ar _ ha).2.2.1).2.2.1 hrx2 rfl (s_R_two (d + 1) (a + 1) z2 σ hK (kdX_ar _ ha).2.2.1  (by omega)) (fun v2 s2 hqs2 => ?_)
  obtain ⟨z3, rfl, esz3, hzz3, hyz3⟩ := hqs2
  rw [esz3]
  exact T.ireti rfl rfl ⟨_, rfl, rfl, by omega, by omega⟩
