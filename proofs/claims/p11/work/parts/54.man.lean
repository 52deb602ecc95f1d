/-! classes Manifest and IndexLines, whatever is asked of them. -/
set_option maxRecDepth 10000 in
set_option maxHeartbeats 4000000 in
theorem s_F_lineStop {ξ : Nat → Option (Nat × List Int32)} (d : Nat) (r : Nat) (x : Int) (σ : qH) (hK : K σ) (hr : r ∈ RwL) (rx : -2147483648 ≤ x ∧ x ≤ 2147483647) (pre0 : 0 ≤ x) (pre1 : x ≤ 10000) : T ξ (d + 1) j_F_lineStop 0 (lv_args 0 [.ref 41, .ref r, J x]) [] σ (fun v σ' => ∃ z : Int, v = some (J z) ∧ σ' = σ ∧ 0 ≤ z ∧ z ≤ 10000) := by
  obtain ⟨mx1, nx1, bx1, lx1, hrx1, hbx1, fx1a, fx1b, fx1c, fx1d, fx1e, fx1g, fx1h, fx1i⟩ := hK.row hr
  have loop2 : ∀ (f : Nat) (k : Int), 0 ≤ k → k ≤ 10000 → (nx1 - k).toNat < f → T ξ (d + 1) j_F_lineStop 2 [(0, .ref 41), (1, .ref r), (2, J x), (3, J k)] [] σ (fun v σ' => ∃ z : Int, v = some (J z) ∧ σ' = σ ∧ 0 ≤ z ∧ z ≤ 10000) := by
    intro f
    induction f with
    | zero => intro k i0 i1 hm; omega
    | succ f ih =>
      intro k i0 i1 hm
      refine T.go 2 (fun n9 => (rfl : _ = exe ξ n9 (d + 1) j_F_lineStop 4 [(0, .ref 41), (1, .ref r), (2, J x), (3, J k)] [.ref r, J k] σ)) ?_
      refine T.get rfl rfl rfl hrx1 rfl ?_
      refine T.icmp_ge rfl rfl (by omega) (by omega) (fun c1 => ?_) (fun c1 => ?_)
      · refine T.go 1 (fun n9 => (rfl : _ = exe ξ n9 (d + 1) j_F_lineStop 27 [(0, .ref 41), (1, .ref r), (2, J x), (3, J k)] [J k] σ)) ?_
        exact T.ireti rfl rfl ⟨_, rfl, rfl, by omega, by omega⟩
      · refine T.go 2 (fun n9 => (rfl : _ = exe ξ n9 (d + 1) j_F_lineStop 12 [(0, .ref 41), (1, .ref r), (2, J x), (3, J k)] [J k, .ref r] σ)) ?_
        refine T.callv (as := [J k]) (r := []) rfl rfl rfl (RwL_lt _ hr).2.2.1 hrx1 rfl (s_R_at d r k σ hK hr  (by omega)) (fun v1 s1 hqs1 => ?_)
        obtain ⟨z1, rfl, esz1, hzz1, hyz1⟩ := hqs1
        rw [esz1]
        refine T.go 1 (fun n9 => (rfl : _ = exe ξ n9 (d + 1) j_F_lineStop 17 [(0, .ref 41), (1, .ref r), (2, J x), (3, J k)] [J 10, J z1] σ)) ?_
        refine T.icmp_eq rfl rfl (by omega) (by omega) (fun c2 => ?_) (fun c2 => ?_)
        · refine T.go 1 (fun n9 => (rfl : _ = exe ξ n9 (d + 1) j_F_lineStop 27 [(0, .ref 41), (1, .ref r), (2, J x), (3, J k)] [J k] σ)) ?_
          exact T.ireti rfl rfl ⟨_, rfl, rfl, by omega, by omega⟩
        · refine T.iinc (lv' := [(0, .ref 41), (1, .ref r), (2, J x), (3, J (k + 1))]) rfl rfl rfl rfl ?_
          refine T.go 1 (fun n9 => (rfl : _ = exe ξ n9 (d + 1) j_F_lineStop 2 [(0, .ref 41), (1, .ref r), (2, J x), (3, J (k + 1))] [] σ)) ?_
          exact ih  (k + 1) (by omega) (by omega) (by omega)
  refine T.go 2 (fun n9 => (rfl : _ = exe ξ n9 (d + 1) j_F_lineStop 2 [(0, .ref 41), (1, .ref r), (2, J x), (3, J x)] [] σ)) ?_
  exact loop2 _ x (by omega) (by omega) (Nat.lt_succ_self _)

set_option maxRecDepth 10000 in
set_option maxHeartbeats 4000000 in
theorem s_F_lineLength {ξ : Nat → Option (Nat × List Int32)} (d : Nat) (r : Nat) (x : Int) (y : Int) (σ : qH) (hK : K σ) (hr : r ∈ RwL) (rx : -2147483648 ≤ x ∧ x ≤ 2147483647) (ry : -2147483648 ≤ y ∧ y ≤ 2147483647) (pre0 : 0 ≤ x) (pre1 : x ≤ 10000) (pre2 : 0 ≤ y) (pre3 : y ≤ 10000) : T ξ (d + 1) j_F_lineLength 0 (lv_args 0 [.ref 41, .ref r, J x, J y]) [] σ (fun v σ' => ∃ z : Int, v = some (J z) ∧ σ' = σ ∧ -10001 ≤ z ∧ z ≤ 10000) := by
  refine T.go 2 (fun n9 => (rfl : _ = exe ξ n9 (d + 1) j_F_lineLength 2 [(0, .ref 41), (1, .ref r), (2, J x), (3, J y)] [.ref r, J y] σ)) ?_
  obtain ⟨mx1, nx1, bx1, lx1, hrx1, hbx1, fx1a, fx1b, fx1c, fx1d, fx1e, fx1g, fx1h, fx1i⟩ := hK.row hr
  refine T.get rfl rfl rfl hrx1 rfl ?_
  refine T.icmp_ge rfl rfl (by omega) (by omega) (fun c1 => ?_) (fun c1 => ?_)
  · refine T.go 6 (fun n9 => (rfl : _ = exe ξ n9 (d + 1) j_F_lineLength 47 [(0, .ref 41), (1, .ref r), (2, J x), (3, J y), (4, J 0)] [J x, J y] σ)) ?_
    refine T.isub rfl ?_
    exact T.ireti rfl rfl ⟨_, rfl, rfl, by omega, by omega⟩
  · refine T.go 2 (fun n9 => (rfl : _ = exe ξ n9 (d + 1) j_F_lineLength 10 [(0, .ref 41), (1, .ref r), (2, J x), (3, J y)] [J x, J y] σ)) ?_
    refine T.icmp_le rfl rfl (by omega) (by omega) (fun c2 => ?_) (fun c2 => ?_)
    · refine T.go 6 (fun n9 => (rfl : _ = exe ξ n9 (d + 1) j_F_lineLength 47 [(0, .ref 41), (1, .ref r), (2, J x), (3, J y), (4, J 0)] [J x, J y] σ)) ?_
      refine T.isub rfl ?_
      exact T.ireti rfl rfl ⟨_, rfl, rfl, by omega, by omega⟩
    · refine T.go 3 (fun n9 => (rfl : _ = exe ξ n9 (d + 1) j_F_lineLength 16 [(0, .ref 41), (1, .ref r), (2, J x), (3, J y)] [J 1, J y, .ref r] σ)) ?_
      refine T.isub rfl ?_
      refine T.callv (as := [J (y - 1)]) (r := []) rfl rfl rfl (RwL_lt _ hr).2.2.1 hrx1 rfl (s_R_at d r (y - 1) σ hK hr  (by omega)) (fun v1 s1 hqs1 => ?_)
      obtain ⟨z1, rfl, esz1, hzz1, hyz1⟩ := hqs1
      rw [esz1]
      refine T.go 1 (fun n9 => (rfl : _ = exe ξ n9 (d + 1) j_F_lineLength 22 [(0, .ref 41), (1, .ref r), (2, J x), (3, J y)] [J 13, J z1] σ)) ?_
      refine T.icmp_ne rfl rfl (by omega) (by omega) (fun c3 => ?_) (fun c3 => ?_)
      · refine T.go 6 (fun n9 => (rfl : _ = exe ξ n9 (d + 1) j_F_lineLength 47 [(0, .ref 41), (1, .ref r), (2, J x), (3, J y), (4, J 0)] [J x, J y] σ)) ?_
        refine T.isub rfl ?_
        exact T.ireti rfl rfl ⟨_, rfl, rfl, by omega, by omega⟩
      · refine T.go 7 (fun n9 => (rfl : _ = exe ξ n9 (d + 1) j_F_lineLength 39 [(0, .ref 41), (1, .ref r), (2, J x), (3, J y), (4, J 1)] [J x, J y] σ)) ?_
        refine T.isub rfl ?_
        refine T.go 1 (fun n9 => (rfl : _ = exe ξ n9 (d + 1) j_F_lineLength 41 [(0, .ref 41), (1, .ref r), (2, J x), (3, J y), (4, J 1)] [J 1, J (y - x)] σ)) ?_
        refine T.isub rfl ?_
        refine T.go 1 (fun n9 => (rfl : _ = exe ξ n9 (d + 1) j_F_lineLength 48 [(0, .ref 41), (1, .ref r), (2, J x), (3, J y), (4, J 1)] [J ((y - x) - 1)] σ)) ?_
        exact T.ireti rfl rfl ⟨_, rfl, rfl, by omega, by omega⟩

set_option maxRecDepth 10000 in
set_option maxHeartbeats 4000000 in
theorem s_F_isNameByte {ξ : Nat → Option (Nat × List Int32)} (d : Nat) (x : Int) (σ : qH) (hK : K σ)  (rx : -2147483648 ≤ x ∧ x ≤ 2147483647) : T ξ d j_F_isNameByte 0 (lv_args 0 [J x]) [] σ (fun v σ' => ∃ z : Int, v = some (J z) ∧ σ' = σ ∧ 0 ≤ z ∧ z ≤ 1) := by
  refine T.go 2 (fun n9 => (rfl : _ = exe ξ n9 d j_F_isNameByte 3 [(0, J x)] [J 65, J x] σ)) ?_
  refine T.icmp_lt rfl rfl (by omega) (by omega) (fun c1 => ?_) (fun c1 => ?_)
  · refine T.go 2 (fun n9 => (rfl : _ = exe ξ n9 d j_F_isNameByte 15 [(0, J x)] [J 97, J x] σ)) ?_
    refine T.icmp_lt rfl rfl (by omega) (by omega) (fun c2 => ?_) (fun c2 => ?_)
    · refine T.go 2 (fun n9 => (rfl : _ = exe ξ n9 d j_F_isNameByte 27 [(0, J x)] [J 48, J x] σ)) ?_
      refine T.icmp_lt rfl rfl (by omega) (by omega) (fun c3 => ?_) (fun c3 => ?_)
      · refine T.go 2 (fun n9 => (rfl : _ = exe ξ n9 d j_F_isNameByte 39 [(0, J x)] [J 45, J x] σ)) ?_
        refine T.icmp_eq rfl rfl (by omega) (by omega) (fun c4 => ?_) (fun c4 => ?_)
        · refine T.go 2 (fun n9 => (rfl : _ = exe ξ n9 d j_F_isNameByte 53 [(0, J x)] [J 1] σ)) ?_
          exact T.iretz rfl rfl (by omega) ⟨_, rfl, rfl, by omega, by omega⟩
        · refine T.go 2 (fun n9 => (rfl : _ = exe ξ n9 d j_F_isNameByte 45 [(0, J x)] [J 95, J x] σ)) ?_
          refine T.icmp_ne rfl rfl (by omega) (by omega) (fun c5 => ?_) (fun c5 => ?_)
          · refine T.go 1 (fun n9 => (rfl : _ = exe ξ n9 d j_F_isNameByte 53 [(0, J x)] [J 0] σ)) ?_
            exact T.iretz rfl rfl (by omega) ⟨_, rfl, rfl, by omega, by omega⟩
          · refine T.go 2 (fun n9 => (rfl : _ = exe ξ n9 d j_F_isNameByte 53 [(0, J x)] [J 1] σ)) ?_
            exact T.iretz rfl rfl (by omega) ⟨_, rfl, rfl, by omega, by omega⟩
      · refine T.go 2 (fun n9 => (rfl : _ = exe ξ n9 d j_F_isNameByte 33 [(0, J x)] [J 57, J x] σ)) ?_
        refine T.icmp_le rfl rfl (by omega) (by omega) (fun c6 => ?_) (fun c6 => ?_)
        · refine T.go 2 (fun n9 => (rfl : _ = exe ξ n9 d j_F_isNameByte 53 [(0, J x)] [J 1] σ)) ?_
          exact T.iretz rfl rfl (by omega) ⟨_, rfl, rfl, by omega, by omega⟩
        · refine T.go 2 (fun n9 => (rfl : _ = exe ξ n9 d j_F_isNameByte 39 [(0, J x)] [J 45, J x] σ)) ?_
          refine T.icmp_eq rfl rfl (by omega) (by omega) (fun c7 => ?_) (fun c7 => ?_)
          · refine T.go 2 (fun n9 => (rfl : _ = exe ξ n9 d j_F_isNameByte 53 [(0, J x)] [J 1] σ)) ?_
            exact T.iretz rfl rfl (by omega) ⟨_, rfl, rfl, by omega, by omega⟩
          · refine T.go 2 (fun n9 => (rfl : _ = exe ξ n9 d j_F_isNameByte 45 [(0, J x)] [J 95, J x] σ)) ?_
            refine T.icmp_ne rfl rfl (by omega) (by omega) (fun c8 => ?_) (fun c8 => ?_)
            · refine T.go 1 (fun n9 => (rfl : _ = exe ξ n9 d j_F_isNameByte 53 [(0, J x)] [J 0] σ)) ?_
              exact T.iretz rfl rfl (by omega) ⟨_, rfl, rfl, by omega, by omega⟩
            · refine T.go 2 (fun n9 => (rfl : _ = exe ξ n9 d j_F_isNameByte 53 [(0, J x)] [J 1] σ)) ?_
              exact T.iretz rfl rfl (by omega) ⟨_, rfl, rfl, by omega, by omega⟩
    · refine T.go 2 (fun n9 => (rfl : _ = exe ξ n9 d j_F_isNameByte 21 [(0, J x)] [J 122, J x] σ)) ?_
      refine T.icmp_le rfl rfl (by omega) (by omega) (fun c9 => ?_) (fun c9 => ?_)
      · refine T.go 2 (fun n9 => (rfl : _ = exe ξ n9 d j_F_isNameByte 53 [(0, J x)] [J 1] σ)) ?_
        exact T.iretz rfl rfl (by omega) ⟨_, rfl, rfl, by omega, by omega⟩
      · refine T.go 2 (fun n9 => (rfl : _ = exe ξ n9 d j_F_isNameByte 27 [(0, J x)] [J 48, J x] σ)) ?_
        refine T.icmp_lt rfl rfl (by omega) (by omega) (fun c10 => ?_) (fun c10 => ?_)
        · refine T.go 2 (fun n9 => (rfl : _ = exe ξ n9 d j_F_isNameByte 39 [(0, J x)] [J 45, J x] σ)) ?_
          refine T.icmp_eq rfl rfl (by omega) (by omega) (fun c11 => ?_) (fun c11 => ?_)
          · refine T.go 2 (fun n9 => (rfl : _ = exe ξ n9 d j_F_isNameByte 53 [(0, J x)] [J 1] σ)) ?_
            exact T.iretz rfl rfl (by omega) ⟨_, rfl, rfl, by omega, by omega⟩
          · refine T.go 2 (fun n9 => (rfl : _ = exe ξ n9 d j_F_isNameByte 45 [(0, J x)] [J 95, J x] σ)) ?_
            refine T.icmp_ne rfl rfl (by omega) (by omega) (fun c12 => ?_) (fun c12 => ?_)
            · refine T.go 1 (fun n9 => (rfl : _ = exe ξ n9 d j_F_isNameByte 53 [(0, J x)] [J 0] σ)) ?_
              exact T.iretz rfl rfl (by omega) ⟨_, rfl, rfl, by omega, by omega⟩
            · refine T.go 2 (fun n9 => (rfl : _ = exe ξ n9 d j_F_isNameByte 53 [(0, J x)] [J 1] σ)) ?_
              exact T.iretz rfl rfl (by omega) ⟨_, rfl, rfl, by omega, by omega⟩
        · refine T.go 2 (fun n9 => (rfl : _ = exe ξ n9 d j_F_isNameByte 33 [(0, J x)] [J 57, J x] σ)) ?_
          refine T.icmp_le rfl rfl (by omega) (by omega) (fun c13 => ?_) (fun c13 => ?_)
          · refine T.go 2 (fun n9 => (rfl : _ = exe ξ n9 d j_F_isNameByte 53 [(0, J x)] [J 1] σ)) ?_
            exact T.iretz rfl rfl (by omega) ⟨_, rfl, rfl, by omega, by omega⟩
          · refine T.go 2 (fun n9 => (rfl : _ = exe ξ n9 d j_F_isNameByte 39 [(0, J x)] [J 45, J x] σ)) ?_
            refine T.icmp_eq rfl rfl (by omega) (by omega) (fun c14 => ?_) (fun c14 => ?_)
            · refine T.go 2 (fun n9 => (rfl : _ = exe ξ n9 d j_F_isNameByte 53 [(0, J x)] [J 1] σ)) ?_
              exact T.iretz rfl rfl (by omega) ⟨_, rfl, rfl, by omega, by omega⟩
            · refine T.go 2 (fun n9 => (rfl : _ = exe ξ n9 d j_F_isNameByte 45 [(0, J x)] [J 95, J x] σ)) ?_
              refine T.icmp_ne rfl rfl (by omega) (by omega) (fun c15 => ?_) (fun c15 => ?_)
              · refine T.go 1 (fun n9 => (rfl : _ = exe ξ n9 d j_F_isNameByte 53 [(0, J x)] [J 0] σ)) ?_
                exact T.iretz rfl rfl (by omega) ⟨_, rfl, rfl, by omega, by omega⟩
              · refine T.go 2 (fun n9 => (rfl : _ = exe ξ n9 d j_F_isNameByte 53 [(0, J x)] [J 1] σ)) ?_
                exact T.iretz rfl rfl (by omega) ⟨_, rfl, rfl, by omega, by omega⟩
  · refine T.go 2 (fun n9 => (rfl : _ = exe ξ n9 d j_F_isNameByte 9 [(0, J x)] [J 90, J x] σ)) ?_
    refine T.icmp_le rfl rfl (by omega) (by omega) (fun c16 => ?_) (fun c16 => ?_)
    · refine T.go 2 (fun n9 => (rfl : _ = exe ξ n9 d j_F_isNameByte 53 [(0, J x)] [J 1] σ)) ?_
      exact T.iretz rfl rfl (by omega) ⟨_, rfl, rfl, by omega, by omega⟩
    · refine T.go 2 (fun n9 => (rfl : _ = exe ξ n9 d j_F_isNameByte 15 [(0, J x)] [J 97, J x] σ)) ?_
      refine T.icmp_lt rfl rfl (by omega) (by omega) (fun c17 => ?_) (fun c17 => ?_)
      · refine T.go 2 (fun n9 => (rfl : _ = exe ξ n9 d j_F_isNameByte 27 [(0, J x)] [J 48, J x] σ)) ?_
        refine T.icmp_lt rfl rfl (by omega) (by omega) (fun c18 => ?_) (fun c18 => ?_)
        · refine T.go 2 (fun n9 => (rfl : _ = exe ξ n9 d j_F_isNameByte 39 [(0, J x)] [J 45, J x] σ)) ?_
          refine T.icmp_eq rfl rfl (by omega) (by omega) (fun c19 => ?_) (fun c19 => ?_)
          · refine T.go 2 (fun n9 => (rfl : _ = exe ξ n9 d j_F_isNameByte 53 [(0, J x)] [J 1] σ)) ?_
            exact T.iretz rfl rfl (by omega) ⟨_, rfl, rfl, by omega, by omega⟩
          · refine T.go 2 (fun n9 => (rfl : _ = exe ξ n9 d j_F_isNameByte 45 [(0, J x)] [J 95, J x] σ)) ?_
            refine T.icmp_ne rfl rfl (by omega) (by omega) (fun c20 => ?_) (fun c20 => ?_)
            · refine T.go 1 (fun n9 => (rfl : _ = exe ξ n9 d j_F_isNameByte 53 [(0, J x)] [J 0] σ)) ?_
              exact T.iretz rfl rfl (by omega) ⟨_, rfl, rfl, by omega, by omega⟩
            · refine T.go 2 (fun n9 => (rfl : _ = exe ξ n9 d j_F_isNameByte 53 [(0, J x)] [J 1] σ)) ?_
              exact T.iretz rfl rfl (by omega) ⟨_, rfl, rfl, by omega, by omega⟩
        · refine T.go 2 (fun n9 => (rfl : _ = exe ξ n9 d j_F_isNameByte 33 [(0, J x)] [J 57, J x] σ)) ?_
          refine T.icmp_le rfl rfl (by omega) (by omega) (fun c21 => ?_) (fun c21 => ?_)
          · refine T.go 2 (fun n9 => (rfl : _ = exe ξ n9 d j_F_isNameByte 53 [(0, J x)] [J 1] σ)) ?_
            exact T.iretz rfl rfl (by omega) ⟨_, rfl, rfl, by omega, by omega⟩
          · refine T.go 2 (fun n9 => (rfl : _ = exe ξ n9 d j_F_isNameByte 39 [(0, J x)] [J 45, J x] σ)) ?_
            refine T.icmp_eq rfl rfl (by omega) (by omega) (fun c22 => ?_) (fun c22 => ?_)
            · refine T.go 2 (fun n9 => (rfl : _ = exe ξ n9 d j_F_isNameByte 53 [(0, J x)] [J 1] σ)) ?_
              exact T.iretz rfl rfl (by omega) ⟨_, rfl, rfl, by omega, by omega⟩
            · refine T.go 2 (fun n9 => (rfl : _ = exe ξ n9 d j_F_isNameByte 45 [(0, J x)] [J 95, J x] σ)) ?_
              refine T.icmp_ne rfl rfl (by omega) (by omega) (fun c23 => ?_) (fun c23 => ?_)
              · refine T.go 1 (fun n9 => (rfl : _ = exe ξ n9 d j_F_isNameByte 53 [(0, J x)] [J 0] σ)) ?_
                exact T.iretz rfl rfl (by omega) ⟨_, rfl, rfl, by omega, by omega⟩
              · refine T.go 2 (fun n9 => (rfl : _ = exe ξ n9 d j_F_isNameByte 53 [(0, J x)] [J 1] σ)) ?_
                exact T.iretz rfl rfl (by omega) ⟨_, rfl, rfl, by omega, by omega⟩
      · refine T.go 2 (fun n9 => (rfl : _ = exe ξ n9 d j_F_isNameByte 21 [(0, J x)] [J 122, J x] σ)) ?_
        refine T.icmp_le rfl rfl (by omega) (by omega) (fun c24 => ?_) (fun c24 => ?_)
        · refine T.go 2 (fun n9 => (rfl : _ = exe ξ n9 d j_F_isNameByte 53 [(0, J x)] [J 1] σ)) ?_
          exact T.iretz rfl rfl (by omega) ⟨_, rfl, rfl, by omega, by omega⟩
        · refine T.go 2 (fun n9 => (rfl : _ = exe ξ n9 d j_F_isNameByte 27 [(0, J x)] [J 48, J x] σ)) ?_
          refine T.icmp_lt rfl rfl (by omega) (by omega) (fun c25 => ?_) (fun c25 => ?_)
          · refine T.go 2 (fun n9 => (rfl : _ = exe ξ n9 d j_F_isNameByte 39 [(0, J x)] [J 45, J x] σ)) ?_
            refine T.icmp_eq rfl rfl (by omega) (by omega) (fun c26 => ?_) (fun c26 => ?_)
            · refine T.go 2 (fun n9 => (rfl : _ = exe ξ n9 d j_F_isNameByte 53 [(0, J x)] [J 1] σ)) ?_
              exact T.iretz rfl rfl (by omega) ⟨_, rfl, rfl, by omega, by omega⟩
            · refine T.go 2 (fun n9 => (rfl : _ = exe ξ n9 d j_F_isNameByte 45 [(0, J x)] [J 95, J x] σ)) ?_
              refine T.icmp_ne rfl rfl (by omega) (by omega) (fun c27 => ?_) (fun c27 => ?_)
              · refine T.go 1 (fun n9 => (rfl : _ = exe ξ n9 d j_F_isNameByte 53 [(0, J x)] [J 0] σ)) ?_
                exact T.iretz rfl rfl (by omega) ⟨_, rfl, rfl, by omega, by omega⟩
              · refine T.go 2 (fun n9 => (rfl : _ = exe ξ n9 d j_F_isNameByte 53 [(0, J x)] [J 1] σ)) ?_
                exact T.iretz rfl rfl (by omega) ⟨_, rfl, rfl, by omega, by omega⟩
          · refine T.go 2 (fun n9 => (rfl : _ = exe ξ n9 d j_F_isNameByte 33 [(0, J x)] [J 57, J x] σ)) ?_
            refine T.icmp_le rfl rfl (by omega) (by omega) (fun c28 => ?_) (fun c28 => ?_)
            · refine T.go 2 (fun n9 => (rfl : _ = exe ξ n9 d j_F_isNameByte 53 [(0, J x)] [J 1] σ)) ?_
              exact T.iretz rfl rfl (by omega) ⟨_, rfl, rfl, by omega, by omega⟩
            · refine T.go 2 (fun n9 => (rfl : _ = exe ξ n9 d j_F_isNameByte 39 [(0, J x)] [J 45, J x] σ)) ?_
              refine T.icmp_eq rfl rfl (by omega) (by omega) (fun c29 => ?_) (fun c29 => ?_)
              · refine T.go 2 (fun n9 => (rfl : _ = exe ξ n9 d j_F_isNameByte 53 [(0, J x)] [J 1] σ)) ?_
                exact T.iretz rfl rfl (by omega) ⟨_, rfl, rfl, by omega, by omega⟩
              · refine T.go 2 (fun n9 => (rfl : _ = exe ξ n9 d j_F_isNameByte 45 [(0, J x)] [J 95, J x] σ)) ?_
                refine T.icmp_ne rfl rfl (by omega) (by omega) (fun c30 => ?_) (fun c30 => ?_)
                · refine T.go 1 (fun n9 => (rfl : _ = exe ξ n9 d j_F_isNameByte 53 [(0, J x)] [J 0] σ)) ?_
                  exact T.iretz rfl rfl (by omega) ⟨_, rfl, rfl, by omega, by omega⟩
                · refine T.go 2 (fun n9 => (rfl : _ = exe ξ n9 d j_F_isNameByte 53 [(0, J x)] [J 1] σ)) ?_
                  exact T.iretz rfl rfl (by omega) ⟨_, rfl, rfl, by omega, by omega⟩

set_option maxRecDepth 10000 in
set_option maxHeartbeats 4000000 in
theorem s_F_smallLetter {ξ : Nat → Option (Nat × List Int32)} (d : Nat) (x : Int) (σ : qH) (hK : K σ)  (rx : -2147483648 ≤ x ∧ x ≤ 2147483647) : T ξ d j_F_smallLetter 0 (lv_args 0 [J x]) [] σ (fun v σ' => ∃ z : Int, v = some (J z) ∧ σ' = σ ∧ -2147483648 ≤ z ∧ z ≤ 2147483647) := by
  refine T.go 2 (fun n9 => (rfl : _ = exe ξ n9 d j_F_smallLetter 3 [(0, J x)] [J 65, J x] σ)) ?_
  refine T.icmp_lt rfl rfl (by omega) (by omega) (fun c1 => ?_) (fun c1 => ?_)
  · refine T.go 1 (fun n9 => (rfl : _ = exe ξ n9 d j_F_smallLetter 20 [(0, J x)] [J x] σ)) ?_
    exact T.ireti rfl rfl ⟨_, rfl, rfl, by omega, by omega⟩
  · refine T.go 2 (fun n9 => (rfl : _ = exe ξ n9 d j_F_smallLetter 9 [(0, J x)] [J 90, J x] σ)) ?_
    refine T.icmp_gt rfl rfl (by omega) (by omega) (fun c2 => ?_) (fun c2 => ?_)
    · refine T.go 1 (fun n9 => (rfl : _ = exe ξ n9 d j_F_smallLetter 20 [(0, J x)] [J x] σ)) ?_
      exact T.ireti rfl rfl ⟨_, rfl, rfl, by omega, by omega⟩
    · refine T.go 2 (fun n9 => (rfl : _ = exe ξ n9 d j_F_smallLetter 15 [(0, J x)] [J 32, J x] σ)) ?_
      refine T.iadd rfl ?_
      refine T.go 1 (fun n9 => (rfl : _ = exe ξ n9 d j_F_smallLetter 20 [(0, J x)] [J (x + 32)] σ)) ?_
      exact T.ireti rfl rfl ⟨_, rfl, rfl, by omega, by omega⟩

set_option maxRecDepth 10000 in
set_option maxHeartbeats 4000000 in
theorem s_F_isSameName {ξ : Nat → Option (Nat × List Int32)} (d : Nat) (r : Nat) (x : Int) (o : Nat) (y : Int) (n : Int) (σ : qH) (hK : K σ) (hr : r ∈ RwL) (ho : o ∈ RwL) (rx : -2147483648 ≤ x ∧ x ≤ 2147483647) (ry : -2147483648 ≤ y ∧ y ≤ 2147483647) (rn : -2147483648 ≤ n ∧ n ≤ 2147483647) : T ξ (d + 1) j_F_isSameName 0 (lv_args 0 [.ref r, J x, .ref o, J y, J n]) [] σ (fun v σ' => ∃ z : Int, v = some (J z) ∧ σ' = σ ∧ 0 ≤ z ∧ z ≤ 1) := by
  have loop3 : ∀ (f : Nat) (k : Int), 0 ≤ k → k ≤ 2147483647 → (n - k).toNat < f → T ξ (d + 1) j_F_isSameName 3 [(0, .ref r), (1, J x), (2, .ref o), (3, J y), (4, J n), (5, J k)] [] σ (fun v σ' => ∃ z : Int, v = some (J z) ∧ σ' = σ ∧ 0 ≤ z ∧ z ≤ 1) := by
    intro f
    induction f with
    | zero => intro k i0 i1 hm; omega
    | succ f ih =>
      intro k i0 i1 hm
      refine T.go 2 (fun n9 => (rfl : _ = exe ξ n9 (d + 1) j_F_isSameName 7 [(0, .ref r), (1, J x), (2, .ref o), (3, J y), (4, J n), (5, J k)] [J n, J k] σ)) ?_
      refine T.icmp_ge rfl rfl (by omega) (by omega) (fun c1 => ?_) (fun c1 => ?_)
      · refine T.go 1 (fun n9 => (rfl : _ = exe ξ n9 (d + 1) j_F_isSameName 44 [(0, .ref r), (1, J x), (2, .ref o), (3, J y), (4, J n), (5, J k)] [J 1] σ)) ?_
        exact T.iretz rfl rfl (by omega) ⟨_, rfl, rfl, by omega, by omega⟩
      · refine T.go 3 (fun n9 => (rfl : _ = exe ξ n9 (d + 1) j_F_isSameName 14 [(0, .ref r), (1, J x), (2, .ref o), (3, J y), (4, J n), (5, J k)] [J k, J x, .ref r] σ)) ?_
        refine T.iadd rfl ?_
        refine T.norm (fun z1 hzz1 hyz1 hwz1 => ?_)
        obtain ⟨mx1, nx1, bx1, lx1, hrx1, hbx1, fx1a, fx1b, fx1c, fx1d, fx1e, fx1g, fx1h, fx1i⟩ := hK.row hr
        refine T.callv (as := [J z1]) (r := []) rfl rfl rfl (RwL_lt _ hr).2.2.1 hrx1 rfl (s_R_at d r z1 σ hK hr  (by omega)) (fun v1 s1 hqs1 => ?_)
        obtain ⟨z2, rfl, esz2, hzz2, hyz2⟩ := hqs1
        rw [esz2]
        refine T.calls (as := [J z2]) (r := []) rfl rfl (by decide) rfl rfl (s_F_smallLetter d z2 σ hK   (by omega)) (fun v2 s2 hqs2 => ?_)
        obtain ⟨z3, rfl, esz3, hzz3, hyz3⟩ := hqs2
        rw [esz3]
        refine T.go 3 (fun n9 => (rfl : _ = exe ξ n9 (d + 1) j_F_isSameName 25 [(0, .ref r), (1, J x), (2, .ref o), (3, J y), (4, J n), (5, J k)] [J k, J y, .ref o, J z3] σ)) ?_
        refine T.iadd rfl ?_
        refine T.norm (fun z4 hzz4 hyz4 hwz4 => ?_)
        obtain ⟨mx2, nx2, bx2, lx2, hrx2, hbx2, fx2a, fx2b, fx2c, fx2d, fx2e, fx2g, fx2h, fx2i⟩ := hK.row ho
        refine T.callv (as := [J z4]) (r := [J z3]) rfl rfl rfl (RwL_lt _ ho).2.2.1 hrx2 rfl (s_R_at d o z4 σ hK ho  (by omega)) (fun v3 s3 hqs3 => ?_)
        obtain ⟨z5, rfl, esz5, hzz5, hyz5⟩ := hqs3
        rw [esz5]
        refine T.calls (as := [J z5]) (r := [J z3]) rfl rfl (by decide) rfl rfl (s_F_smallLetter d z5 σ hK   (by omega)) (fun v4 s4 hqs4 => ?_)
        obtain ⟨z6, rfl, esz6, hzz6, hyz6⟩ := hqs4
        rw [esz6]
        refine T.icmp_eq rfl rfl (by omega) (by omega) (fun c2 => ?_) (fun c2 => ?_)
        · refine T.iinc (lv' := [(0, .ref r), (1, J x), (2, .ref o), (3, J y), (4, J n), (5, J (k + 1))]) rfl rfl rfl rfl ?_
          refine T.go 1 (fun n9 => (rfl : _ = exe ξ n9 (d + 1) j_F_isSameName 3 [(0, .ref r), (1, J x), (2, .ref o), (3, J y), (4, J n), (5, J (k + 1))] [] σ)) ?_
          exact ih  (k + 1) (by omega) (by omega) (by omega)
        · refine T.go 1 (fun n9 => (rfl : _ = exe ξ n9 (d + 1) j_F_isSameName 36 [(0, .ref r), (1, J x), (2, .ref o), (3, J y), (4, J n), (5, J k)] [J 0] σ)) ?_
          exact T.iretz rfl rfl (by omega) ⟨_, rfl, rfl, by omega, by omega⟩
  refine T.go 2 (fun n9 => (rfl : _ = exe ξ n9 (d + 1) j_F_isSameName 3 [(0, .ref r), (1, J x), (2, .ref o), (3, J y), (4, J n), (5, J 0)] [] σ)) ?_
  exact loop3 _ 0 (by omega) (by omega) (Nat.lt_succ_self _)

set_option maxRecDepth 10000 in
set_option maxHeartbeats 4000000 in
theorem s_F_isKnown {ξ : Nat → Option (Nat × List Int32)} (d : Nat) (x : Int) (n : Int) (σ : qH) (hK : K σ)  (rx : -2147483648 ≤ x ∧ x ≤ 2147483647) (rn : -2147483648 ≤ n ∧ n ≤ 2147483647) : T ξ (d + 2) j_F_isKnown 0 (lv_args 0 [.ref 41, J x, J n]) [] σ (fun v σ' => ∃ z : Int, v = some (J z) ∧ σ' = σ ∧ 0 ≤ z ∧ z ≤ 1) := by
  obtain ⟨nx1, osx1, vsx1, vlx1, asx1, hmx1, fx1a, fx1b, fx1c, fx1d, fx1e, fx1f, fx1g, fx1h, fx1i⟩ := hK.man
  obtain ⟨mx2, nx2, bx2, lx2, hrx2, hbx2, fx2a, fx2b, fx2c, fx2d, fx2e, fx2g, fx2h, fx2i⟩ := hK.row (r := 42) (by decide)
  have loop2 : ∀ (f : Nat) (k : Int), 0 ≤ k → k ≤ 2000 → (2000 - k).toNat < f → T ξ (d + 2) j_F_isKnown 2 [(0, .ref 41), (1, J x), (2, J n), (3, J k)] [] σ (fun v σ' => ∃ z : Int, v = some (J z) ∧ σ' = σ ∧ 0 ≤ z ∧ z ≤ 1) := by
    intro f
    induction f with
    | zero => intro k i0 i1 hm; omega
    | succ f ih =>
      intro k i0 i1 hm
      refine T.go 2 (fun n9 => (rfl : _ = exe ξ n9 (d + 2) j_F_isKnown 4 [(0, .ref 41), (1, J x), (2, J n), (3, J k)] [.ref 41, J k] σ)) ?_
      refine T.get rfl rfl rfl hmx1 rfl ?_
      refine T.icmp_ge rfl rfl (by omega) (by omega) (fun c1 => ?_) (fun c1 => ?_)
      · refine T.go 1 (fun n9 => (rfl : _ = exe ξ n9 (d + 2) j_F_isKnown 58 [(0, .ref 41), (1, J x), (2, J n), (3, J k)] [J 0] σ)) ?_
        exact T.iretz rfl rfl (by omega) ⟨_, rfl, rfl, by omega, by omega⟩
      · refine T.go 2 (fun n9 => (rfl : _ = exe ξ n9 (d + 2) j_F_isKnown 14 [(0, .ref 41), (1, J x), (2, J n), (3, J k)] [J 2000, J k] σ)) ?_
        refine T.icmp_ge rfl rfl (by omega) (by omega) (fun c2 => ?_) (fun c2 => ?_)
        · refine T.go 1 (fun n9 => (rfl : _ = exe ξ n9 (d + 2) j_F_isKnown 58 [(0, .ref 41), (1, J x), (2, J n), (3, J k)] [J 0] σ)) ?_
          exact T.iretz rfl rfl (by omega) ⟨_, rfl, rfl, by omega, by omega⟩
        · refine T.go 1 (fun n9 => (rfl : _ = exe ξ n9 (d + 2) j_F_isKnown 18 [(0, .ref 41), (1, J x), (2, J n), (3, J k)] [.ref 41] σ)) ?_
          refine T.get rfl rfl rfl hmx1 rfl ?_
          refine T.go 1 (fun n9 => (rfl : _ = exe ξ n9 (d + 2) j_F_isKnown 22 [(0, .ref 41), (1, J x), (2, J n), (3, J k)] [J k, .ref 45] σ)) ?_
          obtain ⟨lx3, hix3, elx3⟩ := hK.ints kdX_45
          refine T.iald rfl rfl hix3 (by omega) (fun z1 hzz1 hyz1 hez1 => ?_)
          refine T.go 1 (fun n9 => (rfl : _ = exe ξ n9 (d + 2) j_F_isKnown 24 [(0, .ref 41), (1, J x), (2, J n), (3, J k)] [J n, J z1] σ)) ?_
          refine T.icmp_ne rfl rfl (by omega) (by omega) (fun c3 => ?_) (fun c3 => ?_)
          · refine T.iinc (lv' := [(0, .ref 41), (1, J x), (2, J n), (3, J (k + 1))]) rfl rfl rfl rfl ?_
            refine T.go 1 (fun n9 => (rfl : _ = exe ξ n9 (d + 2) j_F_isKnown 2 [(0, .ref 41), (1, J x), (2, J n), (3, J (k + 1))] [] σ)) ?_
            exact ih  (k + 1) (by omega) (by omega) (by omega)
          · refine T.go 1 (fun n9 => (rfl : _ = exe ξ n9 (d + 2) j_F_isKnown 28 [(0, .ref 41), (1, J x), (2, J n), (3, J k)] [.ref 41] σ)) ?_
            refine T.get rfl rfl rfl hmx1 rfl ?_
            refine T.go 1 (fun n9 => (rfl : _ = exe ξ n9 (d + 2) j_F_isKnown 32 [(0, .ref 41), (1, J x), (2, J n), (3, J k)] [.ref 41, .ref 42] σ)) ?_
            refine T.get rfl rfl rfl hmx1 rfl ?_
            refine T.go 1 (fun n9 => (rfl : _ = exe ξ n9 (d + 2) j_F_isKnown 36 [(0, .ref 41), (1, J x), (2, J n), (3, J k)] [J k, .ref 44, .ref 42] σ)) ?_
            obtain ⟨lx4, hix4, elx4⟩ := hK.ints kdX_44
            refine T.iald rfl rfl hix4 (by omega) (fun z2 hzz2 hyz2 hez2 => ?_)
            refine T.go 1 (fun n9 => (rfl : _ = exe ξ n9 (d + 2) j_F_isKnown 38 [(0, .ref 41), (1, J x), (2, J n), (3, J k)] [.ref 41, J z2, .ref 42] σ)) ?_
            refine T.get rfl rfl rfl hmx1 rfl ?_
            refine T.go 2 (fun n9 => (rfl : _ = exe ξ n9 (d + 2) j_F_isKnown 43 [(0, .ref 41), (1, J x), (2, J n), (3, J k)] [J n, J x, .ref 42, J z2, .ref 42] σ)) ?_
            refine T.calls (as := [.ref 42, J z2, .ref 42, J x, J n]) (r := []) rfl rfl (by decide) rfl rfl (s_F_isSameName d 42 z2 42 x n σ hK (by decide) (by decide)  (by omega) (by omega) (by omega)) (fun v1 s1 hqs1 => ?_)
            obtain ⟨z3, rfl, esz3, hzz3, hyz3⟩ := hqs1
            rw [esz3]
            refine T.if_eq rfl rfl (by omega) (fun c4 => ?_) (fun c4 => ?_)
            · refine T.iinc (lv' := [(0, .ref 41), (1, J x), (2, J n), (3, J (k + 1))]) rfl rfl rfl rfl ?_
              refine T.go 1 (fun n9 => (rfl : _ = exe ξ n9 (d + 2) j_F_isKnown 2 [(0, .ref 41), (1, J x), (2, J n), (3, J (k + 1))] [] σ)) ?_
              exact ih  (k + 1) (by omega) (by omega) (by omega)
            · refine T.go 1 (fun n9 => (rfl : _ = exe ξ n9 (d + 2) j_F_isKnown 50 [(0, .ref 41), (1, J x), (2, J n), (3, J k)] [J 1] σ)) ?_
              exact T.iretz rfl rfl (by omega) ⟨_, rfl, rfl, by omega, by omega⟩
  refine T.go 2 (fun n9 => (rfl : _ = exe ξ n9 (d + 2) j_F_isKnown 2 [(0, .ref 41), (1, J x), (2, J n), (3, J 0)] [] σ)) ?_
  exact loop2 _ 0 (by omega) (by omega) (Nat.lt_succ_self _)

set_option maxRecDepth 10000 in
set_option maxHeartbeats 4000000 in
theorem s_F_nameLengthOf {ξ : Nat → Option (Nat × List Int32)} (d : Nat) (x : Int) (σ : qH) (hK : K σ)  (rx : -2147483648 ≤ x ∧ x ≤ 2147483647) (pre0 : -1 ≤ x) (pre1 : x ≤ 8000) : T ξ (d + 1) j_F_nameLengthOf 0 (lv_args 0 [.ref 41, J x]) [] σ (fun v σ' => ∃ z : Int, v = some (J z) ∧ σ' = σ ∧ 0 ≤ z ∧ z ≤ 8001) := by
  obtain ⟨nx1, osx1, vsx1, vlx1, asx1, hmx1, fx1a, fx1b, fx1c, fx1d, fx1e, fx1f, fx1g, fx1h, fx1i⟩ := hK.man
  obtain ⟨mx2, nx2, bx2, lx2, hrx2, hbx2, fx2a, fx2b, fx2c, fx2d, fx2e, fx2g, fx2h, fx2i⟩ := hK.row (r := 42) (by decide)
  have loop2 : ∀ (f : Nat) (k : Int), 0 ≤ k → k ≤ 8001 → (x + k ≤ nx2 ∨ k = 0) → (nx2 - (x + k)).toNat < f → T ξ (d + 1) j_F_nameLengthOf 2 [(0, .ref 41), (1, J x), (2, J k)] [] σ (fun v σ' => ∃ z : Int, v = some (J z) ∧ σ' = σ ∧ 0 ≤ z ∧ z ≤ 8001) := by
    intro f
    induction f with
    | zero => intro k i0 i1 i2 hm; omega
    | succ f ih =>
      intro k i0 i1 i2 hm
      refine T.go 2 (fun n9 => (rfl : _ = exe ξ n9 (d + 1) j_F_nameLengthOf 4 [(0, .ref 41), (1, J x), (2, J k)] [J k, J x] σ)) ?_
      refine T.iadd rfl ?_
      refine T.go 1 (fun n9 => (rfl : _ = exe ξ n9 (d + 1) j_F_nameLengthOf 6 [(0, .ref 41), (1, J x), (2, J k)] [.ref 41, J (x + k)] σ)) ?_
      refine T.get rfl rfl rfl hmx1 rfl ?_
      refine T.get rfl rfl rfl hrx2 rfl ?_
      refine T.icmp_ge rfl rfl (by omega) (by omega) (fun c1 => ?_) (fun c1 => ?_)
      · refine T.go 1 (fun n9 => (rfl : _ = exe ξ n9 (d + 1) j_F_nameLengthOf 38 [(0, .ref 41), (1, J x), (2, J k)] [J k] σ)) ?_
        exact T.ireti rfl rfl ⟨_, rfl, rfl, by omega, by omega⟩
      · refine T.go 1 (fun n9 => (rfl : _ = exe ξ n9 (d + 1) j_F_nameLengthOf 16 [(0, .ref 41), (1, J x), (2, J k)] [.ref 41] σ)) ?_
        refine T.get rfl rfl rfl hmx1 rfl ?_
        refine T.go 2 (fun n9 => (rfl : _ = exe ξ n9 (d + 1) j_F_nameLengthOf 21 [(0, .ref 41), (1, J x), (2, J k)] [J k, J x, .ref 42] σ)) ?_
        refine T.iadd rfl ?_
        refine T.callv (as := [J (x + k)]) (r := []) rfl rfl rfl rfl hrx2 rfl (s_R_at d 42 (x + k) σ hK (by decide)  (by omega)) (fun v1 s1 hqs1 => ?_)
        obtain ⟨z1, rfl, esz1, hzz1, hyz1⟩ := hqs1
        rw [esz1]
        refine T.calls (as := [J z1]) (r := []) rfl rfl (by decide) rfl rfl (s_F_isNameByte d z1 σ hK   (by omega)) (fun v2 s2 hqs2 => ?_)
        obtain ⟨z2, rfl, esz2, hzz2, hyz2⟩ := hqs2
        rw [esz2]
        refine T.if_eq rfl rfl (by omega) (fun c2 => ?_) (fun c2 => ?_)
        · refine T.go 1 (fun n9 => (rfl : _ = exe ξ n9 (d + 1) j_F_nameLengthOf 38 [(0, .ref 41), (1, J x), (2, J k)] [J k] σ)) ?_
          exact T.ireti rfl rfl ⟨_, rfl, rfl, by omega, by omega⟩
        · refine T.iinc (lv' := [(0, .ref 41), (1, J x), (2, J (k + 1))]) rfl rfl rfl rfl ?_
          refine T.go 1 (fun n9 => (rfl : _ = exe ξ n9 (d + 1) j_F_nameLengthOf 2 [(0, .ref 41), (1, J x), (2, J (k + 1))] [] σ)) ?_
          exact ih  (k + 1) (by omega) (by omega) (by omega) (by omega)
  refine T.go 2 (fun n9 => (rfl : _ = exe ξ n9 (d + 1) j_F_nameLengthOf 2 [(0, .ref 41), (1, J x), (2, J 0)] [] σ)) ?_
  exact loop2 _ 0 (by omega) (by omega) (by omega) (Nat.lt_succ_self _)

set_option maxRecDepth 10000 in
set_option maxHeartbeats 4000000 in
theorem s_F_closeLine {ξ : Nat → Option (Nat × List Int32)} (d : Nat)  (σ : qH) (hK : K σ)   : T ξ (d + 3) j_F_closeLine 0 (lv_args 0 [.ref 41]) [] σ (fun v σ' => ∃ z : Int, v = some (J z) ∧ Fr [41, 44, 45] σ σ' ∧ 0 ≤ z ∧ z ≤ 1) := by
  refine T.go 1 (fun n9 => (rfl : _ = exe ξ n9 (d + 3) j_F_closeLine 1 [(0, .ref 41)] [.ref 41] σ)) ?_
  obtain ⟨nx1, osx1, vsx1, vlx1, asx1, hmx1, fx1a, fx1b, fx1c, fx1d, fx1e, fx1f, fx1g, fx1h, fx1i⟩ := hK.man
  refine T.get rfl rfl rfl hmx1 rfl ?_
  refine T.go 1 (fun n9 => (rfl : _ = exe ξ n9 (d + 3) j_F_closeLine 5 [(0, .ref 41)] [J (-1), J osx1] σ)) ?_
  refine T.icmp_ne rfl rfl (by omega) (by omega) (fun c1 => ?_) (fun c1 => ?_)
  · refine T.go 2 (fun n9 => (rfl : _ = exe ξ n9 (d + 3) j_F_closeLine 12 [(0, .ref 41)] [.ref 41, .ref 41] σ)) ?_
    refine T.get rfl rfl rfl hmx1 rfl ?_
    refine T.callv (as := [J osx1]) (r := []) rfl rfl rfl rfl hmx1 rfl (s_F_nameLengthOf (d + 1) osx1 σ hK   (by omega) (by omega) (by omega)) (fun v1 s1 hqs1 => ?_)
    obtain ⟨z1, rfl, esz1, hzz1, hyz1⟩ := hqs1
    rw [esz1]
    refine T.go 2 (fun n9 => (rfl : _ = exe ξ n9 (d + 3) j_F_closeLine 20 [(0, .ref 41), (1, J z1)] [.ref 41] σ)) ?_
    refine T.get rfl rfl rfl hmx1 rfl ?_
    refine T.go 1 (fun n9 => (rfl : _ = exe ξ n9 (d + 3) j_F_closeLine 24 [(0, .ref 41), (1, J z1)] [J z1, J osx1] σ)) ?_
    refine T.iadd rfl ?_
    refine T.go 2 (fun n9 => (rfl : _ = exe ξ n9 (d + 3) j_F_closeLine 27 [(0, .ref 41), (1, J z1), (2, J (osx1 + z1))] [J z1] σ)) ?_
    refine T.if_eq rfl rfl (by omega) (fun c2 => ?_) (fun c2 => ?_)
    · refine T.go 1 (fun n9 => (rfl : _ = exe ξ n9 (d + 3) j_F_closeLine 81 [(0, .ref 41), (1, J z1), (2, J (osx1 + z1))] [J 0] σ)) ?_
      exact T.iretz rfl rfl (by omega) ⟨_, rfl, (Fr.refl hK), by omega, by omega⟩
    · refine T.go 1 (fun n9 => (rfl : _ = exe ξ n9 (d + 3) j_F_closeLine 31 [(0, .ref 41), (1, J z1), (2, J (osx1 + z1))] [.ref 41] σ)) ?_
      refine T.get rfl rfl rfl hmx1 rfl ?_
      refine T.go 1 (fun n9 => (rfl : _ = exe ξ n9 (d + 3) j_F_closeLine 35 [(0, .ref 41), (1, J z1), (2, J (osx1 + z1))] [J (osx1 + z1), .ref 42] σ)) ?_
      obtain ⟨mx2, nx2, bx2, lx2, hrx2, hbx2, fx2a, fx2b, fx2c, fx2d, fx2e, fx2g, fx2h, fx2i⟩ := hK.row (r := 42) (by decide)
      refine T.callv (as := [J (osx1 + z1)]) (r := []) rfl rfl rfl rfl hrx2 rfl (s_R_at (d + 2) 42 (osx1 + z1) σ hK (by decide)  (by omega)) (fun v2 s2 hqs2 => ?_)
      obtain ⟨z2, rfl, esz2, hzz2, hyz2⟩ := hqs2
      rw [esz2]
      refine T.go 1 (fun n9 => (rfl : _ = exe ξ n9 (d + 3) j_F_closeLine 40 [(0, .ref 41), (1, J z1), (2, J (osx1 + z1))] [J 58, J z2] σ)) ?_
      refine T.icmp_ne rfl rfl (by omega) (by omega) (fun c3 => ?_) (fun c3 => ?_)
      · refine T.go 1 (fun n9 => (rfl : _ = exe ξ n9 (d + 3) j_F_closeLine 81 [(0, .ref 41), (1, J z1), (2, J (osx1 + z1))] [J 0] σ)) ?_
        exact T.iretz rfl rfl (by omega) ⟨_, rfl, (Fr.refl hK), by omega, by omega⟩
      · refine T.go 1 (fun n9 => (rfl : _ = exe ξ n9 (d + 3) j_F_closeLine 44 [(0, .ref 41), (1, J z1), (2, J (osx1 + z1))] [.ref 41] σ)) ?_
        refine T.get rfl rfl rfl hmx1 rfl ?_
        refine T.go 2 (fun n9 => (rfl : _ = exe ξ n9 (d + 3) j_F_closeLine 49 [(0, .ref 41), (1, J z1), (2, J (osx1 + z1))] [J 1, J (osx1 + z1), .ref 42] σ)) ?_
        refine T.iadd rfl ?_
        refine T.callv (as := [J ((osx1 + z1) + 1)]) (r := []) rfl rfl rfl rfl hrx2 rfl (s_R_at (d + 2) 42 ((osx1 + z1) + 1) σ hK (by decide)  (by omega)) (fun v3 s3 hqs3 => ?_)
        obtain ⟨z3, rfl, esz3, hzz3, hyz3⟩ := hqs3
        rw [esz3]
        refine T.go 1 (fun n9 => (rfl : _ = exe ξ n9 (d + 3) j_F_closeLine 55 [(0, .ref 41), (1, J z1), (2, J (osx1 + z1))] [J 32, J z3] σ)) ?_
        refine T.icmp_ne rfl rfl (by omega) (by omega) (fun c4 => ?_) (fun c4 => ?_)
        · refine T.go 1 (fun n9 => (rfl : _ = exe ξ n9 (d + 3) j_F_closeLine 81 [(0, .ref 41), (1, J z1), (2, J (osx1 + z1))] [J 0] σ)) ?_
          exact T.iretz rfl rfl (by omega) ⟨_, rfl, (Fr.refl hK), by omega, by omega⟩
        · refine T.go 1 (fun n9 => (rfl : _ = exe ξ n9 (d + 3) j_F_closeLine 59 [(0, .ref 41), (1, J z1), (2, J (osx1 + z1))] [.ref 41] σ)) ?_
          refine T.get rfl rfl rfl hmx1 rfl ?_
          refine T.go 1 (fun n9 => (rfl : _ = exe ξ n9 (d + 3) j_F_closeLine 65 [(0, .ref 41), (1, J z1), (2, J (osx1 + z1))] [J 2000, J nx1] σ)) ?_
          refine T.icmp_ge rfl rfl (by omega) (by omega) (fun c5 => ?_) (fun c5 => ?_)
          · refine T.go 1 (fun n9 => (rfl : _ = exe ξ n9 (d + 3) j_F_closeLine 81 [(0, .ref 41), (1, J z1), (2, J (osx1 + z1))] [J 0] σ)) ?_
            exact T.iretz rfl rfl (by omega) ⟨_, rfl, (Fr.refl hK), by omega, by omega⟩
          · refine T.go 2 (fun n9 => (rfl : _ = exe ξ n9 (d + 3) j_F_closeLine 70 [(0, .ref 41), (1, J z1), (2, J (osx1 + z1))] [.ref 41, .ref 41] σ)) ?_
            refine T.get rfl rfl rfl hmx1 rfl ?_
            refine T.go 1 (fun n9 => (rfl : _ = exe ξ n9 (d + 3) j_F_closeLine 74 [(0, .ref 41), (1, J z1), (2, J (osx1 + z1))] [J z1, J osx1, .ref 41] σ)) ?_
            refine T.callv (as := [J osx1, J z1]) (r := []) rfl rfl rfl rfl hmx1 rfl (s_F_isKnown d osx1 z1 σ hK   (by omega) (by omega)) (fun v4 s4 hqs4 => ?_)
            obtain ⟨z4, rfl, esz4, hzz4, hyz4⟩ := hqs4
            rw [esz4]
            refine T.if_eq rfl rfl (by omega) (fun c6 => ?_) (fun c6 => ?_)
            · refine T.go 1 (fun n9 => (rfl : _ = exe ξ n9 (d + 3) j_F_closeLine 83 [(0, .ref 41), (1, J z1), (2, J (osx1 + z1))] [.ref 41] σ)) ?_
              refine T.get rfl rfl rfl hmx1 rfl ?_
              refine T.go 1 (fun n9 => (rfl : _ = exe ξ n9 (d + 3) j_F_closeLine 87 [(0, .ref 41), (1, J z1), (2, J (osx1 + z1))] [.ref 41, .ref 44] σ)) ?_
              refine T.get rfl rfl rfl hmx1 rfl ?_
              refine T.go 1 (fun n9 => (rfl : _ = exe ξ n9 (d + 3) j_F_closeLine 91 [(0, .ref 41), (1, J z1), (2, J (osx1 + z1))] [.ref 41, J nx1, .ref 44] σ)) ?_
              refine T.get rfl rfl rfl hmx1 rfl ?_
              obtain ⟨lx3, hix3, elx3⟩ := hK.ints kdX_44
              refine T.iastF (w := [41, 44, 45]) rfl hK hix3 (by omega) (by decide) (Or.inl (by decide)) (by simp) (fun s5 hs5 hcs5 hos5 => ?_)
              have els5 : (lx3.set (nx1 : Int).toNat (Int32.ofInt osx1)).length = 2000 := List.length_set.trans elx3
              have k1 := hos5 (by decide) hmx1
              have k2 := hos5 (by decide) hrx2
              have k3 := hos5 (q_dif hbx2 hix3 (fun z => by cases z)) hbx2
              refine T.go 1 (fun n9 => (rfl : _ = exe ξ n9 (d + 3) j_F_closeLine 96 [(0, .ref 41), (1, J z1), (2, J (osx1 + z1))] [.ref 41] s5)) ?_
              refine T.get rfl rfl rfl k1 rfl ?_
              refine T.go 1 (fun n9 => (rfl : _ = exe ξ n9 (d + 3) j_F_closeLine 100 [(0, .ref 41), (1, J z1), (2, J (osx1 + z1))] [.ref 41, .ref 45] s5)) ?_
              refine T.get rfl rfl rfl k1 rfl ?_
              refine T.go 1 (fun n9 => (rfl : _ = exe ξ n9 (d + 3) j_F_closeLine 104 [(0, .ref 41), (1, J z1), (2, J (osx1 + z1))] [J z1, J nx1, .ref 45] s5)) ?_
              obtain ⟨lx4, hix4, elx4⟩ := hs5.1.ints kdX_45
              refine T.iastF (w := [41, 44, 45]) rfl hs5.1 hix4 (by omega) (by decide) (Or.inl (by decide)) (by simp) (fun s6 hs6 hcs6 hos6 => ?_)
              have els6 : (lx4.set (nx1 : Int).toNat (Int32.ofInt z1)).length = 2000 := List.length_set.trans elx4
              have gs6 := hs5.trans hs6
              have k4 := hos6 (by decide) hcs5
              have k5 := hos6 (by decide) k1
              have k6 := hos6 (by decide) k2
              have k7 := hos6 (q_dif k3 hix4 (fun z => by cases z)) k3
              refine T.go 2 (fun n9 => (rfl : _ = exe ξ n9 (d + 3) j_F_closeLine 107 [(0, .ref 41), (1, J z1), (2, J (osx1 + z1))] [.ref 41, .ref 41] s6)) ?_
              refine T.get rfl rfl rfl k5 rfl ?_
              refine T.go 1 (fun n9 => (rfl : _ = exe ξ n9 (d + 3) j_F_closeLine 111 [(0, .ref 41), (1, J z1), (2, J (osx1 + z1))] [J 1, J nx1, .ref 41] s6)) ?_
              refine T.iadd rfl ?_
              refine T.putF (w := [41, 44, 45]) rfl rfl k5 rfl rfl rfl (fs' := [.ref 42, .ref 44, .ref 45, J (nx1 + 1), J osx1, .ref asx1, J vsx1, J vlx1]) rfl (Fr.other hs6.1 k5 rfl (show okM _ from ⟨_, _, _, _, _, rfl, by omega, by omega, by omega, by omega, fx1e, by omega⟩) (by decide) (Or.inl (by decide)) (fun _ z => by cases z) (by simp)) (fun s7 hs7 hcs7 hos7 => ?_)
              have gs7 := gs6.trans hs7
              have k8 := hos7 (by decide) hcs6
              have k9 := hos7 (by decide) k4
              have k10 := hos7 (by decide) k6
              have k11 := hos7 (q_dif k7 k5 (fun z => by cases z)) k7
              refine T.go 2 (fun n9 => (rfl : _ = exe ξ n9 (d + 3) j_F_closeLine 117 [(0, .ref 41), (1, J z1), (2, J (osx1 + z1))] [.ref 41, J z1] s7)) ?_
              refine T.get rfl rfl rfl hcs7 rfl ?_
              obtain ⟨mx5, nx5, bx5, lx5, hrx5, hbx5, fx5a, fx5b, fx5c, fx5d, fx5e, fx5g, fx5h, fx5i⟩ := hs7.1.row fx1e
              refine T.get rfl rfl rfl hrx5 rfl ?_
              refine T.icmp_ne rfl rfl (by omega) (by omega) (fun c7 => ?_) (fun c7 => ?_)
              · refine T.go 1 (fun n9 => (rfl : _ = exe ξ n9 (d + 3) j_F_closeLine 170 [(0, .ref 41), (1, J z1), (2, J (osx1 + z1))] [J 1] s7)) ?_
                exact T.iretz rfl rfl (by omega) ⟨_, rfl, gs7, by omega, by omega⟩
              · refine T.go 1 (fun n9 => (rfl : _ = exe ξ n9 (d + 3) j_F_closeLine 127 [(0, .ref 41), (1, J z1), (2, J (osx1 + z1))] [.ref 41] s7)) ?_
                refine T.get rfl rfl rfl hcs7 rfl ?_
                refine T.go 1 (fun n9 => (rfl : _ = exe ξ n9 (d + 3) j_F_closeLine 131 [(0, .ref 41), (1, J z1), (2, J (osx1 + z1))] [.ref 41, .ref 42] s7)) ?_
                refine T.get rfl rfl rfl hcs7 rfl ?_
                refine T.go 1 (fun n9 => (rfl : _ = exe ξ n9 (d + 3) j_F_closeLine 135 [(0, .ref 41), (1, J z1), (2, J (osx1 + z1))] [.ref 41, J osx1, .ref 42] s7)) ?_
                refine T.get rfl rfl rfl hcs7 rfl ?_
                refine T.go 2 (fun n9 => (rfl : _ = exe ξ n9 (d + 3) j_F_closeLine 140 [(0, .ref 41), (1, J z1), (2, J (osx1 + z1))] [J z1, J 0, .ref asx1, J osx1, .ref 42] s7)) ?_
                refine T.calls (as := [.ref 42, J osx1, .ref asx1, J 0, J z1]) (r := []) rfl rfl (by decide) rfl rfl (s_F_isSameName (d + 1) 42 osx1 asx1 0 z1 s7 hs7.1 (by decide) fx1e  (by omega) (by omega) (by omega)) (fun v5 s8 hqs8 => ?_)
                obtain ⟨z5, rfl, esz5, hzz5, hyz5⟩ := hqs8
                rw [esz5]
                refine T.if_eq rfl rfl (by omega) (fun c8 => ?_) (fun c8 => ?_)
                · refine T.go 1 (fun n9 => (rfl : _ = exe ξ n9 (d + 3) j_F_closeLine 170 [(0, .ref 41), (1, J z1), (2, J (osx1 + z1))] [J 1] s7)) ?_
                  exact T.iretz rfl rfl (by omega) ⟨_, rfl, gs7, by omega, by omega⟩
                · refine T.go 3 (fun n9 => (rfl : _ = exe ξ n9 (d + 3) j_F_closeLine 149 [(0, .ref 41), (1, J z1), (2, J (osx1 + z1))] [J 2, J (osx1 + z1), .ref 41] s7)) ?_
                  refine T.iadd rfl ?_
                  refine T.putF (w := [41, 44, 45]) rfl rfl hcs7 rfl rfl rfl (fs' := [.ref 42, .ref 44, .ref 45, J (nx1 + 1), J osx1, .ref asx1, J ((osx1 + z1) + 2), J vlx1]) rfl (Fr.other hs7.1 hcs7 rfl (show okM _ from ⟨_, _, _, _, _, rfl, by omega, by omega, by omega, by omega, fx1e, by omega⟩) (by decide) (Or.inl (by decide)) (fun _ z => by cases z) (by simp)) (fun s9 hs9 hcs9 hos9 => ?_)
                  have gs9 := gs7.trans hs9
                  have k12 := hos9 (by decide) k8
                  have k13 := hos9 (by decide) k9
                  have k14 := hos9 (by decide) k10
                  have k15 := hos9 (q_dif k11 hcs7 (fun z => by cases z)) k11
                  have k16 := hos9 (q_dif hrx5 hcs7 (fun z => by cases z)) hrx5
                  have k17 := hos9 (q_dif hbx5 hcs7 (fun z => by cases z)) hbx5
                  refine T.go 2 (fun n9 => (rfl : _ = exe ξ n9 (d + 3) j_F_closeLine 155 [(0, .ref 41), (1, J z1), (2, J (osx1 + z1))] [.ref 41, .ref 41] s9)) ?_
                  refine T.get rfl rfl rfl hcs9 rfl ?_
                  refine T.get rfl rfl rfl k14 rfl ?_
                  refine T.go 1 (fun n9 => (rfl : _ = exe ξ n9 (d + 3) j_F_closeLine 162 [(0, .ref 41), (1, J z1), (2, J (osx1 + z1))] [.ref 41, J nx2, .ref 41] s9)) ?_
                  refine T.get rfl rfl rfl hcs9 rfl ?_
                  refine T.isub rfl ?_
                  refine T.putF (w := [41, 44, 45]) rfl rfl hcs9 rfl rfl rfl (fs' := [.ref 42, .ref 44, .ref 45, J (nx1 + 1), J osx1, .ref asx1, J ((osx1 + z1) + 2), J (nx2 - ((osx1 + z1) + 2))]) rfl (Fr.other hs9.1 hcs9 rfl (show okM _ from ⟨_, _, _, _, _, rfl, by omega, by omega, by omega, by omega, fx1e, by omega⟩) (by decide) (Or.inl (by decide)) (fun _ z => by cases z) (by simp)) (fun s10 hs10 hcs10 hos10 => ?_)
                  have gs10 := gs9.trans hs10
                  have k18 := hos10 (by decide) k12
                  have k19 := hos10 (by decide) k13
                  have k20 := hos10 (by decide) k14
                  have k21 := hos10 (q_dif k15 hcs9 (fun z => by cases z)) k15
                  have k22 := hos10 (q_dif k16 hcs9 (fun z => by cases z)) k16
                  have k23 := hos10 (q_dif k17 hcs9 (fun z => by cases z)) k17
                  refine T.go 1 (fun n9 => (rfl : _ = exe ξ n9 (d + 3) j_F_closeLine 170 [(0, .ref 41), (1, J z1), (2, J (osx1 + z1))] [J 1] s10)) ?_
                  exact T.iretz rfl rfl (by omega) ⟨_, rfl, gs10, by omega, by omega⟩
            · refine T.go 1 (fun n9 => (rfl : _ = exe ξ n9 (d + 3) j_F_closeLine 81 [(0, .ref 41), (1, J z1), (2, J (osx1 + z1))] [J 0] σ)) ?_
              exact T.iretz rfl rfl (by omega) ⟨_, rfl, (Fr.refl hK), by omega, by omega⟩
  · refine T.go 1 (fun n9 => (rfl : _ = exe ξ n9 (d + 3) j_F_closeLine 9 [(0, .ref 41)] [J 1] σ)) ?_
    exact T.iretz rfl rfl (by omega) ⟨_, rfl, (Fr.refl hK), by omega, by omega⟩

set_option maxRecDepth 10000 in
set_option maxHeartbeats 4000000 in
theorem s_F_joinLine {ξ : Nat → Option (Nat × List Int32)} (d : Nat) (r : Nat) (x : Int) (n : Int) (σ : qH) (hK : K σ) (hr : r ∈ RwL) (hr42 : r ≠ 42) (rx : -2147483648 ≤ x ∧ x ≤ 2147483647) (rn : -2147483648 ≤ n ∧ n ≤ 2147483647) (pre0 : 0 ≤ x) (pre1 : x ≤ 10000) (pre2 : -10001 ≤ n) (pre3 : n ≤ 10000) : T ξ (d + 4) j_F_joinLine 0 (lv_args 0 [.ref 41, .ref r, J x, J n]) [] σ (fun v σ' => ∃ z : Int, v = some (J z) ∧ Fr [41, 44, 45, 42] σ σ' ∧ 0 ≤ z ∧ z ≤ 1) := by
  refine T.go 2 (fun n9 => (rfl : _ = exe ξ n9 (d + 4) j_F_joinLine 2 [(0, .ref 41), (1, .ref r), (2, J x), (3, J n)] [J x, .ref r] σ)) ?_
  obtain ⟨mx1, nx1, bx1, lx1, hrx1, hbx1, fx1a, fx1b, fx1c, fx1d, fx1e, fx1g, fx1h, fx1i⟩ := hK.row hr
  refine T.callv (as := [J x]) (r := []) rfl rfl rfl (RwL_lt _ hr).2.2.1 hrx1 rfl (s_R_at (d + 3) r x σ hK hr  (by omega)) (fun v1 s1 hqs1 => ?_)
  obtain ⟨z1, rfl, esz1, hzz1, hyz1⟩ := hqs1
  rw [esz1]
  refine T.go 1 (fun n9 => (rfl : _ = exe ξ n9 (d + 4) j_F_joinLine 7 [(0, .ref 41), (1, .ref r), (2, J x), (3, J n)] [J 32, J z1] σ)) ?_
  refine T.icmp_ne rfl rfl (by omega) (by omega) (fun c1 => ?_) (fun c1 => ?_)
  · refine T.go 1 (fun n9 => (rfl : _ = exe ξ n9 (d + 4) j_F_joinLine 42 [(0, .ref 41), (1, .ref r), (2, J x), (3, J n)] [.ref 41] σ)) ?_
    obtain ⟨nx2, osx2, vsx2, vlx2, asx2, hmx2, fx2a, fx2b, fx2c, fx2d, fx2e, fx2f, fx2g, fx2h, fx2i⟩ := hK.man
    refine T.callv (as := []) (r := []) rfl rfl rfl rfl hmx2 rfl (s_F_closeLine d  σ hK   ) (fun v2 s2 hqs2 => ?_)
    obtain ⟨z2, rfl, hs2, hzz2, hyz2⟩ := hqs2
    have es2 := hs2
    have hs2 := hs2.sub (w' := [41, 44, 45, 42]) (List.forall_mem_cons.mpr ⟨(by simp), (List.forall_mem_cons.mpr ⟨(by simp), (List.forall_mem_cons.mpr ⟨(by simp), (fun _ h => by cases h)⟩)⟩)⟩)
    have k1 := es2.b.1 _ _ (nm_c ((by decide : ∀ u ∈ RwL, u ≠ 41) _ hr) (nm_c ((by decide : ∀ u ∈ RwL, u ≠ 44) _ hr) (nm_c ((by decide : ∀ u ∈ RwL, u ≠ 45) _ hr) nm_0))) (fun l z => by cases z) hrx1
    refine T.if_ne rfl rfl (by omega) (fun c2 => ?_) (fun c2 => ?_)
    · refine T.go 2 (fun n9 => (rfl : _ = exe ξ n9 (d + 4) j_F_joinLine 52 [(0, .ref 41), (1, .ref r), (2, J x), (3, J n)] [.ref 41, .ref 41] s2)) ?_
      obtain ⟨nx3, osx3, vsx3, vlx3, asx3, hmx3, fx3a, fx3b, fx3c, fx3d, fx3e, fx3f, fx3g, fx3h, fx3i⟩ := hs2.1.man
      refine T.get rfl rfl rfl hmx3 rfl ?_
      obtain ⟨mx4, nx4, bx4, lx4, hrx4, hbx4, fx4a, fx4b, fx4c, fx4d, fx4e, fx4g, fx4h, fx4i⟩ := hs2.1.row (r := 42) (by decide)
      refine T.get rfl rfl rfl hrx4 rfl ?_
      refine T.putF (w := [41, 44, 45, 42]) rfl rfl hmx3 rfl rfl rfl (fs' := [.ref 42, .ref 44, .ref 45, J nx3, J nx4, .ref asx3, J vsx3, J vlx3]) rfl (Fr.other hs2.1 hmx3 rfl (show okM _ from ⟨_, _, _, _, _, rfl, by omega, by omega, by omega, by omega, fx3e, by omega⟩) (by decide) (Or.inl (by decide)) (fun _ z => by cases z) (by simp)) (fun s3 hs3 hcs3 hos3 => ?_)
      have gs3 := hs2.trans hs3
      have k2 := hos3 ((by decide : ∀ u ∈ RwL, u ≠ 41) _ hr) k1
      have k3 := hos3 (by decide) hrx4
      have k4 := hos3 (q_dif hbx4 hmx3 (fun z => by cases z)) hbx4
      refine T.go 1 (fun n9 => (rfl : _ = exe ξ n9 (d + 4) j_F_joinLine 62 [(0, .ref 41), (1, .ref r), (2, J x), (3, J n)] [.ref 41] s3)) ?_
      refine T.get rfl rfl rfl hcs3 rfl ?_
      refine T.go 3 (fun n9 => (rfl : _ = exe ξ n9 (d + 4) j_F_joinLine 68 [(0, .ref 41), (1, .ref r), (2, J x), (3, J n)] [J n, J x, .ref r, .ref 42] s3)) ?_
      refine T.callv (as := [.ref r, J x, J n]) (r := []) rfl rfl rfl rfl k3 rfl (s_R_addPart (d + 2) 42 r x n s3 hs3.1 (by decide) hr hr42 (by omega) (by omega)) (fun v3 s4 hqs4 => ?_)
      obtain ⟨z3, rfl, hs4, hzz3, hyz3, pz3_0⟩ := hqs4
      have es4 := hs4
      have hs4 := hs4.sub (w' := [41, 44, 45, 42]) (List.forall_mem_cons.mpr ⟨(by simp), (fun _ h => by cases h)⟩)
      have k5 := es4.b.1 _ _ (nm_c (by decide) nm_0) (fun l z => by cases z) hcs3
      have k6 := es4.b.1 _ _ (nm_c hr42 nm_0) (fun l z => by cases z) k2
      have gs4 := gs3.trans hs4
      exact T.iretz rfl rfl (by omega) ⟨_, rfl, gs4, by omega, by omega⟩
    · refine T.go 1 (fun n9 => (rfl : _ = exe ξ n9 (d + 4) j_F_joinLine 49 [(0, .ref 41), (1, .ref r), (2, J x), (3, J n)] [J 0] s2)) ?_
      exact T.iretz rfl rfl (by omega) ⟨_, rfl, hs2, by omega, by omega⟩
  · refine T.go 1 (fun n9 => (rfl : _ = exe ξ n9 (d + 4) j_F_joinLine 11 [(0, .ref 41), (1, .ref r), (2, J x), (3, J n)] [.ref 41] σ)) ?_
    obtain ⟨nx5, osx5, vsx5, vlx5, asx5, hmx5, fx5a, fx5b, fx5c, fx5d, fx5e, fx5f, fx5g, fx5h, fx5i⟩ := hK.man
    refine T.get rfl rfl rfl hmx5 rfl ?_
    refine T.go 1 (fun n9 => (rfl : _ = exe ξ n9 (d + 4) j_F_joinLine 15 [(0, .ref 41), (1, .ref r), (2, J x), (3, J n)] [J (-1), J osx5] σ)) ?_
    refine T.icmp_eq rfl rfl (by omega) (by omega) (fun c3 => ?_) (fun c3 => ?_)
    · refine T.go 1 (fun n9 => (rfl : _ = exe ξ n9 (d + 4) j_F_joinLine 40 [(0, .ref 41), (1, .ref r), (2, J x), (3, J n)] [J 0] σ)) ?_
      exact T.iretz rfl rfl (by omega) ⟨_, rfl, (Fr.refl hK), by omega, by omega⟩
    · refine T.go 1 (fun n9 => (rfl : _ = exe ξ n9 (d + 4) j_F_joinLine 19 [(0, .ref 41), (1, .ref r), (2, J x), (3, J n)] [.ref 41] σ)) ?_
      refine T.get rfl rfl rfl hmx5 rfl ?_
      refine T.go 3 (fun n9 => (rfl : _ = exe ξ n9 (d + 4) j_F_joinLine 25 [(0, .ref 41), (1, .ref r), (2, J x), (3, J n)] [J 1, J x, .ref r, .ref 42] σ)) ?_
      refine T.iadd rfl ?_
      refine T.go 2 (fun n9 => (rfl : _ = exe ξ n9 (d + 4) j_F_joinLine 28 [(0, .ref 41), (1, .ref r), (2, J x), (3, J n)] [J 1, J n, J (x + 1), .ref r, .ref 42] σ)) ?_
      refine T.isub rfl ?_
      obtain ⟨mx6, nx6, bx6, lx6, hrx6, hbx6, fx6a, fx6b, fx6c, fx6d, fx6e, fx6g, fx6h, fx6i⟩ := hK.row (r := 42) (by decide)
      refine T.callv (as := [.ref r, J (x + 1), J (n - 1)]) (r := []) rfl rfl rfl rfl hrx6 rfl (s_R_addPart (d + 2) 42 r (x + 1) (n - 1) σ hK (by decide) hr hr42 (by omega) (by omega)) (fun v4 s5 hqs5 => ?_)
      obtain ⟨z4, rfl, hs5, hzz4, hyz4, pz4_0⟩ := hqs5
      have es5 := hs5
      have hs5 := hs5.sub (w' := [41, 44, 45, 42]) (List.forall_mem_cons.mpr ⟨(by simp), (fun _ h => by cases h)⟩)
      have k7 := es5.b.1 _ _ (nm_c hr42 nm_0) (fun l z => by cases z) hrx1
      have k8 := es5.b.1 _ _ (nm_c (by decide) nm_0) (fun l z => by cases z) hmx5
      refine T.if_eq rfl rfl (by omega) (fun c4 => ?_) (fun c4 => ?_)
      · refine T.go 1 (fun n9 => (rfl : _ = exe ξ n9 (d + 4) j_F_joinLine 40 [(0, .ref 41), (1, .ref r), (2, J x), (3, J n)] [J 0] s5)) ?_
        exact T.iretz rfl rfl (by omega) ⟨_, rfl, hs5, by omega, by omega⟩
      · refine T.go 2 (fun n9 => (rfl : _ = exe ξ n9 (d + 4) j_F_joinLine 40 [(0, .ref 41), (1, .ref r), (2, J x), (3, J n)] [J 1] s5)) ?_
        exact T.iretz rfl rfl (by omega) ⟨_, rfl, hs5, by omega, by omega⟩

set_option maxRecDepth 10000 in
set_option maxHeartbeats 4000000 in
theorem s_F_learn {ξ : Nat → Option (Nat × List Int32)} (d : Nat) (r : Nat) (o : Nat) (σ : qH) (hK : K σ) (hr : r ∈ RwL) (ho : o ∈ RwL) (hr42 : r ≠ 42) : T ξ (d + 5) j_F_learn 0 (lv_args 0 [.ref 41, .ref r, .ref o]) [] σ (fun v σ' => ∃ z : Int, v = some (J z) ∧ Fr [41, 44, 45, 42] σ σ' ∧ 0 ≤ z ∧ z ≤ 1) := by
  have loop40 : ∀ (f : Nat) (u : Int) (x : Int) (k : Int) (τ : qH), Fr [41, 44, 45, 42] σ τ → 0 ≤ u → u ≤ 1 → 0 ≤ x → x ≤ 10001 → 0 ≤ k → k ≤ 8001 → (8001 - k).toNat < f → T ξ (d + 5) j_F_learn 40 [(0, .ref 41), (1, .ref r), (2, .ref o), (3, J u), (4, J x), (5, J k)] [] τ (fun v σ' => ∃ z : Int, v = some (J z) ∧ Fr [41, 44, 45, 42] σ σ' ∧ 0 ≤ z ∧ z ≤ 1) := by
    intro f
    induction f with
    | zero => intro u x k τ hτ i0 i1 i2 i3 i4 i5 hm; omega
    | succ f ih =>
      intro u x k τ hτ i0 i1 i2 i3 i4 i5 hm
      refine T.go 2 (fun n9 => (rfl : _ = exe ξ n9 (d + 5) j_F_learn 45 [(0, .ref 41), (1, .ref r), (2, .ref o), (3, J u), (4, J x), (5, J k)] [J 8000, J k] τ)) ?_
      refine T.icmp_gt rfl rfl (by omega) (by omega) (fun c1 => ?_) (fun c1 => ?_)
      · refine T.go 1 (fun n9 => (rfl : _ = exe ξ n9 (d + 5) j_F_learn 130 [(0, .ref 41), (1, .ref r), (2, .ref o), (3, J u), (4, J x), (5, J k)] [.ref 41] τ)) ?_
        obtain ⟨nx1, osx1, vsx1, vlx1, asx1, hmx1, fx1a, fx1b, fx1c, fx1d, fx1e, fx1f, fx1g, fx1h, fx1i⟩ := hτ.1.man
        refine T.callv (as := []) (r := []) rfl rfl rfl rfl hmx1 rfl (s_F_closeLine (d + 1)  τ hτ.1   ) (fun v1 s1 hqs1 => ?_)
        obtain ⟨z1, rfl, hs1, hzz1, hyz1⟩ := hqs1
        have es1 := hs1
        have hs1 := hs1.sub (w' := [41, 44, 45, 42]) (List.forall_mem_cons.mpr ⟨(by simp), (List.forall_mem_cons.mpr ⟨(by simp), (List.forall_mem_cons.mpr ⟨(by simp), (fun _ h => by cases h)⟩)⟩)⟩)
        have gs1 := hτ.trans hs1
        exact T.iretz rfl rfl (by omega) ⟨_, rfl, gs1, by omega, by omega⟩
      · refine T.go 2 (fun n9 => (rfl : _ = exe ξ n9 (d + 5) j_F_learn 51 [(0, .ref 41), (1, .ref r), (2, .ref o), (3, J u), (4, J x), (5, J k)] [.ref r, J x] τ)) ?_
        obtain ⟨mx2, nx2, bx2, lx2, hrx2, hbx2, fx2a, fx2b, fx2c, fx2d, fx2e, fx2g, fx2h, fx2i⟩ := hτ.1.row hr
        refine T.get rfl rfl rfl hrx2 rfl ?_
        refine T.icmp_ge rfl rfl (by omega) (by omega) (fun c2 => ?_) (fun c2 => ?_)
        · refine T.go 1 (fun n9 => (rfl : _ = exe ξ n9 (d + 5) j_F_learn 130 [(0, .ref 41), (1, .ref r), (2, .ref o), (3, J u), (4, J x), (5, J k)] [.ref 41] τ)) ?_
          obtain ⟨nx3, osx3, vsx3, vlx3, asx3, hmx3, fx3a, fx3b, fx3c, fx3d, fx3e, fx3f, fx3g, fx3h, fx3i⟩ := hτ.1.man
          refine T.callv (as := []) (r := []) rfl rfl rfl rfl hmx3 rfl (s_F_closeLine (d + 1)  τ hτ.1   ) (fun v2 s2 hqs2 => ?_)
          obtain ⟨z2, rfl, hs2, hzz2, hyz2⟩ := hqs2
          have es2 := hs2
          have hs2 := hs2.sub (w' := [41, 44, 45, 42]) (List.forall_mem_cons.mpr ⟨(by simp), (List.forall_mem_cons.mpr ⟨(by simp), (List.forall_mem_cons.mpr ⟨(by simp), (fun _ h => by cases h)⟩)⟩)⟩)
          have k1 := es2.b.1 _ _ (nm_c ((by decide : ∀ u ∈ RwL, u ≠ 41) _ hr) (nm_c ((by decide : ∀ u ∈ RwL, u ≠ 44) _ hr) (nm_c ((by decide : ∀ u ∈ RwL, u ≠ 45) _ hr) nm_0))) (fun l z => by cases z) hrx2
          have gs2 := hτ.trans hs2
          exact T.iretz rfl rfl (by omega) ⟨_, rfl, gs2, by omega, by omega⟩
        · refine T.go 3 (fun n9 => (rfl : _ = exe ξ n9 (d + 5) j_F_learn 61 [(0, .ref 41), (1, .ref r), (2, .ref o), (3, J u), (4, J x), (5, J k)] [J x, .ref r, .ref 41] τ)) ?_
          obtain ⟨nx4, osx4, vsx4, vlx4, asx4, hmx4, fx4a, fx4b, fx4c, fx4d, fx4e, fx4f, fx4g, fx4h, fx4i⟩ := hτ.1.man
          refine T.callv (as := [.ref r, J x]) (r := []) rfl rfl rfl rfl hmx4 rfl (s_F_lineStop (d + 3) r x τ hτ.1 hr  (by omega) (by omega) (by omega)) (fun v3 s3 hqs3 => ?_)
          obtain ⟨z3, rfl, esz3, hzz3, hyz3⟩ := hqs3
          rw [esz3]
          refine T.go 5 (fun n9 => (rfl : _ = exe ξ n9 (d + 5) j_F_learn 72 [(0, .ref 41), (1, .ref r), (2, .ref o), (3, J u), (4, J x), (5, J k), (6, J z3)] [J z3, J x, .ref r, .ref 41] τ)) ?_
          refine T.callv (as := [.ref r, J x, J z3]) (r := []) rfl rfl rfl rfl hmx4 rfl (s_F_lineLength (d + 3) r x z3 τ hτ.1 hr  (by omega) (by omega) (by omega) (by omega) (by omega) (by omega)) (fun v4 s4 hqs4 => ?_)
          obtain ⟨z4, rfl, esz4, hzz4, hyz4⟩ := hqs4
          rw [esz4]
          refine T.go 2 (fun n9 => (rfl : _ = exe ξ n9 (d + 5) j_F_learn 78 [(0, .ref 41), (1, .ref r), (2, .ref o), (3, J u), (4, J x), (5, J k), (6, J z3), (7, J z4)] [J u] τ)) ?_
          refine T.if_eq rfl rfl (by omega) (fun c3 => ?_) (fun c3 => ?_)
          · refine T.go 4 (fun n9 => (rfl : _ = exe ξ n9 (d + 5) j_F_learn 96 [(0, .ref 41), (1, .ref r), (2, .ref o), (3, J 0), (4, J x), (5, J k), (6, J z3), (7, J z4)] [J 72, J z4] τ)) ?_
            refine T.icmp_gt rfl rfl (by omega) (by omega) (fun c4 => ?_) (fun c4 => ?_)
            · refine T.go 1 (fun n9 => (rfl : _ = exe ξ n9 (d + 5) j_F_learn 116 [(0, .ref 41), (1, .ref r), (2, .ref o), (3, J 0), (4, J x), (5, J k), (6, J z3), (7, J z4)] [J 0] τ)) ?_
              exact T.iretz rfl rfl (by omega) ⟨_, rfl, hτ, by omega, by omega⟩
            · refine T.go 4 (fun n9 => (rfl : _ = exe ξ n9 (d + 5) j_F_learn 120 [(0, .ref 41), (1, .ref r), (2, .ref o), (3, J 0), (4, J x), (5, J k), (6, J z3), (7, J z4)] [J 1, J z3] τ)) ?_
              refine T.iadd rfl ?_
              refine T.go 1 (fun n9 => (rfl : _ = exe ξ n9 (d + 5) j_F_learn 123 [(0, .ref 41), (1, .ref r), (2, .ref o), (3, J 0), (4, J (z3 + 1)), (5, J k), (6, J z3), (7, J z4)] [] τ)) ?_
              refine T.iinc (lv' := [(0, .ref 41), (1, .ref r), (2, .ref o), (3, J 0), (4, J (z3 + 1)), (5, J (k + 1)), (6, J z3), (7, J z4)]) rfl rfl rfl rfl ?_
              refine T.go 1 (fun n9 => (rfl : _ = exe ξ n9 (d + 5) j_F_learn 40 [(0, .ref 41), (1, .ref r), (2, .ref o), (3, J 0), (4, J (z3 + 1)), (5, J (k + 1)), (6, J z3), (7, J z4)] [] τ)) ?_
              refine T.drop (lv := [(0, .ref 41), (1, .ref r), (2, .ref o), (3, J 0), (4, J (z3 + 1)), (5, J (k + 1))]) [(6, J z3), (7, J z4)] (by simp) ?_
              exact ih  0 (z3 + 1) (k + 1) τ hτ (by omega) (by omega) (by omega) (by omega) (by omega) (by omega) (by omega)
          · refine T.go 1 (fun n9 => (rfl : _ = exe ξ n9 (d + 5) j_F_learn 83 [(0, .ref 41), (1, .ref r), (2, .ref o), (3, J u), (4, J x), (5, J k), (6, J z3), (7, J z4)] [J z4] τ)) ?_
            refine T.if_le rfl rfl (by omega) (fun c5 => ?_) (fun c5 => ?_)
            · refine T.go 4 (fun n9 => (rfl : _ = exe ξ n9 (d + 5) j_F_learn 96 [(0, .ref 41), (1, .ref r), (2, .ref o), (3, J 0), (4, J x), (5, J k), (6, J z3), (7, J z4)] [J 72, J z4] τ)) ?_
              refine T.icmp_gt rfl rfl (by omega) (by omega) (fun c6 => ?_) (fun c6 => ?_)
              · refine T.go 1 (fun n9 => (rfl : _ = exe ξ n9 (d + 5) j_F_learn 116 [(0, .ref 41), (1, .ref r), (2, .ref o), (3, J 0), (4, J x), (5, J k), (6, J z3), (7, J z4)] [J 0] τ)) ?_
                exact T.iretz rfl rfl (by omega) ⟨_, rfl, hτ, by omega, by omega⟩
              · refine T.go 4 (fun n9 => (rfl : _ = exe ξ n9 (d + 5) j_F_learn 120 [(0, .ref 41), (1, .ref r), (2, .ref o), (3, J 0), (4, J x), (5, J k), (6, J z3), (7, J z4)] [J 1, J z3] τ)) ?_
                refine T.iadd rfl ?_
                refine T.go 1 (fun n9 => (rfl : _ = exe ξ n9 (d + 5) j_F_learn 123 [(0, .ref 41), (1, .ref r), (2, .ref o), (3, J 0), (4, J (z3 + 1)), (5, J k), (6, J z3), (7, J z4)] [] τ)) ?_
                refine T.iinc (lv' := [(0, .ref 41), (1, .ref r), (2, .ref o), (3, J 0), (4, J (z3 + 1)), (5, J (k + 1)), (6, J z3), (7, J z4)]) rfl rfl rfl rfl ?_
                refine T.go 1 (fun n9 => (rfl : _ = exe ξ n9 (d + 5) j_F_learn 40 [(0, .ref 41), (1, .ref r), (2, .ref o), (3, J 0), (4, J (z3 + 1)), (5, J (k + 1)), (6, J z3), (7, J z4)] [] τ)) ?_
                refine T.drop (lv := [(0, .ref 41), (1, .ref r), (2, .ref o), (3, J 0), (4, J (z3 + 1)), (5, J (k + 1))]) [(6, J z3), (7, J z4)] (by simp) ?_
                exact ih  0 (z3 + 1) (k + 1) τ hτ (by omega) (by omega) (by omega) (by omega) (by omega) (by omega) (by omega)
            · refine T.go 5 (fun n9 => (rfl : _ = exe ξ n9 (d + 5) j_F_learn 96 [(0, .ref 41), (1, .ref r), (2, .ref o), (3, J 1), (4, J x), (5, J k), (6, J z3), (7, J z4)] [J 72, J z4] τ)) ?_
              refine T.icmp_gt rfl rfl (by omega) (by omega) (fun c7 => ?_) (fun c7 => ?_)
              · refine T.go 1 (fun n9 => (rfl : _ = exe ξ n9 (d + 5) j_F_learn 116 [(0, .ref 41), (1, .ref r), (2, .ref o), (3, J 1), (4, J x), (5, J k), (6, J z3), (7, J z4)] [J 0] τ)) ?_
                exact T.iretz rfl rfl (by omega) ⟨_, rfl, hτ, by omega, by omega⟩
              · refine T.go 6 (fun n9 => (rfl : _ = exe ξ n9 (d + 5) j_F_learn 109 [(0, .ref 41), (1, .ref r), (2, .ref o), (3, J 1), (4, J x), (5, J k), (6, J z3), (7, J z4)] [J z4, J x, .ref r, .ref 41] τ)) ?_
                refine T.callv (as := [.ref r, J x, J z4]) (r := []) rfl rfl rfl rfl hmx4 rfl (s_F_joinLine d r x z4 τ hτ.1 hr hr42 (by omega) (by omega) (by omega) (by omega) (by omega) (by omega)) (fun v5 s5 hqs5 => ?_)
                obtain ⟨z5, rfl, hs5, hzz5, hyz5⟩ := hqs5
                have es5 := hs5
                have k2 := es5.b.1 _ _ (nm_c ((by decide : ∀ u ∈ RwL, u ≠ 41) _ hr) (nm_c ((by decide : ∀ u ∈ RwL, u ≠ 44) _ hr) (nm_c ((by decide : ∀ u ∈ RwL, u ≠ 45) _ hr) (nm_c hr42 nm_0)))) (fun l z => by cases z) hrx2
                have gs5 := hτ.trans hs5
                refine T.if_ne rfl rfl (by omega) (fun c8 => ?_) (fun c8 => ?_)
                · refine T.go 2 (fun n9 => (rfl : _ = exe ξ n9 (d + 5) j_F_learn 120 [(0, .ref 41), (1, .ref r), (2, .ref o), (3, J 1), (4, J x), (5, J k), (6, J z3), (7, J z4)] [J 1, J z3] s5)) ?_
                  refine T.iadd rfl ?_
                  refine T.go 1 (fun n9 => (rfl : _ = exe ξ n9 (d + 5) j_F_learn 123 [(0, .ref 41), (1, .ref r), (2, .ref o), (3, J 1), (4, J (z3 + 1)), (5, J k), (6, J z3), (7, J z4)] [] s5)) ?_
                  refine T.iinc (lv' := [(0, .ref 41), (1, .ref r), (2, .ref o), (3, J 1), (4, J (z3 + 1)), (5, J (k + 1)), (6, J z3), (7, J z4)]) rfl rfl rfl rfl ?_
                  refine T.go 1 (fun n9 => (rfl : _ = exe ξ n9 (d + 5) j_F_learn 40 [(0, .ref 41), (1, .ref r), (2, .ref o), (3, J 1), (4, J (z3 + 1)), (5, J (k + 1)), (6, J z3), (7, J z4)] [] s5)) ?_
                  refine T.drop (lv := [(0, .ref 41), (1, .ref r), (2, .ref o), (3, J 1), (4, J (z3 + 1)), (5, J (k + 1))]) [(6, J z3), (7, J z4)] (by simp) ?_
                  exact ih  1 (z3 + 1) (k + 1) s5 gs5 (by omega) (by omega) (by omega) (by omega) (by omega) (by omega) (by omega)
                · refine T.go 1 (fun n9 => (rfl : _ = exe ξ n9 (d + 5) j_F_learn 116 [(0, .ref 41), (1, .ref r), (2, .ref o), (3, J 1), (4, J x), (5, J k), (6, J z3), (7, J z4)] [J 0] s5)) ?_
                  exact T.iretz rfl rfl (by omega) ⟨_, rfl, gs5, by omega, by omega⟩
  refine T.go 1 (fun n9 => (rfl : _ = exe ξ n9 (d + 5) j_F_learn 1 [(0, .ref 41), (1, .ref r), (2, .ref o)] [.ref 41] σ)) ?_
  obtain ⟨nx5, osx5, vsx5, vlx5, asx5, hmx5, fx5a, fx5b, fx5c, fx5d, fx5e, fx5f, fx5g, fx5h, fx5i⟩ := hK.man
  refine T.get rfl rfl rfl hmx5 rfl ?_
  obtain ⟨mx6, nx6, bx6, lx6, hrx6, hbx6, fx6a, fx6b, fx6c, fx6d, fx6e, fx6g, fx6h, fx6i⟩ := hK.row (r := 42) (by decide)
  refine T.callv (as := []) (r := []) rfl rfl rfl rfl hrx6 rfl (s_R_clear (d + 4) 42 σ hK (by decide)  ) (fun v6 s6 hqs6 => ?_)
  obtain ⟨rfl, hs6, pz6_0, pz6_1⟩ := hqs6
  have es6 := hs6
  have hs6 := hs6.sub (w' := [41, 44, 45, 42]) (List.forall_mem_cons.mpr ⟨(by simp), (fun _ h => by cases h)⟩)
  have k3 := es6.b.1 _ _ (nm_c (by decide) nm_0) (fun l z => by cases z) hmx5
  refine T.go 2 (fun n9 => (rfl : _ = exe ξ n9 (d + 5) j_F_learn 9 [(0, .ref 41), (1, .ref r), (2, .ref o)] [J 0, .ref 41] s6)) ?_
  refine T.putF (w := [41, 44, 45, 42]) rfl rfl k3 rfl rfl rfl (fs' := [.ref 42, .ref 44, .ref 45, J 0, J osx5, .ref asx5, J vsx5, J vlx5]) rfl (Fr.other hs6.1 k3 rfl (show okM _ from ⟨_, _, _, _, _, rfl, by omega, by omega, by omega, by omega, fx5e, by omega⟩) (by decide) (Or.inl (by decide)) (fun _ z => by cases z) (by simp)) (fun s7 hs7 hcs7 hos7 => ?_)
  have gs7 := hs6.trans hs7
  refine T.go 2 (fun n9 => (rfl : _ = exe ξ n9 (d + 5) j_F_learn 14 [(0, .ref 41), (1, .ref r), (2, .ref o)] [J (-1), .ref 41] s7)) ?_
  refine T.putF (w := [41, 44, 45, 42]) rfl rfl hcs7 rfl rfl rfl (fs' := [.ref 42, .ref 44, .ref 45, J 0, J (-1), .ref asx5, J vsx5, J vlx5]) rfl (Fr.other hs7.1 hcs7 rfl (show okM _ from ⟨_, _, _, _, _, rfl, by omega, by omega, by omega, by omega, fx5e, by omega⟩) (by decide) (Or.inl (by decide)) (fun _ z => by cases z) (by simp)) (fun s8 hs8 hcs8 hos8 => ?_)
  have gs8 := gs7.trans hs8
  refine T.go 2 (fun n9 => (rfl : _ = exe ξ n9 (d + 5) j_F_learn 19 [(0, .ref 41), (1, .ref r), (2, .ref o)] [.ref o, .ref 41] s8)) ?_
  refine T.putF (w := [41, 44, 45, 42]) rfl rfl hcs8 rfl rfl rfl (fs' := [.ref 42, .ref 44, .ref 45, J 0, J (-1), .ref o, J vsx5, J vlx5]) rfl (Fr.other hs8.1 hcs8 rfl (show okM _ from ⟨_, _, _, _, _, rfl, by omega, by omega, by omega, by omega, ho, by omega⟩) (by decide) (Or.inl (by decide)) (fun _ z => by cases z) (by simp)) (fun s9 hs9 hcs9 hos9 => ?_)
  have gs9 := gs8.trans hs9
  refine T.go 2 (fun n9 => (rfl : _ = exe ξ n9 (d + 5) j_F_learn 24 [(0, .ref 41), (1, .ref r), (2, .ref o)] [J (-1), .ref 41] s9)) ?_
  refine T.putF (w := [41, 44, 45, 42]) rfl rfl hcs9 rfl rfl rfl (fs' := [.ref 42, .ref 44, .ref 45, J 0, J (-1), .ref o, J (-1), J vlx5]) rfl (Fr.other hs9.1 hcs9 rfl (show okM _ from ⟨_, _, _, _, _, rfl, by omega, by omega, by omega, by omega, ho, by omega⟩) (by decide) (Or.inl (by decide)) (fun _ z => by cases z) (by simp)) (fun s10 hs10 hcs10 hos10 => ?_)
  have gs10 := gs9.trans hs10
  refine T.go 2 (fun n9 => (rfl : _ = exe ξ n9 (d + 5) j_F_learn 29 [(0, .ref 41), (1, .ref r), (2, .ref o)] [J 0, .ref 41] s10)) ?_
  refine T.putF (w := [41, 44, 45, 42]) rfl rfl hcs10 rfl rfl rfl (fs' := [.ref 42, .ref 44, .ref 45, J 0, J (-1), .ref o, J (-1), J 0]) rfl (Fr.other hs10.1 hcs10 rfl (show okM _ from ⟨_, _, _, _, _, rfl, by omega, by omega, by omega, by omega, ho, by omega⟩) (by decide) (Or.inl (by decide)) (fun _ z => by cases z) (by simp)) (fun s11 hs11 hcs11 hos11 => ?_)
  have gs11 := gs10.trans hs11
  refine T.go 6 (fun n9 => (rfl : _ = exe ξ n9 (d + 5) j_F_learn 40 [(0, .ref 41), (1, .ref r), (2, .ref o), (3, J 1), (4, J 0), (5, J 0)] [] s11)) ?_
  exact loop40 _ 1 0 0 s11 gs11 (by omega) (by omega) (by omega) (by omega) (by omega) (by omega) (Nat.lt_succ_self _)
