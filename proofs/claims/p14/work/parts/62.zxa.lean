/-! The lines of an index, read by the class. -/
set_option maxRecDepth 10000 in
set_option maxHeartbeats 4000000 in
theorem s_I_fnameLengthOf {ξ : Nat → Option (Nat × List Int32)} (d : Nat) (g : Int → Int) (r : Nat) (x : Int) (σ : qH) (hK : K σ) (hr : r ∈ RwL) (hg : AGR σ r g) (rx : -2147483648 ≤ x ∧ x ≤ 2147483647) (pre0 : 0 ≤ x) (pre1 : x ≤ 8000) : T ξ (d + 1) j_I_nameLengthOf 0 (lv_args 0 [.ref 48, .ref r, J x]) [] σ (fun v σ' => ∃ z : Int, v = some (J z) ∧ σ' = σ ∧ -1 ≤ z ∧ z ≤ 8000 ∧ (1 ≤ z → LNE g (rl σ r) x z) ∧ (z < 1 → NLN g (rl σ r) x)) := by
  obtain ⟨mx1, nx1, bx1, lx1, hrx1, hbx1, fx1a, fx1b, fx1c, fx1d, fx1e, fx1g, fx1h, fx1i⟩ := hK.row hr
  have ctx1 := CT_of hrx1 hbx1
  have rwx1 := rl_of hrx1 (by omega)
  subst rwx1
  have loop40 : ∀ (f : Nat) (k : Int), x + 3 ≤ k → k ≤ 8003 → NQ g (x + 3) k → g x = 45 → g (x + 1) = 32 → g (x + 2) = 34 → (rl σ r - k).toNat < f → T ξ (d + 1) j_I_nameLengthOf 40 [(0, .ref 48), (1, .ref r), (2, J x), (3, J k)] [] σ (fun v σ' => ∃ z : Int, v = some (J z) ∧ σ' = σ ∧ -1 ≤ z ∧ z ≤ 8000 ∧ (1 ≤ z → LNE g (rl σ r) x z) ∧ (z < 1 → NLN g (rl σ r) x)) := by
    intro f
    induction f with
    | zero => intro k i0 i1 i2 i3 i4 i5 hm; omega
    | succ f ih =>
      intro k i0 i1 i2 i3 i4 i5 hm
      refine T.go 2 (fun n9 => (rfl : _ = exe ξ n9 (d + 1) j_I_nameLengthOf 42 [(0, .ref 48), (1, .ref r), (2, J x), (3, J k)] [.ref r, J k] σ)) ?_
      refine T.get rfl rfl rfl hrx1 rfl ?_
      refine T.icmp_ge rfl rfl (by omega) (by omega) (fun c1 => ?_) (fun c1 => ?_)
      · refine T.go 2 (fun n9 => (rfl : _ = exe ξ n9 (d + 1) j_I_nameLengthOf 76 [(0, .ref 48), (1, .ref r), (2, J x), (3, J k)] [J k, .ref r] σ)) ?_
        refine T.callv (as := [J k]) (r := []) rfl rfl rfl (RwL_lt _ hr).2.2.1 hrx1 rfl (s_R_fat d g r k σ hK hr hg (by omega)) (fun v1 s1 hqs1 => ?_)
        obtain ⟨z1, rfl, esz1, hzz1, hyz1, pz1_0, pz1_1⟩ := hqs1
        rw [esz1]
        have oz1 := at_or (by omega) pz1_0 pz1_1
        clear pz1_0 pz1_1
        refine T.go 1 (fun n9 => (rfl : _ = exe ξ n9 (d + 1) j_I_nameLengthOf 81 [(0, .ref 48), (1, .ref r), (2, J x), (3, J k)] [J 34, J z1] σ)) ?_
        refine T.icmp_ne rfl rfl (by omega) (by omega) (fun c2 => ?_) (fun c2 => ?_)
        · refine T.go 1 (fun n9 => (rfl : _ = exe ξ n9 (d + 1) j_I_nameLengthOf 105 [(0, .ref 48), (1, .ref r), (2, J x), (3, J k)] [J (-1)] σ)) ?_
          exact T.ireti rfl rfl ⟨_, rfl, rfl, by omega, by omega, (fun h => absurd h (by omega)), (fun h n q => by have q9 := LNE_stop i2 i0 q; have q1 := q.1; clear q; omega)⟩
        · refine T.go 3 (fun n9 => (rfl : _ = exe ξ n9 (d + 1) j_I_nameLengthOf 87 [(0, .ref 48), (1, .ref r), (2, J x), (3, J k)] [J 1, J k, .ref r] σ)) ?_
          refine T.iadd rfl ?_
          refine T.callv (as := [J (k + 1)]) (r := []) rfl rfl rfl (RwL_lt _ hr).2.2.1 hrx1 rfl (s_R_fat d g r (k + 1) σ hK hr hg (by omega)) (fun v2 s2 hqs2 => ?_)
          obtain ⟨z2, rfl, esz2, hzz2, hyz2, pz2_0, pz2_1⟩ := hqs2
          rw [esz2]
          have oz2 := at_or (by omega) pz2_0 pz2_1
          clear pz2_0 pz2_1
          refine T.go 1 (fun n9 => (rfl : _ = exe ξ n9 (d + 1) j_I_nameLengthOf 93 [(0, .ref 48), (1, .ref r), (2, J x), (3, J k)] [J 10, J z2] σ)) ?_
          refine T.icmp_ne rfl rfl (by omega) (by omega) (fun c3 => ?_) (fun c3 => ?_)
          · refine T.go 1 (fun n9 => (rfl : _ = exe ξ n9 (d + 1) j_I_nameLengthOf 105 [(0, .ref 48), (1, .ref r), (2, J x), (3, J k)] [J (-1)] σ)) ?_
            exact T.ireti rfl rfl ⟨_, rfl, rfl, by omega, by omega, (fun h => absurd h (by omega)), (fun h n q => by have q9 := LNE_stop i2 i0 q; have q1 := q.1; clear q; omega)⟩
          · refine T.go 2 (fun n9 => (rfl : _ = exe ξ n9 (d + 1) j_I_nameLengthOf 98 [(0, .ref 48), (1, .ref r), (2, J x), (3, J k)] [J x, J k] σ)) ?_
            refine T.isub rfl ?_
            refine T.go 1 (fun n9 => (rfl : _ = exe ξ n9 (d + 1) j_I_nameLengthOf 100 [(0, .ref 48), (1, .ref r), (2, J x), (3, J k)] [J 3, J (k - x)] σ)) ?_
            refine T.isub rfl ?_
            refine T.go 1 (fun n9 => (rfl : _ = exe ξ n9 (d + 1) j_I_nameLengthOf 105 [(0, .ref 48), (1, .ref r), (2, J x), (3, J k)] [J ((k - x) - 3)] σ)) ?_
            exact T.ireti rfl rfl ⟨_, rfl, rfl, by omega, by omega, (fun h => LNE_mk (by omega) (by omega) i3 i4 i5 i2 (by omega) (by omega)), (fun h n q => by have q9 := LNE_stop i2 i0 q; have q1 := q.1; clear q; omega)⟩
      · refine T.go 2 (fun n9 => (rfl : _ = exe ξ n9 (d + 1) j_I_nameLengthOf 50 [(0, .ref 48), (1, .ref r), (2, J x), (3, J k)] [J k, .ref r] σ)) ?_
        refine T.callv (as := [J k]) (r := []) rfl rfl rfl (RwL_lt _ hr).2.2.1 hrx1 rfl (s_R_fat d g r k σ hK hr hg (by omega)) (fun v3 s3 hqs3 => ?_)
        obtain ⟨z3, rfl, esz3, hzz3, hyz3, pz3_0, pz3_1⟩ := hqs3
        rw [esz3]
        have oz3 := at_or (by omega) pz3_0 pz3_1
        clear pz3_0 pz3_1
        refine T.go 1 (fun n9 => (rfl : _ = exe ξ n9 (d + 1) j_I_nameLengthOf 55 [(0, .ref 48), (1, .ref r), (2, J x), (3, J k)] [J 34, J z3] σ)) ?_
        refine T.icmp_eq rfl rfl (by omega) (by omega) (fun c4 => ?_) (fun c4 => ?_)
        · refine T.go 2 (fun n9 => (rfl : _ = exe ξ n9 (d + 1) j_I_nameLengthOf 76 [(0, .ref 48), (1, .ref r), (2, J x), (3, J k)] [J k, .ref r] σ)) ?_
          refine T.callv (as := [J k]) (r := []) rfl rfl rfl (RwL_lt _ hr).2.2.1 hrx1 rfl (s_R_fat d g r k σ hK hr hg (by omega)) (fun v4 s4 hqs4 => ?_)
          obtain ⟨z4, rfl, esz4, hzz4, hyz4, pz4_0, pz4_1⟩ := hqs4
          rw [esz4]
          have oz4 := at_or (by omega) pz4_0 pz4_1
          clear pz4_0 pz4_1
          refine T.go 1 (fun n9 => (rfl : _ = exe ξ n9 (d + 1) j_I_nameLengthOf 81 [(0, .ref 48), (1, .ref r), (2, J x), (3, J k)] [J 34, J z4] σ)) ?_
          refine T.icmp_ne rfl rfl (by omega) (by omega) (fun c5 => ?_) (fun c5 => ?_)
          · refine T.go 1 (fun n9 => (rfl : _ = exe ξ n9 (d + 1) j_I_nameLengthOf 105 [(0, .ref 48), (1, .ref r), (2, J x), (3, J k)] [J (-1)] σ)) ?_
            exact T.ireti rfl rfl ⟨_, rfl, rfl, by omega, by omega, (fun h => absurd h (by omega)), (fun h n q => by have q9 := LNE_stop i2 i0 q; have q1 := q.1; clear q; omega)⟩
          · refine T.go 3 (fun n9 => (rfl : _ = exe ξ n9 (d + 1) j_I_nameLengthOf 87 [(0, .ref 48), (1, .ref r), (2, J x), (3, J k)] [J 1, J k, .ref r] σ)) ?_
            refine T.iadd rfl ?_
            refine T.callv (as := [J (k + 1)]) (r := []) rfl rfl rfl (RwL_lt _ hr).2.2.1 hrx1 rfl (s_R_fat d g r (k + 1) σ hK hr hg (by omega)) (fun v5 s5 hqs5 => ?_)
            obtain ⟨z5, rfl, esz5, hzz5, hyz5, pz5_0, pz5_1⟩ := hqs5
            rw [esz5]
            have oz5 := at_or (by omega) pz5_0 pz5_1
            clear pz5_0 pz5_1
            refine T.go 1 (fun n9 => (rfl : _ = exe ξ n9 (d + 1) j_I_nameLengthOf 93 [(0, .ref 48), (1, .ref r), (2, J x), (3, J k)] [J 10, J z5] σ)) ?_
            refine T.icmp_ne rfl rfl (by omega) (by omega) (fun c6 => ?_) (fun c6 => ?_)
            · refine T.go 1 (fun n9 => (rfl : _ = exe ξ n9 (d + 1) j_I_nameLengthOf 105 [(0, .ref 48), (1, .ref r), (2, J x), (3, J k)] [J (-1)] σ)) ?_
              exact T.ireti rfl rfl ⟨_, rfl, rfl, by omega, by omega, (fun h => absurd h (by omega)), (fun h n q => by have q9 := LNE_stop i2 i0 q; have q1 := q.1; clear q; omega)⟩
            · refine T.go 2 (fun n9 => (rfl : _ = exe ξ n9 (d + 1) j_I_nameLengthOf 98 [(0, .ref 48), (1, .ref r), (2, J x), (3, J k)] [J x, J k] σ)) ?_
              refine T.isub rfl ?_
              refine T.go 1 (fun n9 => (rfl : _ = exe ξ n9 (d + 1) j_I_nameLengthOf 100 [(0, .ref 48), (1, .ref r), (2, J x), (3, J k)] [J 3, J (k - x)] σ)) ?_
              refine T.isub rfl ?_
              refine T.go 1 (fun n9 => (rfl : _ = exe ξ n9 (d + 1) j_I_nameLengthOf 105 [(0, .ref 48), (1, .ref r), (2, J x), (3, J k)] [J ((k - x) - 3)] σ)) ?_
              exact T.ireti rfl rfl ⟨_, rfl, rfl, by omega, by omega, (fun h => LNE_mk (by omega) (by omega) i3 i4 i5 i2 (by omega) (by omega)), (fun h n q => by have q9 := LNE_stop i2 i0 q; have q1 := q.1; clear q; omega)⟩
        · refine T.go 2 (fun n9 => (rfl : _ = exe ξ n9 (d + 1) j_I_nameLengthOf 60 [(0, .ref 48), (1, .ref r), (2, J x), (3, J k)] [J k, .ref r] σ)) ?_
          refine T.callv (as := [J k]) (r := []) rfl rfl rfl (RwL_lt _ hr).2.2.1 hrx1 rfl (s_R_fat d g r k σ hK hr hg (by omega)) (fun v6 s6 hqs6 => ?_)
          obtain ⟨z6, rfl, esz6, hzz6, hyz6, pz6_0, pz6_1⟩ := hqs6
          rw [esz6]
          have oz6 := at_or (by omega) pz6_0 pz6_1
          clear pz6_0 pz6_1
          refine T.go 1 (fun n9 => (rfl : _ = exe ξ n9 (d + 1) j_I_nameLengthOf 65 [(0, .ref 48), (1, .ref r), (2, J x), (3, J k)] [J 10, J z6] σ)) ?_
          refine T.icmp_eq rfl rfl (by omega) (by omega) (fun c7 => ?_) (fun c7 => ?_)
          · refine T.go 2 (fun n9 => (rfl : _ = exe ξ n9 (d + 1) j_I_nameLengthOf 76 [(0, .ref 48), (1, .ref r), (2, J x), (3, J k)] [J k, .ref r] σ)) ?_
            refine T.callv (as := [J k]) (r := []) rfl rfl rfl (RwL_lt _ hr).2.2.1 hrx1 rfl (s_R_fat d g r k σ hK hr hg (by omega)) (fun v7 s7 hqs7 => ?_)
            obtain ⟨z7, rfl, esz7, hzz7, hyz7, pz7_0, pz7_1⟩ := hqs7
            rw [esz7]
            have oz7 := at_or (by omega) pz7_0 pz7_1
            clear pz7_0 pz7_1
            refine T.go 1 (fun n9 => (rfl : _ = exe ξ n9 (d + 1) j_I_nameLengthOf 81 [(0, .ref 48), (1, .ref r), (2, J x), (3, J k)] [J 34, J z7] σ)) ?_
            refine T.icmp_ne rfl rfl (by omega) (by omega) (fun c8 => ?_) (fun c8 => ?_)
            · refine T.go 1 (fun n9 => (rfl : _ = exe ξ n9 (d + 1) j_I_nameLengthOf 105 [(0, .ref 48), (1, .ref r), (2, J x), (3, J k)] [J (-1)] σ)) ?_
              exact T.ireti rfl rfl ⟨_, rfl, rfl, by omega, by omega, (fun h => absurd h (by omega)), (fun h n q => by have q9 := LNE_stop i2 i0 q; have q1 := q.1; clear q; omega)⟩
            · refine T.go 3 (fun n9 => (rfl : _ = exe ξ n9 (d + 1) j_I_nameLengthOf 87 [(0, .ref 48), (1, .ref r), (2, J x), (3, J k)] [J 1, J k, .ref r] σ)) ?_
              refine T.iadd rfl ?_
              refine T.callv (as := [J (k + 1)]) (r := []) rfl rfl rfl (RwL_lt _ hr).2.2.1 hrx1 rfl (s_R_fat d g r (k + 1) σ hK hr hg (by omega)) (fun v8 s8 hqs8 => ?_)
              obtain ⟨z8, rfl, esz8, hzz8, hyz8, pz8_0, pz8_1⟩ := hqs8
              rw [esz8]
              have oz8 := at_or (by omega) pz8_0 pz8_1
              clear pz8_0 pz8_1
              refine T.go 1 (fun n9 => (rfl : _ = exe ξ n9 (d + 1) j_I_nameLengthOf 93 [(0, .ref 48), (1, .ref r), (2, J x), (3, J k)] [J 10, J z8] σ)) ?_
              refine T.icmp_ne rfl rfl (by omega) (by omega) (fun c9 => ?_) (fun c9 => ?_)
              · refine T.go 1 (fun n9 => (rfl : _ = exe ξ n9 (d + 1) j_I_nameLengthOf 105 [(0, .ref 48), (1, .ref r), (2, J x), (3, J k)] [J (-1)] σ)) ?_
                exact T.ireti rfl rfl ⟨_, rfl, rfl, by omega, by omega, (fun h => absurd h (by omega)), (fun h n q => by have q9 := LNE_stop i2 i0 q; have q1 := q.1; clear q; omega)⟩
              · refine T.go 2 (fun n9 => (rfl : _ = exe ξ n9 (d + 1) j_I_nameLengthOf 98 [(0, .ref 48), (1, .ref r), (2, J x), (3, J k)] [J x, J k] σ)) ?_
                refine T.isub rfl ?_
                refine T.go 1 (fun n9 => (rfl : _ = exe ξ n9 (d + 1) j_I_nameLengthOf 100 [(0, .ref 48), (1, .ref r), (2, J x), (3, J k)] [J 3, J (k - x)] σ)) ?_
                refine T.isub rfl ?_
                refine T.go 1 (fun n9 => (rfl : _ = exe ξ n9 (d + 1) j_I_nameLengthOf 105 [(0, .ref 48), (1, .ref r), (2, J x), (3, J k)] [J ((k - x) - 3)] σ)) ?_
                exact T.ireti rfl rfl ⟨_, rfl, rfl, by omega, by omega, (fun h => LNE_mk (by omega) (by omega) i3 i4 i5 i2 (by omega) (by omega)), (fun h n q => by have q9 := LNE_stop i2 i0 q; have q1 := q.1; clear q; omega)⟩
          · refine T.iinc (lv' := [(0, .ref 48), (1, .ref r), (2, J x), (3, J (k + 1))]) rfl rfl rfl rfl ?_
            refine T.go 1 (fun n9 => (rfl : _ = exe ξ n9 (d + 1) j_I_nameLengthOf 40 [(0, .ref 48), (1, .ref r), (2, J x), (3, J (k + 1))] [] σ)) ?_
            exact ih  (k + 1) (by omega) (by omega) (NQ_s i2 (by omega) (by omega)) (by omega) (by omega) (by omega) (by omega)
  refine T.go 2 (fun n9 => (rfl : _ = exe ξ n9 (d + 1) j_I_nameLengthOf 2 [(0, .ref 48), (1, .ref r), (2, J x)] [J x, .ref r] σ)) ?_
  refine T.callv (as := [J x]) (r := []) rfl rfl rfl (RwL_lt _ hr).2.2.1 hrx1 rfl (s_R_fat d g r x σ hK hr hg (by omega)) (fun v9 s9 hqs9 => ?_)
  obtain ⟨z9, rfl, esz9, hzz9, hyz9, pz9_0, pz9_1⟩ := hqs9
  rw [esz9]
  have oz9 := at_or (by omega) pz9_0 pz9_1
  clear pz9_0 pz9_1
  refine T.go 1 (fun n9 => (rfl : _ = exe ξ n9 (d + 1) j_I_nameLengthOf 7 [(0, .ref 48), (1, .ref r), (2, J x)] [J 45, J z9] σ)) ?_
  refine T.icmp_ne rfl rfl (by omega) (by omega) (fun c10 => ?_) (fun c10 => ?_)
  · refine T.go 1 (fun n9 => (rfl : _ = exe ξ n9 (d + 1) j_I_nameLengthOf 35 [(0, .ref 48), (1, .ref r), (2, J x)] [J (-1)] σ)) ?_
    exact T.ireti rfl rfl ⟨_, rfl, rfl, by omega, by omega, (fun h => absurd h (by omega)), (fun h n q => by obtain ⟨q1, q2, q3, q4, q5, -, -, -⟩ := q; omega)⟩
  · refine T.go 3 (fun n9 => (rfl : _ = exe ξ n9 (d + 1) j_I_nameLengthOf 13 [(0, .ref 48), (1, .ref r), (2, J x)] [J 1, J x, .ref r] σ)) ?_
    refine T.iadd rfl ?_
    refine T.callv (as := [J (x + 1)]) (r := []) rfl rfl rfl (RwL_lt _ hr).2.2.1 hrx1 rfl (s_R_fat d g r (x + 1) σ hK hr hg (by omega)) (fun v10 s10 hqs10 => ?_)
    obtain ⟨z10, rfl, esz10, hzz10, hyz10, pz10_0, pz10_1⟩ := hqs10
    rw [esz10]
    have oz10 := at_or (by omega) pz10_0 pz10_1
    clear pz10_0 pz10_1
    refine T.go 1 (fun n9 => (rfl : _ = exe ξ n9 (d + 1) j_I_nameLengthOf 19 [(0, .ref 48), (1, .ref r), (2, J x)] [J 32, J z10] σ)) ?_
    refine T.icmp_ne rfl rfl (by omega) (by omega) (fun c11 => ?_) (fun c11 => ?_)
    · refine T.go 1 (fun n9 => (rfl : _ = exe ξ n9 (d + 1) j_I_nameLengthOf 35 [(0, .ref 48), (1, .ref r), (2, J x)] [J (-1)] σ)) ?_
      exact T.ireti rfl rfl ⟨_, rfl, rfl, by omega, by omega, (fun h => absurd h (by omega)), (fun h n q => by obtain ⟨q1, q2, q3, q4, q5, -, -, -⟩ := q; omega)⟩
    · refine T.go 3 (fun n9 => (rfl : _ = exe ξ n9 (d + 1) j_I_nameLengthOf 25 [(0, .ref 48), (1, .ref r), (2, J x)] [J 2, J x, .ref r] σ)) ?_
      refine T.iadd rfl ?_
      refine T.callv (as := [J (x + 2)]) (r := []) rfl rfl rfl (RwL_lt _ hr).2.2.1 hrx1 rfl (s_R_fat d g r (x + 2) σ hK hr hg (by omega)) (fun v11 s11 hqs11 => ?_)
      obtain ⟨z11, rfl, esz11, hzz11, hyz11, pz11_0, pz11_1⟩ := hqs11
      rw [esz11]
      have oz11 := at_or (by omega) pz11_0 pz11_1
      clear pz11_0 pz11_1
      refine T.go 1 (fun n9 => (rfl : _ = exe ξ n9 (d + 1) j_I_nameLengthOf 31 [(0, .ref 48), (1, .ref r), (2, J x)] [J 34, J z11] σ)) ?_
      refine T.icmp_eq rfl rfl (by omega) (by omega) (fun c12 => ?_) (fun c12 => ?_)
      · refine T.go 2 (fun n9 => (rfl : _ = exe ξ n9 (d + 1) j_I_nameLengthOf 38 [(0, .ref 48), (1, .ref r), (2, J x)] [J 3, J x] σ)) ?_
        refine T.iadd rfl ?_
        refine T.go 1 (fun n9 => (rfl : _ = exe ξ n9 (d + 1) j_I_nameLengthOf 40 [(0, .ref 48), (1, .ref r), (2, J x), (3, J (x + 3))] [] σ)) ?_
        exact loop40 _ (x + 3) (by omega) (by omega) NQ_0 (by omega) (by omega) (by omega) (Nat.lt_succ_self _)
      · refine T.go 1 (fun n9 => (rfl : _ = exe ξ n9 (d + 1) j_I_nameLengthOf 35 [(0, .ref 48), (1, .ref r), (2, J x)] [J (-1)] σ)) ?_
        exact T.ireti rfl rfl ⟨_, rfl, rfl, by omega, by omega, (fun h => absurd h (by omega)), (fun h n q => by obtain ⟨q1, q2, q3, q4, q5, -, -, -⟩ := q; omega)⟩

set_option maxRecDepth 10000 in
set_option maxHeartbeats 4000000 in
theorem s_I_flearn {ξ : Nat → Option (Nat × List Int32)} (d : Nat) (g : Int → Int) (r : Nat) (σ : qH) (hK : K σ) (hr : r ∈ RwL) (hg : AGR σ r g) (hNA : NA σ) : T ξ (d + 2) j_I_learn 0 (lv_args 0 [.ref 48, .ref r]) [] σ (fun v σ' => ∃ z : Int, v = some (J z) ∧ Fr [48, 49, 50] σ σ' ∧ 0 ≤ z ∧ z ≤ 1 ∧ (z = 1 → LOK g (rl σ r) (il σ' 49) (il σ' 50) (afld σ' 48 2)) ∧ (z ≠ 1 → NLA g (rl σ r))) := by
  obtain ⟨mx1, nx1, bx1, lx1, hrx1, hbx1, fx1a, fx1b, fx1c, fx1d, fx1e, fx1g, fx1h, fx1i⟩ := hK.row hr
  have ctx1 := CT_of hrx1 hbx1
  have rwx1 := rl_of hrx1 (by omega)
  subst rwx1
  have loop9 : ∀ (f : Nat) (x : Int) (k : Int) (τ : qH), Fr [48, 49, 50] σ τ → 0 ≤ x → x ≤ rl σ r → 0 ≤ k → k ≤ 6 → LNA g (rl σ r) k.toNat x → afld τ 48 2 = k → LNI g (rl σ r) (il τ 49) (il τ 50) k → (7 - k).toNat < f → T ξ (d + 2) j_I_learn 9 [(0, .ref 48), (1, .ref r), (2, J x), (3, J k)] [] τ (fun v σ' => ∃ z : Int, v = some (J z) ∧ Fr [48, 49, 50] σ σ' ∧ 0 ≤ z ∧ z ≤ 1 ∧ (z = 1 → LOK g (rl σ r) (il σ' 49) (il σ' 50) (afld σ' 48 2)) ∧ (z ≠ 1 → NLA g (rl σ r))) := by
    intro f
    induction f with
    | zero => intro x k τ hτ i0 i1 i2 i3 i4 i5 i6 hm; omega
    | succ f ih =>
      intro x k τ hτ i0 i1 i2 i3 i4 i5 i6 hm
      obtain ⟨nx2, hmx2, fx2a, fx2b⟩ := hτ.1.idx
      obtain ⟨lx3, hix3, elx3⟩ := hτ.1.ints kdX_49
      have ilx3 := il_of hix3
      obtain ⟨lx4, hix4, elx4⟩ := hτ.1.ints kdX_50
      have ilx4 := il_of hix4
      have rl9 := rl_eq (hτ.2.2.1 r (List.mem_cons_of_mem _ hr) (nm_c (dq_84 _ hr) (nm_c (dq_85 _ hr) (nm_c (dq_86 _ hr) nm_0))))
      have lr9 := LNA_r (by omega) i4
      refine T.go 2 (fun n9 => (rfl : _ = exe ξ n9 (d + 2) j_I_learn 12 [(0, .ref 48), (1, .ref r), (2, J x), (3, J k)] [J 6, J k] τ)) ?_
      refine T.icmp_gt rfl rfl (by omega) (by omega) (fun c1 => ?_) (fun c1 => ?_)
      · refine T.go 1 (fun n9 => (rfl : _ = exe ξ n9 (d + 2) j_I_learn 83 [(0, .ref 48), (1, .ref r), (2, J x), (3, J k)] [J 1] τ)) ?_
        exact T.iretz rfl rfl (by omega) ⟨_, rfl, hτ, by omega, by omega, (fun h => by rw [i5]; have e9 : x = rl σ r := (by omega); have q4 := i4; rw [e9] at q4; exact ⟨q4, i2, i3, i6⟩), (fun h => absurd rfl h)⟩
      · refine T.go 2 (fun n9 => (rfl : _ = exe ξ n9 (d + 2) j_I_learn 17 [(0, .ref 48), (1, .ref r), (2, J x), (3, J k)] [.ref r, J x] τ)) ?_
        obtain ⟨mx5, nx5, bx5, lx5, hrx5, hbx5, fx5a, fx5b, fx5c, fx5d, fx5e, fx5g, fx5h, fx5i⟩ := hτ.1.row hr
        have ctx5 := CT_of hrx5 hbx5
        have rwx5 := rl_of hrx5 (by omega)
        subst rwx5
        refine T.get rfl rfl rfl hrx5 rfl ?_
        refine T.icmp_ge rfl rfl (by omega) (by omega) (fun c2 => ?_) (fun c2 => ?_)
        · refine T.go 1 (fun n9 => (rfl : _ = exe ξ n9 (d + 2) j_I_learn 83 [(0, .ref 48), (1, .ref r), (2, J x), (3, J k)] [J 1] τ)) ?_
          exact T.iretz rfl rfl (by omega) ⟨_, rfl, hτ, by omega, by omega, (fun h => by rw [i5]; have e9 : x = rl σ r := (by omega); have q4 := i4; rw [e9] at q4; exact ⟨q4, i2, i3, i6⟩), (fun h => absurd rfl h)⟩
        · refine T.go 3 (fun n9 => (rfl : _ = exe ξ n9 (d + 2) j_I_learn 26 [(0, .ref 48), (1, .ref r), (2, J x), (3, J k)] [J x, .ref r, .ref 48] τ)) ?_
          have hg1 := hg.fr hNA hτ hr (nm_c (dq_84 _ hr) (nm_c (dq_85 _ hr) (nm_c (dq_86 _ hr) nm_0)))
          have rlq1 := rl_eq (hτ.2.2.1 r (List.mem_cons_of_mem _ hr) (nm_c (dq_84 _ hr) (nm_c (dq_85 _ hr) (nm_c (dq_86 _ hr) nm_0))))
          refine T.callv (as := [.ref r, J x]) (r := []) rfl rfl rfl rfl hmx2 rfl (s_I_fnameLengthOf d g r x τ hτ.1 hr hg1 (by omega) (by omega) (by omega)) (fun v1 s1 hqs1 => ?_)
          obtain ⟨z1, rfl, esz1, hzz1, hyz1, pz1_0, pz1_1⟩ := hqs1
          rw [esz1]
          rw [rlq1] at pz1_0 pz1_1
          refine T.go 3 (fun n9 => (rfl : _ = exe ξ n9 (d + 2) j_I_learn 34 [(0, .ref 48), (1, .ref r), (2, J x), (3, J k), (4, J z1)] [J 1, J z1] τ)) ?_
          refine T.icmp_lt rfl rfl (by omega) (by omega) (fun c3 => ?_) (fun c3 => ?_)
          · refine T.go 1 (fun n9 => (rfl : _ = exe ξ n9 (d + 2) j_I_learn 44 [(0, .ref 48), (1, .ref r), (2, J x), (3, J k), (4, J z1)] [J 0] τ)) ?_
            exact T.iretz rfl rfl (by omega) ⟨_, rfl, hτ, by omega, by omega, (fun h => absurd h (by omega)), (fun h m hm => if q9 : 1 ≤ z1 then LNA_no1 i4 (by omega) (by omega) else LNA_no2 i4 (by omega) (pz1_1 (by omega)))⟩
          · refine T.go 2 (fun n9 => (rfl : _ = exe ξ n9 (d + 2) j_I_learn 40 [(0, .ref 48), (1, .ref r), (2, J x), (3, J k), (4, J z1)] [J 6, J k] τ)) ?_
            refine T.icmp_lt rfl rfl (by omega) (by omega) (fun c4 => ?_) (fun c4 => ?_)
            · refine T.go 1 (fun n9 => (rfl : _ = exe ξ n9 (d + 2) j_I_learn 46 [(0, .ref 48), (1, .ref r), (2, J x), (3, J k), (4, J z1)] [.ref 48] τ)) ?_
              refine T.get rfl rfl rfl hmx2 rfl ?_
              refine T.go 3 (fun n9 => (rfl : _ = exe ξ n9 (d + 2) j_I_learn 52 [(0, .ref 48), (1, .ref r), (2, J x), (3, J k), (4, J z1)] [J 3, J x, J k, .ref 49] τ)) ?_
              refine T.iadd rfl ?_
              refine T.iastF (w := [48, 49, 50]) rfl hτ.1 hix3 (by omega) (by decide) (Or.inl (by decide)) (by simp) (fun s2 hs2 hcs2 hos2 => ?_)
              have els2 : (lx3.set (k : Int).toNat (Int32.ofInt (x + 3))).length = 6 := List.length_set.trans elx3
              have gs2 := hτ.trans hs2
              have k1 := hos2 (by decide) hmx2
              have k2 := hos2 (by decide) hix4
              have k3 := hos2 (dq_85 _ hr) hrx5
              have k4 := hos2 (q_dif hbx5 hix3 (fun z => by cases z)) hbx5
              refine T.go 1 (fun n9 => (rfl : _ = exe ξ n9 (d + 2) j_I_learn 55 [(0, .ref 48), (1, .ref r), (2, J x), (3, J k), (4, J z1)] [.ref 48] s2)) ?_
              refine T.get rfl rfl rfl k1 rfl ?_
              refine T.go 2 (fun n9 => (rfl : _ = exe ξ n9 (d + 2) j_I_learn 61 [(0, .ref 48), (1, .ref r), (2, J x), (3, J k), (4, J z1)] [J z1, J k, .ref 50] s2)) ?_
              refine T.iastF (w := [48, 49, 50]) rfl hs2.1 k2 (by omega) (by decide) (Or.inl (by decide)) (by simp) (fun s3 hs3 hcs3 hos3 => ?_)
              have els3 : (lx4.set (k : Int).toNat (Int32.ofInt z1)).length = 6 := List.length_set.trans elx4
              have gs3 := gs2.trans hs3
              have k5 := hos3 (by decide) hcs2
              have k6 := hos3 (by decide) k1
              have k7 := hos3 (dq_86 _ hr) k3
              have k8 := hos3 (q_dif k4 k2 (fun z => by cases z)) k4
              refine T.go 3 (fun n9 => (rfl : _ = exe ξ n9 (d + 2) j_I_learn 65 [(0, .ref 48), (1, .ref r), (2, J x), (3, J k), (4, J z1)] [J 1, J k, .ref 48] s3)) ?_
              refine T.iadd rfl ?_
              refine T.putF (w := [48, 49, 50]) rfl rfl k6 rfl rfl rfl (fs' := [.ref 49, .ref 50, J (k + 1)]) rfl (Fr.other hs3.1 k6 rfl (show okI _ from ⟨_, rfl, by omega⟩) (by decide) (Or.inl (by decide)) (fun _ z => by cases z) (by simp)) (fun s4 hs4 hcs4 hos4 => ?_)
              have gs4 := gs3.trans hs4
              have k9 := hos4 (by decide) hcs3
              have k10 := hos4 (by decide) k5
              have k11 := hos4 (dq_84 _ hr) k7
              have k12 := hos4 (q_dif k8 k6 (fun z => by cases z)) k8
              refine T.go 3 (fun n9 => (rfl : _ = exe ξ n9 (d + 2) j_I_learn 73 [(0, .ref 48), (1, .ref r), (2, J x), (3, J k), (4, J z1)] [J 5, J z1, J x] s4)) ?_
              refine T.iadd rfl ?_
              refine T.iadd rfl ?_
              refine T.go 1 (fun n9 => (rfl : _ = exe ξ n9 (d + 2) j_I_learn 76 [(0, .ref 48), (1, .ref r), (2, J (x + (z1 + 5))), (3, J k), (4, J z1)] [] s4)) ?_
              refine T.iinc (lv' := [(0, .ref 48), (1, .ref r), (2, J (x + (z1 + 5))), (3, J (k + 1)), (4, J z1)]) rfl rfl rfl rfl ?_
              refine T.go 1 (fun n9 => (rfl : _ = exe ξ n9 (d + 2) j_I_learn 9 [(0, .ref 48), (1, .ref r), (2, J (x + (z1 + 5))), (3, J (k + 1)), (4, J z1)] [] s4)) ?_
              refine T.drop (lv := [(0, .ref 48), (1, .ref r), (2, J (x + (z1 + 5))), (3, J (k + 1))]) [(4, J z1)] (by simp) ?_
              have nf1 := af_of (i := 2) hcs4 rfl (by omega)
              have gs49 : ∀ j : Int, 0 ≤ j → gl (il s4 49) j = if j = k then x + 3 else gl (il τ 49) j := fun j hj => by rw [il_of k10, gl_set ⟨by omega, by omega⟩ ⟨by omega, by omega⟩ hj, ilx3]
              have gs50 : ∀ j : Int, 0 ≤ j → gl (il s4 50) j = if j = k then z1 else gl (il τ 50) j := fun j hj => by rw [il_of k9, gl_set ⟨by omega, by omega⟩ ⟨by omega, by omega⟩ hj, ilx4]
              exact ih  (x + (z1 + 5)) (k + 1) s4 gs4 (by omega) (by have q9 := (pz1_0 (by omega)).2.1; omega) (by omega) (by omega) (LNA_s i2 i4 (pz1_0 (by omega))) (by omega) (LNI_s i6 i2 i4 (pz1_0 (by omega)) gs49 gs50) (by omega)
            · refine T.go 1 (fun n9 => (rfl : _ = exe ξ n9 (d + 2) j_I_learn 44 [(0, .ref 48), (1, .ref r), (2, J x), (3, J k), (4, J z1)] [J 0] τ)) ?_
              exact T.iretz rfl rfl (by omega) ⟨_, rfl, hτ, by omega, by omega, (fun h => absurd h (by omega)), (fun h m hm => if q9 : 1 ≤ z1 then LNA_no1 i4 (by omega) (by omega) else LNA_no2 i4 (by omega) (pz1_1 (by omega)))⟩
  refine T.go 2 (fun n9 => (rfl : _ = exe ξ n9 (d + 2) j_I_learn 2 [(0, .ref 48), (1, .ref r)] [J 0, .ref 48] σ)) ?_
  obtain ⟨nx6, hmx6, fx6a, fx6b⟩ := hK.idx
  refine T.putF (w := [48, 49, 50]) rfl rfl hmx6 rfl rfl rfl (fs' := [.ref 49, .ref 50, J 0]) rfl (Fr.other hK hmx6 rfl (show okI _ from ⟨_, rfl, by omega⟩) (by decide) (Or.inl (by decide)) (fun _ z => by cases z) (by simp)) (fun s5 hs5 hcs5 hos5 => ?_)
  have k13 := hos5 (dq_84 _ hr) hrx1
  have k14 := hos5 (q_dif hbx1 hmx6 (fun z => by cases z)) hbx1
  refine T.go 4 (fun n9 => (rfl : _ = exe ξ n9 (d + 2) j_I_learn 9 [(0, .ref 48), (1, .ref r), (2, J 0), (3, J 0)] [] s5)) ?_
  have nf2 := af_of (i := 2) hcs5 rfl (by omega)
  exact loop9 _ 0 0 s5 hs5 (by omega) (by omega) (by omega) (by omega) rfl (by omega) LNI_0 (Nat.lt_succ_self _)
