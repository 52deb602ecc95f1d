/-! Rows and archives: what their methods answer, as functions of bytes. -/
set_option maxRecDepth 10000 in
set_option maxHeartbeats 4000000 in
theorem s_R_fat {ξ : Nat → Option (Nat × List Int32)} (d : Nat) (g : Int → Int) (r : Nat) (x : Int) (σ : qH) (hK : K σ) (hr : r ∈ RwL) (hg : AGR σ r g) (rx : -2147483648 ≤ x ∧ x ≤ 2147483647) : T ξ d j_R_at 0 (lv_args 0 [.ref r, J x]) [] σ (fun v σ' => ∃ z : Int, v = some (J z) ∧ σ' = σ ∧ -1 ≤ z ∧ z ≤ 255 ∧ (0 ≤ x → x < rl σ r → z = g x) ∧ (x < 0 ∨ rl σ r ≤ x → z = -1)) := by
  obtain ⟨mx1, nx1, bx1, lx1, hrx1, hbx1, fx1a, fx1b, fx1c, fx1d, fx1e, fx1g, fx1h, fx1i⟩ := hK.row hr
  have ctx1 := CT_of hrx1 hbx1
  have rwx1 := rl_of hrx1 (by omega)
  subst rwx1
  refine T.go 1 (fun n9 => (rfl : _ = exe ξ n9 d j_R_at 1 [(0, .ref r), (1, J x)] [J x] σ)) ?_
  refine T.if_lt rfl rfl (by omega) (fun c1 => ?_) (fun c1 => ?_)
  · refine T.go 1 (fun n9 => (rfl : _ = exe ξ n9 d j_R_at 26 [(0, .ref r), (1, J x)] [J (-1)] σ)) ?_
    exact T.ireti rfl rfl ⟨_, rfl, rfl, by omega, by omega, by omega, by omega⟩
  · refine T.go 2 (fun n9 => (rfl : _ = exe ξ n9 d j_R_at 6 [(0, .ref r), (1, J x)] [.ref r, J x] σ)) ?_
    refine T.get rfl rfl rfl hrx1 rfl ?_
    refine T.icmp_ge rfl rfl (by omega) (by omega) (fun c2 => ?_) (fun c2 => ?_)
    · refine T.go 1 (fun n9 => (rfl : _ = exe ξ n9 d j_R_at 26 [(0, .ref r), (1, J x)] [J (-1)] σ)) ?_
      exact T.ireti rfl rfl ⟨_, rfl, rfl, by omega, by omega, by omega, by omega⟩
    · refine T.go 1 (fun n9 => (rfl : _ = exe ξ n9 d j_R_at 13 [(0, .ref r), (1, J x)] [.ref r] σ)) ?_
      refine T.get rfl rfl rfl hrx1 rfl ?_
      refine T.go 1 (fun n9 => (rfl : _ = exe ξ n9 d j_R_at 17 [(0, .ref r), (1, J x)] [J x, .ref bx1] σ)) ?_
      refine T.bald rfl (blt_f fx1e) hbx1 (by omega) (fun z1 hzz1 hyz1 hez1 => ?_)
      have rbz1 := rb_of (x := x) ctx1 hez1 ⟨hzz1, hyz1⟩
      have qbz1 := qb_at fx1g hez1 ⟨hzz1, hyz1⟩
      have ggz1 := hg x (by omega) (by omega)
      refine T.go 1 (fun n9 => (rfl : _ = exe ξ n9 d j_R_at 21 [(0, .ref r), (1, J x)] [J 255, J z1] σ)) ?_
      refine T.iandm (p := 256) 8 rfl (by decide) (by decide) (by decide) (by omega) ?_
      refine T.go 1 (fun n9 => (rfl : _ = exe ξ n9 d j_R_at 26 [(0, .ref r), (1, J x)] [J (z1 % 256)] σ)) ?_
      exact T.ireti rfl rfl ⟨_, rfl, rfl, by omega, by omega, by omega, by omega⟩

set_option maxRecDepth 10000 in
set_option maxHeartbeats 4000000 in
theorem s_R_ftwo {ξ : Nat → Option (Nat × List Int32)} (d : Nat) (g : Int → Int) (r : Nat) (x : Int) (σ : qH) (hK : K σ) (hr : r ∈ RwL) (hg : AGR σ r g) (rx : -2147483648 ≤ x ∧ x ≤ 2147483647) : T ξ d j_R_two 0 (lv_args 0 [.ref r, J x]) [] σ (fun v σ' => ∃ z : Int, v = some (J z) ∧ σ' = σ ∧ -1 ≤ z ∧ z ≤ 65535 ∧ (0 ≤ x → x + 1 < rl σ r → z = W2 g x) ∧ (0 ≤ x → x + 1 < rl σ r → 0 ≤ z)) := by
  obtain ⟨mx1, nx1, bx1, lx1, hrx1, hbx1, fx1a, fx1b, fx1c, fx1d, fx1e, fx1g, fx1h, fx1i⟩ := hK.row hr
  have ctx1 := CT_of hrx1 hbx1
  have rwx1 := rl_of hrx1 (by omega)
  subst rwx1
  refine T.go 1 (fun n9 => (rfl : _ = exe ξ n9 d j_R_two 1 [(0, .ref r), (1, J x)] [J x] σ)) ?_
  refine T.if_lt rfl rfl (by omega) (fun c1 => ?_) (fun c1 => ?_)
  · refine T.go 1 (fun n9 => (rfl : _ = exe ξ n9 d j_R_two 44 [(0, .ref r), (1, J x)] [J (-1)] σ)) ?_
    exact T.ireti rfl rfl ⟨_, rfl, rfl, by omega, by omega, (fun h1 h2 => by unfold W2; omega), (fun h1 h2 => by omega)⟩
  · refine T.go 2 (fun n9 => (rfl : _ = exe ξ n9 d j_R_two 6 [(0, .ref r), (1, J x)] [.ref r, J x] σ)) ?_
    refine T.get rfl rfl rfl hrx1 rfl ?_
    refine T.go 1 (fun n9 => (rfl : _ = exe ξ n9 d j_R_two 10 [(0, .ref r), (1, J x)] [J 1, J (rl σ r), J x] σ)) ?_
    refine T.isub rfl ?_
    refine T.icmp_ge rfl rfl (by omega) (by omega) (fun c2 => ?_) (fun c2 => ?_)
    · refine T.go 1 (fun n9 => (rfl : _ = exe ξ n9 d j_R_two 44 [(0, .ref r), (1, J x)] [J (-1)] σ)) ?_
      exact T.ireti rfl rfl ⟨_, rfl, rfl, by omega, by omega, (fun h1 h2 => by unfold W2; omega), (fun h1 h2 => by omega)⟩
    · refine T.go 1 (fun n9 => (rfl : _ = exe ξ n9 d j_R_two 15 [(0, .ref r), (1, J x)] [.ref r] σ)) ?_
      refine T.get rfl rfl rfl hrx1 rfl ?_
      refine T.go 1 (fun n9 => (rfl : _ = exe ξ n9 d j_R_two 19 [(0, .ref r), (1, J x)] [J x, .ref bx1] σ)) ?_
      refine T.bald rfl (blt_f fx1e) hbx1 (by omega) (fun z1 hzz1 hyz1 hez1 => ?_)
      have rbz1 := rb_of (x := x) ctx1 hez1 ⟨hzz1, hyz1⟩
      have qbz1 := qb_at fx1g hez1 ⟨hzz1, hyz1⟩
      have ggz1 := hg x (by omega) (by omega)
      refine T.go 1 (fun n9 => (rfl : _ = exe ξ n9 d j_R_two 23 [(0, .ref r), (1, J x)] [J 255, J z1] σ)) ?_
      refine T.iandm (p := 256) 8 rfl (by decide) (by decide) (by decide) (by omega) ?_
      refine T.go 1 (fun n9 => (rfl : _ = exe ξ n9 d j_R_two 25 [(0, .ref r), (1, J x)] [.ref r, J (z1 % 256)] σ)) ?_
      refine T.get rfl rfl rfl hrx1 rfl ?_
      refine T.go 2 (fun n9 => (rfl : _ = exe ξ n9 d j_R_two 30 [(0, .ref r), (1, J x)] [J 1, J x, .ref bx1, J (z1 % 256)] σ)) ?_
      refine T.iadd rfl ?_
      refine T.bald rfl (blt_f fx1e) hbx1 (by omega) (fun z3 hzz3 hyz3 hez3 => ?_)
      have rbz3 := rb_of (x := x + 1) ctx1 hez3 ⟨hzz3, hyz3⟩
      have qbz3 := qb_at fx1g hez3 ⟨hzz3, hyz3⟩
      have ggz3 := hg (x + 1) (by omega) (by omega)
      refine T.go 1 (fun n9 => (rfl : _ = exe ξ n9 d j_R_two 35 [(0, .ref r), (1, J x)] [J 255, J z3, J (z1 % 256)] σ)) ?_
      refine T.iandm (p := 256) 8 rfl (by decide) (by decide) (by decide) (by omega) ?_
      refine T.go 1 (fun n9 => (rfl : _ = exe ξ n9 d j_R_two 38 [(0, .ref r), (1, J x)] [J 8, J (z3 % 256), J (z1 % 256)] σ)) ?_
      refine T.ishl (p := 256) 8 rfl (by decide) (by decide) (by omega) (by omega) ?_
      refine T.iorm (p := 256) 8 (z3 % 256) rfl (by decide) (by decide) (by omega) rfl ?_
      refine T.go 1 (fun n9 => (rfl : _ = exe ξ n9 d j_R_two 44 [(0, .ref r), (1, J x)] [J ((z1 % 256) + ((z3 % 256) * 256))] σ)) ?_
      exact T.ireti rfl rfl ⟨_, rfl, rfl, by omega, by omega, (fun h1 h2 => by unfold W2; omega), (fun h1 h2 => by omega)⟩

set_option maxRecDepth 10000 in
set_option maxHeartbeats 4000000 in
theorem s_R_ffour {ξ : Nat → Option (Nat × List Int32)} (d : Nat) (g : Int → Int) (r : Nat) (x : Int) (σ : qH) (hK : K σ) (hr : r ∈ RwL) (hg : AGR σ r g) (rx : -2147483648 ≤ x ∧ x ≤ 2147483647) (pre0 : -1000000 ≤ x) (pre1 : x ≤ 1000000) : T ξ (d + 1) j_R_four 0 (lv_args 0 [.ref r, J x]) [] σ (fun v σ' => ∃ z : Int, v = some (JL z) ∧ σ' = σ ∧ -65536 ≤ z ∧ z ≤ 4294967295 ∧ (0 ≤ x → x + 3 < rl σ r → z = W4 g x)) := by
  obtain ⟨mx1, nx1, bx1, lx1, hrx1, hbx1, fx1a, fx1b, fx1c, fx1d, fx1e, fx1g, fx1h, fx1i⟩ := hK.row hr
  have ctx1 := CT_of hrx1 hbx1
  have rwx1 := rl_of hrx1 (by omega)
  subst rwx1
  refine T.go 2 (fun n9 => (rfl : _ = exe ξ n9 (d + 1) j_R_four 2 [(0, .ref r), (1, J x)] [J x, .ref r] σ)) ?_
  refine T.callv (as := [J x]) (r := []) rfl rfl rfl (RwL_lt _ hr).2.2.1 hrx1 rfl (s_R_ftwo d g r x σ hK hr hg (by omega)) (fun v1 s1 hqs1 => ?_)
  obtain ⟨z1, rfl, esz1, hzz1, hyz1, pz1_0, pz1_1⟩ := hqs1
  rw [esz1]
  refine T.i2l rfl (by omega) ?_
  refine T.go 3 (fun n9 => (rfl : _ = exe ξ n9 (d + 1) j_R_four 9 [(0, .ref r), (1, J x)] [J 2, J x, .ref r, JL z1] σ)) ?_
  refine T.iadd rfl ?_
  refine T.callv (as := [J (x + 2)]) (r := [JL z1]) rfl rfl rfl (RwL_lt _ hr).2.2.1 hrx1 rfl (s_R_ftwo d g r (x + 2) σ hK hr hg (by omega)) (fun v2 s2 hqs2 => ?_)
  obtain ⟨z2, rfl, esz2, hzz2, hyz2, pz2_0, pz2_1⟩ := hqs2
  rw [esz2]
  refine T.i2l rfl (by omega) ?_
  refine T.go 1 (fun n9 => (rfl : _ = exe ξ n9 (d + 1) j_R_four 16 [(0, .ref r), (1, J x)] [J 16, JL z2, JL z1] σ)) ?_
  refine T.lshl (p := 65536) 16 rfl (by decide) (by decide) (by omega) (by omega) ?_
  by_cases c1 : z1 = -1
  · refine T.lorn rfl c1 ?_
    exact T.lret rfl rfl ⟨_, rfl, rfl, by omega, by omega, (fun h1 h2 => by unfold W4; omega)⟩
  · refine T.lorm (p := 65536) 16 z2 rfl (by decide) (by decide) (by omega) rfl ?_
    exact T.lret rfl rfl ⟨_, rfl, rfl, by omega, by omega, (fun h1 h2 => by unfold W4; omega)⟩

set_option maxRecDepth 10000 in
set_option maxHeartbeats 4000000 in
theorem s_R_fhasMark {ξ : Nat → Option (Nat × List Int32)} (d : Nat) (g : Int → Int) (r : Nat) (x : Int) (y : Int) (u : Int) (σ : qH) (hK : K σ) (hr : r ∈ RwL) (hg : AGR σ r g) (rx : -2147483648 ≤ x ∧ x ≤ 2147483647) (ry : -2147483648 ≤ y ∧ y ≤ 2147483647) (ru : -2147483648 ≤ u ∧ u ≤ 2147483647) (pre0 : -1000000 ≤ x) (pre1 : x ≤ 1000000) : T ξ (d + 1) j_R_hasMark 0 (lv_args 0 [.ref r, J x, J y, J u]) [] σ (fun v σ' => ∃ z : Int, v = some (J z) ∧ σ' = σ ∧ 0 ≤ z ∧ z ≤ 1 ∧ (0 ≤ x → x + 3 < rl σ r → z = STn g x y u)) := by
  obtain ⟨mx1, nx1, bx1, lx1, hrx1, hbx1, fx1a, fx1b, fx1c, fx1d, fx1e, fx1g, fx1h, fx1i⟩ := hK.row hr
  have ctx1 := CT_of hrx1 hbx1
  have rwx1 := rl_of hrx1 (by omega)
  subst rwx1
  refine T.go 2 (fun n9 => (rfl : _ = exe ξ n9 (d + 1) j_R_hasMark 2 [(0, .ref r), (1, J x), (2, J y), (3, J u)] [J x, .ref r] σ)) ?_
  refine T.callv (as := [J x]) (r := []) rfl rfl rfl (RwL_lt _ hr).2.2.1 hrx1 rfl (s_R_fat d g r x σ hK hr hg (by omega)) (fun v1 s1 hqs1 => ?_)
  obtain ⟨z1, rfl, esz1, hzz1, hyz1, pz1_0, pz1_1⟩ := hqs1
  rw [esz1]
  refine T.go 1 (fun n9 => (rfl : _ = exe ξ n9 (d + 1) j_R_hasMark 7 [(0, .ref r), (1, J x), (2, J y), (3, J u)] [J 80, J z1] σ)) ?_
  refine T.icmp_ne rfl rfl (by omega) (by omega) (fun c1 => ?_) (fun c1 => ?_)
  · refine T.go 1 (fun n9 => (rfl : _ = exe ξ n9 (d + 1) j_R_hasMark 49 [(0, .ref r), (1, J x), (2, J y), (3, J u)] [J 0] σ)) ?_
    exact T.iretz rfl rfl (by omega) ⟨_, rfl, rfl, by omega, by omega, (fun h1 h2 => by unfold STn; first | (rw [if_pos (by omega)]) | (rw [if_neg (by omega)]))⟩
  · refine T.go 3 (fun n9 => (rfl : _ = exe ξ n9 (d + 1) j_R_hasMark 13 [(0, .ref r), (1, J x), (2, J y), (3, J u)] [J 1, J x, .ref r] σ)) ?_
    refine T.iadd rfl ?_
    refine T.callv (as := [J (x + 1)]) (r := []) rfl rfl rfl (RwL_lt _ hr).2.2.1 hrx1 rfl (s_R_fat d g r (x + 1) σ hK hr hg (by omega)) (fun v2 s2 hqs2 => ?_)
    obtain ⟨z2, rfl, esz2, hzz2, hyz2, pz2_0, pz2_1⟩ := hqs2
    rw [esz2]
    refine T.go 1 (fun n9 => (rfl : _ = exe ξ n9 (d + 1) j_R_hasMark 19 [(0, .ref r), (1, J x), (2, J y), (3, J u)] [J 75, J z2] σ)) ?_
    refine T.icmp_ne rfl rfl (by omega) (by omega) (fun c2 => ?_) (fun c2 => ?_)
    · refine T.go 1 (fun n9 => (rfl : _ = exe ξ n9 (d + 1) j_R_hasMark 49 [(0, .ref r), (1, J x), (2, J y), (3, J u)] [J 0] σ)) ?_
      exact T.iretz rfl rfl (by omega) ⟨_, rfl, rfl, by omega, by omega, (fun h1 h2 => by unfold STn; first | (rw [if_pos (by omega)]) | (rw [if_neg (by omega)]))⟩
    · refine T.go 3 (fun n9 => (rfl : _ = exe ξ n9 (d + 1) j_R_hasMark 25 [(0, .ref r), (1, J x), (2, J y), (3, J u)] [J 2, J x, .ref r] σ)) ?_
      refine T.iadd rfl ?_
      refine T.callv (as := [J (x + 2)]) (r := []) rfl rfl rfl (RwL_lt _ hr).2.2.1 hrx1 rfl (s_R_fat d g r (x + 2) σ hK hr hg (by omega)) (fun v3 s3 hqs3 => ?_)
      obtain ⟨z3, rfl, esz3, hzz3, hyz3, pz3_0, pz3_1⟩ := hqs3
      rw [esz3]
      refine T.go 1 (fun n9 => (rfl : _ = exe ξ n9 (d + 1) j_R_hasMark 30 [(0, .ref r), (1, J x), (2, J y), (3, J u)] [J y, J z3] σ)) ?_
      refine T.icmp_ne rfl rfl (by omega) (by omega) (fun c3 => ?_) (fun c3 => ?_)
      · refine T.go 1 (fun n9 => (rfl : _ = exe ξ n9 (d + 1) j_R_hasMark 49 [(0, .ref r), (1, J x), (2, J y), (3, J u)] [J 0] σ)) ?_
        exact T.iretz rfl rfl (by omega) ⟨_, rfl, rfl, by omega, by omega, (fun h1 h2 => by unfold STn; first | (rw [if_pos (by omega)]) | (rw [if_neg (by omega)]))⟩
      · refine T.go 3 (fun n9 => (rfl : _ = exe ξ n9 (d + 1) j_R_hasMark 36 [(0, .ref r), (1, J x), (2, J y), (3, J u)] [J 3, J x, .ref r] σ)) ?_
        refine T.iadd rfl ?_
        refine T.callv (as := [J (x + 3)]) (r := []) rfl rfl rfl (RwL_lt _ hr).2.2.1 hrx1 rfl (s_R_fat d g r (x + 3) σ hK hr hg (by omega)) (fun v4 s4 hqs4 => ?_)
        obtain ⟨z4, rfl, esz4, hzz4, hyz4, pz4_0, pz4_1⟩ := hqs4
        rw [esz4]
        refine T.go 1 (fun n9 => (rfl : _ = exe ξ n9 (d + 1) j_R_hasMark 41 [(0, .ref r), (1, J x), (2, J y), (3, J u)] [J u, J z4] σ)) ?_
        refine T.icmp_ne rfl rfl (by omega) (by omega) (fun c4 => ?_) (fun c4 => ?_)
        · refine T.go 1 (fun n9 => (rfl : _ = exe ξ n9 (d + 1) j_R_hasMark 49 [(0, .ref r), (1, J x), (2, J y), (3, J u)] [J 0] σ)) ?_
          exact T.iretz rfl rfl (by omega) ⟨_, rfl, rfl, by omega, by omega, (fun h1 h2 => by unfold STn; first | (rw [if_pos (by omega)]) | (rw [if_neg (by omega)]))⟩
        · refine T.go 2 (fun n9 => (rfl : _ = exe ξ n9 (d + 1) j_R_hasMark 49 [(0, .ref r), (1, J x), (2, J y), (3, J u)] [J 1] σ)) ?_
          exact T.iretz rfl rfl (by omega) ⟨_, rfl, rfl, by omega, by omega, (fun h1 h2 => by unfold STn; first | (rw [if_pos (by omega)]) | (rw [if_neg (by omega)]))⟩

set_option maxRecDepth 10000 in
set_option maxHeartbeats 4000000 in
theorem s_R_fhasPart {ξ : Nat → Option (Nat × List Int32)} (d : Nat) (g h : Int → Int) (r : Nat) (x : Int) (o : Nat) (y : Int) (n : Int) (σ : qH) (hK : K σ) (hr : r ∈ RwL) (ho : o ∈ RwL) (hg : AGR σ r g) (hh : AGR σ o h) (rx : -2147483648 ≤ x ∧ x ≤ 2147483647) (ry : -2147483648 ≤ y ∧ y ≤ 2147483647) (rn : -2147483648 ≤ n ∧ n ≤ 2147483647) (pre0 : -1000000 ≤ x) (pre1 : x ≤ 1000000) (pre2 : -1000000 ≤ y) (pre3 : y ≤ 1000000) (pre4 : -1000000 ≤ n) (pre5 : n ≤ 1000000) : T ξ d j_R_hasPart 0 (lv_args 0 [.ref r, J x, .ref o, J y, J n]) [] σ (fun v σ' => ∃ z : Int, v = some (J z) ∧ σ' = σ ∧ 0 ≤ z ∧ z ≤ 1 ∧ (0 ≤ x → 0 ≤ y → 0 ≤ n → x + n ≤ rl σ r → y + n ≤ rl σ o → z = EQ2 g h x y n.toNat)) := by
  obtain ⟨mx1, nx1, bx1, lx1, hrx1, hbx1, fx1a, fx1b, fx1c, fx1d, fx1e, fx1g, fx1h, fx1i⟩ := hK.row hr
  have ctx1 := CT_of hrx1 hbx1
  have rwx1 := rl_of hrx1 (by omega)
  subst rwx1
  obtain ⟨mx2, nx2, bx2, lx2, hrx2, hbx2, fx2a, fx2b, fx2c, fx2d, fx2e, fx2g, fx2h, fx2i⟩ := hK.row ho
  have ctx2 := CT_of hrx2 hbx2
  have rwx2 := rl_of hrx2 (by omega)
  subst rwx2
  have loop35 : ∀ (f : Nat) (i : Int), 0 ≤ i → i ≤ 8000 → 0 ≤ x → 0 ≤ y → x ≤ rl σ r - n → y ≤ rl σ o - n → EQ2 g h x y i.toNat = 1 → (i ≤ n ∨ i = 0) → (n - i).toNat < f → T ξ d j_R_hasPart 35 [(0, .ref r), (1, J x), (2, .ref o), (3, J y), (4, J n), (5, J i)] [] σ (fun v σ' => ∃ z : Int, v = some (J z) ∧ σ' = σ ∧ 0 ≤ z ∧ z ≤ 1 ∧ (0 ≤ x → 0 ≤ y → 0 ≤ n → x + n ≤ rl σ r → y + n ≤ rl σ o → z = EQ2 g h x y n.toNat)) := by
    intro f
    induction f with
    | zero => intro i i0 i1 i2 i3 i4 i5 i6 i7 hm; omega
    | succ f ih =>
      intro i i0 i1 i2 i3 i4 i5 i6 i7 hm
      refine T.go 2 (fun n9 => (rfl : _ = exe ξ n9 d j_R_hasPart 39 [(0, .ref r), (1, J x), (2, .ref o), (3, J y), (4, J n), (5, J i)] [J n, J i] σ)) ?_
      refine T.icmp_ge rfl rfl (by omega) (by omega) (fun c1 => ?_) (fun c1 => ?_)
      · refine T.go 1 (fun n9 => (rfl : _ = exe ξ n9 d j_R_hasPart 72 [(0, .ref r), (1, J x), (2, .ref o), (3, J y), (4, J n), (5, J i)] [J 1] σ)) ?_
        exact T.iretz rfl rfl (by omega) ⟨_, rfl, rfl, by omega, by omega, (fun h1 h2 h3 h4 h5 => by first | (rw [show n.toNat = i.toNat by omega]; omega) | exact (EQ2_no (m := (i + 1).toNat) (by rw [EQ2_step (by omega), if_neg (by omega)]) (by omega)).symm | omega)⟩
      · refine T.go 1 (fun n9 => (rfl : _ = exe ξ n9 d j_R_hasPart 43 [(0, .ref r), (1, J x), (2, .ref o), (3, J y), (4, J n), (5, J i)] [.ref r] σ)) ?_
        refine T.get rfl rfl rfl hrx1 rfl ?_
        refine T.go 2 (fun n9 => (rfl : _ = exe ξ n9 d j_R_hasPart 49 [(0, .ref r), (1, J x), (2, .ref o), (3, J y), (4, J n), (5, J i)] [J i, J x, .ref bx1] σ)) ?_
        refine T.iadd rfl ?_
        refine T.bald rfl (blt_f fx1e) hbx1 (by omega) (fun z1 hzz1 hyz1 hez1 => ?_)
        have rbz1 := rb_of (x := x + i) ctx1 hez1 ⟨hzz1, hyz1⟩
        have qbz1 := qb_at fx1g hez1 ⟨hzz1, hyz1⟩
        have ggz1 := hg (x + i) (by omega) (by omega)
        refine T.go 1 (fun n9 => (rfl : _ = exe ξ n9 d j_R_hasPart 52 [(0, .ref r), (1, J x), (2, .ref o), (3, J y), (4, J n), (5, J i)] [.ref o, J z1] σ)) ?_
        refine T.get rfl rfl rfl hrx2 rfl ?_
        refine T.go 2 (fun n9 => (rfl : _ = exe ξ n9 d j_R_hasPart 58 [(0, .ref r), (1, J x), (2, .ref o), (3, J y), (4, J n), (5, J i)] [J i, J y, .ref bx2, J z1] σ)) ?_
        refine T.iadd rfl ?_
        refine T.bald rfl (blt_f fx2e) hbx2 (by omega) (fun z2 hzz2 hyz2 hez2 => ?_)
        have rbz2 := rb_of (x := y + i) ctx2 hez2 ⟨hzz2, hyz2⟩
        have qbz2 := qb_at fx2g hez2 ⟨hzz2, hyz2⟩
        have ggz2 := hh (y + i) (by omega) (by omega)
        refine T.icmp_eq rfl rfl (by omega) (by omega) (fun c2 => ?_) (fun c2 => ?_)
        · refine T.iinc (lv' := [(0, .ref r), (1, J x), (2, .ref o), (3, J y), (4, J n), (5, J (i + 1))]) rfl rfl rfl rfl ?_
          refine T.go 1 (fun n9 => (rfl : _ = exe ξ n9 d j_R_hasPart 35 [(0, .ref r), (1, J x), (2, .ref o), (3, J y), (4, J n), (5, J (i + 1))] [] σ)) ?_
          exact ih  (i + 1) (by omega) (by omega) (by omega) (by omega) (by omega) (by omega) (by rw [EQ2_step (by omega), if_pos ⟨by omega, by omega⟩]) (by omega) (by omega)
        · refine T.go 1 (fun n9 => (rfl : _ = exe ξ n9 d j_R_hasPart 64 [(0, .ref r), (1, J x), (2, .ref o), (3, J y), (4, J n), (5, J i)] [J 0] σ)) ?_
          exact T.iretz rfl rfl (by omega) ⟨_, rfl, rfl, by omega, by omega, (fun h1 h2 h3 h4 h5 => by first | (rw [show n.toNat = i.toNat by omega]; omega) | exact (EQ2_no (m := (i + 1).toNat) (by rw [EQ2_step (by omega), if_neg (by omega)]) (by omega)).symm | omega)⟩
  refine T.go 1 (fun n9 => (rfl : _ = exe ξ n9 d j_R_hasPart 1 [(0, .ref r), (1, J x), (2, .ref o), (3, J y), (4, J n)] [J x] σ)) ?_
  refine T.if_lt rfl rfl (by omega) (fun c3 => ?_) (fun c3 => ?_)
  · refine T.go 1 (fun n9 => (rfl : _ = exe ξ n9 d j_R_hasPart 31 [(0, .ref r), (1, J x), (2, .ref o), (3, J y), (4, J n)] [J 0] σ)) ?_
    exact T.iretz rfl rfl (by omega) ⟨_, rfl, rfl, by omega, by omega, (fun h1 h2 h3 h4 h5 => by first | (rw [show n.toNat = i.toNat by omega]; omega) | exact (EQ2_no (m := (i + 1).toNat) (by rw [EQ2_step (by omega), if_neg (by omega)]) (by omega)).symm | omega)⟩
  · refine T.go 1 (fun n9 => (rfl : _ = exe ξ n9 d j_R_hasPart 5 [(0, .ref r), (1, J x), (2, .ref o), (3, J y), (4, J n)] [J y] σ)) ?_
    refine T.if_lt rfl rfl (by omega) (fun c4 => ?_) (fun c4 => ?_)
    · refine T.go 1 (fun n9 => (rfl : _ = exe ξ n9 d j_R_hasPart 31 [(0, .ref r), (1, J x), (2, .ref o), (3, J y), (4, J n)] [J 0] σ)) ?_
      exact T.iretz rfl rfl (by omega) ⟨_, rfl, rfl, by omega, by omega, (fun h1 h2 h3 h4 h5 => by first | (rw [show n.toNat = i.toNat by omega]; omega) | exact (EQ2_no (m := (i + 1).toNat) (by rw [EQ2_step (by omega), if_neg (by omega)]) (by omega)).symm | omega)⟩
    · refine T.go 2 (fun n9 => (rfl : _ = exe ξ n9 d j_R_hasPart 10 [(0, .ref r), (1, J x), (2, .ref o), (3, J y), (4, J n)] [.ref r, J x] σ)) ?_
      refine T.get rfl rfl rfl hrx1 rfl ?_
      refine T.go 1 (fun n9 => (rfl : _ = exe ξ n9 d j_R_hasPart 15 [(0, .ref r), (1, J x), (2, .ref o), (3, J y), (4, J n)] [J n, J (rl σ r), J x] σ)) ?_
      refine T.isub rfl ?_
      refine T.icmp_gt rfl rfl (by omega) (by omega) (fun c5 => ?_) (fun c5 => ?_)
      · refine T.go 1 (fun n9 => (rfl : _ = exe ξ n9 d j_R_hasPart 31 [(0, .ref r), (1, J x), (2, .ref o), (3, J y), (4, J n)] [J 0] σ)) ?_
        exact T.iretz rfl rfl (by omega) ⟨_, rfl, rfl, by omega, by omega, (fun h1 h2 h3 h4 h5 => by first | (rw [show n.toNat = i.toNat by omega]; omega) | exact (EQ2_no (m := (i + 1).toNat) (by rw [EQ2_step (by omega), if_neg (by omega)]) (by omega)).symm | omega)⟩
      · refine T.go 2 (fun n9 => (rfl : _ = exe ξ n9 d j_R_hasPart 21 [(0, .ref r), (1, J x), (2, .ref o), (3, J y), (4, J n)] [.ref o, J y] σ)) ?_
        refine T.get rfl rfl rfl hrx2 rfl ?_
        refine T.go 1 (fun n9 => (rfl : _ = exe ξ n9 d j_R_hasPart 26 [(0, .ref r), (1, J x), (2, .ref o), (3, J y), (4, J n)] [J n, J (rl σ o), J y] σ)) ?_
        refine T.isub rfl ?_
        refine T.icmp_le rfl rfl (by omega) (by omega) (fun c6 => ?_) (fun c6 => ?_)
        · refine T.go 2 (fun n9 => (rfl : _ = exe ξ n9 d j_R_hasPart 35 [(0, .ref r), (1, J x), (2, .ref o), (3, J y), (4, J n), (5, J 0)] [] σ)) ?_
          exact loop35 _ 0 (by omega) (by omega) (by omega) (by omega) (by omega) (by omega) rfl (by omega) (Nat.lt_succ_self _)
        · refine T.go 1 (fun n9 => (rfl : _ = exe ξ n9 d j_R_hasPart 31 [(0, .ref r), (1, J x), (2, .ref o), (3, J y), (4, J n)] [J 0] σ)) ?_
          exact T.iretz rfl rfl (by omega) ⟨_, rfl, rfl, by omega, by omega, (fun h1 h2 h3 h4 h5 => by first | (rw [show n.toNat = i.toNat by omega]; omega) | exact (EQ2_no (m := (i + 1).toNat) (by rw [EQ2_step (by omega), if_neg (by omega)]) (by omega)).symm | omega)⟩

set_option maxRecDepth 10000 in
set_option maxHeartbeats 4000000 in
theorem s_R_fadd {ξ : Nat → Option (Nat × List Int32)} (d : Nat) (r : Nat) (x : Int) (σ : qH) (hK : K σ) (hr : r ∈ RwL) (rx : -2147483648 ≤ x ∧ x ≤ 2147483647) : T ξ d j_R_add 0 (lv_args 0 [.ref r, J x]) [] σ (fun v σ' => ∃ z : Int, v = some (J z) ∧ Fr [r] σ σ' ∧ 0 ≤ z ∧ z ≤ 1 ∧ FrR r σ σ' ∧ (rl σ r < mst r → z = 1 ∧ rl σ' r = rl σ r + 1) ∧ (∀ g : Int → Int, AGR σ r g → rl σ r < mst r → AGR σ' r (updG g (rl σ r) (x % 256)))) := by
  obtain ⟨mx1, nx1, bx1, lx1, hrx1, hbx1, fx1a, fx1b, fx1c, fx1d, fx1e, fx1g, fx1h, fx1i⟩ := hK.row hr
  have ctx1 := CT_of hrx1 hbx1
  have rwx1 := rl_of hrx1 (by omega)
  subst rwx1
  refine T.go 1 (fun n9 => (rfl : _ = exe ξ n9 d j_R_add 1 [(0, .ref r), (1, J x)] [.ref r] σ)) ?_
  refine T.get rfl rfl rfl hrx1 rfl ?_
  refine T.go 1 (fun n9 => (rfl : _ = exe ξ n9 d j_R_add 5 [(0, .ref r), (1, J x)] [.ref r, J (rl σ r)] σ)) ?_
  refine T.get rfl rfl rfl hrx1 rfl ?_
  refine T.icmp_lt rfl rfl (by omega) (by omega) (fun c1 => ?_) (fun c1 => ?_)
  · refine T.go 1 (fun n9 => (rfl : _ = exe ξ n9 d j_R_add 14 [(0, .ref r), (1, J x)] [.ref r] σ)) ?_
    refine T.get rfl rfl rfl hrx1 rfl ?_
    refine T.ilen rfl (blt_f fx1e) hbx1 ?_
    refine T.go 1 (fun n9 => (rfl : _ = exe ξ n9 d j_R_add 19 [(0, .ref r), (1, J x)] [.ref r, J ((lx1.length : Int))] σ)) ?_
    refine T.get rfl rfl rfl hrx1 rfl ?_
    refine T.icmp_ge rfl rfl (by omega) (by omega) (fun c2 => ?_) (fun c2 => ?_)
    · refine T.go 1 (fun n9 => (rfl : _ = exe ξ n9 d j_R_add 36 [(0, .ref r), (1, J x)] [.ref r] σ)) ?_
      refine T.get rfl rfl rfl hrx1 rfl ?_
      refine T.go 1 (fun n9 => (rfl : _ = exe ξ n9 d j_R_add 40 [(0, .ref r), (1, J x)] [.ref r, .ref bx1] σ)) ?_
      refine T.get rfl rfl rfl hrx1 rfl ?_
      refine T.go 1 (fun n9 => (rfl : _ = exe ξ n9 d j_R_add 44 [(0, .ref r), (1, J x)] [J x, J (rl σ r), .ref bx1] σ)) ?_
      refine T.some1 rfl rfl (fun z1 hzz1 hyz1 hez1 => ?_)
      have zbz1 := i2b_mod hez1 (by omega) ⟨hzz1, hyz1⟩
      refine T.bastF (w := [r]) rfl hK hr hrx1 (by simp) hbx1 (by omega) (fun s1 ls1 es1 eqs1 hs1 hcs1 hos1 => ?_)
      have qs1 : ls1.all qisb = true := hs1.1.2 _ _ hcs1
      have rs1 : FrR r σ s1 := (FrR.byt hbx1 hos1)
      have k1 := hos1 (q_dif hrx1 hbx1 (fun z => by cases z)) hrx1
      refine T.go 2 (fun n9 => (rfl : _ = exe ξ n9 d j_R_add 48 [(0, .ref r), (1, J x)] [.ref r, .ref r] s1)) ?_
      refine T.get rfl rfl rfl k1 rfl ?_
      refine T.go 1 (fun n9 => (rfl : _ = exe ξ n9 d j_R_add 52 [(0, .ref r), (1, J x)] [J 1, J (rl σ r), .ref r] s1)) ?_
      refine T.iadd rfl ?_
      refine T.putF (w := [r]) rfl rfl k1 rfl rfl rfl (fs' := [J mx1, .ref bx1, J ((rl σ r) + 1)]) rfl (Fr.len hs1.1 hr k1 hcs1 (by omega) (by simp)) (fun s2 hs2 hcs2 hos2 => ?_)
      have gs2 := hs1.trans hs2
      have rs2 := FrR.trans rs1 ((FrR.one hos2) : FrR r s1 s2)
      have k2 := hos2 (q_dif hcs1 k1 (fun z => by cases z)) hcs1
      refine T.go 1 (fun n9 => (rfl : _ = exe ξ n9 d j_R_add 57 [(0, .ref r), (1, J x)] [J 1] s2)) ?_
      have el1 := rl_of hcs2 (by omega)
      have ctN := (CT_of hcs2 k2).trans eqs1
      have rlN := rl_of hcs2 (by omega)
      exact T.iretz rfl rfl (by omega) ⟨_, rfl, gs2, by omega, by omega, rs2, by omega, (fun g hg h => AGR_add ctx1 rfl ctN rlN (by omega) (Or.inl rfl) (by omega) (by omega) hg)⟩
    · refine T.go 2 (fun n9 => (rfl : _ = exe ξ n9 d j_R_add 27 [(0, .ref r), (1, J x)] [.ref r, .ref r] σ)) ?_
      refine T.get rfl rfl rfl hrx1 rfl ?_
      refine T.newB (w := [r]) rfl rfl rfl hK hr hrx1 hbx1 (by omega) (by simp) (fun s3 ls3 es3 rps3 hs3 hcs3 hbs3 hos3 => ?_)
      have rs3 : FrR r σ s3 := (FrR.one hos3)
      have k3 := hos3 (q_dif hbx1 hrx1 (fun z => by cases z)) hbx1
      have ns3 : 16 ≤ σ.length := Nat.le_trans (by decide) hK.len
      have qs3 : ls3.all qisb = true := hs3.1.2 _ _ hbs3
      refine T.go 1 (fun n9 => (rfl : _ = exe ξ n9 d j_R_add 36 [(0, .ref r), (1, J x)] [.ref r] s3)) ?_
      refine T.get rfl rfl rfl hcs3 rfl ?_
      refine T.go 1 (fun n9 => (rfl : _ = exe ξ n9 d j_R_add 40 [(0, .ref r), (1, J x)] [.ref r, .ref (σ.length)] s3)) ?_
      refine T.get rfl rfl rfl hcs3 rfl ?_
      refine T.go 1 (fun n9 => (rfl : _ = exe ξ n9 d j_R_add 44 [(0, .ref r), (1, J x)] [J x, J (rl σ r), .ref (σ.length)] s3)) ?_
      refine T.some1 rfl rfl (fun z2 hzz2 hyz2 hez2 => ?_)
      have zbz2 := i2b_mod hez2 (by omega) ⟨hzz2, hyz2⟩
      refine T.bastF (w := [r]) rfl hs3.1 hr hcs3 (by simp) hbs3 (by omega) (fun s4 ls4 es4 eqs4 hs4 hcs4 hos4 => ?_)
      have qs4 : ls4.all qisb = true := hs4.1.2 _ _ hcs4
      have gs4 := hs3.trans hs4
      have rs4 := FrR.trans rs3 ((FrR.byt hbs3 hos4) : FrR r s3 s4)
      have k4 := hos4 (q_dif hcs3 hbs3 (fun z => by cases z)) hcs3
      refine T.go 2 (fun n9 => (rfl : _ = exe ξ n9 d j_R_add 48 [(0, .ref r), (1, J x)] [.ref r, .ref r] s4)) ?_
      refine T.get rfl rfl rfl k4 rfl ?_
      refine T.go 1 (fun n9 => (rfl : _ = exe ξ n9 d j_R_add 52 [(0, .ref r), (1, J x)] [J 1, J (rl σ r), .ref r] s4)) ?_
      refine T.iadd rfl ?_
      refine T.putF (w := [r]) rfl rfl k4 rfl rfl rfl (fs' := [J mx1, .ref (σ.length), J ((rl σ r) + 1)]) rfl (Fr.len hs4.1 hr k4 hcs4 (by omega) (by simp)) (fun s5 hs5 hcs5 hos5 => ?_)
      have gs5 := gs4.trans hs5
      have rs5 := FrR.trans rs4 ((FrR.one hos5) : FrR r s4 s5)
      have k5 := hos5 (q_dif hcs4 k4 (fun z => by cases z)) hcs4
      refine T.go 1 (fun n9 => (rfl : _ = exe ξ n9 d j_R_add 57 [(0, .ref r), (1, J x)] [J 1] s5)) ?_
      have el2 := rl_of hcs5 (by omega)
      have ctN := (CT_of hcs5 k5).trans eqs4
      have rlN := rl_of hcs5 (by omega)
      exact T.iretz rfl rfl (by omega) ⟨_, rfl, gs5, by omega, by omega, rs5, by omega, (fun g hg h => AGR_add ctx1 rfl ctN rlN (by omega) (Or.inr (by omega)) (by omega) (by omega) hg)⟩
  · refine T.go 1 (fun n9 => (rfl : _ = exe ξ n9 d j_R_add 12 [(0, .ref r), (1, J x)] [J 0] σ)) ?_
    have el3 := rl_of hrx1 (by omega)
    exact T.iretz rfl rfl (by omega) ⟨_, rfl, (Fr.refl hK), by omega, by omega, FrR.refl, by omega, (fun g hg h => absurd h (by omega))⟩
