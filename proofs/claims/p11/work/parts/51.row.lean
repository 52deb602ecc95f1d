/-! class Row, whatever is asked of it. -/
set_option maxRecDepth 10000 in
set_option maxHeartbeats 4000000 in
theorem s_R_at {ξ : Nat → Option (Nat × List Int32)} (d : Nat) (r : Nat) (x : Int) (σ : qH) (hK : K σ) (hr : r ∈ RwL) (rx : -2147483648 ≤ x ∧ x ≤ 2147483647) : T ξ d j_R_at 0 (lv_args 0 [.ref r, J x]) [] σ (fun v σ' => ∃ z : Int, v = some (J z) ∧ σ' = σ ∧ -1 ≤ z ∧ z ≤ 255) := by
  refine T.go 1 (fun n9 => (rfl : _ = exe ξ n9 d j_R_at 1 [(0, .ref r), (1, J x)] [J x] σ)) ?_
  refine T.if_lt rfl rfl (by omega) (fun c1 => ?_) (fun c1 => ?_)
  · refine T.go 1 (fun n9 => (rfl : _ = exe ξ n9 d j_R_at 26 [(0, .ref r), (1, J x)] [J (-1)] σ)) ?_
    exact T.ireti rfl rfl ⟨_, rfl, rfl, by omega, by omega⟩
  · refine T.go 2 (fun n9 => (rfl : _ = exe ξ n9 d j_R_at 6 [(0, .ref r), (1, J x)] [.ref r, J x] σ)) ?_
    obtain ⟨mx1, nx1, bx1, lx1, hrx1, hbx1, fx1a, fx1b, fx1c, fx1d, fx1e, fx1g, fx1h, fx1i⟩ := hK.row hr
    refine T.get rfl rfl rfl hrx1 rfl ?_
    refine T.icmp_ge rfl rfl (by omega) (by omega) (fun c2 => ?_) (fun c2 => ?_)
    · refine T.go 1 (fun n9 => (rfl : _ = exe ξ n9 d j_R_at 26 [(0, .ref r), (1, J x)] [J (-1)] σ)) ?_
      exact T.ireti rfl rfl ⟨_, rfl, rfl, by omega, by omega⟩
    · refine T.go 1 (fun n9 => (rfl : _ = exe ξ n9 d j_R_at 13 [(0, .ref r), (1, J x)] [.ref r] σ)) ?_
      refine T.get rfl rfl rfl hrx1 rfl ?_
      refine T.go 1 (fun n9 => (rfl : _ = exe ξ n9 d j_R_at 17 [(0, .ref r), (1, J x)] [J x, .ref bx1] σ)) ?_
      refine T.bald rfl (blt_f fx1e) hbx1 (by omega) (fun z1 hzz1 hyz1 hez1 => ?_)
      refine T.go 1 (fun n9 => (rfl : _ = exe ξ n9 d j_R_at 21 [(0, .ref r), (1, J x)] [J 255, J z1] σ)) ?_
      refine T.iandm (p := 256) 8 rfl (by decide) (by decide) (by decide) (by omega) ?_
      refine T.go 1 (fun n9 => (rfl : _ = exe ξ n9 d j_R_at 26 [(0, .ref r), (1, J x)] [J (z1 % 256)] σ)) ?_
      exact T.ireti rfl rfl ⟨_, rfl, rfl, by omega, by omega⟩

set_option maxRecDepth 10000 in
set_option maxHeartbeats 4000000 in
theorem s_R_two {ξ : Nat → Option (Nat × List Int32)} (d : Nat) (r : Nat) (x : Int) (σ : qH) (hK : K σ) (hr : r ∈ RwL) (rx : -2147483648 ≤ x ∧ x ≤ 2147483647) : T ξ d j_R_two 0 (lv_args 0 [.ref r, J x]) [] σ (fun v σ' => ∃ z : Int, v = some (J z) ∧ σ' = σ ∧ -1 ≤ z ∧ z ≤ 65535) := by
  refine T.go 1 (fun n9 => (rfl : _ = exe ξ n9 d j_R_two 1 [(0, .ref r), (1, J x)] [J x] σ)) ?_
  refine T.if_lt rfl rfl (by omega) (fun c1 => ?_) (fun c1 => ?_)
  · refine T.go 1 (fun n9 => (rfl : _ = exe ξ n9 d j_R_two 44 [(0, .ref r), (1, J x)] [J (-1)] σ)) ?_
    exact T.ireti rfl rfl ⟨_, rfl, rfl, by omega, by omega⟩
  · refine T.go 2 (fun n9 => (rfl : _ = exe ξ n9 d j_R_two 6 [(0, .ref r), (1, J x)] [.ref r, J x] σ)) ?_
    obtain ⟨mx1, nx1, bx1, lx1, hrx1, hbx1, fx1a, fx1b, fx1c, fx1d, fx1e, fx1g, fx1h, fx1i⟩ := hK.row hr
    refine T.get rfl rfl rfl hrx1 rfl ?_
    refine T.go 1 (fun n9 => (rfl : _ = exe ξ n9 d j_R_two 10 [(0, .ref r), (1, J x)] [J 1, J nx1, J x] σ)) ?_
    refine T.isub rfl ?_
    refine T.icmp_ge rfl rfl (by omega) (by omega) (fun c2 => ?_) (fun c2 => ?_)
    · refine T.go 1 (fun n9 => (rfl : _ = exe ξ n9 d j_R_two 44 [(0, .ref r), (1, J x)] [J (-1)] σ)) ?_
      exact T.ireti rfl rfl ⟨_, rfl, rfl, by omega, by omega⟩
    · refine T.go 1 (fun n9 => (rfl : _ = exe ξ n9 d j_R_two 15 [(0, .ref r), (1, J x)] [.ref r] σ)) ?_
      refine T.get rfl rfl rfl hrx1 rfl ?_
      refine T.go 1 (fun n9 => (rfl : _ = exe ξ n9 d j_R_two 19 [(0, .ref r), (1, J x)] [J x, .ref bx1] σ)) ?_
      refine T.bald rfl (blt_f fx1e) hbx1 (by omega) (fun z1 hzz1 hyz1 hez1 => ?_)
      refine T.go 1 (fun n9 => (rfl : _ = exe ξ n9 d j_R_two 23 [(0, .ref r), (1, J x)] [J 255, J z1] σ)) ?_
      refine T.iandm (p := 256) 8 rfl (by decide) (by decide) (by decide) (by omega) ?_
      refine T.go 1 (fun n9 => (rfl : _ = exe ξ n9 d j_R_two 25 [(0, .ref r), (1, J x)] [.ref r, J (z1 % 256)] σ)) ?_
      refine T.get rfl rfl rfl hrx1 rfl ?_
      refine T.go 2 (fun n9 => (rfl : _ = exe ξ n9 d j_R_two 30 [(0, .ref r), (1, J x)] [J 1, J x, .ref bx1, J (z1 % 256)] σ)) ?_
      refine T.iadd rfl ?_
      refine T.bald rfl (blt_f fx1e) hbx1 (by omega) (fun z3 hzz3 hyz3 hez3 => ?_)
      refine T.go 1 (fun n9 => (rfl : _ = exe ξ n9 d j_R_two 35 [(0, .ref r), (1, J x)] [J 255, J z3, J (z1 % 256)] σ)) ?_
      refine T.iandm (p := 256) 8 rfl (by decide) (by decide) (by decide) (by omega) ?_
      refine T.go 1 (fun n9 => (rfl : _ = exe ξ n9 d j_R_two 38 [(0, .ref r), (1, J x)] [J 8, J (z3 % 256), J (z1 % 256)] σ)) ?_
      refine T.ishl (p := 256) 8 rfl (by decide) (by decide) (by omega) (by omega) ?_
      refine T.iorm (p := 256) 8 (z3 % 256) rfl (by decide) (by decide) (by omega) rfl ?_
      refine T.go 1 (fun n9 => (rfl : _ = exe ξ n9 d j_R_two 44 [(0, .ref r), (1, J x)] [J ((z1 % 256) + ((z3 % 256) * 256))] σ)) ?_
      exact T.ireti rfl rfl ⟨_, rfl, rfl, by omega, by omega⟩

set_option maxRecDepth 10000 in
set_option maxHeartbeats 4000000 in
theorem s_R_four {ξ : Nat → Option (Nat × List Int32)} (d : Nat) (r : Nat) (x : Int) (σ : qH) (hK : K σ) (hr : r ∈ RwL) (rx : -2147483648 ≤ x ∧ x ≤ 2147483647) : T ξ (d + 1) j_R_four 0 (lv_args 0 [.ref r, J x]) [] σ (fun v σ' => ∃ z : Int, v = some (JL z) ∧ σ' = σ ∧ -65536 ≤ z ∧ z ≤ 4294967295) := by
  refine T.go 2 (fun n9 => (rfl : _ = exe ξ n9 (d + 1) j_R_four 2 [(0, .ref r), (1, J x)] [J x, .ref r] σ)) ?_
  obtain ⟨mx1, nx1, bx1, lx1, hrx1, hbx1, fx1a, fx1b, fx1c, fx1d, fx1e, fx1g, fx1h, fx1i⟩ := hK.row hr
  refine T.callv (as := [J x]) (r := []) rfl rfl rfl (RwL_lt _ hr).2.2.1 hrx1 rfl (s_R_two d r x σ hK hr  (by omega)) (fun v1 s1 hqs1 => ?_)
  obtain ⟨z1, rfl, esz1, hzz1, hyz1⟩ := hqs1
  rw [esz1]
  refine T.i2l rfl (by omega) ?_
  refine T.go 3 (fun n9 => (rfl : _ = exe ξ n9 (d + 1) j_R_four 9 [(0, .ref r), (1, J x)] [J 2, J x, .ref r, JL z1] σ)) ?_
  refine T.iadd rfl ?_
  refine T.norm (fun z2 hzz2 hyz2 hwz2 => ?_)
  refine T.callv (as := [J z2]) (r := [JL z1]) rfl rfl rfl (RwL_lt _ hr).2.2.1 hrx1 rfl (s_R_two d r z2 σ hK hr  (by omega)) (fun v2 s2 hqs2 => ?_)
  obtain ⟨z3, rfl, esz3, hzz3, hyz3⟩ := hqs2
  rw [esz3]
  refine T.i2l rfl (by omega) ?_
  refine T.go 1 (fun n9 => (rfl : _ = exe ξ n9 (d + 1) j_R_four 16 [(0, .ref r), (1, J x)] [J 16, JL z3, JL z1] σ)) ?_
  refine T.lshl (p := 65536) 16 rfl (by decide) (by decide) (by omega) (by omega) ?_
  by_cases c1 : z1 = -1
  · refine T.lorn rfl c1 ?_
    exact T.lret rfl rfl ⟨_, rfl, rfl, by omega, by omega⟩
  · refine T.lorm (p := 65536) 16 z3 rfl (by decide) (by decide) (by omega) rfl ?_
    exact T.lret rfl rfl ⟨_, rfl, rfl, by omega, by omega⟩

set_option maxRecDepth 10000 in
set_option maxHeartbeats 4000000 in
theorem s_R_clear {ξ : Nat → Option (Nat × List Int32)} (d : Nat) (r : Nat) (σ : qH) (hK : K σ) (hr : r ∈ RwL)  : T ξ d j_R_clear 0 (lv_args 0 [.ref r]) [] σ (fun v σ' => v = none ∧ Fr [r] σ σ' ∧ FrR r σ σ' ∧ rl σ' r = 0) := by
  obtain ⟨mx1, nx1, bx1, lx1, hrx1, hbx1, fx1a, fx1b, fx1c, fx1d, fx1e, fx1g, fx1h, fx1i⟩ := hK.row hr
  have el0 := rl_of hrx1 (by omega)
  refine T.go 2 (fun n9 => (rfl : _ = exe ξ n9 d j_R_clear 2 [(0, .ref r)] [J 0, .ref r] σ)) ?_
  refine T.putF (w := [r]) rfl rfl hrx1 rfl rfl rfl (fs' := [J mx1, .ref bx1, J 0]) rfl (Fr.len hK hr hrx1 hbx1 (by omega) (by simp)) (fun s1 hs1 hcs1 hos1 => ?_)
  have rs1 : FrR r σ s1 := (FrR.one hos1)
  have k1 := hos1 (q_dif hbx1 hrx1 (fun z => by cases z)) hbx1
  have el1 := rl_of hcs1 (by omega)
  exact T.vret rfl rfl ⟨rfl, hs1, rs1, by omega⟩

set_option maxRecDepth 10000 in
set_option maxHeartbeats 4000000 in
theorem s_R_add {ξ : Nat → Option (Nat × List Int32)} (d : Nat) (r : Nat) (x : Int) (σ : qH) (hK : K σ) (hr : r ∈ RwL) (rx : -2147483648 ≤ x ∧ x ≤ 2147483647) : T ξ d j_R_add 0 (lv_args 0 [.ref r, J x]) [] σ (fun v σ' => ∃ z : Int, v = some (J z) ∧ Fr [r] σ σ' ∧ 0 ≤ z ∧ z ≤ 1 ∧ FrR r σ σ' ∧ (rl σ r < mst r → z = 1 ∧ rl σ' r = rl σ r + 1)) := by
  obtain ⟨mx1, nx1, bx1, lx1, hrx1, hbx1, fx1a, fx1b, fx1c, fx1d, fx1e, fx1g, fx1h, fx1i⟩ := hK.row hr
  have el0 := rl_of hrx1 (by omega)
  refine T.go 1 (fun n9 => (rfl : _ = exe ξ n9 d j_R_add 1 [(0, .ref r), (1, J x)] [.ref r] σ)) ?_
  refine T.get rfl rfl rfl hrx1 rfl ?_
  refine T.go 1 (fun n9 => (rfl : _ = exe ξ n9 d j_R_add 5 [(0, .ref r), (1, J x)] [.ref r, J nx1] σ)) ?_
  refine T.get rfl rfl rfl hrx1 rfl ?_
  refine T.icmp_lt rfl rfl (by omega) (by omega) (fun c1 => ?_) (fun c1 => ?_)
  · refine T.go 1 (fun n9 => (rfl : _ = exe ξ n9 d j_R_add 14 [(0, .ref r), (1, J x)] [.ref r] σ)) ?_
    refine T.get rfl rfl rfl hrx1 rfl ?_
    refine T.ilen rfl (blt_f fx1e) hbx1 ?_
    refine T.go 1 (fun n9 => (rfl : _ = exe ξ n9 d j_R_add 19 [(0, .ref r), (1, J x)] [.ref r, J ((lx1.length : Int))] σ)) ?_
    refine T.get rfl rfl rfl hrx1 rfl ?_
    refine T.icmp_ge rfl rfl (by omega) (by omega) (fun c2 => ?_) (fun c2 => ?_)
    · refine T.go 1 (fun n9 => (rfl : _ = exe ξ n9 d j_R_add 36 [(0, .ref r), (1, J x)] [.ref r] σ)) ?_
      refine T.get rfl rfl rfl hrx1 rfl ?_
      refine T.go 1 (fun n9 => (rfl : _ = exe ξ n9 d j_R_add 40 [(0, .ref r), (1, J x)] [.ref r, .ref bx1] σ)) ?_
      refine T.get rfl rfl rfl hrx1 rfl ?_
      refine T.go 1 (fun n9 => (rfl : _ = exe ξ n9 d j_R_add 44 [(0, .ref r), (1, J x)] [J x, J nx1, .ref bx1] σ)) ?_
      refine T.some1 rfl rfl (fun z1 hzz1 hyz1 _ => ?_)
      refine T.bastF (w := [r]) rfl hK hr hrx1 (by simp) hbx1 (by omega) (fun s1 ls1 es1 eqs1 hs1 hcs1 hos1 => ?_)
      have qs1 : ls1.all qisb = true := hs1.1.2 _ _ hcs1
      have rs1 : FrR r σ s1 := (FrR.byt hbx1 hos1)
      have k1 := hos1 (q_dif hrx1 hbx1 (fun z => by cases z)) hrx1
      refine T.go 2 (fun n9 => (rfl : _ = exe ξ n9 d j_R_add 48 [(0, .ref r), (1, J x)] [.ref r, .ref r] s1)) ?_
      refine T.get rfl rfl rfl k1 rfl ?_
      refine T.go 1 (fun n9 => (rfl : _ = exe ξ n9 d j_R_add 52 [(0, .ref r), (1, J x)] [J 1, J nx1, .ref r] s1)) ?_
      refine T.iadd rfl ?_
      refine T.putF (w := [r]) rfl rfl k1 rfl rfl rfl (fs' := [J mx1, .ref bx1, J (nx1 + 1)]) rfl (Fr.len hs1.1 hr k1 hcs1 (by omega) (by simp)) (fun s2 hs2 hcs2 hos2 => ?_)
      have gs2 := hs1.trans hs2
      have rs2 := FrR.trans rs1 ((FrR.one hos2) : FrR r s1 s2)
      have k2 := hos2 (q_dif hcs1 k1 (fun z => by cases z)) hcs1
      refine T.go 1 (fun n9 => (rfl : _ = exe ξ n9 d j_R_add 57 [(0, .ref r), (1, J x)] [J 1] s2)) ?_
      have el1 := rl_of hcs2 (by omega)
      exact T.iretz rfl rfl (by omega) ⟨_, rfl, gs2, by omega, by omega, rs2, by omega⟩
    · refine T.go 2 (fun n9 => (rfl : _ = exe ξ n9 d j_R_add 27 [(0, .ref r), (1, J x)] [.ref r, .ref r] σ)) ?_
      refine T.get rfl rfl rfl hrx1 rfl ?_
      refine T.newB (w := [r]) rfl rfl rfl hK hr hrx1 hbx1 (by omega) (by simp) (fun s3 ls3 es3 rps3 hs3 hcs3 hbs3 hos3 => ?_)
      have rs3 : FrR r σ s3 := (FrR.one hos3)
      have k3 := hos3 (q_dif hbx1 hrx1 (fun z => by cases z)) hbx1
      have ns3 : 16 ≤ σ.length := Nat.le_trans (by decide) hK.len
      have qs3 : ls3.all qisb = true := hs3.1.2 _ _ hbs3
      refine T.go 1 (fun n9 => (rfl : _ = exe ξ n9 d j_R_add 36 [(0, .ref r), (1, J x)] [.ref r] s3)) ?_
      refine T.get rfl rfl rfl hcs3 rfl ?_
      refine T.go 1 (fun n9 => (rfl : _ = exe ξ n9 d j_R_add 40 [(0, .ref r), (1, J x)] [.ref r, .ref (σ.length)] s3)) ?_
      refine T.get rfl rfl rfl hcs3 rfl ?_
      refine T.go 1 (fun n9 => (rfl : _ = exe ξ n9 d j_R_add 44 [(0, .ref r), (1, J x)] [J x, J nx1, .ref (σ.length)] s3)) ?_
      refine T.some1 rfl rfl (fun z2 hzz2 hyz2 _ => ?_)
      refine T.bastF (w := [r]) rfl hs3.1 hr hcs3 (by simp) hbs3 (by omega) (fun s4 ls4 es4 eqs4 hs4 hcs4 hos4 => ?_)
      have qs4 : ls4.all qisb = true := hs4.1.2 _ _ hcs4
      have gs4 := hs3.trans hs4
      have rs4 := FrR.trans rs3 ((FrR.byt hbs3 hos4) : FrR r s3 s4)
      have k4 := hos4 (q_dif hcs3 hbs3 (fun z => by cases z)) hcs3
      refine T.go 2 (fun n9 => (rfl : _ = exe ξ n9 d j_R_add 48 [(0, .ref r), (1, J x)] [.ref r, .ref r] s4)) ?_
      refine T.get rfl rfl rfl k4 rfl ?_
      refine T.go 1 (fun n9 => (rfl : _ = exe ξ n9 d j_R_add 52 [(0, .ref r), (1, J x)] [J 1, J nx1, .ref r] s4)) ?_
      refine T.iadd rfl ?_
      refine T.putF (w := [r]) rfl rfl k4 rfl rfl rfl (fs' := [J mx1, .ref (σ.length), J (nx1 + 1)]) rfl (Fr.len hs4.1 hr k4 hcs4 (by omega) (by simp)) (fun s5 hs5 hcs5 hos5 => ?_)
      have gs5 := gs4.trans hs5
      have rs5 := FrR.trans rs4 ((FrR.one hos5) : FrR r s4 s5)
      have k5 := hos5 (q_dif hcs4 k4 (fun z => by cases z)) hcs4
      refine T.go 1 (fun n9 => (rfl : _ = exe ξ n9 d j_R_add 57 [(0, .ref r), (1, J x)] [J 1] s5)) ?_
      have el2 := rl_of hcs5 (by omega)
      exact T.iretz rfl rfl (by omega) ⟨_, rfl, gs5, by omega, by omega, rs5, by omega⟩
  · refine T.go 1 (fun n9 => (rfl : _ = exe ξ n9 d j_R_add 12 [(0, .ref r), (1, J x)] [J 0] σ)) ?_
    have el3 := rl_of hrx1 (by omega)
    exact T.iretz rfl rfl (by omega) ⟨_, rfl, (Fr.refl hK), by omega, by omega, FrR.refl, by omega⟩

set_option maxRecDepth 10000 in
set_option maxHeartbeats 4000000 in
theorem s_R_hasPart {ξ : Nat → Option (Nat × List Int32)} (d : Nat) (r : Nat) (x : Int) (o : Nat) (y : Int) (n : Int) (σ : qH) (hK : K σ) (hr : r ∈ RwL) (ho : o ∈ RwL) (rx : -2147483648 ≤ x ∧ x ≤ 2147483647) (ry : -2147483648 ≤ y ∧ y ≤ 2147483647) (rn : -2147483648 ≤ n ∧ n ≤ 2147483647) : T ξ d j_R_hasPart 0 (lv_args 0 [.ref r, J x, .ref o, J y, J n]) [] σ (fun v σ' => ∃ z : Int, v = some (J z) ∧ σ' = σ ∧ 0 ≤ z ∧ z ≤ 1) := by
  obtain ⟨mx1, nx1, bx1, lx1, hrx1, hbx1, fx1a, fx1b, fx1c, fx1d, fx1e, fx1g, fx1h, fx1i⟩ := hK.row hr
  obtain ⟨mx2, nx2, bx2, lx2, hrx2, hbx2, fx2a, fx2b, fx2c, fx2d, fx2e, fx2g, fx2h, fx2i⟩ := hK.row ho
  have loop35 : ∀ (f : Nat) (i : Int), 0 ≤ i → i ≤ 8000 → 0 ≤ x → 0 ≤ y → x ≤ nx1 - n → y ≤ nx2 - n → (n - i).toNat < f → T ξ d j_R_hasPart 35 [(0, .ref r), (1, J x), (2, .ref o), (3, J y), (4, J n), (5, J i)] [] σ (fun v σ' => ∃ z : Int, v = some (J z) ∧ σ' = σ ∧ 0 ≤ z ∧ z ≤ 1) := by
    intro f
    induction f with
    | zero => intro i i0 i1 i2 i3 i4 i5 hm; omega
    | succ f ih =>
      intro i i0 i1 i2 i3 i4 i5 hm
      refine T.go 2 (fun n9 => (rfl : _ = exe ξ n9 d j_R_hasPart 39 [(0, .ref r), (1, J x), (2, .ref o), (3, J y), (4, J n), (5, J i)] [J n, J i] σ)) ?_
      refine T.icmp_ge rfl rfl (by omega) (by omega) (fun c1 => ?_) (fun c1 => ?_)
      · refine T.go 1 (fun n9 => (rfl : _ = exe ξ n9 d j_R_hasPart 72 [(0, .ref r), (1, J x), (2, .ref o), (3, J y), (4, J n), (5, J i)] [J 1] σ)) ?_
        exact T.iretz rfl rfl (by omega) ⟨_, rfl, rfl, by omega, by omega⟩
      · refine T.go 1 (fun n9 => (rfl : _ = exe ξ n9 d j_R_hasPart 43 [(0, .ref r), (1, J x), (2, .ref o), (3, J y), (4, J n), (5, J i)] [.ref r] σ)) ?_
        refine T.get rfl rfl rfl hrx1 rfl ?_
        refine T.go 2 (fun n9 => (rfl : _ = exe ξ n9 d j_R_hasPart 49 [(0, .ref r), (1, J x), (2, .ref o), (3, J y), (4, J n), (5, J i)] [J i, J x, .ref bx1] σ)) ?_
        refine T.iadd rfl ?_
        refine T.bald rfl (blt_f fx1e) hbx1 (by omega) (fun z1 hzz1 hyz1 hez1 => ?_)
        refine T.go 1 (fun n9 => (rfl : _ = exe ξ n9 d j_R_hasPart 52 [(0, .ref r), (1, J x), (2, .ref o), (3, J y), (4, J n), (5, J i)] [.ref o, J z1] σ)) ?_
        refine T.get rfl rfl rfl hrx2 rfl ?_
        refine T.go 2 (fun n9 => (rfl : _ = exe ξ n9 d j_R_hasPart 58 [(0, .ref r), (1, J x), (2, .ref o), (3, J y), (4, J n), (5, J i)] [J i, J y, .ref bx2, J z1] σ)) ?_
        refine T.iadd rfl ?_
        refine T.bald rfl (blt_f fx2e) hbx2 (by omega) (fun z2 hzz2 hyz2 hez2 => ?_)
        refine T.icmp_eq rfl rfl (by omega) (by omega) (fun c2 => ?_) (fun c2 => ?_)
        · refine T.iinc (lv' := [(0, .ref r), (1, J x), (2, .ref o), (3, J y), (4, J n), (5, J (i + 1))]) rfl rfl rfl rfl ?_
          refine T.go 1 (fun n9 => (rfl : _ = exe ξ n9 d j_R_hasPart 35 [(0, .ref r), (1, J x), (2, .ref o), (3, J y), (4, J n), (5, J (i + 1))] [] σ)) ?_
          exact ih  (i + 1) (by omega) (by omega) (by omega) (by omega) (by omega) (by omega) (by omega)
        · refine T.go 1 (fun n9 => (rfl : _ = exe ξ n9 d j_R_hasPart 64 [(0, .ref r), (1, J x), (2, .ref o), (3, J y), (4, J n), (5, J i)] [J 0] σ)) ?_
          exact T.iretz rfl rfl (by omega) ⟨_, rfl, rfl, by omega, by omega⟩
  refine T.go 1 (fun n9 => (rfl : _ = exe ξ n9 d j_R_hasPart 1 [(0, .ref r), (1, J x), (2, .ref o), (3, J y), (4, J n)] [J x] σ)) ?_
  refine T.if_lt rfl rfl (by omega) (fun c3 => ?_) (fun c3 => ?_)
  · refine T.go 1 (fun n9 => (rfl : _ = exe ξ n9 d j_R_hasPart 31 [(0, .ref r), (1, J x), (2, .ref o), (3, J y), (4, J n)] [J 0] σ)) ?_
    exact T.iretz rfl rfl (by omega) ⟨_, rfl, rfl, by omega, by omega⟩
  · refine T.go 1 (fun n9 => (rfl : _ = exe ξ n9 d j_R_hasPart 5 [(0, .ref r), (1, J x), (2, .ref o), (3, J y), (4, J n)] [J y] σ)) ?_
    refine T.if_lt rfl rfl (by omega) (fun c4 => ?_) (fun c4 => ?_)
    · refine T.go 1 (fun n9 => (rfl : _ = exe ξ n9 d j_R_hasPart 31 [(0, .ref r), (1, J x), (2, .ref o), (3, J y), (4, J n)] [J 0] σ)) ?_
      exact T.iretz rfl rfl (by omega) ⟨_, rfl, rfl, by omega, by omega⟩
    · refine T.go 2 (fun n9 => (rfl : _ = exe ξ n9 d j_R_hasPart 10 [(0, .ref r), (1, J x), (2, .ref o), (3, J y), (4, J n)] [.ref r, J x] σ)) ?_
      refine T.get rfl rfl rfl hrx1 rfl ?_
      refine T.go 1 (fun n9 => (rfl : _ = exe ξ n9 d j_R_hasPart 15 [(0, .ref r), (1, J x), (2, .ref o), (3, J y), (4, J n)] [J n, J nx1, J x] σ)) ?_
      refine T.isub rfl ?_
      refine T.norm (fun z3 hzz3 hyz3 hwz3 => ?_)
      refine T.icmp_gt rfl rfl (by omega) (by omega) (fun c5 => ?_) (fun c5 => ?_)
      · refine T.go 1 (fun n9 => (rfl : _ = exe ξ n9 d j_R_hasPart 31 [(0, .ref r), (1, J x), (2, .ref o), (3, J y), (4, J n)] [J 0] σ)) ?_
        exact T.iretz rfl rfl (by omega) ⟨_, rfl, rfl, by omega, by omega⟩
      · refine T.go 2 (fun n9 => (rfl : _ = exe ξ n9 d j_R_hasPart 21 [(0, .ref r), (1, J x), (2, .ref o), (3, J y), (4, J n)] [.ref o, J y] σ)) ?_
        refine T.get rfl rfl rfl hrx2 rfl ?_
        refine T.go 1 (fun n9 => (rfl : _ = exe ξ n9 d j_R_hasPart 26 [(0, .ref r), (1, J x), (2, .ref o), (3, J y), (4, J n)] [J n, J nx2, J y] σ)) ?_
        refine T.isub rfl ?_
        refine T.norm (fun z4 hzz4 hyz4 hwz4 => ?_)
        refine T.icmp_le rfl rfl (by omega) (by omega) (fun c6 => ?_) (fun c6 => ?_)
        · refine T.go 2 (fun n9 => (rfl : _ = exe ξ n9 d j_R_hasPart 35 [(0, .ref r), (1, J x), (2, .ref o), (3, J y), (4, J n), (5, J 0)] [] σ)) ?_
          exact loop35 _ 0 (by omega) (by omega) (by omega) (by omega) (by omega) (by omega) (Nat.lt_succ_self _)
        · refine T.go 1 (fun n9 => (rfl : _ = exe ξ n9 d j_R_hasPart 31 [(0, .ref r), (1, J x), (2, .ref o), (3, J y), (4, J n)] [J 0] σ)) ?_
          exact T.iretz rfl rfl (by omega) ⟨_, rfl, rfl, by omega, by omega⟩

set_option maxRecDepth 10000 in
set_option maxHeartbeats 4000000 in
theorem s_R_addPart {ξ : Nat → Option (Nat × List Int32)} (d : Nat) (r : Nat) (o : Nat) (x : Int) (n : Int) (σ : qH) (hK : K σ) (hr : r ∈ RwL) (ho : o ∈ RwL) (hro : o ≠ r) (rx : -2147483648 ≤ x ∧ x ≤ 2147483647) (rn : -2147483648 ≤ n ∧ n ≤ 2147483647) : T ξ (d + 1) j_R_addPart 0 (lv_args 0 [.ref r, .ref o, J x, J n]) [] σ (fun v σ' => ∃ z : Int, v = some (J z) ∧ Fr [r] σ σ' ∧ 0 ≤ z ∧ z ≤ 1 ∧ FrR r σ σ') := by
  obtain ⟨mx1, nx1, bx1, lx1, hrx1, hbx1, fx1a, fx1b, fx1c, fx1d, fx1e, fx1g, fx1h, fx1i⟩ := hK.row hr
  obtain ⟨mx2, nx2, bx2, lx2, hrx2, hbx2, fx2a, fx2b, fx2c, fx2d, fx2e, fx2g, fx2h, fx2i⟩ := hK.row ho
  refine T.go 1 (fun n9 => (rfl : _ = exe ξ n9 (d + 1) j_R_addPart 1 [(0, .ref r), (1, .ref o), (2, J x), (3, J n)] [J x] σ)) ?_
  refine T.if_lt rfl rfl (by omega) (fun c1 => ?_) (fun c1 => ?_)
  · refine T.go 1 (fun n9 => (rfl : _ = exe ξ n9 (d + 1) j_R_addPart 40 [(0, .ref r), (1, .ref o), (2, J x), (3, J n)] [J 0] σ)) ?_
    exact T.iretz rfl rfl (by omega) ⟨_, rfl, (Fr.refl hK), by omega, by omega, FrR.refl⟩
  · refine T.go 1 (fun n9 => (rfl : _ = exe ξ n9 (d + 1) j_R_addPart 5 [(0, .ref r), (1, .ref o), (2, J x), (3, J n)] [J n] σ)) ?_
    refine T.if_lt rfl rfl (by omega) (fun c2 => ?_) (fun c2 => ?_)
    · refine T.go 1 (fun n9 => (rfl : _ = exe ξ n9 (d + 1) j_R_addPart 40 [(0, .ref r), (1, .ref o), (2, J x), (3, J n)] [J 0] σ)) ?_
      exact T.iretz rfl rfl (by omega) ⟨_, rfl, (Fr.refl hK), by omega, by omega, FrR.refl⟩
    · refine T.go 2 (fun n9 => (rfl : _ = exe ξ n9 (d + 1) j_R_addPart 10 [(0, .ref r), (1, .ref o), (2, J x), (3, J n)] [.ref o, J n] σ)) ?_
      refine T.get rfl rfl rfl hrx2 rfl ?_
      refine T.icmp_gt rfl rfl (by omega) (by omega) (fun c3 => ?_) (fun c3 => ?_)
      · refine T.go 1 (fun n9 => (rfl : _ = exe ξ n9 (d + 1) j_R_addPart 40 [(0, .ref r), (1, .ref o), (2, J x), (3, J n)] [J 0] σ)) ?_
        exact T.iretz rfl rfl (by omega) ⟨_, rfl, (Fr.refl hK), by omega, by omega, FrR.refl⟩
      · refine T.go 2 (fun n9 => (rfl : _ = exe ξ n9 (d + 1) j_R_addPart 18 [(0, .ref r), (1, .ref o), (2, J x), (3, J n)] [.ref o, J x] σ)) ?_
        refine T.get rfl rfl rfl hrx2 rfl ?_
        refine T.go 1 (fun n9 => (rfl : _ = exe ξ n9 (d + 1) j_R_addPart 22 [(0, .ref r), (1, .ref o), (2, J x), (3, J n)] [J n, J nx2, J x] σ)) ?_
        refine T.isub rfl ?_
        refine T.icmp_gt rfl rfl (by omega) (by omega) (fun c4 => ?_) (fun c4 => ?_)
        · refine T.go 1 (fun n9 => (rfl : _ = exe ξ n9 (d + 1) j_R_addPart 40 [(0, .ref r), (1, .ref o), (2, J x), (3, J n)] [J 0] σ)) ?_
          exact T.iretz rfl rfl (by omega) ⟨_, rfl, (Fr.refl hK), by omega, by omega, FrR.refl⟩
        · refine T.go 2 (fun n9 => (rfl : _ = exe ξ n9 (d + 1) j_R_addPart 28 [(0, .ref r), (1, .ref o), (2, J x), (3, J n)] [.ref r, J n] σ)) ?_
          refine T.get rfl rfl rfl hrx1 rfl ?_
          refine T.go 1 (fun n9 => (rfl : _ = exe ξ n9 (d + 1) j_R_addPart 32 [(0, .ref r), (1, .ref o), (2, J x), (3, J n)] [.ref r, J mx1, J n] σ)) ?_
          refine T.get rfl rfl rfl hrx1 rfl ?_
          refine T.isub rfl ?_
          refine T.icmp_le rfl rfl (by omega) (by omega) (fun c5 => ?_) (fun c5 => ?_)
          · refine T.go 1 (fun n9 => (rfl : _ = exe ξ n9 (d + 1) j_R_addPart 42 [(0, .ref r), (1, .ref o), (2, J x), (3, J n)] [.ref r] σ)) ?_
            refine T.get rfl rfl rfl hrx1 rfl ?_
            refine T.ilen rfl (blt_f fx1e) hbx1 ?_
            refine T.go 1 (fun n9 => (rfl : _ = exe ξ n9 (d + 1) j_R_addPart 47 [(0, .ref r), (1, .ref o), (2, J x), (3, J n)] [.ref r, J ((lx1.length : Int))] σ)) ?_
            refine T.get rfl rfl rfl hrx1 rfl ?_
            refine T.icmp_ge rfl rfl (by omega) (by omega) (fun c6 => ?_) (fun c6 => ?_)
            · refine T.go 1 (fun n9 => (rfl : _ = exe ξ n9 (d + 1) j_R_addPart 64 [(0, .ref r), (1, .ref o), (2, J x), (3, J n)] [.ref o] σ)) ?_
              refine T.get rfl rfl rfl hrx2 rfl ?_
              refine T.go 2 (fun n9 => (rfl : _ = exe ξ n9 (d + 1) j_R_addPart 69 [(0, .ref r), (1, .ref o), (2, J x), (3, J n)] [.ref r, J x, .ref bx2] σ)) ?_
              refine T.get rfl rfl rfl hrx1 rfl ?_
              refine T.go 1 (fun n9 => (rfl : _ = exe ξ n9 (d + 1) j_R_addPart 73 [(0, .ref r), (1, .ref o), (2, J x), (3, J n)] [.ref r, .ref bx1, J x, .ref bx2] σ)) ?_
              refine T.get rfl rfl rfl hrx1 rfl ?_
              refine T.go 1 (fun n9 => (rfl : _ = exe ξ n9 (d + 1) j_R_addPart 77 [(0, .ref r), (1, .ref o), (2, J x), (3, J n)] [J n, J nx1, .ref bx1, J x, .ref bx2] σ)) ?_
              refine T.acopy (w := [r]) rfl rfl hK hbx2 hbx1 (by omega) fx2g rfl hr hrx1 (by simp) (fun s1 ls1 es1 eqs1 hs1 hcs1 hos1 => ?_)
              have qs1 : ls1.all qisb = true := hs1.1.2 _ _ hcs1
              have rs1 : FrR r σ s1 := (FrR.byt hbx1 hos1)
              have k1 := hos1 (q_dif hrx1 hbx1 (fun z => by cases z)) hrx1
              have k2 := hos1 (q_dif hrx2 hbx1 (fun z => by cases z)) hrx2
              refine T.go 2 (fun n9 => (rfl : _ = exe ξ n9 (d + 1) j_R_addPart 82 [(0, .ref r), (1, .ref o), (2, J x), (3, J n)] [.ref r, .ref r] s1)) ?_
              refine T.get rfl rfl rfl k1 rfl ?_
              refine T.go 1 (fun n9 => (rfl : _ = exe ξ n9 (d + 1) j_R_addPart 86 [(0, .ref r), (1, .ref o), (2, J x), (3, J n)] [J n, J nx1, .ref r] s1)) ?_
              refine T.iadd rfl ?_
              refine T.putF (w := [r]) rfl rfl k1 rfl rfl rfl (fs' := [J mx1, .ref bx1, J (nx1 + n)]) rfl (Fr.len hs1.1 hr k1 hcs1 (by omega) (by simp)) (fun s2 hs2 hcs2 hos2 => ?_)
              have gs2 := hs1.trans hs2
              have rs2 := FrR.trans rs1 ((FrR.one hos2) : FrR r s1 s2)
              have k3 := hos2 (q_dif hcs1 k1 (fun z => by cases z)) hcs1
              have k4 := hos2 hro k2
              refine T.go 1 (fun n9 => (rfl : _ = exe ξ n9 (d + 1) j_R_addPart 91 [(0, .ref r), (1, .ref o), (2, J x), (3, J n)] [J 1] s2)) ?_
              exact T.iretz rfl rfl (by omega) ⟨_, rfl, gs2, by omega, by omega, rs2⟩
            · refine T.go 2 (fun n9 => (rfl : _ = exe ξ n9 (d + 1) j_R_addPart 55 [(0, .ref r), (1, .ref o), (2, J x), (3, J n)] [.ref r, .ref r] σ)) ?_
              refine T.get rfl rfl rfl hrx1 rfl ?_
              refine T.newB (w := [r]) rfl rfl rfl hK hr hrx1 hbx1 (by omega) (by simp) (fun s3 ls3 es3 rps3 hs3 hcs3 hbs3 hos3 => ?_)
              have rs3 : FrR r σ s3 := (FrR.one hos3)
              have k5 := hos3 (q_dif hbx1 hrx1 (fun z => by cases z)) hbx1
              have k6 := hos3 hro hrx2
              have k7 := hos3 (q_dif hbx2 hrx1 (fun z => by cases z)) hbx2
              have ns3 : 16 ≤ σ.length := Nat.le_trans (by decide) hK.len
              have qs3 : ls3.all qisb = true := hs3.1.2 _ _ hbs3
              refine T.go 1 (fun n9 => (rfl : _ = exe ξ n9 (d + 1) j_R_addPart 64 [(0, .ref r), (1, .ref o), (2, J x), (3, J n)] [.ref o] s3)) ?_
              refine T.get rfl rfl rfl k6 rfl ?_
              refine T.go 2 (fun n9 => (rfl : _ = exe ξ n9 (d + 1) j_R_addPart 69 [(0, .ref r), (1, .ref o), (2, J x), (3, J n)] [.ref r, J x, .ref bx2] s3)) ?_
              refine T.get rfl rfl rfl hcs3 rfl ?_
              refine T.go 1 (fun n9 => (rfl : _ = exe ξ n9 (d + 1) j_R_addPart 73 [(0, .ref r), (1, .ref o), (2, J x), (3, J n)] [.ref r, .ref (σ.length), J x, .ref bx2] s3)) ?_
              refine T.get rfl rfl rfl hcs3 rfl ?_
              refine T.go 1 (fun n9 => (rfl : _ = exe ξ n9 (d + 1) j_R_addPart 77 [(0, .ref r), (1, .ref o), (2, J x), (3, J n)] [J n, J nx1, .ref (σ.length), J x, .ref bx2] s3)) ?_
              refine T.acopy (w := [r]) rfl rfl hs3.1 k7 hbs3 (by omega) fx2g rfl hr hcs3 (by simp) (fun s4 ls4 es4 eqs4 hs4 hcs4 hos4 => ?_)
              have qs4 : ls4.all qisb = true := hs4.1.2 _ _ hcs4
              have gs4 := hs3.trans hs4
              have rs4 := FrR.trans rs3 ((FrR.byt hbs3 hos4) : FrR r s3 s4)
              have k8 := hos4 (q_dif hcs3 hbs3 (fun z => by cases z)) hcs3
              have k9 := hos4 (q_dif k6 hbs3 (fun z => by cases z)) k6
              refine T.go 2 (fun n9 => (rfl : _ = exe ξ n9 (d + 1) j_R_addPart 82 [(0, .ref r), (1, .ref o), (2, J x), (3, J n)] [.ref r, .ref r] s4)) ?_
              refine T.get rfl rfl rfl k8 rfl ?_
              refine T.go 1 (fun n9 => (rfl : _ = exe ξ n9 (d + 1) j_R_addPart 86 [(0, .ref r), (1, .ref o), (2, J x), (3, J n)] [J n, J nx1, .ref r] s4)) ?_
              refine T.iadd rfl ?_
              refine T.putF (w := [r]) rfl rfl k8 rfl rfl rfl (fs' := [J mx1, .ref (σ.length), J (nx1 + n)]) rfl (Fr.len hs4.1 hr k8 hcs4 (by omega) (by simp)) (fun s5 hs5 hcs5 hos5 => ?_)
              have gs5 := gs4.trans hs5
              have rs5 := FrR.trans rs4 ((FrR.one hos5) : FrR r s4 s5)
              have k10 := hos5 (q_dif hcs4 k8 (fun z => by cases z)) hcs4
              have k11 := hos5 hro k9
              refine T.go 1 (fun n9 => (rfl : _ = exe ξ n9 (d + 1) j_R_addPart 91 [(0, .ref r), (1, .ref o), (2, J x), (3, J n)] [J 1] s5)) ?_
              exact T.iretz rfl rfl (by omega) ⟨_, rfl, gs5, by omega, by omega, rs5⟩
          · refine T.go 1 (fun n9 => (rfl : _ = exe ξ n9 (d + 1) j_R_addPart 40 [(0, .ref r), (1, .ref o), (2, J x), (3, J n)] [J 0] σ)) ?_
            exact T.iretz rfl rfl (by omega) ⟨_, rfl, (Fr.refl hK), by omega, by omega, FrR.refl⟩
