/-! A part of another row, laid behind. -/
set_option maxRecDepth 10000 in
set_option maxHeartbeats 4000000 in
theorem s_R_faddPart {ξ : Nat → Option (Nat × List Int32)} (d : Nat) (r : Nat) (o : Nat) (x : Int) (n : Int) (σ : qH) (hK : K σ) (hr : r ∈ RwL) (ho : o ∈ RwL) (hro : o ≠ r) (rx : -2147483648 ≤ x ∧ x ≤ 2147483647) (rn : -2147483648 ≤ n ∧ n ≤ 2147483647) (pre0 : 0 ≤ x) (pre1 : 0 ≤ n) (pre2 : x + n ≤ rl σ o) (pre3 : rl σ r + n ≤ mst r) : T ξ (d + 1) j_R_addPart 0 (lv_args 0 [.ref r, .ref o, J x, J n]) [] σ (fun v σ' => ∃ z : Int, v = some (J z) ∧ Fr [r] σ σ' ∧ 0 ≤ z ∧ z ≤ 1 ∧ FrR r σ σ' ∧ rl σ' r = rl σ r + n ∧ z = 1 ∧ (∀ g h : Int → Int, AGR σ o g → AGR σ r h → AGR σ' r (PLC g h (rl σ r) x n.toNat))) := by
  obtain ⟨mx1, nx1, bx1, lx1, hrx1, hbx1, fx1a, fx1b, fx1c, fx1d, fx1e, fx1g, fx1h, fx1i⟩ := hK.row hr
  have ctx1 := CT_of hrx1 hbx1
  have rwx1 := rl_of hrx1 (by omega)
  subst rwx1
  obtain ⟨mx2, nx2, bx2, lx2, hrx2, hbx2, fx2a, fx2b, fx2c, fx2d, fx2e, fx2g, fx2h, fx2i⟩ := hK.row ho
  have ctx2 := CT_of hrx2 hbx2
  have rwx2 := rl_of hrx2 (by omega)
  subst rwx2
  refine T.go 1 (fun n9 => (rfl : _ = exe ξ n9 (d + 1) j_R_addPart 1 [(0, .ref r), (1, .ref o), (2, J x), (3, J n)] [J x] σ)) ?_
  refine T.if_lt rfl rfl (by omega) (fun c1 => ?_) (fun c1 => ?_)
  · refine T.go 1 (fun n9 => (rfl : _ = exe ξ n9 (d + 1) j_R_addPart 40 [(0, .ref r), (1, .ref o), (2, J x), (3, J n)] [J 0] σ)) ?_
    have rlN := rl_of hrx1 (by omega)
    exact T.iretz rfl rfl (by omega) ⟨_, rfl, (Fr.refl hK), by omega, by omega, FrR.refl, by omega, by omega, (fun g h hg hh => by exfalso; omega)⟩
  · refine T.go 1 (fun n9 => (rfl : _ = exe ξ n9 (d + 1) j_R_addPart 5 [(0, .ref r), (1, .ref o), (2, J x), (3, J n)] [J n] σ)) ?_
    refine T.if_lt rfl rfl (by omega) (fun c2 => ?_) (fun c2 => ?_)
    · refine T.go 1 (fun n9 => (rfl : _ = exe ξ n9 (d + 1) j_R_addPart 40 [(0, .ref r), (1, .ref o), (2, J x), (3, J n)] [J 0] σ)) ?_
      have rlN := rl_of hrx1 (by omega)
      exact T.iretz rfl rfl (by omega) ⟨_, rfl, (Fr.refl hK), by omega, by omega, FrR.refl, by omega, by omega, (fun g h hg hh => by exfalso; omega)⟩
    · refine T.go 2 (fun n9 => (rfl : _ = exe ξ n9 (d + 1) j_R_addPart 10 [(0, .ref r), (1, .ref o), (2, J x), (3, J n)] [.ref o, J n] σ)) ?_
      refine T.get rfl rfl rfl hrx2 rfl ?_
      refine T.icmp_gt rfl rfl (by omega) (by omega) (fun c3 => ?_) (fun c3 => ?_)
      · refine T.go 1 (fun n9 => (rfl : _ = exe ξ n9 (d + 1) j_R_addPart 40 [(0, .ref r), (1, .ref o), (2, J x), (3, J n)] [J 0] σ)) ?_
        have rlN := rl_of hrx1 (by omega)
        exact T.iretz rfl rfl (by omega) ⟨_, rfl, (Fr.refl hK), by omega, by omega, FrR.refl, by omega, by omega, (fun g h hg hh => by exfalso; omega)⟩
      · refine T.go 2 (fun n9 => (rfl : _ = exe ξ n9 (d + 1) j_R_addPart 18 [(0, .ref r), (1, .ref o), (2, J x), (3, J n)] [.ref o, J x] σ)) ?_
        refine T.get rfl rfl rfl hrx2 rfl ?_
        refine T.go 1 (fun n9 => (rfl : _ = exe ξ n9 (d + 1) j_R_addPart 22 [(0, .ref r), (1, .ref o), (2, J x), (3, J n)] [J n, J (rl σ o), J x] σ)) ?_
        refine T.isub rfl ?_
        refine T.icmp_gt rfl rfl (by omega) (by omega) (fun c4 => ?_) (fun c4 => ?_)
        · refine T.go 1 (fun n9 => (rfl : _ = exe ξ n9 (d + 1) j_R_addPart 40 [(0, .ref r), (1, .ref o), (2, J x), (3, J n)] [J 0] σ)) ?_
          have rlN := rl_of hrx1 (by omega)
          exact T.iretz rfl rfl (by omega) ⟨_, rfl, (Fr.refl hK), by omega, by omega, FrR.refl, by omega, by omega, (fun g h hg hh => by exfalso; omega)⟩
        · refine T.go 2 (fun n9 => (rfl : _ = exe ξ n9 (d + 1) j_R_addPart 28 [(0, .ref r), (1, .ref o), (2, J x), (3, J n)] [.ref r, J n] σ)) ?_
          refine T.get rfl rfl rfl hrx1 rfl ?_
          refine T.go 1 (fun n9 => (rfl : _ = exe ξ n9 (d + 1) j_R_addPart 32 [(0, .ref r), (1, .ref o), (2, J x), (3, J n)] [.ref r, J mx1, J n] σ)) ?_
          refine T.get rfl rfl rfl hrx1 rfl ?_
          refine T.isub rfl ?_
          refine T.icmp_le rfl rfl (by omega) (by omega) (fun c5 => ?_) (fun c5 => ?_)
          · refine T.go 1 (fun n9 => (rfl : _ = exe ξ n9 (d + 1) j_R_addPart 42 [(0, .ref r), (1, .ref o), (2, J x), (3, J n)] [.ref r] σ)) ?_
            refine T.get rfl rfl rfl hrx1 rfl ?_
            refine T.ilen rfl (blt_f fx1e) hbx1 ?_
            refine T.go 1 (fun n9 => (rfl : _ = exe ξ n9 (d + 1) j_R_addPart 47 [(0, .ref r), (1, .ref o), (2, J x), (3, J n)] [.ref r, J ((lx1.length : Int))] σ)) ?_
            refine T.get rfl rfl rfl hrx1 rfl ?_
            refine T.icmp_ge rfl rfl (by omega) (by omega) (fun c6 => ?_) (fun c6 => ?_)
            · refine T.go 1 (fun n9 => (rfl : _ = exe ξ n9 (d + 1) j_R_addPart 64 [(0, .ref r), (1, .ref o), (2, J x), (3, J n)] [.ref o] σ)) ?_
              refine T.get rfl rfl rfl hrx2 rfl ?_
              refine T.go 2 (fun n9 => (rfl : _ = exe ξ n9 (d + 1) j_R_addPart 69 [(0, .ref r), (1, .ref o), (2, J x), (3, J n)] [.ref r, J x, .ref bx2] σ)) ?_
              refine T.get rfl rfl rfl hrx1 rfl ?_
              refine T.go 1 (fun n9 => (rfl : _ = exe ξ n9 (d + 1) j_R_addPart 73 [(0, .ref r), (1, .ref o), (2, J x), (3, J n)] [.ref r, .ref bx1, J x, .ref bx2] σ)) ?_
              refine T.get rfl rfl rfl hrx1 rfl ?_
              refine T.go 1 (fun n9 => (rfl : _ = exe ξ n9 (d + 1) j_R_addPart 77 [(0, .ref r), (1, .ref o), (2, J x), (3, J n)] [J n, J (rl σ r), .ref bx1, J x, .ref bx2] σ)) ?_
              refine T.acopy (w := [r]) rfl rfl hK hbx2 hbx1 (by omega) fx2g rfl hr hrx1 (by simp) (fun s1 ls1 es1 eqs1 hs1 hcs1 hos1 => ?_)
              have qs1 : ls1.all qisb = true := hs1.1.2 _ _ hcs1
              have rs1 : FrR r σ s1 := (FrR.byt hbx1 hos1)
              have k1 := hos1 (q_dif hrx1 hbx1 (fun z => by cases z)) hrx1
              have k2 := hos1 (q_dif hrx2 hbx1 (fun z => by cases z)) hrx2
              refine T.go 2 (fun n9 => (rfl : _ = exe ξ n9 (d + 1) j_R_addPart 82 [(0, .ref r), (1, .ref o), (2, J x), (3, J n)] [.ref r, .ref r] s1)) ?_
              refine T.get rfl rfl rfl k1 rfl ?_
              refine T.go 1 (fun n9 => (rfl : _ = exe ξ n9 (d + 1) j_R_addPart 86 [(0, .ref r), (1, .ref o), (2, J x), (3, J n)] [J n, J (rl σ r), .ref r] s1)) ?_
              refine T.iadd rfl ?_
              refine T.putF (w := [r]) rfl rfl k1 rfl rfl rfl (fs' := [J mx1, .ref bx1, J ((rl σ r) + n)]) rfl (Fr.len hs1.1 hr k1 hcs1 (by omega) (by simp)) (fun s2 hs2 hcs2 hos2 => ?_)
              have gs2 := hs1.trans hs2
              have rs2 := FrR.trans rs1 ((FrR.one hos2) : FrR r s1 s2)
              have k3 := hos2 (q_dif hcs1 k1 (fun z => by cases z)) hcs1
              have k4 := hos2 hro k2
              refine T.go 1 (fun n9 => (rfl : _ = exe ξ n9 (d + 1) j_R_addPart 91 [(0, .ref r), (1, .ref o), (2, J x), (3, J n)] [J 1] s2)) ?_
              have rlN := rl_of hcs2 (by omega)
              have ctN := (CT_of hcs2 k3).trans eqs1
              exact T.iretz rfl rfl (by omega) ⟨_, rfl, gs2, by omega, by omega, rs2, by omega, by omega, (fun g h hg hh => AGR_part ctx1 rfl ctx2 ctN (by omega) (by omega) (Or.inl rfl) hg hh)⟩
            · refine T.go 2 (fun n9 => (rfl : _ = exe ξ n9 (d + 1) j_R_addPart 55 [(0, .ref r), (1, .ref o), (2, J x), (3, J n)] [.ref r, .ref r] σ)) ?_
              refine T.get rfl rfl rfl hrx1 rfl ?_
              refine T.newB (w := [r]) rfl rfl rfl hK hr hrx1 hbx1 (by omega) (by simp) (fun s3 ls3 es3 rps3 hs3 hcs3 hbs3 hos3 => ?_)
              have rs3 : FrR r σ s3 := (FrR.one hos3)
              have k5 := hos3 (q_dif hbx1 hrx1 (fun z => by cases z)) hbx1
              have k6 := hos3 hro hrx2
              have k7 := hos3 (q_dif hbx2 hrx1 (fun z => by cases z)) hbx2
              have ns3 : 16 ≤ σ.length := Nat.le_trans (by decide) hK.len
              have qs3 : ls3.all qisb = true := hs3.1.2 _ _ hbs3
              refine T.go 1 (fun n9 => (rfl : _ = exe ξ n9 (d + 1) j_R_addPart 64 [(0, .ref r), (1, .ref o), (2, J x), (3, J n)] [.ref o] s3)) ?_
              refine T.get rfl rfl rfl k6 rfl ?_
              refine T.go 2 (fun n9 => (rfl : _ = exe ξ n9 (d + 1) j_R_addPart 69 [(0, .ref r), (1, .ref o), (2, J x), (3, J n)] [.ref r, J x, .ref bx2] s3)) ?_
              refine T.get rfl rfl rfl hcs3 rfl ?_
              refine T.go 1 (fun n9 => (rfl : _ = exe ξ n9 (d + 1) j_R_addPart 73 [(0, .ref r), (1, .ref o), (2, J x), (3, J n)] [.ref r, .ref (σ.length), J x, .ref bx2] s3)) ?_
              refine T.get rfl rfl rfl hcs3 rfl ?_
              refine T.go 1 (fun n9 => (rfl : _ = exe ξ n9 (d + 1) j_R_addPart 77 [(0, .ref r), (1, .ref o), (2, J x), (3, J n)] [J n, J (rl σ r), .ref (σ.length), J x, .ref bx2] s3)) ?_
              refine T.acopy (w := [r]) rfl rfl hs3.1 k7 hbs3 (by omega) fx2g rfl hr hcs3 (by simp) (fun s4 ls4 es4 eqs4 hs4 hcs4 hos4 => ?_)
              have qs4 : ls4.all qisb = true := hs4.1.2 _ _ hcs4
              have gs4 := hs3.trans hs4
              have rs4 := FrR.trans rs3 ((FrR.byt hbs3 hos4) : FrR r s3 s4)
              have k8 := hos4 (q_dif hcs3 hbs3 (fun z => by cases z)) hcs3
              have k9 := hos4 (q_dif k6 hbs3 (fun z => by cases z)) k6
              refine T.go 2 (fun n9 => (rfl : _ = exe ξ n9 (d + 1) j_R_addPart 82 [(0, .ref r), (1, .ref o), (2, J x), (3, J n)] [.ref r, .ref r] s4)) ?_
              refine T.get rfl rfl rfl k8 rfl ?_
              refine T.go 1 (fun n9 => (rfl : _ = exe ξ n9 (d + 1) j_R_addPart 86 [(0, .ref r), (1, .ref o), (2, J x), (3, J n)] [J n, J (rl σ r), .ref r] s4)) ?_
              refine T.iadd rfl ?_
              refine T.putF (w := [r]) rfl rfl k8 rfl rfl rfl (fs' := [J mx1, .ref (σ.length), J ((rl σ r) + n)]) rfl (Fr.len hs4.1 hr k8 hcs4 (by omega) (by simp)) (fun s5 hs5 hcs5 hos5 => ?_)
              have gs5 := gs4.trans hs5
              have rs5 := FrR.trans rs4 ((FrR.one hos5) : FrR r s4 s5)
              have k10 := hos5 (q_dif hcs4 k8 (fun z => by cases z)) hcs4
              have k11 := hos5 hro k9
              refine T.go 1 (fun n9 => (rfl : _ = exe ξ n9 (d + 1) j_R_addPart 91 [(0, .ref r), (1, .ref o), (2, J x), (3, J n)] [J 1] s5)) ?_
              have rlN := rl_of hcs5 (by omega)
              have ctN := (CT_of hcs5 k10).trans eqs4
              exact T.iretz rfl rfl (by omega) ⟨_, rfl, gs5, by omega, by omega, rs5, by omega, by omega, (fun g h hg hh => AGR_part ctx1 rfl ctx2 ctN (by omega) (by omega) (Or.inr (by omega)) hg hh)⟩
          · refine T.go 1 (fun n9 => (rfl : _ = exe ξ n9 (d + 1) j_R_addPart 40 [(0, .ref r), (1, .ref o), (2, J x), (3, J n)] [J 0] σ)) ?_
            have rlN := rl_of hrx1 (by omega)
            exact T.iretz rfl rfl (by omega) ⟨_, rfl, (Fr.refl hK), by omega, by omega, FrR.refl, by omega, by omega, (fun g h hg hh => by exfalso; omega)⟩
