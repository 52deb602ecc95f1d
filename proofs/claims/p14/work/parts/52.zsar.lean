/-! Archives: what their methods answer. -/
set_option maxRecDepth 10000 in
set_option maxHeartbeats 4000000 in
theorem s_A_flastEndRecord {ξ : Nat → Option (Nat × List Int32)} (d : Nat) (g : Int → Int) (a : Nat) (σ : qH) (hK : K σ) (ha : a ∈ ArL) (h255 : ∀ k, 0 ≤ g k ∧ g k ≤ 255) (hg : AGR σ (a + 1) g) : T ξ (d + 2) j_A_lastEndRecord 0 (lv_args 0 [.ref a]) [] σ (fun v σ' => ∃ z : Int, v = some (J z) ∧ σ' = σ ∧ -1 ≤ z ∧ z ≤ 7978 ∧ z = EN g (rl σ (a + 1))) := by
  have la := (ArL_lt a ha).2.1
  have hW := W2_r h255
  have hV := W4_r h255
  obtain ⟨ex1, erx1, dix1, bax1, fpx1, hax1, fx1a, fx1b, fx1c, fx1d, fx1e, fx1f, fx1g, fx1h, fx1i, fx1j⟩ := hK.arc ha
  have af3x1 := af_of (i := 3) hax1 rfl (by omega)
  subst af3x1
  have af4x1 := af_of (i := 4) hax1 rfl (by omega)
  subst af4x1
  have af5x1 := af_of (i := 5) hax1 rfl (by omega)
  subst af5x1
  have af6x1 := af_of (i := 6) hax1 rfl (by omega)
  subst af6x1
  have af7x1 := af_of (i := 7) hax1 rfl (by omega)
  subst af7x1
  obtain ⟨mx2, nx2, bx2, lx2, hrx2, hbx2, fx2a, fx2b, fx2c, fx2d, fx2e, fx2g, fx2h, fx2i⟩ := hK.row (kdX_ar _ ha).2.2.1
  have ctx2 := CT_of hrx2 hbx2
  have rwx2 := rl_of hrx2 (by omega)
  subst rwx2
  have loop11 : ∀ (f : Nat) (e : Int), e ≤ rl σ (a + 1) - 22 → -22 ≤ e → EN g (rl σ (a + 1)) = ER g (rl σ (a + 1)) (e + 1).toNat → (e + 1).toNat < f → T ξ (d + 2) j_A_lastEndRecord 11 [(0, .ref a), (1, J e)] [] σ (fun v σ' => ∃ z : Int, v = some (J z) ∧ σ' = σ ∧ -1 ≤ z ∧ z ≤ 7978 ∧ z = EN g (rl σ (a + 1))) := by
    intro f
    induction f with
    | zero => intro e i0 i1 i2 hm; omega
    | succ f ih =>
      intro e i0 i1 i2 hm
      refine T.go 1 (fun n9 => (rfl : _ = exe ξ n9 (d + 2) j_A_lastEndRecord 12 [(0, .ref a), (1, J e)] [J e] σ)) ?_
      refine T.if_lt rfl rfl (by omega) (fun c1 => ?_) (fun c1 => ?_)
      · refine T.go 1 (fun n9 => (rfl : _ = exe ξ n9 (d + 2) j_A_lastEndRecord 64 [(0, .ref a), (1, J e)] [J (-1)] σ)) ?_
        exact T.ireti rfl rfl ⟨_, rfl, rfl, by omega, by omega, (by first | (rw [i2, show (e + 1).toNat = 0 by omega]; rfl) | (rw [i2, ER_step (by omega), if_pos ⟨by omega, by omega⟩]))⟩
      · refine T.go 1 (fun n9 => (rfl : _ = exe ξ n9 (d + 2) j_A_lastEndRecord 16 [(0, .ref a), (1, J e)] [.ref a] σ)) ?_
        refine T.get rfl rfl rfl hax1 rfl ?_
        refine T.go 3 (fun n9 => (rfl : _ = exe ξ n9 (d + 2) j_A_lastEndRecord 23 [(0, .ref a), (1, J e)] [J 6, J 5, J e, .ref (a + 1)] σ)) ?_
        refine T.callv (as := [J e, J 5, J 6]) (r := []) rfl rfl rfl (RwL_lt _ (kdX_ar _ ha).2.2.1).2.2.1 hrx2 rfl (s_R_fhasMark d g (a + 1) e 5 6 σ hK (kdX_ar _ ha).2.2.1 hg (by omega) (by omega) (by omega) (by omega) (by omega)) (fun v1 s1 hqs1 => ?_)
        obtain ⟨z1, rfl, esz1, hzz1, hyz1, pz1_0⟩ := hqs1
        rw [esz1]
        refine T.if_eq rfl rfl (by omega) (fun c2 => ?_) (fun c2 => ?_)
        · refine T.iinc (lv' := [(0, .ref a), (1, J (e + (-1)))]) rfl rfl rfl rfl ?_
          refine T.go 1 (fun n9 => (rfl : _ = exe ξ n9 (d + 2) j_A_lastEndRecord 11 [(0, .ref a), (1, J (e + (-1)))] [] σ)) ?_
          exact ih  (e + (-1)) (by omega) (by omega) (by rw [i2, ER_step (by omega), if_neg (by omega), show (e + (-1) + 1).toNat = e.toNat by omega]) (by omega)
        · refine T.go 1 (fun n9 => (rfl : _ = exe ξ n9 (d + 2) j_A_lastEndRecord 30 [(0, .ref a), (1, J e)] [.ref a] σ)) ?_
          refine T.get rfl rfl rfl hax1 rfl ?_
          refine T.go 2 (fun n9 => (rfl : _ = exe ξ n9 (d + 2) j_A_lastEndRecord 36 [(0, .ref a), (1, J e)] [J 20, J e, .ref (a + 1)] σ)) ?_
          refine T.iadd rfl ?_
          refine T.callv (as := [J (e + 20)]) (r := []) rfl rfl rfl (RwL_lt _ (kdX_ar _ ha).2.2.1).2.2.1 hrx2 rfl (s_R_ftwo (d + 1) g (a + 1) (e + 20) σ hK (kdX_ar _ ha).2.2.1 hg (by omega)) (fun v2 s2 hqs2 => ?_)
          obtain ⟨z2, rfl, esz2, hzz2, hyz2, pz2_0, pz2_1⟩ := hqs2
          rw [esz2]
          have ez2 := pz2_0 (by omega) (by omega)
          subst ez2
          have wz2 := hW (e + 20)
          refine T.go 1 (fun n9 => (rfl : _ = exe ξ n9 (d + 2) j_A_lastEndRecord 41 [(0, .ref a), (1, J e)] [.ref a, J (W2 g (e + 20))] σ)) ?_
          refine T.get rfl rfl rfl hax1 rfl ?_
          refine T.get rfl rfl rfl hrx2 rfl ?_
          refine T.go 1 (fun n9 => (rfl : _ = exe ξ n9 (d + 2) j_A_lastEndRecord 48 [(0, .ref a), (1, J e)] [J e, J (rl σ (a + 1)), J (W2 g (e + 20))] σ)) ?_
          refine T.isub rfl ?_
          refine T.go 1 (fun n9 => (rfl : _ = exe ξ n9 (d + 2) j_A_lastEndRecord 51 [(0, .ref a), (1, J e)] [J 22, J ((rl σ (a + 1)) - e), J (W2 g (e + 20))] σ)) ?_
          refine T.isub rfl ?_
          refine T.icmp_ne rfl rfl (by omega) (by omega) (fun c3 => ?_) (fun c3 => ?_)
          · refine T.iinc (lv' := [(0, .ref a), (1, J (e + (-1)))]) rfl rfl rfl rfl ?_
            refine T.go 1 (fun n9 => (rfl : _ = exe ξ n9 (d + 2) j_A_lastEndRecord 11 [(0, .ref a), (1, J (e + (-1)))] [] σ)) ?_
            exact ih  (e + (-1)) (by omega) (by omega) (by rw [i2, ER_step (by omega), if_neg (by omega), show (e + (-1) + 1).toNat = e.toNat by omega]) (by omega)
          · refine T.go 1 (fun n9 => (rfl : _ = exe ξ n9 (d + 2) j_A_lastEndRecord 56 [(0, .ref a), (1, J e)] [J e] σ)) ?_
            exact T.ireti rfl rfl ⟨_, rfl, rfl, by omega, by omega, (by first | (rw [i2, show (e + 1).toNat = 0 by omega]; rfl) | (rw [i2, ER_step (by omega), if_pos ⟨by omega, by omega⟩]))⟩
  refine T.go 1 (fun n9 => (rfl : _ = exe ξ n9 (d + 2) j_A_lastEndRecord 1 [(0, .ref a)] [.ref a] σ)) ?_
  refine T.get rfl rfl rfl hax1 rfl ?_
  refine T.get rfl rfl rfl hrx2 rfl ?_
  refine T.go 1 (fun n9 => (rfl : _ = exe ξ n9 (d + 2) j_A_lastEndRecord 9 [(0, .ref a)] [J 22, J (rl σ (a + 1))] σ)) ?_
  refine T.isub rfl ?_
  refine T.go 1 (fun n9 => (rfl : _ = exe ξ n9 (d + 2) j_A_lastEndRecord 11 [(0, .ref a), (1, J ((rl σ (a + 1)) - 22))] [] σ)) ?_
  exact loop11 _ ((rl σ (a + 1)) - 22) (by omega) (by omega) (by unfold EN; rw [show (rl σ (a + 1) - 21).toNat = (rl σ (a + 1) - 22 + 1).toNat by omega]) (Nat.lt_succ_self _)

set_option maxRecDepth 10000 in
set_option maxHeartbeats 4000000 in
theorem s_A_fheaderLength {ξ : Nat → Option (Nat × List Int32)} (d : Nat) (g : Int → Int) (a : Nat) (x : Int) (σ : qH) (hK : K σ) (ha : a ∈ ArL) (h255 : ∀ k, 0 ≤ g k ∧ g k ≤ 255) (hg : AGR σ (a + 1) g) (rx : -2147483648 ≤ x ∧ x ≤ 2147483647) (pre0 : 0 ≤ x) (pre1 : x + 33 < rl σ (a + 1)) : T ξ (d + 1) j_A_headerLength 0 (lv_args 0 [.ref a, J x]) [] σ (fun v σ' => ∃ z : Int, v = some (J z) ∧ σ' = σ ∧ 43 ≤ z ∧ z ≤ 196651 ∧ x + z = NXn g x) := by
  have la := (ArL_lt a ha).2.1
  have hW := W2_r h255
  have hV := W4_r h255
  obtain ⟨ex1, erx1, dix1, bax1, fpx1, hax1, fx1a, fx1b, fx1c, fx1d, fx1e, fx1f, fx1g, fx1h, fx1i, fx1j⟩ := hK.arc ha
  have af3x1 := af_of (i := 3) hax1 rfl (by omega)
  subst af3x1
  have af4x1 := af_of (i := 4) hax1 rfl (by omega)
  subst af4x1
  have af5x1 := af_of (i := 5) hax1 rfl (by omega)
  subst af5x1
  have af6x1 := af_of (i := 6) hax1 rfl (by omega)
  subst af6x1
  have af7x1 := af_of (i := 7) hax1 rfl (by omega)
  subst af7x1
  obtain ⟨mx2, nx2, bx2, lx2, hrx2, hbx2, fx2a, fx2b, fx2c, fx2d, fx2e, fx2g, fx2h, fx2i⟩ := hK.row (kdX_ar _ ha).2.2.1
  have ctx2 := CT_of hrx2 hbx2
  have rwx2 := rl_of hrx2 (by omega)
  subst rwx2
  refine T.go 2 (fun n9 => (rfl : _ = exe ξ n9 (d + 1) j_A_headerLength 3 [(0, .ref a), (1, J x)] [.ref a, J 46] σ)) ?_
  refine T.get rfl rfl rfl hax1 rfl ?_
  refine T.go 2 (fun n9 => (rfl : _ = exe ξ n9 (d + 1) j_A_headerLength 9 [(0, .ref a), (1, J x)] [J 28, J x, .ref (a + 1), J 46] σ)) ?_
  refine T.iadd rfl ?_
  refine T.callv (as := [J (x + 28)]) (r := [J 46]) rfl rfl rfl (RwL_lt _ (kdX_ar _ ha).2.2.1).2.2.1 hrx2 rfl (s_R_ftwo d g (a + 1) (x + 28) σ hK (kdX_ar _ ha).2.2.1 hg (by omega)) (fun v1 s1 hqs1 => ?_)
  obtain ⟨z1, rfl, esz1, hzz1, hyz1, pz1_0, pz1_1⟩ := hqs1
  rw [esz1]
  have ez1 := pz1_0 (by omega) (by omega)
  subst ez1
  have wz1 := hW (x + 28)
  refine T.iadd rfl ?_
  refine T.go 1 (fun n9 => (rfl : _ = exe ξ n9 (d + 1) j_A_headerLength 15 [(0, .ref a), (1, J x)] [.ref a, J (46 + (W2 g (x + 28)))] σ)) ?_
  refine T.get rfl rfl rfl hax1 rfl ?_
  refine T.go 2 (fun n9 => (rfl : _ = exe ξ n9 (d + 1) j_A_headerLength 21 [(0, .ref a), (1, J x)] [J 30, J x, .ref (a + 1), J (46 + (W2 g (x + 28)))] σ)) ?_
  refine T.iadd rfl ?_
  refine T.callv (as := [J (x + 30)]) (r := [J (46 + (W2 g (x + 28)))]) rfl rfl rfl (RwL_lt _ (kdX_ar _ ha).2.2.1).2.2.1 hrx2 rfl (s_R_ftwo d g (a + 1) (x + 30) σ hK (kdX_ar _ ha).2.2.1 hg (by omega)) (fun v2 s2 hqs2 => ?_)
  obtain ⟨z2, rfl, esz2, hzz2, hyz2, pz2_0, pz2_1⟩ := hqs2
  rw [esz2]
  have ez2 := pz2_0 (by omega) (by omega)
  subst ez2
  have wz2 := hW (x + 30)
  refine T.iadd rfl ?_
  refine T.go 1 (fun n9 => (rfl : _ = exe ξ n9 (d + 1) j_A_headerLength 27 [(0, .ref a), (1, J x)] [.ref a, J ((46 + (W2 g (x + 28))) + (W2 g (x + 30)))] σ)) ?_
  refine T.get rfl rfl rfl hax1 rfl ?_
  refine T.go 2 (fun n9 => (rfl : _ = exe ξ n9 (d + 1) j_A_headerLength 33 [(0, .ref a), (1, J x)] [J 32, J x, .ref (a + 1), J ((46 + (W2 g (x + 28))) + (W2 g (x + 30)))] σ)) ?_
  refine T.iadd rfl ?_
  refine T.callv (as := [J (x + 32)]) (r := [J ((46 + (W2 g (x + 28))) + (W2 g (x + 30)))]) rfl rfl rfl (RwL_lt _ (kdX_ar _ ha).2.2.1).2.2.1 hrx2 rfl (s_R_ftwo d g (a + 1) (x + 32) σ hK (kdX_ar _ ha).2.2.1 hg (by omega)) (fun v3 s3 hqs3 => ?_)
  obtain ⟨z3, rfl, esz3, hzz3, hyz3, pz3_0, pz3_1⟩ := hqs3
  rw [esz3]
  have ez3 := pz3_0 (by omega) (by omega)
  subst ez3
  have wz3 := hW (x + 32)
  refine T.iadd rfl ?_
  exact T.ireti rfl rfl ⟨_, rfl, rfl, by omega, by omega, (by unfold NXn; omega)⟩

set_option maxRecDepth 10000 in
set_option maxHeartbeats 4000000 in
theorem s_A_flookUp {ξ : Nat → Option (Nat × List Int32)} (d : Nat) (g h : Int → Int) (a : Nat) (o : Nat) (x : Int) (n : Int) (σ : qH) (hK : K σ) (ha : a ∈ ArL) (ho : o ∈ RwL) (h255 : ∀ k, 0 ≤ g k ∧ g k ≤ 255) (hg : AGR σ (a + 1) g) (hh : AGR σ o h) (hc : ∀ j : Int, 0 ≤ j → j < afld σ a 3 → 0 ≤ gl (il σ (a + 3)) j ∧ gl (il σ (a + 3)) j + 46 + W2 g (gl (il σ (a + 3)) j + 28) ≤ rl σ (a + 1)) (rx : -2147483648 ≤ x ∧ x ≤ 2147483647) (rn : -2147483648 ≤ n ∧ n ≤ 2147483647) (pre0 : 0 ≤ x) (pre1 : 0 ≤ n) (pre2 : x + n ≤ rl σ o) : T ξ (d + 1) j_A_lookUp 0 (lv_args 0 [.ref a, .ref o, J x, J n]) [] σ (fun v σ' => ∃ z : Int, v = some (J z) ∧ σ' = σ ∧ -1 ≤ z ∧ z ≤ 63 ∧ z = LK g h (gl (il σ (a + 3))) x n (afld σ a 3).toNat) := by
  have la := (ArL_lt a ha).2.1
  have hW := W2_r h255
  have hV := W4_r h255
  obtain ⟨ex1, erx1, dix1, bax1, fpx1, hax1, fx1a, fx1b, fx1c, fx1d, fx1e, fx1f, fx1g, fx1h, fx1i, fx1j⟩ := hK.arc ha
  have af3x1 := af_of (i := 3) hax1 rfl (by omega)
  subst af3x1
  have af4x1 := af_of (i := 4) hax1 rfl (by omega)
  subst af4x1
  have af5x1 := af_of (i := 5) hax1 rfl (by omega)
  subst af5x1
  have af6x1 := af_of (i := 6) hax1 rfl (by omega)
  subst af6x1
  have af7x1 := af_of (i := 7) hax1 rfl (by omega)
  subst af7x1
  obtain ⟨mx2, nx2, bx2, lx2, hrx2, hbx2, fx2a, fx2b, fx2c, fx2d, fx2e, fx2g, fx2h, fx2i⟩ := hK.row (kdX_ar _ ha).2.2.1
  have ctx2 := CT_of hrx2 hbx2
  have rwx2 := rl_of hrx2 (by omega)
  subst rwx2
  obtain ⟨mx3, nx3, bx3, lx3, hrx3, hbx3, fx3a, fx3b, fx3c, fx3d, fx3e, fx3g, fx3h, fx3i⟩ := hK.row ho
  have ctx3 := CT_of hrx3 hbx3
  have rwx3 := rl_of hrx3 (by omega)
  subst rwx3
  have loop3 : ∀ (f : Nat) (k : Int), 0 ≤ k → k ≤ afld σ a 3 → LK g h (gl (il σ (a + 3))) x n k.toNat = -1 → (64 - k).toNat < f → T ξ (d + 1) j_A_lookUp 3 [(0, .ref a), (1, .ref o), (2, J x), (3, J n), (4, J k)] [] σ (fun v σ' => ∃ z : Int, v = some (J z) ∧ σ' = σ ∧ -1 ≤ z ∧ z ≤ 63 ∧ z = LK g h (gl (il σ (a + 3))) x n (afld σ a 3).toNat) := by
    intro f
    induction f with
    | zero => intro k i0 i1 i2 hm; omega
    | succ f ih =>
      intro k i0 i1 i2 hm
      have hck := fun h => hc k i0 h
      have hwk := hW (gl (il σ (a + 3)) k + 28)
      refine T.go 2 (fun n9 => (rfl : _ = exe ξ n9 (d + 1) j_A_lookUp 6 [(0, .ref a), (1, .ref o), (2, J x), (3, J n), (4, J k)] [.ref a, J k] σ)) ?_
      refine T.get rfl rfl rfl hax1 rfl ?_
      refine T.icmp_ge rfl rfl (by omega) (by omega) (fun c1 => ?_) (fun c1 => ?_)
      · refine T.go 1 (fun n9 => (rfl : _ = exe ξ n9 (d + 1) j_A_lookUp 73 [(0, .ref a), (1, .ref o), (2, J x), (3, J n), (4, J k)] [J (-1)] σ)) ?_
        exact T.ireti rfl rfl ⟨_, rfl, rfl, by omega, by omega, (by rw [show (afld σ a 3).toNat = k.toNat by omega]; exact i2.symm)⟩
      · refine T.go 2 (fun n9 => (rfl : _ = exe ξ n9 (d + 1) j_A_lookUp 16 [(0, .ref a), (1, .ref o), (2, J x), (3, J n), (4, J k)] [J 64, J k] σ)) ?_
        refine T.icmp_ge rfl rfl (by omega) (by omega) (fun c2 => ?_) (fun c2 => ?_)
        · refine T.go 1 (fun n9 => (rfl : _ = exe ξ n9 (d + 1) j_A_lookUp 73 [(0, .ref a), (1, .ref o), (2, J x), (3, J n), (4, J k)] [J (-1)] σ)) ?_
          exact T.ireti rfl rfl ⟨_, rfl, rfl, by omega, by omega, (by rw [show (afld σ a 3).toNat = k.toNat by omega]; exact i2.symm)⟩
        · refine T.go 1 (fun n9 => (rfl : _ = exe ξ n9 (d + 1) j_A_lookUp 20 [(0, .ref a), (1, .ref o), (2, J x), (3, J n), (4, J k)] [.ref a] σ)) ?_
          refine T.get rfl rfl rfl hax1 rfl ?_
          refine T.go 1 (fun n9 => (rfl : _ = exe ξ n9 (d + 1) j_A_lookUp 24 [(0, .ref a), (1, .ref o), (2, J x), (3, J n), (4, J k)] [.ref a, .ref (a + 1)] σ)) ?_
          refine T.get rfl rfl rfl hax1 rfl ?_
          refine T.go 1 (fun n9 => (rfl : _ = exe ξ n9 (d + 1) j_A_lookUp 29 [(0, .ref a), (1, .ref o), (2, J x), (3, J n), (4, J k)] [J k, .ref (a + 3), .ref (a + 1)] σ)) ?_
          obtain ⟨lx4, hix4, elx4⟩ := hK.ints (kdX_ar _ ha).2.2.2.1
          have ilx4 := il_of hix4
          refine T.iald rfl (blt_f (by omega)) hix4 (by omega) (fun z1 hzz1 hyz1 hez1 => ?_)
          have glz1 : gl (il σ (a + 3)) k = z1 := by rw [ilx4]; exact gl_of hez1 ⟨hzz1, hyz1⟩
          subst glz1
          refine T.go 1 (fun n9 => (rfl : _ = exe ξ n9 (d + 1) j_A_lookUp 32 [(0, .ref a), (1, .ref o), (2, J x), (3, J n), (4, J k)] [J 28, J (gl (il σ (a + 3)) k), .ref (a + 1)] σ)) ?_
          refine T.iadd rfl ?_
          refine T.callv (as := [J ((gl (il σ (a + 3)) k) + 28)]) (r := []) rfl rfl rfl (RwL_lt _ (kdX_ar _ ha).2.2.1).2.2.1 hrx2 rfl (s_R_ftwo d g (a + 1) ((gl (il σ (a + 3)) k) + 28) σ hK (kdX_ar _ ha).2.2.1 hg (by omega)) (fun v1 s1 hqs1 => ?_)
          obtain ⟨z2, rfl, esz2, hzz2, hyz2, pz2_0, pz2_1⟩ := hqs1
          rw [esz2]
          have ez2 := pz2_0 (by omega) (by omega)
          subst ez2
          have wz2 := hW ((gl (il σ (a + 3)) k) + 28)
          refine T.go 1 (fun n9 => (rfl : _ = exe ξ n9 (d + 1) j_A_lookUp 37 [(0, .ref a), (1, .ref o), (2, J x), (3, J n), (4, J k)] [J n, J (W2 g ((gl (il σ (a + 3)) k) + 28))] σ)) ?_
          refine T.icmp_ne rfl rfl (by omega) (by omega) (fun c3 => ?_) (fun c3 => ?_)
          · refine T.iinc (lv' := [(0, .ref a), (1, .ref o), (2, J x), (3, J n), (4, J (k + 1))]) rfl rfl rfl rfl ?_
            refine T.go 1 (fun n9 => (rfl : _ = exe ξ n9 (d + 1) j_A_lookUp 3 [(0, .ref a), (1, .ref o), (2, J x), (3, J n), (4, J (k + 1))] [] σ)) ?_
            exact ih  (k + 1) (by omega) (by omega) (by rw [LK_step (by omega), if_neg (fun q => q i2), if_neg (by omega)]) (by omega)
          · refine T.go 1 (fun n9 => (rfl : _ = exe ξ n9 (d + 1) j_A_lookUp 41 [(0, .ref a), (1, .ref o), (2, J x), (3, J n), (4, J k)] [.ref a] σ)) ?_
            refine T.get rfl rfl rfl hax1 rfl ?_
            refine T.go 1 (fun n9 => (rfl : _ = exe ξ n9 (d + 1) j_A_lookUp 45 [(0, .ref a), (1, .ref o), (2, J x), (3, J n), (4, J k)] [.ref a, .ref (a + 1)] σ)) ?_
            refine T.get rfl rfl rfl hax1 rfl ?_
            refine T.go 1 (fun n9 => (rfl : _ = exe ξ n9 (d + 1) j_A_lookUp 50 [(0, .ref a), (1, .ref o), (2, J x), (3, J n), (4, J k)] [J k, .ref (a + 3), .ref (a + 1)] σ)) ?_
            refine T.iald rfl (blt_f (by omega)) hix4 (by omega) (fun z3 hzz3 hyz3 hez3 => ?_)
            have glz3 : gl (il σ (a + 3)) k = z3 := by rw [ilx4]; exact gl_of hez3 ⟨hzz3, hyz3⟩
            subst glz3
            refine T.go 1 (fun n9 => (rfl : _ = exe ξ n9 (d + 1) j_A_lookUp 53 [(0, .ref a), (1, .ref o), (2, J x), (3, J n), (4, J k)] [J 46, J (gl (il σ (a + 3)) k), .ref (a + 1)] σ)) ?_
            refine T.iadd rfl ?_
            refine T.go 3 (fun n9 => (rfl : _ = exe ξ n9 (d + 1) j_A_lookUp 57 [(0, .ref a), (1, .ref o), (2, J x), (3, J n), (4, J k)] [J n, J x, .ref o, J ((gl (il σ (a + 3)) k) + 46), .ref (a + 1)] σ)) ?_
            refine T.callv (as := [J ((gl (il σ (a + 3)) k) + 46), .ref o, J x, J n]) (r := []) rfl rfl rfl (RwL_lt _ (kdX_ar _ ha).2.2.1).2.2.1 hrx2 rfl (s_R_fhasPart d g h (a + 1) ((gl (il σ (a + 3)) k) + 46) o x n σ hK (kdX_ar _ ha).2.2.1 ho hg hh (by omega) (by omega) (by omega) (by omega) (by omega) (by omega) (by omega) (by omega) (by omega)) (fun v2 s2 hqs2 => ?_)
            obtain ⟨z4, rfl, esz4, hzz4, hyz4, pz4_0⟩ := hqs2
            rw [esz4]
            have ez4 := pz4_0 (by omega) (by omega) (by omega) (by omega) (by omega)
            refine T.if_eq rfl rfl (by omega) (fun c4 => ?_) (fun c4 => ?_)
            · refine T.iinc (lv' := [(0, .ref a), (1, .ref o), (2, J x), (3, J n), (4, J (k + 1))]) rfl rfl rfl rfl ?_
              refine T.go 1 (fun n9 => (rfl : _ = exe ξ n9 (d + 1) j_A_lookUp 3 [(0, .ref a), (1, .ref o), (2, J x), (3, J n), (4, J (k + 1))] [] σ)) ?_
              exact ih  (k + 1) (by omega) (by omega) (by rw [LK_step (by omega), if_neg (fun q => q i2), if_neg (by omega)]) (by omega)
            · refine T.go 1 (fun n9 => (rfl : _ = exe ξ n9 (d + 1) j_A_lookUp 65 [(0, .ref a), (1, .ref o), (2, J x), (3, J n), (4, J k)] [J k] σ)) ?_
              exact T.ireti rfl rfl ⟨_, rfl, rfl, by omega, by omega, (LK_yes (m := (k + 1).toNat) (by rw [LK_step (by omega), if_neg (fun q => q i2), if_pos ⟨by omega, by omega⟩]) (by omega) (by omega)).symm⟩
  refine T.go 2 (fun n9 => (rfl : _ = exe ξ n9 (d + 1) j_A_lookUp 3 [(0, .ref a), (1, .ref o), (2, J x), (3, J n), (4, J 0)] [] σ)) ?_
  exact loop3 _ 0 (by omega) (by omega) rfl (Nat.lt_succ_self _)

set_option maxRecDepth 10000 in
set_option maxHeartbeats 4000000 in
theorem s_N_fisLetter {ξ : Nat → Option (Nat × List Int32)} (d : Nat) (x : Int) (σ : qH) (hK : K σ)  (rx : -2147483648 ≤ x ∧ x ≤ 2147483647) : T ξ d j_N_isLetter 0 (lv_args 0 [J x]) [] σ (fun v σ' => ∃ z : Int, v = some (J z) ∧ σ' = σ ∧ 0 ≤ z ∧ z ≤ 1 ∧ (z = 1 → 33 ≤ x ∧ x ≤ 126) ∧ (z = 0 → ¬ (33 ≤ x ∧ x ≤ 126))) := by
  refine T.go 2 (fun n9 => (rfl : _ = exe ξ n9 d j_N_isLetter 3 [(0, J x)] [J 33, J x] σ)) ?_
  refine T.icmp_lt rfl rfl (by omega) (by omega) (fun c1 => ?_) (fun c1 => ?_)
  · refine T.go 1 (fun n9 => (rfl : _ = exe ξ n9 d j_N_isLetter 17 [(0, J x)] [J 0] σ)) ?_
    exact T.iretz rfl rfl (by omega) ⟨_, rfl, rfl, by omega, by omega, by omega, by omega⟩
  · refine T.go 2 (fun n9 => (rfl : _ = exe ξ n9 d j_N_isLetter 9 [(0, J x)] [J 126, J x] σ)) ?_
    refine T.icmp_gt rfl rfl (by omega) (by omega) (fun c2 => ?_) (fun c2 => ?_)
    · refine T.go 1 (fun n9 => (rfl : _ = exe ξ n9 d j_N_isLetter 17 [(0, J x)] [J 0] σ)) ?_
      exact T.iretz rfl rfl (by omega) ⟨_, rfl, rfl, by omega, by omega, by omega, by omega⟩
    · refine T.go 2 (fun n9 => (rfl : _ = exe ξ n9 d j_N_isLetter 17 [(0, J x)] [J 1] σ)) ?_
      exact T.iretz rfl rfl (by omega) ⟨_, rfl, rfl, by omega, by omega, by omega, by omega⟩

set_option maxRecDepth 10000 in
set_option maxHeartbeats 4000000 in
theorem s_A_fisFreshName {ξ : Nat → Option (Nat × List Int32)} (d : Nat) (g : Int → Int) (a : Nat) (x : Int) (σ : qH) (hK : K σ) (ha : a ∈ ArL) (h255 : ∀ k, 0 ≤ g k ∧ g k ≤ 255) (hg : AGR σ (a + 1) g) (hc : ∀ j : Int, 0 ≤ j → j < afld σ a 3 → 0 ≤ gl (il σ (a + 3)) j ∧ gl (il σ (a + 3)) j + 46 + W2 g (gl (il σ (a + 3)) j + 28) ≤ rl σ (a + 1)) (rx : -2147483648 ≤ x ∧ x ≤ 2147483647) (pre0 : 0 ≤ x) (pre1 : x + 46 ≤ rl σ (a + 1)) (pre2 : x + 46 + W2 g (x + 28) ≤ rl σ (a + 1)) : T ξ (d + 2) j_A_isFreshName 0 (lv_args 0 [.ref a, J x]) [] σ (fun v σ' => ∃ z : Int, v = some (J z) ∧ σ' = σ ∧ 0 ≤ z ∧ z ≤ 1 ∧ z = NRn g (hsx (gl (il σ (a + 3))) (afld σ a 3) x) (afld σ a 3)) := by
  have la := (ArL_lt a ha).2.1
  have hW := W2_r h255
  have hV := W4_r h255
  have hx9 : hsx (gl (il σ (a + 3))) (afld σ a 3) x (afld σ a 3) = x := if_pos rfl
  obtain ⟨ex1, erx1, dix1, bax1, fpx1, hax1, fx1a, fx1b, fx1c, fx1d, fx1e, fx1f, fx1g, fx1h, fx1i, fx1j⟩ := hK.arc ha
  have af3x1 := af_of (i := 3) hax1 rfl (by omega)
  subst af3x1
  have af4x1 := af_of (i := 4) hax1 rfl (by omega)
  subst af4x1
  have af5x1 := af_of (i := 5) hax1 rfl (by omega)
  subst af5x1
  have af6x1 := af_of (i := 6) hax1 rfl (by omega)
  subst af6x1
  have af7x1 := af_of (i := 7) hax1 rfl (by omega)
  subst af7x1
  obtain ⟨mx2, nx2, bx2, lx2, hrx2, hbx2, fx2a, fx2b, fx2c, fx2d, fx2e, fx2g, fx2h, fx2i⟩ := hK.row (kdX_ar _ ha).2.2.1
  have ctx2 := CT_of hrx2 hbx2
  have rwx2 := rl_of hrx2 (by omega)
  subst rwx2
  have loop27 : ∀ (f : Nat) (k : Int), 0 ≤ k → k ≤ W2 g (x + 28) → LTn g (x + 46) k.toNat = 1 → 1 ≤ W2 g (x + 28) → W2 g (x + 28) ≤ 40 → (W2 g (x + 28) - k).toNat < f → T ξ (d + 2) j_A_isFreshName 27 [(0, .ref a), (1, J x), (2, J (W2 g (x + 28))), (3, J k)] [] σ (fun v σ' => ∃ z : Int, v = some (J z) ∧ σ' = σ ∧ 0 ≤ z ∧ z ≤ 1 ∧ z = NRn g (hsx (gl (il σ (a + 3))) (afld σ a 3) x) (afld σ a 3)) := by
    intro f
    induction f with
    | zero => intro k i0 i1 i2 i3 i4 hm; omega
    | succ f ih =>
      intro k i0 i1 i2 i3 i4 hm
      refine T.go 2 (fun n9 => (rfl : _ = exe ξ n9 (d + 2) j_A_isFreshName 29 [(0, .ref a), (1, J x), (2, J (W2 g (x + 28))), (3, J k)] [J (W2 g (x + 28)), J k] σ)) ?_
      refine T.icmp_ge rfl rfl (by omega) (by omega) (fun c1 => ?_) (fun c1 => ?_)
      · refine T.go 2 (fun n9 => (rfl : _ = exe ξ n9 (d + 2) j_A_isFreshName 61 [(0, .ref a), (1, J x), (2, J (W2 g (x + 28))), (3, J k)] [.ref a, .ref a] σ)) ?_
        refine T.get rfl rfl rfl hax1 rfl ?_
        refine T.go 2 (fun n9 => (rfl : _ = exe ξ n9 (d + 2) j_A_isFreshName 67 [(0, .ref a), (1, J x), (2, J (W2 g (x + 28))), (3, J k)] [J 46, J x, .ref (a + 1), .ref a] σ)) ?_
        refine T.iadd rfl ?_
        refine T.go 1 (fun n9 => (rfl : _ = exe ξ n9 (d + 2) j_A_isFreshName 69 [(0, .ref a), (1, J x), (2, J (W2 g (x + 28))), (3, J k)] [J (W2 g (x + 28)), J (x + 46), .ref (a + 1), .ref a] σ)) ?_
        refine T.callv (as := [.ref (a + 1), J (x + 46), J (W2 g (x + 28))]) (r := []) rfl rfl rfl (ArL_lt _ ha).2.2.1 hax1 rfl (s_A_flookUp d g g a (a + 1) (x + 46) (W2 g (x + 28)) σ hK ha (kdX_ar _ ha).2.2.1 h255 hg hg hc (by omega) (by omega) (by omega) (by omega) (by omega)) (fun v1 s1 hqs1 => ?_)
        obtain ⟨z1, rfl, esz1, hzz1, hyz1, pz1_0⟩ := hqs1
        rw [esz1]
        refine T.go 1 (fun n9 => (rfl : _ = exe ξ n9 (d + 2) j_A_isFreshName 73 [(0, .ref a), (1, J x), (2, J (W2 g (x + 28))), (3, J k)] [J (-1), J z1] σ)) ?_
        refine T.icmp_ne rfl rfl (by omega) (by omega) (fun c2 => ?_) (fun c2 => ?_)
        · refine T.go 1 (fun n9 => (rfl : _ = exe ξ n9 (d + 2) j_A_isFreshName 81 [(0, .ref a), (1, J x), (2, J (W2 g (x + 28))), (3, J k)] [J 0] σ)) ?_
          exact T.iretz rfl rfl (by omega) ⟨_, rfl, rfl, by omega, by omega, (by have dp := LK_dp (g := g) (hs := gl (il σ (a + 3))) (e := afld σ a 3) (x := x) (by omega) (afld σ a 3).toNat (by omega); unfold NRn; rw [hx9]; rw [if_neg (fun q => by have := dp.mpr q.2.2.2; omega)])⟩
        · refine T.go 2 (fun n9 => (rfl : _ = exe ξ n9 (d + 2) j_A_isFreshName 81 [(0, .ref a), (1, J x), (2, J (W2 g (x + 28))), (3, J k)] [J 1] σ)) ?_
          exact T.iretz rfl rfl (by omega) ⟨_, rfl, rfl, by omega, by omega, (by have dp := LK_dp (g := g) (hs := gl (il σ (a + 3))) (e := afld σ a 3) (x := x) (by omega) (afld σ a 3).toNat (by omega); unfold NRn; rw [hx9]; rw [if_pos ⟨by omega, by omega, by rw [show (W2 g (x + 28)).toNat = k.toNat by omega]; exact i2, dp.mp (by omega)⟩])⟩
      · refine T.go 1 (fun n9 => (rfl : _ = exe ξ n9 (d + 2) j_A_isFreshName 33 [(0, .ref a), (1, J x), (2, J (W2 g (x + 28))), (3, J k)] [.ref a] σ)) ?_
        refine T.get rfl rfl rfl hax1 rfl ?_
        refine T.go 2 (fun n9 => (rfl : _ = exe ξ n9 (d + 2) j_A_isFreshName 39 [(0, .ref a), (1, J x), (2, J (W2 g (x + 28))), (3, J k)] [J 46, J x, .ref (a + 1)] σ)) ?_
        refine T.iadd rfl ?_
        refine T.go 1 (fun n9 => (rfl : _ = exe ξ n9 (d + 2) j_A_isFreshName 41 [(0, .ref a), (1, J x), (2, J (W2 g (x + 28))), (3, J k)] [J k, J (x + 46), .ref (a + 1)] σ)) ?_
        refine T.iadd rfl ?_
        refine T.callv (as := [J ((x + 46) + k)]) (r := []) rfl rfl rfl (RwL_lt _ (kdX_ar _ ha).2.2.1).2.2.1 hrx2 rfl (s_R_fat (d + 1) g (a + 1) ((x + 46) + k) σ hK (kdX_ar _ ha).2.2.1 hg (by omega)) (fun v2 s2 hqs2 => ?_)
        obtain ⟨z2, rfl, esz2, hzz2, hyz2, pz2_0, pz2_1⟩ := hqs2
        rw [esz2]
        have ez2 := pz2_0 (by omega) (by omega)
        subst ez2
        have wz2 := h255 ((x + 46) + k)
        refine T.calls (as := [J (g ((x + 46) + k))]) (r := []) rfl rfl (by decide) rfl rfl (s_N_fisLetter (d + 1) (g ((x + 46) + k)) σ hK   (by omega)) (fun v3 s3 hqs3 => ?_)
        obtain ⟨z3, rfl, esz3, hzz3, hyz3, pz3_0, pz3_1⟩ := hqs3
        rw [esz3]
        refine T.if_ne rfl rfl (by omega) (fun c3 => ?_) (fun c3 => ?_)
        · refine T.iinc (lv' := [(0, .ref a), (1, J x), (2, J (W2 g (x + 28))), (3, J (k + 1))]) rfl rfl rfl rfl ?_
          refine T.go 1 (fun n9 => (rfl : _ = exe ξ n9 (d + 2) j_A_isFreshName 27 [(0, .ref a), (1, J x), (2, J (W2 g (x + 28))), (3, J (k + 1))] [] σ)) ?_
          exact ih  (k + 1) (by omega) (by omega) (by rw [LTn_step (by omega), if_pos ⟨i2, by omega, by omega⟩]) (by omega) (by omega) (by omega)
        · refine T.go 1 (fun n9 => (rfl : _ = exe ξ n9 (d + 2) j_A_isFreshName 52 [(0, .ref a), (1, J x), (2, J (W2 g (x + 28))), (3, J k)] [J 0] σ)) ?_
          exact T.iretz rfl rfl (by omega) ⟨_, rfl, rfl, by omega, by omega, (by unfold NRn; rw [hx9]; rw [if_neg (fun q => by have q9 := LTn_no (g := g) (a := x + 46) (m := (k + 1).toNat) (n := (W2 g (x + 28)).toNat) (by rw [LTn_step (by omega), if_neg (by omega)]) (by omega); omega)])⟩
  refine T.go 1 (fun n9 => (rfl : _ = exe ξ n9 (d + 2) j_A_isFreshName 1 [(0, .ref a), (1, J x)] [.ref a] σ)) ?_
  refine T.get rfl rfl rfl hax1 rfl ?_
  refine T.go 2 (fun n9 => (rfl : _ = exe ξ n9 (d + 2) j_A_isFreshName 7 [(0, .ref a), (1, J x)] [J 28, J x, .ref (a + 1)] σ)) ?_
  refine T.iadd rfl ?_
  refine T.callv (as := [J (x + 28)]) (r := []) rfl rfl rfl (RwL_lt _ (kdX_ar _ ha).2.2.1).2.2.1 hrx2 rfl (s_R_ftwo (d + 1) g (a + 1) (x + 28) σ hK (kdX_ar _ ha).2.2.1 hg (by omega)) (fun v4 s4 hqs4 => ?_)
  obtain ⟨z4, rfl, esz4, hzz4, hyz4, pz4_0, pz4_1⟩ := hqs4
  rw [esz4]
  have ez4 := pz4_0 (by omega) (by omega)
  subst ez4
  have wz4 := hW (x + 28)
  refine T.go 3 (fun n9 => (rfl : _ = exe ξ n9 (d + 2) j_A_isFreshName 14 [(0, .ref a), (1, J x), (2, J (W2 g (x + 28)))] [J 1, J (W2 g (x + 28))] σ)) ?_
  refine T.icmp_lt rfl rfl (by omega) (by omega) (fun c4 => ?_) (fun c4 => ?_)
  · refine T.go 1 (fun n9 => (rfl : _ = exe ξ n9 (d + 2) j_A_isFreshName 24 [(0, .ref a), (1, J x), (2, J (W2 g (x + 28)))] [J 0] σ)) ?_
    exact T.iretz rfl rfl (by omega) ⟨_, rfl, rfl, by omega, by omega, (by unfold NRn; rw [hx9]; rw [if_neg (by omega)])⟩
  · refine T.go 2 (fun n9 => (rfl : _ = exe ξ n9 (d + 2) j_A_isFreshName 20 [(0, .ref a), (1, J x), (2, J (W2 g (x + 28)))] [J 40, J (W2 g (x + 28))] σ)) ?_
    refine T.icmp_le rfl rfl (by omega) (by omega) (fun c5 => ?_) (fun c5 => ?_)
    · refine T.go 2 (fun n9 => (rfl : _ = exe ξ n9 (d + 2) j_A_isFreshName 27 [(0, .ref a), (1, J x), (2, J (W2 g (x + 28))), (3, J 0)] [] σ)) ?_
      exact loop27 _ 0 (by omega) (by omega) rfl (by omega) (by omega) (Nat.lt_succ_self _)
    · refine T.go 1 (fun n9 => (rfl : _ = exe ξ n9 (d + 2) j_A_isFreshName 24 [(0, .ref a), (1, J x), (2, J (W2 g (x + 28)))] [J 0] σ)) ?_
      exact T.iretz rfl rfl (by omega) ⟨_, rfl, rfl, by omega, by omega, (by unfold NRn; rw [hx9]; rw [if_neg (by omega)])⟩

set_option maxRecDepth 10000 in
set_option maxHeartbeats 4000000 in
theorem s_A_fplaceData {ξ : Nat → Option (Nat × List Int32)} (d : Nat) (g : Int → Int) (a : Nat) (x : Int) (σ : qH) (hK : K σ) (ha : a ∈ ArL) (h255 : ∀ k, 0 ≤ g k ∧ g k ≤ 255) (hg : AGR σ (a + 1) g) (rx : -2147483648 ≤ x ∧ x ≤ 2147483647) (pre0 : 0 ≤ x) (pre1 : x + 46 ≤ rl σ (a + 1)) (pre2 : x + 46 + W2 g (x + 28) ≤ rl σ (a + 1)) (pre3 : afld σ a 5 ≤ rl σ (a + 1)) (pre4 : afld σ a 6 ≤ 8000) : T ξ (d + 2) j_A_placeData 0 (lv_args 0 [.ref a, J x]) [] σ (fun v σ' => ∃ z : Int, v = some (J z) ∧ σ' = σ ∧ -1 ≤ z ∧ z ≤ 100000 ∧ (z = -1 → LRn g x (afld σ a 6 + W4 g (x + 42)) (afld σ a 5) = 0) ∧ (0 ≤ z → LRn g x (afld σ a 6 + W4 g (x + 42)) (afld σ a 5) = 1 ∧ z = afld σ a 6 + W4 g (x + 42) + 30 + W2 g (x + 28) + W2 g (afld σ a 6 + W4 g (x + 42) + 28)) ∧ (z = -1 ∨ 0 ≤ z)) := by
  have la := (ArL_lt a ha).2.1
  have hW := W2_r h255
  have hV := W4_r h255
  obtain ⟨ex1, erx1, dix1, bax1, fpx1, hax1, fx1a, fx1b, fx1c, fx1d, fx1e, fx1f, fx1g, fx1h, fx1i, fx1j⟩ := hK.arc ha
  have af3x1 := af_of (i := 3) hax1 rfl (by omega)
  subst af3x1
  have af4x1 := af_of (i := 4) hax1 rfl (by omega)
  subst af4x1
  have af5x1 := af_of (i := 5) hax1 rfl (by omega)
  subst af5x1
  have af6x1 := af_of (i := 6) hax1 rfl (by omega)
  subst af6x1
  have af7x1 := af_of (i := 7) hax1 rfl (by omega)
  subst af7x1
  obtain ⟨mx2, nx2, bx2, lx2, hrx2, hbx2, fx2a, fx2b, fx2c, fx2d, fx2e, fx2g, fx2h, fx2i⟩ := hK.row (kdX_ar _ ha).2.2.1
  have ctx2 := CT_of hrx2 hbx2
  have rwx2 := rl_of hrx2 (by omega)
  subst rwx2
  refine T.go 1 (fun n9 => (rfl : _ = exe ξ n9 (d + 2) j_A_placeData 1 [(0, .ref a), (1, J x)] [.ref a] σ)) ?_
  refine T.get rfl rfl rfl hax1 rfl ?_
  refine T.go 2 (fun n9 => (rfl : _ = exe ξ n9 (d + 2) j_A_placeData 7 [(0, .ref a), (1, J x)] [J 28, J x, .ref (a + 1)] σ)) ?_
  refine T.iadd rfl ?_
  refine T.callv (as := [J (x + 28)]) (r := []) rfl rfl rfl (RwL_lt _ (kdX_ar _ ha).2.2.1).2.2.1 hrx2 rfl (s_R_ftwo (d + 1) g (a + 1) (x + 28) σ hK (kdX_ar _ ha).2.2.1 hg (by omega)) (fun v1 s1 hqs1 => ?_)
  obtain ⟨z1, rfl, esz1, hzz1, hyz1, pz1_0, pz1_1⟩ := hqs1
  rw [esz1]
  have ez1 := pz1_0 (by omega) (by omega)
  subst ez1
  have wz1 := hW (x + 28)
  refine T.go 2 (fun n9 => (rfl : _ = exe ξ n9 (d + 2) j_A_placeData 13 [(0, .ref a), (1, J x), (2, J (W2 g (x + 28)))] [.ref a] σ)) ?_
  refine T.get rfl rfl rfl hax1 rfl ?_
  refine T.i2l rfl (by omega) ?_
  refine T.go 1 (fun n9 => (rfl : _ = exe ξ n9 (d + 2) j_A_placeData 18 [(0, .ref a), (1, J x), (2, J (W2 g (x + 28)))] [.ref a, JL (afld σ a 6)] σ)) ?_
  refine T.get rfl rfl rfl hax1 rfl ?_
  refine T.go 2 (fun n9 => (rfl : _ = exe ξ n9 (d + 2) j_A_placeData 24 [(0, .ref a), (1, J x), (2, J (W2 g (x + 28)))] [J 42, J x, .ref (a + 1), JL (afld σ a 6)] σ)) ?_
  refine T.iadd rfl ?_
  refine T.callv (as := [J (x + 42)]) (r := [JL (afld σ a 6)]) rfl rfl rfl (RwL_lt _ (kdX_ar _ ha).2.2.1).2.2.1 hrx2 rfl (s_R_ffour d g (a + 1) (x + 42) σ hK (kdX_ar _ ha).2.2.1 hg (by omega) (by omega) (by omega)) (fun v2 s2 hqs2 => ?_)
  obtain ⟨z2, rfl, esz2, hzz2, hyz2, pz2_0⟩ := hqs2
  rw [esz2]
  have ez2 := pz2_0 (by omega) (by omega)
  subst ez2
  have wz2 := hV (x + 42)
  refine T.ladd rfl ?_
  refine T.go 3 (fun n9 => (rfl : _ = exe ξ n9 (d + 2) j_A_placeData 32 [(0, .ref a), (1, J x), (2, J (W2 g (x + 28))), (3, JL ((afld σ a 6) + (W4 g (x + 42))))] [.ref a, JL ((afld σ a 6) + (W4 g (x + 42)))] σ)) ?_
  refine T.get rfl rfl rfl hax1 rfl ?_
  refine T.go 1 (fun n9 => (rfl : _ = exe ξ n9 (d + 2) j_A_placeData 37 [(0, .ref a), (1, J x), (2, J (W2 g (x + 28))), (3, JL ((afld σ a 6) + (W4 g (x + 42))))] [J 30, J (afld σ a 5), JL ((afld σ a 6) + (W4 g (x + 42)))] σ)) ?_
  refine T.isub rfl ?_
  refine T.i2l rfl (by omega) ?_
  refine T.lcmp rfl (by omega) (by omega) (fun c1 => ?_) (fun c1 => ?_) (fun c1 => ?_)
  · refine T.go 1 (fun n9 => (rfl : _ = exe ξ n9 (d + 2) j_A_placeData 45 [(0, .ref a), (1, J x), (2, J (W2 g (x + 28))), (3, JL ((afld σ a 6) + (W4 g (x + 42))))] [] σ)) ?_
    refine T.go 1 (fun n9 => (rfl : _ = exe ξ n9 (d + 2) j_A_placeData 46 [(0, .ref a), (1, J x), (2, J (W2 g (x + 28))), (3, JL ((afld σ a 6) + (W4 g (x + 42))))] [JL ((afld σ a 6) + (W4 g (x + 42)))] σ)) ?_
    refine T.l2i rfl ?_
    refine T.go 2 (fun n9 => (rfl : _ = exe ξ n9 (d + 2) j_A_placeData 50 [(0, .ref a), (1, J x), (2, J (W2 g (x + 28))), (3, JL ((afld σ a 6) + (W4 g (x + 42)))), (5, J ((afld σ a 6) + (W4 g (x + 42))))] [.ref a] σ)) ?_
    refine T.get rfl rfl rfl hax1 rfl ?_
    refine T.go 3 (fun n9 => (rfl : _ = exe ξ n9 (d + 2) j_A_placeData 57 [(0, .ref a), (1, J x), (2, J (W2 g (x + 28))), (3, JL ((afld σ a 6) + (W4 g (x + 42)))), (5, J ((afld σ a 6) + (W4 g (x + 42))))] [J 4, J 3, J ((afld σ a 6) + (W4 g (x + 42))), .ref (a + 1)] σ)) ?_
    refine T.callv (as := [J ((afld σ a 6) + (W4 g (x + 42))), J 3, J 4]) (r := []) rfl rfl rfl (RwL_lt _ (kdX_ar _ ha).2.2.1).2.2.1 hrx2 rfl (s_R_fhasMark d g (a + 1) ((afld σ a 6) + (W4 g (x + 42))) 3 4 σ hK (kdX_ar _ ha).2.2.1 hg (by omega) (by omega) (by omega) (by omega) (by omega)) (fun v3 s3 hqs3 => ?_)
    obtain ⟨z3, rfl, esz3, hzz3, hyz3, pz3_0⟩ := hqs3
    rw [esz3]
    have ez3 := pz3_0 (by omega) (by omega)
    refine T.if_eq rfl rfl (by omega) (fun c2 => ?_) (fun c2 => ?_)
    · refine T.go 1 (fun n9 => (rfl : _ = exe ξ n9 (d + 2) j_A_placeData 80 [(0, .ref a), (1, J x), (2, J (W2 g (x + 28))), (3, JL ((afld σ a 6) + (W4 g (x + 42)))), (5, J ((afld σ a 6) + (W4 g (x + 42))))] [J (-1)] σ)) ?_
      exact T.ireti rfl rfl ⟨_, rfl, rfl, by omega, by omega, (fun q => by unfold LRn; rw [if_neg (by first | omega | (rw [← EQ2_self]; omega))]), (fun q => by omega), by omega⟩
    · refine T.go 1 (fun n9 => (rfl : _ = exe ξ n9 (d + 2) j_A_placeData 64 [(0, .ref a), (1, J x), (2, J (W2 g (x + 28))), (3, JL ((afld σ a 6) + (W4 g (x + 42)))), (5, J ((afld σ a 6) + (W4 g (x + 42))))] [.ref a] σ)) ?_
      refine T.get rfl rfl rfl hax1 rfl ?_
      refine T.go 2 (fun n9 => (rfl : _ = exe ξ n9 (d + 2) j_A_placeData 71 [(0, .ref a), (1, J x), (2, J (W2 g (x + 28))), (3, JL ((afld σ a 6) + (W4 g (x + 42)))), (5, J ((afld σ a 6) + (W4 g (x + 42))))] [J 26, J ((afld σ a 6) + (W4 g (x + 42))), .ref (a + 1)] σ)) ?_
      refine T.iadd rfl ?_
      refine T.callv (as := [J (((afld σ a 6) + (W4 g (x + 42))) + 26)]) (r := []) rfl rfl rfl (RwL_lt _ (kdX_ar _ ha).2.2.1).2.2.1 hrx2 rfl (s_R_ftwo (d + 1) g (a + 1) (((afld σ a 6) + (W4 g (x + 42))) + 26) σ hK (kdX_ar _ ha).2.2.1 hg (by omega)) (fun v4 s4 hqs4 => ?_)
      obtain ⟨z4, rfl, esz4, hzz4, hyz4, pz4_0, pz4_1⟩ := hqs4
      rw [esz4]
      have ez4 := pz4_0 (by omega) (by omega)
      subst ez4
      have wz4 := hW (((afld σ a 6) + (W4 g (x + 42))) + 26)
      refine T.go 1 (fun n9 => (rfl : _ = exe ξ n9 (d + 2) j_A_placeData 76 [(0, .ref a), (1, J x), (2, J (W2 g (x + 28))), (3, JL ((afld σ a 6) + (W4 g (x + 42)))), (5, J ((afld σ a 6) + (W4 g (x + 42))))] [J (W2 g (x + 28)), J (W2 g (((afld σ a 6) + (W4 g (x + 42))) + 26))] σ)) ?_
      refine T.icmp_eq rfl rfl (by omega) (by omega) (fun c3 => ?_) (fun c3 => ?_)
      · refine T.go 2 (fun n9 => (rfl : _ = exe ξ n9 (d + 2) j_A_placeData 85 [(0, .ref a), (1, J x), (2, J (W2 g (x + 28))), (3, JL ((afld σ a 6) + (W4 g (x + 42)))), (5, J ((afld σ a 6) + (W4 g (x + 42))))] [J 30, J ((afld σ a 6) + (W4 g (x + 42)))] σ)) ?_
        refine T.iadd rfl ?_
        refine T.go 1 (fun n9 => (rfl : _ = exe ξ n9 (d + 2) j_A_placeData 87 [(0, .ref a), (1, J x), (2, J (W2 g (x + 28))), (3, JL ((afld σ a 6) + (W4 g (x + 42)))), (5, J ((afld σ a 6) + (W4 g (x + 42))))] [J (W2 g (x + 28)), J (((afld σ a 6) + (W4 g (x + 42))) + 30)] σ)) ?_
        refine T.iadd rfl ?_
        refine T.go 1 (fun n9 => (rfl : _ = exe ξ n9 (d + 2) j_A_placeData 89 [(0, .ref a), (1, J x), (2, J (W2 g (x + 28))), (3, JL ((afld σ a 6) + (W4 g (x + 42)))), (5, J ((afld σ a 6) + (W4 g (x + 42))))] [.ref a, J ((((afld σ a 6) + (W4 g (x + 42))) + 30) + (W2 g (x + 28)))] σ)) ?_
        refine T.get rfl rfl rfl hax1 rfl ?_
        refine T.go 2 (fun n9 => (rfl : _ = exe ξ n9 (d + 2) j_A_placeData 96 [(0, .ref a), (1, J x), (2, J (W2 g (x + 28))), (3, JL ((afld σ a 6) + (W4 g (x + 42)))), (5, J ((afld σ a 6) + (W4 g (x + 42))))] [J 28, J ((afld σ a 6) + (W4 g (x + 42))), .ref (a + 1), J ((((afld σ a 6) + (W4 g (x + 42))) + 30) + (W2 g (x + 28)))] σ)) ?_
        refine T.iadd rfl ?_
        refine T.callv (as := [J (((afld σ a 6) + (W4 g (x + 42))) + 28)]) (r := [J ((((afld σ a 6) + (W4 g (x + 42))) + 30) + (W2 g (x + 28)))]) rfl rfl rfl (RwL_lt _ (kdX_ar _ ha).2.2.1).2.2.1 hrx2 rfl (s_R_ftwo (d + 1) g (a + 1) (((afld σ a 6) + (W4 g (x + 42))) + 28) σ hK (kdX_ar _ ha).2.2.1 hg (by omega)) (fun v5 s5 hqs5 => ?_)
        obtain ⟨z5, rfl, esz5, hzz5, hyz5, pz5_0, pz5_1⟩ := hqs5
        rw [esz5]
        have ez5 := pz5_0 (by omega) (by omega)
        subst ez5
        have wz5 := hW (((afld σ a 6) + (W4 g (x + 42))) + 28)
        refine T.iadd rfl ?_
        refine T.go 2 (fun n9 => (rfl : _ = exe ξ n9 (d + 2) j_A_placeData 105 [(0, .ref a), (1, J x), (2, J (W2 g (x + 28))), (3, JL ((afld σ a 6) + (W4 g (x + 42)))), (5, J ((afld σ a 6) + (W4 g (x + 42)))), (6, J (((((afld σ a 6) + (W4 g (x + 42))) + 30) + (W2 g (x + 28))) + (W2 g (((afld σ a 6) + (W4 g (x + 42))) + 28))))] [J (((((afld σ a 6) + (W4 g (x + 42))) + 30) + (W2 g (x + 28))) + (W2 g (((afld σ a 6) + (W4 g (x + 42))) + 28)))] σ)) ?_
        refine T.i2l rfl (by omega) ?_
        refine T.go 1 (fun n9 => (rfl : _ = exe ξ n9 (d + 2) j_A_placeData 107 [(0, .ref a), (1, J x), (2, J (W2 g (x + 28))), (3, JL ((afld σ a 6) + (W4 g (x + 42)))), (5, J ((afld σ a 6) + (W4 g (x + 42)))), (6, J (((((afld σ a 6) + (W4 g (x + 42))) + 30) + (W2 g (x + 28))) + (W2 g (((afld σ a 6) + (W4 g (x + 42))) + 28))))] [.ref a, JL (((((afld σ a 6) + (W4 g (x + 42))) + 30) + (W2 g (x + 28))) + (W2 g (((afld σ a 6) + (W4 g (x + 42))) + 28)))] σ)) ?_
        refine T.get rfl rfl rfl hax1 rfl ?_
        refine T.go 2 (fun n9 => (rfl : _ = exe ξ n9 (d + 2) j_A_placeData 113 [(0, .ref a), (1, J x), (2, J (W2 g (x + 28))), (3, JL ((afld σ a 6) + (W4 g (x + 42)))), (5, J ((afld σ a 6) + (W4 g (x + 42)))), (6, J (((((afld σ a 6) + (W4 g (x + 42))) + 30) + (W2 g (x + 28))) + (W2 g (((afld σ a 6) + (W4 g (x + 42))) + 28))))] [J 20, J x, .ref (a + 1), JL (((((afld σ a 6) + (W4 g (x + 42))) + 30) + (W2 g (x + 28))) + (W2 g (((afld σ a 6) + (W4 g (x + 42))) + 28)))] σ)) ?_
        refine T.iadd rfl ?_
        refine T.callv (as := [J (x + 20)]) (r := [JL (((((afld σ a 6) + (W4 g (x + 42))) + 30) + (W2 g (x + 28))) + (W2 g (((afld σ a 6) + (W4 g (x + 42))) + 28)))]) rfl rfl rfl (RwL_lt _ (kdX_ar _ ha).2.2.1).2.2.1 hrx2 rfl (s_R_ffour d g (a + 1) (x + 20) σ hK (kdX_ar _ ha).2.2.1 hg (by omega) (by omega) (by omega)) (fun v6 s6 hqs6 => ?_)
        obtain ⟨z6, rfl, esz6, hzz6, hyz6, pz6_0⟩ := hqs6
        rw [esz6]
        have ez6 := pz6_0 (by omega) (by omega)
        subst ez6
        have wz6 := hV (x + 20)
        refine T.ladd rfl ?_
        refine T.go 1 (fun n9 => (rfl : _ = exe ξ n9 (d + 2) j_A_placeData 119 [(0, .ref a), (1, J x), (2, J (W2 g (x + 28))), (3, JL ((afld σ a 6) + (W4 g (x + 42)))), (5, J ((afld σ a 6) + (W4 g (x + 42)))), (6, J (((((afld σ a 6) + (W4 g (x + 42))) + 30) + (W2 g (x + 28))) + (W2 g (((afld σ a 6) + (W4 g (x + 42))) + 28))))] [.ref a, JL ((((((afld σ a 6) + (W4 g (x + 42))) + 30) + (W2 g (x + 28))) + (W2 g (((afld σ a 6) + (W4 g (x + 42))) + 28))) + (W4 g (x + 20)))] σ)) ?_
        refine T.get rfl rfl rfl hax1 rfl ?_
        refine T.i2l rfl (by omega) ?_
        refine T.lcmp rfl (by omega) (by omega) (fun c4 => ?_) (fun c4 => ?_) (fun c4 => ?_)
        · refine T.go 1 (fun n9 => (rfl : _ = exe ξ n9 (d + 2) j_A_placeData 127 [(0, .ref a), (1, J x), (2, J (W2 g (x + 28))), (3, JL ((afld σ a 6) + (W4 g (x + 42)))), (5, J ((afld σ a 6) + (W4 g (x + 42)))), (6, J (((((afld σ a 6) + (W4 g (x + 42))) + 30) + (W2 g (x + 28))) + (W2 g (((afld σ a 6) + (W4 g (x + 42))) + 28))))] [] σ)) ?_
          refine T.go 1 (fun n9 => (rfl : _ = exe ξ n9 (d + 2) j_A_placeData 128 [(0, .ref a), (1, J x), (2, J (W2 g (x + 28))), (3, JL ((afld σ a 6) + (W4 g (x + 42)))), (5, J ((afld σ a 6) + (W4 g (x + 42)))), (6, J (((((afld σ a 6) + (W4 g (x + 42))) + 30) + (W2 g (x + 28))) + (W2 g (((afld σ a 6) + (W4 g (x + 42))) + 28))))] [.ref a] σ)) ?_
          refine T.get rfl rfl rfl hax1 rfl ?_
          refine T.go 2 (fun n9 => (rfl : _ = exe ξ n9 (d + 2) j_A_placeData 135 [(0, .ref a), (1, J x), (2, J (W2 g (x + 28))), (3, JL ((afld σ a 6) + (W4 g (x + 42)))), (5, J ((afld σ a 6) + (W4 g (x + 42)))), (6, J (((((afld σ a 6) + (W4 g (x + 42))) + 30) + (W2 g (x + 28))) + (W2 g (((afld σ a 6) + (W4 g (x + 42))) + 28))))] [J 30, J ((afld σ a 6) + (W4 g (x + 42))), .ref (a + 1)] σ)) ?_
          refine T.iadd rfl ?_
          refine T.go 1 (fun n9 => (rfl : _ = exe ξ n9 (d + 2) j_A_placeData 137 [(0, .ref a), (1, J x), (2, J (W2 g (x + 28))), (3, JL ((afld σ a 6) + (W4 g (x + 42)))), (5, J ((afld σ a 6) + (W4 g (x + 42)))), (6, J (((((afld σ a 6) + (W4 g (x + 42))) + 30) + (W2 g (x + 28))) + (W2 g (((afld σ a 6) + (W4 g (x + 42))) + 28))))] [.ref a, J (((afld σ a 6) + (W4 g (x + 42))) + 30), .ref (a + 1)] σ)) ?_
          refine T.get rfl rfl rfl hax1 rfl ?_
          refine T.go 2 (fun n9 => (rfl : _ = exe ξ n9 (d + 2) j_A_placeData 143 [(0, .ref a), (1, J x), (2, J (W2 g (x + 28))), (3, JL ((afld σ a 6) + (W4 g (x + 42)))), (5, J ((afld σ a 6) + (W4 g (x + 42)))), (6, J (((((afld σ a 6) + (W4 g (x + 42))) + 30) + (W2 g (x + 28))) + (W2 g (((afld σ a 6) + (W4 g (x + 42))) + 28))))] [J 46, J x, .ref (a + 1), J (((afld σ a 6) + (W4 g (x + 42))) + 30), .ref (a + 1)] σ)) ?_
          refine T.iadd rfl ?_
          refine T.go 1 (fun n9 => (rfl : _ = exe ξ n9 (d + 2) j_A_placeData 145 [(0, .ref a), (1, J x), (2, J (W2 g (x + 28))), (3, JL ((afld σ a 6) + (W4 g (x + 42)))), (5, J ((afld σ a 6) + (W4 g (x + 42)))), (6, J (((((afld σ a 6) + (W4 g (x + 42))) + 30) + (W2 g (x + 28))) + (W2 g (((afld σ a 6) + (W4 g (x + 42))) + 28))))] [J (W2 g (x + 28)), J (x + 46), .ref (a + 1), J (((afld σ a 6) + (W4 g (x + 42))) + 30), .ref (a + 1)] σ)) ?_
          refine T.callv (as := [J (((afld σ a 6) + (W4 g (x + 42))) + 30), .ref (a + 1), J (x + 46), J (W2 g (x + 28))]) (r := []) rfl rfl rfl (RwL_lt _ (kdX_ar _ ha).2.2.1).2.2.1 hrx2 rfl (s_R_fhasPart (d + 1) g g (a + 1) (((afld σ a 6) + (W4 g (x + 42))) + 30) (a + 1) (x + 46) (W2 g (x + 28)) σ hK (kdX_ar _ ha).2.2.1 (kdX_ar _ ha).2.2.1 hg hg (by omega) (by omega) (by omega) (by omega) (by omega) (by omega) (by omega) (by omega) (by omega)) (fun v7 s7 hqs7 => ?_)
          obtain ⟨z7, rfl, esz7, hzz7, hyz7, pz7_0⟩ := hqs7
          rw [esz7]
          have ez7 := pz7_0 (by omega) (by omega) (by omega) (by omega) (by omega)
          refine T.if_ne rfl rfl (by omega) (fun c5 => ?_) (fun c5 => ?_)
          · refine T.go 1 (fun n9 => (rfl : _ = exe ξ n9 (d + 2) j_A_placeData 155 [(0, .ref a), (1, J x), (2, J (W2 g (x + 28))), (3, JL ((afld σ a 6) + (W4 g (x + 42)))), (5, J ((afld σ a 6) + (W4 g (x + 42)))), (6, J (((((afld σ a 6) + (W4 g (x + 42))) + 30) + (W2 g (x + 28))) + (W2 g (((afld σ a 6) + (W4 g (x + 42))) + 28))))] [J (((((afld σ a 6) + (W4 g (x + 42))) + 30) + (W2 g (x + 28))) + (W2 g (((afld σ a 6) + (W4 g (x + 42))) + 28)))] σ)) ?_
            exact T.ireti rfl rfl ⟨_, rfl, rfl, by omega, by omega, (fun q => by omega), (fun q => ⟨by unfold LRn; rw [if_pos ⟨by omega, by omega, by omega, by rw [← EQ2_self]; omega, by omega⟩], by omega⟩), by omega⟩
          · refine T.go 1 (fun n9 => (rfl : _ = exe ξ n9 (d + 2) j_A_placeData 152 [(0, .ref a), (1, J x), (2, J (W2 g (x + 28))), (3, JL ((afld σ a 6) + (W4 g (x + 42)))), (5, J ((afld σ a 6) + (W4 g (x + 42)))), (6, J (((((afld σ a 6) + (W4 g (x + 42))) + 30) + (W2 g (x + 28))) + (W2 g (((afld σ a 6) + (W4 g (x + 42))) + 28))))] [J (-1)] σ)) ?_
            exact T.ireti rfl rfl ⟨_, rfl, rfl, by omega, by omega, (fun q => by unfold LRn; rw [if_neg (by first | omega | (rw [← EQ2_self]; omega))]), (fun q => by omega), by omega⟩
        · refine T.go 1 (fun n9 => (rfl : _ = exe ξ n9 (d + 2) j_A_placeData 127 [(0, .ref a), (1, J x), (2, J (W2 g (x + 28))), (3, JL ((afld σ a 6) + (W4 g (x + 42)))), (5, J ((afld σ a 6) + (W4 g (x + 42)))), (6, J (((((afld σ a 6) + (W4 g (x + 42))) + 30) + (W2 g (x + 28))) + (W2 g (((afld σ a 6) + (W4 g (x + 42))) + 28))))] [] σ)) ?_
          refine T.go 1 (fun n9 => (rfl : _ = exe ξ n9 (d + 2) j_A_placeData 128 [(0, .ref a), (1, J x), (2, J (W2 g (x + 28))), (3, JL ((afld σ a 6) + (W4 g (x + 42)))), (5, J ((afld σ a 6) + (W4 g (x + 42)))), (6, J (((((afld σ a 6) + (W4 g (x + 42))) + 30) + (W2 g (x + 28))) + (W2 g (((afld σ a 6) + (W4 g (x + 42))) + 28))))] [.ref a] σ)) ?_
          refine T.get rfl rfl rfl hax1 rfl ?_
          refine T.go 2 (fun n9 => (rfl : _ = exe ξ n9 (d + 2) j_A_placeData 135 [(0, .ref a), (1, J x), (2, J (W2 g (x + 28))), (3, JL ((afld σ a 6) + (W4 g (x + 42)))), (5, J ((afld σ a 6) + (W4 g (x + 42)))), (6, J (((((afld σ a 6) + (W4 g (x + 42))) + 30) + (W2 g (x + 28))) + (W2 g (((afld σ a 6) + (W4 g (x + 42))) + 28))))] [J 30, J ((afld σ a 6) + (W4 g (x + 42))), .ref (a + 1)] σ)) ?_
          refine T.iadd rfl ?_
          refine T.go 1 (fun n9 => (rfl : _ = exe ξ n9 (d + 2) j_A_placeData 137 [(0, .ref a), (1, J x), (2, J (W2 g (x + 28))), (3, JL ((afld σ a 6) + (W4 g (x + 42)))), (5, J ((afld σ a 6) + (W4 g (x + 42)))), (6, J (((((afld σ a 6) + (W4 g (x + 42))) + 30) + (W2 g (x + 28))) + (W2 g (((afld σ a 6) + (W4 g (x + 42))) + 28))))] [.ref a, J (((afld σ a 6) + (W4 g (x + 42))) + 30), .ref (a + 1)] σ)) ?_
          refine T.get rfl rfl rfl hax1 rfl ?_
          refine T.go 2 (fun n9 => (rfl : _ = exe ξ n9 (d + 2) j_A_placeData 143 [(0, .ref a), (1, J x), (2, J (W2 g (x + 28))), (3, JL ((afld σ a 6) + (W4 g (x + 42)))), (5, J ((afld σ a 6) + (W4 g (x + 42)))), (6, J (((((afld σ a 6) + (W4 g (x + 42))) + 30) + (W2 g (x + 28))) + (W2 g (((afld σ a 6) + (W4 g (x + 42))) + 28))))] [J 46, J x, .ref (a + 1), J (((afld σ a 6) + (W4 g (x + 42))) + 30), .ref (a + 1)] σ)) ?_
          refine T.iadd rfl ?_
          refine T.go 1 (fun n9 => (rfl : _ = exe ξ n9 (d + 2) j_A_placeData 145 [(0, .ref a), (1, J x), (2, J (W2 g (x + 28))), (3, JL ((afld σ a 6) + (W4 g (x + 42)))), (5, J ((afld σ a 6) + (W4 g (x + 42)))), (6, J (((((afld σ a 6) + (W4 g (x + 42))) + 30) + (W2 g (x + 28))) + (W2 g (((afld σ a 6) + (W4 g (x + 42))) + 28))))] [J (W2 g (x + 28)), J (x + 46), .ref (a + 1), J (((afld σ a 6) + (W4 g (x + 42))) + 30), .ref (a + 1)] σ)) ?_
          refine T.callv (as := [J (((afld σ a 6) + (W4 g (x + 42))) + 30), .ref (a + 1), J (x + 46), J (W2 g (x + 28))]) (r := []) rfl rfl rfl (RwL_lt _ (kdX_ar _ ha).2.2.1).2.2.1 hrx2 rfl (s_R_fhasPart (d + 1) g g (a + 1) (((afld σ a 6) + (W4 g (x + 42))) + 30) (a + 1) (x + 46) (W2 g (x + 28)) σ hK (kdX_ar _ ha).2.2.1 (kdX_ar _ ha).2.2.1 hg hg (by omega) (by omega) (by omega) (by omega) (by omega) (by omega) (by omega) (by omega) (by omega)) (fun v8 s8 hqs8 => ?_)
          obtain ⟨z8, rfl, esz8, hzz8, hyz8, pz8_0⟩ := hqs8
          rw [esz8]
          have ez8 := pz8_0 (by omega) (by omega) (by omega) (by omega) (by omega)
          refine T.if_ne rfl rfl (by omega) (fun c6 => ?_) (fun c6 => ?_)
          · refine T.go 1 (fun n9 => (rfl : _ = exe ξ n9 (d + 2) j_A_placeData 155 [(0, .ref a), (1, J x), (2, J (W2 g (x + 28))), (3, JL ((afld σ a 6) + (W4 g (x + 42)))), (5, J ((afld σ a 6) + (W4 g (x + 42)))), (6, J (((((afld σ a 6) + (W4 g (x + 42))) + 30) + (W2 g (x + 28))) + (W2 g (((afld σ a 6) + (W4 g (x + 42))) + 28))))] [J (((((afld σ a 6) + (W4 g (x + 42))) + 30) + (W2 g (x + 28))) + (W2 g (((afld σ a 6) + (W4 g (x + 42))) + 28)))] σ)) ?_
            exact T.ireti rfl rfl ⟨_, rfl, rfl, by omega, by omega, (fun q => by omega), (fun q => ⟨by unfold LRn; rw [if_pos ⟨by omega, by omega, by omega, by rw [← EQ2_self]; omega, by omega⟩], by omega⟩), by omega⟩
          · refine T.go 1 (fun n9 => (rfl : _ = exe ξ n9 (d + 2) j_A_placeData 152 [(0, .ref a), (1, J x), (2, J (W2 g (x + 28))), (3, JL ((afld σ a 6) + (W4 g (x + 42)))), (5, J ((afld σ a 6) + (W4 g (x + 42)))), (6, J (((((afld σ a 6) + (W4 g (x + 42))) + 30) + (W2 g (x + 28))) + (W2 g (((afld σ a 6) + (W4 g (x + 42))) + 28))))] [J (-1)] σ)) ?_
            exact T.ireti rfl rfl ⟨_, rfl, rfl, by omega, by omega, (fun q => by unfold LRn; rw [if_neg (by first | omega | (rw [← EQ2_self]; omega))]), (fun q => by omega), by omega⟩
        · refine T.go 1 (fun n9 => (rfl : _ = exe ξ n9 (d + 2) j_A_placeData 151 [(0, .ref a), (1, J x), (2, J (W2 g (x + 28))), (3, JL ((afld σ a 6) + (W4 g (x + 42)))), (5, J ((afld σ a 6) + (W4 g (x + 42)))), (6, J (((((afld σ a 6) + (W4 g (x + 42))) + 30) + (W2 g (x + 28))) + (W2 g (((afld σ a 6) + (W4 g (x + 42))) + 28))))] [] σ)) ?_
          refine T.go 1 (fun n9 => (rfl : _ = exe ξ n9 (d + 2) j_A_placeData 152 [(0, .ref a), (1, J x), (2, J (W2 g (x + 28))), (3, JL ((afld σ a 6) + (W4 g (x + 42)))), (5, J ((afld σ a 6) + (W4 g (x + 42)))), (6, J (((((afld σ a 6) + (W4 g (x + 42))) + 30) + (W2 g (x + 28))) + (W2 g (((afld σ a 6) + (W4 g (x + 42))) + 28))))] [J (-1)] σ)) ?_
          exact T.ireti rfl rfl ⟨_, rfl, rfl, by omega, by omega, (fun q => by unfold LRn; rw [if_neg (by first | omega | (rw [← EQ2_self]; omega))]), (fun q => by omega), by omega⟩
      · refine T.go 1 (fun n9 => (rfl : _ = exe ξ n9 (d + 2) j_A_placeData 80 [(0, .ref a), (1, J x), (2, J (W2 g (x + 28))), (3, JL ((afld σ a 6) + (W4 g (x + 42)))), (5, J ((afld σ a 6) + (W4 g (x + 42))))] [J (-1)] σ)) ?_
        exact T.ireti rfl rfl ⟨_, rfl, rfl, by omega, by omega, (fun q => by unfold LRn; rw [if_neg (by first | omega | (rw [← EQ2_self]; omega))]), (fun q => by omega), by omega⟩
  · refine T.go 1 (fun n9 => (rfl : _ = exe ξ n9 (d + 2) j_A_placeData 45 [(0, .ref a), (1, J x), (2, J (W2 g (x + 28))), (3, JL ((afld σ a 6) + (W4 g (x + 42))))] [] σ)) ?_
    refine T.go 1 (fun n9 => (rfl : _ = exe ξ n9 (d + 2) j_A_placeData 46 [(0, .ref a), (1, J x), (2, J (W2 g (x + 28))), (3, JL ((afld σ a 6) + (W4 g (x + 42))))] [JL ((afld σ a 6) + (W4 g (x + 42)))] σ)) ?_
    refine T.l2i rfl ?_
    refine T.go 2 (fun n9 => (rfl : _ = exe ξ n9 (d + 2) j_A_placeData 50 [(0, .ref a), (1, J x), (2, J (W2 g (x + 28))), (3, JL ((afld σ a 6) + (W4 g (x + 42)))), (5, J ((afld σ a 6) + (W4 g (x + 42))))] [.ref a] σ)) ?_
    refine T.get rfl rfl rfl hax1 rfl ?_
    refine T.go 3 (fun n9 => (rfl : _ = exe ξ n9 (d + 2) j_A_placeData 57 [(0, .ref a), (1, J x), (2, J (W2 g (x + 28))), (3, JL ((afld σ a 6) + (W4 g (x + 42)))), (5, J ((afld σ a 6) + (W4 g (x + 42))))] [J 4, J 3, J ((afld σ a 6) + (W4 g (x + 42))), .ref (a + 1)] σ)) ?_
    refine T.callv (as := [J ((afld σ a 6) + (W4 g (x + 42))), J 3, J 4]) (r := []) rfl rfl rfl (RwL_lt _ (kdX_ar _ ha).2.2.1).2.2.1 hrx2 rfl (s_R_fhasMark d g (a + 1) ((afld σ a 6) + (W4 g (x + 42))) 3 4 σ hK (kdX_ar _ ha).2.2.1 hg (by omega) (by omega) (by omega) (by omega) (by omega)) (fun v9 s9 hqs9 => ?_)
    obtain ⟨z9, rfl, esz9, hzz9, hyz9, pz9_0⟩ := hqs9
    rw [esz9]
    have ez9 := pz9_0 (by omega) (by omega)
    refine T.if_eq rfl rfl (by omega) (fun c7 => ?_) (fun c7 => ?_)
    · refine T.go 1 (fun n9 => (rfl : _ = exe ξ n9 (d + 2) j_A_placeData 80 [(0, .ref a), (1, J x), (2, J (W2 g (x + 28))), (3, JL ((afld σ a 6) + (W4 g (x + 42)))), (5, J ((afld σ a 6) + (W4 g (x + 42))))] [J (-1)] σ)) ?_
      exact T.ireti rfl rfl ⟨_, rfl, rfl, by omega, by omega, (fun q => by unfold LRn; rw [if_neg (by first | omega | (rw [← EQ2_self]; omega))]), (fun q => by omega), by omega⟩
    · refine T.go 1 (fun n9 => (rfl : _ = exe ξ n9 (d + 2) j_A_placeData 64 [(0, .ref a), (1, J x), (2, J (W2 g (x + 28))), (3, JL ((afld σ a 6) + (W4 g (x + 42)))), (5, J ((afld σ a 6) + (W4 g (x + 42))))] [.ref a] σ)) ?_
      refine T.get rfl rfl rfl hax1 rfl ?_
      refine T.go 2 (fun n9 => (rfl : _ = exe ξ n9 (d + 2) j_A_placeData 71 [(0, .ref a), (1, J x), (2, J (W2 g (x + 28))), (3, JL ((afld σ a 6) + (W4 g (x + 42)))), (5, J ((afld σ a 6) + (W4 g (x + 42))))] [J 26, J ((afld σ a 6) + (W4 g (x + 42))), .ref (a + 1)] σ)) ?_
      refine T.iadd rfl ?_
      refine T.callv (as := [J (((afld σ a 6) + (W4 g (x + 42))) + 26)]) (r := []) rfl rfl rfl (RwL_lt _ (kdX_ar _ ha).2.2.1).2.2.1 hrx2 rfl (s_R_ftwo (d + 1) g (a + 1) (((afld σ a 6) + (W4 g (x + 42))) + 26) σ hK (kdX_ar _ ha).2.2.1 hg (by omega)) (fun v10 s10 hqs10 => ?_)
      obtain ⟨z10, rfl, esz10, hzz10, hyz10, pz10_0, pz10_1⟩ := hqs10
      rw [esz10]
      have ez10 := pz10_0 (by omega) (by omega)
      subst ez10
      have wz10 := hW (((afld σ a 6) + (W4 g (x + 42))) + 26)
      refine T.go 1 (fun n9 => (rfl : _ = exe ξ n9 (d + 2) j_A_placeData 76 [(0, .ref a), (1, J x), (2, J (W2 g (x + 28))), (3, JL ((afld σ a 6) + (W4 g (x + 42)))), (5, J ((afld σ a 6) + (W4 g (x + 42))))] [J (W2 g (x + 28)), J (W2 g (((afld σ a 6) + (W4 g (x + 42))) + 26))] σ)) ?_
      refine T.icmp_eq rfl rfl (by omega) (by omega) (fun c8 => ?_) (fun c8 => ?_)
      · refine T.go 2 (fun n9 => (rfl : _ = exe ξ n9 (d + 2) j_A_placeData 85 [(0, .ref a), (1, J x), (2, J (W2 g (x + 28))), (3, JL ((afld σ a 6) + (W4 g (x + 42)))), (5, J ((afld σ a 6) + (W4 g (x + 42))))] [J 30, J ((afld σ a 6) + (W4 g (x + 42)))] σ)) ?_
        refine T.iadd rfl ?_
        refine T.go 1 (fun n9 => (rfl : _ = exe ξ n9 (d + 2) j_A_placeData 87 [(0, .ref a), (1, J x), (2, J (W2 g (x + 28))), (3, JL ((afld σ a 6) + (W4 g (x + 42)))), (5, J ((afld σ a 6) + (W4 g (x + 42))))] [J (W2 g (x + 28)), J (((afld σ a 6) + (W4 g (x + 42))) + 30)] σ)) ?_
        refine T.iadd rfl ?_
        refine T.go 1 (fun n9 => (rfl : _ = exe ξ n9 (d + 2) j_A_placeData 89 [(0, .ref a), (1, J x), (2, J (W2 g (x + 28))), (3, JL ((afld σ a 6) + (W4 g (x + 42)))), (5, J ((afld σ a 6) + (W4 g (x + 42))))] [.ref a, J ((((afld σ a 6) + (W4 g (x + 42))) + 30) + (W2 g (x + 28)))] σ)) ?_
        refine T.get rfl rfl rfl hax1 rfl ?_
        refine T.go 2 (fun n9 => (rfl : _ = exe ξ n9 (d + 2) j_A_placeData 96 [(0, .ref a), (1, J x), (2, J (W2 g (x + 28))), (3, JL ((afld σ a 6) + (W4 g (x + 42)))), (5, J ((afld σ a 6) + (W4 g (x + 42))))] [J 28, J ((afld σ a 6) + (W4 g (x + 42))), .ref (a + 1), J ((((afld σ a 6) + (W4 g (x + 42))) + 30) + (W2 g (x + 28)))] σ)) ?_
        refine T.iadd rfl ?_
        refine T.callv (as := [J (((afld σ a 6) + (W4 g (x + 42))) + 28)]) (r := [J ((((afld σ a 6) + (W4 g (x + 42))) + 30) + (W2 g (x + 28)))]) rfl rfl rfl (RwL_lt _ (kdX_ar _ ha).2.2.1).2.2.1 hrx2 rfl (s_R_ftwo (d + 1) g (a + 1) (((afld σ a 6) + (W4 g (x + 42))) + 28) σ hK (kdX_ar _ ha).2.2.1 hg (by omega)) (fun v11 s11 hqs11 => ?_)
        obtain ⟨z11, rfl, esz11, hzz11, hyz11, pz11_0, pz11_1⟩ := hqs11
        rw [esz11]
        have ez11 := pz11_0 (by omega) (by omega)
        subst ez11
        have wz11 := hW (((afld σ a 6) + (W4 g (x + 42))) + 28)
        refine T.iadd rfl ?_
        refine T.go 2 (fun n9 => (rfl : _ = exe ξ n9 (d + 2) j_A_placeData 105 [(0, .ref a), (1, J x), (2, J (W2 g (x + 28))), (3, JL ((afld σ a 6) + (W4 g (x + 42)))), (5, J ((afld σ a 6) + (W4 g (x + 42)))), (6, J (((((afld σ a 6) + (W4 g (x + 42))) + 30) + (W2 g (x + 28))) + (W2 g (((afld σ a 6) + (W4 g (x + 42))) + 28))))] [J (((((afld σ a 6) + (W4 g (x + 42))) + 30) + (W2 g (x + 28))) + (W2 g (((afld σ a 6) + (W4 g (x + 42))) + 28)))] σ)) ?_
        refine T.i2l rfl (by omega) ?_
        refine T.go 1 (fun n9 => (rfl : _ = exe ξ n9 (d + 2) j_A_placeData 107 [(0, .ref a), (1, J x), (2, J (W2 g (x + 28))), (3, JL ((afld σ a 6) + (W4 g (x + 42)))), (5, J ((afld σ a 6) + (W4 g (x + 42)))), (6, J (((((afld σ a 6) + (W4 g (x + 42))) + 30) + (W2 g (x + 28))) + (W2 g (((afld σ a 6) + (W4 g (x + 42))) + 28))))] [.ref a, JL (((((afld σ a 6) + (W4 g (x + 42))) + 30) + (W2 g (x + 28))) + (W2 g (((afld σ a 6) + (W4 g (x + 42))) + 28)))] σ)) ?_
        refine T.get rfl rfl rfl hax1 rfl ?_
        refine T.go 2 (fun n9 => (rfl : _ = exe ξ n9 (d + 2) j_A_placeData 113 [(0, .ref a), (1, J x), (2, J (W2 g (x + 28))), (3, JL ((afld σ a 6) + (W4 g (x + 42)))), (5, J ((afld σ a 6) + (W4 g (x + 42)))), (6, J (((((afld σ a 6) + (W4 g (x + 42))) + 30) + (W2 g (x + 28))) + (W2 g (((afld σ a 6) + (W4 g (x + 42))) + 28))))] [J 20, J x, .ref (a + 1), JL (((((afld σ a 6) + (W4 g (x + 42))) + 30) + (W2 g (x + 28))) + (W2 g (((afld σ a 6) + (W4 g (x + 42))) + 28)))] σ)) ?_
        refine T.iadd rfl ?_
        refine T.callv (as := [J (x + 20)]) (r := [JL (((((afld σ a 6) + (W4 g (x + 42))) + 30) + (W2 g (x + 28))) + (W2 g (((afld σ a 6) + (W4 g (x + 42))) + 28)))]) rfl rfl rfl (RwL_lt _ (kdX_ar _ ha).2.2.1).2.2.1 hrx2 rfl (s_R_ffour d g (a + 1) (x + 20) σ hK (kdX_ar _ ha).2.2.1 hg (by omega) (by omega) (by omega)) (fun v12 s12 hqs12 => ?_)
        obtain ⟨z12, rfl, esz12, hzz12, hyz12, pz12_0⟩ := hqs12
        rw [esz12]
        have ez12 := pz12_0 (by omega) (by omega)
        subst ez12
        have wz12 := hV (x + 20)
        refine T.ladd rfl ?_
        refine T.go 1 (fun n9 => (rfl : _ = exe ξ n9 (d + 2) j_A_placeData 119 [(0, .ref a), (1, J x), (2, J (W2 g (x + 28))), (3, JL ((afld σ a 6) + (W4 g (x + 42)))), (5, J ((afld σ a 6) + (W4 g (x + 42)))), (6, J (((((afld σ a 6) + (W4 g (x + 42))) + 30) + (W2 g (x + 28))) + (W2 g (((afld σ a 6) + (W4 g (x + 42))) + 28))))] [.ref a, JL ((((((afld σ a 6) + (W4 g (x + 42))) + 30) + (W2 g (x + 28))) + (W2 g (((afld σ a 6) + (W4 g (x + 42))) + 28))) + (W4 g (x + 20)))] σ)) ?_
        refine T.get rfl rfl rfl hax1 rfl ?_
        refine T.i2l rfl (by omega) ?_
        refine T.lcmp rfl (by omega) (by omega) (fun c9 => ?_) (fun c9 => ?_) (fun c9 => ?_)
        · refine T.go 1 (fun n9 => (rfl : _ = exe ξ n9 (d + 2) j_A_placeData 127 [(0, .ref a), (1, J x), (2, J (W2 g (x + 28))), (3, JL ((afld σ a 6) + (W4 g (x + 42)))), (5, J ((afld σ a 6) + (W4 g (x + 42)))), (6, J (((((afld σ a 6) + (W4 g (x + 42))) + 30) + (W2 g (x + 28))) + (W2 g (((afld σ a 6) + (W4 g (x + 42))) + 28))))] [] σ)) ?_
          refine T.go 1 (fun n9 => (rfl : _ = exe ξ n9 (d + 2) j_A_placeData 128 [(0, .ref a), (1, J x), (2, J (W2 g (x + 28))), (3, JL ((afld σ a 6) + (W4 g (x + 42)))), (5, J ((afld σ a 6) + (W4 g (x + 42)))), (6, J (((((afld σ a 6) + (W4 g (x + 42))) + 30) + (W2 g (x + 28))) + (W2 g (((afld σ a 6) + (W4 g (x + 42))) + 28))))] [.ref a] σ)) ?_
          refine T.get rfl rfl rfl hax1 rfl ?_
          refine T.go 2 (fun n9 => (rfl : _ = exe ξ n9 (d + 2) j_A_placeData 135 [(0, .ref a), (1, J x), (2, J (W2 g (x + 28))), (3, JL ((afld σ a 6) + (W4 g (x + 42)))), (5, J ((afld σ a 6) + (W4 g (x + 42)))), (6, J (((((afld σ a 6) + (W4 g (x + 42))) + 30) + (W2 g (x + 28))) + (W2 g (((afld σ a 6) + (W4 g (x + 42))) + 28))))] [J 30, J ((afld σ a 6) + (W4 g (x + 42))), .ref (a + 1)] σ)) ?_
          refine T.iadd rfl ?_
          refine T.go 1 (fun n9 => (rfl : _ = exe ξ n9 (d + 2) j_A_placeData 137 [(0, .ref a), (1, J x), (2, J (W2 g (x + 28))), (3, JL ((afld σ a 6) + (W4 g (x + 42)))), (5, J ((afld σ a 6) + (W4 g (x + 42)))), (6, J (((((afld σ a 6) + (W4 g (x + 42))) + 30) + (W2 g (x + 28))) + (W2 g (((afld σ a 6) + (W4 g (x + 42))) + 28))))] [.ref a, J (((afld σ a 6) + (W4 g (x + 42))) + 30), .ref (a + 1)] σ)) ?_
          refine T.get rfl rfl rfl hax1 rfl ?_
          refine T.go 2 (fun n9 => (rfl : _ = exe ξ n9 (d + 2) j_A_placeData 143 [(0, .ref a), (1, J x), (2, J (W2 g (x + 28))), (3, JL ((afld σ a 6) + (W4 g (x + 42)))), (5, J ((afld σ a 6) + (W4 g (x + 42)))), (6, J (((((afld σ a 6) + (W4 g (x + 42))) + 30) + (W2 g (x + 28))) + (W2 g (((afld σ a 6) + (W4 g (x + 42))) + 28))))] [J 46, J x, .ref (a + 1), J (((afld σ a 6) + (W4 g (x + 42))) + 30), .ref (a + 1)] σ)) ?_
          refine T.iadd rfl ?_
          refine T.go 1 (fun n9 => (rfl : _ = exe ξ n9 (d + 2) j_A_placeData 145 [(0, .ref a), (1, J x), (2, J (W2 g (x + 28))), (3, JL ((afld σ a 6) + (W4 g (x + 42)))), (5, J ((afld σ a 6) + (W4 g (x + 42)))), (6, J (((((afld σ a 6) + (W4 g (x + 42))) + 30) + (W2 g (x + 28))) + (W2 g (((afld σ a 6) + (W4 g (x + 42))) + 28))))] [J (W2 g (x + 28)), J (x + 46), .ref (a + 1), J (((afld σ a 6) + (W4 g (x + 42))) + 30), .ref (a + 1)] σ)) ?_
          refine T.callv (as := [J (((afld σ a 6) + (W4 g (x + 42))) + 30), .ref (a + 1), J (x + 46), J (W2 g (x + 28))]) (r := []) rfl rfl rfl (RwL_lt _ (kdX_ar _ ha).2.2.1).2.2.1 hrx2 rfl (s_R_fhasPart (d + 1) g g (a + 1) (((afld σ a 6) + (W4 g (x + 42))) + 30) (a + 1) (x + 46) (W2 g (x + 28)) σ hK (kdX_ar _ ha).2.2.1 (kdX_ar _ ha).2.2.1 hg hg (by omega) (by omega) (by omega) (by omega) (by omega) (by omega) (by omega) (by omega) (by omega)) (fun v13 s13 hqs13 => ?_)
          obtain ⟨z13, rfl, esz13, hzz13, hyz13, pz13_0⟩ := hqs13
          rw [esz13]
          have ez13 := pz13_0 (by omega) (by omega) (by omega) (by omega) (by omega)
          refine T.if_ne rfl rfl (by omega) (fun c10 => ?_) (fun c10 => ?_)
          · refine T.go 1 (fun n9 => (rfl : _ = exe ξ n9 (d + 2) j_A_placeData 155 [(0, .ref a), (1, J x), (2, J (W2 g (x + 28))), (3, JL ((afld σ a 6) + (W4 g (x + 42)))), (5, J ((afld σ a 6) + (W4 g (x + 42)))), (6, J (((((afld σ a 6) + (W4 g (x + 42))) + 30) + (W2 g (x + 28))) + (W2 g (((afld σ a 6) + (W4 g (x + 42))) + 28))))] [J (((((afld σ a 6) + (W4 g (x + 42))) + 30) + (W2 g (x + 28))) + (W2 g (((afld σ a 6) + (W4 g (x + 42))) + 28)))] σ)) ?_
            exact T.ireti rfl rfl ⟨_, rfl, rfl, by omega, by omega, (fun q => by omega), (fun q => ⟨by unfold LRn; rw [if_pos ⟨by omega, by omega, by omega, by rw [← EQ2_self]; omega, by omega⟩], by omega⟩), by omega⟩
          · refine T.go 1 (fun n9 => (rfl : _ = exe ξ n9 (d + 2) j_A_placeData 152 [(0, .ref a), (1, J x), (2, J (W2 g (x + 28))), (3, JL ((afld σ a 6) + (W4 g (x + 42)))), (5, J ((afld σ a 6) + (W4 g (x + 42)))), (6, J (((((afld σ a 6) + (W4 g (x + 42))) + 30) + (W2 g (x + 28))) + (W2 g (((afld σ a 6) + (W4 g (x + 42))) + 28))))] [J (-1)] σ)) ?_
            exact T.ireti rfl rfl ⟨_, rfl, rfl, by omega, by omega, (fun q => by unfold LRn; rw [if_neg (by first | omega | (rw [← EQ2_self]; omega))]), (fun q => by omega), by omega⟩
        · refine T.go 1 (fun n9 => (rfl : _ = exe ξ n9 (d + 2) j_A_placeData 127 [(0, .ref a), (1, J x), (2, J (W2 g (x + 28))), (3, JL ((afld σ a 6) + (W4 g (x + 42)))), (5, J ((afld σ a 6) + (W4 g (x + 42)))), (6, J (((((afld σ a 6) + (W4 g (x + 42))) + 30) + (W2 g (x + 28))) + (W2 g (((afld σ a 6) + (W4 g (x + 42))) + 28))))] [] σ)) ?_
          refine T.go 1 (fun n9 => (rfl : _ = exe ξ n9 (d + 2) j_A_placeData 128 [(0, .ref a), (1, J x), (2, J (W2 g (x + 28))), (3, JL ((afld σ a 6) + (W4 g (x + 42)))), (5, J ((afld σ a 6) + (W4 g (x + 42)))), (6, J (((((afld σ a 6) + (W4 g (x + 42))) + 30) + (W2 g (x + 28))) + (W2 g (((afld σ a 6) + (W4 g (x + 42))) + 28))))] [.ref a] σ)) ?_
          refine T.get rfl rfl rfl hax1 rfl ?_
          refine T.go 2 (fun n9 => (rfl : _ = exe ξ n9 (d + 2) j_A_placeData 135 [(0, .ref a), (1, J x), (2, J (W2 g (x + 28))), (3, JL ((afld σ a 6) + (W4 g (x + 42)))), (5, J ((afld σ a 6) + (W4 g (x + 42)))), (6, J (((((afld σ a 6) + (W4 g (x + 42))) + 30) + (W2 g (x + 28))) + (W2 g (((afld σ a 6) + (W4 g (x + 42))) + 28))))] [J 30, J ((afld σ a 6) + (W4 g (x + 42))), .ref (a + 1)] σ)) ?_
          refine T.iadd rfl ?_
          refine T.go 1 (fun n9 => (rfl : _ = exe ξ n9 (d + 2) j_A_placeData 137 [(0, .ref a), (1, J x), (2, J (W2 g (x + 28))), (3, JL ((afld σ a 6) + (W4 g (x + 42)))), (5, J ((afld σ a 6) + (W4 g (x + 42)))), (6, J (((((afld σ a 6) + (W4 g (x + 42))) + 30) + (W2 g (x + 28))) + (W2 g (((afld σ a 6) + (W4 g (x + 42))) + 28))))] [.ref a, J (((afld σ a 6) + (W4 g (x + 42))) + 30), .ref (a + 1)] σ)) ?_
          refine T.get rfl rfl rfl hax1 rfl ?_
          refine T.go 2 (fun n9 => (rfl : _ = exe ξ n9 (d + 2) j_A_placeData 143 [(0, .ref a), (1, J x), (2, J (W2 g (x + 28))), (3, JL ((afld σ a 6) + (W4 g (x + 42)))), (5, J ((afld σ a 6) + (W4 g (x + 42)))), (6, J (((((afld σ a 6) + (W4 g (x + 42))) + 30) + (W2 g (x + 28))) + (W2 g (((afld σ a 6) + (W4 g (x + 42))) + 28))))] [J 46, J x, .ref (a + 1), J (((afld σ a 6) + (W4 g (x + 42))) + 30), .ref (a + 1)] σ)) ?_
          refine T.iadd rfl ?_
          refine T.go 1 (fun n9 => (rfl : _ = exe ξ n9 (d + 2) j_A_placeData 145 [(0, .ref a), (1, J x), (2, J (W2 g (x + 28))), (3, JL ((afld σ a 6) + (W4 g (x + 42)))), (5, J ((afld σ a 6) + (W4 g (x + 42)))), (6, J (((((afld σ a 6) + (W4 g (x + 42))) + 30) + (W2 g (x + 28))) + (W2 g (((afld σ a 6) + (W4 g (x + 42))) + 28))))] [J (W2 g (x + 28)), J (x + 46), .ref (a + 1), J (((afld σ a 6) + (W4 g (x + 42))) + 30), .ref (a + 1)] σ)) ?_
          refine T.callv (as := [J (((afld σ a 6) + (W4 g (x + 42))) + 30), .ref (a + 1), J (x + 46), J (W2 g (x + 28))]) (r := []) rfl rfl rfl (RwL_lt _ (kdX_ar _ ha).2.2.1).2.2.1 hrx2 rfl (s_R_fhasPart (d + 1) g g (a + 1) (((afld σ a 6) + (W4 g (x + 42))) + 30) (a + 1) (x + 46) (W2 g (x + 28)) σ hK (kdX_ar _ ha).2.2.1 (kdX_ar _ ha).2.2.1 hg hg (by omega) (by omega) (by omega) (by omega) (by omega) (by omega) (by omega) (by omega) (by omega)) (fun v14 s14 hqs14 => ?_)
          obtain ⟨z14, rfl, esz14, hzz14, hyz14, pz14_0⟩ := hqs14
          rw [esz14]
          have ez14 := pz14_0 (by omega) (by omega) (by omega) (by omega) (by omega)
          refine T.if_ne rfl rfl (by omega) (fun c11 => ?_) (fun c11 => ?_)
          · refine T.go 1 (fun n9 => (rfl : _ = exe ξ n9 (d + 2) j_A_placeData 155 [(0, .ref a), (1, J x), (2, J (W2 g (x + 28))), (3, JL ((afld σ a 6) + (W4 g (x + 42)))), (5, J ((afld σ a 6) + (W4 g (x + 42)))), (6, J (((((afld σ a 6) + (W4 g (x + 42))) + 30) + (W2 g (x + 28))) + (W2 g (((afld σ a 6) + (W4 g (x + 42))) + 28))))] [J (((((afld σ a 6) + (W4 g (x + 42))) + 30) + (W2 g (x + 28))) + (W2 g (((afld σ a 6) + (W4 g (x + 42))) + 28)))] σ)) ?_
            exact T.ireti rfl rfl ⟨_, rfl, rfl, by omega, by omega, (fun q => by omega), (fun q => ⟨by unfold LRn; rw [if_pos ⟨by omega, by omega, by omega, by rw [← EQ2_self]; omega, by omega⟩], by omega⟩), by omega⟩
          · refine T.go 1 (fun n9 => (rfl : _ = exe ξ n9 (d + 2) j_A_placeData 152 [(0, .ref a), (1, J x), (2, J (W2 g (x + 28))), (3, JL ((afld σ a 6) + (W4 g (x + 42)))), (5, J ((afld σ a 6) + (W4 g (x + 42)))), (6, J (((((afld σ a 6) + (W4 g (x + 42))) + 30) + (W2 g (x + 28))) + (W2 g (((afld σ a 6) + (W4 g (x + 42))) + 28))))] [J (-1)] σ)) ?_
            exact T.ireti rfl rfl ⟨_, rfl, rfl, by omega, by omega, (fun q => by unfold LRn; rw [if_neg (by first | omega | (rw [← EQ2_self]; omega))]), (fun q => by omega), by omega⟩
        · refine T.go 1 (fun n9 => (rfl : _ = exe ξ n9 (d + 2) j_A_placeData 151 [(0, .ref a), (1, J x), (2, J (W2 g (x + 28))), (3, JL ((afld σ a 6) + (W4 g (x + 42)))), (5, J ((afld σ a 6) + (W4 g (x + 42)))), (6, J (((((afld σ a 6) + (W4 g (x + 42))) + 30) + (W2 g (x + 28))) + (W2 g (((afld σ a 6) + (W4 g (x + 42))) + 28))))] [] σ)) ?_
          refine T.go 1 (fun n9 => (rfl : _ = exe ξ n9 (d + 2) j_A_placeData 152 [(0, .ref a), (1, J x), (2, J (W2 g (x + 28))), (3, JL ((afld σ a 6) + (W4 g (x + 42)))), (5, J ((afld σ a 6) + (W4 g (x + 42)))), (6, J (((((afld σ a 6) + (W4 g (x + 42))) + 30) + (W2 g (x + 28))) + (W2 g (((afld σ a 6) + (W4 g (x + 42))) + 28))))] [J (-1)] σ)) ?_
          exact T.ireti rfl rfl ⟨_, rfl, rfl, by omega, by omega, (fun q => by unfold LRn; rw [if_neg (by first | omega | (rw [← EQ2_self]; omega))]), (fun q => by omega), by omega⟩
      · refine T.go 1 (fun n9 => (rfl : _ = exe ξ n9 (d + 2) j_A_placeData 80 [(0, .ref a), (1, J x), (2, J (W2 g (x + 28))), (3, JL ((afld σ a 6) + (W4 g (x + 42)))), (5, J ((afld σ a 6) + (W4 g (x + 42))))] [J (-1)] σ)) ?_
        exact T.ireti rfl rfl ⟨_, rfl, rfl, by omega, by omega, (fun q => by unfold LRn; rw [if_neg (by first | omega | (rw [← EQ2_self]; omega))]), (fun q => by omega), by omega⟩
  · refine T.go 1 (fun n9 => (rfl : _ = exe ξ n9 (d + 2) j_A_placeData 43 [(0, .ref a), (1, J x), (2, J (W2 g (x + 28))), (3, JL ((afld σ a 6) + (W4 g (x + 42))))] [] σ)) ?_
    refine T.go 1 (fun n9 => (rfl : _ = exe ξ n9 (d + 2) j_A_placeData 44 [(0, .ref a), (1, J x), (2, J (W2 g (x + 28))), (3, JL ((afld σ a 6) + (W4 g (x + 42))))] [J (-1)] σ)) ?_
    exact T.ireti rfl rfl ⟨_, rfl, rfl, by omega, by omega, (fun q => by unfold LRn; rw [if_neg (by first | omega | (rw [← EQ2_self]; omega))]), (fun q => by omega), by omega⟩

set_option maxRecDepth 10000 in
set_option maxHeartbeats 4000000 in
theorem s_A_fplaceDirectory {ξ : Nat → Option (Nat × List Int32)} (d : Nat) (g : Int → Int) (a : Nat) (σ : qH) (hK : K σ) (ha : a ∈ ArL) (h255 : ∀ k, 0 ≤ g k ∧ g k ≤ 255) (hg : AGR σ (a + 1) g) (pre0 : 0 ≤ afld σ a 4) (pre1 : afld σ a 4 + 22 ≤ rl σ (a + 1)) : T ξ (d + 2) j_A_placeDirectory 0 (lv_args 0 [.ref a]) [] σ (fun v σ' => ∃ z : Int, v = some (J z) ∧ Fr [a] σ σ' ∧ 0 ≤ z ∧ z ≤ 1 ∧ (afld σ' a 3 = afld σ a 3 ∧ afld σ' a 4 = afld σ a 4) ∧ (z = 1 → (W2 g (afld σ a 4 + 4) = 0 ∧ W2 g (afld σ a 4 + 6) = 0 ∧ W2 g (afld σ a 4 + 8) = W2 g (afld σ a 4 + 10) ∧ W2 g (afld σ a 4 + 8) ≤ 64 ∧ 0 ≤ afld σ a 4 - W4 g (afld σ a 4 + 12) ∧ 0 ≤ afld σ a 4 - W4 g (afld σ a 4 + 12) - W4 g (afld σ a 4 + 16))) ∧ (z = 0 → ¬ (W2 g (afld σ a 4 + 4) = 0 ∧ W2 g (afld σ a 4 + 6) = 0 ∧ W2 g (afld σ a 4 + 8) = W2 g (afld σ a 4 + 10) ∧ W2 g (afld σ a 4 + 8) ≤ 64 ∧ 0 ≤ afld σ a 4 - W4 g (afld σ a 4 + 12) ∧ 0 ≤ afld σ a 4 - W4 g (afld σ a 4 + 12) - W4 g (afld σ a 4 + 16))) ∧ (z = 1 → afld σ' a 5 = afld σ a 4 - W4 g (afld σ a 4 + 12) ∧ afld σ' a 6 = afld σ a 4 - W4 g (afld σ a 4 + 12) - W4 g (afld σ a 4 + 16))) := by
  have la := (ArL_lt a ha).2.1
  have hW := W2_r h255
  have hV := W4_r h255
  obtain ⟨ex1, erx1, dix1, bax1, fpx1, hax1, fx1a, fx1b, fx1c, fx1d, fx1e, fx1f, fx1g, fx1h, fx1i, fx1j⟩ := hK.arc ha
  have af3x1 := af_of (i := 3) hax1 rfl (by omega)
  subst af3x1
  have af4x1 := af_of (i := 4) hax1 rfl (by omega)
  subst af4x1
  have af5x1 := af_of (i := 5) hax1 rfl (by omega)
  subst af5x1
  have af6x1 := af_of (i := 6) hax1 rfl (by omega)
  subst af6x1
  have af7x1 := af_of (i := 7) hax1 rfl (by omega)
  subst af7x1
  obtain ⟨mx2, nx2, bx2, lx2, hrx2, hbx2, fx2a, fx2b, fx2c, fx2d, fx2e, fx2g, fx2h, fx2i⟩ := hK.row (kdX_ar _ ha).2.2.1
  have ctx2 := CT_of hrx2 hbx2
  have rwx2 := rl_of hrx2 (by omega)
  subst rwx2
  refine T.go 1 (fun n9 => (rfl : _ = exe ξ n9 (d + 2) j_A_placeDirectory 1 [(0, .ref a)] [.ref a] σ)) ?_
  refine T.get rfl rfl rfl hax1 rfl ?_
  refine T.go 1 (fun n9 => (rfl : _ = exe ξ n9 (d + 2) j_A_placeDirectory 5 [(0, .ref a)] [.ref a, .ref (a + 1)] σ)) ?_
  refine T.get rfl rfl rfl hax1 rfl ?_
  refine T.go 1 (fun n9 => (rfl : _ = exe ξ n9 (d + 2) j_A_placeDirectory 10 [(0, .ref a)] [J 8, J (afld σ a 4), .ref (a + 1)] σ)) ?_
  refine T.iadd rfl ?_
  refine T.callv (as := [J ((afld σ a 4) + 8)]) (r := []) rfl rfl rfl (RwL_lt _ (kdX_ar _ ha).2.2.1).2.2.1 hrx2 rfl (s_R_ftwo (d + 1) g (a + 1) ((afld σ a 4) + 8) σ hK (kdX_ar _ ha).2.2.1 hg (by omega)) (fun v1 s1 hqs1 => ?_)
  obtain ⟨z1, rfl, esz1, hzz1, hyz1, pz1_0, pz1_1⟩ := hqs1
  rw [esz1]
  have ez1 := pz1_0 (by omega) (by omega)
  subst ez1
  have wz1 := hW ((afld σ a 4) + 8)
  refine T.go 2 (fun n9 => (rfl : _ = exe ξ n9 (d + 2) j_A_placeDirectory 16 [(0, .ref a), (1, J (W2 g ((afld σ a 4) + 8)))] [.ref a] σ)) ?_
  refine T.get rfl rfl rfl hax1 rfl ?_
  refine T.go 1 (fun n9 => (rfl : _ = exe ξ n9 (d + 2) j_A_placeDirectory 20 [(0, .ref a), (1, J (W2 g ((afld σ a 4) + 8)))] [.ref a, .ref (a + 1)] σ)) ?_
  refine T.get rfl rfl rfl hax1 rfl ?_
  refine T.go 1 (fun n9 => (rfl : _ = exe ξ n9 (d + 2) j_A_placeDirectory 24 [(0, .ref a), (1, J (W2 g ((afld σ a 4) + 8)))] [J 4, J (afld σ a 4), .ref (a + 1)] σ)) ?_
  refine T.iadd rfl ?_
  refine T.callv (as := [J ((afld σ a 4) + 4)]) (r := []) rfl rfl rfl (RwL_lt _ (kdX_ar _ ha).2.2.1).2.2.1 hrx2 rfl (s_R_ftwo (d + 1) g (a + 1) ((afld σ a 4) + 4) σ hK (kdX_ar _ ha).2.2.1 hg (by omega)) (fun v2 s2 hqs2 => ?_)
  obtain ⟨z2, rfl, esz2, hzz2, hyz2, pz2_0, pz2_1⟩ := hqs2
  rw [esz2]
  have ez2 := pz2_0 (by omega) (by omega)
  subst ez2
  have wz2 := hW ((afld σ a 4) + 4)
  refine T.if_ne rfl rfl (by omega) (fun c1 => ?_) (fun c1 => ?_)
  · refine T.go 1 (fun n9 => (rfl : _ = exe ξ n9 (d + 2) j_A_placeDirectory 73 [(0, .ref a), (1, J (W2 g ((afld σ a 4) + 8)))] [J 0] σ)) ?_
    have nf1 := af_of (i := 3) hax1 rfl (by omega)
    have nf2 := af_of (i := 4) hax1 rfl (by omega)
    have nf3 := af_of (i := 5) hax1 rfl (by omega)
    have nf4 := af_of (i := 6) hax1 rfl (by omega)
    exact T.iretz rfl rfl (by omega) ⟨_, rfl, (Fr.refl hK), by omega, by omega, by omega, by omega, by omega, by omega⟩
  · refine T.go 1 (fun n9 => (rfl : _ = exe ξ n9 (d + 2) j_A_placeDirectory 32 [(0, .ref a), (1, J (W2 g ((afld σ a 4) + 8)))] [.ref a] σ)) ?_
    refine T.get rfl rfl rfl hax1 rfl ?_
    refine T.go 1 (fun n9 => (rfl : _ = exe ξ n9 (d + 2) j_A_placeDirectory 36 [(0, .ref a), (1, J (W2 g ((afld σ a 4) + 8)))] [.ref a, .ref (a + 1)] σ)) ?_
    refine T.get rfl rfl rfl hax1 rfl ?_
    refine T.go 1 (fun n9 => (rfl : _ = exe ξ n9 (d + 2) j_A_placeDirectory 41 [(0, .ref a), (1, J (W2 g ((afld σ a 4) + 8)))] [J 6, J (afld σ a 4), .ref (a + 1)] σ)) ?_
    refine T.iadd rfl ?_
    refine T.callv (as := [J ((afld σ a 4) + 6)]) (r := []) rfl rfl rfl (RwL_lt _ (kdX_ar _ ha).2.2.1).2.2.1 hrx2 rfl (s_R_ftwo (d + 1) g (a + 1) ((afld σ a 4) + 6) σ hK (kdX_ar _ ha).2.2.1 hg (by omega)) (fun v3 s3 hqs3 => ?_)
    obtain ⟨z3, rfl, esz3, hzz3, hyz3, pz3_0, pz3_1⟩ := hqs3
    rw [esz3]
    have ez3 := pz3_0 (by omega) (by omega)
    subst ez3
    have wz3 := hW ((afld σ a 4) + 6)
    refine T.if_ne rfl rfl (by omega) (fun c2 => ?_) (fun c2 => ?_)
    · refine T.go 1 (fun n9 => (rfl : _ = exe ξ n9 (d + 2) j_A_placeDirectory 73 [(0, .ref a), (1, J (W2 g ((afld σ a 4) + 8)))] [J 0] σ)) ?_
      have nf5 := af_of (i := 3) hax1 rfl (by omega)
      have nf6 := af_of (i := 4) hax1 rfl (by omega)
      have nf7 := af_of (i := 5) hax1 rfl (by omega)
      have nf8 := af_of (i := 6) hax1 rfl (by omega)
      exact T.iretz rfl rfl (by omega) ⟨_, rfl, (Fr.refl hK), by omega, by omega, by omega, by omega, by omega, by omega⟩
    · refine T.go 2 (fun n9 => (rfl : _ = exe ξ n9 (d + 2) j_A_placeDirectory 50 [(0, .ref a), (1, J (W2 g ((afld σ a 4) + 8)))] [.ref a, J (W2 g ((afld σ a 4) + 8))] σ)) ?_
      refine T.get rfl rfl rfl hax1 rfl ?_
      refine T.go 1 (fun n9 => (rfl : _ = exe ξ n9 (d + 2) j_A_placeDirectory 54 [(0, .ref a), (1, J (W2 g ((afld σ a 4) + 8)))] [.ref a, .ref (a + 1), J (W2 g ((afld σ a 4) + 8))] σ)) ?_
      refine T.get rfl rfl rfl hax1 rfl ?_
      refine T.go 1 (fun n9 => (rfl : _ = exe ξ n9 (d + 2) j_A_placeDirectory 59 [(0, .ref a), (1, J (W2 g ((afld σ a 4) + 8)))] [J 10, J (afld σ a 4), .ref (a + 1), J (W2 g ((afld σ a 4) + 8))] σ)) ?_
      refine T.iadd rfl ?_
      refine T.callv (as := [J ((afld σ a 4) + 10)]) (r := [J (W2 g ((afld σ a 4) + 8))]) rfl rfl rfl (RwL_lt _ (kdX_ar _ ha).2.2.1).2.2.1 hrx2 rfl (s_R_ftwo (d + 1) g (a + 1) ((afld σ a 4) + 10) σ hK (kdX_ar _ ha).2.2.1 hg (by omega)) (fun v4 s4 hqs4 => ?_)
      obtain ⟨z4, rfl, esz4, hzz4, hyz4, pz4_0, pz4_1⟩ := hqs4
      rw [esz4]
      have ez4 := pz4_0 (by omega) (by omega)
      subst ez4
      have wz4 := hW ((afld σ a 4) + 10)
      refine T.icmp_ne rfl rfl (by omega) (by omega) (fun c3 => ?_) (fun c3 => ?_)
      · refine T.go 1 (fun n9 => (rfl : _ = exe ξ n9 (d + 2) j_A_placeDirectory 73 [(0, .ref a), (1, J (W2 g ((afld σ a 4) + 8)))] [J 0] σ)) ?_
        have nf9 := af_of (i := 3) hax1 rfl (by omega)
        have nf10 := af_of (i := 4) hax1 rfl (by omega)
        have nf11 := af_of (i := 5) hax1 rfl (by omega)
        have nf12 := af_of (i := 6) hax1 rfl (by omega)
        exact T.iretz rfl rfl (by omega) ⟨_, rfl, (Fr.refl hK), by omega, by omega, by omega, by omega, by omega, by omega⟩
      · refine T.go 2 (fun n9 => (rfl : _ = exe ξ n9 (d + 2) j_A_placeDirectory 69 [(0, .ref a), (1, J (W2 g ((afld σ a 4) + 8)))] [J 64, J (W2 g ((afld σ a 4) + 8))] σ)) ?_
        refine T.icmp_le rfl rfl (by omega) (by omega) (fun c4 => ?_) (fun c4 => ?_)
        · refine T.go 1 (fun n9 => (rfl : _ = exe ξ n9 (d + 2) j_A_placeDirectory 75 [(0, .ref a), (1, J (W2 g ((afld σ a 4) + 8)))] [.ref a] σ)) ?_
          refine T.get rfl rfl rfl hax1 rfl ?_
          refine T.i2l rfl (by omega) ?_
          refine T.go 1 (fun n9 => (rfl : _ = exe ξ n9 (d + 2) j_A_placeDirectory 80 [(0, .ref a), (1, J (W2 g ((afld σ a 4) + 8)))] [.ref a, JL (afld σ a 4)] σ)) ?_
          refine T.get rfl rfl rfl hax1 rfl ?_
          refine T.go 1 (fun n9 => (rfl : _ = exe ξ n9 (d + 2) j_A_placeDirectory 84 [(0, .ref a), (1, J (W2 g ((afld σ a 4) + 8)))] [.ref a, .ref (a + 1), JL (afld σ a 4)] σ)) ?_
          refine T.get rfl rfl rfl hax1 rfl ?_
          refine T.go 1 (fun n9 => (rfl : _ = exe ξ n9 (d + 2) j_A_placeDirectory 89 [(0, .ref a), (1, J (W2 g ((afld σ a 4) + 8)))] [J 12, J (afld σ a 4), .ref (a + 1), JL (afld σ a 4)] σ)) ?_
          refine T.iadd rfl ?_
          refine T.callv (as := [J ((afld σ a 4) + 12)]) (r := [JL (afld σ a 4)]) rfl rfl rfl (RwL_lt _ (kdX_ar _ ha).2.2.1).2.2.1 hrx2 rfl (s_R_ffour d g (a + 1) ((afld σ a 4) + 12) σ hK (kdX_ar _ ha).2.2.1 hg (by omega) (by omega) (by omega)) (fun v5 s5 hqs5 => ?_)
          obtain ⟨z5, rfl, esz5, hzz5, hyz5, pz5_0⟩ := hqs5
          rw [esz5]
          have ez5 := pz5_0 (by omega) (by omega)
          subst ez5
          have wz5 := hV ((afld σ a 4) + 12)
          refine T.lsub rfl ?_
          refine T.go 3 (fun n9 => (rfl : _ = exe ξ n9 (d + 2) j_A_placeDirectory 97 [(0, .ref a), (1, J (W2 g ((afld σ a 4) + 8))), (2, JL ((afld σ a 4) - (W4 g ((afld σ a 4) + 12))))] [.ref a, JL ((afld σ a 4) - (W4 g ((afld σ a 4) + 12)))] σ)) ?_
          refine T.get rfl rfl rfl hax1 rfl ?_
          refine T.go 1 (fun n9 => (rfl : _ = exe ξ n9 (d + 2) j_A_placeDirectory 101 [(0, .ref a), (1, J (W2 g ((afld σ a 4) + 8))), (2, JL ((afld σ a 4) - (W4 g ((afld σ a 4) + 12))))] [.ref a, .ref (a + 1), JL ((afld σ a 4) - (W4 g ((afld σ a 4) + 12)))] σ)) ?_
          refine T.get rfl rfl rfl hax1 rfl ?_
          refine T.go 1 (fun n9 => (rfl : _ = exe ξ n9 (d + 2) j_A_placeDirectory 106 [(0, .ref a), (1, J (W2 g ((afld σ a 4) + 8))), (2, JL ((afld σ a 4) - (W4 g ((afld σ a 4) + 12))))] [J 16, J (afld σ a 4), .ref (a + 1), JL ((afld σ a 4) - (W4 g ((afld σ a 4) + 12)))] σ)) ?_
          refine T.iadd rfl ?_
          refine T.callv (as := [J ((afld σ a 4) + 16)]) (r := [JL ((afld σ a 4) - (W4 g ((afld σ a 4) + 12)))]) rfl rfl rfl (RwL_lt _ (kdX_ar _ ha).2.2.1).2.2.1 hrx2 rfl (s_R_ffour d g (a + 1) ((afld σ a 4) + 16) σ hK (kdX_ar _ ha).2.2.1 hg (by omega) (by omega) (by omega)) (fun v6 s6 hqs6 => ?_)
          obtain ⟨z6, rfl, esz6, hzz6, hyz6, pz6_0⟩ := hqs6
          rw [esz6]
          have ez6 := pz6_0 (by omega) (by omega)
          subst ez6
          have wz6 := hV ((afld σ a 4) + 16)
          refine T.lsub rfl ?_
          refine T.go 3 (fun n9 => (rfl : _ = exe ξ n9 (d + 2) j_A_placeDirectory 115 [(0, .ref a), (1, J (W2 g ((afld σ a 4) + 8))), (2, JL ((afld σ a 4) - (W4 g ((afld σ a 4) + 12)))), (4, JL (((afld σ a 4) - (W4 g ((afld σ a 4) + 12))) - (W4 g ((afld σ a 4) + 16))))] [JL 0, JL ((afld σ a 4) - (W4 g ((afld σ a 4) + 12)))] σ)) ?_
          refine T.lcmp rfl (by omega) (by omega) (fun c5 => ?_) (fun c5 => ?_) (fun c5 => ?_)
          · refine T.go 1 (fun n9 => (rfl : _ = exe ξ n9 (d + 2) j_A_placeDirectory 126 [(0, .ref a), (1, J (W2 g ((afld σ a 4) + 8))), (2, JL ((afld σ a 4) - (W4 g ((afld σ a 4) + 12)))), (4, JL (((afld σ a 4) - (W4 g ((afld σ a 4) + 12))) - (W4 g ((afld σ a 4) + 16))))] [] σ)) ?_
            refine T.go 1 (fun n9 => (rfl : _ = exe ξ n9 (d + 2) j_A_placeDirectory 127 [(0, .ref a), (1, J (W2 g ((afld σ a 4) + 8))), (2, JL ((afld σ a 4) - (W4 g ((afld σ a 4) + 12)))), (4, JL (((afld σ a 4) - (W4 g ((afld σ a 4) + 12))) - (W4 g ((afld σ a 4) + 16))))] [J 0] σ)) ?_
            have nf13 := af_of (i := 3) hax1 rfl (by omega)
            have nf14 := af_of (i := 4) hax1 rfl (by omega)
            have nf15 := af_of (i := 5) hax1 rfl (by omega)
            have nf16 := af_of (i := 6) hax1 rfl (by omega)
            exact T.iretz rfl rfl (by omega) ⟨_, rfl, (Fr.refl hK), by omega, by omega, by omega, by omega, by omega, by omega⟩
          · refine T.go 1 (fun n9 => (rfl : _ = exe ξ n9 (d + 2) j_A_placeDirectory 119 [(0, .ref a), (1, J (W2 g ((afld σ a 4) + 8))), (2, JL ((afld σ a 4) - (W4 g ((afld σ a 4) + 12)))), (4, JL (((afld σ a 4) - (W4 g ((afld σ a 4) + 12))) - (W4 g ((afld σ a 4) + 16))))] [] σ)) ?_
            refine T.go 2 (fun n9 => (rfl : _ = exe ξ n9 (d + 2) j_A_placeDirectory 122 [(0, .ref a), (1, J (W2 g ((afld σ a 4) + 8))), (2, JL ((afld σ a 4) - (W4 g ((afld σ a 4) + 12)))), (4, JL (((afld σ a 4) - (W4 g ((afld σ a 4) + 12))) - (W4 g ((afld σ a 4) + 16))))] [JL 0, JL (((afld σ a 4) - (W4 g ((afld σ a 4) + 12))) - (W4 g ((afld σ a 4) + 16)))] σ)) ?_
            refine T.lcmp rfl (by omega) (by omega) (fun c6 => ?_) (fun c6 => ?_) (fun c6 => ?_)
            · refine T.go 1 (fun n9 => (rfl : _ = exe ξ n9 (d + 2) j_A_placeDirectory 126 [(0, .ref a), (1, J (W2 g ((afld σ a 4) + 8))), (2, JL ((afld σ a 4) - (W4 g ((afld σ a 4) + 12)))), (4, JL (((afld σ a 4) - (W4 g ((afld σ a 4) + 12))) - (W4 g ((afld σ a 4) + 16))))] [] σ)) ?_
              refine T.go 1 (fun n9 => (rfl : _ = exe ξ n9 (d + 2) j_A_placeDirectory 127 [(0, .ref a), (1, J (W2 g ((afld σ a 4) + 8))), (2, JL ((afld σ a 4) - (W4 g ((afld σ a 4) + 12)))), (4, JL (((afld σ a 4) - (W4 g ((afld σ a 4) + 12))) - (W4 g ((afld σ a 4) + 16))))] [J 0] σ)) ?_
              have nf17 := af_of (i := 3) hax1 rfl (by omega)
              have nf18 := af_of (i := 4) hax1 rfl (by omega)
              have nf19 := af_of (i := 5) hax1 rfl (by omega)
              have nf20 := af_of (i := 6) hax1 rfl (by omega)
              exact T.iretz rfl rfl (by omega) ⟨_, rfl, (Fr.refl hK), by omega, by omega, by omega, by omega, by omega, by omega⟩
            · refine T.go 1 (fun n9 => (rfl : _ = exe ξ n9 (d + 2) j_A_placeDirectory 128 [(0, .ref a), (1, J (W2 g ((afld σ a 4) + 8))), (2, JL ((afld σ a 4) - (W4 g ((afld σ a 4) + 12)))), (4, JL (((afld σ a 4) - (W4 g ((afld σ a 4) + 12))) - (W4 g ((afld σ a 4) + 16))))] [] σ)) ?_
              refine T.go 2 (fun n9 => (rfl : _ = exe ξ n9 (d + 2) j_A_placeDirectory 130 [(0, .ref a), (1, J (W2 g ((afld σ a 4) + 8))), (2, JL ((afld σ a 4) - (W4 g ((afld σ a 4) + 12)))), (4, JL (((afld σ a 4) - (W4 g ((afld σ a 4) + 12))) - (W4 g ((afld σ a 4) + 16))))] [JL ((afld σ a 4) - (W4 g ((afld σ a 4) + 12))), .ref a] σ)) ?_
              refine T.l2i rfl ?_
              refine T.putF (w := [a]) rfl rfl hax1 rfl rfl rfl (fs' := [.ref (a + 1), .ref (a + 3), .ref (a + 4), J (afld σ a 3), J (afld σ a 4), J ((afld σ a 4) - (W4 g ((afld σ a 4) + 12))), J (afld σ a 6), J (afld σ a 7)]) rfl (Fr.other hK hax1 rfl ⟨_, _, _, _, _, rfl, by omega⟩ (ArL_nR _ ha) (Or.inl (by have := ArL_lt _ ha; omega)) (fun _ z => by cases z) (by simp)) (fun s7 hs7 hcs7 hos7 => ?_)
              have k1 := hos7 (by omega) hrx2
              have k2 := hos7 (q_dif hbx2 hax1 (fun z => by cases z)) hbx2
              refine T.go 2 (fun n9 => (rfl : _ = exe ξ n9 (d + 2) j_A_placeDirectory 137 [(0, .ref a), (1, J (W2 g ((afld σ a 4) + 8))), (2, JL ((afld σ a 4) - (W4 g ((afld σ a 4) + 12)))), (4, JL (((afld σ a 4) - (W4 g ((afld σ a 4) + 12))) - (W4 g ((afld σ a 4) + 16))))] [JL (((afld σ a 4) - (W4 g ((afld σ a 4) + 12))) - (W4 g ((afld σ a 4) + 16))), .ref a] s7)) ?_
              refine T.l2i rfl ?_
              refine T.putF (w := [a]) rfl rfl hcs7 rfl rfl rfl (fs' := [.ref (a + 1), .ref (a + 3), .ref (a + 4), J (afld σ a 3), J (afld σ a 4), J ((afld σ a 4) - (W4 g ((afld σ a 4) + 12))), J (((afld σ a 4) - (W4 g ((afld σ a 4) + 12))) - (W4 g ((afld σ a 4) + 16))), J (afld σ a 7)]) rfl (Fr.other hs7.1 hcs7 rfl ⟨_, _, _, _, _, rfl, by omega⟩ (ArL_nR _ ha) (Or.inl (by have := ArL_lt _ ha; omega)) (fun _ z => by cases z) (by simp)) (fun s8 hs8 hcs8 hos8 => ?_)
              have gs8 := hs7.trans hs8
              have k3 := hos8 (by omega) k1
              have k4 := hos8 (q_dif k2 hcs7 (fun z => by cases z)) k2
              refine T.go 1 (fun n9 => (rfl : _ = exe ξ n9 (d + 2) j_A_placeDirectory 142 [(0, .ref a), (1, J (W2 g ((afld σ a 4) + 8))), (2, JL ((afld σ a 4) - (W4 g ((afld σ a 4) + 12)))), (4, JL (((afld σ a 4) - (W4 g ((afld σ a 4) + 12))) - (W4 g ((afld σ a 4) + 16))))] [J 1] s8)) ?_
              have nf21 := af_of (i := 3) hcs8 rfl (by omega)
              have nf22 := af_of (i := 4) hcs8 rfl (by omega)
              have nf23 := af_of (i := 5) hcs8 rfl (by omega)
              have nf24 := af_of (i := 6) hcs8 rfl (by omega)
              exact T.iretz rfl rfl (by omega) ⟨_, rfl, gs8, by omega, by omega, by omega, by omega, by omega, by omega⟩
            · refine T.go 1 (fun n9 => (rfl : _ = exe ξ n9 (d + 2) j_A_placeDirectory 128 [(0, .ref a), (1, J (W2 g ((afld σ a 4) + 8))), (2, JL ((afld σ a 4) - (W4 g ((afld σ a 4) + 12)))), (4, JL (((afld σ a 4) - (W4 g ((afld σ a 4) + 12))) - (W4 g ((afld σ a 4) + 16))))] [] σ)) ?_
              refine T.go 2 (fun n9 => (rfl : _ = exe ξ n9 (d + 2) j_A_placeDirectory 130 [(0, .ref a), (1, J (W2 g ((afld σ a 4) + 8))), (2, JL ((afld σ a 4) - (W4 g ((afld σ a 4) + 12)))), (4, JL (((afld σ a 4) - (W4 g ((afld σ a 4) + 12))) - (W4 g ((afld σ a 4) + 16))))] [JL ((afld σ a 4) - (W4 g ((afld σ a 4) + 12))), .ref a] σ)) ?_
              refine T.l2i rfl ?_
              refine T.putF (w := [a]) rfl rfl hax1 rfl rfl rfl (fs' := [.ref (a + 1), .ref (a + 3), .ref (a + 4), J (afld σ a 3), J (afld σ a 4), J ((afld σ a 4) - (W4 g ((afld σ a 4) + 12))), J (afld σ a 6), J (afld σ a 7)]) rfl (Fr.other hK hax1 rfl ⟨_, _, _, _, _, rfl, by omega⟩ (ArL_nR _ ha) (Or.inl (by have := ArL_lt _ ha; omega)) (fun _ z => by cases z) (by simp)) (fun s9 hs9 hcs9 hos9 => ?_)
              have k5 := hos9 (by omega) hrx2
              have k6 := hos9 (q_dif hbx2 hax1 (fun z => by cases z)) hbx2
              refine T.go 2 (fun n9 => (rfl : _ = exe ξ n9 (d + 2) j_A_placeDirectory 137 [(0, .ref a), (1, J (W2 g ((afld σ a 4) + 8))), (2, JL ((afld σ a 4) - (W4 g ((afld σ a 4) + 12)))), (4, JL (((afld σ a 4) - (W4 g ((afld σ a 4) + 12))) - (W4 g ((afld σ a 4) + 16))))] [JL (((afld σ a 4) - (W4 g ((afld σ a 4) + 12))) - (W4 g ((afld σ a 4) + 16))), .ref a] s9)) ?_
              refine T.l2i rfl ?_
              refine T.putF (w := [a]) rfl rfl hcs9 rfl rfl rfl (fs' := [.ref (a + 1), .ref (a + 3), .ref (a + 4), J (afld σ a 3), J (afld σ a 4), J ((afld σ a 4) - (W4 g ((afld σ a 4) + 12))), J (((afld σ a 4) - (W4 g ((afld σ a 4) + 12))) - (W4 g ((afld σ a 4) + 16))), J (afld σ a 7)]) rfl (Fr.other hs9.1 hcs9 rfl ⟨_, _, _, _, _, rfl, by omega⟩ (ArL_nR _ ha) (Or.inl (by have := ArL_lt _ ha; omega)) (fun _ z => by cases z) (by simp)) (fun s10 hs10 hcs10 hos10 => ?_)
              have gs10 := hs9.trans hs10
              have k7 := hos10 (by omega) k5
              have k8 := hos10 (q_dif k6 hcs9 (fun z => by cases z)) k6
              refine T.go 1 (fun n9 => (rfl : _ = exe ξ n9 (d + 2) j_A_placeDirectory 142 [(0, .ref a), (1, J (W2 g ((afld σ a 4) + 8))), (2, JL ((afld σ a 4) - (W4 g ((afld σ a 4) + 12)))), (4, JL (((afld σ a 4) - (W4 g ((afld σ a 4) + 12))) - (W4 g ((afld σ a 4) + 16))))] [J 1] s10)) ?_
              have nf25 := af_of (i := 3) hcs10 rfl (by omega)
              have nf26 := af_of (i := 4) hcs10 rfl (by omega)
              have nf27 := af_of (i := 5) hcs10 rfl (by omega)
              have nf28 := af_of (i := 6) hcs10 rfl (by omega)
              exact T.iretz rfl rfl (by omega) ⟨_, rfl, gs10, by omega, by omega, by omega, by omega, by omega, by omega⟩
          · refine T.go 1 (fun n9 => (rfl : _ = exe ξ n9 (d + 2) j_A_placeDirectory 119 [(0, .ref a), (1, J (W2 g ((afld σ a 4) + 8))), (2, JL ((afld σ a 4) - (W4 g ((afld σ a 4) + 12)))), (4, JL (((afld σ a 4) - (W4 g ((afld σ a 4) + 12))) - (W4 g ((afld σ a 4) + 16))))] [] σ)) ?_
            refine T.go 2 (fun n9 => (rfl : _ = exe ξ n9 (d + 2) j_A_placeDirectory 122 [(0, .ref a), (1, J (W2 g ((afld σ a 4) + 8))), (2, JL ((afld σ a 4) - (W4 g ((afld σ a 4) + 12)))), (4, JL (((afld σ a 4) - (W4 g ((afld σ a 4) + 12))) - (W4 g ((afld σ a 4) + 16))))] [JL 0, JL (((afld σ a 4) - (W4 g ((afld σ a 4) + 12))) - (W4 g ((afld σ a 4) + 16)))] σ)) ?_
            refine T.lcmp rfl (by omega) (by omega) (fun c7 => ?_) (fun c7 => ?_) (fun c7 => ?_)
            · refine T.go 1 (fun n9 => (rfl : _ = exe ξ n9 (d + 2) j_A_placeDirectory 126 [(0, .ref a), (1, J (W2 g ((afld σ a 4) + 8))), (2, JL ((afld σ a 4) - (W4 g ((afld σ a 4) + 12)))), (4, JL (((afld σ a 4) - (W4 g ((afld σ a 4) + 12))) - (W4 g ((afld σ a 4) + 16))))] [] σ)) ?_
              refine T.go 1 (fun n9 => (rfl : _ = exe ξ n9 (d + 2) j_A_placeDirectory 127 [(0, .ref a), (1, J (W2 g ((afld σ a 4) + 8))), (2, JL ((afld σ a 4) - (W4 g ((afld σ a 4) + 12)))), (4, JL (((afld σ a 4) - (W4 g ((afld σ a 4) + 12))) - (W4 g ((afld σ a 4) + 16))))] [J 0] σ)) ?_
              have nf29 := af_of (i := 3) hax1 rfl (by omega)
              have nf30 := af_of (i := 4) hax1 rfl (by omega)
              have nf31 := af_of (i := 5) hax1 rfl (by omega)
              have nf32 := af_of (i := 6) hax1 rfl (by omega)
              exact T.iretz rfl rfl (by omega) ⟨_, rfl, (Fr.refl hK), by omega, by omega, by omega, by omega, by omega, by omega⟩
            · refine T.go 1 (fun n9 => (rfl : _ = exe ξ n9 (d + 2) j_A_placeDirectory 128 [(0, .ref a), (1, J (W2 g ((afld σ a 4) + 8))), (2, JL ((afld σ a 4) - (W4 g ((afld σ a 4) + 12)))), (4, JL (((afld σ a 4) - (W4 g ((afld σ a 4) + 12))) - (W4 g ((afld σ a 4) + 16))))] [] σ)) ?_
              refine T.go 2 (fun n9 => (rfl : _ = exe ξ n9 (d + 2) j_A_placeDirectory 130 [(0, .ref a), (1, J (W2 g ((afld σ a 4) + 8))), (2, JL ((afld σ a 4) - (W4 g ((afld σ a 4) + 12)))), (4, JL (((afld σ a 4) - (W4 g ((afld σ a 4) + 12))) - (W4 g ((afld σ a 4) + 16))))] [JL ((afld σ a 4) - (W4 g ((afld σ a 4) + 12))), .ref a] σ)) ?_
              refine T.l2i rfl ?_
              refine T.putF (w := [a]) rfl rfl hax1 rfl rfl rfl (fs' := [.ref (a + 1), .ref (a + 3), .ref (a + 4), J (afld σ a 3), J (afld σ a 4), J ((afld σ a 4) - (W4 g ((afld σ a 4) + 12))), J (afld σ a 6), J (afld σ a 7)]) rfl (Fr.other hK hax1 rfl ⟨_, _, _, _, _, rfl, by omega⟩ (ArL_nR _ ha) (Or.inl (by have := ArL_lt _ ha; omega)) (fun _ z => by cases z) (by simp)) (fun s11 hs11 hcs11 hos11 => ?_)
              have k9 := hos11 (by omega) hrx2
              have k10 := hos11 (q_dif hbx2 hax1 (fun z => by cases z)) hbx2
              refine T.go 2 (fun n9 => (rfl : _ = exe ξ n9 (d + 2) j_A_placeDirectory 137 [(0, .ref a), (1, J (W2 g ((afld σ a 4) + 8))), (2, JL ((afld σ a 4) - (W4 g ((afld σ a 4) + 12)))), (4, JL (((afld σ a 4) - (W4 g ((afld σ a 4) + 12))) - (W4 g ((afld σ a 4) + 16))))] [JL (((afld σ a 4) - (W4 g ((afld σ a 4) + 12))) - (W4 g ((afld σ a 4) + 16))), .ref a] s11)) ?_
              refine T.l2i rfl ?_
              refine T.putF (w := [a]) rfl rfl hcs11 rfl rfl rfl (fs' := [.ref (a + 1), .ref (a + 3), .ref (a + 4), J (afld σ a 3), J (afld σ a 4), J ((afld σ a 4) - (W4 g ((afld σ a 4) + 12))), J (((afld σ a 4) - (W4 g ((afld σ a 4) + 12))) - (W4 g ((afld σ a 4) + 16))), J (afld σ a 7)]) rfl (Fr.other hs11.1 hcs11 rfl ⟨_, _, _, _, _, rfl, by omega⟩ (ArL_nR _ ha) (Or.inl (by have := ArL_lt _ ha; omega)) (fun _ z => by cases z) (by simp)) (fun s12 hs12 hcs12 hos12 => ?_)
              have gs12 := hs11.trans hs12
              have k11 := hos12 (by omega) k9
              have k12 := hos12 (q_dif k10 hcs11 (fun z => by cases z)) k10
              refine T.go 1 (fun n9 => (rfl : _ = exe ξ n9 (d + 2) j_A_placeDirectory 142 [(0, .ref a), (1, J (W2 g ((afld σ a 4) + 8))), (2, JL ((afld σ a 4) - (W4 g ((afld σ a 4) + 12)))), (4, JL (((afld σ a 4) - (W4 g ((afld σ a 4) + 12))) - (W4 g ((afld σ a 4) + 16))))] [J 1] s12)) ?_
              have nf33 := af_of (i := 3) hcs12 rfl (by omega)
              have nf34 := af_of (i := 4) hcs12 rfl (by omega)
              have nf35 := af_of (i := 5) hcs12 rfl (by omega)
              have nf36 := af_of (i := 6) hcs12 rfl (by omega)
              exact T.iretz rfl rfl (by omega) ⟨_, rfl, gs12, by omega, by omega, by omega, by omega, by omega, by omega⟩
            · refine T.go 1 (fun n9 => (rfl : _ = exe ξ n9 (d + 2) j_A_placeDirectory 128 [(0, .ref a), (1, J (W2 g ((afld σ a 4) + 8))), (2, JL ((afld σ a 4) - (W4 g ((afld σ a 4) + 12)))), (4, JL (((afld σ a 4) - (W4 g ((afld σ a 4) + 12))) - (W4 g ((afld σ a 4) + 16))))] [] σ)) ?_
              refine T.go 2 (fun n9 => (rfl : _ = exe ξ n9 (d + 2) j_A_placeDirectory 130 [(0, .ref a), (1, J (W2 g ((afld σ a 4) + 8))), (2, JL ((afld σ a 4) - (W4 g ((afld σ a 4) + 12)))), (4, JL (((afld σ a 4) - (W4 g ((afld σ a 4) + 12))) - (W4 g ((afld σ a 4) + 16))))] [JL ((afld σ a 4) - (W4 g ((afld σ a 4) + 12))), .ref a] σ)) ?_
              refine T.l2i rfl ?_
              refine T.putF (w := [a]) rfl rfl hax1 rfl rfl rfl (fs' := [.ref (a + 1), .ref (a + 3), .ref (a + 4), J (afld σ a 3), J (afld σ a 4), J ((afld σ a 4) - (W4 g ((afld σ a 4) + 12))), J (afld σ a 6), J (afld σ a 7)]) rfl (Fr.other hK hax1 rfl ⟨_, _, _, _, _, rfl, by omega⟩ (ArL_nR _ ha) (Or.inl (by have := ArL_lt _ ha; omega)) (fun _ z => by cases z) (by simp)) (fun s13 hs13 hcs13 hos13 => ?_)
              have k13 := hos13 (by omega) hrx2
              have k14 := hos13 (q_dif hbx2 hax1 (fun z => by cases z)) hbx2
              refine T.go 2 (fun n9 => (rfl : _ = exe ξ n9 (d + 2) j_A_placeDirectory 137 [(0, .ref a), (1, J (W2 g ((afld σ a 4) + 8))), (2, JL ((afld σ a 4) - (W4 g ((afld σ a 4) + 12)))), (4, JL (((afld σ a 4) - (W4 g ((afld σ a 4) + 12))) - (W4 g ((afld σ a 4) + 16))))] [JL (((afld σ a 4) - (W4 g ((afld σ a 4) + 12))) - (W4 g ((afld σ a 4) + 16))), .ref a] s13)) ?_
              refine T.l2i rfl ?_
              refine T.putF (w := [a]) rfl rfl hcs13 rfl rfl rfl (fs' := [.ref (a + 1), .ref (a + 3), .ref (a + 4), J (afld σ a 3), J (afld σ a 4), J ((afld σ a 4) - (W4 g ((afld σ a 4) + 12))), J (((afld σ a 4) - (W4 g ((afld σ a 4) + 12))) - (W4 g ((afld σ a 4) + 16))), J (afld σ a 7)]) rfl (Fr.other hs13.1 hcs13 rfl ⟨_, _, _, _, _, rfl, by omega⟩ (ArL_nR _ ha) (Or.inl (by have := ArL_lt _ ha; omega)) (fun _ z => by cases z) (by simp)) (fun s14 hs14 hcs14 hos14 => ?_)
              have gs14 := hs13.trans hs14
              have k15 := hos14 (by omega) k13
              have k16 := hos14 (q_dif k14 hcs13 (fun z => by cases z)) k14
              refine T.go 1 (fun n9 => (rfl : _ = exe ξ n9 (d + 2) j_A_placeDirectory 142 [(0, .ref a), (1, J (W2 g ((afld σ a 4) + 8))), (2, JL ((afld σ a 4) - (W4 g ((afld σ a 4) + 12)))), (4, JL (((afld σ a 4) - (W4 g ((afld σ a 4) + 12))) - (W4 g ((afld σ a 4) + 16))))] [J 1] s14)) ?_
              have nf37 := af_of (i := 3) hcs14 rfl (by omega)
              have nf38 := af_of (i := 4) hcs14 rfl (by omega)
              have nf39 := af_of (i := 5) hcs14 rfl (by omega)
              have nf40 := af_of (i := 6) hcs14 rfl (by omega)
              exact T.iretz rfl rfl (by omega) ⟨_, rfl, gs14, by omega, by omega, by omega, by omega, by omega, by omega⟩
        · refine T.go 1 (fun n9 => (rfl : _ = exe ξ n9 (d + 2) j_A_placeDirectory 73 [(0, .ref a), (1, J (W2 g ((afld σ a 4) + 8)))] [J 0] σ)) ?_
          have nf41 := af_of (i := 3) hax1 rfl (by omega)
          have nf42 := af_of (i := 4) hax1 rfl (by omega)
          have nf43 := af_of (i := 5) hax1 rfl (by omega)
          have nf44 := af_of (i := 6) hax1 rfl (by omega)
          exact T.iretz rfl rfl (by omega) ⟨_, rfl, (Fr.refl hK), by omega, by omega, by omega, by omega, by omega, by omega⟩

set_option maxRecDepth 10000 in
set_option maxHeartbeats 4000000 in
theorem s_A_fsurveyHeader {ξ : Nat → Option (Nat × List Int32)} (d : Nat) (g : Int → Int) (a : Nat) (x : Int) (σ : qH) (hK : K σ) (ha : a ∈ ArL) (h255 : ∀ k, 0 ≤ g k ∧ g k ≤ 255) (hg : AGR σ (a + 1) g) (hc : ∀ j : Int, 0 ≤ j → j < afld σ a 3 → 0 ≤ gl (il σ (a + 3)) j ∧ gl (il σ (a + 3)) j + 46 + W2 g (gl (il σ (a + 3)) j + 28) ≤ rl σ (a + 1)) (rx : -2147483648 ≤ x ∧ x ≤ 2147483647) (pre0 : 0 ≤ x) (pre1 : x ≤ 100000) (pre2 : 0 ≤ afld σ a 4) (pre3 : afld σ a 4 + 22 ≤ rl σ (a + 1)) (pre4 : afld σ a 5 ≤ afld σ a 4) (pre5 : afld σ a 6 ≤ 8000) : T ξ (d + 3) j_A_surveyHeader 0 (lv_args 0 [.ref a, J x]) [] σ (fun v σ' => ∃ z : Int, v = some (J z) ∧ σ' = σ ∧ 0 ≤ z ∧ z ≤ 5 ∧ (z = 0 → (x + 46 ≤ afld σ a 4 ∧ STn g x 1 2 = 1 ∧ W2 g (x + 34) = 0 ∧ NXn g x ≤ afld σ a 4 ∧ NRn g (hsx (gl (il σ (a + 3))) (afld σ a 3) x) (afld σ a 3) = 1 ∧ LRn g x (afld σ a 6 + W4 g (x + 42)) (afld σ a 5) = 1)) ∧ (z ≠ 0 → ¬ (x + 46 ≤ afld σ a 4 ∧ STn g x 1 2 = 1 ∧ W2 g (x + 34) = 0 ∧ NXn g x ≤ afld σ a 4 ∧ NRn g (hsx (gl (il σ (a + 3))) (afld σ a 3) x) (afld σ a 3) = 1 ∧ LRn g x (afld σ a 6 + W4 g (x + 42)) (afld σ a 5) = 1))) := by
  have la := (ArL_lt a ha).2.1
  have hW := W2_r h255
  have hV := W4_r h255
  have nx : NXn g x = x + 46 + W2 g (x + 28) + W2 g (x + 30) + W2 g (x + 32) := rfl
  have w28 := hW (x + 28)
  have w30 := hW (x + 30)
  have w32 := hW (x + 32)
  obtain ⟨ex1, erx1, dix1, bax1, fpx1, hax1, fx1a, fx1b, fx1c, fx1d, fx1e, fx1f, fx1g, fx1h, fx1i, fx1j⟩ := hK.arc ha
  have af3x1 := af_of (i := 3) hax1 rfl (by omega)
  subst af3x1
  have af4x1 := af_of (i := 4) hax1 rfl (by omega)
  subst af4x1
  have af5x1 := af_of (i := 5) hax1 rfl (by omega)
  subst af5x1
  have af6x1 := af_of (i := 6) hax1 rfl (by omega)
  subst af6x1
  have af7x1 := af_of (i := 7) hax1 rfl (by omega)
  subst af7x1
  obtain ⟨mx2, nx2, bx2, lx2, hrx2, hbx2, fx2a, fx2b, fx2c, fx2d, fx2e, fx2g, fx2h, fx2i⟩ := hK.row (kdX_ar _ ha).2.2.1
  have ctx2 := CT_of hrx2 hbx2
  have rwx2 := rl_of hrx2 (by omega)
  subst rwx2
  refine T.go 2 (fun n9 => (rfl : _ = exe ξ n9 (d + 3) j_A_surveyHeader 2 [(0, .ref a), (1, J x)] [.ref a, J x] σ)) ?_
  refine T.get rfl rfl rfl hax1 rfl ?_
  refine T.go 1 (fun n9 => (rfl : _ = exe ξ n9 (d + 3) j_A_surveyHeader 7 [(0, .ref a), (1, J x)] [J 46, J (afld σ a 4), J x] σ)) ?_
  refine T.isub rfl ?_
  refine T.icmp_gt rfl rfl (by omega) (by omega) (fun c1 => ?_) (fun c1 => ?_)
  · refine T.go 1 (fun n9 => (rfl : _ = exe ξ n9 (d + 3) j_A_surveyHeader 53 [(0, .ref a), (1, J x)] [J 3] σ)) ?_
    exact T.ireti rfl rfl ⟨_, rfl, rfl, by omega, by omega, by omega, by omega⟩
  · refine T.go 1 (fun n9 => (rfl : _ = exe ξ n9 (d + 3) j_A_surveyHeader 12 [(0, .ref a), (1, J x)] [.ref a] σ)) ?_
    refine T.get rfl rfl rfl hax1 rfl ?_
    refine T.go 3 (fun n9 => (rfl : _ = exe ξ n9 (d + 3) j_A_surveyHeader 18 [(0, .ref a), (1, J x)] [J 2, J 1, J x, .ref (a + 1)] σ)) ?_
    refine T.callv (as := [J x, J 1, J 2]) (r := []) rfl rfl rfl (RwL_lt _ (kdX_ar _ ha).2.2.1).2.2.1 hrx2 rfl (s_R_fhasMark (d + 1) g (a + 1) x 1 2 σ hK (kdX_ar _ ha).2.2.1 hg (by omega) (by omega) (by omega) (by omega) (by omega)) (fun v1 s1 hqs1 => ?_)
    obtain ⟨z1, rfl, esz1, hzz1, hyz1, pz1_0⟩ := hqs1
    rw [esz1]
    have ez1 := pz1_0 (by omega) (by omega)
    refine T.if_eq rfl rfl (by omega) (fun c2 => ?_) (fun c2 => ?_)
    · refine T.go 1 (fun n9 => (rfl : _ = exe ξ n9 (d + 3) j_A_surveyHeader 53 [(0, .ref a), (1, J x)] [J 3] σ)) ?_
      exact T.ireti rfl rfl ⟨_, rfl, rfl, by omega, by omega, by omega, by omega⟩
    · refine T.go 1 (fun n9 => (rfl : _ = exe ξ n9 (d + 3) j_A_surveyHeader 25 [(0, .ref a), (1, J x)] [.ref a] σ)) ?_
      refine T.get rfl rfl rfl hax1 rfl ?_
      refine T.go 2 (fun n9 => (rfl : _ = exe ξ n9 (d + 3) j_A_surveyHeader 31 [(0, .ref a), (1, J x)] [J 34, J x, .ref (a + 1)] σ)) ?_
      refine T.iadd rfl ?_
      refine T.callv (as := [J (x + 34)]) (r := []) rfl rfl rfl (RwL_lt _ (kdX_ar _ ha).2.2.1).2.2.1 hrx2 rfl (s_R_ftwo (d + 2) g (a + 1) (x + 34) σ hK (kdX_ar _ ha).2.2.1 hg (by omega)) (fun v2 s2 hqs2 => ?_)
      obtain ⟨z2, rfl, esz2, hzz2, hyz2, pz2_0, pz2_1⟩ := hqs2
      rw [esz2]
      have ez2 := pz2_0 (by omega) (by omega)
      subst ez2
      have wz2 := hW (x + 34)
      refine T.if_ne rfl rfl (by omega) (fun c3 => ?_) (fun c3 => ?_)
      · refine T.go 1 (fun n9 => (rfl : _ = exe ξ n9 (d + 3) j_A_surveyHeader 53 [(0, .ref a), (1, J x)] [J 3] σ)) ?_
        exact T.ireti rfl rfl ⟨_, rfl, rfl, by omega, by omega, by omega, by omega⟩
      · refine T.go 2 (fun n9 => (rfl : _ = exe ξ n9 (d + 3) j_A_surveyHeader 40 [(0, .ref a), (1, J x)] [J x, .ref a] σ)) ?_
        refine T.callv (as := [J x]) (r := []) rfl rfl rfl (ArL_lt _ ha).2.2.1 hax1 rfl (s_A_fheaderLength (d + 1) g a x σ hK ha h255 hg (by omega) (by omega) (by omega)) (fun v3 s3 hqs3 => ?_)
        obtain ⟨z3, rfl, esz3, hzz3, hyz3, pz3_0⟩ := hqs3
        rw [esz3]
        refine T.go 1 (fun n9 => (rfl : _ = exe ξ n9 (d + 3) j_A_surveyHeader 44 [(0, .ref a), (1, J x)] [.ref a, J z3] σ)) ?_
        refine T.get rfl rfl rfl hax1 rfl ?_
        refine T.go 1 (fun n9 => (rfl : _ = exe ξ n9 (d + 3) j_A_surveyHeader 48 [(0, .ref a), (1, J x)] [J x, J (afld σ a 4), J z3] σ)) ?_
        refine T.isub rfl ?_
        refine T.icmp_le rfl rfl (by omega) (by omega) (fun c4 => ?_) (fun c4 => ?_)
        · refine T.go 2 (fun n9 => (rfl : _ = exe ξ n9 (d + 3) j_A_surveyHeader 56 [(0, .ref a), (1, J x)] [J x, .ref a] σ)) ?_
          refine T.callv (as := [J x]) (r := []) rfl rfl rfl (ArL_lt _ ha).2.2.1 hax1 rfl (s_A_fisFreshName d g a x σ hK ha h255 hg hc (by omega) (by omega) (by omega) (by omega)) (fun v4 s4 hqs4 => ?_)
          obtain ⟨z4, rfl, esz4, hzz4, hyz4, pz4_0⟩ := hqs4
          rw [esz4]
          refine T.if_ne rfl rfl (by omega) (fun c5 => ?_) (fun c5 => ?_)
          · refine T.go 2 (fun n9 => (rfl : _ = exe ξ n9 (d + 3) j_A_surveyHeader 66 [(0, .ref a), (1, J x)] [J x, .ref a] σ)) ?_
            refine T.callv (as := [J x]) (r := []) rfl rfl rfl (ArL_lt _ ha).2.2.1 hax1 rfl (s_A_fplaceData d g a x σ hK ha h255 hg (by omega) (by omega) (by omega) (by omega) (by omega) (by omega)) (fun v5 s5 hqs5 => ?_)
            obtain ⟨z5, rfl, esz5, hzz5, hyz5, pz5_0, pz5_1, pz5_2⟩ := hqs5
            rw [esz5]
            refine T.if_ge rfl rfl (by omega) (fun c6 => ?_) (fun c6 => ?_)
            · refine T.go 1 (fun n9 => (rfl : _ = exe ξ n9 (d + 3) j_A_surveyHeader 77 [(0, .ref a), (1, J x)] [J 0] σ)) ?_
              exact T.ireti rfl rfl ⟨_, rfl, rfl, by omega, by omega, by omega, by omega⟩
            · refine T.go 2 (fun n9 => (rfl : _ = exe ξ n9 (d + 3) j_A_surveyHeader 77 [(0, .ref a), (1, J x)] [J 5] σ)) ?_
              exact T.ireti rfl rfl ⟨_, rfl, rfl, by omega, by omega, by omega, by omega⟩
          · refine T.go 1 (fun n9 => (rfl : _ = exe ξ n9 (d + 3) j_A_surveyHeader 63 [(0, .ref a), (1, J x)] [J 4] σ)) ?_
            exact T.ireti rfl rfl ⟨_, rfl, rfl, by omega, by omega, by omega, by omega⟩
        · refine T.go 1 (fun n9 => (rfl : _ = exe ξ n9 (d + 3) j_A_surveyHeader 53 [(0, .ref a), (1, J x)] [J 3] σ)) ?_
          exact T.ireti rfl rfl ⟨_, rfl, rfl, by omega, by omega, by omega, by omega⟩

set_option maxRecDepth 10000 in
set_option maxHeartbeats 4000000 in
theorem s_A_fsurvey {ξ : Nat → Option (Nat × List Int32)} (d : Nat) (g : Int → Int) (a : Nat) (σ : qH) (hK : K σ) (ha : a ∈ ArL) (h255 : ∀ k, 0 ≤ g k ∧ g k ≤ 255) (hg : AGR σ (a + 1) g) (hNA : NA σ) : T ξ (d + 4) j_A_survey 0 (lv_args 0 [.ref a]) [] σ (fun v σ' => ∃ z : Int, v = some (J z) ∧ Fr [a, a + 3, a + 4] σ σ' ∧ 0 ≤ z ∧ z ≤ 5 ∧ (z = 0 → FOn g (rl σ (a + 1)) = 1) ∧ (z ≠ 0 → FOn g (rl σ (a + 1)) = 0) ∧ (z = 0 → afld σ' a 3 = W2 g (EN g (rl σ (a + 1)) + 8) ∧ afld σ' a 4 = EN g (rl σ (a + 1)) ∧ afld σ' a 5 = (EN g (rl σ (a + 1)) - W4 g (EN g (rl σ (a + 1)) + 12)) ∧ afld σ' a 6 = ((EN g (rl σ (a + 1)) - W4 g (EN g (rl σ (a + 1)) + 12)) - W4 g (EN g (rl σ (a + 1)) + 16))) ∧ (z = 0 → ∀ j : Int, 0 ≤ j → j < W2 g (EN g (rl σ (a + 1)) + 8) → gl (il σ' (a + 3)) j = hsf g (EN g (rl σ (a + 1)) - W4 g (EN g (rl σ (a + 1)) + 12)) j ∧ gl (il σ' (a + 4)) j = ((EN g (rl σ (a + 1)) - W4 g (EN g (rl σ (a + 1)) + 12)) - W4 g (EN g (rl σ (a + 1)) + 16)) + W4 g (hsf g (EN g (rl σ (a + 1)) - W4 g (EN g (rl σ (a + 1)) + 12)) j + 42) + 30 + W2 g (hsf g (EN g (rl σ (a + 1)) - W4 g (EN g (rl σ (a + 1)) + 12)) j + 28) + W2 g (((EN g (rl σ (a + 1)) - W4 g (EN g (rl σ (a + 1)) + 12)) - W4 g (EN g (rl σ (a + 1)) + 16)) + W4 g (hsf g (EN g (rl σ (a + 1)) - W4 g (EN g (rl σ (a + 1)) + 12)) j + 42) + 28) ∧ 0 ≤ hsf g (EN g (rl σ (a + 1)) - W4 g (EN g (rl σ (a + 1)) + 12)) j ∧ hsf g (EN g (rl σ (a + 1)) - W4 g (EN g (rl σ (a + 1)) + 12)) j + 46 + W2 g (hsf g (EN g (rl σ (a + 1)) - W4 g (EN g (rl σ (a + 1)) + 12)) j + 28) ≤ rl σ (a + 1))) := by
  have la := (ArL_lt a ha).2.1
  have hW := W2_r h255
  have hV := W4_r h255
  have en := EN_le g (rl σ (a + 1))
  have v12 := hV (EN g (rl σ (a + 1)) + 12)
  have v16 := hV (EN g (rl σ (a + 1)) + 16)
  have w8 := hW (EN g (rl σ (a + 1)) + 8)
  obtain ⟨ex1, erx1, dix1, bax1, fpx1, hax1, fx1a, fx1b, fx1c, fx1d, fx1e, fx1f, fx1g, fx1h, fx1i, fx1j⟩ := hK.arc ha
  have af3x1 := af_of (i := 3) hax1 rfl (by omega)
  subst af3x1
  have af4x1 := af_of (i := 4) hax1 rfl (by omega)
  subst af4x1
  have af5x1 := af_of (i := 5) hax1 rfl (by omega)
  subst af5x1
  have af6x1 := af_of (i := 6) hax1 rfl (by omega)
  subst af6x1
  have af7x1 := af_of (i := 7) hax1 rfl (by omega)
  subst af7x1
  obtain ⟨mx2, nx2, bx2, lx2, hrx2, hbx2, fx2a, fx2b, fx2c, fx2d, fx2e, fx2g, fx2h, fx2i⟩ := hK.row (kdX_ar _ ha).2.2.1
  have ctx2 := CT_of hrx2 hbx2
  have rwx2 := rl_of hrx2 (by omega)
  subst rwx2
  have loop58 : ∀ (f : Nat) (t : Int) (h : Int) (k : Int) (τ : qH), Fr [a, a + 3, a + 4] σ τ → t = W2 g (EN g (rl σ (a + 1)) + 8) → t ≤ 64 → 0 ≤ EN g (rl σ (a + 1)) → EN g (rl σ (a + 1)) + 22 ≤ rl σ (a + 1) → 0 ≤ (EN g (rl σ (a + 1)) - W4 g (EN g (rl σ (a + 1)) + 12)) → 0 ≤ ((EN g (rl σ (a + 1)) - W4 g (EN g (rl σ (a + 1)) + 12)) - W4 g (EN g (rl σ (a + 1)) + 16)) → (W2 g (EN g (rl σ (a + 1)) + 4) = 0 ∧ W2 g (EN g (rl σ (a + 1)) + 6) = 0 ∧ W2 g (EN g (rl σ (a + 1)) + 8) = W2 g (EN g (rl σ (a + 1)) + 10)) → afld τ a 4 = EN g (rl σ (a + 1)) → afld τ a 5 = (EN g (rl σ (a + 1)) - W4 g (EN g (rl σ (a + 1)) + 12)) → afld τ a 6 = ((EN g (rl σ (a + 1)) - W4 g (EN g (rl σ (a + 1)) + 12)) - W4 g (EN g (rl σ (a + 1)) + 16)) → afld τ a 3 = k → 0 ≤ k → k ≤ t → h = hsf g (EN g (rl σ (a + 1)) - W4 g (EN g (rl σ (a + 1)) + 12)) k → (0 ≤ h ∧ h ≤ 100000) → AVn g (EN g (rl σ (a + 1))) (EN g (rl σ (a + 1)) - W4 g (EN g (rl σ (a + 1)) + 12)) ((EN g (rl σ (a + 1)) - W4 g (EN g (rl σ (a + 1)) + 12)) - W4 g (EN g (rl σ (a + 1)) + 16)) k.toNat = 1 → (∀ j : Int, 0 ≤ j → j < k → gl (il τ (a + 3)) j = hsf g (EN g (rl σ (a + 1)) - W4 g (EN g (rl σ (a + 1)) + 12)) j) → (∀ j : Int, 0 ≤ j → j < k → 0 ≤ hsf g (EN g (rl σ (a + 1)) - W4 g (EN g (rl σ (a + 1)) + 12)) j ∧ hsf g (EN g (rl σ (a + 1)) - W4 g (EN g (rl σ (a + 1)) + 12)) j + 46 + W2 g (hsf g (EN g (rl σ (a + 1)) - W4 g (EN g (rl σ (a + 1)) + 12)) j + 28) ≤ rl σ (a + 1)) → (∀ j : Int, 0 ≤ j → j < k → gl (il τ (a + 4)) j = ((EN g (rl σ (a + 1)) - W4 g (EN g (rl σ (a + 1)) + 12)) - W4 g (EN g (rl σ (a + 1)) + 16)) + W4 g (hsf g (EN g (rl σ (a + 1)) - W4 g (EN g (rl σ (a + 1)) + 12)) j + 42) + 30 + W2 g (hsf g (EN g (rl σ (a + 1)) - W4 g (EN g (rl σ (a + 1)) + 12)) j + 28) + W2 g (((EN g (rl σ (a + 1)) - W4 g (EN g (rl σ (a + 1)) + 12)) - W4 g (EN g (rl σ (a + 1)) + 16)) + W4 g (hsf g (EN g (rl σ (a + 1)) - W4 g (EN g (rl σ (a + 1)) + 12)) j + 42) + 28)) → (64 - k).toNat < f → T ξ (d + 4) j_A_survey 58 [(0, .ref a), (1, J t), (2, J h), (3, J k)] [] τ (fun v σ' => ∃ z : Int, v = some (J z) ∧ Fr [a, a + 3, a + 4] σ σ' ∧ 0 ≤ z ∧ z ≤ 5 ∧ (z = 0 → FOn g (rl σ (a + 1)) = 1) ∧ (z ≠ 0 → FOn g (rl σ (a + 1)) = 0) ∧ (z = 0 → afld σ' a 3 = W2 g (EN g (rl σ (a + 1)) + 8) ∧ afld σ' a 4 = EN g (rl σ (a + 1)) ∧ afld σ' a 5 = (EN g (rl σ (a + 1)) - W4 g (EN g (rl σ (a + 1)) + 12)) ∧ afld σ' a 6 = ((EN g (rl σ (a + 1)) - W4 g (EN g (rl σ (a + 1)) + 12)) - W4 g (EN g (rl σ (a + 1)) + 16))) ∧ (z = 0 → ∀ j : Int, 0 ≤ j → j < W2 g (EN g (rl σ (a + 1)) + 8) → gl (il σ' (a + 3)) j = hsf g (EN g (rl σ (a + 1)) - W4 g (EN g (rl σ (a + 1)) + 12)) j ∧ gl (il σ' (a + 4)) j = ((EN g (rl σ (a + 1)) - W4 g (EN g (rl σ (a + 1)) + 12)) - W4 g (EN g (rl σ (a + 1)) + 16)) + W4 g (hsf g (EN g (rl σ (a + 1)) - W4 g (EN g (rl σ (a + 1)) + 12)) j + 42) + 30 + W2 g (hsf g (EN g (rl σ (a + 1)) - W4 g (EN g (rl σ (a + 1)) + 12)) j + 28) + W2 g (((EN g (rl σ (a + 1)) - W4 g (EN g (rl σ (a + 1)) + 12)) - W4 g (EN g (rl σ (a + 1)) + 16)) + W4 g (hsf g (EN g (rl σ (a + 1)) - W4 g (EN g (rl σ (a + 1)) + 12)) j + 42) + 28) ∧ 0 ≤ hsf g (EN g (rl σ (a + 1)) - W4 g (EN g (rl σ (a + 1)) + 12)) j ∧ hsf g (EN g (rl σ (a + 1)) - W4 g (EN g (rl σ (a + 1)) + 12)) j + 46 + W2 g (hsf g (EN g (rl σ (a + 1)) - W4 g (EN g (rl σ (a + 1)) + 12)) j + 28) ≤ rl σ (a + 1))) := by
    intro f
    induction f with
    | zero => intro t h k τ hτ i0 i1 i2 i3 i4 i5 i6 i7 i8 i9 i10 i11 i12 i13 i14 i15 i16 i17 i18 hm; omega
    | succ f ih =>
      intro t h k τ hτ i0 i1 i2 i3 i4 i5 i6 i7 i8 i9 i10 i11 i12 i13 i14 i15 i16 i17 i18 hm
      obtain ⟨ex3, erx3, dix3, bax3, fpx3, hax3, fx3a, fx3b, fx3c, fx3d, fx3e, fx3f, fx3g, fx3h, fx3i, fx3j⟩ := hτ.1.arc ha
      have af3x3 := af_of (i := 3) hax3 rfl (by omega)
      subst af3x3
      have af4x3 := af_of (i := 4) hax3 rfl (by omega)
      subst af4x3
      have af5x3 := af_of (i := 5) hax3 rfl (by omega)
      subst af5x3
      have af6x3 := af_of (i := 6) hax3 rfl (by omega)
      subst af6x3
      have af7x3 := af_of (i := 7) hax3 rfl (by omega)
      subst af7x3
      obtain ⟨lx4, hix4, elx4⟩ := hτ.1.ints (kdX_ar _ ha).2.2.2.1
      have ilx4 := il_of hix4
      obtain ⟨lx5, hix5, elx5⟩ := hτ.1.ints (kdX_ar _ ha).2.2.2.2
      have ilx5 := il_of hix5
      have hg1 := hg.fr hNA hτ (kdX_ar _ ha).2.2.1 (nm_c (by omega) (nm_c (by omega) (nm_c (by omega) nm_0)))
      have rlhg1 := rl_eq (hτ.2.2.1 (a + 1) (List.mem_cons_of_mem _ (kdX_ar _ ha).2.2.1) (nm_c (by omega) (nm_c (by omega) (nm_c (by omega) nm_0))))
      have hchg1 : ∀ j : Int, 0 ≤ j → j < afld τ a 3 → 0 ≤ gl (il τ (a + 3)) j ∧ gl (il τ (a + 3)) j + 46 + W2 g (gl (il τ (a + 3)) j + 28) ≤ rl τ (a + 1) := fun j b1 b2 => by rw [i16 j b1 (by omega)]; have := i17 j b1 (by omega); omega
      have nf1 := af_of (i := 3) hax3 rfl (by omega)
      have nf2 := af_of (i := 4) hax3 rfl (by omega)
      have nf3 := af_of (i := 5) hax3 rfl (by omega)
      have nf4 := af_of (i := 6) hax3 rfl (by omega)
      refine T.go 2 (fun n9 => (rfl : _ = exe ξ n9 (d + 4) j_A_survey 60 [(0, .ref a), (1, J t), (2, J h), (3, J k)] [J t, J k] τ)) ?_
      refine T.icmp_ge rfl rfl (by omega) (by omega) (fun c1 => ?_) (fun c1 => ?_)
      · refine T.go 2 (fun n9 => (rfl : _ = exe ξ n9 (d + 4) j_A_survey 130 [(0, .ref a), (1, J t), (2, J h), (3, J k)] [.ref a, .ref a] τ)) ?_
        refine T.get rfl rfl rfl hax3 rfl ?_
        refine T.putF (w := [a, a + 3, a + 4]) rfl rfl hax3 rfl rfl rfl (fs' := [.ref (a + 1), .ref (a + 3), .ref (a + 4), J (afld τ a 3), J (afld τ a 4), J (afld τ a 5), J (afld τ a 6), J (afld τ a 3)]) rfl (Fr.other hτ.1 hax3 rfl ⟨_, _, _, _, _, rfl, by omega⟩ (ArL_nR _ ha) (Or.inl (by have := ArL_lt _ ha; omega)) (fun _ z => by cases z) (by simp)) (fun s1 hs1 hcs1 hos1 => ?_)
        have gs1 := hτ.trans hs1
        have k1 := hos1 (by omega) hix4
        have k2 := hos1 (by omega) hix5
        refine T.go 2 (fun n9 => (rfl : _ = exe ξ n9 (d + 4) j_A_survey 138 [(0, .ref a), (1, J t), (2, J h), (3, J k)] [.ref a, J h] s1)) ?_
        refine T.get rfl rfl rfl hcs1 rfl ?_
        refine T.icmp_ne rfl rfl (by omega) (by omega) (fun c2 => ?_) (fun c2 => ?_)
        · refine T.go 1 (fun n9 => (rfl : _ = exe ξ n9 (d + 4) j_A_survey 149 [(0, .ref a), (1, J t), (2, J h), (3, J k)] [J 3] s1)) ?_
          have nf5 := af_of (i := 3) hcs1 rfl (by omega)
          have nf6 := af_of (i := 4) hcs1 rfl (by omega)
          have nf7 := af_of (i := 5) hcs1 rfl (by omega)
          have nf8 := af_of (i := 6) hcs1 rfl (by omega)
          have il3 : il s1 (a + 3) = il τ (a + 3) := (il_of k1).trans (il_of hix4).symm
          have il4 : il s1 (a + 4) = il τ (a + 4) := (il_of k2).trans (il_of hix5).symm
          have kn : k = W2 g (EN g (rl σ (a + 1)) + 8) := by omega
          have hav := i15
          rw [kn] at hav
          have hh := i13
          rw [kn] at hh
          exact T.ireti rfl rfl ⟨_, rfl, gs1, by omega, by omega, (fun q => by omega), (fun q => by unfold FOn; exact if_neg (by omega)), (fun q => by omega), (fun q => absurd q (by omega))⟩
        · refine T.go 2 (fun n9 => (rfl : _ = exe ξ n9 (d + 4) j_A_survey 149 [(0, .ref a), (1, J t), (2, J h), (3, J k)] [J 0] s1)) ?_
          have nf9 := af_of (i := 3) hcs1 rfl (by omega)
          have nf10 := af_of (i := 4) hcs1 rfl (by omega)
          have nf11 := af_of (i := 5) hcs1 rfl (by omega)
          have nf12 := af_of (i := 6) hcs1 rfl (by omega)
          have il3 : il s1 (a + 3) = il τ (a + 3) := (il_of k1).trans (il_of hix4).symm
          have il4 : il s1 (a + 4) = il τ (a + 4) := (il_of k2).trans (il_of hix5).symm
          have kn : k = W2 g (EN g (rl σ (a + 1)) + 8) := by omega
          have hav := i15
          rw [kn] at hav
          have hh := i13
          rw [kn] at hh
          exact T.ireti rfl rfl ⟨_, rfl, gs1, by omega, by omega, (fun _ => by unfold FOn; exact if_pos ⟨by omega, by omega, by omega, by omega, by omega, by omega, by omega, hav, by omega⟩), (fun q => by omega), (fun q => by omega), (fun _ j b1 b2 => ⟨by rw [il3]; exact i16 j b1 (by omega), by rw [il4]; exact i18 j b1 (by omega), i17 j b1 (by omega)⟩)⟩
      · refine T.go 2 (fun n9 => (rfl : _ = exe ξ n9 (d + 4) j_A_survey 66 [(0, .ref a), (1, J t), (2, J h), (3, J k)] [J 64, J k] τ)) ?_
        refine T.icmp_ge rfl rfl (by omega) (by omega) (fun c3 => ?_) (fun c3 => ?_)
        · refine T.go 2 (fun n9 => (rfl : _ = exe ξ n9 (d + 4) j_A_survey 130 [(0, .ref a), (1, J t), (2, J h), (3, J k)] [.ref a, .ref a] τ)) ?_
          refine T.get rfl rfl rfl hax3 rfl ?_
          refine T.putF (w := [a, a + 3, a + 4]) rfl rfl hax3 rfl rfl rfl (fs' := [.ref (a + 1), .ref (a + 3), .ref (a + 4), J (afld τ a 3), J (afld τ a 4), J (afld τ a 5), J (afld τ a 6), J (afld τ a 3)]) rfl (Fr.other hτ.1 hax3 rfl ⟨_, _, _, _, _, rfl, by omega⟩ (ArL_nR _ ha) (Or.inl (by have := ArL_lt _ ha; omega)) (fun _ z => by cases z) (by simp)) (fun s2 hs2 hcs2 hos2 => ?_)
          have gs2 := hτ.trans hs2
          have k3 := hos2 (by omega) hix4
          have k4 := hos2 (by omega) hix5
          refine T.go 2 (fun n9 => (rfl : _ = exe ξ n9 (d + 4) j_A_survey 138 [(0, .ref a), (1, J t), (2, J h), (3, J k)] [.ref a, J h] s2)) ?_
          refine T.get rfl rfl rfl hcs2 rfl ?_
          refine T.icmp_ne rfl rfl (by omega) (by omega) (fun c4 => ?_) (fun c4 => ?_)
          · refine T.go 1 (fun n9 => (rfl : _ = exe ξ n9 (d + 4) j_A_survey 149 [(0, .ref a), (1, J t), (2, J h), (3, J k)] [J 3] s2)) ?_
            have nf13 := af_of (i := 3) hcs2 rfl (by omega)
            have nf14 := af_of (i := 4) hcs2 rfl (by omega)
            have nf15 := af_of (i := 5) hcs2 rfl (by omega)
            have nf16 := af_of (i := 6) hcs2 rfl (by omega)
            have il3 : il s2 (a + 3) = il τ (a + 3) := (il_of k3).trans (il_of hix4).symm
            have il4 : il s2 (a + 4) = il τ (a + 4) := (il_of k4).trans (il_of hix5).symm
            have kn : k = W2 g (EN g (rl σ (a + 1)) + 8) := by omega
            have hav := i15
            rw [kn] at hav
            have hh := i13
            rw [kn] at hh
            exact T.ireti rfl rfl ⟨_, rfl, gs2, by omega, by omega, (fun q => by omega), (fun q => by unfold FOn; exact if_neg (by omega)), (fun q => by omega), (fun q => absurd q (by omega))⟩
          · refine T.go 2 (fun n9 => (rfl : _ = exe ξ n9 (d + 4) j_A_survey 149 [(0, .ref a), (1, J t), (2, J h), (3, J k)] [J 0] s2)) ?_
            have nf17 := af_of (i := 3) hcs2 rfl (by omega)
            have nf18 := af_of (i := 4) hcs2 rfl (by omega)
            have nf19 := af_of (i := 5) hcs2 rfl (by omega)
            have nf20 := af_of (i := 6) hcs2 rfl (by omega)
            have il3 : il s2 (a + 3) = il τ (a + 3) := (il_of k3).trans (il_of hix4).symm
            have il4 : il s2 (a + 4) = il τ (a + 4) := (il_of k4).trans (il_of hix5).symm
            have kn : k = W2 g (EN g (rl σ (a + 1)) + 8) := by omega
            have hav := i15
            rw [kn] at hav
            have hh := i13
            rw [kn] at hh
            exact T.ireti rfl rfl ⟨_, rfl, gs2, by omega, by omega, (fun _ => by unfold FOn; exact if_pos ⟨by omega, by omega, by omega, by omega, by omega, by omega, by omega, hav, by omega⟩), (fun q => by omega), (fun q => by omega), (fun _ j b1 b2 => ⟨by rw [il3]; exact i16 j b1 (by omega), by rw [il4]; exact i18 j b1 (by omega), i17 j b1 (by omega)⟩)⟩
        · refine T.go 2 (fun n9 => (rfl : _ = exe ξ n9 (d + 4) j_A_survey 71 [(0, .ref a), (1, J t), (2, J h), (3, J k)] [J h, .ref a] τ)) ?_
          have nf21 := af_of (i := 3) hax3 rfl (by omega)
          have nf22 := af_of (i := 4) hax3 rfl (by omega)
          have nf23 := af_of (i := 5) hax3 rfl (by omega)
          have nf24 := af_of (i := 6) hax3 rfl (by omega)
          refine T.callv (as := [J h]) (r := []) rfl rfl rfl (ArL_lt _ ha).2.2.1 hax3 rfl (s_A_fsurveyHeader d g a h τ hτ.1 ha h255 hg1 hchg1 (by omega) (by omega) (by omega) (by omega) (by omega) (by omega) (by omega)) (fun v1 s3 hqs3 => ?_)
          obtain ⟨z1, rfl, esz1, hzz1, hyz1, pz1_0, pz1_1⟩ := hqs3
          rw [esz1]
          rw [i7, i8, i9, i10] at pz1_0 pz1_1
          have hNR : NRn g (hsx (gl (il τ (a + 3))) k h) k = NRn g (hsf g (EN g (rl σ (a + 1)) - W4 g (EN g (rl σ (a + 1)) + 12))) k := NRn_eq (by omega) (fun j b1 b2 => (if_neg (by omega)).trans (i16 j b1 b2)) ((if_pos rfl).trans i13)
          rw [hNR] at pz1_0 pz1_1
          have vk1 : z1 = 0 → VKn g (EN g (rl σ (a + 1))) (EN g (rl σ (a + 1)) - W4 g (EN g (rl σ (a + 1)) + 12)) ((EN g (rl σ (a + 1)) - W4 g (EN g (rl σ (a + 1)) + 12)) - W4 g (EN g (rl σ (a + 1)) + 16)) k = 1 := fun q => by unfold VKn; rw [← i13]; exact if_pos (pz1_0 q)
          have vk0 : z1 ≠ 0 → VKn g (EN g (rl σ (a + 1))) (EN g (rl σ (a + 1)) - W4 g (EN g (rl σ (a + 1)) + 12)) ((EN g (rl σ (a + 1)) - W4 g (EN g (rl σ (a + 1)) + 12)) - W4 g (EN g (rl σ (a + 1)) + 16)) k = 0 := fun q => by unfold VKn; rw [← i13]; exact if_neg (pz1_1 q)
          have nxh : NXn g h = h + 46 + W2 g (h + 28) + W2 g (h + 30) + W2 g (h + 32) := rfl
          have wh28 := hW (h + 28)
          have wh30 := hW (h + 30)
          have wh32 := hW (h + 32)
          refine T.go 2 (fun n9 => (rfl : _ = exe ξ n9 (d + 4) j_A_survey 78 [(0, .ref a), (1, J t), (2, J h), (3, J k), (4, J z1)] [J z1] τ)) ?_
          refine T.if_eq rfl rfl (by omega) (fun c5 => ?_) (fun c5 => ?_)
          · refine T.go 1 (fun n9 => (rfl : _ = exe ξ n9 (d + 4) j_A_survey 90 [(0, .ref a), (1, J t), (2, J h), (3, J k), (4, J z1)] [.ref a] τ)) ?_
            refine T.get rfl rfl rfl hax3 rfl ?_
            refine T.go 2 (fun n9 => (rfl : _ = exe ξ n9 (d + 4) j_A_survey 95 [(0, .ref a), (1, J t), (2, J h), (3, J k), (4, J z1)] [J h, J k, .ref (a + 3)] τ)) ?_
            refine T.iastF (w := [a, a + 3, a + 4]) rfl hτ.1 hix4 (by omega) (ArA_nR _ ha).1 (Or.inl (by have := ArL_lt _ ha; omega)) (by simp) (fun s4 hs4 hcs4 hos4 => ?_)
            have els4 : (lx4.set (k : Int).toNat (Int32.ofInt h)).length = 64 := List.length_set.trans elx4
            have gs4 := hτ.trans hs4
            have k5 := hos4 (by omega) hax3
            have k6 := hos4 (by omega) hix5
            refine T.go 1 (fun n9 => (rfl : _ = exe ξ n9 (d + 4) j_A_survey 97 [(0, .ref a), (1, J t), (2, J h), (3, J k), (4, J z1)] [.ref a] s4)) ?_
            refine T.get rfl rfl rfl k5 rfl ?_
            refine T.go 3 (fun n9 => (rfl : _ = exe ξ n9 (d + 4) j_A_survey 103 [(0, .ref a), (1, J t), (2, J h), (3, J k), (4, J z1)] [J h, .ref a, J k, .ref (a + 4)] s4)) ?_
            have hg2 := hg.fr hNA gs4 (kdX_ar _ ha).2.2.1 (nm_c (by omega) (nm_c (by omega) (nm_c (by omega) nm_0)))
            have rlhg2 := rl_eq (gs4.2.2.1 (a + 1) (List.mem_cons_of_mem _ (kdX_ar _ ha).2.2.1) (nm_c (by omega) (nm_c (by omega) (nm_c (by omega) nm_0))))
            have nf25 := af_of (i := 3) k5 rfl (by omega)
            have nf26 := af_of (i := 4) k5 rfl (by omega)
            have nf27 := af_of (i := 5) k5 rfl (by omega)
            have nf28 := af_of (i := 6) k5 rfl (by omega)
            refine T.callv (as := [J h]) (r := [J k, .ref (a + 4)]) rfl rfl rfl (ArL_lt _ ha).2.2.1 k5 rfl (s_A_fplaceData (d + 1) g a h s4 hs4.1 ha h255 hg2 (by omega) (by omega) (by omega) (by omega) (by omega) (by omega)) (fun v2 s5 hqs5 => ?_)
            obtain ⟨z2, rfl, esz2, hzz2, hyz2, pz2_0, pz2_1, pz2_2⟩ := hqs5
            rw [esz2]
            rw [nf27, i8, nf28, i9] at pz2_0 pz2_1
            refine T.iastF (w := [a, a + 3, a + 4]) rfl hs4.1 k6 (by omega) (ArA_nR _ ha).2 (Or.inl (by have := ArL_lt _ ha; omega)) (by simp) (fun s6 hs6 hcs6 hos6 => ?_)
            have els6 : (lx5.set (k : Int).toNat (Int32.ofInt z2)).length = 64 := List.length_set.trans elx5
            have gs6 := gs4.trans hs6
            have k7 := hos6 (by omega) hcs4
            have k8 := hos6 (by omega) k5
            refine T.go 3 (fun n9 => (rfl : _ = exe ξ n9 (d + 4) j_A_survey 110 [(0, .ref a), (1, J t), (2, J h), (3, J k), (4, J z1)] [J 1, J k, .ref a] s6)) ?_
            refine T.iadd rfl ?_
            refine T.putF (w := [a, a + 3, a + 4]) rfl rfl k8 rfl rfl rfl (fs' := [.ref (a + 1), .ref (a + 3), .ref (a + 4), J (k + 1), J (afld τ a 4), J (afld τ a 5), J (afld τ a 6), J (afld τ a 7)]) rfl (Fr.other hs6.1 k8 rfl ⟨_, _, _, _, _, rfl, by omega⟩ (ArL_nR _ ha) (Or.inl (by have := ArL_lt _ ha; omega)) (fun _ z => by cases z) (by simp)) (fun s7 hs7 hcs7 hos7 => ?_)
            have gs7 := gs6.trans hs7
            have k9 := hos7 (by omega) hcs6
            have k10 := hos7 (by omega) k7
            refine T.go 3 (fun n9 => (rfl : _ = exe ξ n9 (d + 4) j_A_survey 117 [(0, .ref a), (1, J t), (2, J h), (3, J k), (4, J z1)] [J h, .ref a, J h] s7)) ?_
            have hg3 := hg.fr hNA gs7 (kdX_ar _ ha).2.2.1 (nm_c (by omega) (nm_c (by omega) (nm_c (by omega) nm_0)))
            have rlhg3 := rl_eq (gs7.2.2.1 (a + 1) (List.mem_cons_of_mem _ (kdX_ar _ ha).2.2.1) (nm_c (by omega) (nm_c (by omega) (nm_c (by omega) nm_0))))
            have nf29 := af_of (i := 3) hcs7 rfl (by omega)
            have nf30 := af_of (i := 4) hcs7 rfl (by omega)
            have nf31 := af_of (i := 5) hcs7 rfl (by omega)
            have nf32 := af_of (i := 6) hcs7 rfl (by omega)
            refine T.callv (as := [J h]) (r := [J h]) rfl rfl rfl (ArL_lt _ ha).2.2.1 hcs7 rfl (s_A_fheaderLength (d + 2) g a h s7 hs7.1 ha h255 hg3 (by omega) (by omega) (by omega)) (fun v3 s8 hqs8 => ?_)
            obtain ⟨z3, rfl, esz3, hzz3, hyz3, pz3_0⟩ := hqs8
            rw [esz3]
            refine T.iadd rfl ?_
            refine T.go 1 (fun n9 => (rfl : _ = exe ξ n9 (d + 4) j_A_survey 122 [(0, .ref a), (1, J t), (2, J (h + z3)), (3, J k), (4, J z1)] [] s7)) ?_
            refine T.iinc (lv' := [(0, .ref a), (1, J t), (2, J (h + z3)), (3, J (k + 1)), (4, J z1)]) rfl rfl rfl rfl ?_
            refine T.go 1 (fun n9 => (rfl : _ = exe ξ n9 (d + 4) j_A_survey 58 [(0, .ref a), (1, J t), (2, J (h + z3)), (3, J (k + 1)), (4, J z1)] [] s7)) ?_
            refine T.drop (lv := [(0, .ref a), (1, J t), (2, J (h + z3)), (3, J (k + 1))]) [(4, J z1)] (by simp) ?_
            have nf33 := af_of (i := 3) hcs7 rfl (by omega)
            have nf34 := af_of (i := 4) hcs7 rfl (by omega)
            have nf35 := af_of (i := 5) hcs7 rfl (by omega)
            have nf36 := af_of (i := 6) hcs7 rfl (by omega)
            have gs3 : ∀ j : Int, 0 ≤ j → gl (il s7 (a + 3)) j = if j = k then h else gl (il τ (a + 3)) j := fun j hj => by rw [il_of k10, gl_set ⟨by omega, by omega⟩ ⟨by omega, by omega⟩ hj, ilx4]
            have gs4 : ∀ j : Int, 0 ≤ j → gl (il s7 (a + 4)) j = if j = k then z2 else gl (il τ (a + 4)) j := fun j hj => by rw [il_of k9, gl_set ⟨by omega, by omega⟩ ⟨by omega, by omega⟩ hj, ilx5]
            exact ih  t (h + z3) (k + 1) s7 gs7 i0 i1 (by omega) (by omega) (by omega) (by omega) (by omega) (by omega) (by omega) (by omega) (by omega) (by omega) (by omega) (by rw [hsf_step (by omega), ← i13]; omega) (by omega) (by rw [AVn_step (by omega), if_pos ⟨i15, vk1 (by omega)⟩]) (fun j b1 b2 => if q : j = k then (by rw [gs3 j b1, if_pos q, q]; exact i13) else (by rw [gs3 j b1, if_neg q]; exact i16 j b1 (by omega))) (fun j b1 b2 => if q : j = k then (by rw [q, ← i13]; omega) else i17 j b1 (by omega)) (fun j b1 b2 => if q : j = k then (by rw [gs4 j b1, if_pos q, q, ← i13]; omega) else (by rw [gs4 j b1, if_neg q]; exact i18 j b1 (by omega))) (by omega)
          · refine T.go 2 (fun n9 => (rfl : _ = exe ξ n9 (d + 4) j_A_survey 83 [(0, .ref a), (1, J t), (2, J h), (3, J k), (4, J z1)] [J k, .ref a] τ)) ?_
            refine T.putF (w := [a, a + 3, a + 4]) rfl rfl hax3 rfl rfl rfl (fs' := [.ref (a + 1), .ref (a + 3), .ref (a + 4), J (afld τ a 3), J (afld τ a 4), J (afld τ a 5), J (afld τ a 6), J k]) rfl (Fr.other hτ.1 hax3 rfl ⟨_, _, _, _, _, rfl, by omega⟩ (ArL_nR _ ha) (Or.inl (by have := ArL_lt _ ha; omega)) (fun _ z => by cases z) (by simp)) (fun s9 hs9 hcs9 hos9 => ?_)
            have gs9 := hτ.trans hs9
            have k11 := hos9 (by omega) hix4
            have k12 := hos9 (by omega) hix5
            refine T.go 1 (fun n9 => (rfl : _ = exe ξ n9 (d + 4) j_A_survey 88 [(0, .ref a), (1, J t), (2, J h), (3, J k), (4, J z1)] [J z1] s9)) ?_
            have hA : AVn g (EN g (rl σ (a + 1))) (EN g (rl σ (a + 1)) - W4 g (EN g (rl σ (a + 1)) + 12)) ((EN g (rl σ (a + 1)) - W4 g (EN g (rl σ (a + 1)) + 12)) - W4 g (EN g (rl σ (a + 1)) + 16)) (k + 1).toNat = 0 := by rw [AVn_step (by omega), if_neg (fun u => by have := vk0 (by omega); omega)]
            have hA2 := AVn_no (n := (W2 g (EN g (rl σ (a + 1)) + 8)).toNat) hA (by omega)
            exact T.ireti rfl rfl ⟨_, rfl, gs9, by omega, by omega, (fun q => by omega), (fun q => by unfold FOn; exact if_neg (by omega)), (fun q => by omega), (fun q => absurd q (by omega))⟩
  refine T.go 2 (fun n9 => (rfl : _ = exe ξ n9 (d + 4) j_A_survey 2 [(0, .ref a)] [J 0, .ref a] σ)) ?_
  refine T.putF (w := [a, a + 3, a + 4]) rfl rfl hax1 rfl rfl rfl (fs' := [.ref (a + 1), .ref (a + 3), .ref (a + 4), J 0, J (afld σ a 4), J (afld σ a 5), J (afld σ a 6), J (afld σ a 7)]) rfl (Fr.other hK hax1 rfl ⟨_, _, _, _, _, rfl, by omega⟩ (ArL_nR _ ha) (Or.inl (by have := ArL_lt _ ha; omega)) (fun _ z => by cases z) (by simp)) (fun s10 hs10 hcs10 hos10 => ?_)
  have k13 := hos10 (by omega) hrx2
  have k14 := hos10 (q_dif hbx2 hax1 (fun z => by cases z)) hbx2
  refine T.go 2 (fun n9 => (rfl : _ = exe ξ n9 (d + 4) j_A_survey 7 [(0, .ref a)] [J (-1), .ref a] s10)) ?_
  refine T.putF (w := [a, a + 3, a + 4]) rfl rfl hcs10 rfl rfl rfl (fs' := [.ref (a + 1), .ref (a + 3), .ref (a + 4), J 0, J (afld σ a 4), J (afld σ a 5), J (afld σ a 6), J (-1)]) rfl (Fr.other hs10.1 hcs10 rfl ⟨_, _, _, _, _, rfl, by omega⟩ (ArL_nR _ ha) (Or.inl (by have := ArL_lt _ ha; omega)) (fun _ z => by cases z) (by simp)) (fun s11 hs11 hcs11 hos11 => ?_)
  have gs11 := hs10.trans hs11
  have k15 := hos11 (by omega) k13
  have k16 := hos11 (q_dif k14 hcs10 (fun z => by cases z)) k14
  refine T.go 2 (fun n9 => (rfl : _ = exe ξ n9 (d + 4) j_A_survey 12 [(0, .ref a)] [.ref a, .ref a] s11)) ?_
  have hg4 := hg.fr hNA gs11 (kdX_ar _ ha).2.2.1 (nm_c (by omega) (nm_c (by omega) (nm_c (by omega) nm_0)))
  have rlhg4 := rl_eq (gs11.2.2.1 (a + 1) (List.mem_cons_of_mem _ (kdX_ar _ ha).2.2.1) (nm_c (by omega) (nm_c (by omega) (nm_c (by omega) nm_0))))
  have nf37 := af_of (i := 3) hcs11 rfl (by omega)
  have nf38 := af_of (i := 4) hcs11 rfl (by omega)
  have nf39 := af_of (i := 5) hcs11 rfl (by omega)
  have nf40 := af_of (i := 6) hcs11 rfl (by omega)
  refine T.callv (as := []) (r := [.ref a]) rfl rfl rfl (ArL_lt _ ha).2.2.1 hcs11 rfl (s_A_flastEndRecord (d + 1) g a s11 hs11.1 ha h255 hg4 ) (fun v4 s12 hqs12 => ?_)
  obtain ⟨z4, rfl, esz4, hzz4, hyz4, pz4_0⟩ := hqs12
  rw [esz4]
  rw [rlhg4] at pz4_0
  subst pz4_0
  refine T.putF (w := [a, a + 3, a + 4]) rfl rfl hcs11 rfl rfl rfl (fs' := [.ref (a + 1), .ref (a + 3), .ref (a + 4), J 0, J (EN g (rl σ (a + 1))), J (afld σ a 5), J (afld σ a 6), J (-1)]) rfl (Fr.other hs11.1 hcs11 rfl ⟨_, _, _, _, _, rfl, by omega⟩ (ArL_nR _ ha) (Or.inl (by have := ArL_lt _ ha; omega)) (fun _ z => by cases z) (by simp)) (fun s13 hs13 hcs13 hos13 => ?_)
  have gs13 := gs11.trans hs13
  have k17 := hos13 (by omega) k15
  have k18 := hos13 (q_dif k16 hcs11 (fun z => by cases z)) k16
  refine T.go 1 (fun n9 => (rfl : _ = exe ξ n9 (d + 4) j_A_survey 19 [(0, .ref a)] [.ref a] s13)) ?_
  refine T.get rfl rfl rfl hcs13 rfl ?_
  refine T.if_ge rfl rfl (by omega) (fun c6 => ?_) (fun c6 => ?_)
  · refine T.go 1 (fun n9 => (rfl : _ = exe ξ n9 (d + 4) j_A_survey 28 [(0, .ref a)] [.ref a] s13)) ?_
    have hg5 := hg.fr hNA gs13 (kdX_ar _ ha).2.2.1 (nm_c (by omega) (nm_c (by omega) (nm_c (by omega) nm_0)))
    have rlhg5 := rl_eq (gs13.2.2.1 (a + 1) (List.mem_cons_of_mem _ (kdX_ar _ ha).2.2.1) (nm_c (by omega) (nm_c (by omega) (nm_c (by omega) nm_0))))
    have nf41 := af_of (i := 3) hcs13 rfl (by omega)
    have nf42 := af_of (i := 4) hcs13 rfl (by omega)
    have nf43 := af_of (i := 5) hcs13 rfl (by omega)
    have nf44 := af_of (i := 6) hcs13 rfl (by omega)
    refine T.callv (as := []) (r := []) rfl rfl rfl (ArL_lt _ ha).2.2.1 hcs13 rfl (s_A_fplaceDirectory (d + 1) g a s13 hs13.1 ha h255 hg5 (by omega) (by omega)) (fun v5 s14 hqs14 => ?_)
    obtain ⟨z5, rfl, hs14, hzz5, hyz5, pz5_0, pz5_1, pz5_2, pz5_3⟩ := hqs14
    have es14 := hs14
    have hs14 := hs14.sub (w' := [a, a + 3, a + 4]) (List.forall_mem_cons.mpr ⟨(by simp), (fun _ h => by cases h)⟩)
    have k19 := es14.b.1 _ _ (nm_c (by omega) nm_0) (fun l z => by cases z) k17
    have gs14 := gs13.trans hs14
    rw [nf42] at pz5_0
    rw [nf42] at pz5_1
    rw [nf42] at pz5_2
    rw [nf42] at pz5_3
    refine T.if_ne rfl rfl (by omega) (fun c7 => ?_) (fun c7 => ?_)
    · refine T.go 1 (fun n9 => (rfl : _ = exe ξ n9 (d + 4) j_A_survey 37 [(0, .ref a)] [.ref a] s14)) ?_
      obtain ⟨ex6, erx6, dix6, bax6, fpx6, hax6, fx6a, fx6b, fx6c, fx6d, fx6e, fx6f, fx6g, fx6h, fx6i, fx6j⟩ := hs14.1.arc ha
      have af3x6 := af_of (i := 3) hax6 rfl (by omega)
      subst af3x6
      have af4x6 := af_of (i := 4) hax6 rfl (by omega)
      subst af4x6
      have af5x6 := af_of (i := 5) hax6 rfl (by omega)
      subst af5x6
      have af6x6 := af_of (i := 6) hax6 rfl (by omega)
      subst af6x6
      have af7x6 := af_of (i := 7) hax6 rfl (by omega)
      subst af7x6
      refine T.get rfl rfl rfl hax6 rfl ?_
      refine T.go 1 (fun n9 => (rfl : _ = exe ξ n9 (d + 4) j_A_survey 41 [(0, .ref a)] [.ref a, .ref (a + 1)] s14)) ?_
      refine T.get rfl rfl rfl hax6 rfl ?_
      refine T.go 1 (fun n9 => (rfl : _ = exe ξ n9 (d + 4) j_A_survey 46 [(0, .ref a)] [J 8, J (afld s14 a 4), .ref (a + 1)] s14)) ?_
      refine T.iadd rfl ?_
      have hg6 := hg.fr hNA gs14 (kdX_ar _ ha).2.2.1 (nm_c (by omega) (nm_c (by omega) (nm_c (by omega) nm_0)))
      have rlhg6 := rl_eq (gs14.2.2.1 (a + 1) (List.mem_cons_of_mem _ (kdX_ar _ ha).2.2.1) (nm_c (by omega) (nm_c (by omega) (nm_c (by omega) nm_0))))
      have nf45 := af_of (i := 3) hax6 rfl (by omega)
      have nf46 := af_of (i := 4) hax6 rfl (by omega)
      have nf47 := af_of (i := 5) hax6 rfl (by omega)
      have nf48 := af_of (i := 6) hax6 rfl (by omega)
      refine T.callv (as := [J ((afld s14 a 4) + 8)]) (r := []) rfl rfl rfl (RwL_lt _ (kdX_ar _ ha).2.2.1).2.2.1 k19 rfl (s_R_ftwo (d + 3) g (a + 1) ((afld s14 a 4) + 8) s14 hs14.1 (kdX_ar _ ha).2.2.1 hg6 (by omega)) (fun v6 s15 hqs15 => ?_)
      obtain ⟨z6, rfl, esz6, hzz6, hyz6, pz6_0, pz6_1⟩ := hqs15
      rw [esz6]
      have ez6 := pz6_0 (by omega) (by omega)
      subst ez6
      have wz6 := hW ((afld s14 a 4) + 8)
      refine T.go 2 (fun n9 => (rfl : _ = exe ξ n9 (d + 4) j_A_survey 52 [(0, .ref a), (1, J (W2 g ((afld s14 a 4) + 8)))] [.ref a] s14)) ?_
      refine T.get rfl rfl rfl hax6 rfl ?_
      refine T.go 3 (fun n9 => (rfl : _ = exe ξ n9 (d + 4) j_A_survey 58 [(0, .ref a), (1, J (W2 g ((afld s14 a 4) + 8))), (2, J (afld s14 a 5)), (3, J 0)] [] s14)) ?_
      exact loop58 _ (W2 g ((afld s14 a 4) + 8)) (afld s14 a 5) 0 s14 gs14 (by rw [show afld s14 a 4 = EN g (rl σ (a + 1)) by omega]) (by rw [show afld s14 a 4 = EN g (rl σ (a + 1)) by omega]; omega) (by omega) (by omega) (by omega) (by omega) (by omega) (by omega) (by omega) (by omega) (by omega) (by omega) (by omega) (by rw [show afld s14 a 5 = (EN g (rl σ (a + 1)) - W4 g (EN g (rl σ (a + 1)) + 12)) by omega]; rfl) (by omega) rfl (fun j b1 b2 => absurd b2 (by omega)) (fun j b1 b2 => absurd b2 (by omega)) (fun j b1 b2 => absurd b2 (by omega)) (Nat.lt_succ_self _)
    · refine T.go 1 (fun n9 => (rfl : _ = exe ξ n9 (d + 4) j_A_survey 35 [(0, .ref a)] [J 2] s14)) ?_
      exact T.ireti rfl rfl ⟨_, rfl, gs14, by omega, by omega, (fun q => by omega), (fun q => by unfold FOn; exact if_neg (by omega)), (fun q => by omega), (fun q => absurd q (by omega))⟩
  · refine T.go 1 (fun n9 => (rfl : _ = exe ξ n9 (d + 4) j_A_survey 26 [(0, .ref a)] [J 1] s13)) ?_
    exact T.ireti rfl rfl ⟨_, rfl, gs13, by omega, by omega, (fun q => by omega), (fun q => by unfold FOn; exact if_neg (by omega)), (fun q => by omega), (fun q => absurd q (by omega))⟩
