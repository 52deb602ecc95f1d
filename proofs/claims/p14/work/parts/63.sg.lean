/-! type, number, find. -/
set_option maxRecDepth 10000 in
set_option maxHeartbeats 4000000 in
theorem s_N_etype {ξ : Nat → Option (Nat × List Int32)} (d : Nat) (u : Int → Int) (x : Int) (σ : qH) (hK : K σ)  (hu : AGR σ 51 u) (rx : -9223372036854775808 ≤ x ∧ x ≤ 9223372036854775807) : T ξ (d + 8) j_N_type 0 (lv_args 0 [.ref 16, JL x]) [] σ (fun v σ' => ∃ z : Int, v = some (J z) ∧ Fr [51] σ σ' ∧ 0 ≤ z ∧ z ≤ 1 ∧ z = TYv x (rl σ 51) ∧ (z = 0 → rl σ' 51 = rl σ 51) ∧ (z = 1 → rl σ' 51 = rl σ 51 + CW x 8) ∧ (z = 1 → AGR σ' 51 (TYA u (rl σ 51) x 8)) ∧ (z = 0 → AGR σ' 51 u)) := by
  have cw8 := CW_r x 8
  have m51 : mst 51 = 40 := by decide
  obtain ⟨mx1, nx1, bx1, lx1, hrx1, hbx1, fx1a, fx1b, fx1c, fx1d, fx1e, fx1g, fx1h, fx1i⟩ := hK.row (r := 51) (by decide)
  have ctx1 := CT_of hrx1 hbx1
  have rwx1 := rl_of hrx1 (by omega)
  subst rwx1
  have loop76 : ∀ (f : Nat) (n : Int) (s : Int) (τ : qH), Fr [51] σ τ → -8 ≤ s → s ≤ 56 → s % 8 = 0 → rl τ 51 + CW x ((s + 8) / 8).toNat = rl σ 51 + CW x 8 → rl σ 51 + CW x 8 ≤ 40 → AOK x 8 = 1 → AGR τ 51 (TYA u (rl σ 51) x ((56 - s) / 8).toNat) → (s + 8).toNat < f → T ξ (d + 8) j_N_type 76 [(0, .ref 16), (1, JL x), (3, J n), (4, J s)] [] τ (fun v σ' => ∃ z : Int, v = some (J z) ∧ Fr [51] σ σ' ∧ 0 ≤ z ∧ z ≤ 1 ∧ z = TYv x (rl σ 51) ∧ (z = 0 → rl σ' 51 = rl σ 51) ∧ (z = 1 → rl σ' 51 = rl σ 51 + CW x 8) ∧ (z = 1 → AGR σ' 51 (TYA u (rl σ 51) x 8)) ∧ (z = 0 → AGR σ' 51 u)) := by
    intro f
    induction f with
    | zero => intro n s τ hτ i0 i1 i2 i3 i4 i5 i6 hm; omega
    | succ f ih =>
      intro n s τ hτ i0 i1 i2 i3 i4 i5 i6 hm
      refine T.go 1 (fun n9 => (rfl : _ = exe ξ n9 (d + 8) j_N_type 78 [(0, .ref 16), (1, JL x), (3, J n), (4, J s)] [J s] τ)) ?_
      refine T.if_lt rfl rfl (by omega) (fun c1 => ?_) (fun c1 => ?_)
      · refine T.go 1 (fun n9 => (rfl : _ = exe ξ n9 (d + 8) j_N_type 114 [(0, .ref 16), (1, JL x), (3, J n), (4, J s)] [J 1] τ)) ?_
        exact T.iretz rfl rfl (by omega) ⟨_, rfl, hτ, by omega, by omega, (by unfold TYv; rw [if_pos ⟨by omega, by omega⟩]), by omega, (fun q => by have c9 : CW x ((s + 8) / 8).toNat = 0 := (by rw [show ((s + 8) / 8).toNat = 0 by omega]; rfl); omega), (fun _ => by rw [show ((56 - s) / 8).toNat = 8 by omega] at i6; exact i6), (fun q => absurd q (by decide))⟩
      · refine T.go 2 (fun n9 => (rfl : _ = exe ξ n9 (d + 8) j_N_type 84 [(0, .ref 16), (1, JL x), (3, J n), (4, J s)] [J s, JL x] τ)) ?_
        refine T.lushrq rfl (by omega) (by omega) (fun z1 hzz1 hyz1 hwz1 => ?_)
        refine T.l2i rfl ?_
        refine T.go 1 (fun n9 => (rfl : _ = exe ξ n9 (d + 8) j_N_type 89 [(0, .ref 16), (1, JL x), (3, J n), (4, J s)] [J 255, J z1] τ)) ?_
        refine T.iandw rfl ?_
        refine T.go 2 (fun n9 => (rfl : _ = exe ξ n9 (d + 8) j_N_type 94 [(0, .ref 16), (1, JL x), (3, J n), (4, J s), (5, J (z1 % 256))] [J (z1 % 256)] τ)) ?_
        refine T.if_eq rfl rfl (by omega) (fun c2 => ?_) (fun c2 => ?_)
        · refine T.iinc (lv' := [(0, .ref 16), (1, JL x), (3, J n), (4, J (s + (-8))), (5, J (z1 % 256))]) rfl rfl rfl rfl ?_
          refine T.go 1 (fun n9 => (rfl : _ = exe ξ n9 (d + 8) j_N_type 76 [(0, .ref 16), (1, JL x), (3, J n), (4, J (s + (-8))), (5, J (z1 % 256))] [] τ)) ?_
          refine T.drop (lv := [(0, .ref 16), (1, JL x), (3, J n), (4, J (s + (-8)))]) [(5, J (z1 % 256))] (by simp) ?_
          exact ih  n (s + (-8)) τ hτ (by omega) (by omega) (by omega) (by first | (have e9 := CW_z (x := x) (k := s) (by omega) (by omega) (by omega); omega) | (have e9 := CW_n (x := x) (k := s) (by omega) (by omega) (by omega); have e8 := CW_r x ((s + (-8) + 8) / 8).toNat; omega)) (by omega) i5 (by rw [TYA_z (by omega) (by omega) (by omega)]; exact i6) (by omega)
        · refine T.go 1 (fun n9 => (rfl : _ = exe ξ n9 (d + 8) j_N_type 98 [(0, .ref 16), (1, JL x), (3, J n), (4, J s), (5, J (z1 % 256))] [.ref 16] τ)) ?_
          obtain ⟨kex2, scx2, tpx2, oux2, mox2, sgx2, hox2, mcx2, lfx2, lpx2, hNx2, fx2ke, fx2sc, fx2tp, fx2ou, fx2mo, fx2sg, fx2d, fx2e, fx2f, fx2g, fx2h, fx2i, fx2j⟩ := hτ.1.na
          refine T.get rfl rfl rfl hNx2 rfl ?_
          refine T.go 1 (fun n9 => (rfl : _ = exe ξ n9 (d + 8) j_N_type 103 [(0, .ref 16), (1, JL x), (3, J n), (4, J s), (5, J (z1 % 256))] [J (z1 % 256), .ref 51] τ)) ?_
          obtain ⟨mx3, nx3, bx3, lx3, hrx3, hbx3, fx3a, fx3b, fx3c, fx3d, fx3e, fx3g, fx3h, fx3i⟩ := hτ.1.row (r := 51) (by decide)
          have ctx3 := CT_of hrx3 hbx3
          have rwx3 := rl_of hrx3 (by omega)
          subst rwx3
          refine T.callv (as := [J (z1 % 256)]) (r := []) rfl rfl rfl rfl hrx3 rfl (s_R_fadd (d + 7) 51 (z1 % 256) τ hτ.1 (by decide)  (by omega)) (fun v1 s1 hqs1 => ?_)
          obtain ⟨z3, rfl, hs1, hzz3, hyz3, pz3_0, pz3_1, pz3_2⟩ := hqs1
          have es1 := hs1
          have k1 := es1.b.1 _ _ (nm_c (by decide) nm_0) (fun l z => by cases z) hNx2
          have gs1 := hτ.trans hs1
          refine T.go 1 (fun n9 => (rfl : _ = exe ξ n9 (d + 8) j_N_type 107 [(0, .ref 16), (1, JL x), (3, J n), (4, J s), (5, J (z1 % 256))] [] s1)) ?_
          refine T.iinc (lv' := [(0, .ref 16), (1, JL x), (3, J n), (4, J (s + (-8))), (5, J (z1 % 256))]) rfl rfl rfl rfl ?_
          refine T.go 1 (fun n9 => (rfl : _ = exe ξ n9 (d + 8) j_N_type 76 [(0, .ref 16), (1, JL x), (3, J n), (4, J (s + (-8))), (5, J (z1 % 256))] [] s1)) ?_
          refine T.drop (lv := [(0, .ref 16), (1, JL x), (3, J n), (4, J (s + (-8)))]) [(5, J (z1 % 256))] (by simp) ?_
          exact ih  n (s + (-8)) s1 gs1 (by omega) (by omega) (by omega) (by first | (have e9 := CW_z (x := x) (k := s) (by omega) (by omega) (by omega); omega) | (have e9 := CW_n (x := x) (k := s) (by omega) (by omega) (by omega); have e8 := CW_r x ((s + (-8) + 8) / 8).toNat; omega)) (by omega) i5 (by rw [TYA_n (m := rl τ 51) (b := (z1 % 256) % 256) (by omega) (by omega) (by omega) i3 (by omega)]; exact pz3_2 _ i6 (by have e9 := CW_n (x := x) (k := s) (by omega) (by omega) (by omega); have e8 := CW_r x ((s + (-8) + 8) / 8).toNat; omega)) (by omega)
  have loop6 : ∀ (f : Nat) (n : Int) (s : Int), 0 ≤ n → n ≤ 8 → -8 ≤ s → s ≤ 56 → s % 8 = 0 → n + CW x ((s + 8) / 8).toNat = CW x 8 → AOK x ((56 - s) / 8).toNat = 1 → (s + 8).toNat < f → T ξ (d + 8) j_N_type 6 [(0, .ref 16), (1, JL x), (3, J n), (4, J s)] [] σ (fun v σ' => ∃ z : Int, v = some (J z) ∧ Fr [51] σ σ' ∧ 0 ≤ z ∧ z ≤ 1 ∧ z = TYv x (rl σ 51) ∧ (z = 0 → rl σ' 51 = rl σ 51) ∧ (z = 1 → rl σ' 51 = rl σ 51 + CW x 8) ∧ (z = 1 → AGR σ' 51 (TYA u (rl σ 51) x 8)) ∧ (z = 0 → AGR σ' 51 u)) := by
    intro f
    induction f with
    | zero => intro n s i0 i1 i2 i3 i4 i5 i6 hm; omega
    | succ f ih =>
      intro n s i0 i1 i2 i3 i4 i5 i6 hm
      refine T.go 1 (fun n9 => (rfl : _ = exe ξ n9 (d + 8) j_N_type 8 [(0, .ref 16), (1, JL x), (3, J n), (4, J s)] [J s] σ)) ?_
      refine T.if_lt rfl rfl (by omega) (fun c3 => ?_) (fun c3 => ?_)
      · refine T.go 3 (fun n9 => (rfl : _ = exe ξ n9 (d + 8) j_N_type 60 [(0, .ref 16), (1, JL x), (3, J n), (4, J s)] [.ref 16, J 40, J n] σ)) ?_
        obtain ⟨kex4, scx4, tpx4, oux4, mox4, sgx4, hox4, mcx4, lfx4, lpx4, hNx4, fx4ke, fx4sc, fx4tp, fx4ou, fx4mo, fx4sg, fx4d, fx4e, fx4f, fx4g, fx4h, fx4i, fx4j⟩ := hK.na
        refine T.get rfl rfl rfl hNx4 rfl ?_
        refine T.get rfl rfl rfl hrx1 rfl ?_
        refine T.isub rfl ?_
        refine T.icmp_le rfl rfl (by omega) (by omega) (fun c4 => ?_) (fun c4 => ?_)
        · refine T.go 2 (fun n9 => (rfl : _ = exe ξ n9 (d + 8) j_N_type 76 [(0, .ref 16), (1, JL x), (3, J n), (4, J 56)] [] σ)) ?_
          exact loop76 _ n 56 σ (Fr.refl hK) (by omega) (by omega) (by omega) (by rw [show (((56 : Int) + 8) / 8).toNat = 8 by decide] <;> omega) (by have c9 : CW x ((s + 8) / 8).toNat = 0 := (by rw [show ((s + 8) / 8).toNat = 0 by omega]; rfl); omega) (by have a9 := i6; rw [show ((56 - s) / 8).toNat = 8 by omega] at a9; exact a9) (by rw [show (((56 : Int) - 56) / 8).toNat = 0 by decide]; exact hu) (Nat.lt_succ_self _)
        · refine T.go 1 (fun n9 => (rfl : _ = exe ξ n9 (d + 8) j_N_type 71 [(0, .ref 16), (1, JL x), (3, J n), (4, J s)] [J 0] σ)) ?_
          exact T.iretz rfl rfl (by omega) ⟨_, rfl, (Fr.refl hK), by omega, by omega, (by unfold TYv; have c9 : CW x ((s + 8) / 8).toNat = 0 := (by rw [show ((s + 8) / 8).toNat = 0 by omega]; rfl); rw [if_neg (by omega)]), by omega, (fun q => by omega), (fun q => absurd q (by decide)), (fun _ => hu)⟩
      · refine T.go 2 (fun n9 => (rfl : _ = exe ξ n9 (d + 8) j_N_type 14 [(0, .ref 16), (1, JL x), (3, J n), (4, J s)] [J s, JL x] σ)) ?_
        refine T.lushrq rfl (by omega) (by omega) (fun z4 hzz4 hyz4 hwz4 => ?_)
        refine T.l2i rfl ?_
        refine T.go 1 (fun n9 => (rfl : _ = exe ξ n9 (d + 8) j_N_type 19 [(0, .ref 16), (1, JL x), (3, J n), (4, J s)] [J 255, J z4] σ)) ?_
        refine T.iandw rfl ?_
        refine T.go 2 (fun n9 => (rfl : _ = exe ξ n9 (d + 8) j_N_type 24 [(0, .ref 16), (1, JL x), (3, J n), (4, J s), (5, J (z4 % 256))] [J (z4 % 256)] σ)) ?_
        refine T.if_eq rfl rfl (by omega) (fun c5 => ?_) (fun c5 => ?_)
        · refine T.go 2 (fun n9 => (rfl : _ = exe ξ n9 (d + 8) j_N_type 40 [(0, .ref 16), (1, JL x), (3, J n), (4, J s), (5, J (z4 % 256))] [J (z4 % 256), J n] σ)) ?_
          refine T.if_ne rfl rfl (by omega) (fun c6 => ?_) (fun c6 => ?_)
          · refine T.go 1 (fun n9 => (rfl : _ = exe ξ n9 (d + 8) j_N_type 48 [(0, .ref 16), (1, JL x), (3, J n), (4, J s), (5, J (z4 % 256))] [J 1, J n] σ)) ?_
            refine T.iadd rfl ?_
            refine T.go 1 (fun n9 => (rfl : _ = exe ξ n9 (d + 8) j_N_type 50 [(0, .ref 16), (1, JL x), (3, J (n + 1)), (4, J s), (5, J (z4 % 256))] [] σ)) ?_
            refine T.iinc (lv' := [(0, .ref 16), (1, JL x), (3, J (n + 1)), (4, J (s + (-8))), (5, J (z4 % 256))]) rfl rfl rfl rfl ?_
            refine T.go 1 (fun n9 => (rfl : _ = exe ξ n9 (d + 8) j_N_type 6 [(0, .ref 16), (1, JL x), (3, J (n + 1)), (4, J (s + (-8))), (5, J (z4 % 256))] [] σ)) ?_
            refine T.drop (lv := [(0, .ref 16), (1, JL x), (3, J (n + 1)), (4, J (s + (-8)))]) [(5, J (z4 % 256))] (by simp) ?_
            exact ih  (n + 1) (s + (-8)) (by omega) (by first | omega | (have e9 := CW_n (x := x) (k := s) (by omega) (by omega) (by omega); have e8 := CW_r x ((s + (-8) + 8) / 8).toNat; omega)) (by omega) (by omega) (by omega) (by first | (have e9 := CW_z (x := x) (k := s) (by omega) (by omega) (by omega); omega) | (have e9 := CW_n (x := x) (k := s) (by omega) (by omega) (by omega); have e8 := CW_r x ((s + (-8) + 8) / 8).toNat; omega)) (AOK_yes (by omega) (by omega) i6 (by omega)) (by omega)
          · refine T.go 2 (fun n9 => (rfl : _ = exe ξ n9 (d + 8) j_N_type 48 [(0, .ref 16), (1, JL x), (3, J n), (4, J s), (5, J (z4 % 256))] [J 0, J n] σ)) ?_
            refine T.iadd rfl ?_
            refine T.go 1 (fun n9 => (rfl : _ = exe ξ n9 (d + 8) j_N_type 50 [(0, .ref 16), (1, JL x), (3, J (n + 0)), (4, J s), (5, J (z4 % 256))] [] σ)) ?_
            refine T.iinc (lv' := [(0, .ref 16), (1, JL x), (3, J (n + 0)), (4, J (s + (-8))), (5, J (z4 % 256))]) rfl rfl rfl rfl ?_
            refine T.go 1 (fun n9 => (rfl : _ = exe ξ n9 (d + 8) j_N_type 6 [(0, .ref 16), (1, JL x), (3, J (n + 0)), (4, J (s + (-8))), (5, J (z4 % 256))] [] σ)) ?_
            refine T.drop (lv := [(0, .ref 16), (1, JL x), (3, J (n + 0)), (4, J (s + (-8)))]) [(5, J (z4 % 256))] (by simp) ?_
            exact ih  (n + 0) (s + (-8)) (by omega) (by first | omega | (have e9 := CW_n (x := x) (k := s) (by omega) (by omega) (by omega); have e8 := CW_r x ((s + (-8) + 8) / 8).toNat; omega)) (by omega) (by omega) (by omega) (by first | (have e9 := CW_z (x := x) (k := s) (by omega) (by omega) (by omega); omega) | (have e9 := CW_n (x := x) (k := s) (by omega) (by omega) (by omega); have e8 := CW_r x ((s + (-8) + 8) / 8).toNat; omega)) (AOK_yes (by omega) (by omega) i6 (by omega)) (by omega)
        · refine T.go 1 (fun n9 => (rfl : _ = exe ξ n9 (d + 8) j_N_type 29 [(0, .ref 16), (1, JL x), (3, J n), (4, J s), (5, J (z4 % 256))] [J (z4 % 256)] σ)) ?_
          refine T.calls (as := [J (z4 % 256)]) (r := []) rfl rfl (by decide) rfl rfl (s_N_fisLetter (d + 7) (z4 % 256) σ hK   (by omega)) (fun v2 s2 hqs2 => ?_)
          obtain ⟨z6, rfl, esz6, hzz6, hyz6, pz6_0, pz6_1⟩ := hqs2
          rw [esz6]
          refine T.if_ne rfl rfl (by omega) (fun c7 => ?_) (fun c7 => ?_)
          · refine T.go 2 (fun n9 => (rfl : _ = exe ξ n9 (d + 8) j_N_type 40 [(0, .ref 16), (1, JL x), (3, J n), (4, J s), (5, J (z4 % 256))] [J (z4 % 256), J n] σ)) ?_
            refine T.if_ne rfl rfl (by omega) (fun c8 => ?_) (fun c8 => ?_)
            · refine T.go 1 (fun n9 => (rfl : _ = exe ξ n9 (d + 8) j_N_type 48 [(0, .ref 16), (1, JL x), (3, J n), (4, J s), (5, J (z4 % 256))] [J 1, J n] σ)) ?_
              refine T.iadd rfl ?_
              refine T.go 1 (fun n9 => (rfl : _ = exe ξ n9 (d + 8) j_N_type 50 [(0, .ref 16), (1, JL x), (3, J (n + 1)), (4, J s), (5, J (z4 % 256))] [] σ)) ?_
              refine T.iinc (lv' := [(0, .ref 16), (1, JL x), (3, J (n + 1)), (4, J (s + (-8))), (5, J (z4 % 256))]) rfl rfl rfl rfl ?_
              refine T.go 1 (fun n9 => (rfl : _ = exe ξ n9 (d + 8) j_N_type 6 [(0, .ref 16), (1, JL x), (3, J (n + 1)), (4, J (s + (-8))), (5, J (z4 % 256))] [] σ)) ?_
              refine T.drop (lv := [(0, .ref 16), (1, JL x), (3, J (n + 1)), (4, J (s + (-8)))]) [(5, J (z4 % 256))] (by simp) ?_
              exact ih  (n + 1) (s + (-8)) (by omega) (by first | omega | (have e9 := CW_n (x := x) (k := s) (by omega) (by omega) (by omega); have e8 := CW_r x ((s + (-8) + 8) / 8).toNat; omega)) (by omega) (by omega) (by omega) (by first | (have e9 := CW_z (x := x) (k := s) (by omega) (by omega) (by omega); omega) | (have e9 := CW_n (x := x) (k := s) (by omega) (by omega) (by omega); have e8 := CW_r x ((s + (-8) + 8) / 8).toNat; omega)) (AOK_yes (by omega) (by omega) i6 (by omega)) (by omega)
            · refine T.go 2 (fun n9 => (rfl : _ = exe ξ n9 (d + 8) j_N_type 48 [(0, .ref 16), (1, JL x), (3, J n), (4, J s), (5, J (z4 % 256))] [J 0, J n] σ)) ?_
              refine T.iadd rfl ?_
              refine T.go 1 (fun n9 => (rfl : _ = exe ξ n9 (d + 8) j_N_type 50 [(0, .ref 16), (1, JL x), (3, J (n + 0)), (4, J s), (5, J (z4 % 256))] [] σ)) ?_
              refine T.iinc (lv' := [(0, .ref 16), (1, JL x), (3, J (n + 0)), (4, J (s + (-8))), (5, J (z4 % 256))]) rfl rfl rfl rfl ?_
              refine T.go 1 (fun n9 => (rfl : _ = exe ξ n9 (d + 8) j_N_type 6 [(0, .ref 16), (1, JL x), (3, J (n + 0)), (4, J (s + (-8))), (5, J (z4 % 256))] [] σ)) ?_
              refine T.drop (lv := [(0, .ref 16), (1, JL x), (3, J (n + 0)), (4, J (s + (-8)))]) [(5, J (z4 % 256))] (by simp) ?_
              exact ih  (n + 0) (s + (-8)) (by omega) (by first | omega | (have e9 := CW_n (x := x) (k := s) (by omega) (by omega) (by omega); have e8 := CW_r x ((s + (-8) + 8) / 8).toNat; omega)) (by omega) (by omega) (by omega) (by first | (have e9 := CW_z (x := x) (k := s) (by omega) (by omega) (by omega); omega) | (have e9 := CW_n (x := x) (k := s) (by omega) (by omega) (by omega); have e8 := CW_r x ((s + (-8) + 8) / 8).toNat; omega)) (AOK_yes (by omega) (by omega) i6 (by omega)) (by omega)
          · refine T.go 1 (fun n9 => (rfl : _ = exe ξ n9 (d + 8) j_N_type 36 [(0, .ref 16), (1, JL x), (3, J n), (4, J s), (5, J (z4 % 256))] [J 0] σ)) ?_
            exact T.iretz rfl rfl (by omega) ⟨_, rfl, (Fr.refl hK), by omega, by omega, (by unfold TYv; rw [if_neg (fun q => by have := AOK_bad (x := x) (k := s) (by omega) (by omega) (by omega); omega)]), by omega, (fun q => by omega), (fun q => absurd q (by decide)), (fun _ => hu)⟩
  refine T.go 4 (fun n9 => (rfl : _ = exe ξ n9 (d + 8) j_N_type 6 [(0, .ref 16), (1, JL x), (3, J 0), (4, J 56)] [] σ)) ?_
  exact loop6 _ 0 56 (by omega) (by first | omega | (have e9 := CW_n (x := x) (k := s) (by omega) (by omega) (by omega); have e8 := CW_r x ((s + (-8) + 8) / 8).toNat; omega)) (by omega) (by omega) (by omega) (by rw [show (((56 : Int) + 8) / 8).toNat = 8 by decide] <;> omega) (by rw [show (((56 : Int) - 56) / 8).toNat = 0 by decide]; rfl) (Nat.lt_succ_self _)

set_option maxRecDepth 10000 in
set_option maxHeartbeats 4000000 in
theorem s_N_enumber {ξ : Nat → Option (Nat × List Int32)} (d : Nat) (g : Int → Int) (fz : Int) (u : Int → Int) (x : Int) (σ : qH) (hK : K σ)  (h255 : ∀ k, 0 ≤ g k ∧ g k ≤ 255) (hS : ∀ a : Nat, AOF σ x a → SV σ a g fz) (hu : AGR σ 51 u) (rx : -2147483648 ≤ x ∧ x ≤ 2147483647) : TX ξ (d + 8) j_N_number 0 (lv_args 0 [.ref 16, J x]) [] σ (QE [51] [1] σ (fun e s => ¬ (afld σ 16 11 = 1 ∧ 0 ≤ x ∧ x ≤ afld σ 16 14) ∧ rl s 51 = 0) (fun v σ' => ∃ z : Int, v = some (J z) ∧ Fr [51] σ σ' ∧ -2147483648 ≤ z ∧ z ≤ 2147483647 ∧ (afld σ 16 11 = 1 ∧ 0 ≤ x ∧ x ≤ afld σ 16 14) ∧ (z ≠ -1 → NMD g fz u 0 (rl σ 51) z) ∧ (z = -1 → NNM g fz u 0 (rl σ 51)) ∧ rl σ' 51 = 0)) := by
  obtain ⟨kex1, scx1, tpx1, oux1, mox1, sgx1, hox1, mcx1, lfx1, lpx1, hNx1, fx1ke, fx1sc, fx1tp, fx1ou, fx1mo, fx1sg, fx1d, fx1e, fx1f, fx1g, fx1h, fx1i, fx1j⟩ := hK.na
  have h11 := af_of (i := 11) hNx1 rfl (by omega)
  have h14 := af_of (i := 14) hNx1 rfl (by omega)
  obtain ⟨mx2, nx2, bx2, lx2, hrx2, hbx2, fx2a, fx2b, fx2c, fx2d, fx2e, fx2g, fx2h, fx2i⟩ := hK.row (r := 51) (by decide)
  have ctx2 := CT_of hrx2 hbx2
  have rwx2 := rl_of hrx2 (by omega)
  subst rwx2
  refine TX.go 2 (fun n9 => (rfl : _ = exx ξ n9 (d + 8) j_N_number 2 [(0, .ref 16), (1, J x)] [J x, .ref 16] σ)) ?_
  refine TX.callv (as := [J x]) (r := []) rfl rfl rfl rfl rfl hNx1 rfl (s_N_farchiveOf (d + 7) x σ hK   (by omega)) (fun v1 s1 hqs1 => ?_)
  obtain ⟨esz1, ⟨rfl, hnaa1⟩ | ⟨a1, hAa1, rfl, haoa1⟩⟩ := hqs1
  · rw [esz1]
    refine TX.go 7 (fun n9 => (rfl : _ = exx ξ n9 (d + 8) j_N_number 32 [(0, .ref 16), (1, J x), (2, .null), (3, J (-1))] [.ref 16] σ)) ?_
    refine TX.get rfl rfl rfl rfl hNx1 rfl ?_
    refine TX.callv (as := []) (r := []) rfl rfl rfl rfl rfl hrx2 rfl (s_R_clear (d + 7) 51 σ hK (by decide)  ) (fun v2 s2 hqs2 => ?_)
    obtain ⟨rfl, hs2, pz2_0, pz2_1⟩ := hqs2
    have es2 := hs2
    have k1 := es2.b.1 _ _ (nm_c (by decide) nm_0) (fun l z => by cases z) hNx1
    refine TX.go 2 (fun n9 => (rfl : _ = exx ξ n9 (d + 8) j_N_number 42 [(0, .ref 16), (1, J x), (2, .null), (3, J (-1))] [] s2)) ?_
    exact TX.throw (Nat.ble_eq_true_of_le (by omega)) rfl rfl (QE_r (by decide) hs2 ⟨by omega, pz2_1⟩)
  · rw [esz1]; have hSa := hS a1 haoa1; have v1 := haoa1.1; have v2 := haoa1.2.1; have v3 := haoa1.2.2.1
    refine TX.go 5 (fun n9 => (rfl : _ = exx ξ n9 (d + 8) j_N_number 16 [(0, .ref 16), (1, J x), (2, .ref a1)] [.ref 16, .ref a1] σ)) ?_
    refine TX.get rfl rfl rfl rfl hNx1 rfl ?_
    refine TX.go 2 (fun n9 => (rfl : _ = exx ξ n9 (d + 8) j_N_number 21 [(0, .ref 16), (1, J x), (2, .ref a1)] [.ref 16, J 0, .ref 51, .ref a1] σ)) ?_
    refine TX.get rfl rfl rfl rfl hNx1 rfl ?_
    refine TX.get rfl rfl rfl rfl hrx2 rfl ?_
    obtain ⟨ex3, erx3, dix3, bax3, fpx3, hax3, fx3a, fx3b, fx3c, fx3d, fx3e, fx3f, fx3g, fx3h, fx3i, fx3j⟩ := hK.arc hAa1
    have af3x3 := af_of (i := 3) hax3 rfl (by omega)
    subst af3x3
    have af4x3 := af_of (i := 4) hax3 rfl (by omega)
    subst af4x3
    have af5x3 := af_of (i := 5) hax3 rfl (by omega)
    subst af5x3
    have af6x3 := af_of (i := 6) hax3 rfl (by omega)
    subst af6x3
    have af7x3 := af_of (i := 7) hax3 rfl (by omega)
    subst af7x3
    refine TX.callv (as := [.ref 51, J 0, J (rl σ 51)]) (r := []) rfl rfl rfl rfl (ArL_lt _ hAa1).2.2.1 hax3 rfl (s_A_flookUp (d + 6) g u a1 51 0 (rl σ 51) σ hK hAa1 (by decide) h255 hSa.2.1 hu (SV_hc h255 hSa) (by omega) (by omega) (by omega) (by omega) (by omega)) (fun v3 s3 hqs3 => ?_)
    obtain ⟨z3, rfl, esz3, hzz3, hyz3, pz3_0⟩ := hqs3
    rw [esz3]
    have lk1 := SV_lk (u := u) (s := 0) (n := rl σ 51) h255 hSa
    rw [← pz3_0] at lk1
    refine TX.go 2 (fun n9 => (rfl : _ = exx ξ n9 (d + 8) j_N_number 32 [(0, .ref 16), (1, J x), (2, .ref a1), (3, J z3)] [.ref 16] σ)) ?_
    refine TX.get rfl rfl rfl rfl hNx1 rfl ?_
    refine TX.callv (as := []) (r := []) rfl rfl rfl rfl rfl hrx2 rfl (s_R_clear (d + 7) 51 σ hK (by decide)  ) (fun v4 s4 hqs4 => ?_)
    obtain ⟨rfl, hs4, pz4_0, pz4_1⟩ := hqs4
    have es4 := hs4
    have k2 := es4.b.1 _ _ (nm_c (by decide) nm_0) (fun l z => by cases z) hNx1
    have k3 := es4.b.1 _ _ (nm_c (dq_88 _ hAa1) nm_0) (fun l z => by cases z) hax3
    refine TX.go 3 (fun n9 => (rfl : _ = exx ξ n9 (d + 8) j_N_number 53 [(0, .ref 16), (1, J x), (2, .ref a1), (3, J z3)] [J z3] s4)) ?_
    exact TX.ireti rfl rfl rfl (QE_l ⟨_, rfl, hs4, by omega, by omega, by omega, lk1.1, lk1.2, pz4_1⟩)
