/-! class Unpacker: lengths that are told. -/
set_option maxRecDepth 10000 in
set_option maxHeartbeats 4000000 in
theorem s_U_ftellLengths {ξ : Nat → Option (Nat × List Int32)} (d : Nat) (s t : Nat) (g C : Int → Int) (n : Int) (σ : qH) (hK : K σ)  (hs : s ∈ RwL) (ht : t ∈ RwL) (hst : s ≠ t) (hU : UL s t σ) (hNA : NA σ) (hg : AGR σ s g) (hdC : CD σ 19 C 19) (rn : -2147483648 ≤ n ∧ n ≤ 2147483647) (pre0 : 0 ≤ n) (pre1 : n ≤ 320) (pre2 : afld σ 17 11 = 0) : T ξ (d + 2) j_U_tellLengths 0 (lv_args 0 [.ref 17, J n]) [] σ (fun v σ' => ∃ z : Int, v = some (J z) ∧ Fr [17, 18] σ σ' ∧ 0 ≤ z ∧ z ≤ 1 ∧ UL s t σ' ∧ (z = 1 → (TL g (afld σ 17 10) C n n.toNat 0 (afld σ 17 9) (fun _ => 0)).1 = true ∧ afld σ' 17 9 = (TL g (afld σ 17 10) C n n.toNat 0 (afld σ 17 9) (fun _ => 0)).2.1 ∧ gw (il σ' 18) n = (TL g (afld σ 17 10) C n n.toNat 0 (afld σ 17 9) (fun _ => 0)).2.2) ∧ (z = 0 → (TL g (afld σ 17 10) C n n.toNat 0 (afld σ 17 9) (fun _ => 0)).1 = false) ∧ (afld σ' 17 8 = afld σ 17 8 ∧ afld σ' 17 10 = afld σ 17 10) ∧ (z = 1 → afld σ' 17 11 = 0)) := by
  obtain ⟨wx1, bix1, bex1, rox1, mx1, nx1, bx1, lx1, hux1, hrx1, hbx1, ⟨fx1a, fx1b, fx1c, fx1d, fx1e, fx1f, fx1g, fx1h, fx1i, fx1j⟩, ⟨fx1k, fx1l, fx1m, fx1n⟩, fx1o, fx1p⟩ := UL.unf hK hU hs
  have af8x1 := af_of (i := 8) hux1 rfl (by omega)
  subst af8x1
  have af9x1 := af_of (i := 9) hux1 rfl (by omega)
  subst af9x1
  have af10x1 := af_of (i := 10) hux1 rfl (by omega)
  subst af10x1
  have af11x1 := af_of (i := 11) hux1 rfl (by omega)
  subst af11x1
  have ctx1 := CT_of hrx1 hbx1
  have rwx1 := rl_of hrx1 (by omega)
  subst rwx1
  have loop15 : ∀ (f : Nat) (k : Int) (i : Int) (τ : qH), Fr [17, 18] σ τ → UL s t τ → 0 ≤ k → k ≤ n → 0 ≤ i → i ≤ k → TL g (afld σ 17 10) C n (n - i).toNat k (afld τ 17 9) (gw (il τ 18) k) = TL g (afld σ 17 10) C n n.toNat 0 (afld σ 17 9) (fun _ => 0) → afld τ 17 8 = afld σ 17 8 → afld τ 17 10 = afld σ 17 10 → afld τ 17 11 = 0 → (n - i).toNat < f → T ξ (d + 2) j_U_tellLengths 15 [(0, .ref 17), (1, J n), (2, J k), (3, J i)] [] τ (fun v σ' => ∃ z : Int, v = some (J z) ∧ Fr [17, 18] σ σ' ∧ 0 ≤ z ∧ z ≤ 1 ∧ UL s t σ' ∧ (z = 1 → (TL g (afld σ 17 10) C n n.toNat 0 (afld σ 17 9) (fun _ => 0)).1 = true ∧ afld σ' 17 9 = (TL g (afld σ 17 10) C n n.toNat 0 (afld σ 17 9) (fun _ => 0)).2.1 ∧ gw (il σ' 18) n = (TL g (afld σ 17 10) C n n.toNat 0 (afld σ 17 9) (fun _ => 0)).2.2) ∧ (z = 0 → (TL g (afld σ 17 10) C n n.toNat 0 (afld σ 17 9) (fun _ => 0)).1 = false) ∧ (afld σ' 17 8 = afld σ 17 8 ∧ afld σ' 17 10 = afld σ 17 10) ∧ (z = 1 → afld σ' 17 11 = 0)) := by
    intro f
    induction f with
    | zero => intro k i τ hτ uτ i0 i1 i2 i3 i4 i5 i6 i7 hm; omega
    | succ f ih =>
      intro k i τ hτ uτ i0 i1 i2 i3 i4 i5 i6 i7 hm
      obtain ⟨wx2, bix2, bex2, rox2, mx2, nx2, bx2, lx2, hux2, hrx2, hbx2, ⟨fx2a, fx2b, fx2c, fx2d, fx2e, fx2f, fx2g, fx2h, fx2i, fx2j⟩, ⟨fx2k, fx2l, fx2m, fx2n⟩, fx2o, fx2p⟩ := UL.unf hτ.1 uτ hs
      have af8x2 := af_of (i := 8) hux2 rfl (by omega)
      subst af8x2
      have af9x2 := af_of (i := 9) hux2 rfl (by omega)
      subst af9x2
      have af10x2 := af_of (i := 10) hux2 rfl (by omega)
      subst af10x2
      have af11x2 := af_of (i := 11) hux2 rfl (by omega)
      subst af11x2
      have ctx2 := CT_of hrx2 hbx2
      have rwx2 := rl_of hrx2 (by omega)
      subst rwx2
      refine T.go 2 (fun n9 => (rfl : _ = exe ξ n9 (d + 2) j_U_tellLengths 17 [(0, .ref 17), (1, J n), (2, J k), (3, J i)] [J n, J i] τ)) ?_
      refine T.icmp_ge rfl rfl (by omega) (by omega) (fun c1 => ?_) (fun c1 => ?_)
      · refine T.go 2 (fun n9 => (rfl : _ = exe ξ n9 (d + 2) j_U_tellLengths 186 [(0, .ref 17), (1, J n), (2, J k), (3, J i)] [J n, J k] τ)) ?_
        refine T.icmp_ne rfl rfl (by omega) (by omega) (fun c2 => ?_) (fun c2 => ?_)
        · refine T.go 1 (fun n9 => (rfl : _ = exe ξ n9 (d + 2) j_U_tellLengths 194 [(0, .ref 17), (1, J n), (2, J k), (3, J i)] [J 0] τ)) ?_
          exact T.iretz rfl rfl (by omega) ⟨_, rfl, hτ, by omega, by omega, uτ, (fun h => absurd h (by decide)), (fun _ => by exfalso; omega), ⟨by omega, by omega⟩, by omega⟩
        · refine T.go 2 (fun n9 => (rfl : _ = exe ξ n9 (d + 2) j_U_tellLengths 194 [(0, .ref 17), (1, J n), (2, J k), (3, J i)] [J 1] τ)) ?_
          exact T.iretz rfl rfl (by omega) ⟨_, rfl, hτ, by omega, by omega, uτ, (fun _ => by rw [← i4, TL_end (by omega)]; exact ⟨decide_eq_true (by omega), rfl, by rw [show n = k by omega]⟩), (fun h => absurd h (by decide)), ⟨by omega, by omega⟩, by omega⟩
      · refine T.go 2 (fun n9 => (rfl : _ = exe ξ n9 (d + 2) j_U_tellLengths 22 [(0, .ref 17), (1, J n), (2, J k), (3, J i)] [J n, J k] τ)) ?_
        refine T.icmp_ge rfl rfl (by omega) (by omega) (fun c3 => ?_) (fun c3 => ?_)
        · refine T.go 2 (fun n9 => (rfl : _ = exe ξ n9 (d + 2) j_U_tellLengths 186 [(0, .ref 17), (1, J n), (2, J k), (3, J i)] [J n, J k] τ)) ?_
          refine T.icmp_ne rfl rfl (by omega) (by omega) (fun c4 => ?_) (fun c4 => ?_)
          · refine T.go 1 (fun n9 => (rfl : _ = exe ξ n9 (d + 2) j_U_tellLengths 194 [(0, .ref 17), (1, J n), (2, J k), (3, J i)] [J 0] τ)) ?_
            exact T.iretz rfl rfl (by omega) ⟨_, rfl, hτ, by omega, by omega, uτ, (fun h => absurd h (by decide)), (fun _ => by exfalso; omega), ⟨by omega, by omega⟩, by omega⟩
          · refine T.go 2 (fun n9 => (rfl : _ = exe ξ n9 (d + 2) j_U_tellLengths 194 [(0, .ref 17), (1, J n), (2, J k), (3, J i)] [J 1] τ)) ?_
            exact T.iretz rfl rfl (by omega) ⟨_, rfl, hτ, by omega, by omega, uτ, (fun _ => by rw [← i4, TL_end (by omega)]; exact ⟨decide_eq_true (by omega), rfl, by rw [show n = k by omega]⟩), (fun h => absurd h (by decide)), ⟨by omega, by omega⟩, by omega⟩
        · refine T.go 2 (fun n9 => (rfl : _ = exe ξ n9 (d + 2) j_U_tellLengths 27 [(0, .ref 17), (1, J n), (2, J k), (3, J i)] [.ref 17, .ref 17] τ)) ?_
          refine T.get rfl rfl rfl hux2 rfl ?_
          have na1 := (hτ.b.2 hNA).1
          have hg1 := hg.fr hNA hτ hs (nm_c (dq_1 _ hs) (nm_c (dq_3 _ hs) nm_0))
          refine T.callv (as := [.ref 19]) (r := []) rfl rfl rfl rfl hux2 rfl (s_U_fnextSign (d + 1) s t g C 19 19 τ hτ.1 (by decide) hs ht hst uτ na1 hg1 (hdC.fr hK (by decide) hτ (by decide) (by decide)) (by omega) ) (fun v1 s1 hqs1 => ?_)
          obtain ⟨z1, rfl, hs1, hzz1, hyz1, pz1_0, pz1_1, pz1_2, pz1_3⟩ := hqs1
          have es1 := hs1
          have hs1 := hs1.sub (w' := [17, 18]) (List.forall_mem_cons.mpr ⟨(by simp), (fun _ h => by cases h)⟩)
          have k1 := es1.b.1 _ _ (nm_c (dq_1 _ hs) nm_0) (fun l z => by cases z) hrx2
          have gs1 := hτ.trans hs1
          have nt1 := nb_fr na1 es1 ht (nm_c (dq_1 _ ht) nm_0)
          have rt1 := rl_eq (es1.2.2.1 t (List.mem_cons_of_mem _ ht) (nm_c (dq_1 _ ht) nm_0))
          rw [show afld τ 17 10 = afld σ 17 10 by omega] at pz1_1 pz1_2
          obtain ⟨W1, hW1⟩ : ∃ W, SG g (afld σ 17 10) C 19 15 (afld τ 17 9) 0 0 = W := ⟨_, rfl⟩
          rw [hW1] at pz1_1 pz1_2
          have rW1 := SG_r (g := g) (e := afld σ 17 10) (L := C) (n := 19) 15 (afld τ 17 9) 0 0 (Int.le_refl _)
          rw [hW1] at rW1
          subst pz1_1
          have iq1 := il_fr hτ.1 kdX_18 es1 (by decide)
          refine T.go 2 (fun n9 => (rfl : _ = exe ξ n9 (d + 2) j_U_tellLengths 37 [(0, .ref 17), (1, J n), (2, J k), (3, J i), (4, J (W1.1))] [J (W1.1)] s1)) ?_
          refine T.if_lt rfl rfl (by omega) (fun c5 => ?_) (fun c5 => ?_)
          · refine T.go 1 (fun n9 => (rfl : _ = exe ξ n9 (d + 2) j_U_tellLengths 52 [(0, .ref 17), (1, J n), (2, J k), (3, J i), (4, J (W1.1))] [J 0] s1)) ?_
            exact T.iretz rfl rfl (by omega) ⟨_, rfl, gs1, by omega, by omega, pz1_0, (fun h => absurd h (by decide)), (fun _ => by rw [← i4, show (n - i).toNat = (n - (i + 1)).toNat + 1 by omega]; exact TL_no hW1 (by omega) (by omega)), ⟨by omega, by omega⟩, by omega⟩
          · refine T.go 2 (fun n9 => (rfl : _ = exe ξ n9 (d + 2) j_U_tellLengths 44 [(0, .ref 17), (1, J n), (2, J k), (3, J i), (4, J (W1.1))] [J 16, J (W1.1)] s1)) ?_
            refine T.icmp_ne rfl rfl (by omega) (by omega) (fun c6 => ?_) (fun c6 => ?_)
            · refine T.go 2 (fun n9 => (rfl : _ = exe ξ n9 (d + 2) j_U_tellLengths 57 [(0, .ref 17), (1, J n), (2, J k), (3, J i), (4, J (W1.1))] [J 16, J (W1.1)] s1)) ?_
              refine T.icmp_ge rfl rfl (by omega) (by omega) (fun c7 => ?_) (fun c7 => ?_)
              · refine T.go 2 (fun n9 => (rfl : _ = exe ξ n9 (d + 2) j_U_tellLengths 69 [(0, .ref 17), (1, J n), (2, J k), (3, J i), (4, J (W1.1))] [J 16, J (W1.1)] s1)) ?_
                refine T.icmp_ne rfl rfl (by omega) (by omega) (fun c8 => ?_) (fun c8 => ?_)
                · refine T.go 4 (fun n9 => (rfl : _ = exe ξ n9 (d + 2) j_U_tellLengths 90 [(0, .ref 17), (1, J n), (2, J k), (3, J i), (4, J (W1.1)), (5, J 0)] [J 16, J (W1.1)] s1)) ?_
                  refine T.icmp_ge rfl rfl (by omega) (by omega) (fun c9 => ?_) (fun c9 => ?_)
                  · refine T.go 2 (fun n9 => (rfl : _ = exe ξ n9 (d + 2) j_U_tellLengths 101 [(0, .ref 17), (1, J n), (2, J k), (3, J i), (4, J (W1.1)), (5, J 0)] [J 16, J (W1.1)] s1)) ?_
                    refine T.icmp_ne rfl rfl (by omega) (by omega) (fun c10 => ?_) (fun c10 => ?_)
                    · refine T.go 2 (fun n9 => (rfl : _ = exe ξ n9 (d + 2) j_U_tellLengths 118 [(0, .ref 17), (1, J n), (2, J k), (3, J i), (4, J (W1.1)), (5, J 0)] [J 17, J (W1.1)] s1)) ?_
                      refine T.icmp_ne rfl rfl (by omega) (by omega) (fun c11 => ?_) (fun c11 => ?_)
                      · refine T.go 3 (fun n9 => (rfl : _ = exe ξ n9 (d + 2) j_U_tellLengths 136 [(0, .ref 17), (1, J n), (2, J k), (3, J i), (4, J (W1.1)), (5, J 0)] [J 7, .ref 17, J 11] s1)) ?_
                        have na2 := (gs1.b.2 hNA).1
                        have hg2 := hg.fr hNA gs1 hs (nm_c (dq_1 _ hs) (nm_c (dq_3 _ hs) nm_0))
                        obtain ⟨wx3, bix3, bex3, rox3, mx3, nx3, bx3, lx3, hux3, hrx3, hbx3, ⟨fx3a, fx3b, fx3c, fx3d, fx3e, fx3f, fx3g, fx3h, fx3i, fx3j⟩, ⟨fx3k, fx3l, fx3m, fx3n⟩, fx3o, fx3p⟩ := UL.unf hs1.1 pz1_0 hs
                        have af8x3 := af_of (i := 8) hux3 rfl (by omega)
                        subst af8x3
                        have af9x3 := af_of (i := 9) hux3 rfl (by omega)
                        subst af9x3
                        have af10x3 := af_of (i := 10) hux3 rfl (by omega)
                        subst af10x3
                        have af11x3 := af_of (i := 11) hux3 rfl (by omega)
                        subst af11x3
                        have ctx3 := CT_of hrx3 hbx3
                        have rwx3 := rl_of hrx3 (by omega)
                        subst rwx3
                        refine T.callv (as := [J 7]) (r := [J 11]) rfl rfl rfl rfl hux3 rfl (s_U_ftakeBits (d + 1) s t g 7 s1 hs1.1  hs ht hst pz1_0 na2 hg2 (by omega) (by omega) (by omega)) (fun v2 s2 hqs2 => ?_)
                        obtain ⟨z2, rfl, hs2, hzz2, hyz2, pz2_0, pz2_1, pz2_2⟩ := hqs2
                        have es2 := hs2
                        have hs2 := hs2.sub (w' := [17, 18]) (List.forall_mem_cons.mpr ⟨(by simp), (fun _ h => by cases h)⟩)
                        have k2 := es2.b.1 _ _ (nm_c (dq_1 _ hs) nm_0) (fun l z => by cases z) hrx3
                        have gs2 := gs1.trans hs2
                        have nt2 := nb_fr na2 es2 ht (nm_c (dq_1 _ ht) nm_0)
                        have rt2 := rl_eq (es2.2.2.1 t (List.mem_cons_of_mem _ ht) (nm_c (dq_1 _ ht) nm_0))
                        have nt3 := nt2.trans nt1
                        rw [show (7 : Int).toNat = 7 from rfl] at pz2_1
                        have iq2 := il_fr hs1.1 kdX_18 es2 (by decide)
                        have iq3 := iq2.trans iq1
                        rcases pz2_1 with ⟨taz2, tbz2, tcz2, tdz2⟩ | ⟨taz2, tbz2, tcz2, tdz2⟩
                        · rw [show afld s1 17 9 = W1.2 by omega] at tbz2
                          refine T.iadd rfl ?_
                          refine T.go 2 (fun n9 => (rfl : _ = exe ξ n9 (d + 2) j_U_tellLengths 143 [(0, .ref 17), (1, J n), (2, J k), (3, J i), (4, J (W1.1)), (5, J 0), (6, J (11 + z2))] [.ref 17] s2)) ?_
                          obtain ⟨wx4, bix4, bex4, rox4, mx4, nx4, bx4, lx4, hux4, hrx4, hbx4, ⟨fx4a, fx4b, fx4c, fx4d, fx4e, fx4f, fx4g, fx4h, fx4i, fx4j⟩, ⟨fx4k, fx4l, fx4m, fx4n⟩, fx4o, fx4p⟩ := UL.unf hs2.1 pz2_0 hs
                          have af8x4 := af_of (i := 8) hux4 rfl (by omega)
                          subst af8x4
                          have af9x4 := af_of (i := 9) hux4 rfl (by omega)
                          subst af9x4
                          have af10x4 := af_of (i := 10) hux4 rfl (by omega)
                          subst af10x4
                          have af11x4 := af_of (i := 11) hux4 rfl (by omega)
                          subst af11x4
                          have ctx4 := CT_of hrx4 hbx4
                          have rwx4 := rl_of hrx4 (by omega)
                          subst rwx4
                          refine T.get rfl rfl rfl hux4 rfl ?_
                          refine T.if_ne rfl rfl (by omega) (fun c12 => ?_) (fun c12 => ?_)
                          · refine T.go 1 (fun n9 => (rfl : _ = exe ξ n9 (d + 2) j_U_tellLengths 158 [(0, .ref 17), (1, J n), (2, J k), (3, J i), (4, J (W1.1)), (5, J 0), (6, J (11 + z2))] [J 0] s2)) ?_
                            have tk1 := tB_18 (s := W1.1) (by omega)
                            have tw1 : BV g W1.2 (tBi W1.1).toNat = BV g W1.2 7 := by rw [tk1.1]; rfl
                            exact T.iretz rfl rfl (by omega) ⟨_, rfl, gs2, by omega, by omega, pz2_0, (fun h => absurd h (by decide)), (fun _ => by rw [← i4, show (n - i).toNat = (n - (i + 1)).toNat + 1 by omega]; exact TL_no hW1 (by omega) (by omega)), ⟨by omega, by omega⟩, by omega⟩
                          · refine T.go 3 (fun n9 => (rfl : _ = exe ξ n9 (d + 2) j_U_tellLengths 153 [(0, .ref 17), (1, J n), (2, J k), (3, J i), (4, J (W1.1)), (5, J 0), (6, J (11 + z2))] [J k, J n, J (11 + z2)] s2)) ?_
                            refine T.isub rfl ?_
                            refine T.icmp_le rfl rfl (by omega) (by omega) (fun c13 => ?_) (fun c13 => ?_)
                            · refine T.go 1 (fun n9 => (rfl : _ = exe ξ n9 (d + 2) j_U_tellLengths 160 [(0, .ref 17), (1, J n), (2, J k), (3, J i), (4, J (W1.1)), (5, J 0), (6, J (11 + z2))] [.ref 17] s2)) ?_
                              refine T.get rfl rfl rfl hux4 rfl ?_
                              refine T.go 3 (fun n9 => (rfl : _ = exe ξ n9 (d + 2) j_U_tellLengths 167 [(0, .ref 17), (1, J n), (2, J k), (3, J i), (4, J (W1.1)), (5, J 0), (6, J (11 + z2))] [J (11 + z2), J k, J k, .ref 18] s2)) ?_
                              refine T.iadd rfl ?_
                              refine T.go 1 (fun n9 => (rfl : _ = exe ξ n9 (d + 2) j_U_tellLengths 170 [(0, .ref 17), (1, J n), (2, J k), (3, J i), (4, J (W1.1)), (5, J 0), (6, J (11 + z2))] [J 0, J (k + (11 + z2)), J k, .ref 18] s2)) ?_
                              have ga140 := gl_any (il s2 18) (k - 1)
                              refine T.calls (as := [.ref 18, J k, J (k + (11 + z2)), J 0]) (r := []) rfl rfl (by decide) rfl rfl (s_J_ffill d 18 k (k + (11 + z2)) 0 s2 hs2.1 kdX_18 (by decide) rfl (by decide) (Or.inl (by decide)) (by omega) (by omega)) (fun v3 s3 hqs3 => ?_)
                              obtain ⟨rfl, hs3, pz3_0, pz3_1⟩ := hqs3
                              have es3 := hs3
                              have hs3 := hs3.sub (w' := [17, 18]) (List.forall_mem_cons.mpr ⟨(by simp), (fun _ h => by cases h)⟩)
                              have k3 := es3.b.1 _ _ (nm_c (dq_3 _ hs) nm_0) (fun l z => by cases z) hrx4
                              have k4 := es3.b.1 _ _ (nm_c (by decide) nm_0) (fun l z => by cases z) hux4
                              have gs3 := gs2.trans hs3
                              have hU3 := UL.ints pz2_0 pz3_0
                              refine T.go 2 (fun n9 => (rfl : _ = exe ξ n9 (d + 2) j_U_tellLengths 176 [(0, .ref 17), (1, J n), (2, J k), (3, J i), (4, J (W1.1)), (5, J 0), (6, J (11 + z2))] [J (11 + z2), J k] s3)) ?_
                              refine T.iadd rfl ?_
                              refine T.go 1 (fun n9 => (rfl : _ = exe ξ n9 (d + 2) j_U_tellLengths 178 [(0, .ref 17), (1, J n), (2, J (k + (11 + z2))), (3, J i), (4, J (W1.1)), (5, J 0), (6, J (11 + z2))] [] s3)) ?_
                              refine T.iinc (lv' := [(0, .ref 17), (1, J n), (2, J (k + (11 + z2))), (3, J (i + 1)), (4, J (W1.1)), (5, J 0), (6, J (11 + z2))]) rfl rfl rfl rfl ?_
                              refine T.go 1 (fun n9 => (rfl : _ = exe ξ n9 (d + 2) j_U_tellLengths 15 [(0, .ref 17), (1, J n), (2, J (k + (11 + z2))), (3, J (i + 1)), (4, J (W1.1)), (5, J 0), (6, J (11 + z2))] [] s3)) ?_
                              refine T.drop (lv := [(0, .ref 17), (1, J n), (2, J (k + (11 + z2))), (3, J (i + 1))]) [(4, J (W1.1)), (5, J 0), (6, J (11 + z2))] (by simp) ?_
                              have tk2 := tB_18 (s := W1.1) (by omega)
                              have tw2 : BV g W1.2 (tBi W1.1).toNat = BV g W1.2 7 := by rw [tk2.1]; rfl
                              have nf1 := af_of (i := 8) k4 rfl (by omega)
                              have nf2 := af_of (i := 9) k4 rfl (by omega)
                              have nf3 := af_of (i := 10) k4 rfl (by omega)
                              have nf4 := af_of (i := 11) k4 rfl (by omega)
                              have tx1 : k + (11 + z2) = k + (tLe W1.1 + BV g W1.2 (tBi W1.1).toNat) := by omega
                              have ty1 : (0 : Int) = tVa (gw (il τ 18) k) k W1.1 := (tV_17 (by omega)).symm
                              have fl1 := pz3_1
                              rw [tx1, iq3] at fl1
                              exact ih  (k + (11 + z2)) (i + 1) s3 gs3 hU3 (by omega) (by omega) (by omega) (by omega) (by rw [tx1, gw_fill (by omega) (by omega) fl1, ← i4, show (n - i).toNat = (n - (i + 1)).toNat + 1 by omega, TL_on hW1 (by omega) (by omega) (by omega) (by omega) (by omega), show afld s3 17 9 = W1.2 + tBi W1.1 by omega, ← ty1]) (by omega) (by omega) (by omega) (by omega)
                            · refine T.go 1 (fun n9 => (rfl : _ = exe ξ n9 (d + 2) j_U_tellLengths 158 [(0, .ref 17), (1, J n), (2, J k), (3, J i), (4, J (W1.1)), (5, J 0), (6, J (11 + z2))] [J 0] s2)) ?_
                              have tk3 := tB_18 (s := W1.1) (by omega)
                              have tw3 : BV g W1.2 (tBi W1.1).toNat = BV g W1.2 7 := by rw [tk3.1]; rfl
                              exact T.iretz rfl rfl (by omega) ⟨_, rfl, gs2, by omega, by omega, pz2_0, (fun h => absurd h (by decide)), (fun _ => by rw [← i4, show (n - i).toNat = (n - (i + 1)).toNat + 1 by omega]; exact TL_no hW1 (by omega) (by omega)), ⟨by omega, by omega⟩, by omega⟩
                        · have fkz2 := taz2
                          refine T.iadd rfl ?_
                          refine T.go 2 (fun n9 => (rfl : _ = exe ξ n9 (d + 2) j_U_tellLengths 143 [(0, .ref 17), (1, J n), (2, J k), (3, J i), (4, J (W1.1)), (5, J 0), (6, J (11 + z2))] [.ref 17] s2)) ?_
                          obtain ⟨wx5, bix5, bex5, rox5, mx5, nx5, bx5, lx5, hux5, hrx5, hbx5, ⟨fx5a, fx5b, fx5c, fx5d, fx5e, fx5f, fx5g, fx5h, fx5i, fx5j⟩, ⟨fx5k, fx5l, fx5m, fx5n⟩, fx5o, fx5p⟩ := UL.unf hs2.1 pz2_0 hs
                          have af8x5 := af_of (i := 8) hux5 rfl (by omega)
                          subst af8x5
                          have af9x5 := af_of (i := 9) hux5 rfl (by omega)
                          subst af9x5
                          have af10x5 := af_of (i := 10) hux5 rfl (by omega)
                          subst af10x5
                          have af11x5 := af_of (i := 11) hux5 rfl (by omega)
                          subst af11x5
                          have ctx5 := CT_of hrx5 hbx5
                          have rwx5 := rl_of hrx5 (by omega)
                          subst rwx5
                          refine T.get rfl rfl rfl hux5 rfl ?_
                          refine T.if_ne rfl rfl (by omega) (fun c14 => ?_) (fun c14 => ?_)
                          · refine T.go 1 (fun n9 => (rfl : _ = exe ξ n9 (d + 2) j_U_tellLengths 158 [(0, .ref 17), (1, J n), (2, J k), (3, J i), (4, J (W1.1)), (5, J 0), (6, J (11 + z2))] [J 0] s2)) ?_
                            have tk4 := tB_18 (s := W1.1) (by omega)
                            have tw4 : BV g W1.2 (tBi W1.1).toNat = BV g W1.2 7 := by rw [tk4.1]; rfl
                            exact T.iretz rfl rfl (by omega) ⟨_, rfl, gs2, by omega, by omega, pz2_0, (fun h => absurd h (by decide)), (fun _ => by rw [← i4, show (n - i).toNat = (n - (i + 1)).toNat + 1 by omega]; exact TL_no hW1 (by omega) (by omega)), ⟨by omega, by omega⟩, by omega⟩
                          · exfalso
                            omega
                      · refine T.go 3 (fun n9 => (rfl : _ = exe ξ n9 (d + 2) j_U_tellLengths 124 [(0, .ref 17), (1, J n), (2, J k), (3, J i), (4, J (W1.1)), (5, J 0)] [J 3, .ref 17, J 3] s1)) ?_
                        have na3 := (gs1.b.2 hNA).1
                        have hg3 := hg.fr hNA gs1 hs (nm_c (dq_1 _ hs) (nm_c (dq_3 _ hs) nm_0))
                        obtain ⟨wx6, bix6, bex6, rox6, mx6, nx6, bx6, lx6, hux6, hrx6, hbx6, ⟨fx6a, fx6b, fx6c, fx6d, fx6e, fx6f, fx6g, fx6h, fx6i, fx6j⟩, ⟨fx6k, fx6l, fx6m, fx6n⟩, fx6o, fx6p⟩ := UL.unf hs1.1 pz1_0 hs
                        have af8x6 := af_of (i := 8) hux6 rfl (by omega)
                        subst af8x6
                        have af9x6 := af_of (i := 9) hux6 rfl (by omega)
                        subst af9x6
                        have af10x6 := af_of (i := 10) hux6 rfl (by omega)
                        subst af10x6
                        have af11x6 := af_of (i := 11) hux6 rfl (by omega)
                        subst af11x6
                        have ctx6 := CT_of hrx6 hbx6
                        have rwx6 := rl_of hrx6 (by omega)
                        subst rwx6
                        refine T.callv (as := [J 3]) (r := [J 3]) rfl rfl rfl rfl hux6 rfl (s_U_ftakeBits (d + 1) s t g 3 s1 hs1.1  hs ht hst pz1_0 na3 hg3 (by omega) (by omega) (by omega)) (fun v4 s4 hqs4 => ?_)
                        obtain ⟨z4, rfl, hs4, hzz4, hyz4, pz4_0, pz4_1, pz4_2⟩ := hqs4
                        have es4 := hs4
                        have hs4 := hs4.sub (w' := [17, 18]) (List.forall_mem_cons.mpr ⟨(by simp), (fun _ h => by cases h)⟩)
                        have k5 := es4.b.1 _ _ (nm_c (dq_1 _ hs) nm_0) (fun l z => by cases z) hrx6
                        have gs4 := gs1.trans hs4
                        have nt4 := nb_fr na3 es4 ht (nm_c (dq_1 _ ht) nm_0)
                        have rt3 := rl_eq (es4.2.2.1 t (List.mem_cons_of_mem _ ht) (nm_c (dq_1 _ ht) nm_0))
                        have nt5 := nt4.trans nt1
                        rw [show (3 : Int).toNat = 3 from rfl] at pz4_1
                        have iq4 := il_fr hs1.1 kdX_18 es4 (by decide)
                        have iq5 := iq4.trans iq1
                        rcases pz4_1 with ⟨taz4, tbz4, tcz4, tdz4⟩ | ⟨taz4, tbz4, tcz4, tdz4⟩
                        · rw [show afld s1 17 9 = W1.2 by omega] at tbz4
                          refine T.iadd rfl ?_
                          refine T.go 3 (fun n9 => (rfl : _ = exe ξ n9 (d + 2) j_U_tellLengths 143 [(0, .ref 17), (1, J n), (2, J k), (3, J i), (4, J (W1.1)), (5, J 0), (6, J (3 + z4))] [.ref 17] s4)) ?_
                          obtain ⟨wx7, bix7, bex7, rox7, mx7, nx7, bx7, lx7, hux7, hrx7, hbx7, ⟨fx7a, fx7b, fx7c, fx7d, fx7e, fx7f, fx7g, fx7h, fx7i, fx7j⟩, ⟨fx7k, fx7l, fx7m, fx7n⟩, fx7o, fx7p⟩ := UL.unf hs4.1 pz4_0 hs
                          have af8x7 := af_of (i := 8) hux7 rfl (by omega)
                          subst af8x7
                          have af9x7 := af_of (i := 9) hux7 rfl (by omega)
                          subst af9x7
                          have af10x7 := af_of (i := 10) hux7 rfl (by omega)
                          subst af10x7
                          have af11x7 := af_of (i := 11) hux7 rfl (by omega)
                          subst af11x7
                          have ctx7 := CT_of hrx7 hbx7
                          have rwx7 := rl_of hrx7 (by omega)
                          subst rwx7
                          refine T.get rfl rfl rfl hux7 rfl ?_
                          refine T.if_ne rfl rfl (by omega) (fun c15 => ?_) (fun c15 => ?_)
                          · refine T.go 1 (fun n9 => (rfl : _ = exe ξ n9 (d + 2) j_U_tellLengths 158 [(0, .ref 17), (1, J n), (2, J k), (3, J i), (4, J (W1.1)), (5, J 0), (6, J (3 + z4))] [J 0] s4)) ?_
                            have tk5 := tB_17 (s := W1.1) (by omega)
                            have tw5 : BV g W1.2 (tBi W1.1).toNat = BV g W1.2 3 := by rw [tk5.1]; rfl
                            exact T.iretz rfl rfl (by omega) ⟨_, rfl, gs4, by omega, by omega, pz4_0, (fun h => absurd h (by decide)), (fun _ => by rw [← i4, show (n - i).toNat = (n - (i + 1)).toNat + 1 by omega]; exact TL_no hW1 (by omega) (by omega)), ⟨by omega, by omega⟩, by omega⟩
                          · refine T.go 3 (fun n9 => (rfl : _ = exe ξ n9 (d + 2) j_U_tellLengths 153 [(0, .ref 17), (1, J n), (2, J k), (3, J i), (4, J (W1.1)), (5, J 0), (6, J (3 + z4))] [J k, J n, J (3 + z4)] s4)) ?_
                            refine T.isub rfl ?_
                            refine T.icmp_le rfl rfl (by omega) (by omega) (fun c16 => ?_) (fun c16 => ?_)
                            · refine T.go 1 (fun n9 => (rfl : _ = exe ξ n9 (d + 2) j_U_tellLengths 160 [(0, .ref 17), (1, J n), (2, J k), (3, J i), (4, J (W1.1)), (5, J 0), (6, J (3 + z4))] [.ref 17] s4)) ?_
                              refine T.get rfl rfl rfl hux7 rfl ?_
                              refine T.go 3 (fun n9 => (rfl : _ = exe ξ n9 (d + 2) j_U_tellLengths 167 [(0, .ref 17), (1, J n), (2, J k), (3, J i), (4, J (W1.1)), (5, J 0), (6, J (3 + z4))] [J (3 + z4), J k, J k, .ref 18] s4)) ?_
                              refine T.iadd rfl ?_
                              refine T.go 1 (fun n9 => (rfl : _ = exe ξ n9 (d + 2) j_U_tellLengths 170 [(0, .ref 17), (1, J n), (2, J k), (3, J i), (4, J (W1.1)), (5, J 0), (6, J (3 + z4))] [J 0, J (k + (3 + z4)), J k, .ref 18] s4)) ?_
                              have ga250 := gl_any (il s4 18) (k - 1)
                              refine T.calls (as := [.ref 18, J k, J (k + (3 + z4)), J 0]) (r := []) rfl rfl (by decide) rfl rfl (s_J_ffill d 18 k (k + (3 + z4)) 0 s4 hs4.1 kdX_18 (by decide) rfl (by decide) (Or.inl (by decide)) (by omega) (by omega)) (fun v5 s5 hqs5 => ?_)
                              obtain ⟨rfl, hs5, pz5_0, pz5_1⟩ := hqs5
                              have es5 := hs5
                              have hs5 := hs5.sub (w' := [17, 18]) (List.forall_mem_cons.mpr ⟨(by simp), (fun _ h => by cases h)⟩)
                              have k6 := es5.b.1 _ _ (nm_c (dq_3 _ hs) nm_0) (fun l z => by cases z) hrx7
                              have k7 := es5.b.1 _ _ (nm_c (by decide) nm_0) (fun l z => by cases z) hux7
                              have gs5 := gs4.trans hs5
                              have hU5 := UL.ints pz4_0 pz5_0
                              refine T.go 2 (fun n9 => (rfl : _ = exe ξ n9 (d + 2) j_U_tellLengths 176 [(0, .ref 17), (1, J n), (2, J k), (3, J i), (4, J (W1.1)), (5, J 0), (6, J (3 + z4))] [J (3 + z4), J k] s5)) ?_
                              refine T.iadd rfl ?_
                              refine T.go 1 (fun n9 => (rfl : _ = exe ξ n9 (d + 2) j_U_tellLengths 178 [(0, .ref 17), (1, J n), (2, J (k + (3 + z4))), (3, J i), (4, J (W1.1)), (5, J 0), (6, J (3 + z4))] [] s5)) ?_
                              refine T.iinc (lv' := [(0, .ref 17), (1, J n), (2, J (k + (3 + z4))), (3, J (i + 1)), (4, J (W1.1)), (5, J 0), (6, J (3 + z4))]) rfl rfl rfl rfl ?_
                              refine T.go 1 (fun n9 => (rfl : _ = exe ξ n9 (d + 2) j_U_tellLengths 15 [(0, .ref 17), (1, J n), (2, J (k + (3 + z4))), (3, J (i + 1)), (4, J (W1.1)), (5, J 0), (6, J (3 + z4))] [] s5)) ?_
                              refine T.drop (lv := [(0, .ref 17), (1, J n), (2, J (k + (3 + z4))), (3, J (i + 1))]) [(4, J (W1.1)), (5, J 0), (6, J (3 + z4))] (by simp) ?_
                              have tk6 := tB_17 (s := W1.1) (by omega)
                              have tw6 : BV g W1.2 (tBi W1.1).toNat = BV g W1.2 3 := by rw [tk6.1]; rfl
                              have nf5 := af_of (i := 8) k7 rfl (by omega)
                              have nf6 := af_of (i := 9) k7 rfl (by omega)
                              have nf7 := af_of (i := 10) k7 rfl (by omega)
                              have nf8 := af_of (i := 11) k7 rfl (by omega)
                              have tx2 : k + (3 + z4) = k + (tLe W1.1 + BV g W1.2 (tBi W1.1).toNat) := by omega
                              have ty2 : (0 : Int) = tVa (gw (il τ 18) k) k W1.1 := (tV_17 (by omega)).symm
                              have fl2 := pz5_1
                              rw [tx2, iq5] at fl2
                              exact ih  (k + (3 + z4)) (i + 1) s5 gs5 hU5 (by omega) (by omega) (by omega) (by omega) (by rw [tx2, gw_fill (by omega) (by omega) fl2, ← i4, show (n - i).toNat = (n - (i + 1)).toNat + 1 by omega, TL_on hW1 (by omega) (by omega) (by omega) (by omega) (by omega), show afld s5 17 9 = W1.2 + tBi W1.1 by omega, ← ty2]) (by omega) (by omega) (by omega) (by omega)
                            · refine T.go 1 (fun n9 => (rfl : _ = exe ξ n9 (d + 2) j_U_tellLengths 158 [(0, .ref 17), (1, J n), (2, J k), (3, J i), (4, J (W1.1)), (5, J 0), (6, J (3 + z4))] [J 0] s4)) ?_
                              have tk7 := tB_17 (s := W1.1) (by omega)
                              have tw7 : BV g W1.2 (tBi W1.1).toNat = BV g W1.2 3 := by rw [tk7.1]; rfl
                              exact T.iretz rfl rfl (by omega) ⟨_, rfl, gs4, by omega, by omega, pz4_0, (fun h => absurd h (by decide)), (fun _ => by rw [← i4, show (n - i).toNat = (n - (i + 1)).toNat + 1 by omega]; exact TL_no hW1 (by omega) (by omega)), ⟨by omega, by omega⟩, by omega⟩
                        · have fkz4 := taz4
                          refine T.iadd rfl ?_
                          refine T.go 3 (fun n9 => (rfl : _ = exe ξ n9 (d + 2) j_U_tellLengths 143 [(0, .ref 17), (1, J n), (2, J k), (3, J i), (4, J (W1.1)), (5, J 0), (6, J (3 + z4))] [.ref 17] s4)) ?_
                          obtain ⟨wx8, bix8, bex8, rox8, mx8, nx8, bx8, lx8, hux8, hrx8, hbx8, ⟨fx8a, fx8b, fx8c, fx8d, fx8e, fx8f, fx8g, fx8h, fx8i, fx8j⟩, ⟨fx8k, fx8l, fx8m, fx8n⟩, fx8o, fx8p⟩ := UL.unf hs4.1 pz4_0 hs
                          have af8x8 := af_of (i := 8) hux8 rfl (by omega)
                          subst af8x8
                          have af9x8 := af_of (i := 9) hux8 rfl (by omega)
                          subst af9x8
                          have af10x8 := af_of (i := 10) hux8 rfl (by omega)
                          subst af10x8
                          have af11x8 := af_of (i := 11) hux8 rfl (by omega)
                          subst af11x8
                          have ctx8 := CT_of hrx8 hbx8
                          have rwx8 := rl_of hrx8 (by omega)
                          subst rwx8
                          refine T.get rfl rfl rfl hux8 rfl ?_
                          refine T.if_ne rfl rfl (by omega) (fun c17 => ?_) (fun c17 => ?_)
                          · refine T.go 1 (fun n9 => (rfl : _ = exe ξ n9 (d + 2) j_U_tellLengths 158 [(0, .ref 17), (1, J n), (2, J k), (3, J i), (4, J (W1.1)), (5, J 0), (6, J (3 + z4))] [J 0] s4)) ?_
                            have tk8 := tB_17 (s := W1.1) (by omega)
                            have tw8 : BV g W1.2 (tBi W1.1).toNat = BV g W1.2 3 := by rw [tk8.1]; rfl
                            exact T.iretz rfl rfl (by omega) ⟨_, rfl, gs4, by omega, by omega, pz4_0, (fun h => absurd h (by decide)), (fun _ => by rw [← i4, show (n - i).toNat = (n - (i + 1)).toNat + 1 by omega]; exact TL_no hW1 (by omega) (by omega)), ⟨by omega, by omega⟩, by omega⟩
                          · exfalso
                            omega
                    · exfalso
                      omega
                  · exfalso
                    omega
                · refine T.go 1 (fun n9 => (rfl : _ = exe ξ n9 (d + 2) j_U_tellLengths 73 [(0, .ref 17), (1, J n), (2, J k), (3, J i), (4, J (W1.1))] [.ref 17] s1)) ?_
                  obtain ⟨wx9, bix9, bex9, rox9, mx9, nx9, bx9, lx9, hux9, hrx9, hbx9, ⟨fx9a, fx9b, fx9c, fx9d, fx9e, fx9f, fx9g, fx9h, fx9i, fx9j⟩, ⟨fx9k, fx9l, fx9m, fx9n⟩, fx9o, fx9p⟩ := UL.unf hs1.1 pz1_0 hs
                  have af8x9 := af_of (i := 8) hux9 rfl (by omega)
                  subst af8x9
                  have af9x9 := af_of (i := 9) hux9 rfl (by omega)
                  subst af9x9
                  have af10x9 := af_of (i := 10) hux9 rfl (by omega)
                  subst af10x9
                  have af11x9 := af_of (i := 11) hux9 rfl (by omega)
                  subst af11x9
                  have ctx9 := CT_of hrx9 hbx9
                  have rwx9 := rl_of hrx9 (by omega)
                  subst rwx9
                  refine T.get rfl rfl rfl hux9 rfl ?_
                  refine T.go 2 (fun n9 => (rfl : _ = exe ξ n9 (d + 2) j_U_tellLengths 78 [(0, .ref 17), (1, J n), (2, J k), (3, J i), (4, J (W1.1))] [J 1, J k, .ref 18] s1)) ?_
                  refine T.isub rfl ?_
                  obtain ⟨lx10, hix10, elx10⟩ := hs1.1.ints kdX_18
                  have ilx10 := il_of hix10
                  refine T.iald rfl rfl hix10 (by omega) (fun z6 hzz6 hyz6 hez6 => ?_)
                  have glz6 : gl (il s1 18) (k - 1) = z6 := by rw [ilx10]; exact gl_of hez6 ⟨hzz6, hyz6⟩
                  subst glz6
                  refine T.go 4 (fun n9 => (rfl : _ = exe ξ n9 (d + 2) j_U_tellLengths 90 [(0, .ref 17), (1, J n), (2, J k), (3, J i), (4, J (W1.1)), (5, J (gl (il s1 18) (k - 1)))] [J 16, J (W1.1)] s1)) ?_
                  refine T.icmp_ge rfl rfl (by omega) (by omega) (fun c18 => ?_) (fun c18 => ?_)
                  · refine T.go 2 (fun n9 => (rfl : _ = exe ξ n9 (d + 2) j_U_tellLengths 101 [(0, .ref 17), (1, J n), (2, J k), (3, J i), (4, J (W1.1)), (5, J (gl (il s1 18) (k - 1)))] [J 16, J (W1.1)] s1)) ?_
                    refine T.icmp_ne rfl rfl (by omega) (by omega) (fun c19 => ?_) (fun c19 => ?_)
                    · exfalso
                      omega
                    · refine T.go 3 (fun n9 => (rfl : _ = exe ξ n9 (d + 2) j_U_tellLengths 107 [(0, .ref 17), (1, J n), (2, J k), (3, J i), (4, J (W1.1)), (5, J (gl (il s1 18) (k - 1)))] [J 2, .ref 17, J 3] s1)) ?_
                      have na4 := (gs1.b.2 hNA).1
                      have hg4 := hg.fr hNA gs1 hs (nm_c (dq_1 _ hs) (nm_c (dq_3 _ hs) nm_0))
                      refine T.callv (as := [J 2]) (r := [J 3]) rfl rfl rfl rfl hux9 rfl (s_U_ftakeBits (d + 1) s t g 2 s1 hs1.1  hs ht hst pz1_0 na4 hg4 (by omega) (by omega) (by omega)) (fun v6 s6 hqs6 => ?_)
                      obtain ⟨z7, rfl, hs6, hzz7, hyz7, pz7_0, pz7_1, pz7_2⟩ := hqs6
                      have es6 := hs6
                      have hs6 := hs6.sub (w' := [17, 18]) (List.forall_mem_cons.mpr ⟨(by simp), (fun _ h => by cases h)⟩)
                      have k8 := es6.b.1 _ _ (nm_c (dq_1 _ hs) nm_0) (fun l z => by cases z) hrx9
                      have k9 := es6.b.1 _ _ (nm_c (by decide) nm_0) (fun l z => by cases z) hix10
                      have gs6 := gs1.trans hs6
                      have nt6 := nb_fr na4 es6 ht (nm_c (dq_1 _ ht) nm_0)
                      have rt4 := rl_eq (es6.2.2.1 t (List.mem_cons_of_mem _ ht) (nm_c (dq_1 _ ht) nm_0))
                      have nt7 := nt6.trans nt1
                      rw [show (2 : Int).toNat = 2 from rfl] at pz7_1
                      have iq6 := il_fr hs1.1 kdX_18 es6 (by decide)
                      have iq7 := iq6.trans iq1
                      rcases pz7_1 with ⟨taz7, tbz7, tcz7, tdz7⟩ | ⟨taz7, tbz7, tcz7, tdz7⟩
                      · rw [show afld s1 17 9 = W1.2 by omega] at tbz7
                        refine T.iadd rfl ?_
                        refine T.go 3 (fun n9 => (rfl : _ = exe ξ n9 (d + 2) j_U_tellLengths 143 [(0, .ref 17), (1, J n), (2, J k), (3, J i), (4, J (W1.1)), (5, J (gl (il s1 18) (k - 1))), (6, J (3 + z7))] [.ref 17] s6)) ?_
                        obtain ⟨wx11, bix11, bex11, rox11, mx11, nx11, bx11, lx11, hux11, hrx11, hbx11, ⟨fx11a, fx11b, fx11c, fx11d, fx11e, fx11f, fx11g, fx11h, fx11i, fx11j⟩, ⟨fx11k, fx11l, fx11m, fx11n⟩, fx11o, fx11p⟩ := UL.unf hs6.1 pz7_0 hs
                        have af8x11 := af_of (i := 8) hux11 rfl (by omega)
                        subst af8x11
                        have af9x11 := af_of (i := 9) hux11 rfl (by omega)
                        subst af9x11
                        have af10x11 := af_of (i := 10) hux11 rfl (by omega)
                        subst af10x11
                        have af11x11 := af_of (i := 11) hux11 rfl (by omega)
                        subst af11x11
                        have ctx11 := CT_of hrx11 hbx11
                        have rwx11 := rl_of hrx11 (by omega)
                        subst rwx11
                        refine T.get rfl rfl rfl hux11 rfl ?_
                        refine T.if_ne rfl rfl (by omega) (fun c20 => ?_) (fun c20 => ?_)
                        · refine T.go 1 (fun n9 => (rfl : _ = exe ξ n9 (d + 2) j_U_tellLengths 158 [(0, .ref 17), (1, J n), (2, J k), (3, J i), (4, J (W1.1)), (5, J (gl (il s1 18) (k - 1))), (6, J (3 + z7))] [J 0] s6)) ?_
                          have tk9 := tB_16 (s := W1.1) (by omega)
                          have tw9 : BV g W1.2 (tBi W1.1).toNat = BV g W1.2 2 := by rw [tk9.1]; rfl
                          exact T.iretz rfl rfl (by omega) ⟨_, rfl, gs6, by omega, by omega, pz7_0, (fun h => absurd h (by decide)), (fun _ => by rw [← i4, show (n - i).toNat = (n - (i + 1)).toNat + 1 by omega]; exact TL_no hW1 (by omega) (by omega)), ⟨by omega, by omega⟩, by omega⟩
                        · refine T.go 3 (fun n9 => (rfl : _ = exe ξ n9 (d + 2) j_U_tellLengths 153 [(0, .ref 17), (1, J n), (2, J k), (3, J i), (4, J (W1.1)), (5, J (gl (il s1 18) (k - 1))), (6, J (3 + z7))] [J k, J n, J (3 + z7)] s6)) ?_
                          refine T.isub rfl ?_
                          refine T.icmp_le rfl rfl (by omega) (by omega) (fun c21 => ?_) (fun c21 => ?_)
                          · refine T.go 1 (fun n9 => (rfl : _ = exe ξ n9 (d + 2) j_U_tellLengths 160 [(0, .ref 17), (1, J n), (2, J k), (3, J i), (4, J (W1.1)), (5, J (gl (il s1 18) (k - 1))), (6, J (3 + z7))] [.ref 17] s6)) ?_
                            refine T.get rfl rfl rfl hux11 rfl ?_
                            refine T.go 3 (fun n9 => (rfl : _ = exe ξ n9 (d + 2) j_U_tellLengths 167 [(0, .ref 17), (1, J n), (2, J k), (3, J i), (4, J (W1.1)), (5, J (gl (il s1 18) (k - 1))), (6, J (3 + z7))] [J (3 + z7), J k, J k, .ref 18] s6)) ?_
                            refine T.iadd rfl ?_
                            refine T.go 1 (fun n9 => (rfl : _ = exe ξ n9 (d + 2) j_U_tellLengths 170 [(0, .ref 17), (1, J n), (2, J k), (3, J i), (4, J (W1.1)), (5, J (gl (il s1 18) (k - 1))), (6, J (3 + z7))] [J (gl (il s1 18) (k - 1)), J (k + (3 + z7)), J k, .ref 18] s6)) ?_
                            have ga380 := gl_any (il s6 18) (k - 1)
                            refine T.calls (as := [.ref 18, J k, J (k + (3 + z7)), J (gl (il s1 18) (k - 1))]) (r := []) rfl rfl (by decide) rfl rfl (s_J_ffill d 18 k (k + (3 + z7)) (gl (il s1 18) (k - 1)) s6 hs6.1 kdX_18 (by decide) rfl (by decide) (Or.inl (by decide)) (by omega) (by omega)) (fun v7 s7 hqs7 => ?_)
                            obtain ⟨rfl, hs7, pz8_0, pz8_1⟩ := hqs7
                            have es7 := hs7
                            have hs7 := hs7.sub (w' := [17, 18]) (List.forall_mem_cons.mpr ⟨(by simp), (fun _ h => by cases h)⟩)
                            have k10 := es7.b.1 _ _ (nm_c (dq_3 _ hs) nm_0) (fun l z => by cases z) hrx11
                            have k11 := es7.b.1 _ _ (nm_c (by decide) nm_0) (fun l z => by cases z) hux11
                            have gs7 := gs6.trans hs7
                            have hU7 := UL.ints pz7_0 pz8_0
                            refine T.go 2 (fun n9 => (rfl : _ = exe ξ n9 (d + 2) j_U_tellLengths 176 [(0, .ref 17), (1, J n), (2, J k), (3, J i), (4, J (W1.1)), (5, J (gl (il s1 18) (k - 1))), (6, J (3 + z7))] [J (3 + z7), J k] s7)) ?_
                            refine T.iadd rfl ?_
                            refine T.go 1 (fun n9 => (rfl : _ = exe ξ n9 (d + 2) j_U_tellLengths 178 [(0, .ref 17), (1, J n), (2, J (k + (3 + z7))), (3, J i), (4, J (W1.1)), (5, J (gl (il s1 18) (k - 1))), (6, J (3 + z7))] [] s7)) ?_
                            refine T.iinc (lv' := [(0, .ref 17), (1, J n), (2, J (k + (3 + z7))), (3, J (i + 1)), (4, J (W1.1)), (5, J (gl (il s1 18) (k - 1))), (6, J (3 + z7))]) rfl rfl rfl rfl ?_
                            refine T.go 1 (fun n9 => (rfl : _ = exe ξ n9 (d + 2) j_U_tellLengths 15 [(0, .ref 17), (1, J n), (2, J (k + (3 + z7))), (3, J (i + 1)), (4, J (W1.1)), (5, J (gl (il s1 18) (k - 1))), (6, J (3 + z7))] [] s7)) ?_
                            refine T.drop (lv := [(0, .ref 17), (1, J n), (2, J (k + (3 + z7))), (3, J (i + 1))]) [(4, J (W1.1)), (5, J (gl (il s1 18) (k - 1))), (6, J (3 + z7))] (by simp) ?_
                            have tk10 := tB_16 (s := W1.1) (by omega)
                            have tw10 : BV g W1.2 (tBi W1.1).toNat = BV g W1.2 2 := by rw [tk10.1]; rfl
                            have nf9 := af_of (i := 8) k11 rfl (by omega)
                            have nf10 := af_of (i := 9) k11 rfl (by omega)
                            have nf11 := af_of (i := 10) k11 rfl (by omega)
                            have nf12 := af_of (i := 11) k11 rfl (by omega)
                            have tx3 : k + (3 + z7) = k + (tLe W1.1 + BV g W1.2 (tBi W1.1).toNat) := by omega
                            have ty3 : (gl (il s1 18) (k - 1) : Int) = tVa (gw (il τ 18) k) k W1.1 := by rw [tV_16 (by omega)]; unfold gw; rw [if_pos (by omega), iq1]
                            have fl3 := pz8_1
                            rw [tx3, iq7] at fl3
                            exact ih  (k + (3 + z7)) (i + 1) s7 gs7 hU7 (by omega) (by omega) (by omega) (by omega) (by rw [tx3, gw_fill (by omega) (by omega) fl3, ← i4, show (n - i).toNat = (n - (i + 1)).toNat + 1 by omega, TL_on hW1 (by omega) (by omega) (by omega) (by omega) (by omega), show afld s7 17 9 = W1.2 + tBi W1.1 by omega, ← ty3]) (by omega) (by omega) (by omega) (by omega)
                          · refine T.go 1 (fun n9 => (rfl : _ = exe ξ n9 (d + 2) j_U_tellLengths 158 [(0, .ref 17), (1, J n), (2, J k), (3, J i), (4, J (W1.1)), (5, J (gl (il s1 18) (k - 1))), (6, J (3 + z7))] [J 0] s6)) ?_
                            have tk11 := tB_16 (s := W1.1) (by omega)
                            have tw11 : BV g W1.2 (tBi W1.1).toNat = BV g W1.2 2 := by rw [tk11.1]; rfl
                            exact T.iretz rfl rfl (by omega) ⟨_, rfl, gs6, by omega, by omega, pz7_0, (fun h => absurd h (by decide)), (fun _ => by rw [← i4, show (n - i).toNat = (n - (i + 1)).toNat + 1 by omega]; exact TL_no hW1 (by omega) (by omega)), ⟨by omega, by omega⟩, by omega⟩
                      · have fkz7 := taz7
                        refine T.iadd rfl ?_
                        refine T.go 3 (fun n9 => (rfl : _ = exe ξ n9 (d + 2) j_U_tellLengths 143 [(0, .ref 17), (1, J n), (2, J k), (3, J i), (4, J (W1.1)), (5, J (gl (il s1 18) (k - 1))), (6, J (3 + z7))] [.ref 17] s6)) ?_
                        obtain ⟨wx12, bix12, bex12, rox12, mx12, nx12, bx12, lx12, hux12, hrx12, hbx12, ⟨fx12a, fx12b, fx12c, fx12d, fx12e, fx12f, fx12g, fx12h, fx12i, fx12j⟩, ⟨fx12k, fx12l, fx12m, fx12n⟩, fx12o, fx12p⟩ := UL.unf hs6.1 pz7_0 hs
                        have af8x12 := af_of (i := 8) hux12 rfl (by omega)
                        subst af8x12
                        have af9x12 := af_of (i := 9) hux12 rfl (by omega)
                        subst af9x12
                        have af10x12 := af_of (i := 10) hux12 rfl (by omega)
                        subst af10x12
                        have af11x12 := af_of (i := 11) hux12 rfl (by omega)
                        subst af11x12
                        have ctx12 := CT_of hrx12 hbx12
                        have rwx12 := rl_of hrx12 (by omega)
                        subst rwx12
                        refine T.get rfl rfl rfl hux12 rfl ?_
                        refine T.if_ne rfl rfl (by omega) (fun c22 => ?_) (fun c22 => ?_)
                        · refine T.go 1 (fun n9 => (rfl : _ = exe ξ n9 (d + 2) j_U_tellLengths 158 [(0, .ref 17), (1, J n), (2, J k), (3, J i), (4, J (W1.1)), (5, J (gl (il s1 18) (k - 1))), (6, J (3 + z7))] [J 0] s6)) ?_
                          have tk12 := tB_16 (s := W1.1) (by omega)
                          have tw12 : BV g W1.2 (tBi W1.1).toNat = BV g W1.2 2 := by rw [tk12.1]; rfl
                          exact T.iretz rfl rfl (by omega) ⟨_, rfl, gs6, by omega, by omega, pz7_0, (fun h => absurd h (by decide)), (fun _ => by rw [← i4, show (n - i).toNat = (n - (i + 1)).toNat + 1 by omega]; exact TL_no hW1 (by omega) (by omega)), ⟨by omega, by omega⟩, by omega⟩
                        · exfalso
                          omega
                  · exfalso
                    omega
              · refine T.go 5 (fun n9 => (rfl : _ = exe ξ n9 (d + 2) j_U_tellLengths 90 [(0, .ref 17), (1, J n), (2, J k), (3, J i), (4, J (W1.1)), (5, J (W1.1))] [J 16, J (W1.1)] s1)) ?_
                refine T.icmp_ge rfl rfl (by omega) (by omega) (fun c23 => ?_) (fun c23 => ?_)
                · exfalso
                  omega
                · refine T.go 4 (fun n9 => (rfl : _ = exe ξ n9 (d + 2) j_U_tellLengths 143 [(0, .ref 17), (1, J n), (2, J k), (3, J i), (4, J (W1.1)), (5, J (W1.1)), (6, J 1)] [.ref 17] s1)) ?_
                  obtain ⟨wx13, bix13, bex13, rox13, mx13, nx13, bx13, lx13, hux13, hrx13, hbx13, ⟨fx13a, fx13b, fx13c, fx13d, fx13e, fx13f, fx13g, fx13h, fx13i, fx13j⟩, ⟨fx13k, fx13l, fx13m, fx13n⟩, fx13o, fx13p⟩ := UL.unf hs1.1 pz1_0 hs
                  have af8x13 := af_of (i := 8) hux13 rfl (by omega)
                  subst af8x13
                  have af9x13 := af_of (i := 9) hux13 rfl (by omega)
                  subst af9x13
                  have af10x13 := af_of (i := 10) hux13 rfl (by omega)
                  subst af10x13
                  have af11x13 := af_of (i := 11) hux13 rfl (by omega)
                  subst af11x13
                  have ctx13 := CT_of hrx13 hbx13
                  have rwx13 := rl_of hrx13 (by omega)
                  subst rwx13
                  refine T.get rfl rfl rfl hux13 rfl ?_
                  refine T.if_ne rfl rfl (by omega) (fun c24 => ?_) (fun c24 => ?_)
                  · refine T.go 1 (fun n9 => (rfl : _ = exe ξ n9 (d + 2) j_U_tellLengths 158 [(0, .ref 17), (1, J n), (2, J k), (3, J i), (4, J (W1.1)), (5, J (W1.1)), (6, J 1)] [J 0] s1)) ?_
                    have tk13 := tB_lo (s := W1.1) (by omega)
                    have tw13 : BV g W1.2 (tBi W1.1).toNat = BV g W1.2 0 := by rw [tk13.1]; rfl
                    have tw13z := BV_0 g W1.2
                    exact T.iretz rfl rfl (by omega) ⟨_, rfl, gs1, by omega, by omega, pz1_0, (fun h => absurd h (by decide)), (fun _ => by rw [← i4, show (n - i).toNat = (n - (i + 1)).toNat + 1 by omega]; exact TL_no hW1 (by omega) (by omega)), ⟨by omega, by omega⟩, by omega⟩
                  · refine T.go 3 (fun n9 => (rfl : _ = exe ξ n9 (d + 2) j_U_tellLengths 153 [(0, .ref 17), (1, J n), (2, J k), (3, J i), (4, J (W1.1)), (5, J (W1.1)), (6, J 1)] [J k, J n, J 1] s1)) ?_
                    refine T.isub rfl ?_
                    refine T.icmp_le rfl rfl (by omega) (by omega) (fun c25 => ?_) (fun c25 => ?_)
                    · refine T.go 1 (fun n9 => (rfl : _ = exe ξ n9 (d + 2) j_U_tellLengths 160 [(0, .ref 17), (1, J n), (2, J k), (3, J i), (4, J (W1.1)), (5, J (W1.1)), (6, J 1)] [.ref 17] s1)) ?_
                      refine T.get rfl rfl rfl hux13 rfl ?_
                      refine T.go 3 (fun n9 => (rfl : _ = exe ξ n9 (d + 2) j_U_tellLengths 167 [(0, .ref 17), (1, J n), (2, J k), (3, J i), (4, J (W1.1)), (5, J (W1.1)), (6, J 1)] [J 1, J k, J k, .ref 18] s1)) ?_
                      refine T.iadd rfl ?_
                      refine T.go 1 (fun n9 => (rfl : _ = exe ξ n9 (d + 2) j_U_tellLengths 170 [(0, .ref 17), (1, J n), (2, J k), (3, J i), (4, J (W1.1)), (5, J (W1.1)), (6, J 1)] [J (W1.1), J (k + 1), J k, .ref 18] s1)) ?_
                      have ga467 := gl_any (il s1 18) (k - 1)
                      refine T.calls (as := [.ref 18, J k, J (k + 1), J (W1.1)]) (r := []) rfl rfl (by decide) rfl rfl (s_J_ffill d 18 k (k + 1) (W1.1) s1 hs1.1 kdX_18 (by decide) rfl (by decide) (Or.inl (by decide)) (by omega) (by omega)) (fun v8 s8 hqs8 => ?_)
                      obtain ⟨rfl, hs8, pz9_0, pz9_1⟩ := hqs8
                      have es8 := hs8
                      have hs8 := hs8.sub (w' := [17, 18]) (List.forall_mem_cons.mpr ⟨(by simp), (fun _ h => by cases h)⟩)
                      have k12 := es8.b.1 _ _ (nm_c (dq_3 _ hs) nm_0) (fun l z => by cases z) hrx13
                      have k13 := es8.b.1 _ _ (nm_c (by decide) nm_0) (fun l z => by cases z) hux13
                      have gs8 := gs1.trans hs8
                      have hU8 := UL.ints pz1_0 pz9_0
                      refine T.go 2 (fun n9 => (rfl : _ = exe ξ n9 (d + 2) j_U_tellLengths 176 [(0, .ref 17), (1, J n), (2, J k), (3, J i), (4, J (W1.1)), (5, J (W1.1)), (6, J 1)] [J 1, J k] s8)) ?_
                      refine T.iadd rfl ?_
                      refine T.go 1 (fun n9 => (rfl : _ = exe ξ n9 (d + 2) j_U_tellLengths 178 [(0, .ref 17), (1, J n), (2, J (k + 1)), (3, J i), (4, J (W1.1)), (5, J (W1.1)), (6, J 1)] [] s8)) ?_
                      refine T.iinc (lv' := [(0, .ref 17), (1, J n), (2, J (k + 1)), (3, J (i + 1)), (4, J (W1.1)), (5, J (W1.1)), (6, J 1)]) rfl rfl rfl rfl ?_
                      refine T.go 1 (fun n9 => (rfl : _ = exe ξ n9 (d + 2) j_U_tellLengths 15 [(0, .ref 17), (1, J n), (2, J (k + 1)), (3, J (i + 1)), (4, J (W1.1)), (5, J (W1.1)), (6, J 1)] [] s8)) ?_
                      refine T.drop (lv := [(0, .ref 17), (1, J n), (2, J (k + 1)), (3, J (i + 1))]) [(4, J (W1.1)), (5, J (W1.1)), (6, J 1)] (by simp) ?_
                      have tk14 := tB_lo (s := W1.1) (by omega)
                      have tw14 : BV g W1.2 (tBi W1.1).toNat = BV g W1.2 0 := by rw [tk14.1]; rfl
                      have tw14z := BV_0 g W1.2
                      have nf13 := af_of (i := 8) k13 rfl (by omega)
                      have nf14 := af_of (i := 9) k13 rfl (by omega)
                      have nf15 := af_of (i := 10) k13 rfl (by omega)
                      have nf16 := af_of (i := 11) k13 rfl (by omega)
                      have tx4 : k + 1 = k + (tLe W1.1 + BV g W1.2 (tBi W1.1).toNat) := by omega
                      have ty4 : (W1.1 : Int) = tVa (gw (il τ 18) k) k W1.1 := (tV_lo (by omega)).symm
                      have fl4 := pz9_1
                      rw [tx4, iq1] at fl4
                      exact ih  (k + 1) (i + 1) s8 gs8 hU8 (by omega) (by omega) (by omega) (by omega) (by rw [tx4, gw_fill (by omega) (by omega) fl4, ← i4, show (n - i).toNat = (n - (i + 1)).toNat + 1 by omega, TL_on hW1 (by omega) (by omega) (by omega) (by omega) (by omega), show afld s8 17 9 = W1.2 + tBi W1.1 by omega, ← ty4]) (by omega) (by omega) (by omega) (by omega)
                    · refine T.go 1 (fun n9 => (rfl : _ = exe ξ n9 (d + 2) j_U_tellLengths 158 [(0, .ref 17), (1, J n), (2, J k), (3, J i), (4, J (W1.1)), (5, J (W1.1)), (6, J 1)] [J 0] s1)) ?_
                      have tk15 := tB_lo (s := W1.1) (by omega)
                      have tw15 : BV g W1.2 (tBi W1.1).toNat = BV g W1.2 0 := by rw [tk15.1]; rfl
                      have tw15z := BV_0 g W1.2
                      exact T.iretz rfl rfl (by omega) ⟨_, rfl, gs1, by omega, by omega, pz1_0, (fun h => absurd h (by decide)), (fun _ => by rw [← i4, show (n - i).toNat = (n - (i + 1)).toNat + 1 by omega]; exact TL_no hW1 (by omega) (by omega)), ⟨by omega, by omega⟩, by omega⟩
            · refine T.go 1 (fun n9 => (rfl : _ = exe ξ n9 (d + 2) j_U_tellLengths 48 [(0, .ref 17), (1, J n), (2, J k), (3, J i), (4, J (W1.1))] [J k] s1)) ?_
              refine T.if_ne rfl rfl (by omega) (fun c26 => ?_) (fun c26 => ?_)
              · refine T.go 2 (fun n9 => (rfl : _ = exe ξ n9 (d + 2) j_U_tellLengths 57 [(0, .ref 17), (1, J n), (2, J k), (3, J i), (4, J (W1.1))] [J 16, J (W1.1)] s1)) ?_
                refine T.icmp_ge rfl rfl (by omega) (by omega) (fun c27 => ?_) (fun c27 => ?_)
                · refine T.go 2 (fun n9 => (rfl : _ = exe ξ n9 (d + 2) j_U_tellLengths 69 [(0, .ref 17), (1, J n), (2, J k), (3, J i), (4, J (W1.1))] [J 16, J (W1.1)] s1)) ?_
                  refine T.icmp_ne rfl rfl (by omega) (by omega) (fun c28 => ?_) (fun c28 => ?_)
                  · refine T.go 4 (fun n9 => (rfl : _ = exe ξ n9 (d + 2) j_U_tellLengths 90 [(0, .ref 17), (1, J n), (2, J k), (3, J i), (4, J (W1.1)), (5, J 0)] [J 16, J (W1.1)] s1)) ?_
                    refine T.icmp_ge rfl rfl (by omega) (by omega) (fun c29 => ?_) (fun c29 => ?_)
                    · refine T.go 2 (fun n9 => (rfl : _ = exe ξ n9 (d + 2) j_U_tellLengths 101 [(0, .ref 17), (1, J n), (2, J k), (3, J i), (4, J (W1.1)), (5, J 0)] [J 16, J (W1.1)] s1)) ?_
                      refine T.icmp_ne rfl rfl (by omega) (by omega) (fun c30 => ?_) (fun c30 => ?_)
                      · refine T.go 2 (fun n9 => (rfl : _ = exe ξ n9 (d + 2) j_U_tellLengths 118 [(0, .ref 17), (1, J n), (2, J k), (3, J i), (4, J (W1.1)), (5, J 0)] [J 17, J (W1.1)] s1)) ?_
                        refine T.icmp_ne rfl rfl (by omega) (by omega) (fun c31 => ?_) (fun c31 => ?_)
                        · refine T.go 3 (fun n9 => (rfl : _ = exe ξ n9 (d + 2) j_U_tellLengths 136 [(0, .ref 17), (1, J n), (2, J k), (3, J i), (4, J (W1.1)), (5, J 0)] [J 7, .ref 17, J 11] s1)) ?_
                          have na5 := (gs1.b.2 hNA).1
                          have hg5 := hg.fr hNA gs1 hs (nm_c (dq_1 _ hs) (nm_c (dq_3 _ hs) nm_0))
                          obtain ⟨wx14, bix14, bex14, rox14, mx14, nx14, bx14, lx14, hux14, hrx14, hbx14, ⟨fx14a, fx14b, fx14c, fx14d, fx14e, fx14f, fx14g, fx14h, fx14i, fx14j⟩, ⟨fx14k, fx14l, fx14m, fx14n⟩, fx14o, fx14p⟩ := UL.unf hs1.1 pz1_0 hs
                          have af8x14 := af_of (i := 8) hux14 rfl (by omega)
                          subst af8x14
                          have af9x14 := af_of (i := 9) hux14 rfl (by omega)
                          subst af9x14
                          have af10x14 := af_of (i := 10) hux14 rfl (by omega)
                          subst af10x14
                          have af11x14 := af_of (i := 11) hux14 rfl (by omega)
                          subst af11x14
                          have ctx14 := CT_of hrx14 hbx14
                          have rwx14 := rl_of hrx14 (by omega)
                          subst rwx14
                          refine T.callv (as := [J 7]) (r := [J 11]) rfl rfl rfl rfl hux14 rfl (s_U_ftakeBits (d + 1) s t g 7 s1 hs1.1  hs ht hst pz1_0 na5 hg5 (by omega) (by omega) (by omega)) (fun v9 s9 hqs9 => ?_)
                          obtain ⟨z10, rfl, hs9, hzz10, hyz10, pz10_0, pz10_1, pz10_2⟩ := hqs9
                          have es9 := hs9
                          have hs9 := hs9.sub (w' := [17, 18]) (List.forall_mem_cons.mpr ⟨(by simp), (fun _ h => by cases h)⟩)
                          have k14 := es9.b.1 _ _ (nm_c (dq_1 _ hs) nm_0) (fun l z => by cases z) hrx14
                          have gs9 := gs1.trans hs9
                          have nt8 := nb_fr na5 es9 ht (nm_c (dq_1 _ ht) nm_0)
                          have rt5 := rl_eq (es9.2.2.1 t (List.mem_cons_of_mem _ ht) (nm_c (dq_1 _ ht) nm_0))
                          have nt9 := nt8.trans nt1
                          rw [show (7 : Int).toNat = 7 from rfl] at pz10_1
                          have iq8 := il_fr hs1.1 kdX_18 es9 (by decide)
                          have iq9 := iq8.trans iq1
                          rcases pz10_1 with ⟨taz10, tbz10, tcz10, tdz10⟩ | ⟨taz10, tbz10, tcz10, tdz10⟩
                          · rw [show afld s1 17 9 = W1.2 by omega] at tbz10
                            refine T.iadd rfl ?_
                            refine T.go 2 (fun n9 => (rfl : _ = exe ξ n9 (d + 2) j_U_tellLengths 143 [(0, .ref 17), (1, J n), (2, J k), (3, J i), (4, J (W1.1)), (5, J 0), (6, J (11 + z10))] [.ref 17] s9)) ?_
                            obtain ⟨wx15, bix15, bex15, rox15, mx15, nx15, bx15, lx15, hux15, hrx15, hbx15, ⟨fx15a, fx15b, fx15c, fx15d, fx15e, fx15f, fx15g, fx15h, fx15i, fx15j⟩, ⟨fx15k, fx15l, fx15m, fx15n⟩, fx15o, fx15p⟩ := UL.unf hs9.1 pz10_0 hs
                            have af8x15 := af_of (i := 8) hux15 rfl (by omega)
                            subst af8x15
                            have af9x15 := af_of (i := 9) hux15 rfl (by omega)
                            subst af9x15
                            have af10x15 := af_of (i := 10) hux15 rfl (by omega)
                            subst af10x15
                            have af11x15 := af_of (i := 11) hux15 rfl (by omega)
                            subst af11x15
                            have ctx15 := CT_of hrx15 hbx15
                            have rwx15 := rl_of hrx15 (by omega)
                            subst rwx15
                            refine T.get rfl rfl rfl hux15 rfl ?_
                            refine T.if_ne rfl rfl (by omega) (fun c32 => ?_) (fun c32 => ?_)
                            · refine T.go 1 (fun n9 => (rfl : _ = exe ξ n9 (d + 2) j_U_tellLengths 158 [(0, .ref 17), (1, J n), (2, J k), (3, J i), (4, J (W1.1)), (5, J 0), (6, J (11 + z10))] [J 0] s9)) ?_
                              have tk16 := tB_18 (s := W1.1) (by omega)
                              have tw16 : BV g W1.2 (tBi W1.1).toNat = BV g W1.2 7 := by rw [tk16.1]; rfl
                              exact T.iretz rfl rfl (by omega) ⟨_, rfl, gs9, by omega, by omega, pz10_0, (fun h => absurd h (by decide)), (fun _ => by rw [← i4, show (n - i).toNat = (n - (i + 1)).toNat + 1 by omega]; exact TL_no hW1 (by omega) (by omega)), ⟨by omega, by omega⟩, by omega⟩
                            · refine T.go 3 (fun n9 => (rfl : _ = exe ξ n9 (d + 2) j_U_tellLengths 153 [(0, .ref 17), (1, J n), (2, J k), (3, J i), (4, J (W1.1)), (5, J 0), (6, J (11 + z10))] [J k, J n, J (11 + z10)] s9)) ?_
                              refine T.isub rfl ?_
                              refine T.icmp_le rfl rfl (by omega) (by omega) (fun c33 => ?_) (fun c33 => ?_)
                              · refine T.go 1 (fun n9 => (rfl : _ = exe ξ n9 (d + 2) j_U_tellLengths 160 [(0, .ref 17), (1, J n), (2, J k), (3, J i), (4, J (W1.1)), (5, J 0), (6, J (11 + z10))] [.ref 17] s9)) ?_
                                refine T.get rfl rfl rfl hux15 rfl ?_
                                refine T.go 3 (fun n9 => (rfl : _ = exe ξ n9 (d + 2) j_U_tellLengths 167 [(0, .ref 17), (1, J n), (2, J k), (3, J i), (4, J (W1.1)), (5, J 0), (6, J (11 + z10))] [J (11 + z10), J k, J k, .ref 18] s9)) ?_
                                refine T.iadd rfl ?_
                                refine T.go 1 (fun n9 => (rfl : _ = exe ξ n9 (d + 2) j_U_tellLengths 170 [(0, .ref 17), (1, J n), (2, J k), (3, J i), (4, J (W1.1)), (5, J 0), (6, J (11 + z10))] [J 0, J (k + (11 + z10)), J k, .ref 18] s9)) ?_
                                have ga568 := gl_any (il s9 18) (k - 1)
                                refine T.calls (as := [.ref 18, J k, J (k + (11 + z10)), J 0]) (r := []) rfl rfl (by decide) rfl rfl (s_J_ffill d 18 k (k + (11 + z10)) 0 s9 hs9.1 kdX_18 (by decide) rfl (by decide) (Or.inl (by decide)) (by omega) (by omega)) (fun v10 s10 hqs10 => ?_)
                                obtain ⟨rfl, hs10, pz11_0, pz11_1⟩ := hqs10
                                have es10 := hs10
                                have hs10 := hs10.sub (w' := [17, 18]) (List.forall_mem_cons.mpr ⟨(by simp), (fun _ h => by cases h)⟩)
                                have k15 := es10.b.1 _ _ (nm_c (dq_3 _ hs) nm_0) (fun l z => by cases z) hrx15
                                have k16 := es10.b.1 _ _ (nm_c (by decide) nm_0) (fun l z => by cases z) hux15
                                have gs10 := gs9.trans hs10
                                have hU10 := UL.ints pz10_0 pz11_0
                                refine T.go 2 (fun n9 => (rfl : _ = exe ξ n9 (d + 2) j_U_tellLengths 176 [(0, .ref 17), (1, J n), (2, J k), (3, J i), (4, J (W1.1)), (5, J 0), (6, J (11 + z10))] [J (11 + z10), J k] s10)) ?_
                                refine T.iadd rfl ?_
                                refine T.go 1 (fun n9 => (rfl : _ = exe ξ n9 (d + 2) j_U_tellLengths 178 [(0, .ref 17), (1, J n), (2, J (k + (11 + z10))), (3, J i), (4, J (W1.1)), (5, J 0), (6, J (11 + z10))] [] s10)) ?_
                                refine T.iinc (lv' := [(0, .ref 17), (1, J n), (2, J (k + (11 + z10))), (3, J (i + 1)), (4, J (W1.1)), (5, J 0), (6, J (11 + z10))]) rfl rfl rfl rfl ?_
                                refine T.go 1 (fun n9 => (rfl : _ = exe ξ n9 (d + 2) j_U_tellLengths 15 [(0, .ref 17), (1, J n), (2, J (k + (11 + z10))), (3, J (i + 1)), (4, J (W1.1)), (5, J 0), (6, J (11 + z10))] [] s10)) ?_
                                refine T.drop (lv := [(0, .ref 17), (1, J n), (2, J (k + (11 + z10))), (3, J (i + 1))]) [(4, J (W1.1)), (5, J 0), (6, J (11 + z10))] (by simp) ?_
                                have tk17 := tB_18 (s := W1.1) (by omega)
                                have tw17 : BV g W1.2 (tBi W1.1).toNat = BV g W1.2 7 := by rw [tk17.1]; rfl
                                have nf17 := af_of (i := 8) k16 rfl (by omega)
                                have nf18 := af_of (i := 9) k16 rfl (by omega)
                                have nf19 := af_of (i := 10) k16 rfl (by omega)
                                have nf20 := af_of (i := 11) k16 rfl (by omega)
                                have tx5 : k + (11 + z10) = k + (tLe W1.1 + BV g W1.2 (tBi W1.1).toNat) := by omega
                                have ty5 : (0 : Int) = tVa (gw (il τ 18) k) k W1.1 := (tV_17 (by omega)).symm
                                have fl5 := pz11_1
                                rw [tx5, iq9] at fl5
                                exact ih  (k + (11 + z10)) (i + 1) s10 gs10 hU10 (by omega) (by omega) (by omega) (by omega) (by rw [tx5, gw_fill (by omega) (by omega) fl5, ← i4, show (n - i).toNat = (n - (i + 1)).toNat + 1 by omega, TL_on hW1 (by omega) (by omega) (by omega) (by omega) (by omega), show afld s10 17 9 = W1.2 + tBi W1.1 by omega, ← ty5]) (by omega) (by omega) (by omega) (by omega)
                              · refine T.go 1 (fun n9 => (rfl : _ = exe ξ n9 (d + 2) j_U_tellLengths 158 [(0, .ref 17), (1, J n), (2, J k), (3, J i), (4, J (W1.1)), (5, J 0), (6, J (11 + z10))] [J 0] s9)) ?_
                                have tk18 := tB_18 (s := W1.1) (by omega)
                                have tw18 : BV g W1.2 (tBi W1.1).toNat = BV g W1.2 7 := by rw [tk18.1]; rfl
                                exact T.iretz rfl rfl (by omega) ⟨_, rfl, gs9, by omega, by omega, pz10_0, (fun h => absurd h (by decide)), (fun _ => by rw [← i4, show (n - i).toNat = (n - (i + 1)).toNat + 1 by omega]; exact TL_no hW1 (by omega) (by omega)), ⟨by omega, by omega⟩, by omega⟩
                          · have fkz10 := taz10
                            refine T.iadd rfl ?_
                            refine T.go 2 (fun n9 => (rfl : _ = exe ξ n9 (d + 2) j_U_tellLengths 143 [(0, .ref 17), (1, J n), (2, J k), (3, J i), (4, J (W1.1)), (5, J 0), (6, J (11 + z10))] [.ref 17] s9)) ?_
                            obtain ⟨wx16, bix16, bex16, rox16, mx16, nx16, bx16, lx16, hux16, hrx16, hbx16, ⟨fx16a, fx16b, fx16c, fx16d, fx16e, fx16f, fx16g, fx16h, fx16i, fx16j⟩, ⟨fx16k, fx16l, fx16m, fx16n⟩, fx16o, fx16p⟩ := UL.unf hs9.1 pz10_0 hs
                            have af8x16 := af_of (i := 8) hux16 rfl (by omega)
                            subst af8x16
                            have af9x16 := af_of (i := 9) hux16 rfl (by omega)
                            subst af9x16
                            have af10x16 := af_of (i := 10) hux16 rfl (by omega)
                            subst af10x16
                            have af11x16 := af_of (i := 11) hux16 rfl (by omega)
                            subst af11x16
                            have ctx16 := CT_of hrx16 hbx16
                            have rwx16 := rl_of hrx16 (by omega)
                            subst rwx16
                            refine T.get rfl rfl rfl hux16 rfl ?_
                            refine T.if_ne rfl rfl (by omega) (fun c34 => ?_) (fun c34 => ?_)
                            · refine T.go 1 (fun n9 => (rfl : _ = exe ξ n9 (d + 2) j_U_tellLengths 158 [(0, .ref 17), (1, J n), (2, J k), (3, J i), (4, J (W1.1)), (5, J 0), (6, J (11 + z10))] [J 0] s9)) ?_
                              have tk19 := tB_18 (s := W1.1) (by omega)
                              have tw19 : BV g W1.2 (tBi W1.1).toNat = BV g W1.2 7 := by rw [tk19.1]; rfl
                              exact T.iretz rfl rfl (by omega) ⟨_, rfl, gs9, by omega, by omega, pz10_0, (fun h => absurd h (by decide)), (fun _ => by rw [← i4, show (n - i).toNat = (n - (i + 1)).toNat + 1 by omega]; exact TL_no hW1 (by omega) (by omega)), ⟨by omega, by omega⟩, by omega⟩
                            · exfalso
                              omega
                        · refine T.go 3 (fun n9 => (rfl : _ = exe ξ n9 (d + 2) j_U_tellLengths 124 [(0, .ref 17), (1, J n), (2, J k), (3, J i), (4, J (W1.1)), (5, J 0)] [J 3, .ref 17, J 3] s1)) ?_
                          have na6 := (gs1.b.2 hNA).1
                          have hg6 := hg.fr hNA gs1 hs (nm_c (dq_1 _ hs) (nm_c (dq_3 _ hs) nm_0))
                          obtain ⟨wx17, bix17, bex17, rox17, mx17, nx17, bx17, lx17, hux17, hrx17, hbx17, ⟨fx17a, fx17b, fx17c, fx17d, fx17e, fx17f, fx17g, fx17h, fx17i, fx17j⟩, ⟨fx17k, fx17l, fx17m, fx17n⟩, fx17o, fx17p⟩ := UL.unf hs1.1 pz1_0 hs
                          have af8x17 := af_of (i := 8) hux17 rfl (by omega)
                          subst af8x17
                          have af9x17 := af_of (i := 9) hux17 rfl (by omega)
                          subst af9x17
                          have af10x17 := af_of (i := 10) hux17 rfl (by omega)
                          subst af10x17
                          have af11x17 := af_of (i := 11) hux17 rfl (by omega)
                          subst af11x17
                          have ctx17 := CT_of hrx17 hbx17
                          have rwx17 := rl_of hrx17 (by omega)
                          subst rwx17
                          refine T.callv (as := [J 3]) (r := [J 3]) rfl rfl rfl rfl hux17 rfl (s_U_ftakeBits (d + 1) s t g 3 s1 hs1.1  hs ht hst pz1_0 na6 hg6 (by omega) (by omega) (by omega)) (fun v11 s11 hqs11 => ?_)
                          obtain ⟨z12, rfl, hs11, hzz12, hyz12, pz12_0, pz12_1, pz12_2⟩ := hqs11
                          have es11 := hs11
                          have hs11 := hs11.sub (w' := [17, 18]) (List.forall_mem_cons.mpr ⟨(by simp), (fun _ h => by cases h)⟩)
                          have k17 := es11.b.1 _ _ (nm_c (dq_1 _ hs) nm_0) (fun l z => by cases z) hrx17
                          have gs11 := gs1.trans hs11
                          have nt10 := nb_fr na6 es11 ht (nm_c (dq_1 _ ht) nm_0)
                          have rt6 := rl_eq (es11.2.2.1 t (List.mem_cons_of_mem _ ht) (nm_c (dq_1 _ ht) nm_0))
                          have nt11 := nt10.trans nt1
                          rw [show (3 : Int).toNat = 3 from rfl] at pz12_1
                          have iq10 := il_fr hs1.1 kdX_18 es11 (by decide)
                          have iq11 := iq10.trans iq1
                          rcases pz12_1 with ⟨taz12, tbz12, tcz12, tdz12⟩ | ⟨taz12, tbz12, tcz12, tdz12⟩
                          · rw [show afld s1 17 9 = W1.2 by omega] at tbz12
                            refine T.iadd rfl ?_
                            refine T.go 3 (fun n9 => (rfl : _ = exe ξ n9 (d + 2) j_U_tellLengths 143 [(0, .ref 17), (1, J n), (2, J k), (3, J i), (4, J (W1.1)), (5, J 0), (6, J (3 + z12))] [.ref 17] s11)) ?_
                            obtain ⟨wx18, bix18, bex18, rox18, mx18, nx18, bx18, lx18, hux18, hrx18, hbx18, ⟨fx18a, fx18b, fx18c, fx18d, fx18e, fx18f, fx18g, fx18h, fx18i, fx18j⟩, ⟨fx18k, fx18l, fx18m, fx18n⟩, fx18o, fx18p⟩ := UL.unf hs11.1 pz12_0 hs
                            have af8x18 := af_of (i := 8) hux18 rfl (by omega)
                            subst af8x18
                            have af9x18 := af_of (i := 9) hux18 rfl (by omega)
                            subst af9x18
                            have af10x18 := af_of (i := 10) hux18 rfl (by omega)
                            subst af10x18
                            have af11x18 := af_of (i := 11) hux18 rfl (by omega)
                            subst af11x18
                            have ctx18 := CT_of hrx18 hbx18
                            have rwx18 := rl_of hrx18 (by omega)
                            subst rwx18
                            refine T.get rfl rfl rfl hux18 rfl ?_
                            refine T.if_ne rfl rfl (by omega) (fun c35 => ?_) (fun c35 => ?_)
                            · refine T.go 1 (fun n9 => (rfl : _ = exe ξ n9 (d + 2) j_U_tellLengths 158 [(0, .ref 17), (1, J n), (2, J k), (3, J i), (4, J (W1.1)), (5, J 0), (6, J (3 + z12))] [J 0] s11)) ?_
                              have tk20 := tB_17 (s := W1.1) (by omega)
                              have tw20 : BV g W1.2 (tBi W1.1).toNat = BV g W1.2 3 := by rw [tk20.1]; rfl
                              exact T.iretz rfl rfl (by omega) ⟨_, rfl, gs11, by omega, by omega, pz12_0, (fun h => absurd h (by decide)), (fun _ => by rw [← i4, show (n - i).toNat = (n - (i + 1)).toNat + 1 by omega]; exact TL_no hW1 (by omega) (by omega)), ⟨by omega, by omega⟩, by omega⟩
                            · refine T.go 3 (fun n9 => (rfl : _ = exe ξ n9 (d + 2) j_U_tellLengths 153 [(0, .ref 17), (1, J n), (2, J k), (3, J i), (4, J (W1.1)), (5, J 0), (6, J (3 + z12))] [J k, J n, J (3 + z12)] s11)) ?_
                              refine T.isub rfl ?_
                              refine T.icmp_le rfl rfl (by omega) (by omega) (fun c36 => ?_) (fun c36 => ?_)
                              · refine T.go 1 (fun n9 => (rfl : _ = exe ξ n9 (d + 2) j_U_tellLengths 160 [(0, .ref 17), (1, J n), (2, J k), (3, J i), (4, J (W1.1)), (5, J 0), (6, J (3 + z12))] [.ref 17] s11)) ?_
                                refine T.get rfl rfl rfl hux18 rfl ?_
                                refine T.go 3 (fun n9 => (rfl : _ = exe ξ n9 (d + 2) j_U_tellLengths 167 [(0, .ref 17), (1, J n), (2, J k), (3, J i), (4, J (W1.1)), (5, J 0), (6, J (3 + z12))] [J (3 + z12), J k, J k, .ref 18] s11)) ?_
                                refine T.iadd rfl ?_
                                refine T.go 1 (fun n9 => (rfl : _ = exe ξ n9 (d + 2) j_U_tellLengths 170 [(0, .ref 17), (1, J n), (2, J k), (3, J i), (4, J (W1.1)), (5, J 0), (6, J (3 + z12))] [J 0, J (k + (3 + z12)), J k, .ref 18] s11)) ?_
                                have ga678 := gl_any (il s11 18) (k - 1)
                                refine T.calls (as := [.ref 18, J k, J (k + (3 + z12)), J 0]) (r := []) rfl rfl (by decide) rfl rfl (s_J_ffill d 18 k (k + (3 + z12)) 0 s11 hs11.1 kdX_18 (by decide) rfl (by decide) (Or.inl (by decide)) (by omega) (by omega)) (fun v12 s12 hqs12 => ?_)
                                obtain ⟨rfl, hs12, pz13_0, pz13_1⟩ := hqs12
                                have es12 := hs12
                                have hs12 := hs12.sub (w' := [17, 18]) (List.forall_mem_cons.mpr ⟨(by simp), (fun _ h => by cases h)⟩)
                                have k18 := es12.b.1 _ _ (nm_c (dq_3 _ hs) nm_0) (fun l z => by cases z) hrx18
                                have k19 := es12.b.1 _ _ (nm_c (by decide) nm_0) (fun l z => by cases z) hux18
                                have gs12 := gs11.trans hs12
                                have hU12 := UL.ints pz12_0 pz13_0
                                refine T.go 2 (fun n9 => (rfl : _ = exe ξ n9 (d + 2) j_U_tellLengths 176 [(0, .ref 17), (1, J n), (2, J k), (3, J i), (4, J (W1.1)), (5, J 0), (6, J (3 + z12))] [J (3 + z12), J k] s12)) ?_
                                refine T.iadd rfl ?_
                                refine T.go 1 (fun n9 => (rfl : _ = exe ξ n9 (d + 2) j_U_tellLengths 178 [(0, .ref 17), (1, J n), (2, J (k + (3 + z12))), (3, J i), (4, J (W1.1)), (5, J 0), (6, J (3 + z12))] [] s12)) ?_
                                refine T.iinc (lv' := [(0, .ref 17), (1, J n), (2, J (k + (3 + z12))), (3, J (i + 1)), (4, J (W1.1)), (5, J 0), (6, J (3 + z12))]) rfl rfl rfl rfl ?_
                                refine T.go 1 (fun n9 => (rfl : _ = exe ξ n9 (d + 2) j_U_tellLengths 15 [(0, .ref 17), (1, J n), (2, J (k + (3 + z12))), (3, J (i + 1)), (4, J (W1.1)), (5, J 0), (6, J (3 + z12))] [] s12)) ?_
                                refine T.drop (lv := [(0, .ref 17), (1, J n), (2, J (k + (3 + z12))), (3, J (i + 1))]) [(4, J (W1.1)), (5, J 0), (6, J (3 + z12))] (by simp) ?_
                                have tk21 := tB_17 (s := W1.1) (by omega)
                                have tw21 : BV g W1.2 (tBi W1.1).toNat = BV g W1.2 3 := by rw [tk21.1]; rfl
                                have nf21 := af_of (i := 8) k19 rfl (by omega)
                                have nf22 := af_of (i := 9) k19 rfl (by omega)
                                have nf23 := af_of (i := 10) k19 rfl (by omega)
                                have nf24 := af_of (i := 11) k19 rfl (by omega)
                                have tx6 : k + (3 + z12) = k + (tLe W1.1 + BV g W1.2 (tBi W1.1).toNat) := by omega
                                have ty6 : (0 : Int) = tVa (gw (il τ 18) k) k W1.1 := (tV_17 (by omega)).symm
                                have fl6 := pz13_1
                                rw [tx6, iq11] at fl6
                                exact ih  (k + (3 + z12)) (i + 1) s12 gs12 hU12 (by omega) (by omega) (by omega) (by omega) (by rw [tx6, gw_fill (by omega) (by omega) fl6, ← i4, show (n - i).toNat = (n - (i + 1)).toNat + 1 by omega, TL_on hW1 (by omega) (by omega) (by omega) (by omega) (by omega), show afld s12 17 9 = W1.2 + tBi W1.1 by omega, ← ty6]) (by omega) (by omega) (by omega) (by omega)
                              · refine T.go 1 (fun n9 => (rfl : _ = exe ξ n9 (d + 2) j_U_tellLengths 158 [(0, .ref 17), (1, J n), (2, J k), (3, J i), (4, J (W1.1)), (5, J 0), (6, J (3 + z12))] [J 0] s11)) ?_
                                have tk22 := tB_17 (s := W1.1) (by omega)
                                have tw22 : BV g W1.2 (tBi W1.1).toNat = BV g W1.2 3 := by rw [tk22.1]; rfl
                                exact T.iretz rfl rfl (by omega) ⟨_, rfl, gs11, by omega, by omega, pz12_0, (fun h => absurd h (by decide)), (fun _ => by rw [← i4, show (n - i).toNat = (n - (i + 1)).toNat + 1 by omega]; exact TL_no hW1 (by omega) (by omega)), ⟨by omega, by omega⟩, by omega⟩
                          · have fkz12 := taz12
                            refine T.iadd rfl ?_
                            refine T.go 3 (fun n9 => (rfl : _ = exe ξ n9 (d + 2) j_U_tellLengths 143 [(0, .ref 17), (1, J n), (2, J k), (3, J i), (4, J (W1.1)), (5, J 0), (6, J (3 + z12))] [.ref 17] s11)) ?_
                            obtain ⟨wx19, bix19, bex19, rox19, mx19, nx19, bx19, lx19, hux19, hrx19, hbx19, ⟨fx19a, fx19b, fx19c, fx19d, fx19e, fx19f, fx19g, fx19h, fx19i, fx19j⟩, ⟨fx19k, fx19l, fx19m, fx19n⟩, fx19o, fx19p⟩ := UL.unf hs11.1 pz12_0 hs
                            have af8x19 := af_of (i := 8) hux19 rfl (by omega)
                            subst af8x19
                            have af9x19 := af_of (i := 9) hux19 rfl (by omega)
                            subst af9x19
                            have af10x19 := af_of (i := 10) hux19 rfl (by omega)
                            subst af10x19
                            have af11x19 := af_of (i := 11) hux19 rfl (by omega)
                            subst af11x19
                            have ctx19 := CT_of hrx19 hbx19
                            have rwx19 := rl_of hrx19 (by omega)
                            subst rwx19
                            refine T.get rfl rfl rfl hux19 rfl ?_
                            refine T.if_ne rfl rfl (by omega) (fun c37 => ?_) (fun c37 => ?_)
                            · refine T.go 1 (fun n9 => (rfl : _ = exe ξ n9 (d + 2) j_U_tellLengths 158 [(0, .ref 17), (1, J n), (2, J k), (3, J i), (4, J (W1.1)), (5, J 0), (6, J (3 + z12))] [J 0] s11)) ?_
                              have tk23 := tB_17 (s := W1.1) (by omega)
                              have tw23 : BV g W1.2 (tBi W1.1).toNat = BV g W1.2 3 := by rw [tk23.1]; rfl
                              exact T.iretz rfl rfl (by omega) ⟨_, rfl, gs11, by omega, by omega, pz12_0, (fun h => absurd h (by decide)), (fun _ => by rw [← i4, show (n - i).toNat = (n - (i + 1)).toNat + 1 by omega]; exact TL_no hW1 (by omega) (by omega)), ⟨by omega, by omega⟩, by omega⟩
                            · exfalso
                              omega
                      · exfalso
                        omega
                    · exfalso
                      omega
                  · refine T.go 1 (fun n9 => (rfl : _ = exe ξ n9 (d + 2) j_U_tellLengths 73 [(0, .ref 17), (1, J n), (2, J k), (3, J i), (4, J (W1.1))] [.ref 17] s1)) ?_
                    obtain ⟨wx20, bix20, bex20, rox20, mx20, nx20, bx20, lx20, hux20, hrx20, hbx20, ⟨fx20a, fx20b, fx20c, fx20d, fx20e, fx20f, fx20g, fx20h, fx20i, fx20j⟩, ⟨fx20k, fx20l, fx20m, fx20n⟩, fx20o, fx20p⟩ := UL.unf hs1.1 pz1_0 hs
                    have af8x20 := af_of (i := 8) hux20 rfl (by omega)
                    subst af8x20
                    have af9x20 := af_of (i := 9) hux20 rfl (by omega)
                    subst af9x20
                    have af10x20 := af_of (i := 10) hux20 rfl (by omega)
                    subst af10x20
                    have af11x20 := af_of (i := 11) hux20 rfl (by omega)
                    subst af11x20
                    have ctx20 := CT_of hrx20 hbx20
                    have rwx20 := rl_of hrx20 (by omega)
                    subst rwx20
                    refine T.get rfl rfl rfl hux20 rfl ?_
                    refine T.go 2 (fun n9 => (rfl : _ = exe ξ n9 (d + 2) j_U_tellLengths 78 [(0, .ref 17), (1, J n), (2, J k), (3, J i), (4, J (W1.1))] [J 1, J k, .ref 18] s1)) ?_
                    refine T.isub rfl ?_
                    obtain ⟨lx21, hix21, elx21⟩ := hs1.1.ints kdX_18
                    have ilx21 := il_of hix21
                    refine T.iald rfl rfl hix21 (by omega) (fun z14 hzz14 hyz14 hez14 => ?_)
                    have glz14 : gl (il s1 18) (k - 1) = z14 := by rw [ilx21]; exact gl_of hez14 ⟨hzz14, hyz14⟩
                    subst glz14
                    refine T.go 4 (fun n9 => (rfl : _ = exe ξ n9 (d + 2) j_U_tellLengths 90 [(0, .ref 17), (1, J n), (2, J k), (3, J i), (4, J (W1.1)), (5, J (gl (il s1 18) (k - 1)))] [J 16, J (W1.1)] s1)) ?_
                    refine T.icmp_ge rfl rfl (by omega) (by omega) (fun c38 => ?_) (fun c38 => ?_)
                    · refine T.go 2 (fun n9 => (rfl : _ = exe ξ n9 (d + 2) j_U_tellLengths 101 [(0, .ref 17), (1, J n), (2, J k), (3, J i), (4, J (W1.1)), (5, J (gl (il s1 18) (k - 1)))] [J 16, J (W1.1)] s1)) ?_
                      refine T.icmp_ne rfl rfl (by omega) (by omega) (fun c39 => ?_) (fun c39 => ?_)
                      · exfalso
                        omega
                      · refine T.go 3 (fun n9 => (rfl : _ = exe ξ n9 (d + 2) j_U_tellLengths 107 [(0, .ref 17), (1, J n), (2, J k), (3, J i), (4, J (W1.1)), (5, J (gl (il s1 18) (k - 1)))] [J 2, .ref 17, J 3] s1)) ?_
                        have na7 := (gs1.b.2 hNA).1
                        have hg7 := hg.fr hNA gs1 hs (nm_c (dq_1 _ hs) (nm_c (dq_3 _ hs) nm_0))
                        refine T.callv (as := [J 2]) (r := [J 3]) rfl rfl rfl rfl hux20 rfl (s_U_ftakeBits (d + 1) s t g 2 s1 hs1.1  hs ht hst pz1_0 na7 hg7 (by omega) (by omega) (by omega)) (fun v13 s13 hqs13 => ?_)
                        obtain ⟨z15, rfl, hs13, hzz15, hyz15, pz15_0, pz15_1, pz15_2⟩ := hqs13
                        have es13 := hs13
                        have hs13 := hs13.sub (w' := [17, 18]) (List.forall_mem_cons.mpr ⟨(by simp), (fun _ h => by cases h)⟩)
                        have k20 := es13.b.1 _ _ (nm_c (dq_1 _ hs) nm_0) (fun l z => by cases z) hrx20
                        have k21 := es13.b.1 _ _ (nm_c (by decide) nm_0) (fun l z => by cases z) hix21
                        have gs13 := gs1.trans hs13
                        have nt12 := nb_fr na7 es13 ht (nm_c (dq_1 _ ht) nm_0)
                        have rt7 := rl_eq (es13.2.2.1 t (List.mem_cons_of_mem _ ht) (nm_c (dq_1 _ ht) nm_0))
                        have nt13 := nt12.trans nt1
                        rw [show (2 : Int).toNat = 2 from rfl] at pz15_1
                        have iq12 := il_fr hs1.1 kdX_18 es13 (by decide)
                        have iq13 := iq12.trans iq1
                        rcases pz15_1 with ⟨taz15, tbz15, tcz15, tdz15⟩ | ⟨taz15, tbz15, tcz15, tdz15⟩
                        · rw [show afld s1 17 9 = W1.2 by omega] at tbz15
                          refine T.iadd rfl ?_
                          refine T.go 3 (fun n9 => (rfl : _ = exe ξ n9 (d + 2) j_U_tellLengths 143 [(0, .ref 17), (1, J n), (2, J k), (3, J i), (4, J (W1.1)), (5, J (gl (il s1 18) (k - 1))), (6, J (3 + z15))] [.ref 17] s13)) ?_
                          obtain ⟨wx22, bix22, bex22, rox22, mx22, nx22, bx22, lx22, hux22, hrx22, hbx22, ⟨fx22a, fx22b, fx22c, fx22d, fx22e, fx22f, fx22g, fx22h, fx22i, fx22j⟩, ⟨fx22k, fx22l, fx22m, fx22n⟩, fx22o, fx22p⟩ := UL.unf hs13.1 pz15_0 hs
                          have af8x22 := af_of (i := 8) hux22 rfl (by omega)
                          subst af8x22
                          have af9x22 := af_of (i := 9) hux22 rfl (by omega)
                          subst af9x22
                          have af10x22 := af_of (i := 10) hux22 rfl (by omega)
                          subst af10x22
                          have af11x22 := af_of (i := 11) hux22 rfl (by omega)
                          subst af11x22
                          have ctx22 := CT_of hrx22 hbx22
                          have rwx22 := rl_of hrx22 (by omega)
                          subst rwx22
                          refine T.get rfl rfl rfl hux22 rfl ?_
                          refine T.if_ne rfl rfl (by omega) (fun c40 => ?_) (fun c40 => ?_)
                          · refine T.go 1 (fun n9 => (rfl : _ = exe ξ n9 (d + 2) j_U_tellLengths 158 [(0, .ref 17), (1, J n), (2, J k), (3, J i), (4, J (W1.1)), (5, J (gl (il s1 18) (k - 1))), (6, J (3 + z15))] [J 0] s13)) ?_
                            have tk24 := tB_16 (s := W1.1) (by omega)
                            have tw24 : BV g W1.2 (tBi W1.1).toNat = BV g W1.2 2 := by rw [tk24.1]; rfl
                            exact T.iretz rfl rfl (by omega) ⟨_, rfl, gs13, by omega, by omega, pz15_0, (fun h => absurd h (by decide)), (fun _ => by rw [← i4, show (n - i).toNat = (n - (i + 1)).toNat + 1 by omega]; exact TL_no hW1 (by omega) (by omega)), ⟨by omega, by omega⟩, by omega⟩
                          · refine T.go 3 (fun n9 => (rfl : _ = exe ξ n9 (d + 2) j_U_tellLengths 153 [(0, .ref 17), (1, J n), (2, J k), (3, J i), (4, J (W1.1)), (5, J (gl (il s1 18) (k - 1))), (6, J (3 + z15))] [J k, J n, J (3 + z15)] s13)) ?_
                            refine T.isub rfl ?_
                            refine T.icmp_le rfl rfl (by omega) (by omega) (fun c41 => ?_) (fun c41 => ?_)
                            · refine T.go 1 (fun n9 => (rfl : _ = exe ξ n9 (d + 2) j_U_tellLengths 160 [(0, .ref 17), (1, J n), (2, J k), (3, J i), (4, J (W1.1)), (5, J (gl (il s1 18) (k - 1))), (6, J (3 + z15))] [.ref 17] s13)) ?_
                              refine T.get rfl rfl rfl hux22 rfl ?_
                              refine T.go 3 (fun n9 => (rfl : _ = exe ξ n9 (d + 2) j_U_tellLengths 167 [(0, .ref 17), (1, J n), (2, J k), (3, J i), (4, J (W1.1)), (5, J (gl (il s1 18) (k - 1))), (6, J (3 + z15))] [J (3 + z15), J k, J k, .ref 18] s13)) ?_
                              refine T.iadd rfl ?_
                              refine T.go 1 (fun n9 => (rfl : _ = exe ξ n9 (d + 2) j_U_tellLengths 170 [(0, .ref 17), (1, J n), (2, J k), (3, J i), (4, J (W1.1)), (5, J (gl (il s1 18) (k - 1))), (6, J (3 + z15))] [J (gl (il s1 18) (k - 1)), J (k + (3 + z15)), J k, .ref 18] s13)) ?_
                              have ga808 := gl_any (il s13 18) (k - 1)
                              refine T.calls (as := [.ref 18, J k, J (k + (3 + z15)), J (gl (il s1 18) (k - 1))]) (r := []) rfl rfl (by decide) rfl rfl (s_J_ffill d 18 k (k + (3 + z15)) (gl (il s1 18) (k - 1)) s13 hs13.1 kdX_18 (by decide) rfl (by decide) (Or.inl (by decide)) (by omega) (by omega)) (fun v14 s14 hqs14 => ?_)
                              obtain ⟨rfl, hs14, pz16_0, pz16_1⟩ := hqs14
                              have es14 := hs14
                              have hs14 := hs14.sub (w' := [17, 18]) (List.forall_mem_cons.mpr ⟨(by simp), (fun _ h => by cases h)⟩)
                              have k22 := es14.b.1 _ _ (nm_c (dq_3 _ hs) nm_0) (fun l z => by cases z) hrx22
                              have k23 := es14.b.1 _ _ (nm_c (by decide) nm_0) (fun l z => by cases z) hux22
                              have gs14 := gs13.trans hs14
                              have hU14 := UL.ints pz15_0 pz16_0
                              refine T.go 2 (fun n9 => (rfl : _ = exe ξ n9 (d + 2) j_U_tellLengths 176 [(0, .ref 17), (1, J n), (2, J k), (3, J i), (4, J (W1.1)), (5, J (gl (il s1 18) (k - 1))), (6, J (3 + z15))] [J (3 + z15), J k] s14)) ?_
                              refine T.iadd rfl ?_
                              refine T.go 1 (fun n9 => (rfl : _ = exe ξ n9 (d + 2) j_U_tellLengths 178 [(0, .ref 17), (1, J n), (2, J (k + (3 + z15))), (3, J i), (4, J (W1.1)), (5, J (gl (il s1 18) (k - 1))), (6, J (3 + z15))] [] s14)) ?_
                              refine T.iinc (lv' := [(0, .ref 17), (1, J n), (2, J (k + (3 + z15))), (3, J (i + 1)), (4, J (W1.1)), (5, J (gl (il s1 18) (k - 1))), (6, J (3 + z15))]) rfl rfl rfl rfl ?_
                              refine T.go 1 (fun n9 => (rfl : _ = exe ξ n9 (d + 2) j_U_tellLengths 15 [(0, .ref 17), (1, J n), (2, J (k + (3 + z15))), (3, J (i + 1)), (4, J (W1.1)), (5, J (gl (il s1 18) (k - 1))), (6, J (3 + z15))] [] s14)) ?_
                              refine T.drop (lv := [(0, .ref 17), (1, J n), (2, J (k + (3 + z15))), (3, J (i + 1))]) [(4, J (W1.1)), (5, J (gl (il s1 18) (k - 1))), (6, J (3 + z15))] (by simp) ?_
                              have tk25 := tB_16 (s := W1.1) (by omega)
                              have tw25 : BV g W1.2 (tBi W1.1).toNat = BV g W1.2 2 := by rw [tk25.1]; rfl
                              have nf25 := af_of (i := 8) k23 rfl (by omega)
                              have nf26 := af_of (i := 9) k23 rfl (by omega)
                              have nf27 := af_of (i := 10) k23 rfl (by omega)
                              have nf28 := af_of (i := 11) k23 rfl (by omega)
                              have tx7 : k + (3 + z15) = k + (tLe W1.1 + BV g W1.2 (tBi W1.1).toNat) := by omega
                              have ty7 : (gl (il s1 18) (k - 1) : Int) = tVa (gw (il τ 18) k) k W1.1 := by rw [tV_16 (by omega)]; unfold gw; rw [if_pos (by omega), iq1]
                              have fl7 := pz16_1
                              rw [tx7, iq13] at fl7
                              exact ih  (k + (3 + z15)) (i + 1) s14 gs14 hU14 (by omega) (by omega) (by omega) (by omega) (by rw [tx7, gw_fill (by omega) (by omega) fl7, ← i4, show (n - i).toNat = (n - (i + 1)).toNat + 1 by omega, TL_on hW1 (by omega) (by omega) (by omega) (by omega) (by omega), show afld s14 17 9 = W1.2 + tBi W1.1 by omega, ← ty7]) (by omega) (by omega) (by omega) (by omega)
                            · refine T.go 1 (fun n9 => (rfl : _ = exe ξ n9 (d + 2) j_U_tellLengths 158 [(0, .ref 17), (1, J n), (2, J k), (3, J i), (4, J (W1.1)), (5, J (gl (il s1 18) (k - 1))), (6, J (3 + z15))] [J 0] s13)) ?_
                              have tk26 := tB_16 (s := W1.1) (by omega)
                              have tw26 : BV g W1.2 (tBi W1.1).toNat = BV g W1.2 2 := by rw [tk26.1]; rfl
                              exact T.iretz rfl rfl (by omega) ⟨_, rfl, gs13, by omega, by omega, pz15_0, (fun h => absurd h (by decide)), (fun _ => by rw [← i4, show (n - i).toNat = (n - (i + 1)).toNat + 1 by omega]; exact TL_no hW1 (by omega) (by omega)), ⟨by omega, by omega⟩, by omega⟩
                        · have fkz15 := taz15
                          refine T.iadd rfl ?_
                          refine T.go 3 (fun n9 => (rfl : _ = exe ξ n9 (d + 2) j_U_tellLengths 143 [(0, .ref 17), (1, J n), (2, J k), (3, J i), (4, J (W1.1)), (5, J (gl (il s1 18) (k - 1))), (6, J (3 + z15))] [.ref 17] s13)) ?_
                          obtain ⟨wx23, bix23, bex23, rox23, mx23, nx23, bx23, lx23, hux23, hrx23, hbx23, ⟨fx23a, fx23b, fx23c, fx23d, fx23e, fx23f, fx23g, fx23h, fx23i, fx23j⟩, ⟨fx23k, fx23l, fx23m, fx23n⟩, fx23o, fx23p⟩ := UL.unf hs13.1 pz15_0 hs
                          have af8x23 := af_of (i := 8) hux23 rfl (by omega)
                          subst af8x23
                          have af9x23 := af_of (i := 9) hux23 rfl (by omega)
                          subst af9x23
                          have af10x23 := af_of (i := 10) hux23 rfl (by omega)
                          subst af10x23
                          have af11x23 := af_of (i := 11) hux23 rfl (by omega)
                          subst af11x23
                          have ctx23 := CT_of hrx23 hbx23
                          have rwx23 := rl_of hrx23 (by omega)
                          subst rwx23
                          refine T.get rfl rfl rfl hux23 rfl ?_
                          refine T.if_ne rfl rfl (by omega) (fun c42 => ?_) (fun c42 => ?_)
                          · refine T.go 1 (fun n9 => (rfl : _ = exe ξ n9 (d + 2) j_U_tellLengths 158 [(0, .ref 17), (1, J n), (2, J k), (3, J i), (4, J (W1.1)), (5, J (gl (il s1 18) (k - 1))), (6, J (3 + z15))] [J 0] s13)) ?_
                            have tk27 := tB_16 (s := W1.1) (by omega)
                            have tw27 : BV g W1.2 (tBi W1.1).toNat = BV g W1.2 2 := by rw [tk27.1]; rfl
                            exact T.iretz rfl rfl (by omega) ⟨_, rfl, gs13, by omega, by omega, pz15_0, (fun h => absurd h (by decide)), (fun _ => by rw [← i4, show (n - i).toNat = (n - (i + 1)).toNat + 1 by omega]; exact TL_no hW1 (by omega) (by omega)), ⟨by omega, by omega⟩, by omega⟩
                          · exfalso
                            omega
                    · exfalso
                      omega
                · refine T.go 5 (fun n9 => (rfl : _ = exe ξ n9 (d + 2) j_U_tellLengths 90 [(0, .ref 17), (1, J n), (2, J k), (3, J i), (4, J (W1.1)), (5, J (W1.1))] [J 16, J (W1.1)] s1)) ?_
                  refine T.icmp_ge rfl rfl (by omega) (by omega) (fun c43 => ?_) (fun c43 => ?_)
                  · exfalso
                    omega
                  · refine T.go 4 (fun n9 => (rfl : _ = exe ξ n9 (d + 2) j_U_tellLengths 143 [(0, .ref 17), (1, J n), (2, J k), (3, J i), (4, J (W1.1)), (5, J (W1.1)), (6, J 1)] [.ref 17] s1)) ?_
                    obtain ⟨wx24, bix24, bex24, rox24, mx24, nx24, bx24, lx24, hux24, hrx24, hbx24, ⟨fx24a, fx24b, fx24c, fx24d, fx24e, fx24f, fx24g, fx24h, fx24i, fx24j⟩, ⟨fx24k, fx24l, fx24m, fx24n⟩, fx24o, fx24p⟩ := UL.unf hs1.1 pz1_0 hs
                    have af8x24 := af_of (i := 8) hux24 rfl (by omega)
                    subst af8x24
                    have af9x24 := af_of (i := 9) hux24 rfl (by omega)
                    subst af9x24
                    have af10x24 := af_of (i := 10) hux24 rfl (by omega)
                    subst af10x24
                    have af11x24 := af_of (i := 11) hux24 rfl (by omega)
                    subst af11x24
                    have ctx24 := CT_of hrx24 hbx24
                    have rwx24 := rl_of hrx24 (by omega)
                    subst rwx24
                    refine T.get rfl rfl rfl hux24 rfl ?_
                    refine T.if_ne rfl rfl (by omega) (fun c44 => ?_) (fun c44 => ?_)
                    · refine T.go 1 (fun n9 => (rfl : _ = exe ξ n9 (d + 2) j_U_tellLengths 158 [(0, .ref 17), (1, J n), (2, J k), (3, J i), (4, J (W1.1)), (5, J (W1.1)), (6, J 1)] [J 0] s1)) ?_
                      have tk28 := tB_lo (s := W1.1) (by omega)
                      have tw28 : BV g W1.2 (tBi W1.1).toNat = BV g W1.2 0 := by rw [tk28.1]; rfl
                      have tw28z := BV_0 g W1.2
                      exact T.iretz rfl rfl (by omega) ⟨_, rfl, gs1, by omega, by omega, pz1_0, (fun h => absurd h (by decide)), (fun _ => by rw [← i4, show (n - i).toNat = (n - (i + 1)).toNat + 1 by omega]; exact TL_no hW1 (by omega) (by omega)), ⟨by omega, by omega⟩, by omega⟩
                    · refine T.go 3 (fun n9 => (rfl : _ = exe ξ n9 (d + 2) j_U_tellLengths 153 [(0, .ref 17), (1, J n), (2, J k), (3, J i), (4, J (W1.1)), (5, J (W1.1)), (6, J 1)] [J k, J n, J 1] s1)) ?_
                      refine T.isub rfl ?_
                      refine T.icmp_le rfl rfl (by omega) (by omega) (fun c45 => ?_) (fun c45 => ?_)
                      · refine T.go 1 (fun n9 => (rfl : _ = exe ξ n9 (d + 2) j_U_tellLengths 160 [(0, .ref 17), (1, J n), (2, J k), (3, J i), (4, J (W1.1)), (5, J (W1.1)), (6, J 1)] [.ref 17] s1)) ?_
                        refine T.get rfl rfl rfl hux24 rfl ?_
                        refine T.go 3 (fun n9 => (rfl : _ = exe ξ n9 (d + 2) j_U_tellLengths 167 [(0, .ref 17), (1, J n), (2, J k), (3, J i), (4, J (W1.1)), (5, J (W1.1)), (6, J 1)] [J 1, J k, J k, .ref 18] s1)) ?_
                        refine T.iadd rfl ?_
                        refine T.go 1 (fun n9 => (rfl : _ = exe ξ n9 (d + 2) j_U_tellLengths 170 [(0, .ref 17), (1, J n), (2, J k), (3, J i), (4, J (W1.1)), (5, J (W1.1)), (6, J 1)] [J (W1.1), J (k + 1), J k, .ref 18] s1)) ?_
                        have ga895 := gl_any (il s1 18) (k - 1)
                        refine T.calls (as := [.ref 18, J k, J (k + 1), J (W1.1)]) (r := []) rfl rfl (by decide) rfl rfl (s_J_ffill d 18 k (k + 1) (W1.1) s1 hs1.1 kdX_18 (by decide) rfl (by decide) (Or.inl (by decide)) (by omega) (by omega)) (fun v15 s15 hqs15 => ?_)
                        obtain ⟨rfl, hs15, pz17_0, pz17_1⟩ := hqs15
                        have es15 := hs15
                        have hs15 := hs15.sub (w' := [17, 18]) (List.forall_mem_cons.mpr ⟨(by simp), (fun _ h => by cases h)⟩)
                        have k24 := es15.b.1 _ _ (nm_c (dq_3 _ hs) nm_0) (fun l z => by cases z) hrx24
                        have k25 := es15.b.1 _ _ (nm_c (by decide) nm_0) (fun l z => by cases z) hux24
                        have gs15 := gs1.trans hs15
                        have hU15 := UL.ints pz1_0 pz17_0
                        refine T.go 2 (fun n9 => (rfl : _ = exe ξ n9 (d + 2) j_U_tellLengths 176 [(0, .ref 17), (1, J n), (2, J k), (3, J i), (4, J (W1.1)), (5, J (W1.1)), (6, J 1)] [J 1, J k] s15)) ?_
                        refine T.iadd rfl ?_
                        refine T.go 1 (fun n9 => (rfl : _ = exe ξ n9 (d + 2) j_U_tellLengths 178 [(0, .ref 17), (1, J n), (2, J (k + 1)), (3, J i), (4, J (W1.1)), (5, J (W1.1)), (6, J 1)] [] s15)) ?_
                        refine T.iinc (lv' := [(0, .ref 17), (1, J n), (2, J (k + 1)), (3, J (i + 1)), (4, J (W1.1)), (5, J (W1.1)), (6, J 1)]) rfl rfl rfl rfl ?_
                        refine T.go 1 (fun n9 => (rfl : _ = exe ξ n9 (d + 2) j_U_tellLengths 15 [(0, .ref 17), (1, J n), (2, J (k + 1)), (3, J (i + 1)), (4, J (W1.1)), (5, J (W1.1)), (6, J 1)] [] s15)) ?_
                        refine T.drop (lv := [(0, .ref 17), (1, J n), (2, J (k + 1)), (3, J (i + 1))]) [(4, J (W1.1)), (5, J (W1.1)), (6, J 1)] (by simp) ?_
                        have tk29 := tB_lo (s := W1.1) (by omega)
                        have tw29 : BV g W1.2 (tBi W1.1).toNat = BV g W1.2 0 := by rw [tk29.1]; rfl
                        have tw29z := BV_0 g W1.2
                        have nf29 := af_of (i := 8) k25 rfl (by omega)
                        have nf30 := af_of (i := 9) k25 rfl (by omega)
                        have nf31 := af_of (i := 10) k25 rfl (by omega)
                        have nf32 := af_of (i := 11) k25 rfl (by omega)
                        have tx8 : k + 1 = k + (tLe W1.1 + BV g W1.2 (tBi W1.1).toNat) := by omega
                        have ty8 : (W1.1 : Int) = tVa (gw (il τ 18) k) k W1.1 := (tV_lo (by omega)).symm
                        have fl8 := pz17_1
                        rw [tx8, iq1] at fl8
                        exact ih  (k + 1) (i + 1) s15 gs15 hU15 (by omega) (by omega) (by omega) (by omega) (by rw [tx8, gw_fill (by omega) (by omega) fl8, ← i4, show (n - i).toNat = (n - (i + 1)).toNat + 1 by omega, TL_on hW1 (by omega) (by omega) (by omega) (by omega) (by omega), show afld s15 17 9 = W1.2 + tBi W1.1 by omega, ← ty8]) (by omega) (by omega) (by omega) (by omega)
                      · refine T.go 1 (fun n9 => (rfl : _ = exe ξ n9 (d + 2) j_U_tellLengths 158 [(0, .ref 17), (1, J n), (2, J k), (3, J i), (4, J (W1.1)), (5, J (W1.1)), (6, J 1)] [J 0] s1)) ?_
                        have tk30 := tB_lo (s := W1.1) (by omega)
                        have tw30 : BV g W1.2 (tBi W1.1).toNat = BV g W1.2 0 := by rw [tk30.1]; rfl
                        have tw30z := BV_0 g W1.2
                        exact T.iretz rfl rfl (by omega) ⟨_, rfl, gs1, by omega, by omega, pz1_0, (fun h => absurd h (by decide)), (fun _ => by rw [← i4, show (n - i).toNat = (n - (i + 1)).toNat + 1 by omega]; exact TL_no hW1 (by omega) (by omega)), ⟨by omega, by omega⟩, by omega⟩
              · refine T.go 1 (fun n9 => (rfl : _ = exe ξ n9 (d + 2) j_U_tellLengths 52 [(0, .ref 17), (1, J n), (2, J k), (3, J i), (4, J (W1.1))] [J 0] s1)) ?_
                exact T.iretz rfl rfl (by omega) ⟨_, rfl, gs1, by omega, by omega, pz1_0, (fun h => absurd h (by decide)), (fun _ => by rw [← i4, show (n - i).toNat = (n - (i + 1)).toNat + 1 by omega]; exact TL_no hW1 (by omega) (by omega)), ⟨by omega, by omega⟩, by omega⟩
  refine T.go 2 (fun n9 => (rfl : _ = exe ξ n9 (d + 2) j_U_tellLengths 2 [(0, .ref 17), (1, J n)] [.ref 17, J n] σ)) ?_
  refine T.get rfl rfl rfl hux1 rfl ?_
  obtain ⟨lx25, hix25, elx25⟩ := hK.ints kdX_18
  have ilx25 := il_of hix25
  refine T.ilen rfl rfl hix25 ?_
  refine T.icmp_le rfl rfl (by omega) (by omega) (fun c46 => ?_) (fun c46 => ?_)
  · refine T.go 4 (fun n9 => (rfl : _ = exe ξ n9 (d + 2) j_U_tellLengths 15 [(0, .ref 17), (1, J n), (2, J 0), (3, J 0)] [] σ)) ?_
    exact loop15 _ 0 0 σ (Fr.refl hK) hU (by omega) (by omega) (by omega) (by omega) (by rw [gw_0, Int.sub_zero]) (by omega) (by omega) (by omega) (Nat.lt_succ_self _)
  · refine T.go 1 (fun n9 => (rfl : _ = exe ξ n9 (d + 2) j_U_tellLengths 10 [(0, .ref 17), (1, J n)] [J 0] σ)) ?_
    exact T.iretz rfl rfl (by omega) ⟨_, rfl, (Fr.refl hK), by omega, by omega, hU, (fun h => absurd h (by decide)), (fun _ => by exfalso; omega), ⟨by omega, by omega⟩, by omega⟩
