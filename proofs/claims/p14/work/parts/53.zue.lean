/-! class Unpacker: codes of a block's own. -/
set_option maxRecDepth 10000 in
set_option maxHeartbeats 4000000 in
theorem s_U_flearnCodes {ξ : Nat → Option (Nat × List Int32)} (hX : XT ξ) (d : Nat) (s t : Nat) (g : Int → Int)  (σ : qH) (hK : K σ)  (hs : s ∈ RwL) (ht : t ∈ RwL) (hst : s ≠ t) (hU : UL s t σ) (hNA : NA σ) (hg : AGR σ s g) (pre0 : afld σ 17 11 = 0) : T ξ (d + 3) j_U_learnCodes 0 (lv_args 0 [.ref 17]) [] σ (fun v σ' => ∃ z : Int, v = some (J z) ∧ Fr [17, 18, 20, 21, 22, 24, 25, 26, 28, 29, 30] σ σ' ∧ 0 ≤ z ∧ z ≤ 1 ∧ UL s t σ' ∧ (z = 1 → DQ g (afld σ 17 10) (afld σ 17 9) ∧ CD σ' 23 (TQ g (afld σ 17 10) (afld σ 17 9)).2.2 (hlQ g (afld σ 17 9)).toNat ∧ CD σ' 27 (fun j => (TQ g (afld σ 17 10) (afld σ 17 9)).2.2 (hlQ g (afld σ 17 9) + j)) (hdQ g (afld σ 17 9)).toNat ∧ afld σ' 17 9 = (TQ g (afld σ 17 10) (afld σ 17 9)).2.1 ∧ afld σ' 17 11 = 0) ∧ (z = 0 → ¬ DQ g (afld σ 17 10) (afld σ 17 9)) ∧ (afld σ' 17 8 = afld σ 17 8 ∧ afld σ' 17 10 = afld σ 17 10)) := by
  have hX0 := hX
  obtain ⟨⟨X1, hX1, lX1⟩, ⟨X2, hX2, lX2⟩, ⟨X3, hX3, lX3⟩, ⟨X4, hX4, lX4⟩, ⟨X5, hX5, lX5⟩, ⟨X6, hX6, lX6⟩⟩ := hX
  have lY1 : X1.length = 19 := by rw [lX1]; rfl
  have lY2 : X2.length = 29 := by rw [lX2]; rfl
  have lY3 : X3.length = 29 := by rw [lX3]; rfl
  have lY4 : X4.length = 30 := by rw [lX4]; rfl
  have lY5 : X5.length = 30 := by rw [lX5]; rfl
  have lY6 : X6.length = 16 := by rw [lX6]; rfl
  obtain ⟨wx1, bix1, bex1, rox1, mx1, nx1, bx1, lx1, hux1, hrx1, hbx1, ⟨fx1a, fx1b, fx1c, fx1d, fx1e, fx1f, fx1g, fx1h, fx1i, fx1j⟩, ⟨fx1k, fx1l, fx1m, fx1n⟩, fx1o, fx1p⟩ := UL.unf hK hU hs
  have af8x1 := af_of (i := 8) hux1 rfl (by omega)
  subst af8x1
  have af9x1 := af_of (i := 9) hux1 rfl (by omega)
  subst af9x1
  have af10x1 := af_of (i := 10) hux1 rfl (by omega)
  subst af10x1
  have af11x1 := af_of (i := 11) hux1 rfl (by omega)
  subst af11x1
  have ctx1 := CT_of hrx1 hbx1
  have rwx1 := rl_of hrx1 (by omega)
  subst rwx1
  have loop59 : ∀ (f : Nat) (a1 : Int) (a2 : Int) (a3 : Int) (i : Int) (τ : qH), Fr [17, 18, 20, 21, 22, 24, 25, 26, 28, 29, 30] σ τ → UL s t τ → a1 = hlQ g (afld σ 17 9) → a2 = hdQ g (afld σ 17 9) → a3 = hcQ g (afld σ 17 9) → (0 ≤ i ∧ i ≤ a3) → afld σ 17 9 + 14 ≤ afld σ 17 10 → (a1 ≤ 286 ∧ a2 ≤ 30) → ((afld τ 17 11 = 0 ∧ afld τ 17 9 = afld σ 17 9 + 14 + 3 * i ∧ afld σ 17 9 + 14 + 3 * i ≤ afld σ 17 10) ∨ (afld τ 17 11 = 1 ∧ afld σ 17 10 < afld σ 17 9 + 14 + 3 * a3)) → (afld τ 17 11 = 0 → ∀ j : Int, 0 ≤ j → j < 320 → gl (il τ 18) j = CQ g (afld σ 17 9 + 14) i.toNat j) → afld τ 17 8 = afld σ 17 8 → afld τ 17 10 = afld σ 17 10 → (a3 - i).toNat < f → T ξ (d + 3) j_U_learnCodes 59 [(0, .ref 17), (1, J a1), (2, J a2), (3, J a3), (4, J i)] [] τ (fun v σ' => ∃ z : Int, v = some (J z) ∧ Fr [17, 18, 20, 21, 22, 24, 25, 26, 28, 29, 30] σ σ' ∧ 0 ≤ z ∧ z ≤ 1 ∧ UL s t σ' ∧ (z = 1 → DQ g (afld σ 17 10) (afld σ 17 9) ∧ CD σ' 23 (TQ g (afld σ 17 10) (afld σ 17 9)).2.2 (hlQ g (afld σ 17 9)).toNat ∧ CD σ' 27 (fun j => (TQ g (afld σ 17 10) (afld σ 17 9)).2.2 (hlQ g (afld σ 17 9) + j)) (hdQ g (afld σ 17 9)).toNat ∧ afld σ' 17 9 = (TQ g (afld σ 17 10) (afld σ 17 9)).2.1 ∧ afld σ' 17 11 = 0) ∧ (z = 0 → ¬ DQ g (afld σ 17 10) (afld σ 17 9)) ∧ (afld σ' 17 8 = afld σ 17 8 ∧ afld σ' 17 10 = afld σ 17 10)) := by
    intro f
    induction f with
    | zero => intro a1 a2 a3 i τ hτ uτ i0 i1 i2 i3 i4 i5 i6 i7 i8 i9 hm; omega
    | succ f ih =>
      intro a1 a2 a3 i τ hτ uτ i0 i1 i2 i3 i4 i5 i6 i7 i8 i9 hm
      obtain ⟨wx2, bix2, bex2, rox2, mx2, nx2, bx2, lx2, hux2, hrx2, hbx2, ⟨fx2a, fx2b, fx2c, fx2d, fx2e, fx2f, fx2g, fx2h, fx2i, fx2j⟩, ⟨fx2k, fx2l, fx2m, fx2n⟩, fx2o, fx2p⟩ := UL.unf hτ.1 uτ hs
      have af8x2 := af_of (i := 8) hux2 rfl (by omega)
      subst af8x2
      have af9x2 := af_of (i := 9) hux2 rfl (by omega)
      subst af9x2
      have af10x2 := af_of (i := 10) hux2 rfl (by omega)
      subst af10x2
      have af11x2 := af_of (i := 11) hux2 rfl (by omega)
      subst af11x2
      have ctx2 := CT_of hrx2 hbx2
      have rwx2 := rl_of hrx2 (by omega)
      subst rwx2
      have bvc := BV_r g (afld σ 17 9 + 10) 4
      have bvp : P2 ((4 : Nat) : Int) = 16 := by decide
      have uc9 : hcQ g (afld σ 17 9) = 4 + BV g (afld σ 17 9 + 10) 4 := rfl
      have bvd := BV_r g (afld σ 17 9 + 5) 5
      have bve := BV_r g (afld σ 17 9) 5
      have bvq : P2 ((5 : Nat) : Int) = 32 := by decide
      have uh9 : hlQ g (afld σ 17 9) = 257 + BV g (afld σ 17 9) 5 := rfl
      have ud9 : hdQ g (afld σ 17 9) = 1 + BV g (afld σ 17 9 + 5) 5 := rfl
      refine T.go 2 (fun n9 => (rfl : _ = exe ξ n9 (d + 3) j_U_learnCodes 62 [(0, .ref 17), (1, J a1), (2, J a2), (3, J a3), (4, J i)] [J a3, J i] τ)) ?_
      refine T.icmp_ge rfl rfl (by omega) (by omega) (fun c1 => ?_) (fun c1 => ?_)
      · refine T.go 1 (fun n9 => (rfl : _ = exe ξ n9 (d + 3) j_U_learnCodes 97 [(0, .ref 17), (1, J a1), (2, J a2), (3, J a3), (4, J i)] [.ref 17] τ)) ?_
        refine T.get rfl rfl rfl hux2 rfl ?_
        refine T.if_ne rfl rfl (by omega) (fun c2 => ?_) (fun c2 => ?_)
        · refine T.go 1 (fun n9 => (rfl : _ = exe ξ n9 (d + 3) j_U_learnCodes 183 [(0, .ref 17), (1, J a1), (2, J a2), (3, J a3), (4, J i)] [J 0] τ)) ?_
          have uh : hlQ g (afld σ 17 9) = 257 + BV g (afld σ 17 9) 5 := rfl
          have ud : hdQ g (afld σ 17 9) = 1 + BV g (afld σ 17 9 + 5) 5 := rfl
          have uc : hcQ g (afld σ 17 9) = 4 + BV g (afld σ 17 9 + 10) 4 := rfl
          exact T.iretz rfl rfl (by omega) ⟨_, rfl, hτ, by omega, by omega, uτ, (fun h => absurd h (by decide)), (fun _ q => by have q0 := q.1; have q1 := q.2.1; have q2 := q.2.2.1; have q3 := q.2.2.2.1; omega), ⟨by omega, by omega⟩⟩
        · refine T.go 1 (fun n9 => (rfl : _ = exe ξ n9 (d + 3) j_U_learnCodes 104 [(0, .ref 17), (1, J a1), (2, J a2), (3, J a3), (4, J i)] [.ref 17] τ)) ?_
          refine T.get rfl rfl rfl hux2 rfl ?_
          refine T.go 1 (fun n9 => (rfl : _ = exe ξ n9 (d + 3) j_U_learnCodes 108 [(0, .ref 17), (1, J a1), (2, J a2), (3, J a3), (4, J i)] [.ref 17, .ref 19] τ)) ?_
          refine T.get rfl rfl rfl hux2 rfl ?_
          refine T.go 2 (fun n9 => (rfl : _ = exe ξ n9 (d + 3) j_U_learnCodes 115 [(0, .ref 17), (1, J a1), (2, J a2), (3, J a3), (4, J i)] [.ref 1, J 0, .ref 18, .ref 19] τ)) ?_
          refine T.xlen rfl rfl hX1 ?_
          rw [show (X1.length : Int) = 19 by omega]
          refine T.go 1 (fun n9 => (rfl : _ = exe ξ n9 (d + 3) j_U_learnCodes 117 [(0, .ref 17), (1, J a1), (2, J a2), (3, J a3), (4, J i)] [J 0, J 19, J 0, .ref 18, .ref 19] τ)) ?_
          have a1h := i0
          have a2h := i1
          have cq9 : ∀ j : Int, 0 ≤ j → j < 320 → gl (il τ 18) j = CQ g (afld σ 17 9 + 14) (hcQ g (afld σ 17 9)).toNat j := by rw [← show i = hcQ g (afld σ 17 9) by omega]; exact i7 (by omega)
          have hcx3 := hτ.1.cod (c := 19) (by decide)
          refine T.callv (as := [.ref 18, J 0, J 19, J 0]) (r := []) rfl rfl rfl rfl hcx3 rfl (s_C_flearn (d + 1) 19 (CQ g (afld σ 17 9 + 14) (hcQ g (afld σ 17 9)).toNat) 0 19 0 τ hτ.1 (by decide) (by omega) (by omega) (by omega) (by omega) (by rw [il_len hτ.1 (show kdX[19 + 3]? = some (1, 0, 19) by decide +kernel)]; omega) (fun k k0 k1 => ⟨by rw [Int.zero_add]; exact cq9 k k0 (by omega), by have := CQ_r g (afld σ 17 9 + 14) (hcQ g (afld σ 17 9)).toNat k; omega⟩)) (fun v1 s1 hqs1 => ?_)
          obtain ⟨z1, rfl, hs1, hzz1, hyz1, pz1_0, pz1_1, pz1_2⟩ := hqs1
          have es1 := hs1
          have hs1 := hs1.sub (w' := [17, 18, 20, 21, 22, 24, 25, 26, 28, 29, 30]) (List.forall_mem_cons.mpr ⟨(by simp), (List.forall_mem_cons.mpr ⟨(by simp), (List.forall_mem_cons.mpr ⟨(by simp), (fun _ h => by cases h)⟩)⟩)⟩)
          have k1 := es1.b.1 _ _ (nm_c (by decide) (nm_c (by decide) (nm_c (by decide) nm_0))) (fun l z => by cases z) hux2
          have k2 := es1.b.1 _ _ (nm_c (dq_4 _ hs) (nm_c (dq_5 _ hs) (nm_c (dq_6 _ hs) nm_0))) (fun l z => by cases z) hrx2
          have k3 := es1.b.1 _ _ (nm_c (by decide) (nm_c (by decide) (nm_c (by decide) nm_0))) (fun l z => by cases z) hcx3
          have gs1 := hτ.trans hs1
          have hU1 := UL.ints uτ pz1_0
          have cd19 := pz1_1
          refine T.if_eq rfl rfl (by omega) (fun c3 => ?_) (fun c3 => ?_)
          · refine T.go 1 (fun n9 => (rfl : _ = exe ξ n9 (d + 3) j_U_learnCodes 183 [(0, .ref 17), (1, J a1), (2, J a2), (3, J a3), (4, J i)] [J 0] s1)) ?_
            have nf1 := af_of (i := 8) k1 rfl (by omega)
            have nf2 := af_of (i := 9) k1 rfl (by omega)
            have nf3 := af_of (i := 10) k1 rfl (by omega)
            have nf4 := af_of (i := 11) k1 rfl (by omega)
            have nf5 := af_of (i := 8) k1 rfl (by omega)
            have nf6 := af_of (i := 9) k1 rfl (by omega)
            have nf7 := af_of (i := 10) k1 rfl (by omega)
            have nf8 := af_of (i := 11) k1 rfl (by omega)
            exact T.iretz rfl rfl (by omega) ⟨_, rfl, gs1, by omega, by omega, hU1, (fun h => absurd h (by decide)), (fun _ q => absurd ((pz1_2).mpr (Or.inl q.2.2.2.2.1)) (by omega)), ⟨by omega, by omega⟩⟩
          · refine T.go 3 (fun n9 => (rfl : _ = exe ξ n9 (d + 3) j_U_learnCodes 126 [(0, .ref 17), (1, J a1), (2, J a2), (3, J a3), (4, J i)] [J a2, J a1, .ref 17] s1)) ?_
            refine T.iadd rfl ?_
            have nf9 := af_of (i := 8) k1 rfl (by omega)
            have nf10 := af_of (i := 9) k1 rfl (by omega)
            have nf11 := af_of (i := 10) k1 rfl (by omega)
            have nf12 := af_of (i := 11) k1 rfl (by omega)
            have na1 := (gs1.b.2 hNA).1
            have hg1 := hg.fr hNA gs1 hs (nm_c (dq_1 _ hs) (nm_c (dq_3 _ hs) (nm_c (dq_4 _ hs) (nm_c (dq_5 _ hs) (nm_c (dq_6 _ hs) (nm_c (dq_7 _ hs) (nm_c (dq_8 _ hs) (nm_c (dq_9 _ hs) (nm_c (dq_10 _ hs) (nm_c (dq_11 _ hs) (nm_c (dq_12 _ hs) nm_0)))))))))))
            refine T.callv (as := [J (a1 + a2)]) (r := []) rfl rfl rfl rfl k1 rfl (s_U_ftellLengths d s t g (CQ g (afld σ 17 9 + 14) (hcQ g (afld σ 17 9)).toNat) (a1 + a2) s1 hs1.1  hs ht hst hU1 na1 hg1 cd19 (by omega) (by omega) (by omega) (by omega)) (fun v2 s2 hqs2 => ?_)
            obtain ⟨z2, rfl, hs2, hzz2, hyz2, pz2_0, pz2_1, pz2_2, pz2_3, pz2_4⟩ := hqs2
            have es2 := hs2
            have hs2 := hs2.sub (w' := [17, 18, 20, 21, 22, 24, 25, 26, 28, 29, 30]) (List.forall_mem_cons.mpr ⟨(by simp), (List.forall_mem_cons.mpr ⟨(by simp), (fun _ h => by cases h)⟩)⟩)
            have k4 := es2.b.1 _ _ (nm_c (dq_1 _ hs) (nm_c (dq_3 _ hs) nm_0)) (fun l z => by cases z) k2
            have k5 := es2.b.1 _ _ (nm_c (by decide) (nm_c (by decide) nm_0)) (fun l z => by cases z) k3
            have gs2 := gs1.trans hs2
            have ep : TL g (afld s1 17 10) (CQ g (afld σ 17 9 + 14) (hcQ g (afld σ 17 9)).toNat) (a1 + a2) (a1 + a2 : Int).toNat 0 (afld s1 17 9) (fun _ => 0) = TQ g (afld σ 17 10) (afld σ 17 9) := by unfold TQ; rw [show afld s1 17 10 = afld σ 17 10 by omega, show afld s1 17 9 = afld σ 17 9 + 14 + 3 * hcQ g (afld σ 17 9) by omega, a1h, a2h]
            rw [ep] at pz2_1 pz2_2
            have tr9 : ∀ j, 0 ≤ (TQ g (afld σ 17 10) (afld σ 17 9)).2.2 j ∧ (TQ g (afld σ 17 10) (afld σ 17 9)).2.2 j ≤ 15 := TL_r _ _ _ _ (fun _ => by decide)
            refine T.if_eq rfl rfl (by omega) (fun c4 => ?_) (fun c4 => ?_)
            · refine T.go 1 (fun n9 => (rfl : _ = exe ξ n9 (d + 3) j_U_learnCodes 183 [(0, .ref 17), (1, J a1), (2, J a2), (3, J a3), (4, J i)] [J 0] s2)) ?_
              exact T.iretz rfl rfl (by omega) ⟨_, rfl, gs2, by omega, by omega, pz2_0, (fun h => absurd h (by decide)), (fun _ q => absurd q.2.2.2.2.2.1 (by rw [pz2_2 (by omega)]; decide)), ⟨by omega, by omega⟩⟩
            · refine T.go 1 (fun n9 => (rfl : _ = exe ξ n9 (d + 3) j_U_learnCodes 134 [(0, .ref 17), (1, J a1), (2, J a2), (3, J a3), (4, J i)] [.ref 17] s2)) ?_
              obtain ⟨wx4, bix4, bex4, rox4, mx4, nx4, bx4, lx4, hux4, hrx4, hbx4, ⟨fx4a, fx4b, fx4c, fx4d, fx4e, fx4f, fx4g, fx4h, fx4i, fx4j⟩, ⟨fx4k, fx4l, fx4m, fx4n⟩, fx4o, fx4p⟩ := UL.unf hs2.1 pz2_0 hs
              have af8x4 := af_of (i := 8) hux4 rfl (by omega)
              subst af8x4
              have af9x4 := af_of (i := 9) hux4 rfl (by omega)
              subst af9x4
              have af10x4 := af_of (i := 10) hux4 rfl (by omega)
              subst af10x4
              have af11x4 := af_of (i := 11) hux4 rfl (by omega)
              subst af11x4
              have ctx4 := CT_of hrx4 hbx4
              have rwx4 := rl_of hrx4 (by omega)
              subst rwx4
              refine T.get rfl rfl rfl hux4 rfl ?_
              refine T.go 1 (fun n9 => (rfl : _ = exe ξ n9 (d + 3) j_U_learnCodes 140 [(0, .ref 17), (1, J a1), (2, J a2), (3, J a3), (4, J i)] [J 256, .ref 18] s2)) ?_
              obtain ⟨lx5, hix5, elx5⟩ := hs2.1.ints kdX_18
              have ilx5 := il_of hix5
              refine T.iald rfl rfl hix5 (by omega) (fun z3 hzz3 hyz3 hez3 => ?_)
              have glz3 : gl (il s2 18) 256 = z3 := by rw [ilx5]; exact gl_of hez3 ⟨hzz3, hyz3⟩
              subst glz3
              have tl9 := pz2_1 (by omega)
              have tq9 : ∀ k : Int, 0 ≤ k → k < a1 + a2 → gl (il s2 18) k = (TQ g (afld σ 17 10) (afld σ 17 9)).2.2 k := fun k k0 k1 => by rw [← tl9.2.2]; unfold gw; rw [if_pos ⟨k0, k1⟩]
              have e256 := tq9 256 (by omega) (by omega)
              refine T.if_eq rfl rfl (by omega) (fun c5 => ?_) (fun c5 => ?_)
              · refine T.go 1 (fun n9 => (rfl : _ = exe ξ n9 (d + 3) j_U_learnCodes 183 [(0, .ref 17), (1, J a1), (2, J a2), (3, J a3), (4, J i)] [J 0] s2)) ?_
                exact T.iretz rfl rfl (by omega) ⟨_, rfl, gs2, by omega, by omega, pz2_0, (fun h => absurd h (by decide)), (fun _ q => absurd (e256.symm.trans (by omega)) q.2.2.2.2.2.2.1), ⟨by omega, by omega⟩⟩
              · refine T.go 1 (fun n9 => (rfl : _ = exe ξ n9 (d + 3) j_U_learnCodes 145 [(0, .ref 17), (1, J a1), (2, J a2), (3, J a3), (4, J i)] [.ref 17] s2)) ?_
                refine T.get rfl rfl rfl hux4 rfl ?_
                refine T.go 1 (fun n9 => (rfl : _ = exe ξ n9 (d + 3) j_U_learnCodes 149 [(0, .ref 17), (1, J a1), (2, J a2), (3, J a3), (4, J i)] [.ref 17, .ref 23] s2)) ?_
                refine T.get rfl rfl rfl hux4 rfl ?_
                refine T.go 3 (fun n9 => (rfl : _ = exe ξ n9 (d + 3) j_U_learnCodes 155 [(0, .ref 17), (1, J a1), (2, J a2), (3, J a3), (4, J i)] [J 0, J a1, J 0, .ref 18, .ref 23] s2)) ?_
                have nz9 : (TQ g (afld σ 17 10) (afld σ 17 9)).2.2 256 ≠ 0 := fun u => by rw [← e256] at u; omega
                have hcx6 := hs2.1.cod (c := 23) (by decide)
                refine T.callv (as := [.ref 18, J 0, J a1, J 0]) (r := []) rfl rfl rfl rfl hcx6 rfl (s_C_flearn (d + 1) 23 (TQ g (afld σ 17 10) (afld σ 17 9)).2.2 0 a1 0 s2 hs2.1 (by decide) (by omega) (by omega) (by omega) (by omega) (by rw [il_len hs2.1 (show kdX[23 + 3]? = some (1, 0, 286) by decide +kernel)]; omega) (fun k k0 k1 => ⟨by rw [Int.zero_add]; exact tq9 k k0 (by omega), tr9 k⟩)) (fun v3 s3 hqs3 => ?_)
                obtain ⟨z4, rfl, hs3, hzz4, hyz4, pz4_0, pz4_1, pz4_2⟩ := hqs3
                have es3 := hs3
                have hs3 := hs3.sub (w' := [17, 18, 20, 21, 22, 24, 25, 26, 28, 29, 30]) (List.forall_mem_cons.mpr ⟨(by simp), (List.forall_mem_cons.mpr ⟨(by simp), (List.forall_mem_cons.mpr ⟨(by simp), (fun _ h => by cases h)⟩)⟩)⟩)
                have k6 := es3.b.1 _ _ (nm_c (dq_7 _ hs) (nm_c (dq_8 _ hs) (nm_c (dq_9 _ hs) nm_0))) (fun l z => by cases z) hrx4
                have k7 := es3.b.1 _ _ (nm_c (by decide) (nm_c (by decide) (nm_c (by decide) nm_0))) (fun l z => by cases z) k5
                have k8 := es3.b.1 _ _ (nm_c (by decide) (nm_c (by decide) (nm_c (by decide) nm_0))) (fun l z => by cases z) hux4
                have k9 := es3.b.1 _ _ (nm_c (by decide) (nm_c (by decide) (nm_c (by decide) nm_0))) (fun l z => by cases z) hix5
                have k10 := es3.b.1 _ _ (nm_c (by decide) (nm_c (by decide) (nm_c (by decide) nm_0))) (fun l z => by cases z) hcx6
                have gs3 := gs2.trans hs3
                have hU3 := UL.ints pz2_0 pz4_0
                rw [a1h] at pz4_1 pz4_2
                have cd23 := pz4_1
                have iq23 := il_fr hs2.1 kdX_18 es3 (by decide)
                refine T.if_eq rfl rfl (by omega) (fun c6 => ?_) (fun c6 => ?_)
                · refine T.go 1 (fun n9 => (rfl : _ = exe ξ n9 (d + 3) j_U_learnCodes 183 [(0, .ref 17), (1, J a1), (2, J a2), (3, J a3), (4, J i)] [J 0] s3)) ?_
                  have nf13 := af_of (i := 8) k8 rfl (by omega)
                  have nf14 := af_of (i := 9) k8 rfl (by omega)
                  have nf15 := af_of (i := 10) k8 rfl (by omega)
                  have nf16 := af_of (i := 11) k8 rfl (by omega)
                  have nf17 := af_of (i := 8) k8 rfl (by omega)
                  have nf18 := af_of (i := 9) k8 rfl (by omega)
                  have nf19 := af_of (i := 10) k8 rfl (by omega)
                  have nf20 := af_of (i := 11) k8 rfl (by omega)
                  exact T.iretz rfl rfl (by omega) ⟨_, rfl, gs3, by omega, by omega, hU3, (fun h => absurd h (by decide)), (fun _ q => absurd ((pz4_2).mpr (Or.inl q.2.2.2.2.2.2.2.1)) (by omega)), ⟨by omega, by omega⟩⟩
                · refine T.go 1 (fun n9 => (rfl : _ = exe ξ n9 (d + 3) j_U_learnCodes 162 [(0, .ref 17), (1, J a1), (2, J a2), (3, J a3), (4, J i)] [.ref 17] s3)) ?_
                  refine T.get rfl rfl rfl k8 rfl ?_
                  refine T.go 1 (fun n9 => (rfl : _ = exe ξ n9 (d + 3) j_U_learnCodes 166 [(0, .ref 17), (1, J a1), (2, J a2), (3, J a3), (4, J i)] [.ref 17, .ref 27] s3)) ?_
                  refine T.get rfl rfl rfl k8 rfl ?_
                  refine T.go 3 (fun n9 => (rfl : _ = exe ξ n9 (d + 3) j_U_learnCodes 172 [(0, .ref 17), (1, J a1), (2, J a2), (3, J a3), (4, J i)] [J 1, J a2, J a1, .ref 18, .ref 27] s3)) ?_
                  have nf21 := af_of (i := 8) k8 rfl (by omega)
                  have nf22 := af_of (i := 9) k8 rfl (by omega)
                  have nf23 := af_of (i := 10) k8 rfl (by omega)
                  have nf24 := af_of (i := 11) k8 rfl (by omega)
                  have tq8 : ∀ k : Int, 0 ≤ k → k < a1 + a2 → gl (il s3 18) k = (TQ g (afld σ 17 10) (afld σ 17 9)).2.2 k := by rw [iq23]; exact tq9
                  have hcx7 := hs3.1.cod (c := 27) (by decide)
                  refine T.callv (as := [.ref 18, J a1, J a2, J 1]) (r := []) rfl rfl rfl rfl hcx7 rfl (s_C_flearn (d + 1) 27 (fun j => (TQ g (afld σ 17 10) (afld σ 17 9)).2.2 (hlQ g (afld σ 17 9) + j)) a1 a2 1 s3 hs3.1 (by decide) (by omega) (by omega) (by omega) (by omega) (by rw [il_len hs3.1 (show kdX[27 + 3]? = some (1, 0, 30) by decide +kernel)]; omega) (fun k k0 k1 => ⟨by rw [a1h]; exact tq8 (hlQ g (afld σ 17 9) + k) (by omega) (by omega), tr9 _⟩)) (fun v4 s4 hqs4 => ?_)
                  obtain ⟨z5, rfl, hs4, hzz5, hyz5, pz5_0, pz5_1, pz5_2⟩ := hqs4
                  have es4 := hs4
                  have hs4 := hs4.sub (w' := [17, 18, 20, 21, 22, 24, 25, 26, 28, 29, 30]) (List.forall_mem_cons.mpr ⟨(by simp), (List.forall_mem_cons.mpr ⟨(by simp), (List.forall_mem_cons.mpr ⟨(by simp), (fun _ h => by cases h)⟩)⟩)⟩)
                  have k11 := es4.b.1 _ _ (nm_c (dq_10 _ hs) (nm_c (dq_11 _ hs) (nm_c (dq_12 _ hs) nm_0))) (fun l z => by cases z) k6
                  have k12 := es4.b.1 _ _ (nm_c (by decide) (nm_c (by decide) (nm_c (by decide) nm_0))) (fun l z => by cases z) k7
                  have k13 := es4.b.1 _ _ (nm_c (by decide) (nm_c (by decide) (nm_c (by decide) nm_0))) (fun l z => by cases z) k8
                  have k14 := es4.b.1 _ _ (nm_c (by decide) (nm_c (by decide) (nm_c (by decide) nm_0))) (fun l z => by cases z) k9
                  have k15 := es4.b.1 _ _ (nm_c (by decide) (nm_c (by decide) (nm_c (by decide) nm_0))) (fun l z => by cases z) k10
                  have k16 := es4.b.1 _ _ (nm_c (by decide) (nm_c (by decide) (nm_c (by decide) nm_0))) (fun l z => by cases z) hcx7
                  have gs4 := gs3.trans hs4
                  have hU4 := UL.ints hU3 pz5_0
                  rw [a2h] at pz5_1 pz5_2
                  have cd23b := cd23.fr hs3.1 (by decide) es4 (by decide) (by decide)
                  refine T.if_eq rfl rfl (by omega) (fun c7 => ?_) (fun c7 => ?_)
                  · refine T.go 1 (fun n9 => (rfl : _ = exe ξ n9 (d + 3) j_U_learnCodes 183 [(0, .ref 17), (1, J a1), (2, J a2), (3, J a3), (4, J i)] [J 0] s4)) ?_
                    have nf25 := af_of (i := 8) k13 rfl (by omega)
                    have nf26 := af_of (i := 9) k13 rfl (by omega)
                    have nf27 := af_of (i := 10) k13 rfl (by omega)
                    have nf28 := af_of (i := 11) k13 rfl (by omega)
                    have nf29 := af_of (i := 8) k13 rfl (by omega)
                    have nf30 := af_of (i := 9) k13 rfl (by omega)
                    have nf31 := af_of (i := 10) k13 rfl (by omega)
                    have nf32 := af_of (i := 11) k13 rfl (by omega)
                    exact T.iretz rfl rfl (by omega) ⟨_, rfl, gs4, by omega, by omega, hU4, (fun h => absurd h (by decide)), (fun _ q => absurd ((pz5_2).mpr (q.2.2.2.2.2.2.2.2.imp id (fun u => ⟨u, rfl⟩))) (by omega)), ⟨by omega, by omega⟩⟩
                  · refine T.go 2 (fun n9 => (rfl : _ = exe ξ n9 (d + 3) j_U_learnCodes 183 [(0, .ref 17), (1, J a1), (2, J a2), (3, J a3), (4, J i)] [J 1] s4)) ?_
                    have nf33 := af_of (i := 8) k13 rfl (by omega)
                    have nf34 := af_of (i := 9) k13 rfl (by omega)
                    have nf35 := af_of (i := 10) k13 rfl (by omega)
                    have nf36 := af_of (i := 11) k13 rfl (by omega)
                    have nf37 := af_of (i := 8) k13 rfl (by omega)
                    have nf38 := af_of (i := 9) k13 rfl (by omega)
                    have nf39 := af_of (i := 10) k13 rfl (by omega)
                    have nf40 := af_of (i := 11) k13 rfl (by omega)
                    exact T.iretz rfl rfl (by omega) ⟨_, rfl, gs4, by omega, by omega, hU4, (fun _ => ⟨⟨by omega, by omega, by omega, by omega, ((pz1_2).mp (by omega)).elim id (fun u => absurd u.2 (by decide)), tl9.1, nz9, ((pz4_2).mp (by omega)).elim id (fun u => absurd u.2 (by decide)), ((pz5_2).mp (by omega)).imp id And.left⟩, cd23b, pz5_1, by omega, by omega⟩), (fun h => absurd h (by decide)), ⟨by omega, by omega⟩⟩
      · refine T.go 2 (fun n9 => (rfl : _ = exe ξ n9 (d + 3) j_U_learnCodes 70 [(0, .ref 17), (1, J a1), (2, J a2), (3, J a3), (4, J i)] [.ref 1, J i] τ)) ?_
        refine T.xlen rfl rfl hX1 ?_
        rw [show (X1.length : Int) = 19 by omega]
        refine T.icmp_ge rfl rfl (by omega) (by omega) (fun c8 => ?_) (fun c8 => ?_)
        · refine T.go 1 (fun n9 => (rfl : _ = exe ξ n9 (d + 3) j_U_learnCodes 97 [(0, .ref 17), (1, J a1), (2, J a2), (3, J a3), (4, J i)] [.ref 17] τ)) ?_
          refine T.get rfl rfl rfl hux2 rfl ?_
          refine T.if_ne rfl rfl (by omega) (fun c9 => ?_) (fun c9 => ?_)
          · refine T.go 1 (fun n9 => (rfl : _ = exe ξ n9 (d + 3) j_U_learnCodes 183 [(0, .ref 17), (1, J a1), (2, J a2), (3, J a3), (4, J i)] [J 0] τ)) ?_
            have uh : hlQ g (afld σ 17 9) = 257 + BV g (afld σ 17 9) 5 := rfl
            have ud : hdQ g (afld σ 17 9) = 1 + BV g (afld σ 17 9 + 5) 5 := rfl
            have uc : hcQ g (afld σ 17 9) = 4 + BV g (afld σ 17 9 + 10) 4 := rfl
            exact T.iretz rfl rfl (by omega) ⟨_, rfl, hτ, by omega, by omega, uτ, (fun h => absurd h (by decide)), (fun _ q => by have q0 := q.1; have q1 := q.2.1; have q2 := q.2.2.1; have q3 := q.2.2.2.1; omega), ⟨by omega, by omega⟩⟩
          · refine T.go 1 (fun n9 => (rfl : _ = exe ξ n9 (d + 3) j_U_learnCodes 104 [(0, .ref 17), (1, J a1), (2, J a2), (3, J a3), (4, J i)] [.ref 17] τ)) ?_
            refine T.get rfl rfl rfl hux2 rfl ?_
            refine T.go 1 (fun n9 => (rfl : _ = exe ξ n9 (d + 3) j_U_learnCodes 108 [(0, .ref 17), (1, J a1), (2, J a2), (3, J a3), (4, J i)] [.ref 17, .ref 19] τ)) ?_
            refine T.get rfl rfl rfl hux2 rfl ?_
            refine T.go 2 (fun n9 => (rfl : _ = exe ξ n9 (d + 3) j_U_learnCodes 115 [(0, .ref 17), (1, J a1), (2, J a2), (3, J a3), (4, J i)] [.ref 1, J 0, .ref 18, .ref 19] τ)) ?_
            refine T.xlen rfl rfl hX1 ?_
            rw [show (X1.length : Int) = 19 by omega]
            refine T.go 1 (fun n9 => (rfl : _ = exe ξ n9 (d + 3) j_U_learnCodes 117 [(0, .ref 17), (1, J a1), (2, J a2), (3, J a3), (4, J i)] [J 0, J 19, J 0, .ref 18, .ref 19] τ)) ?_
            have a1h := i0
            have a2h := i1
            have cq9 : ∀ j : Int, 0 ≤ j → j < 320 → gl (il τ 18) j = CQ g (afld σ 17 9 + 14) (hcQ g (afld σ 17 9)).toNat j := by rw [← show i = hcQ g (afld σ 17 9) by omega]; exact i7 (by omega)
            have hcx8 := hτ.1.cod (c := 19) (by decide)
            refine T.callv (as := [.ref 18, J 0, J 19, J 0]) (r := []) rfl rfl rfl rfl hcx8 rfl (s_C_flearn (d + 1) 19 (CQ g (afld σ 17 9 + 14) (hcQ g (afld σ 17 9)).toNat) 0 19 0 τ hτ.1 (by decide) (by omega) (by omega) (by omega) (by omega) (by rw [il_len hτ.1 (show kdX[19 + 3]? = some (1, 0, 19) by decide +kernel)]; omega) (fun k k0 k1 => ⟨by rw [Int.zero_add]; exact cq9 k k0 (by omega), by have := CQ_r g (afld σ 17 9 + 14) (hcQ g (afld σ 17 9)).toNat k; omega⟩)) (fun v5 s5 hqs5 => ?_)
            obtain ⟨z6, rfl, hs5, hzz6, hyz6, pz6_0, pz6_1, pz6_2⟩ := hqs5
            have es5 := hs5
            have hs5 := hs5.sub (w' := [17, 18, 20, 21, 22, 24, 25, 26, 28, 29, 30]) (List.forall_mem_cons.mpr ⟨(by simp), (List.forall_mem_cons.mpr ⟨(by simp), (List.forall_mem_cons.mpr ⟨(by simp), (fun _ h => by cases h)⟩)⟩)⟩)
            have k17 := es5.b.1 _ _ (nm_c (by decide) (nm_c (by decide) (nm_c (by decide) nm_0))) (fun l z => by cases z) hux2
            have k18 := es5.b.1 _ _ (nm_c (dq_4 _ hs) (nm_c (dq_5 _ hs) (nm_c (dq_6 _ hs) nm_0))) (fun l z => by cases z) hrx2
            have k19 := es5.b.1 _ _ (nm_c (by decide) (nm_c (by decide) (nm_c (by decide) nm_0))) (fun l z => by cases z) hcx8
            have gs5 := hτ.trans hs5
            have hU5 := UL.ints uτ pz6_0
            have cd19 := pz6_1
            refine T.if_eq rfl rfl (by omega) (fun c10 => ?_) (fun c10 => ?_)
            · refine T.go 1 (fun n9 => (rfl : _ = exe ξ n9 (d + 3) j_U_learnCodes 183 [(0, .ref 17), (1, J a1), (2, J a2), (3, J a3), (4, J i)] [J 0] s5)) ?_
              have nf41 := af_of (i := 8) k17 rfl (by omega)
              have nf42 := af_of (i := 9) k17 rfl (by omega)
              have nf43 := af_of (i := 10) k17 rfl (by omega)
              have nf44 := af_of (i := 11) k17 rfl (by omega)
              have nf45 := af_of (i := 8) k17 rfl (by omega)
              have nf46 := af_of (i := 9) k17 rfl (by omega)
              have nf47 := af_of (i := 10) k17 rfl (by omega)
              have nf48 := af_of (i := 11) k17 rfl (by omega)
              exact T.iretz rfl rfl (by omega) ⟨_, rfl, gs5, by omega, by omega, hU5, (fun h => absurd h (by decide)), (fun _ q => absurd ((pz6_2).mpr (Or.inl q.2.2.2.2.1)) (by omega)), ⟨by omega, by omega⟩⟩
            · refine T.go 3 (fun n9 => (rfl : _ = exe ξ n9 (d + 3) j_U_learnCodes 126 [(0, .ref 17), (1, J a1), (2, J a2), (3, J a3), (4, J i)] [J a2, J a1, .ref 17] s5)) ?_
              refine T.iadd rfl ?_
              have nf49 := af_of (i := 8) k17 rfl (by omega)
              have nf50 := af_of (i := 9) k17 rfl (by omega)
              have nf51 := af_of (i := 10) k17 rfl (by omega)
              have nf52 := af_of (i := 11) k17 rfl (by omega)
              have na2 := (gs5.b.2 hNA).1
              have hg2 := hg.fr hNA gs5 hs (nm_c (dq_1 _ hs) (nm_c (dq_3 _ hs) (nm_c (dq_4 _ hs) (nm_c (dq_5 _ hs) (nm_c (dq_6 _ hs) (nm_c (dq_7 _ hs) (nm_c (dq_8 _ hs) (nm_c (dq_9 _ hs) (nm_c (dq_10 _ hs) (nm_c (dq_11 _ hs) (nm_c (dq_12 _ hs) nm_0)))))))))))
              refine T.callv (as := [J (a1 + a2)]) (r := []) rfl rfl rfl rfl k17 rfl (s_U_ftellLengths d s t g (CQ g (afld σ 17 9 + 14) (hcQ g (afld σ 17 9)).toNat) (a1 + a2) s5 hs5.1  hs ht hst hU5 na2 hg2 cd19 (by omega) (by omega) (by omega) (by omega)) (fun v6 s6 hqs6 => ?_)
              obtain ⟨z7, rfl, hs6, hzz7, hyz7, pz7_0, pz7_1, pz7_2, pz7_3, pz7_4⟩ := hqs6
              have es6 := hs6
              have hs6 := hs6.sub (w' := [17, 18, 20, 21, 22, 24, 25, 26, 28, 29, 30]) (List.forall_mem_cons.mpr ⟨(by simp), (List.forall_mem_cons.mpr ⟨(by simp), (fun _ h => by cases h)⟩)⟩)
              have k20 := es6.b.1 _ _ (nm_c (dq_1 _ hs) (nm_c (dq_3 _ hs) nm_0)) (fun l z => by cases z) k18
              have k21 := es6.b.1 _ _ (nm_c (by decide) (nm_c (by decide) nm_0)) (fun l z => by cases z) k19
              have gs6 := gs5.trans hs6
              have ep : TL g (afld s5 17 10) (CQ g (afld σ 17 9 + 14) (hcQ g (afld σ 17 9)).toNat) (a1 + a2) (a1 + a2 : Int).toNat 0 (afld s5 17 9) (fun _ => 0) = TQ g (afld σ 17 10) (afld σ 17 9) := by unfold TQ; rw [show afld s5 17 10 = afld σ 17 10 by omega, show afld s5 17 9 = afld σ 17 9 + 14 + 3 * hcQ g (afld σ 17 9) by omega, a1h, a2h]
              rw [ep] at pz7_1 pz7_2
              have tr9 : ∀ j, 0 ≤ (TQ g (afld σ 17 10) (afld σ 17 9)).2.2 j ∧ (TQ g (afld σ 17 10) (afld σ 17 9)).2.2 j ≤ 15 := TL_r _ _ _ _ (fun _ => by decide)
              refine T.if_eq rfl rfl (by omega) (fun c11 => ?_) (fun c11 => ?_)
              · refine T.go 1 (fun n9 => (rfl : _ = exe ξ n9 (d + 3) j_U_learnCodes 183 [(0, .ref 17), (1, J a1), (2, J a2), (3, J a3), (4, J i)] [J 0] s6)) ?_
                exact T.iretz rfl rfl (by omega) ⟨_, rfl, gs6, by omega, by omega, pz7_0, (fun h => absurd h (by decide)), (fun _ q => absurd q.2.2.2.2.2.1 (by rw [pz7_2 (by omega)]; decide)), ⟨by omega, by omega⟩⟩
              · refine T.go 1 (fun n9 => (rfl : _ = exe ξ n9 (d + 3) j_U_learnCodes 134 [(0, .ref 17), (1, J a1), (2, J a2), (3, J a3), (4, J i)] [.ref 17] s6)) ?_
                obtain ⟨wx9, bix9, bex9, rox9, mx9, nx9, bx9, lx9, hux9, hrx9, hbx9, ⟨fx9a, fx9b, fx9c, fx9d, fx9e, fx9f, fx9g, fx9h, fx9i, fx9j⟩, ⟨fx9k, fx9l, fx9m, fx9n⟩, fx9o, fx9p⟩ := UL.unf hs6.1 pz7_0 hs
                have af8x9 := af_of (i := 8) hux9 rfl (by omega)
                subst af8x9
                have af9x9 := af_of (i := 9) hux9 rfl (by omega)
                subst af9x9
                have af10x9 := af_of (i := 10) hux9 rfl (by omega)
                subst af10x9
                have af11x9 := af_of (i := 11) hux9 rfl (by omega)
                subst af11x9
                have ctx9 := CT_of hrx9 hbx9
                have rwx9 := rl_of hrx9 (by omega)
                subst rwx9
                refine T.get rfl rfl rfl hux9 rfl ?_
                refine T.go 1 (fun n9 => (rfl : _ = exe ξ n9 (d + 3) j_U_learnCodes 140 [(0, .ref 17), (1, J a1), (2, J a2), (3, J a3), (4, J i)] [J 256, .ref 18] s6)) ?_
                obtain ⟨lx10, hix10, elx10⟩ := hs6.1.ints kdX_18
                have ilx10 := il_of hix10
                refine T.iald rfl rfl hix10 (by omega) (fun z8 hzz8 hyz8 hez8 => ?_)
                have glz8 : gl (il s6 18) 256 = z8 := by rw [ilx10]; exact gl_of hez8 ⟨hzz8, hyz8⟩
                subst glz8
                have tl9 := pz7_1 (by omega)
                have tq9 : ∀ k : Int, 0 ≤ k → k < a1 + a2 → gl (il s6 18) k = (TQ g (afld σ 17 10) (afld σ 17 9)).2.2 k := fun k k0 k1 => by rw [← tl9.2.2]; unfold gw; rw [if_pos ⟨k0, k1⟩]
                have e256 := tq9 256 (by omega) (by omega)
                refine T.if_eq rfl rfl (by omega) (fun c12 => ?_) (fun c12 => ?_)
                · refine T.go 1 (fun n9 => (rfl : _ = exe ξ n9 (d + 3) j_U_learnCodes 183 [(0, .ref 17), (1, J a1), (2, J a2), (3, J a3), (4, J i)] [J 0] s6)) ?_
                  exact T.iretz rfl rfl (by omega) ⟨_, rfl, gs6, by omega, by omega, pz7_0, (fun h => absurd h (by decide)), (fun _ q => absurd (e256.symm.trans (by omega)) q.2.2.2.2.2.2.1), ⟨by omega, by omega⟩⟩
                · refine T.go 1 (fun n9 => (rfl : _ = exe ξ n9 (d + 3) j_U_learnCodes 145 [(0, .ref 17), (1, J a1), (2, J a2), (3, J a3), (4, J i)] [.ref 17] s6)) ?_
                  refine T.get rfl rfl rfl hux9 rfl ?_
                  refine T.go 1 (fun n9 => (rfl : _ = exe ξ n9 (d + 3) j_U_learnCodes 149 [(0, .ref 17), (1, J a1), (2, J a2), (3, J a3), (4, J i)] [.ref 17, .ref 23] s6)) ?_
                  refine T.get rfl rfl rfl hux9 rfl ?_
                  refine T.go 3 (fun n9 => (rfl : _ = exe ξ n9 (d + 3) j_U_learnCodes 155 [(0, .ref 17), (1, J a1), (2, J a2), (3, J a3), (4, J i)] [J 0, J a1, J 0, .ref 18, .ref 23] s6)) ?_
                  have nz9 : (TQ g (afld σ 17 10) (afld σ 17 9)).2.2 256 ≠ 0 := fun u => by rw [← e256] at u; omega
                  have hcx11 := hs6.1.cod (c := 23) (by decide)
                  refine T.callv (as := [.ref 18, J 0, J a1, J 0]) (r := []) rfl rfl rfl rfl hcx11 rfl (s_C_flearn (d + 1) 23 (TQ g (afld σ 17 10) (afld σ 17 9)).2.2 0 a1 0 s6 hs6.1 (by decide) (by omega) (by omega) (by omega) (by omega) (by rw [il_len hs6.1 (show kdX[23 + 3]? = some (1, 0, 286) by decide +kernel)]; omega) (fun k k0 k1 => ⟨by rw [Int.zero_add]; exact tq9 k k0 (by omega), tr9 k⟩)) (fun v7 s7 hqs7 => ?_)
                  obtain ⟨z9, rfl, hs7, hzz9, hyz9, pz9_0, pz9_1, pz9_2⟩ := hqs7
                  have es7 := hs7
                  have hs7 := hs7.sub (w' := [17, 18, 20, 21, 22, 24, 25, 26, 28, 29, 30]) (List.forall_mem_cons.mpr ⟨(by simp), (List.forall_mem_cons.mpr ⟨(by simp), (List.forall_mem_cons.mpr ⟨(by simp), (fun _ h => by cases h)⟩)⟩)⟩)
                  have k22 := es7.b.1 _ _ (nm_c (dq_7 _ hs) (nm_c (dq_8 _ hs) (nm_c (dq_9 _ hs) nm_0))) (fun l z => by cases z) hrx9
                  have k23 := es7.b.1 _ _ (nm_c (by decide) (nm_c (by decide) (nm_c (by decide) nm_0))) (fun l z => by cases z) k21
                  have k24 := es7.b.1 _ _ (nm_c (by decide) (nm_c (by decide) (nm_c (by decide) nm_0))) (fun l z => by cases z) hux9
                  have k25 := es7.b.1 _ _ (nm_c (by decide) (nm_c (by decide) (nm_c (by decide) nm_0))) (fun l z => by cases z) hix10
                  have k26 := es7.b.1 _ _ (nm_c (by decide) (nm_c (by decide) (nm_c (by decide) nm_0))) (fun l z => by cases z) hcx11
                  have gs7 := gs6.trans hs7
                  have hU7 := UL.ints pz7_0 pz9_0
                  rw [a1h] at pz9_1 pz9_2
                  have cd23 := pz9_1
                  have iq23 := il_fr hs6.1 kdX_18 es7 (by decide)
                  refine T.if_eq rfl rfl (by omega) (fun c13 => ?_) (fun c13 => ?_)
                  · refine T.go 1 (fun n9 => (rfl : _ = exe ξ n9 (d + 3) j_U_learnCodes 183 [(0, .ref 17), (1, J a1), (2, J a2), (3, J a3), (4, J i)] [J 0] s7)) ?_
                    have nf53 := af_of (i := 8) k24 rfl (by omega)
                    have nf54 := af_of (i := 9) k24 rfl (by omega)
                    have nf55 := af_of (i := 10) k24 rfl (by omega)
                    have nf56 := af_of (i := 11) k24 rfl (by omega)
                    have nf57 := af_of (i := 8) k24 rfl (by omega)
                    have nf58 := af_of (i := 9) k24 rfl (by omega)
                    have nf59 := af_of (i := 10) k24 rfl (by omega)
                    have nf60 := af_of (i := 11) k24 rfl (by omega)
                    exact T.iretz rfl rfl (by omega) ⟨_, rfl, gs7, by omega, by omega, hU7, (fun h => absurd h (by decide)), (fun _ q => absurd ((pz9_2).mpr (Or.inl q.2.2.2.2.2.2.2.1)) (by omega)), ⟨by omega, by omega⟩⟩
                  · refine T.go 1 (fun n9 => (rfl : _ = exe ξ n9 (d + 3) j_U_learnCodes 162 [(0, .ref 17), (1, J a1), (2, J a2), (3, J a3), (4, J i)] [.ref 17] s7)) ?_
                    refine T.get rfl rfl rfl k24 rfl ?_
                    refine T.go 1 (fun n9 => (rfl : _ = exe ξ n9 (d + 3) j_U_learnCodes 166 [(0, .ref 17), (1, J a1), (2, J a2), (3, J a3), (4, J i)] [.ref 17, .ref 27] s7)) ?_
                    refine T.get rfl rfl rfl k24 rfl ?_
                    refine T.go 3 (fun n9 => (rfl : _ = exe ξ n9 (d + 3) j_U_learnCodes 172 [(0, .ref 17), (1, J a1), (2, J a2), (3, J a3), (4, J i)] [J 1, J a2, J a1, .ref 18, .ref 27] s7)) ?_
                    have nf61 := af_of (i := 8) k24 rfl (by omega)
                    have nf62 := af_of (i := 9) k24 rfl (by omega)
                    have nf63 := af_of (i := 10) k24 rfl (by omega)
                    have nf64 := af_of (i := 11) k24 rfl (by omega)
                    have tq8 : ∀ k : Int, 0 ≤ k → k < a1 + a2 → gl (il s7 18) k = (TQ g (afld σ 17 10) (afld σ 17 9)).2.2 k := by rw [iq23]; exact tq9
                    have hcx12 := hs7.1.cod (c := 27) (by decide)
                    refine T.callv (as := [.ref 18, J a1, J a2, J 1]) (r := []) rfl rfl rfl rfl hcx12 rfl (s_C_flearn (d + 1) 27 (fun j => (TQ g (afld σ 17 10) (afld σ 17 9)).2.2 (hlQ g (afld σ 17 9) + j)) a1 a2 1 s7 hs7.1 (by decide) (by omega) (by omega) (by omega) (by omega) (by rw [il_len hs7.1 (show kdX[27 + 3]? = some (1, 0, 30) by decide +kernel)]; omega) (fun k k0 k1 => ⟨by rw [a1h]; exact tq8 (hlQ g (afld σ 17 9) + k) (by omega) (by omega), tr9 _⟩)) (fun v8 s8 hqs8 => ?_)
                    obtain ⟨z10, rfl, hs8, hzz10, hyz10, pz10_0, pz10_1, pz10_2⟩ := hqs8
                    have es8 := hs8
                    have hs8 := hs8.sub (w' := [17, 18, 20, 21, 22, 24, 25, 26, 28, 29, 30]) (List.forall_mem_cons.mpr ⟨(by simp), (List.forall_mem_cons.mpr ⟨(by simp), (List.forall_mem_cons.mpr ⟨(by simp), (fun _ h => by cases h)⟩)⟩)⟩)
                    have k27 := es8.b.1 _ _ (nm_c (dq_10 _ hs) (nm_c (dq_11 _ hs) (nm_c (dq_12 _ hs) nm_0))) (fun l z => by cases z) k22
                    have k28 := es8.b.1 _ _ (nm_c (by decide) (nm_c (by decide) (nm_c (by decide) nm_0))) (fun l z => by cases z) k23
                    have k29 := es8.b.1 _ _ (nm_c (by decide) (nm_c (by decide) (nm_c (by decide) nm_0))) (fun l z => by cases z) k24
                    have k30 := es8.b.1 _ _ (nm_c (by decide) (nm_c (by decide) (nm_c (by decide) nm_0))) (fun l z => by cases z) k25
                    have k31 := es8.b.1 _ _ (nm_c (by decide) (nm_c (by decide) (nm_c (by decide) nm_0))) (fun l z => by cases z) k26
                    have k32 := es8.b.1 _ _ (nm_c (by decide) (nm_c (by decide) (nm_c (by decide) nm_0))) (fun l z => by cases z) hcx12
                    have gs8 := gs7.trans hs8
                    have hU8 := UL.ints hU7 pz10_0
                    rw [a2h] at pz10_1 pz10_2
                    have cd23b := cd23.fr hs7.1 (by decide) es8 (by decide) (by decide)
                    refine T.if_eq rfl rfl (by omega) (fun c14 => ?_) (fun c14 => ?_)
                    · refine T.go 1 (fun n9 => (rfl : _ = exe ξ n9 (d + 3) j_U_learnCodes 183 [(0, .ref 17), (1, J a1), (2, J a2), (3, J a3), (4, J i)] [J 0] s8)) ?_
                      have nf65 := af_of (i := 8) k29 rfl (by omega)
                      have nf66 := af_of (i := 9) k29 rfl (by omega)
                      have nf67 := af_of (i := 10) k29 rfl (by omega)
                      have nf68 := af_of (i := 11) k29 rfl (by omega)
                      have nf69 := af_of (i := 8) k29 rfl (by omega)
                      have nf70 := af_of (i := 9) k29 rfl (by omega)
                      have nf71 := af_of (i := 10) k29 rfl (by omega)
                      have nf72 := af_of (i := 11) k29 rfl (by omega)
                      exact T.iretz rfl rfl (by omega) ⟨_, rfl, gs8, by omega, by omega, hU8, (fun h => absurd h (by decide)), (fun _ q => absurd ((pz10_2).mpr (q.2.2.2.2.2.2.2.2.imp id (fun u => ⟨u, rfl⟩))) (by omega)), ⟨by omega, by omega⟩⟩
                    · refine T.go 2 (fun n9 => (rfl : _ = exe ξ n9 (d + 3) j_U_learnCodes 183 [(0, .ref 17), (1, J a1), (2, J a2), (3, J a3), (4, J i)] [J 1] s8)) ?_
                      have nf73 := af_of (i := 8) k29 rfl (by omega)
                      have nf74 := af_of (i := 9) k29 rfl (by omega)
                      have nf75 := af_of (i := 10) k29 rfl (by omega)
                      have nf76 := af_of (i := 11) k29 rfl (by omega)
                      have nf77 := af_of (i := 8) k29 rfl (by omega)
                      have nf78 := af_of (i := 9) k29 rfl (by omega)
                      have nf79 := af_of (i := 10) k29 rfl (by omega)
                      have nf80 := af_of (i := 11) k29 rfl (by omega)
                      exact T.iretz rfl rfl (by omega) ⟨_, rfl, gs8, by omega, by omega, hU8, (fun _ => ⟨⟨by omega, by omega, by omega, by omega, ((pz6_2).mp (by omega)).elim id (fun u => absurd u.2 (by decide)), tl9.1, nz9, ((pz9_2).mp (by omega)).elim id (fun u => absurd u.2 (by decide)), ((pz10_2).mp (by omega)).imp id And.left⟩, cd23b, pz10_1, by omega, by omega⟩), (fun h => absurd h (by decide)), ⟨by omega, by omega⟩⟩
        · refine T.go 1 (fun n9 => (rfl : _ = exe ξ n9 (d + 3) j_U_learnCodes 75 [(0, .ref 17), (1, J a1), (2, J a2), (3, J a3), (4, J i)] [.ref 17] τ)) ?_
          refine T.get rfl rfl rfl hux2 rfl ?_
          refine T.go 2 (fun n9 => (rfl : _ = exe ξ n9 (d + 3) j_U_learnCodes 83 [(0, .ref 17), (1, J a1), (2, J a2), (3, J a3), (4, J i)] [J i, .ref 1, .ref 18] τ)) ?_
          refine T.xld rfl rfl hX1 (by omega) (fun z11 hzz11 hyz11 hez11 => ?_)
          have tvz11 := tb_at lX1 tab1_ok (by omega) ⟨hzz11, hyz11⟩ hez11
          subst tvz11
          have trz11 := ordQ_r (k := i) (by omega)
          refine T.go 2 (fun n9 => (rfl : _ = exe ξ n9 (d + 3) j_U_learnCodes 86 [(0, .ref 17), (1, J a1), (2, J a2), (3, J a3), (4, J i)] [J 3, .ref 17, J (ordQ i), .ref 18] τ)) ?_
          have na3 := (hτ.b.2 hNA).1
          have hg3 := hg.fr hNA hτ hs (nm_c (dq_1 _ hs) (nm_c (dq_3 _ hs) (nm_c (dq_4 _ hs) (nm_c (dq_5 _ hs) (nm_c (dq_6 _ hs) (nm_c (dq_7 _ hs) (nm_c (dq_8 _ hs) (nm_c (dq_9 _ hs) (nm_c (dq_10 _ hs) (nm_c (dq_11 _ hs) (nm_c (dq_12 _ hs) nm_0)))))))))))
          refine T.callv (as := [J 3]) (r := [J (ordQ i), .ref 18]) rfl rfl rfl rfl hux2 rfl (s_U_ftakeBits (d + 2) s t g 3 τ hτ.1  hs ht hst uτ na3 hg3 (by omega) (by omega) (by omega)) (fun v9 s9 hqs9 => ?_)
          obtain ⟨z12, rfl, hs9, hzz12, hyz12, pz12_0, pz12_1, pz12_2⟩ := hqs9
          have es9 := hs9
          have hs9 := hs9.sub (w' := [17, 18, 20, 21, 22, 24, 25, 26, 28, 29, 30]) (List.forall_mem_cons.mpr ⟨(by simp), (fun _ h => by cases h)⟩)
          have k33 := es9.b.1 _ _ (nm_c (dq_1 _ hs) nm_0) (fun l z => by cases z) hrx2
          have gs9 := hτ.trans hs9
          have nt1 := nb_fr na3 es9 ht (nm_c (dq_1 _ ht) nm_0)
          have rt1 := rl_eq (es9.2.2.1 t (List.mem_cons_of_mem _ ht) (nm_c (dq_1 _ ht) nm_0))
          rw [show (3 : Int).toNat = 3 from rfl] at pz12_1
          have iq1 := il_fr hτ.1 kdX_18 es9 (by decide)
          obtain ⟨lx13, hix13, elx13⟩ := hs9.1.ints kdX_18
          have ilx13 := il_of hix13
          obtain ⟨wx14, bix14, bex14, rox14, mx14, nx14, bx14, lx14, hux14, hrx14, hbx14, ⟨fx14a, fx14b, fx14c, fx14d, fx14e, fx14f, fx14g, fx14h, fx14i, fx14j⟩, ⟨fx14k, fx14l, fx14m, fx14n⟩, fx14o, fx14p⟩ := UL.unf hs9.1 pz12_0 hs
          have af8x14 := af_of (i := 8) hux14 rfl (by omega)
          subst af8x14
          have af9x14 := af_of (i := 9) hux14 rfl (by omega)
          subst af9x14
          have af10x14 := af_of (i := 10) hux14 rfl (by omega)
          subst af10x14
          have af11x14 := af_of (i := 11) hux14 rfl (by omega)
          subst af11x14
          have ctx14 := CT_of hrx14 hbx14
          have rwx14 := rl_of hrx14 (by omega)
          subst rwx14
          refine T.iastF (w := [17, 18, 20, 21, 22, 24, 25, 26, 28, 29, 30]) rfl hs9.1 hix13 (by omega) (by decide) (Or.inl (by decide)) (by simp) (fun s10 hs10 hcs10 hos10 => ?_)
          have els10 : (lx13.set (ordQ i : Int).toNat (Int32.ofInt z12)).length = 320 := List.length_set.trans elx13
          have gs10 := gs9.trans hs10
          have k34 := hos10 (dq_3 _ hs) hrx14
          have k35 := hos10 (by decide) hux14
          have k36 := hos10 (q_dif hbx14 hix13 (fun z => by cases z)) hbx14
          refine T.iinc (lv' := [(0, .ref 17), (1, J a1), (2, J a2), (3, J a3), (4, J (i + 1))]) rfl rfl rfl rfl ?_
          refine T.go 1 (fun n9 => (rfl : _ = exe ξ n9 (d + 3) j_U_learnCodes 59 [(0, .ref 17), (1, J a1), (2, J a2), (3, J a3), (4, J (i + 1))] [] s10)) ?_
          have hU10 : UL s t s10 := ⟨_, _, _, _, _, _, _, _, k35, k34, k36, by omega⟩
          have nf81 := af_of (i := 8) k35 rfl (by omega)
          have nf82 := af_of (i := 9) k35 rfl (by omega)
          have nf83 := af_of (i := 10) k35 rfl (by omega)
          have nf84 := af_of (i := 11) k35 rfl (by omega)
          have gs : ∀ j : Int, 0 ≤ j → gl (il s10 18) j = if j = ordQ i then z12 else gl (il τ 18) j := fun j hj => by rw [il_of hcs10, gl_set ⟨by omega, by omega⟩ ⟨by omega, by omega⟩ hj, ← ilx13, iq1]
          exact ih  a1 a2 a3 (i + 1) s10 gs10 hU10 i0 i1 i2 (by omega) (by omega) (by omega) (by omega) (fun h j j0 j1 => by have q0 : afld τ 17 11 = 0 := (by omega); have q1 : z12 = BV g (afld σ 17 9 + 14 + 3 * i) 3 := (by rw [← show afld τ 17 9 = afld σ 17 9 + 14 + 3 * i by omega]; omega); rw [CQ_step (by omega), gs j j0, q1]; show _ = (if j = ordQ i then _ else _); by_cases e : j = ordQ i; (· rw [if_pos e, if_pos e]); (· rw [if_neg e, if_neg e]; exact i7 q0 j j0 j1)) (by omega) (by omega) (by omega)
  refine T.go 2 (fun n9 => (rfl : _ = exe ξ n9 (d + 3) j_U_learnCodes 2 [(0, .ref 17)] [J 5, .ref 17] σ)) ?_
  refine T.callv (as := [J 5]) (r := []) rfl rfl rfl rfl hux1 rfl (s_U_ftakeBits (d + 2) s t g 5 σ hK  hs ht hst hU hNA hg (by omega) (by omega) (by omega)) (fun v10 s11 hqs11 => ?_)
  obtain ⟨z13, rfl, hs11, hzz13, hyz13, pz13_0, pz13_1, pz13_2⟩ := hqs11
  have es11 := hs11
  have hs11 := hs11.sub (w' := [17, 18, 20, 21, 22, 24, 25, 26, 28, 29, 30]) (List.forall_mem_cons.mpr ⟨(by simp), (fun _ h => by cases h)⟩)
  have k37 := es11.b.1 _ _ (nm_c (dq_1 _ hs) nm_0) (fun l z => by cases z) hrx1
  have nt2 := nb_fr hNA es11 ht (nm_c (dq_1 _ ht) nm_0)
  have rt2 := rl_eq (es11.2.2.1 t (List.mem_cons_of_mem _ ht) (nm_c (dq_1 _ ht) nm_0))
  rw [show (5 : Int).toNat = 5 from rfl] at pz13_1
  rcases pz13_1 with ⟨taz13, tbz13, tcz13, tdz13⟩ | ⟨taz13, tbz13, tcz13, tdz13⟩
  · have fkz13 := taz13
    refine T.go 1 (fun n9 => (rfl : _ = exe ξ n9 (d + 3) j_U_learnCodes 8 [(0, .ref 17)] [J 257, J z13] s11)) ?_
    refine T.iadd rfl ?_
    refine T.go 3 (fun n9 => (rfl : _ = exe ξ n9 (d + 3) j_U_learnCodes 12 [(0, .ref 17), (1, J (z13 + 257))] [J 5, .ref 17] s11)) ?_
    have na4 := (hs11.b.2 hNA).1
    have hg4 := hg.fr hNA hs11 hs (nm_c (dq_1 _ hs) (nm_c (dq_3 _ hs) (nm_c (dq_4 _ hs) (nm_c (dq_5 _ hs) (nm_c (dq_6 _ hs) (nm_c (dq_7 _ hs) (nm_c (dq_8 _ hs) (nm_c (dq_9 _ hs) (nm_c (dq_10 _ hs) (nm_c (dq_11 _ hs) (nm_c (dq_12 _ hs) nm_0)))))))))))
    obtain ⟨wx15, bix15, bex15, rox15, mx15, nx15, bx15, lx15, hux15, hrx15, hbx15, ⟨fx15a, fx15b, fx15c, fx15d, fx15e, fx15f, fx15g, fx15h, fx15i, fx15j⟩, ⟨fx15k, fx15l, fx15m, fx15n⟩, fx15o, fx15p⟩ := UL.unf hs11.1 pz13_0 hs
    have af8x15 := af_of (i := 8) hux15 rfl (by omega)
    subst af8x15
    have af9x15 := af_of (i := 9) hux15 rfl (by omega)
    subst af9x15
    have af10x15 := af_of (i := 10) hux15 rfl (by omega)
    subst af10x15
    have af11x15 := af_of (i := 11) hux15 rfl (by omega)
    subst af11x15
    have ctx15 := CT_of hrx15 hbx15
    have rwx15 := rl_of hrx15 (by omega)
    subst rwx15
    refine T.callv (as := [J 5]) (r := []) rfl rfl rfl rfl hux15 rfl (s_U_ftakeBits (d + 2) s t g 5 s11 hs11.1  hs ht hst pz13_0 na4 hg4 (by omega) (by omega) (by omega)) (fun v11 s12 hqs12 => ?_)
    obtain ⟨z14, rfl, hs12, hzz14, hyz14, pz14_0, pz14_1, pz14_2⟩ := hqs12
    have es12 := hs12
    have hs12 := hs12.sub (w' := [17, 18, 20, 21, 22, 24, 25, 26, 28, 29, 30]) (List.forall_mem_cons.mpr ⟨(by simp), (fun _ h => by cases h)⟩)
    have k38 := es12.b.1 _ _ (nm_c (dq_1 _ hs) nm_0) (fun l z => by cases z) hrx15
    have gs12 := hs11.trans hs12
    have nt3 := nb_fr na4 es12 ht (nm_c (dq_1 _ ht) nm_0)
    have rt3 := rl_eq (es12.2.2.1 t (List.mem_cons_of_mem _ ht) (nm_c (dq_1 _ ht) nm_0))
    have nt4 := nt3.trans nt2
    rw [show (5 : Int).toNat = 5 from rfl] at pz14_1
    rcases pz14_1 with ⟨taz14, tbz14, tcz14, tdz14⟩ | ⟨taz14, tbz14, tcz14, tdz14⟩
    · rw [show afld s11 17 9 = afld σ 17 9 + 5 by omega] at tbz14
      refine T.go 1 (fun n9 => (rfl : _ = exe ξ n9 (d + 3) j_U_learnCodes 16 [(0, .ref 17), (1, J (z13 + 257))] [J 1, J z14] s12)) ?_
      refine T.iadd rfl ?_
      refine T.go 3 (fun n9 => (rfl : _ = exe ξ n9 (d + 3) j_U_learnCodes 20 [(0, .ref 17), (1, J (z13 + 257)), (2, J (z14 + 1))] [J 4, .ref 17] s12)) ?_
      have na5 := (gs12.b.2 hNA).1
      have hg5 := hg.fr hNA gs12 hs (nm_c (dq_1 _ hs) (nm_c (dq_3 _ hs) (nm_c (dq_4 _ hs) (nm_c (dq_5 _ hs) (nm_c (dq_6 _ hs) (nm_c (dq_7 _ hs) (nm_c (dq_8 _ hs) (nm_c (dq_9 _ hs) (nm_c (dq_10 _ hs) (nm_c (dq_11 _ hs) (nm_c (dq_12 _ hs) nm_0)))))))))))
      obtain ⟨wx16, bix16, bex16, rox16, mx16, nx16, bx16, lx16, hux16, hrx16, hbx16, ⟨fx16a, fx16b, fx16c, fx16d, fx16e, fx16f, fx16g, fx16h, fx16i, fx16j⟩, ⟨fx16k, fx16l, fx16m, fx16n⟩, fx16o, fx16p⟩ := UL.unf hs12.1 pz14_0 hs
      have af8x16 := af_of (i := 8) hux16 rfl (by omega)
      subst af8x16
      have af9x16 := af_of (i := 9) hux16 rfl (by omega)
      subst af9x16
      have af10x16 := af_of (i := 10) hux16 rfl (by omega)
      subst af10x16
      have af11x16 := af_of (i := 11) hux16 rfl (by omega)
      subst af11x16
      have ctx16 := CT_of hrx16 hbx16
      have rwx16 := rl_of hrx16 (by omega)
      subst rwx16
      refine T.callv (as := [J 4]) (r := []) rfl rfl rfl rfl hux16 rfl (s_U_ftakeBits (d + 2) s t g 4 s12 hs12.1  hs ht hst pz14_0 na5 hg5 (by omega) (by omega) (by omega)) (fun v12 s13 hqs13 => ?_)
      obtain ⟨z15, rfl, hs13, hzz15, hyz15, pz15_0, pz15_1, pz15_2⟩ := hqs13
      have es13 := hs13
      have hs13 := hs13.sub (w' := [17, 18, 20, 21, 22, 24, 25, 26, 28, 29, 30]) (List.forall_mem_cons.mpr ⟨(by simp), (fun _ h => by cases h)⟩)
      have k39 := es13.b.1 _ _ (nm_c (dq_1 _ hs) nm_0) (fun l z => by cases z) hrx16
      have gs13 := gs12.trans hs13
      have nt5 := nb_fr na5 es13 ht (nm_c (dq_1 _ ht) nm_0)
      have rt4 := rl_eq (es13.2.2.1 t (List.mem_cons_of_mem _ ht) (nm_c (dq_1 _ ht) nm_0))
      have nt6 := nt5.trans nt4
      rw [show (4 : Int).toNat = 4 from rfl] at pz15_1
      rcases pz15_1 with ⟨taz15, tbz15, tcz15, tdz15⟩ | ⟨taz15, tbz15, tcz15, tdz15⟩
      · rw [show afld s12 17 9 = afld σ 17 9 + 10 by omega] at tbz15
        refine T.go 1 (fun n9 => (rfl : _ = exe ξ n9 (d + 3) j_U_learnCodes 24 [(0, .ref 17), (1, J (z13 + 257)), (2, J (z14 + 1))] [J 4, J z15] s13)) ?_
        refine T.iadd rfl ?_
        refine T.go 2 (fun n9 => (rfl : _ = exe ξ n9 (d + 3) j_U_learnCodes 27 [(0, .ref 17), (1, J (z13 + 257)), (2, J (z14 + 1)), (3, J (z15 + 4))] [.ref 17] s13)) ?_
        obtain ⟨wx17, bix17, bex17, rox17, mx17, nx17, bx17, lx17, hux17, hrx17, hbx17, ⟨fx17a, fx17b, fx17c, fx17d, fx17e, fx17f, fx17g, fx17h, fx17i, fx17j⟩, ⟨fx17k, fx17l, fx17m, fx17n⟩, fx17o, fx17p⟩ := UL.unf hs13.1 pz15_0 hs
        have af8x17 := af_of (i := 8) hux17 rfl (by omega)
        subst af8x17
        have af9x17 := af_of (i := 9) hux17 rfl (by omega)
        subst af9x17
        have af10x17 := af_of (i := 10) hux17 rfl (by omega)
        subst af10x17
        have af11x17 := af_of (i := 11) hux17 rfl (by omega)
        subst af11x17
        have ctx17 := CT_of hrx17 hbx17
        have rwx17 := rl_of hrx17 (by omega)
        subst rwx17
        refine T.get rfl rfl rfl hux17 rfl ?_
        refine T.if_ne rfl rfl (by omega) (fun c15 => ?_) (fun c15 => ?_)
        · refine T.go 1 (fun n9 => (rfl : _ = exe ξ n9 (d + 3) j_U_learnCodes 47 [(0, .ref 17), (1, J (z13 + 257)), (2, J (z14 + 1)), (3, J (z15 + 4))] [J 0] s13)) ?_
          have uh : hlQ g (afld σ 17 9) = 257 + BV g (afld σ 17 9) 5 := rfl
          have ud : hdQ g (afld σ 17 9) = 1 + BV g (afld σ 17 9 + 5) 5 := rfl
          have uc : hcQ g (afld σ 17 9) = 4 + BV g (afld σ 17 9 + 10) 4 := rfl
          exact T.iretz rfl rfl (by omega) ⟨_, rfl, gs13, by omega, by omega, pz15_0, (fun h => absurd h (by decide)), (fun _ q => by have q0 := q.1; have q1 := q.2.1; have q2 := q.2.2.1; have q3 := q.2.2.2.1; omega), ⟨by omega, by omega⟩⟩
        · refine T.go 2 (fun n9 => (rfl : _ = exe ξ n9 (d + 3) j_U_learnCodes 37 [(0, .ref 17), (1, J (z13 + 257)), (2, J (z14 + 1)), (3, J (z15 + 4))] [J 286, J (z13 + 257)] s13)) ?_
          refine T.icmp_gt rfl rfl (by omega) (by omega) (fun c16 => ?_) (fun c16 => ?_)
          · refine T.go 1 (fun n9 => (rfl : _ = exe ξ n9 (d + 3) j_U_learnCodes 47 [(0, .ref 17), (1, J (z13 + 257)), (2, J (z14 + 1)), (3, J (z15 + 4))] [J 0] s13)) ?_
            have uh : hlQ g (afld σ 17 9) = 257 + BV g (afld σ 17 9) 5 := rfl
            have ud : hdQ g (afld σ 17 9) = 1 + BV g (afld σ 17 9 + 5) 5 := rfl
            have uc : hcQ g (afld σ 17 9) = 4 + BV g (afld σ 17 9 + 10) 4 := rfl
            exact T.iretz rfl rfl (by omega) ⟨_, rfl, gs13, by omega, by omega, pz15_0, (fun h => absurd h (by decide)), (fun _ q => by have q0 := q.1; have q1 := q.2.1; have q2 := q.2.2.1; have q3 := q.2.2.2.1; omega), ⟨by omega, by omega⟩⟩
          · refine T.go 2 (fun n9 => (rfl : _ = exe ξ n9 (d + 3) j_U_learnCodes 43 [(0, .ref 17), (1, J (z13 + 257)), (2, J (z14 + 1)), (3, J (z15 + 4))] [J 30, J (z14 + 1)] s13)) ?_
            refine T.icmp_le rfl rfl (by omega) (by omega) (fun c17 => ?_) (fun c17 => ?_)
            · refine T.go 1 (fun n9 => (rfl : _ = exe ξ n9 (d + 3) j_U_learnCodes 49 [(0, .ref 17), (1, J (z13 + 257)), (2, J (z14 + 1)), (3, J (z15 + 4))] [.ref 17] s13)) ?_
              refine T.get rfl rfl rfl hux17 rfl ?_
              refine T.go 1 (fun n9 => (rfl : _ = exe ξ n9 (d + 3) j_U_learnCodes 53 [(0, .ref 17), (1, J (z13 + 257)), (2, J (z14 + 1)), (3, J (z15 + 4))] [J 0, .ref 18] s13)) ?_
              refine T.calls (as := [.ref 18, J 0]) (r := []) rfl rfl (by decide) rfl rfl (s_J_ffill2 (d + 2) 18 0 s13 hs13.1 kdX_18 (by decide) rfl (by decide) (Or.inl (by decide)) (by omega)) (fun v13 s14 hqs14 => ?_)
              obtain ⟨rfl, hs14, pz16_0, pz16_1⟩ := hqs14
              have es14 := hs14
              have hs14 := hs14.sub (w' := [17, 18, 20, 21, 22, 24, 25, 26, 28, 29, 30]) (List.forall_mem_cons.mpr ⟨(by simp), (fun _ h => by cases h)⟩)
              have k40 := es14.b.1 _ _ (nm_c (dq_3 _ hs) nm_0) (fun l z => by cases z) hrx17
              have k41 := es14.b.1 _ _ (nm_c (by decide) nm_0) (fun l z => by cases z) hux17
              have gs14 := gs13.trans hs14
              have hU14 := UL.ints pz15_0 pz16_0
              refine T.go 2 (fun n9 => (rfl : _ = exe ξ n9 (d + 3) j_U_learnCodes 59 [(0, .ref 17), (1, J (z13 + 257)), (2, J (z14 + 1)), (3, J (z15 + 4)), (4, J 0)] [] s14)) ?_
              have nf85 := af_of (i := 8) k41 rfl (by omega)
              have nf86 := af_of (i := 9) k41 rfl (by omega)
              have nf87 := af_of (i := 10) k41 rfl (by omega)
              have nf88 := af_of (i := 11) k41 rfl (by omega)
              exact loop59 _ (z13 + 257) (z14 + 1) (z15 + 4) 0 s14 gs14 hU14 (by unfold hlQ; omega) (by unfold hdQ; omega) (by unfold hcQ; omega) (by omega) (by omega) (by omega) (by omega) (fun _ j j0 j1 => pz16_1 j j0 j1) (by omega) (by omega) (Nat.lt_succ_self _)
            · refine T.go 1 (fun n9 => (rfl : _ = exe ξ n9 (d + 3) j_U_learnCodes 47 [(0, .ref 17), (1, J (z13 + 257)), (2, J (z14 + 1)), (3, J (z15 + 4))] [J 0] s13)) ?_
              have uh : hlQ g (afld σ 17 9) = 257 + BV g (afld σ 17 9) 5 := rfl
              have ud : hdQ g (afld σ 17 9) = 1 + BV g (afld σ 17 9 + 5) 5 := rfl
              have uc : hcQ g (afld σ 17 9) = 4 + BV g (afld σ 17 9 + 10) 4 := rfl
              exact T.iretz rfl rfl (by omega) ⟨_, rfl, gs13, by omega, by omega, pz15_0, (fun h => absurd h (by decide)), (fun _ q => by have q0 := q.1; have q1 := q.2.1; have q2 := q.2.2.1; have q3 := q.2.2.2.1; omega), ⟨by omega, by omega⟩⟩
      · have fkz15 := taz15
        refine T.go 1 (fun n9 => (rfl : _ = exe ξ n9 (d + 3) j_U_learnCodes 24 [(0, .ref 17), (1, J (z13 + 257)), (2, J (z14 + 1))] [J 4, J z15] s13)) ?_
        refine T.iadd rfl ?_
        refine T.go 2 (fun n9 => (rfl : _ = exe ξ n9 (d + 3) j_U_learnCodes 27 [(0, .ref 17), (1, J (z13 + 257)), (2, J (z14 + 1)), (3, J (z15 + 4))] [.ref 17] s13)) ?_
        obtain ⟨wx18, bix18, bex18, rox18, mx18, nx18, bx18, lx18, hux18, hrx18, hbx18, ⟨fx18a, fx18b, fx18c, fx18d, fx18e, fx18f, fx18g, fx18h, fx18i, fx18j⟩, ⟨fx18k, fx18l, fx18m, fx18n⟩, fx18o, fx18p⟩ := UL.unf hs13.1 pz15_0 hs
        have af8x18 := af_of (i := 8) hux18 rfl (by omega)
        subst af8x18
        have af9x18 := af_of (i := 9) hux18 rfl (by omega)
        subst af9x18
        have af10x18 := af_of (i := 10) hux18 rfl (by omega)
        subst af10x18
        have af11x18 := af_of (i := 11) hux18 rfl (by omega)
        subst af11x18
        have ctx18 := CT_of hrx18 hbx18
        have rwx18 := rl_of hrx18 (by omega)
        subst rwx18
        refine T.get rfl rfl rfl hux18 rfl ?_
        refine T.if_ne rfl rfl (by omega) (fun c18 => ?_) (fun c18 => ?_)
        · refine T.go 1 (fun n9 => (rfl : _ = exe ξ n9 (d + 3) j_U_learnCodes 47 [(0, .ref 17), (1, J (z13 + 257)), (2, J (z14 + 1)), (3, J (z15 + 4))] [J 0] s13)) ?_
          have uh : hlQ g (afld σ 17 9) = 257 + BV g (afld σ 17 9) 5 := rfl
          have ud : hdQ g (afld σ 17 9) = 1 + BV g (afld σ 17 9 + 5) 5 := rfl
          have uc : hcQ g (afld σ 17 9) = 4 + BV g (afld σ 17 9 + 10) 4 := rfl
          exact T.iretz rfl rfl (by omega) ⟨_, rfl, gs13, by omega, by omega, pz15_0, (fun h => absurd h (by decide)), (fun _ q => by have q0 := q.1; have q1 := q.2.1; have q2 := q.2.2.1; have q3 := q.2.2.2.1; omega), ⟨by omega, by omega⟩⟩
        · exfalso
          omega
    · have fkz14 := taz14
      refine T.go 1 (fun n9 => (rfl : _ = exe ξ n9 (d + 3) j_U_learnCodes 16 [(0, .ref 17), (1, J (z13 + 257))] [J 1, J z14] s12)) ?_
      refine T.iadd rfl ?_
      refine T.go 3 (fun n9 => (rfl : _ = exe ξ n9 (d + 3) j_U_learnCodes 20 [(0, .ref 17), (1, J (z13 + 257)), (2, J (z14 + 1))] [J 4, .ref 17] s12)) ?_
      have na6 := (gs12.b.2 hNA).1
      have hg6 := hg.fr hNA gs12 hs (nm_c (dq_1 _ hs) (nm_c (dq_3 _ hs) (nm_c (dq_4 _ hs) (nm_c (dq_5 _ hs) (nm_c (dq_6 _ hs) (nm_c (dq_7 _ hs) (nm_c (dq_8 _ hs) (nm_c (dq_9 _ hs) (nm_c (dq_10 _ hs) (nm_c (dq_11 _ hs) (nm_c (dq_12 _ hs) nm_0)))))))))))
      obtain ⟨wx19, bix19, bex19, rox19, mx19, nx19, bx19, lx19, hux19, hrx19, hbx19, ⟨fx19a, fx19b, fx19c, fx19d, fx19e, fx19f, fx19g, fx19h, fx19i, fx19j⟩, ⟨fx19k, fx19l, fx19m, fx19n⟩, fx19o, fx19p⟩ := UL.unf hs12.1 pz14_0 hs
      have af8x19 := af_of (i := 8) hux19 rfl (by omega)
      subst af8x19
      have af9x19 := af_of (i := 9) hux19 rfl (by omega)
      subst af9x19
      have af10x19 := af_of (i := 10) hux19 rfl (by omega)
      subst af10x19
      have af11x19 := af_of (i := 11) hux19 rfl (by omega)
      subst af11x19
      have ctx19 := CT_of hrx19 hbx19
      have rwx19 := rl_of hrx19 (by omega)
      subst rwx19
      refine T.callv (as := [J 4]) (r := []) rfl rfl rfl rfl hux19 rfl (s_U_ftakeBits (d + 2) s t g 4 s12 hs12.1  hs ht hst pz14_0 na6 hg6 (by omega) (by omega) (by omega)) (fun v14 s15 hqs15 => ?_)
      obtain ⟨z17, rfl, hs15, hzz17, hyz17, pz17_0, pz17_1, pz17_2⟩ := hqs15
      have es15 := hs15
      have hs15 := hs15.sub (w' := [17, 18, 20, 21, 22, 24, 25, 26, 28, 29, 30]) (List.forall_mem_cons.mpr ⟨(by simp), (fun _ h => by cases h)⟩)
      have k42 := es15.b.1 _ _ (nm_c (dq_1 _ hs) nm_0) (fun l z => by cases z) hrx19
      have gs15 := gs12.trans hs15
      have nt7 := nb_fr na6 es15 ht (nm_c (dq_1 _ ht) nm_0)
      have rt5 := rl_eq (es15.2.2.1 t (List.mem_cons_of_mem _ ht) (nm_c (dq_1 _ ht) nm_0))
      have nt8 := nt7.trans nt4
      rw [show (4 : Int).toNat = 4 from rfl] at pz17_1
      refine T.go 1 (fun n9 => (rfl : _ = exe ξ n9 (d + 3) j_U_learnCodes 24 [(0, .ref 17), (1, J (z13 + 257)), (2, J (z14 + 1))] [J 4, J z17] s15)) ?_
      refine T.iadd rfl ?_
      refine T.go 2 (fun n9 => (rfl : _ = exe ξ n9 (d + 3) j_U_learnCodes 27 [(0, .ref 17), (1, J (z13 + 257)), (2, J (z14 + 1)), (3, J (z17 + 4))] [.ref 17] s15)) ?_
      obtain ⟨wx20, bix20, bex20, rox20, mx20, nx20, bx20, lx20, hux20, hrx20, hbx20, ⟨fx20a, fx20b, fx20c, fx20d, fx20e, fx20f, fx20g, fx20h, fx20i, fx20j⟩, ⟨fx20k, fx20l, fx20m, fx20n⟩, fx20o, fx20p⟩ := UL.unf hs15.1 pz17_0 hs
      have af8x20 := af_of (i := 8) hux20 rfl (by omega)
      subst af8x20
      have af9x20 := af_of (i := 9) hux20 rfl (by omega)
      subst af9x20
      have af10x20 := af_of (i := 10) hux20 rfl (by omega)
      subst af10x20
      have af11x20 := af_of (i := 11) hux20 rfl (by omega)
      subst af11x20
      have ctx20 := CT_of hrx20 hbx20
      have rwx20 := rl_of hrx20 (by omega)
      subst rwx20
      refine T.get rfl rfl rfl hux20 rfl ?_
      refine T.if_ne rfl rfl (by omega) (fun c19 => ?_) (fun c19 => ?_)
      · refine T.go 1 (fun n9 => (rfl : _ = exe ξ n9 (d + 3) j_U_learnCodes 47 [(0, .ref 17), (1, J (z13 + 257)), (2, J (z14 + 1)), (3, J (z17 + 4))] [J 0] s15)) ?_
        have uh : hlQ g (afld σ 17 9) = 257 + BV g (afld σ 17 9) 5 := rfl
        have ud : hdQ g (afld σ 17 9) = 1 + BV g (afld σ 17 9 + 5) 5 := rfl
        have uc : hcQ g (afld σ 17 9) = 4 + BV g (afld σ 17 9 + 10) 4 := rfl
        exact T.iretz rfl rfl (by omega) ⟨_, rfl, gs15, by omega, by omega, pz17_0, (fun h => absurd h (by decide)), (fun _ q => by have q0 := q.1; have q1 := q.2.1; have q2 := q.2.2.1; have q3 := q.2.2.2.1; omega), ⟨by omega, by omega⟩⟩
      · exfalso
        omega
  · have fkz13 := taz13
    refine T.go 1 (fun n9 => (rfl : _ = exe ξ n9 (d + 3) j_U_learnCodes 8 [(0, .ref 17)] [J 257, J z13] s11)) ?_
    refine T.iadd rfl ?_
    refine T.go 3 (fun n9 => (rfl : _ = exe ξ n9 (d + 3) j_U_learnCodes 12 [(0, .ref 17), (1, J (z13 + 257))] [J 5, .ref 17] s11)) ?_
    have na7 := (hs11.b.2 hNA).1
    have hg7 := hg.fr hNA hs11 hs (nm_c (dq_1 _ hs) (nm_c (dq_3 _ hs) (nm_c (dq_4 _ hs) (nm_c (dq_5 _ hs) (nm_c (dq_6 _ hs) (nm_c (dq_7 _ hs) (nm_c (dq_8 _ hs) (nm_c (dq_9 _ hs) (nm_c (dq_10 _ hs) (nm_c (dq_11 _ hs) (nm_c (dq_12 _ hs) nm_0)))))))))))
    obtain ⟨wx21, bix21, bex21, rox21, mx21, nx21, bx21, lx21, hux21, hrx21, hbx21, ⟨fx21a, fx21b, fx21c, fx21d, fx21e, fx21f, fx21g, fx21h, fx21i, fx21j⟩, ⟨fx21k, fx21l, fx21m, fx21n⟩, fx21o, fx21p⟩ := UL.unf hs11.1 pz13_0 hs
    have af8x21 := af_of (i := 8) hux21 rfl (by omega)
    subst af8x21
    have af9x21 := af_of (i := 9) hux21 rfl (by omega)
    subst af9x21
    have af10x21 := af_of (i := 10) hux21 rfl (by omega)
    subst af10x21
    have af11x21 := af_of (i := 11) hux21 rfl (by omega)
    subst af11x21
    have ctx21 := CT_of hrx21 hbx21
    have rwx21 := rl_of hrx21 (by omega)
    subst rwx21
    refine T.callv (as := [J 5]) (r := []) rfl rfl rfl rfl hux21 rfl (s_U_ftakeBits (d + 2) s t g 5 s11 hs11.1  hs ht hst pz13_0 na7 hg7 (by omega) (by omega) (by omega)) (fun v15 s16 hqs16 => ?_)
    obtain ⟨z18, rfl, hs16, hzz18, hyz18, pz18_0, pz18_1, pz18_2⟩ := hqs16
    have es16 := hs16
    have hs16 := hs16.sub (w' := [17, 18, 20, 21, 22, 24, 25, 26, 28, 29, 30]) (List.forall_mem_cons.mpr ⟨(by simp), (fun _ h => by cases h)⟩)
    have k43 := es16.b.1 _ _ (nm_c (dq_1 _ hs) nm_0) (fun l z => by cases z) hrx21
    have gs16 := hs11.trans hs16
    have nt9 := nb_fr na7 es16 ht (nm_c (dq_1 _ ht) nm_0)
    have rt6 := rl_eq (es16.2.2.1 t (List.mem_cons_of_mem _ ht) (nm_c (dq_1 _ ht) nm_0))
    have nt10 := nt9.trans nt2
    rw [show (5 : Int).toNat = 5 from rfl] at pz18_1
    refine T.go 1 (fun n9 => (rfl : _ = exe ξ n9 (d + 3) j_U_learnCodes 16 [(0, .ref 17), (1, J (z13 + 257))] [J 1, J z18] s16)) ?_
    refine T.iadd rfl ?_
    refine T.go 3 (fun n9 => (rfl : _ = exe ξ n9 (d + 3) j_U_learnCodes 20 [(0, .ref 17), (1, J (z13 + 257)), (2, J (z18 + 1))] [J 4, .ref 17] s16)) ?_
    have na8 := (gs16.b.2 hNA).1
    have hg8 := hg.fr hNA gs16 hs (nm_c (dq_1 _ hs) (nm_c (dq_3 _ hs) (nm_c (dq_4 _ hs) (nm_c (dq_5 _ hs) (nm_c (dq_6 _ hs) (nm_c (dq_7 _ hs) (nm_c (dq_8 _ hs) (nm_c (dq_9 _ hs) (nm_c (dq_10 _ hs) (nm_c (dq_11 _ hs) (nm_c (dq_12 _ hs) nm_0)))))))))))
    obtain ⟨wx22, bix22, bex22, rox22, mx22, nx22, bx22, lx22, hux22, hrx22, hbx22, ⟨fx22a, fx22b, fx22c, fx22d, fx22e, fx22f, fx22g, fx22h, fx22i, fx22j⟩, ⟨fx22k, fx22l, fx22m, fx22n⟩, fx22o, fx22p⟩ := UL.unf hs16.1 pz18_0 hs
    have af8x22 := af_of (i := 8) hux22 rfl (by omega)
    subst af8x22
    have af9x22 := af_of (i := 9) hux22 rfl (by omega)
    subst af9x22
    have af10x22 := af_of (i := 10) hux22 rfl (by omega)
    subst af10x22
    have af11x22 := af_of (i := 11) hux22 rfl (by omega)
    subst af11x22
    have ctx22 := CT_of hrx22 hbx22
    have rwx22 := rl_of hrx22 (by omega)
    subst rwx22
    refine T.callv (as := [J 4]) (r := []) rfl rfl rfl rfl hux22 rfl (s_U_ftakeBits (d + 2) s t g 4 s16 hs16.1  hs ht hst pz18_0 na8 hg8 (by omega) (by omega) (by omega)) (fun v16 s17 hqs17 => ?_)
    obtain ⟨z19, rfl, hs17, hzz19, hyz19, pz19_0, pz19_1, pz19_2⟩ := hqs17
    have es17 := hs17
    have hs17 := hs17.sub (w' := [17, 18, 20, 21, 22, 24, 25, 26, 28, 29, 30]) (List.forall_mem_cons.mpr ⟨(by simp), (fun _ h => by cases h)⟩)
    have k44 := es17.b.1 _ _ (nm_c (dq_1 _ hs) nm_0) (fun l z => by cases z) hrx22
    have gs17 := gs16.trans hs17
    have nt11 := nb_fr na8 es17 ht (nm_c (dq_1 _ ht) nm_0)
    have rt7 := rl_eq (es17.2.2.1 t (List.mem_cons_of_mem _ ht) (nm_c (dq_1 _ ht) nm_0))
    have nt12 := nt11.trans nt10
    rw [show (4 : Int).toNat = 4 from rfl] at pz19_1
    refine T.go 1 (fun n9 => (rfl : _ = exe ξ n9 (d + 3) j_U_learnCodes 24 [(0, .ref 17), (1, J (z13 + 257)), (2, J (z18 + 1))] [J 4, J z19] s17)) ?_
    refine T.iadd rfl ?_
    refine T.go 2 (fun n9 => (rfl : _ = exe ξ n9 (d + 3) j_U_learnCodes 27 [(0, .ref 17), (1, J (z13 + 257)), (2, J (z18 + 1)), (3, J (z19 + 4))] [.ref 17] s17)) ?_
    obtain ⟨wx23, bix23, bex23, rox23, mx23, nx23, bx23, lx23, hux23, hrx23, hbx23, ⟨fx23a, fx23b, fx23c, fx23d, fx23e, fx23f, fx23g, fx23h, fx23i, fx23j⟩, ⟨fx23k, fx23l, fx23m, fx23n⟩, fx23o, fx23p⟩ := UL.unf hs17.1 pz19_0 hs
    have af8x23 := af_of (i := 8) hux23 rfl (by omega)
    subst af8x23
    have af9x23 := af_of (i := 9) hux23 rfl (by omega)
    subst af9x23
    have af10x23 := af_of (i := 10) hux23 rfl (by omega)
    subst af10x23
    have af11x23 := af_of (i := 11) hux23 rfl (by omega)
    subst af11x23
    have ctx23 := CT_of hrx23 hbx23
    have rwx23 := rl_of hrx23 (by omega)
    subst rwx23
    refine T.get rfl rfl rfl hux23 rfl ?_
    refine T.if_ne rfl rfl (by omega) (fun c20 => ?_) (fun c20 => ?_)
    · refine T.go 1 (fun n9 => (rfl : _ = exe ξ n9 (d + 3) j_U_learnCodes 47 [(0, .ref 17), (1, J (z13 + 257)), (2, J (z18 + 1)), (3, J (z19 + 4))] [J 0] s17)) ?_
      have uh : hlQ g (afld σ 17 9) = 257 + BV g (afld σ 17 9) 5 := rfl
      have ud : hdQ g (afld σ 17 9) = 1 + BV g (afld σ 17 9 + 5) 5 := rfl
      have uc : hcQ g (afld σ 17 9) = 4 + BV g (afld σ 17 9 + 10) 4 := rfl
      exact T.iretz rfl rfl (by omega) ⟨_, rfl, gs17, by omega, by omega, pz19_0, (fun h => absurd h (by decide)), (fun _ q => by have q0 := q.1; have q1 := q.2.1; have q2 := q.2.2.1; have q3 := q.2.2.2.1; omega), ⟨by omega, by omega⟩⟩
    · exfalso
      omega
