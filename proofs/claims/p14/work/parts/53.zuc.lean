/-! class Unpacker: signs up to a block's end. -/
set_option maxRecDepth 10000 in
set_option maxHeartbeats 4000000 in
theorem s_U_ffollowSigns {ξ : Nat → Option (Nat × List Int32)} (hX : XT ξ) (d : Nat) (s t : Nat) (g L1 : Int → Int) (m1 : Nat) (L2 : Int → Int) (m2 : Nat) (c : Nat) (e : Nat) (σ : qH) (hK : K σ) (hc : c ∈ CdL) (he : e ∈ CdL) (hs : s ∈ RwL) (ht : t ∈ RwL) (hst : s ≠ t) (hU : UL s t σ) (hNA : NA σ) (hg : AGR σ s g) (hmt : mst t = 8000) (hd1 : CD σ c L1 m1) (hd2 : CD σ e L2 m2) (hm1 : m1 ≤ 288) (hm2 : m2 ≤ 320) (pre0 : afld σ 17 11 = 0) : T ξ (d + 2) j_U_followSigns 0 (lv_args 0 [.ref 17, .ref c, .ref e]) [] σ (fun v σ' => ∃ z : Int, v = some (J z) ∧ Fr [17, t] σ σ' ∧ 0 ≤ z ∧ z ≤ 1 ∧ UL s t σ' ∧ (z = 1 → UR σ' t (FS g (afld σ 17 10) (afld σ 17 8) L1 m1 L2 m2 64001 (afld σ 17 9) (rl σ t) (nb σ t))) ∧ (z = 0 → (FS g (afld σ 17 10) (afld σ 17 8) L1 m1 L2 m2 64001 (afld σ 17 9) (rl σ t) (nb σ t)).1 = false) ∧ (afld σ' 17 8 = afld σ 17 8 ∧ afld σ' 17 10 = afld σ 17 10) ∧ (z = 1 → afld σ' 17 11 = 0)) := by
  have hX0 := hX
  obtain ⟨⟨X1, hX1, lX1⟩, ⟨X2, hX2, lX2⟩, ⟨X3, hX3, lX3⟩, ⟨X4, hX4, lX4⟩, ⟨X5, hX5, lX5⟩, ⟨X6, hX6, lX6⟩⟩ := hX
  have lY1 : X1.length = 19 := by rw [lX1]; rfl
  have lY2 : X2.length = 29 := by rw [lX2]; rfl
  have lY3 : X3.length = 29 := by rw [lX3]; rfl
  have lY4 : X4.length = 30 := by rw [lX4]; rfl
  have lY5 : X5.length = 30 := by rw [lX5]; rfl
  have lY6 : X6.length = 16 := by rw [lX6]; rfl
  have lc := CdL_lt2 c hc
  have le := CdL_lt2 e he
  obtain ⟨wx1, bix1, bex1, rox1, mx1, nx1, bx1, lx1, hux1, hrx1, hbx1, ⟨fx1a, fx1b, fx1c, fx1d, fx1e, fx1f, fx1g, fx1h, fx1i, fx1j⟩, ⟨fx1k, fx1l, fx1m, fx1n⟩, fx1o, fx1p⟩ := UL.unf hK hU hs
  have af8x1 := af_of (i := 8) hux1 rfl (by omega)
  subst af8x1
  have af9x1 := af_of (i := 9) hux1 rfl (by omega)
  subst af9x1
  have af10x1 := af_of (i := 10) hux1 rfl (by omega)
  subst af10x1
  have af11x1 := af_of (i := 11) hux1 rfl (by omega)
  subst af11x1
  have ctx1 := CT_of hrx1 hbx1
  have rwx1 := rl_of hrx1 (by omega)
  subst rwx1
  obtain ⟨mx2, nx2, bx2, lx2, hrx2, hbx2, fx2a, fx2b, fx2c, fx2d, fx2e, fx2g, fx2h, fx2i⟩ := hK.row ht
  have ctx2 := CT_of hrx2 hbx2
  have rwx2 := rl_of hrx2 (by omega)
  subst rwx2
  have loop2 : ∀ (f : Nat) (i : Int) (τ : qH), Fr [17, t] σ τ → UL s t τ → 0 ≤ i → i ≤ 64001 → FS g (afld σ 17 10) (afld σ 17 8) L1 m1 L2 m2 (64001 - i).toNat (afld τ 17 9) (rl τ t) (nb τ t) = FS g (afld σ 17 10) (afld σ 17 8) L1 m1 L2 m2 64001 (afld σ 17 9) (rl σ t) (nb σ t) → afld τ 17 8 = afld σ 17 8 → afld τ 17 10 = afld σ 17 10 → afld τ 17 11 = 0 → (64001 - i).toNat < f → T ξ (d + 2) j_U_followSigns 2 [(0, .ref 17), (1, .ref c), (2, .ref e), (3, J i)] [] τ (fun v σ' => ∃ z : Int, v = some (J z) ∧ Fr [17, t] σ σ' ∧ 0 ≤ z ∧ z ≤ 1 ∧ UL s t σ' ∧ (z = 1 → UR σ' t (FS g (afld σ 17 10) (afld σ 17 8) L1 m1 L2 m2 64001 (afld σ 17 9) (rl σ t) (nb σ t))) ∧ (z = 0 → (FS g (afld σ 17 10) (afld σ 17 8) L1 m1 L2 m2 64001 (afld σ 17 9) (rl σ t) (nb σ t)).1 = false) ∧ (afld σ' 17 8 = afld σ 17 8 ∧ afld σ' 17 10 = afld σ 17 10) ∧ (z = 1 → afld σ' 17 11 = 0)) := by
    intro f
    induction f with
    | zero => intro i τ hτ uτ i0 i1 i2 i3 i4 i5 hm; omega
    | succ f ih =>
      intro i τ hτ uτ i0 i1 i2 i3 i4 i5 hm
      obtain ⟨wx3, bix3, bex3, rox3, mx3, nx3, bx3, lx3, hux3, hrx3, hbx3, ⟨fx3a, fx3b, fx3c, fx3d, fx3e, fx3f, fx3g, fx3h, fx3i, fx3j⟩, ⟨fx3k, fx3l, fx3m, fx3n⟩, fx3o, fx3p⟩ := UL.unf hτ.1 uτ hs
      have af8x3 := af_of (i := 8) hux3 rfl (by omega)
      subst af8x3
      have af9x3 := af_of (i := 9) hux3 rfl (by omega)
      subst af9x3
      have af10x3 := af_of (i := 10) hux3 rfl (by omega)
      subst af10x3
      have af11x3 := af_of (i := 11) hux3 rfl (by omega)
      subst af11x3
      have ctx3 := CT_of hrx3 hbx3
      have rwx3 := rl_of hrx3 (by omega)
      subst rwx3
      obtain ⟨mx4, nx4, bx4, lx4, hrx4, hbx4, fx4a, fx4b, fx4c, fx4d, fx4e, fx4g, fx4h, fx4i⟩ := hτ.1.row ht
      have ctx4 := CT_of hrx4 hbx4
      have rwx4 := rl_of hrx4 (by omega)
      subst rwx4
      refine T.go 2 (fun n9 => (rfl : _ = exe ξ n9 (d + 2) j_U_followSigns 5 [(0, .ref 17), (1, .ref c), (2, .ref e), (3, J i)] [J 64000, J i] τ)) ?_
      refine T.icmp_gt rfl rfl (by omega) (by omega) (fun c1 => ?_) (fun c1 => ?_)
      · refine T.go 1 (fun n9 => (rfl : _ = exe ξ n9 (d + 2) j_U_followSigns 103 [(0, .ref 17), (1, .ref c), (2, .ref e), (3, J i)] [J 0] τ)) ?_
        exact T.iretz rfl rfl (by omega) ⟨_, rfl, hτ, by omega, by omega, uτ, (fun h => absurd h (by decide)), (fun _ => by rw [← i2, show (64001 - i).toNat = 0 by omega]; rfl), ⟨by omega, by omega⟩, by omega⟩
      · refine T.go 2 (fun n9 => (rfl : _ = exe ξ n9 (d + 2) j_U_followSigns 10 [(0, .ref 17), (1, .ref c), (2, .ref e), (3, J i)] [.ref c, .ref 17] τ)) ?_
        have na1 := (hτ.b.2 hNA).1
        have hg1 := hg.fr hNA hτ hs (nm_c (dq_1 _ hs) (nm_c hst nm_0))
        refine T.callv (as := [.ref c]) (r := []) rfl rfl rfl rfl hux3 rfl (s_U_fnextSign (d + 1) s t g L1 m1 c τ hτ.1 hc hs ht hst uτ na1 hg1 (hd1.fr hK hc hτ (nm_c ((by decide : ∀ u ∈ CdL, u + 1 ≠ 17 ∧ u + 3 ≠ 17) _ hc).1 (nm_c ((by decide : ∀ u ∈ CdL, ∀ v ∈ RwL, u + 1 ≠ v) _ hc _ ht) nm_0)) (nm_c ((by decide : ∀ u ∈ CdL, u + 1 ≠ 17 ∧ u + 3 ≠ 17) _ hc).2 (nm_c ((by decide : ∀ u ∈ CdL, ∀ v ∈ RwL, u + 3 ≠ v) _ hc _ ht) nm_0))) (by omega) ) (fun v1 s1 hqs1 => ?_)
        obtain ⟨z1, rfl, hs1, hzz1, hyz1, pz1_0, pz1_1, pz1_2, pz1_3⟩ := hqs1
        have es1 := hs1
        have hs1 := hs1.sub (w' := [17, t]) (List.forall_mem_cons.mpr ⟨(by simp), (fun _ h => by cases h)⟩)
        have k1 := es1.b.1 _ _ (nm_c (dq_1 _ hs) nm_0) (fun l z => by cases z) hrx3
        have k2 := es1.b.1 _ _ (nm_c (dq_1 _ ht) nm_0) (fun l z => by cases z) hrx4
        have gs1 := hτ.trans hs1
        have nt1 := nb_fr na1 es1 ht (nm_c (dq_1 _ ht) nm_0)
        have rt1 := rl_eq (es1.2.2.1 t (List.mem_cons_of_mem _ ht) (nm_c (dq_1 _ ht) nm_0))
        rw [show afld τ 17 10 = afld σ 17 10 by omega] at pz1_1 pz1_2
        obtain ⟨W1, hW1⟩ : ∃ W, SG g (afld σ 17 10) L1 m1 15 (afld τ 17 9) 0 0 = W := ⟨_, rfl⟩
        rw [hW1] at pz1_1 pz1_2
        have rW1 := SG_r (g := g) (e := afld σ 17 10) (L := L1) (n := m1) 15 (afld τ 17 9) 0 0 (Int.le_refl _)
        rw [hW1] at rW1
        subst pz1_1
        refine T.go 3 (fun n9 => (rfl : _ = exe ξ n9 (d + 2) j_U_followSigns 20 [(0, .ref 17), (1, .ref c), (2, .ref e), (3, J i), (4, J (W1.1))] [J 256, J (W1.1)] s1)) ?_
        refine T.icmp_ne rfl rfl (by omega) (by omega) (fun c2 => ?_) (fun c2 => ?_)
        · refine T.go 1 (fun n9 => (rfl : _ = exe ξ n9 (d + 2) j_U_followSigns 27 [(0, .ref 17), (1, .ref c), (2, .ref e), (3, J i), (4, J (W1.1))] [J (W1.1)] s1)) ?_
          refine T.if_ge rfl rfl (by omega) (fun c3 => ?_) (fun c3 => ?_)
          · refine T.go 2 (fun n9 => (rfl : _ = exe ξ n9 (d + 2) j_U_followSigns 37 [(0, .ref 17), (1, .ref c), (2, .ref e), (3, J i), (4, J (W1.1))] [J 256, J (W1.1)] s1)) ?_
            refine T.icmp_ge rfl rfl (by omega) (by omega) (fun c4 => ?_) (fun c4 => ?_)
            · refine T.go 3 (fun n9 => (rfl : _ = exe ξ n9 (d + 2) j_U_followSigns 80 [(0, .ref 17), (1, .ref c), (2, .ref e), (3, J i), (4, J (W1.1))] [J 256, J (W1.1), .ref 17] s1)) ?_
              refine T.isub rfl ?_
              refine T.go 1 (fun n9 => (rfl : _ = exe ξ n9 (d + 2) j_U_followSigns 82 [(0, .ref 17), (1, .ref c), (2, .ref e), (3, J i), (4, J (W1.1))] [J 1, J ((W1.1) - 256), .ref 17] s1)) ?_
              refine T.isub rfl ?_
              refine T.go 1 (fun n9 => (rfl : _ = exe ξ n9 (d + 2) j_U_followSigns 84 [(0, .ref 17), (1, .ref c), (2, .ref e), (3, J i), (4, J (W1.1))] [.ref e, J (((W1.1) - 256) - 1), .ref 17] s1)) ?_
              have na2 := (gs1.b.2 hNA).1
              have hg2 := hg.fr hNA gs1 hs (nm_c (dq_1 _ hs) (nm_c hst nm_0))
              obtain ⟨wx5, bix5, bex5, rox5, mx5, nx5, bx5, lx5, hux5, hrx5, hbx5, ⟨fx5a, fx5b, fx5c, fx5d, fx5e, fx5f, fx5g, fx5h, fx5i, fx5j⟩, ⟨fx5k, fx5l, fx5m, fx5n⟩, fx5o, fx5p⟩ := UL.unf hs1.1 pz1_0 hs
              have af8x5 := af_of (i := 8) hux5 rfl (by omega)
              subst af8x5
              have af9x5 := af_of (i := 9) hux5 rfl (by omega)
              subst af9x5
              have af10x5 := af_of (i := 10) hux5 rfl (by omega)
              subst af10x5
              have af11x5 := af_of (i := 11) hux5 rfl (by omega)
              subst af11x5
              have ctx5 := CT_of hrx5 hbx5
              have rwx5 := rl_of hrx5 (by omega)
              subst rwx5
              refine T.callv (as := [J (((W1.1) - 256) - 1), .ref e]) (r := []) rfl rfl rfl rfl hux5 rfl (s_U_fcopyBack hX0 d s t g L2 m2 (((W1.1) - 256) - 1) e s1 hs1.1 he hs ht hst pz1_0 na2 hg2 hmt (hd2.fr hK he gs1 (nm_c ((by decide : ∀ u ∈ CdL, u + 1 ≠ 17 ∧ u + 3 ≠ 17) _ he).1 (nm_c ((by decide : ∀ u ∈ CdL, ∀ v ∈ RwL, u + 1 ≠ v) _ he _ ht) nm_0)) (nm_c ((by decide : ∀ u ∈ CdL, u + 1 ≠ 17 ∧ u + 3 ≠ 17) _ he).2 (nm_c ((by decide : ∀ u ∈ CdL, ∀ v ∈ RwL, u + 3 ≠ v) _ he _ ht) nm_0))) (by omega) (by omega) (by omega) (by omega) (by omega)) (fun v2 s2 hqs2 => ?_)
              obtain ⟨z2, rfl, hs2, hzz2, hyz2, pz2_0, pz2_1, pz2_2, pz2_3, pz2_4⟩ := hqs2
              have es2 := hs2
              have k3 := es2.b.1 _ _ (nm_c (dq_1 _ hs) (nm_c hst nm_0)) (fun l z => by cases z) hrx5
              have gs2 := gs1.trans hs2
              rw [show afld s1 17 10 = afld σ 17 10 by omega, show afld s1 17 8 = afld σ 17 8 by omega, show ((W1.1) - 256) - 1 = W1.1 - 257 by omega, show afld s1 17 9 = W1.2 by omega, show rl s1 t = rl τ t by omega, nt1] at pz2_1 pz2_2
              refine T.go 2 (fun n9 => (rfl : _ = exe ξ n9 (d + 2) j_U_followSigns 91 [(0, .ref 17), (1, .ref c), (2, .ref e), (3, J i), (4, J (W1.1)), (5, J z2)] [J z2] s2)) ?_
              refine T.if_ne rfl rfl (by omega) (fun c5 => ?_) (fun c5 => ?_)
              · refine T.iinc (lv' := [(0, .ref 17), (1, .ref c), (2, .ref e), (3, J (i + 1)), (4, J (W1.1)), (5, J z2)]) rfl rfl rfl rfl ?_
                refine T.go 1 (fun n9 => (rfl : _ = exe ξ n9 (d + 2) j_U_followSigns 2 [(0, .ref 17), (1, .ref c), (2, .ref e), (3, J (i + 1)), (4, J (W1.1)), (5, J z2)] [] s2)) ?_
                refine T.drop (lv := [(0, .ref 17), (1, .ref c), (2, .ref e), (3, J (i + 1))]) [(4, J (W1.1)), (5, J z2)] (by simp) ?_
                obtain ⟨u1, u2, u3, u4⟩ := pz2_1 (by omega)
                exact ih  (i + 1) s2 gs2 pz2_0 (by omega) (by omega) (by rw [← i2, show (64001 - i).toNat = (64001 - (i + 1)).toNat + 1 by omega, FS_cpyW hW1 (by omega) u1, u2, u3, u4]) (by omega) (by omega) (by omega) (by omega)
              · refine T.go 1 (fun n9 => (rfl : _ = exe ξ n9 (d + 2) j_U_followSigns 95 [(0, .ref 17), (1, .ref c), (2, .ref e), (3, J i), (4, J (W1.1)), (5, J z2)] [J 0] s2)) ?_
                exact T.iretz rfl rfl (by omega) ⟨_, rfl, gs2, by omega, by omega, pz2_0, (fun h => absurd h (by decide)), (fun _ => by rw [← i2, show (64001 - i).toNat = (64001 - (i + 1)).toNat + 1 by omega]; exact FS_noC hW1 (by omega) (pz2_2 (by omega))), ⟨by omega, by omega⟩, by omega⟩
            · refine T.go 1 (fun n9 => (rfl : _ = exe ξ n9 (d + 2) j_U_followSigns 41 [(0, .ref 17), (1, .ref c), (2, .ref e), (3, J i), (4, J (W1.1))] [.ref 17] s1)) ?_
              obtain ⟨wx6, bix6, bex6, rox6, mx6, nx6, bx6, lx6, hux6, hrx6, hbx6, ⟨fx6a, fx6b, fx6c, fx6d, fx6e, fx6f, fx6g, fx6h, fx6i, fx6j⟩, ⟨fx6k, fx6l, fx6m, fx6n⟩, fx6o, fx6p⟩ := UL.unf hs1.1 pz1_0 hs
              have af8x6 := af_of (i := 8) hux6 rfl (by omega)
              subst af8x6
              have af9x6 := af_of (i := 9) hux6 rfl (by omega)
              subst af9x6
              have af10x6 := af_of (i := 10) hux6 rfl (by omega)
              subst af10x6
              have af11x6 := af_of (i := 11) hux6 rfl (by omega)
              subst af11x6
              have ctx6 := CT_of hrx6 hbx6
              have rwx6 := rl_of hrx6 (by omega)
              subst rwx6
              refine T.get rfl rfl rfl hux6 rfl ?_
              refine T.get rfl rfl rfl k2 rfl ?_
              refine T.go 1 (fun n9 => (rfl : _ = exe ξ n9 (d + 2) j_U_followSigns 48 [(0, .ref 17), (1, .ref c), (2, .ref e), (3, J i), (4, J (W1.1))] [.ref 17, J (rl τ t)] s1)) ?_
              refine T.get rfl rfl rfl hux6 rfl ?_
              refine T.icmp_ge rfl rfl (by omega) (by omega) (fun c6 => ?_) (fun c6 => ?_)
              · refine T.go 6 (fun n9 => (rfl : _ = exe ξ n9 (d + 2) j_U_followSigns 95 [(0, .ref 17), (1, .ref c), (2, .ref e), (3, J i), (4, J (W1.1)), (5, J 0)] [J 0] s1)) ?_
                exact T.iretz rfl rfl (by omega) ⟨_, rfl, gs1, by omega, by omega, pz1_0, (fun h => absurd h (by decide)), (fun _ => by rw [← i2, show (64001 - i).toNat = (64001 - (i + 1)).toNat + 1 by omega]; exact FS_noW hW1 (by omega)), ⟨by omega, by omega⟩, by omega⟩
              · refine T.go 1 (fun n9 => (rfl : _ = exe ξ n9 (d + 2) j_U_followSigns 55 [(0, .ref 17), (1, .ref c), (2, .ref e), (3, J i), (4, J (W1.1))] [.ref 17] s1)) ?_
                refine T.get rfl rfl rfl hux6 rfl ?_
                refine T.go 1 (fun n9 => (rfl : _ = exe ξ n9 (d + 2) j_U_followSigns 60 [(0, .ref 17), (1, .ref c), (2, .ref e), (3, J i), (4, J (W1.1))] [J (W1.1), .ref t] s1)) ?_
                refine T.callv (as := [J (W1.1)]) (r := []) rfl rfl rfl (RwL_lt _ ht).2.2.1 k2 rfl (s_R_fadd (d + 1) t (W1.1) s1 hs1.1 ht  (by omega)) (fun v3 s3 hqs3 => ?_)
                obtain ⟨z3, rfl, hs3, hzz3, hyz3, pz3_0, pz3_1, pz3_2⟩ := hqs3
                have es3 := hs3
                have hs3 := hs3.sub (w' := [17, t]) (List.forall_mem_cons.mpr ⟨(by simp), (fun _ h => by cases h)⟩)
                have k4 := es3.b.1 _ _ (nm_c hst nm_0) (fun l z => by cases z) hrx6
                have k5 := es3.b.1 _ _ (nm_c (dq_2 _ ht) nm_0) (fun l z => by cases z) hux6
                have gs3 := gs1.trans hs3
                have hU3 := UL.row pz1_0 hs3 pz3_0 hs hst ht
                have aA := pz3_2 (nb s1 t) nb_ag (by omega)
                have rA := pz3_1 (by omega)
                have zA := ZB_upd (v := (W1.1) % 256) (nb_zb (σ := s1) (r := t)) (by omega)
                rw [← rA.2] at zA
                have nbA := nb_of aA zA
                have rA1 := rA.1
                subst rA1
                rw [nt1, show rl s1 t = rl τ t by omega, show (W1.1) % 256 = W1.1 by omega] at nbA
                refine T.go 6 (fun n9 => (rfl : _ = exe ξ n9 (d + 2) j_U_followSigns 96 [(0, .ref 17), (1, .ref c), (2, .ref e), (3, J i), (4, J (W1.1)), (5, J 1)] [] s3)) ?_
                refine T.iinc (lv' := [(0, .ref 17), (1, .ref c), (2, .ref e), (3, J (i + 1)), (4, J (W1.1)), (5, J 1)]) rfl rfl rfl rfl ?_
                refine T.go 1 (fun n9 => (rfl : _ = exe ξ n9 (d + 2) j_U_followSigns 2 [(0, .ref 17), (1, .ref c), (2, .ref e), (3, J (i + 1)), (4, J (W1.1)), (5, J 1)] [] s3)) ?_
                refine T.drop (lv := [(0, .ref 17), (1, .ref c), (2, .ref e), (3, J (i + 1))]) [(4, J (W1.1)), (5, J 1)] (by simp) ?_
                have nf1 := af_of (i := 8) k5 rfl (by omega)
                have nf2 := af_of (i := 9) k5 rfl (by omega)
                have nf3 := af_of (i := 10) k5 rfl (by omega)
                have nf4 := af_of (i := 11) k5 rfl (by omega)
                exact ih  (i + 1) s3 gs3 hU3 (by omega) (by omega) (by rw [← i2, show (64001 - i).toNat = (64001 - (i + 1)).toNat + 1 by omega, FS_litW hW1 (by omega) (by omega) (by omega), show afld s3 17 9 = W1.2 by omega, show rl s3 t = rl τ t + 1 by omega, nbA]) (by omega) (by omega) (by omega) (by omega)
          · refine T.go 1 (fun n9 => (rfl : _ = exe ξ n9 (d + 2) j_U_followSigns 31 [(0, .ref 17), (1, .ref c), (2, .ref e), (3, J i), (4, J (W1.1))] [J 0] s1)) ?_
            exact T.iretz rfl rfl (by omega) ⟨_, rfl, gs1, by omega, by omega, pz1_0, (fun h => absurd h (by decide)), (fun _ => by rw [← i2, show (64001 - i).toNat = (64001 - (i + 1)).toNat + 1 by omega]; exact FS_noW hW1 (by omega)), ⟨by omega, by omega⟩, by omega⟩
        · refine T.go 1 (fun n9 => (rfl : _ = exe ξ n9 (d + 2) j_U_followSigns 24 [(0, .ref 17), (1, .ref c), (2, .ref e), (3, J i), (4, J (W1.1))] [J 1] s1)) ?_
          exact T.iretz rfl rfl (by omega) ⟨_, rfl, gs1, by omega, by omega, pz1_0, (fun _ => UR_fs (u := (true, W1.2, rl τ t, nb τ t)) ⟨rfl, by show afld s1 17 9 = W1.2; omega, by show rl s1 t = rl τ t; omega, nt1⟩ (by rw [← i2, show (64001 - i).toNat = (64001 - (i + 1)).toNat + 1 by omega, FS_endW hW1 (by omega)])), (fun h => absurd h (by decide)), ⟨by omega, by omega⟩, by omega⟩
  refine T.go 2 (fun n9 => (rfl : _ = exe ξ n9 (d + 2) j_U_followSigns 2 [(0, .ref 17), (1, .ref c), (2, .ref e), (3, J 0)] [] σ)) ?_
  exact loop2 _ 0 σ (Fr.refl hK) hU (by omega) (by omega) rfl (by omega) (by omega) (by omega) (Nat.lt_succ_self _)
