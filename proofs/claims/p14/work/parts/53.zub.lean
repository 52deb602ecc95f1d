/-! class Unpacker: a plain block; a copy. -/
set_option maxRecDepth 10000 in
set_option maxHeartbeats 4000000 in
theorem s_U_fcopyPlain {ξ : Nat → Option (Nat × List Int32)} (d : Nat) (s t : Nat) (g : Int → Int)  (σ : qH) (hK : K σ)  (hs : s ∈ RwL) (ht : t ∈ RwL) (hst : s ≠ t) (hU : UL s t σ) (hNA : NA σ) (hg : AGR σ s g) (hmt : mst t = 8000) : T ξ (d + 2) j_U_copyPlain 0 (lv_args 0 [.ref 17]) [] σ (fun v σ' => ∃ z : Int, v = some (J z) ∧ Fr [17, t] σ σ' ∧ 0 ≤ z ∧ z ≤ 1 ∧ UL s t σ' ∧ (z = 1 → UR σ' t (PLN g (afld σ 17 10) (afld σ 17 8) ((afld σ 17 9 + 7) / 8 * 8) (rl σ t) (nb σ t))) ∧ (afld σ 17 11 = 0 → z = 0 → (PLN g (afld σ 17 10) (afld σ 17 8) ((afld σ 17 9 + 7) / 8 * 8) (rl σ t) (nb σ t)).1 = false) ∧ (afld σ' 17 8 = afld σ 17 8 ∧ afld σ' 17 10 = afld σ 17 10) ∧ (z = 1 → afld σ 17 11 = 0 ∧ afld σ' 17 11 = 0)) := by
  obtain ⟨wx1, bix1, bex1, rox1, mx1, nx1, bx1, lx1, hux1, hrx1, hbx1, ⟨fx1a, fx1b, fx1c, fx1d, fx1e, fx1f, fx1g, fx1h, fx1i, fx1j⟩, ⟨fx1k, fx1l, fx1m, fx1n⟩, fx1o, fx1p⟩ := UL.unf hK hU hs
  have af8x1 := af_of (i := 8) hux1 rfl (by omega)
  subst af8x1
  have af9x1 := af_of (i := 9) hux1 rfl (by omega)
  subst af9x1
  have af10x1 := af_of (i := 10) hux1 rfl (by omega)
  subst af10x1
  have af11x1 := af_of (i := 11) hux1 rfl (by omega)
  subst af11x1
  have ctx1 := CT_of hrx1 hbx1
  have rwx1 := rl_of hrx1 (by omega)
  subst rwx1
  obtain ⟨mx2, nx2, bx2, lx2, hrx2, hbx2, fx2a, fx2b, fx2c, fx2d, fx2e, fx2g, fx2h, fx2i⟩ := hK.row ht
  have ctx2 := CT_of hrx2 hbx2
  have rwx2 := rl_of hrx2 (by omega)
  subst rwx2
  refine T.go 2 (fun n9 => (rfl : _ = exe ξ n9 (d + 2) j_U_copyPlain 2 [(0, .ref 17)] [.ref 17, .ref 17] σ)) ?_
  refine T.get rfl rfl rfl hux1 rfl ?_
  refine T.go 1 (fun n9 => (rfl : _ = exe ξ n9 (d + 2) j_U_copyPlain 7 [(0, .ref 17)] [J 7, J (afld σ 17 9), .ref 17] σ)) ?_
  refine T.iadd rfl ?_
  refine T.go 1 (fun n9 => (rfl : _ = exe ξ n9 (d + 2) j_U_copyPlain 10 [(0, .ref 17)] [J (-8), J ((afld σ 17 9) + 7), .ref 17] σ)) ?_
  refine T.iand8 rfl (by omega) ?_
  refine T.putF (w := [17, t]) rfl rfl hux1 rfl rfl rfl (fs' := [.ref 18, .ref 19, .ref 23, .ref 27, .ref 31, .ref 35, .ref s, .ref t, J (afld σ 17 8), J (((afld σ 17 9) + 7) - ((afld σ 17 9) + 7) % 8), J (afld σ 17 10), J (afld σ 17 11)]) rfl (Fr.other hK hux1 rfl (show okU _ from ⟨_, _, _, _, _, _, rfl, hs, ht, by omega⟩) (by decide) (Or.inl (by decide)) (fun _ z => by cases z) (by simp)) (fun s1 hs1 hcs1 hos1 => ?_)
  have nt1 := nb_set hK ht hux1 (dq_1 _ ht) hos1
  have rtnt1 := nt1.2
  have k1 := hos1 (dq_1 _ hs) hrx1
  have k2 := hos1 (q_dif hbx1 hux1 (fun z => by cases z)) hbx1
  have k3 := hos1 (dq_1 _ ht) hrx2
  have k4 := hos1 (q_dif hbx2 hux1 (fun z => by cases z)) hbx2
  refine T.go 2 (fun n9 => (rfl : _ = exe ξ n9 (d + 2) j_U_copyPlain 17 [(0, .ref 17)] [J 16, .ref 17] s1)) ?_
  have nf1 := af_of (i := 8) hcs1 rfl (by omega)
  have nf2 := af_of (i := 9) hcs1 rfl (by omega)
  have nf3 := af_of (i := 10) hcs1 rfl (by omega)
  have nf4 := af_of (i := 11) hcs1 rfl (by omega)
  have na1 := (hs1.b.2 hNA).1
  have hg1 := hg.fr hNA hs1 hs (nm_c (dq_1 _ hs) (nm_c hst nm_0))
  have hU1 : UL s t s1 := ⟨_, _, _, _, _, _, _, _, hcs1, k1, k2, by omega⟩
  refine T.callv (as := [J 16]) (r := []) rfl rfl rfl rfl hcs1 rfl (s_U_ftakeBits (d + 1) s t g 16 s1 hs1.1  hs ht hst hU1 na1 hg1 (by omega) (by omega) (by omega)) (fun v1 s2 hqs2 => ?_)
  obtain ⟨z2, rfl, hs2, hzz2, hyz2, pz2_0, pz2_1, pz2_2⟩ := hqs2
  have es2 := hs2
  have hs2 := hs2.sub (w' := [17, t]) (List.forall_mem_cons.mpr ⟨(by simp), (fun _ h => by cases h)⟩)
  have k5 := es2.b.1 _ _ (nm_c (dq_1 _ hs) nm_0) (fun l z => by cases z) k1
  have k6 := es2.b.1 _ _ (nm_c (dq_1 _ ht) nm_0) (fun l z => by cases z) k3
  have gs2 := hs1.trans hs2
  have nt2 := nb_fr na1 es2 ht (nm_c (dq_1 _ ht) nm_0)
  have rt1 := rl_eq (es2.2.2.1 t (List.mem_cons_of_mem _ ht) (nm_c (dq_1 _ ht) nm_0))
  have nt3 := nt2.trans nt1.1
  rw [show (16 : Int).toNat = 16 from rfl] at pz2_1
  rcases pz2_1 with ⟨taz2, tbz2, tcz2, tdz2⟩ | ⟨taz2, tbz2, tcz2, tdz2⟩
  · rw [show afld s1 17 9 = (afld σ 17 9 + 7) / 8 * 8 by omega] at tbz2
    refine T.go 3 (fun n9 => (rfl : _ = exe ξ n9 (d + 2) j_U_copyPlain 24 [(0, .ref 17), (1, J z2)] [J 16, .ref 17] s2)) ?_
    have na2 := (gs2.b.2 hNA).1
    have hg2 := hg.fr hNA gs2 hs (nm_c (dq_1 _ hs) (nm_c hst nm_0))
    obtain ⟨wx3, bix3, bex3, rox3, mx3, nx3, bx3, lx3, hux3, hrx3, hbx3, ⟨fx3a, fx3b, fx3c, fx3d, fx3e, fx3f, fx3g, fx3h, fx3i, fx3j⟩, ⟨fx3k, fx3l, fx3m, fx3n⟩, fx3o, fx3p⟩ := UL.unf hs2.1 pz2_0 hs
    have af8x3 := af_of (i := 8) hux3 rfl (by omega)
    subst af8x3
    have af9x3 := af_of (i := 9) hux3 rfl (by omega)
    subst af9x3
    have af10x3 := af_of (i := 10) hux3 rfl (by omega)
    subst af10x3
    have af11x3 := af_of (i := 11) hux3 rfl (by omega)
    subst af11x3
    have ctx3 := CT_of hrx3 hbx3
    have rwx3 := rl_of hrx3 (by omega)
    subst rwx3
    refine T.callv (as := [J 16]) (r := []) rfl rfl rfl rfl hux3 rfl (s_U_ftakeBits (d + 1) s t g 16 s2 hs2.1  hs ht hst pz2_0 na2 hg2 (by omega) (by omega) (by omega)) (fun v2 s3 hqs3 => ?_)
    obtain ⟨z3, rfl, hs3, hzz3, hyz3, pz3_0, pz3_1, pz3_2⟩ := hqs3
    have es3 := hs3
    have hs3 := hs3.sub (w' := [17, t]) (List.forall_mem_cons.mpr ⟨(by simp), (fun _ h => by cases h)⟩)
    have k7 := es3.b.1 _ _ (nm_c (dq_1 _ hs) nm_0) (fun l z => by cases z) hrx3
    have k8 := es3.b.1 _ _ (nm_c (dq_1 _ ht) nm_0) (fun l z => by cases z) k6
    have gs3 := gs2.trans hs3
    have nt4 := nb_fr na2 es3 ht (nm_c (dq_1 _ ht) nm_0)
    have rt2 := rl_eq (es3.2.2.1 t (List.mem_cons_of_mem _ ht) (nm_c (dq_1 _ ht) nm_0))
    have nt5 := nt4.trans nt3
    rw [show (16 : Int).toNat = 16 from rfl] at pz3_1
    rcases pz3_1 with ⟨taz3, tbz3, tcz3, tdz3⟩ | ⟨taz3, tbz3, tcz3, tdz3⟩
    · rw [show afld s2 17 9 = (afld σ 17 9 + 7) / 8 * 8 + 16 by omega] at tbz3
      refine T.go 2 (fun n9 => (rfl : _ = exe ξ n9 (d + 2) j_U_copyPlain 29 [(0, .ref 17), (1, J z2), (2, J z3)] [.ref 17] s3)) ?_
      obtain ⟨wx4, bix4, bex4, rox4, mx4, nx4, bx4, lx4, hux4, hrx4, hbx4, ⟨fx4a, fx4b, fx4c, fx4d, fx4e, fx4f, fx4g, fx4h, fx4i, fx4j⟩, ⟨fx4k, fx4l, fx4m, fx4n⟩, fx4o, fx4p⟩ := UL.unf hs3.1 pz3_0 hs
      have af8x4 := af_of (i := 8) hux4 rfl (by omega)
      subst af8x4
      have af9x4 := af_of (i := 9) hux4 rfl (by omega)
      subst af9x4
      have af10x4 := af_of (i := 10) hux4 rfl (by omega)
      subst af10x4
      have af11x4 := af_of (i := 11) hux4 rfl (by omega)
      subst af11x4
      have ctx4 := CT_of hrx4 hbx4
      have rwx4 := rl_of hrx4 (by omega)
      subst rwx4
      refine T.get rfl rfl rfl hux4 rfl ?_
      refine T.if_ne rfl rfl (by omega) (fun c1 => ?_) (fun c1 => ?_)
      · refine T.go 1 (fun n9 => (rfl : _ = exe ξ n9 (d + 2) j_U_copyPlain 75 [(0, .ref 17), (1, J z2), (2, J z3)] [J 0] s3)) ?_
        exact T.iretz rfl rfl (by omega) ⟨_, rfl, gs3, by omega, by omega, pz3_0, (fun h => absurd h (by decide)), (fun _ _ => PLN_no (by omega)), ⟨by omega, by omega⟩, by omega⟩
      · refine T.go 2 (fun n9 => (rfl : _ = exe ξ n9 (d + 2) j_U_copyPlain 38 [(0, .ref 17), (1, J z2), (2, J z3)] [J 65535, J z2] s3)) ?_
        refine T.ixorq rfl (by omega) (by omega) (fun z4 hzz4 hyz4 hvz4 hwz4 => ?_)
        refine T.go 1 (fun n9 => (rfl : _ = exe ξ n9 (d + 2) j_U_copyPlain 40 [(0, .ref 17), (1, J z2), (2, J z3)] [J z3, J z4] s3)) ?_
        refine T.icmp_ne rfl rfl (by omega) (by omega) (fun c2 => ?_) (fun c2 => ?_)
        · refine T.go 1 (fun n9 => (rfl : _ = exe ξ n9 (d + 2) j_U_copyPlain 75 [(0, .ref 17), (1, J z2), (2, J z3)] [J 0] s3)) ?_
          exact T.iretz rfl rfl (by omega) ⟨_, rfl, gs3, by omega, by omega, pz3_0, (fun h => absurd h (by decide)), (fun _ _ => PLN_no (by omega)), ⟨by omega, by omega⟩, by omega⟩
        · refine T.go 2 (fun n9 => (rfl : _ = exe ξ n9 (d + 2) j_U_copyPlain 45 [(0, .ref 17), (1, J z2), (2, J z3)] [.ref 17, J z2] s3)) ?_
          refine T.get rfl rfl rfl hux4 rfl ?_
          refine T.go 1 (fun n9 => (rfl : _ = exe ξ n9 (d + 2) j_U_copyPlain 49 [(0, .ref 17), (1, J z2), (2, J z3)] [.ref 17, J (afld s3 17 10), J z2] s3)) ?_
          refine T.get rfl rfl rfl hux4 rfl ?_
          refine T.isub rfl ?_
          refine T.go 1 (fun n9 => (rfl : _ = exe ξ n9 (d + 2) j_U_copyPlain 54 [(0, .ref 17), (1, J z2), (2, J z3)] [J 3, J ((afld s3 17 10) - (afld s3 17 9)), J z2] s3)) ?_
          refine T.ishr (p := 8) 3 rfl (by decide) (by decide) (by omega) ?_
          refine T.icmp_gt rfl rfl (by omega) (by omega) (fun c3 => ?_) (fun c3 => ?_)
          · refine T.go 1 (fun n9 => (rfl : _ = exe ξ n9 (d + 2) j_U_copyPlain 75 [(0, .ref 17), (1, J z2), (2, J z3)] [J 0] s3)) ?_
            exact T.iretz rfl rfl (by omega) ⟨_, rfl, gs3, by omega, by omega, pz3_0, (fun h => absurd h (by decide)), (fun _ _ => PLN_no (by omega)), ⟨by omega, by omega⟩, by omega⟩
          · refine T.go 2 (fun n9 => (rfl : _ = exe ξ n9 (d + 2) j_U_copyPlain 60 [(0, .ref 17), (1, J z2), (2, J z3)] [.ref 17, J z2] s3)) ?_
            refine T.get rfl rfl rfl hux4 rfl ?_
            refine T.go 1 (fun n9 => (rfl : _ = exe ξ n9 (d + 2) j_U_copyPlain 64 [(0, .ref 17), (1, J z2), (2, J z3)] [.ref 17, J (afld s3 17 8), J z2] s3)) ?_
            refine T.get rfl rfl rfl hux4 rfl ?_
            refine T.get rfl rfl rfl k8 rfl ?_
            refine T.isub rfl ?_
            refine T.icmp_le rfl rfl (by omega) (by omega) (fun c4 => ?_) (fun c4 => ?_)
            · refine T.go 2 (fun n9 => (rfl : _ = exe ξ n9 (d + 2) j_U_copyPlain 78 [(0, .ref 17), (1, J z2), (2, J z3)] [.ref 17, .ref 17] s3)) ?_
              refine T.get rfl rfl rfl hux4 rfl ?_
              refine T.go 2 (fun n9 => (rfl : _ = exe ξ n9 (d + 2) j_U_copyPlain 84 [(0, .ref 17), (1, J z2), (2, J z3)] [J z2, J 8, J (afld s3 17 9), .ref 17] s3)) ?_
              refine T.imul rfl ?_
              refine T.iadd rfl ?_
              refine T.putF (w := [17, t]) rfl rfl hux4 rfl rfl rfl (fs' := [.ref 18, .ref 19, .ref 23, .ref 27, .ref 31, .ref 35, .ref s, .ref t, J (afld s3 17 8), J ((afld s3 17 9) + (8 * z2)), J (afld s3 17 10), J (afld s3 17 11)]) rfl (Fr.other hs3.1 hux4 rfl (show okU _ from ⟨_, _, _, _, _, _, rfl, hs, ht, by omega⟩) (by decide) (Or.inl (by decide)) (fun _ z => by cases z) (by simp)) (fun s4 hs4 hcs4 hos4 => ?_)
              have gs4 := gs3.trans hs4
              have nt6 := nb_set hs3.1 ht hux4 (dq_1 _ ht) hos4
              have rtnt6 := nt6.2
              have nt7 := nt6.1.trans nt5
              have k9 := hos4 (dq_1 _ hs) hrx4
              have k10 := hos4 (dq_1 _ ht) k8
              have k11 := hos4 (q_dif hbx4 hux4 (fun z => by cases z)) hbx4
              refine T.go 1 (fun n9 => (rfl : _ = exe ξ n9 (d + 2) j_U_copyPlain 90 [(0, .ref 17), (1, J z2), (2, J z3)] [.ref 17] s4)) ?_
              refine T.get rfl rfl rfl hcs4 rfl ?_
              refine T.go 1 (fun n9 => (rfl : _ = exe ξ n9 (d + 2) j_U_copyPlain 94 [(0, .ref 17), (1, J z2), (2, J z3)] [.ref 17, .ref t] s4)) ?_
              refine T.get rfl rfl rfl hcs4 rfl ?_
              refine T.go 1 (fun n9 => (rfl : _ = exe ξ n9 (d + 2) j_U_copyPlain 98 [(0, .ref 17), (1, J z2), (2, J z3)] [.ref 17, .ref s, .ref t] s4)) ?_
              refine T.get rfl rfl rfl hcs4 rfl ?_
              refine T.go 1 (fun n9 => (rfl : _ = exe ξ n9 (d + 2) j_U_copyPlain 102 [(0, .ref 17), (1, J z2), (2, J z3)] [J 3, J ((afld s3 17 9) + (8 * z2)), .ref s, .ref t] s4)) ?_
              refine T.ishr (p := 8) 3 rfl (by decide) (by decide) (by omega) ?_
              refine T.go 1 (fun n9 => (rfl : _ = exe ξ n9 (d + 2) j_U_copyPlain 104 [(0, .ref 17), (1, J z2), (2, J z3)] [J z2, J (((afld s3 17 9) + (8 * z2)) / 8), .ref s, .ref t] s4)) ?_
              refine T.isub rfl ?_
              refine T.go 1 (fun n9 => (rfl : _ = exe ξ n9 (d + 2) j_U_copyPlain 106 [(0, .ref 17), (1, J z2), (2, J z3)] [J z2, J ((((afld s3 17 9) + (8 * z2)) / 8) - z2), .ref s, .ref t] s4)) ?_
              have rq144 := rl_of k9 (by omega)
              have nf5 := af_of (i := 8) hcs4 rfl (by omega)
              have nf6 := af_of (i := 9) hcs4 rfl (by omega)
              have nf7 := af_of (i := 10) hcs4 rfl (by omega)
              have nf8 := af_of (i := 11) hcs4 rfl (by omega)
              have hg3 := hg.fr hNA gs4 hs (nm_c (dq_1 _ hs) (nm_c hst nm_0))
              have hU4 : UL s t s4 := ⟨_, _, _, _, _, _, _, _, hcs4, k9, k11, by omega⟩
              refine T.callv (as := [.ref s, J ((((afld s3 17 9) + (8 * z2)) / 8) - z2), J z2]) (r := []) rfl rfl rfl (RwL_lt _ ht).2.2.1 k10 rfl (s_R_faddPart d t s ((((afld s3 17 9) + (8 * z2)) / 8) - z2) z2 s4 hs4.1 ht hs hst (by omega) (by omega) (by omega) (by omega) (by omega) (by omega)) (fun v3 s5 hqs5 => ?_)
              obtain ⟨z7, rfl, hs5, hzz7, hyz7, pz7_0, pz7_1, pz7_2, pz7_3⟩ := hqs5
              have es5 := hs5
              have hs5 := hs5.sub (w' := [17, t]) (List.forall_mem_cons.mpr ⟨(by simp), (fun _ h => by cases h)⟩)
              have k12 := es5.b.1 _ _ (nm_c (dq_2 _ ht) nm_0) (fun l z => by cases z) hcs4
              have k13 := es5.b.1 _ _ (nm_c hst nm_0) (fun l z => by cases z) k9
              have gs5 := gs4.trans hs5
              have hU5 := UL.row hU4 hs5 pz7_0 hs hst ht
              subst pz7_2
              have ag := pz7_3 g (nb s4 t) hg3 nb_ag
              have zb := ZB_plc (g := g) (a := (((afld s3 17 9) + (8 * z2)) / 8) - z2) (n := (z2 : Int).toNat) (nb_zb (σ := s4) (r := t)) (by omega)
              rw [Int.toNat_of_nonneg (by omega), ← pz7_1] at zb
              have nbN := nb_of ag zb
              have nf9 := af_of (i := 8) k12 rfl (by omega)
              have nf10 := af_of (i := 9) k12 rfl (by omega)
              have nf11 := af_of (i := 10) k12 rfl (by omega)
              have nf12 := af_of (i := 11) k12 rfl (by omega)
              have ax : (((afld s3 17 9) + (8 * z2)) / 8) - z2 = ((afld σ 17 9 + 7) / 8 * 8 + 32) / 8 := by omega
              have an : z2 = BV g ((afld σ 17 9 + 7) / 8 * 8) 16 := by omega
              have ar : rl s4 t = rl σ t := by omega
              rw [ax, an, ar, nt7] at nbN
              have nf13 := af_of (i := 8) k12 rfl (by omega)
              have nf14 := af_of (i := 9) k12 rfl (by omega)
              have nf15 := af_of (i := 10) k12 rfl (by omega)
              have nf16 := af_of (i := 11) k12 rfl (by omega)
              exact T.iretz rfl rfl (by omega) ⟨_, rfl, gs5, by omega, by omega, hU5, (fun _ => UR_fs (u := (true, (afld σ 17 9 + 7) / 8 * 8 + 32 + 8 * BV g ((afld σ 17 9 + 7) / 8 * 8) 16, rl σ t + BV g ((afld σ 17 9 + 7) / 8 * 8) 16, PLC g (nb σ t) (rl σ t) (((afld σ 17 9 + 7) / 8 * 8 + 32) / 8) (BV g ((afld σ 17 9 + 7) / 8 * 8) 16).toNat)) ⟨rfl, by show afld s5 17 9 = (afld σ 17 9 + 7) / 8 * 8 + 32 + 8 * BV g ((afld σ 17 9 + 7) / 8 * 8) 16; omega, by show rl s5 t = rl σ t + BV g ((afld σ 17 9 + 7) / 8 * 8) 16; omega, nbN⟩ (PLN_is (by omega)).symm), (fun _ h => absurd h (by decide)), ⟨by omega, by omega⟩, by omega⟩
            · refine T.go 1 (fun n9 => (rfl : _ = exe ξ n9 (d + 2) j_U_copyPlain 75 [(0, .ref 17), (1, J z2), (2, J z3)] [J 0] s3)) ?_
              exact T.iretz rfl rfl (by omega) ⟨_, rfl, gs3, by omega, by omega, pz3_0, (fun h => absurd h (by decide)), (fun _ _ => PLN_no (by omega)), ⟨by omega, by omega⟩, by omega⟩
    · have fkz3 := taz3
      refine T.go 2 (fun n9 => (rfl : _ = exe ξ n9 (d + 2) j_U_copyPlain 29 [(0, .ref 17), (1, J z2), (2, J z3)] [.ref 17] s3)) ?_
      obtain ⟨wx5, bix5, bex5, rox5, mx5, nx5, bx5, lx5, hux5, hrx5, hbx5, ⟨fx5a, fx5b, fx5c, fx5d, fx5e, fx5f, fx5g, fx5h, fx5i, fx5j⟩, ⟨fx5k, fx5l, fx5m, fx5n⟩, fx5o, fx5p⟩ := UL.unf hs3.1 pz3_0 hs
      have af8x5 := af_of (i := 8) hux5 rfl (by omega)
      subst af8x5
      have af9x5 := af_of (i := 9) hux5 rfl (by omega)
      subst af9x5
      have af10x5 := af_of (i := 10) hux5 rfl (by omega)
      subst af10x5
      have af11x5 := af_of (i := 11) hux5 rfl (by omega)
      subst af11x5
      have ctx5 := CT_of hrx5 hbx5
      have rwx5 := rl_of hrx5 (by omega)
      subst rwx5
      refine T.get rfl rfl rfl hux5 rfl ?_
      refine T.if_ne rfl rfl (by omega) (fun c5 => ?_) (fun c5 => ?_)
      · refine T.go 1 (fun n9 => (rfl : _ = exe ξ n9 (d + 2) j_U_copyPlain 75 [(0, .ref 17), (1, J z2), (2, J z3)] [J 0] s3)) ?_
        exact T.iretz rfl rfl (by omega) ⟨_, rfl, gs3, by omega, by omega, pz3_0, (fun h => absurd h (by decide)), (fun _ _ => PLN_no (by omega)), ⟨by omega, by omega⟩, by omega⟩
      · exfalso
        omega
  · have fkz2 := taz2
    refine T.go 3 (fun n9 => (rfl : _ = exe ξ n9 (d + 2) j_U_copyPlain 24 [(0, .ref 17), (1, J z2)] [J 16, .ref 17] s2)) ?_
    have na3 := (gs2.b.2 hNA).1
    have hg4 := hg.fr hNA gs2 hs (nm_c (dq_1 _ hs) (nm_c hst nm_0))
    obtain ⟨wx6, bix6, bex6, rox6, mx6, nx6, bx6, lx6, hux6, hrx6, hbx6, ⟨fx6a, fx6b, fx6c, fx6d, fx6e, fx6f, fx6g, fx6h, fx6i, fx6j⟩, ⟨fx6k, fx6l, fx6m, fx6n⟩, fx6o, fx6p⟩ := UL.unf hs2.1 pz2_0 hs
    have af8x6 := af_of (i := 8) hux6 rfl (by omega)
    subst af8x6
    have af9x6 := af_of (i := 9) hux6 rfl (by omega)
    subst af9x6
    have af10x6 := af_of (i := 10) hux6 rfl (by omega)
    subst af10x6
    have af11x6 := af_of (i := 11) hux6 rfl (by omega)
    subst af11x6
    have ctx6 := CT_of hrx6 hbx6
    have rwx6 := rl_of hrx6 (by omega)
    subst rwx6
    refine T.callv (as := [J 16]) (r := []) rfl rfl rfl rfl hux6 rfl (s_U_ftakeBits (d + 1) s t g 16 s2 hs2.1  hs ht hst pz2_0 na3 hg4 (by omega) (by omega) (by omega)) (fun v4 s6 hqs6 => ?_)
    obtain ⟨z8, rfl, hs6, hzz8, hyz8, pz8_0, pz8_1, pz8_2⟩ := hqs6
    have es6 := hs6
    have hs6 := hs6.sub (w' := [17, t]) (List.forall_mem_cons.mpr ⟨(by simp), (fun _ h => by cases h)⟩)
    have k14 := es6.b.1 _ _ (nm_c (dq_1 _ hs) nm_0) (fun l z => by cases z) hrx6
    have k15 := es6.b.1 _ _ (nm_c (dq_1 _ ht) nm_0) (fun l z => by cases z) k6
    have gs6 := gs2.trans hs6
    have nt8 := nb_fr na3 es6 ht (nm_c (dq_1 _ ht) nm_0)
    have rt3 := rl_eq (es6.2.2.1 t (List.mem_cons_of_mem _ ht) (nm_c (dq_1 _ ht) nm_0))
    have nt9 := nt8.trans nt3
    rw [show (16 : Int).toNat = 16 from rfl] at pz8_1
    refine T.go 2 (fun n9 => (rfl : _ = exe ξ n9 (d + 2) j_U_copyPlain 29 [(0, .ref 17), (1, J z2), (2, J z8)] [.ref 17] s6)) ?_
    obtain ⟨wx7, bix7, bex7, rox7, mx7, nx7, bx7, lx7, hux7, hrx7, hbx7, ⟨fx7a, fx7b, fx7c, fx7d, fx7e, fx7f, fx7g, fx7h, fx7i, fx7j⟩, ⟨fx7k, fx7l, fx7m, fx7n⟩, fx7o, fx7p⟩ := UL.unf hs6.1 pz8_0 hs
    have af8x7 := af_of (i := 8) hux7 rfl (by omega)
    subst af8x7
    have af9x7 := af_of (i := 9) hux7 rfl (by omega)
    subst af9x7
    have af10x7 := af_of (i := 10) hux7 rfl (by omega)
    subst af10x7
    have af11x7 := af_of (i := 11) hux7 rfl (by omega)
    subst af11x7
    have ctx7 := CT_of hrx7 hbx7
    have rwx7 := rl_of hrx7 (by omega)
    subst rwx7
    refine T.get rfl rfl rfl hux7 rfl ?_
    refine T.if_ne rfl rfl (by omega) (fun c6 => ?_) (fun c6 => ?_)
    · refine T.go 1 (fun n9 => (rfl : _ = exe ξ n9 (d + 2) j_U_copyPlain 75 [(0, .ref 17), (1, J z2), (2, J z8)] [J 0] s6)) ?_
      exact T.iretz rfl rfl (by omega) ⟨_, rfl, gs6, by omega, by omega, pz8_0, (fun h => absurd h (by decide)), (fun _ _ => PLN_no (by omega)), ⟨by omega, by omega⟩, by omega⟩
    · exfalso
      omega

set_option maxRecDepth 10000 in
set_option maxHeartbeats 4000000 in
theorem s_U_fcopyBack {ξ : Nat → Option (Nat × List Int32)} (hX : XT ξ) (d : Nat) (s t : Nat) (g L : Int → Int) (m : Nat) (x : Int) (c : Nat) (σ : qH) (hK : K σ) (hc : c ∈ CdL) (hs : s ∈ RwL) (ht : t ∈ RwL) (hst : s ≠ t) (hU : UL s t σ) (hNA : NA σ) (hg : AGR σ s g) (hmt : mst t = 8000) (hd : CD σ c L m) (hm9 : m ≤ 320) (rx : -2147483648 ≤ x ∧ x ≤ 2147483647) (pre0 : 0 ≤ x) (pre1 : x ≤ 1000) (pre2 : afld σ 17 11 = 0) : T ξ (d + 1) j_U_copyBack 0 (lv_args 0 [.ref 17, J x, .ref c]) [] σ (fun v σ' => ∃ z : Int, v = some (J z) ∧ Fr [17, t] σ σ' ∧ 0 ≤ z ∧ z ≤ 1 ∧ UL s t σ' ∧ (z = 1 → UR σ' t (CB g (afld σ 17 10) (afld σ 17 8) L m x (afld σ 17 9) (rl σ t) (nb σ t))) ∧ (z = 0 → (CB g (afld σ 17 10) (afld σ 17 8) L m x (afld σ 17 9) (rl σ t) (nb σ t)).1 = false) ∧ (afld σ' 17 8 = afld σ 17 8 ∧ afld σ' 17 10 = afld σ 17 10) ∧ (z = 1 → afld σ' 17 11 = 0)) := by
  have hX0 := hX
  obtain ⟨⟨X1, hX1, lX1⟩, ⟨X2, hX2, lX2⟩, ⟨X3, hX3, lX3⟩, ⟨X4, hX4, lX4⟩, ⟨X5, hX5, lX5⟩, ⟨X6, hX6, lX6⟩⟩ := hX
  have lY1 : X1.length = 19 := by rw [lX1]; rfl
  have lY2 : X2.length = 29 := by rw [lX2]; rfl
  have lY3 : X3.length = 29 := by rw [lX3]; rfl
  have lY4 : X4.length = 30 := by rw [lX4]; rfl
  have lY5 : X5.length = 30 := by rw [lX5]; rfl
  have lY6 : X6.length = 16 := by rw [lX6]; rfl
  have lc := CdL_lt2 c hc
  obtain ⟨wx1, bix1, bex1, rox1, mx1, nx1, bx1, lx1, hux1, hrx1, hbx1, ⟨fx1a, fx1b, fx1c, fx1d, fx1e, fx1f, fx1g, fx1h, fx1i, fx1j⟩, ⟨fx1k, fx1l, fx1m, fx1n⟩, fx1o, fx1p⟩ := UL.unf hK hU hs
  have af8x1 := af_of (i := 8) hux1 rfl (by omega)
  subst af8x1
  have af9x1 := af_of (i := 9) hux1 rfl (by omega)
  subst af9x1
  have af10x1 := af_of (i := 10) hux1 rfl (by omega)
  subst af10x1
  have af11x1 := af_of (i := 11) hux1 rfl (by omega)
  subst af11x1
  have ctx1 := CT_of hrx1 hbx1
  have rwx1 := rl_of hrx1 (by omega)
  subst rwx1
  obtain ⟨mx2, nx2, bx2, lx2, hrx2, hbx2, fx2a, fx2b, fx2c, fx2d, fx2e, fx2g, fx2h, fx2i⟩ := hK.row ht
  have ctx2 := CT_of hrx2 hbx2
  have rwx2 := rl_of hrx2 (by omega)
  subst rwx2
  have loop112 : ∀ (f : Nat) (n3 : Int) (w4 : Int) (k5 : Int) (i : Int) (τ : qH), Fr [17, t] σ τ → UL s t τ → rl τ t = rl σ t + i → nb τ t = CPY (nb σ t) (rl σ t) k5 i.toNat → n3 = cLe x + BV g (afld σ 17 9) (cBi x).toNat → k5 = wLe (SG g (afld σ 17 10) L m 15 (afld σ 17 9 + cBi x) 0 0).1 + BV g (SG g (afld σ 17 10) L m 15 (afld σ 17 9 + cBi x) 0 0).2 (wBi (SG g (afld σ 17 10) L m 15 (afld σ 17 9 + cBi x) 0 0).1).toNat → afld τ 17 9 = (SG g (afld σ 17 10) L m 15 (afld σ 17 9 + cBi x) 0 0).2 + wBi (SG g (afld σ 17 10) L m 15 (afld σ 17 9 + cBi x) 0 0).1 → (0 ≤ i ∧ i ≤ n3) → afld τ 17 8 = afld σ 17 8 → afld τ 17 10 = afld σ 17 10 → afld τ 17 11 = 0 → (x < 29 ∧ afld σ 17 9 + cBi x ≤ afld σ 17 10 ∧ 0 ≤ (SG g (afld σ 17 10) L m 15 (afld σ 17 9 + cBi x) 0 0).1 ∧ (SG g (afld σ 17 10) L m 15 (afld σ 17 9 + cBi x) 0 0).1 < 30 ∧ (SG g (afld σ 17 10) L m 15 (afld σ 17 9 + cBi x) 0 0).2 + wBi (SG g (afld σ 17 10) L m 15 (afld σ 17 9 + cBi x) 0 0).1 ≤ afld σ 17 10) → (1 ≤ k5 ∧ k5 ≤ rl σ t ∧ n3 ≤ afld σ 17 8 - rl σ t) → (n3 - i).toNat < f → T ξ (d + 1) j_U_copyBack 112 [(0, .ref 17), (1, J x), (2, .ref c), (3, J n3), (4, J w4), (5, J k5), (6, J i)] [] τ (fun v σ' => ∃ z : Int, v = some (J z) ∧ Fr [17, t] σ σ' ∧ 0 ≤ z ∧ z ≤ 1 ∧ UL s t σ' ∧ (z = 1 → UR σ' t (CB g (afld σ 17 10) (afld σ 17 8) L m x (afld σ 17 9) (rl σ t) (nb σ t))) ∧ (z = 0 → (CB g (afld σ 17 10) (afld σ 17 8) L m x (afld σ 17 9) (rl σ t) (nb σ t)).1 = false) ∧ (afld σ' 17 8 = afld σ 17 8 ∧ afld σ' 17 10 = afld σ 17 10) ∧ (z = 1 → afld σ' 17 11 = 0)) := by
    intro f
    induction f with
    | zero => intro n3 w4 k5 i τ hτ uτ i0 i1 i2 i3 i4 i5 i6 i7 i8 i9 i10 hm; omega
    | succ f ih =>
      intro n3 w4 k5 i τ hτ uτ i0 i1 i2 i3 i4 i5 i6 i7 i8 i9 i10 hm
      refine T.go 2 (fun n9 => (rfl : _ = exe ξ n9 (d + 1) j_U_copyBack 115 [(0, .ref 17), (1, J x), (2, .ref c), (3, J n3), (4, J w4), (5, J k5), (6, J i)] [J n3, J i] τ)) ?_
      refine T.icmp_ge rfl rfl (by omega) (by omega) (fun c1 => ?_) (fun c1 => ?_)
      · refine T.go 1 (fun n9 => (rfl : _ = exe ξ n9 (d + 1) j_U_copyBack 150 [(0, .ref 17), (1, J x), (2, .ref c), (3, J n3), (4, J w4), (5, J k5), (6, J i)] [J 1] τ)) ?_
        exact T.iretz rfl rfl (by omega) ⟨_, rfl, hτ, by omega, by omega, uτ, (fun _ => UR_fs (u := (true, (SG g (afld σ 17 10) L m 15 (afld σ 17 9 + cBi x) 0 0).2 + wBi (SG g (afld σ 17 10) L m 15 (afld σ 17 9 + cBi x) 0 0).1, rl σ t + (cLe x + BV g (afld σ 17 9) (cBi x).toNat), CPY (nb σ t) (rl σ t) (wLe (SG g (afld σ 17 10) L m 15 (afld σ 17 9 + cBi x) 0 0).1 + BV g (SG g (afld σ 17 10) L m 15 (afld σ 17 9 + cBi x) 0 0).2 (wBi (SG g (afld σ 17 10) L m 15 (afld σ 17 9 + cBi x) 0 0).1).toNat) (cLe x + BV g (afld σ 17 9) (cBi x).toNat).toNat)) ⟨rfl, by show afld τ 17 9 = (SG g (afld σ 17 10) L m 15 (afld σ 17 9 + cBi x) 0 0).2 + wBi (SG g (afld σ 17 10) L m 15 (afld σ 17 9 + cBi x) 0 0).1; omega, by show rl τ t = rl σ t + (cLe x + BV g (afld σ 17 9) (cBi x).toNat); omega, by show nb τ t = _; rw [i1, ← i2, ← i3, show n3.toNat = i.toNat by omega]⟩ (CB_is (by omega) (by omega) (by omega) (by omega) (by omega) (by omega) (by omega)).symm), (fun h => absurd h (by decide)), ⟨by omega, by omega⟩, by omega⟩
      · refine T.go 1 (fun n9 => (rfl : _ = exe ξ n9 (d + 1) j_U_copyBack 119 [(0, .ref 17), (1, J x), (2, .ref c), (3, J n3), (4, J w4), (5, J k5), (6, J i)] [.ref 17] τ)) ?_
        obtain ⟨wx3, bix3, bex3, rox3, mx3, nx3, bx3, lx3, hux3, hrx3, hbx3, ⟨fx3a, fx3b, fx3c, fx3d, fx3e, fx3f, fx3g, fx3h, fx3i, fx3j⟩, ⟨fx3k, fx3l, fx3m, fx3n⟩, fx3o, fx3p⟩ := UL.unf hτ.1 uτ hs
        have af8x3 := af_of (i := 8) hux3 rfl (by omega)
        subst af8x3
        have af9x3 := af_of (i := 9) hux3 rfl (by omega)
        subst af9x3
        have af10x3 := af_of (i := 10) hux3 rfl (by omega)
        subst af10x3
        have af11x3 := af_of (i := 11) hux3 rfl (by omega)
        subst af11x3
        have ctx3 := CT_of hrx3 hbx3
        have rwx3 := rl_of hrx3 (by omega)
        subst rwx3
        refine T.get rfl rfl rfl hux3 rfl ?_
        refine T.go 1 (fun n9 => (rfl : _ = exe ξ n9 (d + 1) j_U_copyBack 123 [(0, .ref 17), (1, J x), (2, .ref c), (3, J n3), (4, J w4), (5, J k5), (6, J i)] [.ref 17, .ref t] τ)) ?_
        refine T.get rfl rfl rfl hux3 rfl ?_
        refine T.go 1 (fun n9 => (rfl : _ = exe ξ n9 (d + 1) j_U_copyBack 127 [(0, .ref 17), (1, J x), (2, .ref c), (3, J n3), (4, J w4), (5, J k5), (6, J i)] [.ref 17, .ref t, .ref t] τ)) ?_
        refine T.get rfl rfl rfl hux3 rfl ?_
        obtain ⟨mx4, nx4, bx4, lx4, hrx4, hbx4, fx4a, fx4b, fx4c, fx4d, fx4e, fx4g, fx4h, fx4i⟩ := hτ.1.row ht
        have ctx4 := CT_of hrx4 hbx4
        have rwx4 := rl_of hrx4 (by omega)
        subst rwx4
        refine T.get rfl rfl rfl hrx4 rfl ?_
        refine T.go 1 (fun n9 => (rfl : _ = exe ξ n9 (d + 1) j_U_copyBack 135 [(0, .ref 17), (1, J x), (2, .ref c), (3, J n3), (4, J w4), (5, J k5), (6, J i)] [J k5, J (rl τ t), .ref t, .ref t] τ)) ?_
        refine T.isub rfl ?_
        refine T.callv (as := [J ((rl τ t) - k5)]) (r := [.ref t]) rfl rfl rfl (RwL_lt _ ht).2.2.1 hrx4 rfl (s_R_fat d (nb τ t) t ((rl τ t) - k5) τ hτ.1 ht nb_ag (by omega)) (fun v1 s1 hqs1 => ?_)
        obtain ⟨z1, rfl, esz1, hzz1, hyz1, pz1_0, pz1_1⟩ := hqs1
        rw [esz1]
        have av := pz1_0 (by omega) (by omega)
        have ar := nb_r (σ := τ) (r := t) ((rl τ t) - k5)
        refine T.callv (as := [J z1]) (r := []) rfl rfl rfl (RwL_lt _ ht).2.2.1 hrx4 rfl (s_R_fadd d t z1 τ hτ.1 ht  (by omega)) (fun v2 s2 hqs2 => ?_)
        obtain ⟨z2, rfl, hs2, hzz2, hyz2, pz2_0, pz2_1, pz2_2⟩ := hqs2
        have es2 := hs2
        have hs2 := hs2.sub (w' := [17, t]) (List.forall_mem_cons.mpr ⟨(by simp), (fun _ h => by cases h)⟩)
        have k1 := es2.b.1 _ _ (nm_c (dq_2 _ ht) nm_0) (fun l z => by cases z) hux3
        have k2 := es2.b.1 _ _ (nm_c hst nm_0) (fun l z => by cases z) hrx3
        have gs2 := hτ.trans hs2
        have hU1 := UL.row uτ hs2 pz2_0 hs hst ht
        have aA := pz2_2 (nb τ t) nb_ag (by omega)
        have rA := pz2_1 (by omega)
        have zA := ZB_upd (v := z1 % 256) (nb_zb (σ := τ) (r := t)) (by omega)
        rw [← rA.2] at zA
        have nbA := nb_of aA zA
        rw [show z1 % 256 = nb τ t (rl σ t + i - k5) by rw [← show ((rl τ t) - k5) = rl σ t + i - k5 by omega]; omega, show rl τ t = rl σ t + i by omega] at nbA
        have rA1 := rA.1
        subst rA1
        refine T.go 1 (fun n9 => (rfl : _ = exe ξ n9 (d + 1) j_U_copyBack 143 [(0, .ref 17), (1, J x), (2, .ref c), (3, J n3), (4, J w4), (5, J k5), (6, J i)] [] s2)) ?_
        refine T.iinc (lv' := [(0, .ref 17), (1, J x), (2, .ref c), (3, J n3), (4, J w4), (5, J k5), (6, J (i + 1))]) rfl rfl rfl rfl ?_
        refine T.go 1 (fun n9 => (rfl : _ = exe ξ n9 (d + 1) j_U_copyBack 112 [(0, .ref 17), (1, J x), (2, .ref c), (3, J n3), (4, J w4), (5, J k5), (6, J (i + 1))] [] s2)) ?_
        have nf1 := af_of (i := 8) k1 rfl (by omega)
        have nf2 := af_of (i := 9) k1 rfl (by omega)
        have nf3 := af_of (i := 10) k1 rfl (by omega)
        have nf4 := af_of (i := 11) k1 rfl (by omega)
        exact ih  n3 w4 k5 (i + 1) s2 gs2 hU1 (by omega) (by rw [CPY_step (by omega), ← i1]; exact nbA) i2 i3 (by omega) (by omega) (by omega) (by omega) (by omega) i9 (by omega) (by omega)
  refine T.go 1 (fun n9 => (rfl : _ = exe ξ n9 (d + 1) j_U_copyBack 1 [(0, .ref 17), (1, J x), (2, .ref c)] [J x] σ)) ?_
  refine T.if_lt rfl rfl (by omega) (fun c2 => ?_) (fun c2 => ?_)
  · refine T.go 1 (fun n9 => (rfl : _ = exe ξ n9 (d + 1) j_U_copyBack 13 [(0, .ref 17), (1, J x), (2, .ref c)] [J 0] σ)) ?_
    exact T.iretz rfl rfl (by omega) ⟨_, rfl, (Fr.refl hK), by omega, by omega, hU, (fun h => absurd h (by decide)), (fun _ => CB_no (by omega)), ⟨by omega, by omega⟩, by omega⟩
  · refine T.go 2 (fun n9 => (rfl : _ = exe ξ n9 (d + 1) j_U_copyBack 8 [(0, .ref 17), (1, J x), (2, .ref c)] [.ref 2, J x] σ)) ?_
    refine T.xlen rfl rfl hX2 ?_
    rw [show (X2.length : Int) = 29 by omega]
    refine T.icmp_lt rfl rfl (by omega) (by omega) (fun c3 => ?_) (fun c3 => ?_)
    · refine T.go 2 (fun n9 => (rfl : _ = exe ξ n9 (d + 1) j_U_copyBack 18 [(0, .ref 17), (1, J x), (2, .ref c)] [J x, .ref 2] σ)) ?_
      refine T.xld rfl rfl hX2 (by omega) (fun z3 hzz3 hyz3 hez3 => ?_)
      have tvz3 := tb_at lX2 tab2_ok (by omega) ⟨hzz3, hyz3⟩ hez3
      subst tvz3
      have trz3 := cLe_b (k := x) (by omega)
      refine T.go 3 (fun n9 => (rfl : _ = exe ξ n9 (d + 1) j_U_copyBack 24 [(0, .ref 17), (1, J x), (2, .ref c)] [J x, .ref 3, .ref 17, J (cLe x)] σ)) ?_
      refine T.xld rfl rfl hX3 (by omega) (fun z4 hzz4 hyz4 hez4 => ?_)
      have tvz4 := tb_at lX3 tab3_ok (by omega) ⟨hzz4, hyz4⟩ hez4
      subst tvz4
      have trz4 := cBi_b (k := x) (by omega)
      refine T.callv (as := [J (cBi x)]) (r := [J (cLe x)]) rfl rfl rfl rfl hux1 rfl (s_U_ftakeBits d s t g (cBi x) σ hK  hs ht hst hU hNA hg (by omega) (by omega) (by omega)) (fun v3 s3 hqs3 => ?_)
      obtain ⟨z5, rfl, hs3, hzz5, hyz5, pz5_0, pz5_1, pz5_2⟩ := hqs3
      have es3 := hs3
      have hs3 := hs3.sub (w' := [17, t]) (List.forall_mem_cons.mpr ⟨(by simp), (fun _ h => by cases h)⟩)
      have k3 := es3.b.1 _ _ (nm_c (dq_1 _ hs) nm_0) (fun l z => by cases z) hrx1
      have k4 := es3.b.1 _ _ (nm_c (dq_1 _ ht) nm_0) (fun l z => by cases z) hrx2
      have nt1 := nb_fr hNA es3 ht (nm_c (dq_1 _ ht) nm_0)
      have rt1 := rl_eq (es3.2.2.1 t (List.mem_cons_of_mem _ ht) (nm_c (dq_1 _ ht) nm_0))
      rcases pz5_1 with ⟨taz5, tbz5, tcz5, tdz5⟩ | ⟨taz5, tbz5, tcz5, tdz5⟩
      · have fkz5 := taz5
        refine T.iadd rfl ?_
        refine T.go 3 (fun n9 => (rfl : _ = exe ξ n9 (d + 1) j_U_copyBack 32 [(0, .ref 17), (1, J x), (2, .ref c), (3, J ((cLe x) + z5))] [.ref c, .ref 17] s3)) ?_
        have na1 := (hs3.b.2 hNA).1
        have hg1 := hg.fr hNA hs3 hs (nm_c (dq_1 _ hs) (nm_c hst nm_0))
        obtain ⟨wx5, bix5, bex5, rox5, mx5, nx5, bx5, lx5, hux5, hrx5, hbx5, ⟨fx5a, fx5b, fx5c, fx5d, fx5e, fx5f, fx5g, fx5h, fx5i, fx5j⟩, ⟨fx5k, fx5l, fx5m, fx5n⟩, fx5o, fx5p⟩ := UL.unf hs3.1 pz5_0 hs
        have af8x5 := af_of (i := 8) hux5 rfl (by omega)
        subst af8x5
        have af9x5 := af_of (i := 9) hux5 rfl (by omega)
        subst af9x5
        have af10x5 := af_of (i := 10) hux5 rfl (by omega)
        subst af10x5
        have af11x5 := af_of (i := 11) hux5 rfl (by omega)
        subst af11x5
        have ctx5 := CT_of hrx5 hbx5
        have rwx5 := rl_of hrx5 (by omega)
        subst rwx5
        refine T.callv (as := [.ref c]) (r := []) rfl rfl rfl rfl hux5 rfl (s_U_fnextSign d s t g L m c s3 hs3.1 hc hs ht hst pz5_0 na1 hg1 (hd.fr hK hc hs3 (nm_c ((by decide : ∀ u ∈ CdL, u + 1 ≠ 17 ∧ u + 3 ≠ 17) _ hc).1 (nm_c ((by decide : ∀ u ∈ CdL, ∀ v ∈ RwL, u + 1 ≠ v) _ hc _ ht) nm_0)) (nm_c ((by decide : ∀ u ∈ CdL, u + 1 ≠ 17 ∧ u + 3 ≠ 17) _ hc).2 (nm_c ((by decide : ∀ u ∈ CdL, ∀ v ∈ RwL, u + 3 ≠ v) _ hc _ ht) nm_0))) (by omega) ) (fun v4 s4 hqs4 => ?_)
        obtain ⟨z6, rfl, hs4, hzz6, hyz6, pz6_0, pz6_1, pz6_2, pz6_3⟩ := hqs4
        have es4 := hs4
        have hs4 := hs4.sub (w' := [17, t]) (List.forall_mem_cons.mpr ⟨(by simp), (fun _ h => by cases h)⟩)
        have k5 := es4.b.1 _ _ (nm_c (dq_1 _ hs) nm_0) (fun l z => by cases z) hrx5
        have k6 := es4.b.1 _ _ (nm_c (dq_1 _ ht) nm_0) (fun l z => by cases z) k4
        have gs4 := hs3.trans hs4
        have nt2 := nb_fr na1 es4 ht (nm_c (dq_1 _ ht) nm_0)
        have rt2 := rl_eq (es4.2.2.1 t (List.mem_cons_of_mem _ ht) (nm_c (dq_1 _ ht) nm_0))
        have nt3 := nt2.trans nt1
        rw [show afld s3 17 9 = afld σ 17 9 + cBi x by omega, show afld s3 17 10 = afld σ 17 10 by omega] at pz6_1 pz6_2
        obtain ⟨W1, hW1⟩ : ∃ W, SG g (afld σ 17 10) L m 15 (afld σ 17 9 + cBi x) 0 0 = W := ⟨_, rfl⟩
        rw [hW1] at pz6_1 pz6_2
        have rW1 := SG_r (g := g) (e := afld σ 17 10) (L := L) (n := m) 15 (afld σ 17 9 + cBi x) 0 0 (Int.le_refl _)
        rw [hW1] at rW1
        subst pz6_1
        refine T.go 2 (fun n9 => (rfl : _ = exe ξ n9 (d + 1) j_U_copyBack 39 [(0, .ref 17), (1, J x), (2, .ref c), (3, J ((cLe x) + z5)), (4, J (W1.1))] [J (W1.1)] s4)) ?_
        refine T.if_lt rfl rfl (by omega) (fun c4 => ?_) (fun c4 => ?_)
        · refine T.go 1 (fun n9 => (rfl : _ = exe ξ n9 (d + 1) j_U_copyBack 52 [(0, .ref 17), (1, J x), (2, .ref c), (3, J ((cLe x) + z5)), (4, J (W1.1))] [J 0] s4)) ?_
          exact T.iretz rfl rfl (by omega) ⟨_, rfl, gs4, by omega, by omega, pz6_0, (fun h => absurd h (by decide)), (fun _ => CB_no (by rw [hW1]; omega)), ⟨by omega, by omega⟩, by omega⟩
        · refine T.go 2 (fun n9 => (rfl : _ = exe ξ n9 (d + 1) j_U_copyBack 47 [(0, .ref 17), (1, J x), (2, .ref c), (3, J ((cLe x) + z5)), (4, J (W1.1))] [.ref 4, J (W1.1)] s4)) ?_
          refine T.xlen rfl rfl hX4 ?_
          rw [show (X4.length : Int) = 30 by omega]
          refine T.icmp_lt rfl rfl (by omega) (by omega) (fun c5 => ?_) (fun c5 => ?_)
          · refine T.go 2 (fun n9 => (rfl : _ = exe ξ n9 (d + 1) j_U_copyBack 58 [(0, .ref 17), (1, J x), (2, .ref c), (3, J ((cLe x) + z5)), (4, J (W1.1))] [J (W1.1), .ref 4] s4)) ?_
            refine T.xld rfl rfl hX4 (by omega) (fun z7 hzz7 hyz7 hez7 => ?_)
            have tvz7 := tb_at lX4 tab4_ok (by omega) ⟨hzz7, hyz7⟩ hez7
            subst tvz7
            have trz7 := wLe_b (k := W1.1) (by omega)
            refine T.go 3 (fun n9 => (rfl : _ = exe ξ n9 (d + 1) j_U_copyBack 65 [(0, .ref 17), (1, J x), (2, .ref c), (3, J ((cLe x) + z5)), (4, J (W1.1))] [J (W1.1), .ref 5, .ref 17, J (wLe (W1.1))] s4)) ?_
            refine T.xld rfl rfl hX5 (by omega) (fun z8 hzz8 hyz8 hez8 => ?_)
            have tvz8 := tb_at lX5 tab5_ok (by omega) ⟨hzz8, hyz8⟩ hez8
            subst tvz8
            have trz8 := wBi_b (k := W1.1) (by omega)
            have na2 := (gs4.b.2 hNA).1
            have hg2 := hg.fr hNA gs4 hs (nm_c (dq_1 _ hs) (nm_c hst nm_0))
            obtain ⟨wx6, bix6, bex6, rox6, mx6, nx6, bx6, lx6, hux6, hrx6, hbx6, ⟨fx6a, fx6b, fx6c, fx6d, fx6e, fx6f, fx6g, fx6h, fx6i, fx6j⟩, ⟨fx6k, fx6l, fx6m, fx6n⟩, fx6o, fx6p⟩ := UL.unf hs4.1 pz6_0 hs
            have af8x6 := af_of (i := 8) hux6 rfl (by omega)
            subst af8x6
            have af9x6 := af_of (i := 9) hux6 rfl (by omega)
            subst af9x6
            have af10x6 := af_of (i := 10) hux6 rfl (by omega)
            subst af10x6
            have af11x6 := af_of (i := 11) hux6 rfl (by omega)
            subst af11x6
            have ctx6 := CT_of hrx6 hbx6
            have rwx6 := rl_of hrx6 (by omega)
            subst rwx6
            refine T.callv (as := [J (wBi (W1.1))]) (r := [J (wLe (W1.1))]) rfl rfl rfl rfl hux6 rfl (s_U_ftakeBits d s t g (wBi (W1.1)) s4 hs4.1  hs ht hst pz6_0 na2 hg2 (by omega) (by omega) (by omega)) (fun v5 s5 hqs5 => ?_)
            obtain ⟨z9, rfl, hs5, hzz9, hyz9, pz9_0, pz9_1, pz9_2⟩ := hqs5
            have es5 := hs5
            have hs5 := hs5.sub (w' := [17, t]) (List.forall_mem_cons.mpr ⟨(by simp), (fun _ h => by cases h)⟩)
            have k7 := es5.b.1 _ _ (nm_c (dq_1 _ hs) nm_0) (fun l z => by cases z) hrx6
            have k8 := es5.b.1 _ _ (nm_c (dq_1 _ ht) nm_0) (fun l z => by cases z) k6
            have gs5 := gs4.trans hs5
            have nt4 := nb_fr na2 es5 ht (nm_c (dq_1 _ ht) nm_0)
            have rt3 := rl_eq (es5.2.2.1 t (List.mem_cons_of_mem _ ht) (nm_c (dq_1 _ ht) nm_0))
            have nt5 := nt4.trans nt3
            rcases pz9_1 with ⟨taz9, tbz9, tcz9, tdz9⟩ | ⟨taz9, tbz9, tcz9, tdz9⟩
            · rw [show afld s4 17 9 = W1.2 by omega] at tbz9
              refine T.iadd rfl ?_
              refine T.go 2 (fun n9 => (rfl : _ = exe ξ n9 (d + 1) j_U_copyBack 73 [(0, .ref 17), (1, J x), (2, .ref c), (3, J ((cLe x) + z5)), (4, J (W1.1)), (5, J ((wLe (W1.1)) + z9))] [.ref 17] s5)) ?_
              obtain ⟨wx7, bix7, bex7, rox7, mx7, nx7, bx7, lx7, hux7, hrx7, hbx7, ⟨fx7a, fx7b, fx7c, fx7d, fx7e, fx7f, fx7g, fx7h, fx7i, fx7j⟩, ⟨fx7k, fx7l, fx7m, fx7n⟩, fx7o, fx7p⟩ := UL.unf hs5.1 pz9_0 hs
              have af8x7 := af_of (i := 8) hux7 rfl (by omega)
              subst af8x7
              have af9x7 := af_of (i := 9) hux7 rfl (by omega)
              subst af9x7
              have af10x7 := af_of (i := 10) hux7 rfl (by omega)
              subst af10x7
              have af11x7 := af_of (i := 11) hux7 rfl (by omega)
              subst af11x7
              have ctx7 := CT_of hrx7 hbx7
              have rwx7 := rl_of hrx7 (by omega)
              subst rwx7
              refine T.get rfl rfl rfl hux7 rfl ?_
              refine T.if_ne rfl rfl (by omega) (fun c6 => ?_) (fun c6 => ?_)
              · refine T.go 1 (fun n9 => (rfl : _ = exe ξ n9 (d + 1) j_U_copyBack 108 [(0, .ref 17), (1, J x), (2, .ref c), (3, J ((cLe x) + z5)), (4, J (W1.1)), (5, J ((wLe (W1.1)) + z9))] [J 0] s5)) ?_
                exact T.iretz rfl rfl (by omega) ⟨_, rfl, gs5, by omega, by omega, pz9_0, (fun h => absurd h (by decide)), (fun _ => CB_no (by rw [hW1]; omega)), ⟨by omega, by omega⟩, by omega⟩
              · refine T.go 2 (fun n9 => (rfl : _ = exe ξ n9 (d + 1) j_U_copyBack 82 [(0, .ref 17), (1, J x), (2, .ref c), (3, J ((cLe x) + z5)), (4, J (W1.1)), (5, J ((wLe (W1.1)) + z9))] [.ref 17, J ((wLe (W1.1)) + z9)] s5)) ?_
                refine T.get rfl rfl rfl hux7 rfl ?_
                refine T.get rfl rfl rfl k8 rfl ?_
                refine T.icmp_gt rfl rfl (by omega) (by omega) (fun c7 => ?_) (fun c7 => ?_)
                · refine T.go 1 (fun n9 => (rfl : _ = exe ξ n9 (d + 1) j_U_copyBack 108 [(0, .ref 17), (1, J x), (2, .ref c), (3, J ((cLe x) + z5)), (4, J (W1.1)), (5, J ((wLe (W1.1)) + z9))] [J 0] s5)) ?_
                  exact T.iretz rfl rfl (by omega) ⟨_, rfl, gs5, by omega, by omega, pz9_0, (fun h => absurd h (by decide)), (fun _ => CB_no (by rw [hW1]; omega)), ⟨by omega, by omega⟩, by omega⟩
                · refine T.go 2 (fun n9 => (rfl : _ = exe ξ n9 (d + 1) j_U_copyBack 93 [(0, .ref 17), (1, J x), (2, .ref c), (3, J ((cLe x) + z5)), (4, J (W1.1)), (5, J ((wLe (W1.1)) + z9))] [.ref 17, J ((cLe x) + z5)] s5)) ?_
                  refine T.get rfl rfl rfl hux7 rfl ?_
                  refine T.go 1 (fun n9 => (rfl : _ = exe ξ n9 (d + 1) j_U_copyBack 97 [(0, .ref 17), (1, J x), (2, .ref c), (3, J ((cLe x) + z5)), (4, J (W1.1)), (5, J ((wLe (W1.1)) + z9))] [.ref 17, J (afld s5 17 8), J ((cLe x) + z5)] s5)) ?_
                  refine T.get rfl rfl rfl hux7 rfl ?_
                  refine T.get rfl rfl rfl k8 rfl ?_
                  refine T.isub rfl ?_
                  refine T.icmp_le rfl rfl (by omega) (by omega) (fun c8 => ?_) (fun c8 => ?_)
                  · refine T.go 2 (fun n9 => (rfl : _ = exe ξ n9 (d + 1) j_U_copyBack 112 [(0, .ref 17), (1, J x), (2, .ref c), (3, J ((cLe x) + z5)), (4, J (W1.1)), (5, J ((wLe (W1.1)) + z9)), (6, J 0)] [] s5)) ?_
                    exact loop112 _ ((cLe x) + z5) (W1.1) ((wLe (W1.1)) + z9) 0 s5 gs5 pz9_0 (by omega) (by rw [show (0 : Int).toNat = 0 from rfl]; exact nt5) (by omega) (by rw [hW1]; omega) (by rw [hW1]; omega) (by omega) (by omega) (by omega) (by omega) (by rw [hW1]; omega) (by omega) (Nat.lt_succ_self _)
                  · refine T.go 1 (fun n9 => (rfl : _ = exe ξ n9 (d + 1) j_U_copyBack 108 [(0, .ref 17), (1, J x), (2, .ref c), (3, J ((cLe x) + z5)), (4, J (W1.1)), (5, J ((wLe (W1.1)) + z9))] [J 0] s5)) ?_
                    exact T.iretz rfl rfl (by omega) ⟨_, rfl, gs5, by omega, by omega, pz9_0, (fun h => absurd h (by decide)), (fun _ => CB_no (by rw [hW1]; omega)), ⟨by omega, by omega⟩, by omega⟩
            · have fkz9 := taz9
              refine T.iadd rfl ?_
              refine T.go 2 (fun n9 => (rfl : _ = exe ξ n9 (d + 1) j_U_copyBack 73 [(0, .ref 17), (1, J x), (2, .ref c), (3, J ((cLe x) + z5)), (4, J (W1.1)), (5, J ((wLe (W1.1)) + z9))] [.ref 17] s5)) ?_
              obtain ⟨wx8, bix8, bex8, rox8, mx8, nx8, bx8, lx8, hux8, hrx8, hbx8, ⟨fx8a, fx8b, fx8c, fx8d, fx8e, fx8f, fx8g, fx8h, fx8i, fx8j⟩, ⟨fx8k, fx8l, fx8m, fx8n⟩, fx8o, fx8p⟩ := UL.unf hs5.1 pz9_0 hs
              have af8x8 := af_of (i := 8) hux8 rfl (by omega)
              subst af8x8
              have af9x8 := af_of (i := 9) hux8 rfl (by omega)
              subst af9x8
              have af10x8 := af_of (i := 10) hux8 rfl (by omega)
              subst af10x8
              have af11x8 := af_of (i := 11) hux8 rfl (by omega)
              subst af11x8
              have ctx8 := CT_of hrx8 hbx8
              have rwx8 := rl_of hrx8 (by omega)
              subst rwx8
              refine T.get rfl rfl rfl hux8 rfl ?_
              refine T.if_ne rfl rfl (by omega) (fun c9 => ?_) (fun c9 => ?_)
              · refine T.go 1 (fun n9 => (rfl : _ = exe ξ n9 (d + 1) j_U_copyBack 108 [(0, .ref 17), (1, J x), (2, .ref c), (3, J ((cLe x) + z5)), (4, J (W1.1)), (5, J ((wLe (W1.1)) + z9))] [J 0] s5)) ?_
                exact T.iretz rfl rfl (by omega) ⟨_, rfl, gs5, by omega, by omega, pz9_0, (fun h => absurd h (by decide)), (fun _ => CB_no (by rw [hW1]; omega)), ⟨by omega, by omega⟩, by omega⟩
              · exfalso
                omega
          · refine T.go 1 (fun n9 => (rfl : _ = exe ξ n9 (d + 1) j_U_copyBack 52 [(0, .ref 17), (1, J x), (2, .ref c), (3, J ((cLe x) + z5)), (4, J (W1.1))] [J 0] s4)) ?_
            exact T.iretz rfl rfl (by omega) ⟨_, rfl, gs4, by omega, by omega, pz6_0, (fun h => absurd h (by decide)), (fun _ => CB_no (by rw [hW1]; omega)), ⟨by omega, by omega⟩, by omega⟩
      · have fkz5 := taz5
        refine T.iadd rfl ?_
        refine T.go 3 (fun n9 => (rfl : _ = exe ξ n9 (d + 1) j_U_copyBack 32 [(0, .ref 17), (1, J x), (2, .ref c), (3, J ((cLe x) + z5))] [.ref c, .ref 17] s3)) ?_
        have na3 := (hs3.b.2 hNA).1
        have hg3 := hg.fr hNA hs3 hs (nm_c (dq_1 _ hs) (nm_c hst nm_0))
        obtain ⟨wx9, bix9, bex9, rox9, mx9, nx9, bx9, lx9, hux9, hrx9, hbx9, ⟨fx9a, fx9b, fx9c, fx9d, fx9e, fx9f, fx9g, fx9h, fx9i, fx9j⟩, ⟨fx9k, fx9l, fx9m, fx9n⟩, fx9o, fx9p⟩ := UL.unf hs3.1 pz5_0 hs
        have af8x9 := af_of (i := 8) hux9 rfl (by omega)
        subst af8x9
        have af9x9 := af_of (i := 9) hux9 rfl (by omega)
        subst af9x9
        have af10x9 := af_of (i := 10) hux9 rfl (by omega)
        subst af10x9
        have af11x9 := af_of (i := 11) hux9 rfl (by omega)
        subst af11x9
        have ctx9 := CT_of hrx9 hbx9
        have rwx9 := rl_of hrx9 (by omega)
        subst rwx9
        refine T.callv (as := [.ref c]) (r := []) rfl rfl rfl rfl hux9 rfl (s_U_fnextSign d s t g L m c s3 hs3.1 hc hs ht hst pz5_0 na3 hg3 (hd.fr hK hc hs3 (nm_c ((by decide : ∀ u ∈ CdL, u + 1 ≠ 17 ∧ u + 3 ≠ 17) _ hc).1 (nm_c ((by decide : ∀ u ∈ CdL, ∀ v ∈ RwL, u + 1 ≠ v) _ hc _ ht) nm_0)) (nm_c ((by decide : ∀ u ∈ CdL, u + 1 ≠ 17 ∧ u + 3 ≠ 17) _ hc).2 (nm_c ((by decide : ∀ u ∈ CdL, ∀ v ∈ RwL, u + 3 ≠ v) _ hc _ ht) nm_0))) (by omega) ) (fun v6 s6 hqs6 => ?_)
        obtain ⟨z10, rfl, hs6, hzz10, hyz10, pz10_0, pz10_1, pz10_2, pz10_3⟩ := hqs6
        have es6 := hs6
        have hs6 := hs6.sub (w' := [17, t]) (List.forall_mem_cons.mpr ⟨(by simp), (fun _ h => by cases h)⟩)
        have k9 := es6.b.1 _ _ (nm_c (dq_1 _ hs) nm_0) (fun l z => by cases z) hrx9
        have k10 := es6.b.1 _ _ (nm_c (dq_1 _ ht) nm_0) (fun l z => by cases z) k4
        have gs6 := hs3.trans hs6
        have nt6 := nb_fr na3 es6 ht (nm_c (dq_1 _ ht) nm_0)
        have rt4 := rl_eq (es6.2.2.1 t (List.mem_cons_of_mem _ ht) (nm_c (dq_1 _ ht) nm_0))
        have nt7 := nt6.trans nt1
        refine T.go 2 (fun n9 => (rfl : _ = exe ξ n9 (d + 1) j_U_copyBack 39 [(0, .ref 17), (1, J x), (2, .ref c), (3, J ((cLe x) + z5)), (4, J z10)] [J z10] s6)) ?_
        refine T.if_lt rfl rfl (by omega) (fun c10 => ?_) (fun c10 => ?_)
        · refine T.go 1 (fun n9 => (rfl : _ = exe ξ n9 (d + 1) j_U_copyBack 52 [(0, .ref 17), (1, J x), (2, .ref c), (3, J ((cLe x) + z5)), (4, J z10)] [J 0] s6)) ?_
          exact T.iretz rfl rfl (by omega) ⟨_, rfl, gs6, by omega, by omega, pz10_0, (fun h => absurd h (by decide)), (fun _ => CB_no (by omega)), ⟨by omega, by omega⟩, by omega⟩
        · refine T.go 2 (fun n9 => (rfl : _ = exe ξ n9 (d + 1) j_U_copyBack 47 [(0, .ref 17), (1, J x), (2, .ref c), (3, J ((cLe x) + z5)), (4, J z10)] [.ref 4, J z10] s6)) ?_
          refine T.xlen rfl rfl hX4 ?_
          rw [show (X4.length : Int) = 30 by omega]
          refine T.icmp_lt rfl rfl (by omega) (by omega) (fun c11 => ?_) (fun c11 => ?_)
          · refine T.go 2 (fun n9 => (rfl : _ = exe ξ n9 (d + 1) j_U_copyBack 58 [(0, .ref 17), (1, J x), (2, .ref c), (3, J ((cLe x) + z5)), (4, J z10)] [J z10, .ref 4] s6)) ?_
            refine T.xld rfl rfl hX4 (by omega) (fun z11 hzz11 hyz11 hez11 => ?_)
            have tvz11 := tb_at lX4 tab4_ok (by omega) ⟨hzz11, hyz11⟩ hez11
            subst tvz11
            have trz11 := wLe_b (k := z10) (by omega)
            refine T.go 3 (fun n9 => (rfl : _ = exe ξ n9 (d + 1) j_U_copyBack 65 [(0, .ref 17), (1, J x), (2, .ref c), (3, J ((cLe x) + z5)), (4, J z10)] [J z10, .ref 5, .ref 17, J (wLe z10)] s6)) ?_
            refine T.xld rfl rfl hX5 (by omega) (fun z12 hzz12 hyz12 hez12 => ?_)
            have tvz12 := tb_at lX5 tab5_ok (by omega) ⟨hzz12, hyz12⟩ hez12
            subst tvz12
            have trz12 := wBi_b (k := z10) (by omega)
            have na4 := (gs6.b.2 hNA).1
            have hg4 := hg.fr hNA gs6 hs (nm_c (dq_1 _ hs) (nm_c hst nm_0))
            obtain ⟨wx10, bix10, bex10, rox10, mx10, nx10, bx10, lx10, hux10, hrx10, hbx10, ⟨fx10a, fx10b, fx10c, fx10d, fx10e, fx10f, fx10g, fx10h, fx10i, fx10j⟩, ⟨fx10k, fx10l, fx10m, fx10n⟩, fx10o, fx10p⟩ := UL.unf hs6.1 pz10_0 hs
            have af8x10 := af_of (i := 8) hux10 rfl (by omega)
            subst af8x10
            have af9x10 := af_of (i := 9) hux10 rfl (by omega)
            subst af9x10
            have af10x10 := af_of (i := 10) hux10 rfl (by omega)
            subst af10x10
            have af11x10 := af_of (i := 11) hux10 rfl (by omega)
            subst af11x10
            have ctx10 := CT_of hrx10 hbx10
            have rwx10 := rl_of hrx10 (by omega)
            subst rwx10
            refine T.callv (as := [J (wBi z10)]) (r := [J (wLe z10)]) rfl rfl rfl rfl hux10 rfl (s_U_ftakeBits d s t g (wBi z10) s6 hs6.1  hs ht hst pz10_0 na4 hg4 (by omega) (by omega) (by omega)) (fun v7 s7 hqs7 => ?_)
            obtain ⟨z13, rfl, hs7, hzz13, hyz13, pz13_0, pz13_1, pz13_2⟩ := hqs7
            have es7 := hs7
            have hs7 := hs7.sub (w' := [17, t]) (List.forall_mem_cons.mpr ⟨(by simp), (fun _ h => by cases h)⟩)
            have k11 := es7.b.1 _ _ (nm_c (dq_1 _ hs) nm_0) (fun l z => by cases z) hrx10
            have k12 := es7.b.1 _ _ (nm_c (dq_1 _ ht) nm_0) (fun l z => by cases z) k10
            have gs7 := gs6.trans hs7
            have nt8 := nb_fr na4 es7 ht (nm_c (dq_1 _ ht) nm_0)
            have rt5 := rl_eq (es7.2.2.1 t (List.mem_cons_of_mem _ ht) (nm_c (dq_1 _ ht) nm_0))
            have nt9 := nt8.trans nt7
            refine T.iadd rfl ?_
            refine T.go 2 (fun n9 => (rfl : _ = exe ξ n9 (d + 1) j_U_copyBack 73 [(0, .ref 17), (1, J x), (2, .ref c), (3, J ((cLe x) + z5)), (4, J z10), (5, J ((wLe z10) + z13))] [.ref 17] s7)) ?_
            obtain ⟨wx11, bix11, bex11, rox11, mx11, nx11, bx11, lx11, hux11, hrx11, hbx11, ⟨fx11a, fx11b, fx11c, fx11d, fx11e, fx11f, fx11g, fx11h, fx11i, fx11j⟩, ⟨fx11k, fx11l, fx11m, fx11n⟩, fx11o, fx11p⟩ := UL.unf hs7.1 pz13_0 hs
            have af8x11 := af_of (i := 8) hux11 rfl (by omega)
            subst af8x11
            have af9x11 := af_of (i := 9) hux11 rfl (by omega)
            subst af9x11
            have af10x11 := af_of (i := 10) hux11 rfl (by omega)
            subst af10x11
            have af11x11 := af_of (i := 11) hux11 rfl (by omega)
            subst af11x11
            have ctx11 := CT_of hrx11 hbx11
            have rwx11 := rl_of hrx11 (by omega)
            subst rwx11
            refine T.get rfl rfl rfl hux11 rfl ?_
            refine T.if_ne rfl rfl (by omega) (fun c12 => ?_) (fun c12 => ?_)
            · refine T.go 1 (fun n9 => (rfl : _ = exe ξ n9 (d + 1) j_U_copyBack 108 [(0, .ref 17), (1, J x), (2, .ref c), (3, J ((cLe x) + z5)), (4, J z10), (5, J ((wLe z10) + z13))] [J 0] s7)) ?_
              exact T.iretz rfl rfl (by omega) ⟨_, rfl, gs7, by omega, by omega, pz13_0, (fun h => absurd h (by decide)), (fun _ => CB_no (by omega)), ⟨by omega, by omega⟩, by omega⟩
            · exfalso
              omega
          · refine T.go 1 (fun n9 => (rfl : _ = exe ξ n9 (d + 1) j_U_copyBack 52 [(0, .ref 17), (1, J x), (2, .ref c), (3, J ((cLe x) + z5)), (4, J z10)] [J 0] s6)) ?_
            exact T.iretz rfl rfl (by omega) ⟨_, rfl, gs6, by omega, by omega, pz10_0, (fun h => absurd h (by decide)), (fun _ => CB_no (by omega)), ⟨by omega, by omega⟩, by omega⟩
    · refine T.go 1 (fun n9 => (rfl : _ = exe ξ n9 (d + 1) j_U_copyBack 13 [(0, .ref 17), (1, J x), (2, .ref c)] [J 0] σ)) ?_
      exact T.iretz rfl rfl (by omega) ⟨_, rfl, (Fr.refl hK), by omega, by omega, hU, (fun h => absurd h (by decide)), (fun _ => CB_no (by omega)), ⟨by omega, by omega⟩, by omega⟩
