/-! attribute. -/
theorem LVR_y {s : qH} {u v : Int → Int} {f e n : Int} (h : LVR s u f e v n) (q : afld s 41 6 ≠ -1) : ∃ j : Nat, BRl u f e j < e ∧ ASK (LIN u f e (BRl u f e j)) v n ∧ 0 ≤ afld s 41 6 ∧ JLs (nb s 42) (afld s 41 6) (VAL (LIN u f e (BRl u f e j))) ∧ afld s 41 7 = (VAL (LIN u f e (BRl u f e j))).length ∧ afld s 41 6 + afld s 41 7 ≤ rl s 42 := h.elim (fun a => absurd a.1 q) (fun a => a)
theorem LVR_n {s : qH} {u v : Int → Int} {f e n : Int} (h : LVR s u f e v n) (q : afld s 41 6 = -1) : ∀ j : Nat, BRl u f e j < e → ¬ ASK (LIN u f e (BRl u f e j)) v n := by
  rcases h with a | ⟨j, -, -, a, -⟩
  · exact a.2
  · omega
theorem KVL_57 {σ' : qH} {J h : Int → Int} {l : List Int} {vs vl m : Int} (a4 : JLs J vs l) (a5 : vl = l.length) (hm : m = 0) (ag : AGR σ' 57 (PLC J h m vs vl.toNat)) (hr : rl σ' 57 = vl) : KVL l (nb σ' 57) vl := by
  refine ⟨a5.symm, fun i hi => ?_⟩
  have k := ag i (by omega) (by omega)
  have k2 := nb_ag (σ := σ') (r := 57) i (by omega) (by omega)
  rw [k2, ← k, PLC_at, if_pos (by omega), a4 i (by omega)]
  congr 1
  omega
/-- why attribute throws -/
def NAE (σ : qH) (g : Int → Int) (fz : Int) (r : Int → Int) (x : Int) (e : Nat) : Prop := (e = 1 → ¬ (afld σ 16 11 = 1 ∧ 0 ≤ x ∧ x ≤ afld σ 16 14)) ∧ (e = 0 → (afld σ 16 11 = 1 ∧ 0 ≤ x ∧ x ≤ afld σ 16 14) ∧ ATN g fz r)

set_option maxRecDepth 10000 in
set_option maxHeartbeats 4000000 in
theorem s_N_eattribute {ξ : Nat → Option (Nat × List Int32)} (hX : XT ξ) (d : Nat) (g : Int → Int) (fz : Int) (r u : Int → Int) (kex1 scx1 : Nat) (x : Int) (σ : qH) (hK : K σ)  (h255 : ∀ k, 0 ≤ g k ∧ g k ≤ 255) (hr255 : ∀ k, 0 ≤ r k ∧ r k ≤ 255) (hNA : NA σ) (hS : ∀ a : Nat, AOF σ x a → SV σ a g fz) (hrg : ∀ k : Int, 0 ≤ k → k < fz → r k = g k) (hu : AGR σ 51 u) (hm1 : AGR σ 53 mfn) (hm2 : rl σ 53 = 20) (hke : nfi 7 σ = some (.ref kex1)) (hsc : nfi 8 σ = some (.ref scx1)) (hks : kex1 ≠ scx1) (hf1 : CD σ 31 fixA 288) (hf2 : CD σ 35 (fun _ => 5) 32) (rx : -2147483648 ≤ x ∧ x ≤ 2147483647) : TX ξ (d + 8) j_N_attribute 0 (lv_args 0 [.ref 16, J x]) [] σ (QE [16, 17, 18, 20, 21, 22, 24, 25, 26, 28, 29, 30, 41, 42, 44, 45, 51, 57, scx1] [0, 1] σ (fun e s => nsx s = nsx σ ∧ nsk s = nsk σ ∧ rl s 51 = 0 ∧ KPR [57] σ s ∧ NAE σ g fz r x e) (fun v σ' => ∃ z : Int, v = some (J z) ∧ Fr [16, 17, 18, 20, 21, 22, 24, 25, 26, 28, 29, 30, 41, 42, 44, 45, 51, 57, scx1] σ σ' ∧ -2147483648 ≤ z ∧ z ≤ 2147483647 ∧ (afld σ 16 11 = 1 ∧ 0 ≤ x ∧ x ≤ afld σ 16 14) ∧ ATO g fz r u (rl σ 51) (nb σ' 57) (rl σ' 57) z ∧ nsx σ' = nsx σ ∧ nsk σ' = nsk σ ∧ rl σ' 51 = 0)) := by
  have hX0 := hX
  obtain ⟨⟨X1, hX1, lX1⟩, ⟨X2, hX2, lX2⟩, ⟨X3, hX3, lX3⟩, ⟨X4, hX4, lX4⟩, ⟨X5, hX5, lX5⟩, ⟨X6, hX6, lX6⟩⟩ := hX
  have lY1 : X1.length = 19 := by rw [lX1]; rfl
  have lY2 : X2.length = 29 := by rw [lX2]; rfl
  have lY3 : X3.length = 29 := by rw [lX3]; rfl
  have lY4 : X4.length = 30 := by rw [lX4]; rfl
  have lY5 : X5.length = 30 := by rw [lX5]; rfl
  have lY6 : X6.length = 16 := by rw [lX6]; rfl
  obtain ⟨key, scy, tpx1, oux1, mox1, sgx1, hox1, mcx1, lfx1, lpx1, hNx1, fx1ke, fx1sc, fx1tp, fx1ou, fx1mo, fx1sg, fx1d, fx1e, fx1f, fx1g, fx1h, fx1i, fx1j⟩ := hK.na
  have ety : kex1 = key := by have q : nfi 7 σ = some (.ref key) := (nfi_of hNx1).trans rfl; rw [hke] at q; cases q; rfl
  subst ety
  have etz : scx1 = scy := by have q : nfi 8 σ = some (.ref scy) := (nfi_of hNx1).trans rfl; rw [hsc] at q; cases q; rfl
  subst etz
  have h11 := af_of (i := 11) hNx1 rfl (by omega)
  have h14 := af_of (i := 14) hNx1 rfl (by omega)
  obtain ⟨mx2, nx2, bx2, lx2, hrx2, hbx2, fx2a, fx2b, fx2c, fx2d, fx2e, fx2g, fx2h, fx2i⟩ := hK.row (r := 53) (by decide)
  have ctx2 := CT_of hrx2 hbx2
  have rwx2 := rl_of hrx2 (by omega)
  subst rwx2
  have m42 : mst 42 = 8000 := by decide
  have m57 : mst 57 = 8000 := by decide
  have m9 := (by decide : ∀ u ∈ [59, 61], mst u = 8000) _ (mem2 fx1sc)
  refine TX.go 2 (fun n9 => (rfl : _ = exx ξ n9 (d + 8) j_N_attribute 2 [(0, .ref 16), (1, J x)] [J x, .ref 16] σ)) ?_
  refine TX.callv (as := [J x]) (r := []) rfl rfl rfl rfl rfl hNx1 rfl (s_N_farchiveOf (d + 7) x σ hK   (by omega)) (fun v1 s1 hqs1 => ?_)
  obtain ⟨esz1, ⟨rfl, hnaa1⟩ | ⟨a1, hAa1, rfl, haoa1⟩⟩ := hqs1
  · rw [esz1]
    refine TX.go 16 (fun n9 => (rfl : _ = exx ξ n9 (d + 8) j_N_attribute 85 [(0, .ref 16), (1, J x), (2, .null), (3, J (-1)), (4, J 0)] [.ref 16] σ)) ?_
    refine TX.get rfl rfl rfl rfl hNx1 rfl ?_
    obtain ⟨mx3, nx3, bx3, lx3, hrx3, hbx3, fx3a, fx3b, fx3c, fx3d, fx3e, fx3g, fx3h, fx3i⟩ := hK.row (r := 51) (by decide)
    have ctx3 := CT_of hrx3 hbx3
    have rwx3 := rl_of hrx3 (by omega)
    subst rwx3
    refine TX.callv (as := []) (r := []) rfl rfl rfl rfl rfl hrx3 rfl (s_R_clear (d + 7) 51 σ hK (by decide)  ) (fun v2 s2 hqs2 => ?_)
    obtain ⟨rfl, hs2, pz2_0, pz2_1⟩ := hqs2
    have es2 := hs2
    have hs2 := hs2.sub (w' := [16, 17, 18, 20, 21, 22, 24, 25, 26, 28, 29, 30, 41, 42, 44, 45, 51, 57, scx1]) (List.forall_mem_cons.mpr ⟨(by simp), (fun _ h => by cases h)⟩)
    have k1 := es2.b.1 _ _ (nm_c (by decide) nm_0) (fun l z => by cases z) hNx1
    have k2 := es2.b.1 _ _ (nm_c (by decide) nm_0) (fun l z => by cases z) hrx2
    have kq1 : KPR [57] σ s2 := KPR.fr KPR.rf es2 hNA (KPR_1 (by decide) (nm_c (by decide) nm_0))
    have nq1 := (es2.b.2 hNA).1
    refine TX.go 2 (fun n9 => (rfl : _ = exx ξ n9 (d + 8) j_N_attribute 95 [(0, .ref 16), (1, J x), (2, .null), (3, J (-1)), (4, J 0)] [] s2)) ?_
    have tq1 : nsx s2 = nsx σ := (nsx_of k1).trans (nsx_of hNx1).symm
    exact TX.throw (Nat.ble_eq_true_of_le (by omega)) rfl rfl (QE_r (by decide) hs2 ⟨tq1, ((nsk_of k1).trans (nsk_of hNx1).symm), pz2_1, kq1, ⟨(fun _ => by omega), (fun q => absurd q (by decide))⟩⟩)
  · rw [esz1]; have hSa := hS a1 haoa1; have hS4 := hSa.2.2.2.1; have v1 := haoa1.1; have v2 := haoa1.2.1; have v3 := haoa1.2.2.1
    refine TX.go 5 (fun n9 => (rfl : _ = exx ξ n9 (d + 8) j_N_attribute 16 [(0, .ref 16), (1, J x), (2, .ref a1)] [.ref 16, .ref a1] σ)) ?_
    refine TX.get rfl rfl rfl rfl hNx1 rfl ?_
    refine TX.go 2 (fun n9 => (rfl : _ = exx ξ n9 (d + 8) j_N_attribute 21 [(0, .ref 16), (1, J x), (2, .ref a1)] [.ref 16, J 0, .ref 53, .ref a1] σ)) ?_
    refine TX.get rfl rfl rfl rfl hNx1 rfl ?_
    refine TX.get rfl rfl rfl rfl hrx2 rfl ?_
    obtain ⟨ex4, erx4, dix4, bax4, fpx4, hax4, fx4a, fx4b, fx4c, fx4d, fx4e, fx4f, fx4g, fx4h, fx4i, fx4j⟩ := hK.arc hAa1
    have af3x4 := af_of (i := 3) hax4 rfl (by omega)
    subst af3x4
    have af4x4 := af_of (i := 4) hax4 rfl (by omega)
    subst af4x4
    have af5x4 := af_of (i := 5) hax4 rfl (by omega)
    subst af5x4
    have af6x4 := af_of (i := 6) hax4 rfl (by omega)
    subst af6x4
    have af7x4 := af_of (i := 7) hax4 rfl (by omega)
    subst af7x4
    refine TX.callv (as := [.ref 53, J 0, J (rl σ 53)]) (r := []) rfl rfl rfl rfl (ArL_lt _ hAa1).2.2.1 hax4 rfl (s_A_flookUp (d + 6) g mfn a1 53 0 (rl σ 53) σ hK hAa1 (by decide) h255 hSa.2.1 hm1 (SV_hc h255 hSa) (by omega) (by omega) (by omega) (by omega) (by omega)) (fun v3 s3 hqs3 => ?_)
    obtain ⟨z3, rfl, esz3, hzz3, hyz3, pz3_0⟩ := hqs3
    rw [esz3]
    have lk1 := SV_lk (u := mfn) (s := 0) (n := rl σ 53) h255 hSa
    rw [← pz3_0, hm2] at lk1
    refine TX.go 3 (fun n9 => (rfl : _ = exx ξ n9 (d + 8) j_N_attribute 33 [(0, .ref 16), (1, J x), (2, .ref a1), (3, J z3)] [J (-1), J z3] σ)) ?_
    refine TX.icmp_ne rfl rfl rfl (by omega) (by omega) (fun c1 => ?_) (fun c1 => ?_)
    · refine TX.go 4 (fun n9 => (rfl : _ = exx ξ n9 (d + 8) j_N_attribute 44 [(0, .ref 16), (1, J x), (2, .ref a1), (3, J z3)] [.ref 16, J z3, .ref a1, .ref 16] σ)) ?_
      refine TX.get rfl rfl rfl rfl hNx1 rfl ?_
      have nm1 := lk1.1 (by omega)
      have nm2 := nm1.1
      have nm3 := nm1.2.1
      have s5 := hSa.2.2.2.2 z3 (by omega) (by omega)
      have s55 := s5.1
      have s56 := s5.2
      have se := (FO_ent h255 hSa.2.2.1).2 z3 (by omega) (by omega)
      have sr := hSa.1
      have w20 : W4 r (Hj g fz z3 + 20) = W4 g (Hj g fz z3 + 20) := W4_c hrg (by omega) (by omega)
      rw [← s55, ← s56] at se
      rw [← s55] at w20
      have agr : AGR σ (a1 + 1) r := fun k k0 k1 => (hrg k k0 (by omega)).trans (hSa.2.1 k k0 k1)
      refine TX.callv (as := [.ref a1, J z3, .ref scx1]) (r := []) rfl rfl rfl rfl rfl hNx1 rfl (s_N_funpackEntry hX0 (d + 2) r a1 z3 scx1 σ hK hAa1 (na_ke fx1sc) (dq_89 _ hAa1 _ (mem2 fx1sc)) hr255 hNA agr ((by decide : ∀ u ∈ [59, 61], mst u = 8000) _ (mem2 fx1sc)) hf1 hf2 (by omega) (by omega) (by omega) (by omega) (by omega) (by omega) (by omega)) (fun v4 s4 hqs4 => ?_)
      obtain ⟨z4, rfl, hs4, hzz4, hyz4, pz4_0, pz4_1⟩ := hqs4
      have es4 := hs4
      have hs4 := hs4.sub (w' := [16, 17, 18, 20, 21, 22, 24, 25, 26, 28, 29, 30, 41, 42, 44, 45, 51, 57, scx1]) (List.forall_mem_cons.mpr ⟨(by simp), (List.forall_mem_cons.mpr ⟨(by simp), (List.forall_mem_cons.mpr ⟨(by simp), (List.forall_mem_cons.mpr ⟨(by simp), (List.forall_mem_cons.mpr ⟨(by simp), (List.forall_mem_cons.mpr ⟨(by simp), (List.forall_mem_cons.mpr ⟨(by simp), (List.forall_mem_cons.mpr ⟨(by simp), (List.forall_mem_cons.mpr ⟨(by simp), (List.forall_mem_cons.mpr ⟨(by simp), (List.forall_mem_cons.mpr ⟨(by simp), (List.forall_mem_cons.mpr ⟨(by simp), (fun _ h => by cases h)⟩)⟩)⟩)⟩)⟩)⟩)⟩)⟩)⟩)⟩)⟩)⟩)
      have k3 := es4.b.1 _ _ (nm_c (by decide) (nm_c (by decide) (nm_c (by decide) (nm_c (by decide) (nm_c (by decide) (nm_c (by decide) (nm_c (by decide) (nm_c (by decide) (nm_c (by decide) (nm_c (by decide) (nm_c (by decide) (nm_c (dq_90 _ (mem2 fx1sc)) nm_0)))))))))))) (fun l z => by cases z) hNx1
      have k4 := es4.b.1 _ _ (nm_c (by decide) (nm_c (by decide) (nm_c (by decide) (nm_c (by decide) (nm_c (by decide) (nm_c (by decide) (nm_c (by decide) (nm_c (by decide) (nm_c (by decide) (nm_c (by decide) (nm_c (by decide) (nm_c ((by decide : ∀ v ∈ [59, 61], (53 : Nat) ≠ v) _ (mem2 fx1sc)) nm_0)))))))))))) (fun l z => by cases z) hrx2
      have k5 := es4.b.1 _ _ (nm_c (dq_53 _ hAa1) (nm_c (dq_54 _ hAa1) (nm_c (dq_55 _ hAa1) (nm_c (dq_56 _ hAa1) (nm_c (dq_57 _ hAa1) (nm_c (dq_58 _ hAa1) (nm_c (dq_59 _ hAa1) (nm_c (dq_60 _ hAa1) (nm_c (dq_61 _ hAa1) (nm_c (dq_62 _ hAa1) (nm_c (dq_63 _ hAa1) (nm_c (dq_91 _ hAa1 _ (mem2 fx1sc)) nm_0)))))))))))) (fun l z => by cases z) hax4
      rw [s55, s56] at pz4_0 pz4_1
      have hu1 := hu.fr hNA es4 (by decide) (nm_c (by decide) (nm_c (by decide) (nm_c (by decide) (nm_c (by decide) (nm_c (by decide) (nm_c (by decide) (nm_c (by decide) (nm_c (by decide) (nm_c (by decide) (nm_c (by decide) (nm_c (by decide) (nm_c (dq_149 _ (mem2 fx1sc)) nm_0))))))))))))
      have ru1 : rl s4 51 = rl σ 51 := rl_eq (es4.2.2.1 51 (by decide) (nm_c (by decide) (nm_c (by decide) (nm_c (by decide) (nm_c (by decide) (nm_c (by decide) (nm_c (by decide) (nm_c (by decide) (nm_c (by decide) (nm_c (by decide) (nm_c (by decide) (nm_c (by decide) (nm_c (dq_149 _ (mem2 fx1sc)) nm_0)))))))))))))
      have kq2 : KPR [57] σ s4 := KPR.fr KPR.rf es4 hNA (KPR_1 (by decide) (nm_c (by decide) (nm_c (by decide) (nm_c (by decide) (nm_c (by decide) (nm_c (by decide) (nm_c (by decide) (nm_c (by decide) (nm_c (by decide) (nm_c (by decide) (nm_c (by decide) (nm_c (by decide) (nm_c ((by decide : ∀ v ∈ [59, 61], (57 : Nat) ≠ v) _ (mem2 fx1sc)) nm_0)))))))))))))
      have nq2 := (es4.b.2 hNA).1
      refine TX.go 3 (fun n9 => (rfl : _ = exx ξ n9 (d + 8) j_N_attribute 54 [(0, .ref 16), (1, J x), (2, .ref a1), (3, J z3), (4, J z4)] [J (-1), J z3] s4)) ?_
      refine TX.icmp_eq rfl rfl rfl (by omega) (by omega) (fun c2 => ?_) (fun c2 => ?_)
      · exfalso
        omega
      · refine TX.go 1 (fun n9 => (rfl : _ = exx ξ n9 (d + 8) j_N_attribute 59 [(0, .ref 16), (1, J x), (2, .ref a1), (3, J z3), (4, J z4)] [J z4] s4)) ?_
        refine TX.if_ne rfl rfl rfl (by omega) (fun c3 => ?_) (fun c3 => ?_)
        · refine TX.go 1 (fun n9 => (rfl : _ = exx ξ n9 (d + 8) j_N_attribute 85 [(0, .ref 16), (1, J x), (2, .ref a1), (3, J z3), (4, J z4)] [.ref 16] s4)) ?_
          refine TX.get rfl rfl rfl rfl k3 rfl ?_
          obtain ⟨mx5, nx5, bx5, lx5, hrx5, hbx5, fx5a, fx5b, fx5c, fx5d, fx5e, fx5g, fx5h, fx5i⟩ := hs4.1.row (r := 51) (by decide)
          have ctx5 := CT_of hrx5 hbx5
          have rwx5 := rl_of hrx5 (by omega)
          subst rwx5
          refine TX.callv (as := []) (r := []) rfl rfl rfl rfl rfl hrx5 rfl (s_R_clear (d + 7) 51 s4 hs4.1 (by decide)  ) (fun v5 s5 hqs5 => ?_)
          obtain ⟨rfl, hs5, pz5_0, pz5_1⟩ := hqs5
          have es5 := hs5
          have hs5 := hs5.sub (w' := [16, 17, 18, 20, 21, 22, 24, 25, 26, 28, 29, 30, 41, 42, 44, 45, 51, 57, scx1]) (List.forall_mem_cons.mpr ⟨(by simp), (fun _ h => by cases h)⟩)
          have k6 := es5.b.1 _ _ (nm_c (by decide) nm_0) (fun l z => by cases z) k3
          have k7 := es5.b.1 _ _ (nm_c (by decide) nm_0) (fun l z => by cases z) k4
          have k8 := es5.b.1 _ _ (nm_c (dq_88 _ hAa1) nm_0) (fun l z => by cases z) k5
          have gs5 := hs4.trans hs5
          have kq3 : KPR [57] σ s5 := KPR.fr kq2 es5 nq2 (KPR_1 (by decide) (nm_c (by decide) nm_0))
          have nq3 := (es5.b.2 nq2).1
          refine TX.go 3 (fun n9 => (rfl : _ = exx ξ n9 (d + 8) j_N_attribute 107 [(0, .ref 16), (1, J x), (2, .ref a1), (3, J z3), (4, J z4)] [J z4] s5)) ?_
          refine TX.if_eq rfl rfl rfl (by omega) (fun c4 => ?_) (fun c4 => ?_)
          · exfalso
            omega
          · refine TX.go 3 (fun n9 => (rfl : _ = exx ξ n9 (d + 8) j_N_attribute 114 [(0, .ref 16), (1, J x), (2, .ref a1), (3, J z3), (4, J z4)] [J z3, J z4, .ref 16] s5)) ?_
            have tq2 : nsx s5 = nsx σ := (nsx_of k6).trans (nsx_of hNx1).symm
            refine TX.callv (as := [J z4, J z3]) (r := []) rfl rfl rfl rfl rfl k6 rfl (s_N_enote (d + 7) z4 z3 s5 hs5.1   (by omega) (by omega)) (fun v6 s6 hqs6 => ?_)
            obtain ⟨rfl, hs6, pz6_0, pz6_1⟩ := hqs6
            have es6 := hs6
            have hs6 := hs6.sub (w' := [16, 17, 18, 20, 21, 22, 24, 25, 26, 28, 29, 30, 41, 42, 44, 45, 51, 57, scx1]) (List.forall_mem_cons.mpr ⟨(by simp), (fun _ h => by cases h)⟩)
            have tys6 := (rl_eq (es6.2.2.1 51 (by decide) (nm_c (by decide) nm_0))).trans pz5_1
            have k9 := es6.b.1 _ _ (nm_c (by decide) nm_0) (fun l z => by cases z) k7
            have k10 := es6.b.1 _ _ (nm_c (dq_92 _ hAa1) nm_0) (fun l z => by cases z) k8
            have gs6 := gs5.trans hs6
            have tq3 := pz6_0.trans tq2
            have tk1 := pz6_1.trans ((nsk_of k6).trans (nsk_of hNx1).symm)
            have kq4 : KPR [57] σ s6 := KPR.fr kq3 es6 nq3 (KPR_1 (by decide) (nm_c (by decide) nm_0))
            have nq4 := (es6.b.2 nq3).1
            exact TX.throw (Nat.ble_eq_true_of_le (by omega)) rfl rfl (QE_r (by decide) gs6 ⟨tq3, tk1, tys6, kq4, ⟨(fun q => absurd q (by decide)), (fun _ => ⟨by omega, z3, nm1, Or.inl (pz4_1 (by omega))⟩)⟩⟩)
        · refine TX.go 1 (fun n9 => (rfl : _ = exx ξ n9 (d + 8) j_N_attribute 63 [(0, .ref 16), (1, J x), (2, .ref a1), (3, J z3), (4, J z4)] [.ref 16] s4)) ?_
          refine TX.get rfl rfl rfl rfl k3 rfl ?_
          refine TX.go 1 (fun n9 => (rfl : _ = exx ξ n9 (d + 8) j_N_attribute 67 [(0, .ref 16), (1, J x), (2, .ref a1), (3, J z3), (4, J z4)] [.ref 16, .ref 41] s4)) ?_
          refine TX.get rfl rfl rfl rfl k3 rfl ?_
          refine TX.go 1 (fun n9 => (rfl : _ = exx ξ n9 (d + 8) j_N_attribute 71 [(0, .ref 16), (1, J x), (2, .ref a1), (3, J z3), (4, J z4)] [.ref 16, .ref scx1, .ref 41] s4)) ?_
          refine TX.get rfl rfl rfl rfl k3 rfl ?_
          have rd9 := pz4_0 (by omega)
          obtain ⟨mx6, nx6, bx6, lx6, hrx6, hbx6, fx6a, fx6b, fx6c, fx6d, fx6e, fx6g, fx6h, fx6i⟩ := hs4.1.row (na_ke fx1sc)
          have ctx6 := CT_of hrx6 hbx6
          have rwx6 := rl_of hrx6 (by omega)
          subst rwx6
          obtain ⟨e9, ie9, ie0, ie8⟩ := IME_ex (nb s4 scx1) (f := rl s4 scx1) (by omega)
          obtain ⟨nx7, osx7, vsx7, vlx7, asx7, hmx7, fx7a, fx7b, fx7c, fx7d, fx7e, fx7f, fx7g, fx7h, fx7i⟩ := hs4.1.man
          have af3x7 := af_of (i := 3) hmx7 rfl (by omega)
          subst af3x7
          have af4x7 := af_of (i := 4) hmx7 rfl (by omega)
          subst af4x7
          have af6x7 := af_of (i := 6) hmx7 rfl (by omega)
          subst af6x7
          have af7x7 := af_of (i := 7) hmx7 rfl (by omega)
          subst af7x7
          refine TX.callv (as := [.ref scx1, .ref 51]) (r := []) rfl rfl rfl rfl rfl hmx7 rfl (s_F_flearn (d + 2) (nb s4 scx1) e9 u (rl σ 51) scx1 51 s4 hs4.1 (na_ke fx1sc) (by decide) (dq_150 _ (mem2 fx1sc)) (by decide) nq2 nb_ag hu1 ru1 ie9 (by omega) (by omega)) (fun v7 s7 hqs7 => ?_)
          obtain ⟨z7, rfl, hs7, hzz7, hyz7, pz7_0, pz7_1⟩ := hqs7
          have es7 := hs7
          have hs7 := hs7.sub (w' := [16, 17, 18, 20, 21, 22, 24, 25, 26, 28, 29, 30, 41, 42, 44, 45, 51, 57, scx1]) (List.forall_mem_cons.mpr ⟨(by simp), (List.forall_mem_cons.mpr ⟨(by simp), (List.forall_mem_cons.mpr ⟨(by simp), (List.forall_mem_cons.mpr ⟨(by simp), (fun _ h => by cases h)⟩)⟩)⟩)⟩)
          have k11 := es7.b.1 _ _ (nm_c (by decide) (nm_c (by decide) (nm_c (by decide) (nm_c (by decide) nm_0)))) (fun l z => by cases z) k3
          have k12 := es7.b.1 _ _ (nm_c (by decide) (nm_c (by decide) (nm_c (by decide) (nm_c (by decide) nm_0)))) (fun l z => by cases z) k4
          have k13 := es7.b.1 _ _ (nm_c ((by decide : ∀ u ∈ ArL, u ≠ 41) _ hAa1) (nm_c ((by decide : ∀ u ∈ ArL, u ≠ 44) _ hAa1) (nm_c ((by decide : ∀ u ∈ ArL, u ≠ 45) _ hAa1) (nm_c ((by decide : ∀ u ∈ ArL, u ≠ 42) _ hAa1) nm_0)))) (fun l z => by cases z) k5
          have k14 := es7.b.1 _ _ (nm_c ((by decide : ∀ u ∈ [59, 61], u ≠ 41) _ (mem2 fx1sc)) (nm_c ((by decide : ∀ u ∈ [59, 61], u ≠ 44) _ (mem2 fx1sc)) (nm_c ((by decide : ∀ u ∈ [59, 61], u ≠ 45) _ (mem2 fx1sc)) (nm_c (dq_150 _ (mem2 fx1sc)) nm_0)))) (fun l z => by cases z) hrx6
          have gs7 := hs4.trans hs7
          have kq5 : KPR [57] σ s7 := KPR.fr kq2 es7 nq2 (KPR_1 (by decide) (nm_c (by decide) (nm_c (by decide) (nm_c (by decide) (nm_c (by decide) nm_0)))))
          have nq5 := (es7.b.2 nq2).1
          obtain ⟨nx8, osx8, vsx8, vlx8, asx8, hmx8, fx8a, fx8b, fx8c, fx8d, fx8e, fx8f, fx8g, fx8h, fx8i⟩ := hs7.1.man
          have af3x8 := af_of (i := 3) hmx8 rfl (by omega)
          subst af3x8
          have af4x8 := af_of (i := 4) hmx8 rfl (by omega)
          subst af4x8
          have af6x8 := af_of (i := 6) hmx8 rfl (by omega)
          subst af6x8
          have af7x8 := af_of (i := 7) hmx8 rfl (by omega)
          subst af7x8
          obtain ⟨mx9, nx9, bx9, lx9, hrx9, hbx9, fx9a, fx9b, fx9c, fx9d, fx9e, fx9g, fx9h, fx9i⟩ := hs7.1.row (r := 42) (by decide)
          have ctx9 := CT_of hrx9 hbx9
          have rwx9 := rl_of hrx9 (by omega)
          subst rwx9
          refine TX.if_ne rfl rfl rfl (by omega) (fun c5 => ?_) (fun c5 => ?_)
          · refine TX.go 1 (fun n9 => (rfl : _ = exx ξ n9 (d + 8) j_N_attribute 85 [(0, .ref 16), (1, J x), (2, .ref a1), (3, J z3), (4, J z4)] [.ref 16] s7)) ?_
            refine TX.get rfl rfl rfl rfl k11 rfl ?_
            obtain ⟨mx10, nx10, bx10, lx10, hrx10, hbx10, fx10a, fx10b, fx10c, fx10d, fx10e, fx10g, fx10h, fx10i⟩ := hs7.1.row (r := 51) (by decide)
            have ctx10 := CT_of hrx10 hbx10
            have rwx10 := rl_of hrx10 (by omega)
            subst rwx10
            refine TX.callv (as := []) (r := []) rfl rfl rfl rfl rfl hrx10 rfl (s_R_clear (d + 7) 51 s7 hs7.1 (by decide)  ) (fun v8 s8 hqs8 => ?_)
            obtain ⟨rfl, hs8, pz8_0, pz8_1⟩ := hqs8
            have es8 := hs8
            have hs8 := hs8.sub (w' := [16, 17, 18, 20, 21, 22, 24, 25, 26, 28, 29, 30, 41, 42, 44, 45, 51, 57, scx1]) (List.forall_mem_cons.mpr ⟨(by simp), (fun _ h => by cases h)⟩)
            have k15 := es8.b.1 _ _ (nm_c (by decide) nm_0) (fun l z => by cases z) k11
            have k16 := es8.b.1 _ _ (nm_c (by decide) nm_0) (fun l z => by cases z) k12
            have k17 := es8.b.1 _ _ (nm_c (dq_88 _ hAa1) nm_0) (fun l z => by cases z) k13
            have k18 := es8.b.1 _ _ (nm_c (dq_151 _ (mem2 fx1sc)) nm_0) (fun l z => by cases z) k14
            have k19 := es8.b.1 _ _ (nm_c (by decide) nm_0) (fun l z => by cases z) hmx8
            have k20 := es8.b.1 _ _ (nm_c (by decide) nm_0) (fun l z => by cases z) hrx9
            have gs8 := gs7.trans hs8
            have kq6 : KPR [57] σ s8 := KPR.fr kq5 es8 nq5 (KPR_1 (by decide) (nm_c (by decide) nm_0))
            have aq1 := (nb_ag (σ := s7) (r := 42)).fr nq5 es8 (by decide) (nm_c (by decide) nm_0)
            have rq1 : rl s8 42 = rl s7 42 := (rl_eq (es8.2.2.1 42 (by decide) (nm_c (by decide) nm_0))).trans rfl
            have nq6 := (es8.b.2 nq5).1
            refine TX.go 3 (fun n9 => (rfl : _ = exx ξ n9 (d + 8) j_N_attribute 107 [(0, .ref 16), (1, J x), (2, .ref a1), (3, J z3), (4, J z4)] [J z4] s8)) ?_
            refine TX.if_eq rfl rfl rfl (by omega) (fun c6 => ?_) (fun c6 => ?_)
            · refine TX.go 1 (fun n9 => (rfl : _ = exx ξ n9 (d + 8) j_N_attribute 128 [(0, .ref 16), (1, J x), (2, .ref a1), (3, J z3), (4, J z4)] [.ref 16] s8)) ?_
              refine TX.get rfl rfl rfl rfl k15 rfl ?_
              obtain ⟨mx11, nx11, bx11, lx11, hrx11, hbx11, fx11a, fx11b, fx11c, fx11d, fx11e, fx11g, fx11h, fx11i⟩ := hs8.1.row (r := 57) (by decide)
              have ctx11 := CT_of hrx11 hbx11
              have rwx11 := rl_of hrx11 (by omega)
              subst rwx11
              refine TX.callv (as := []) (r := []) rfl rfl rfl rfl rfl hrx11 rfl (s_R_clear (d + 7) 57 s8 hs8.1 (by decide)  ) (fun v9 s9 hqs9 => ?_)
              obtain ⟨rfl, hs9, pz9_0, pz9_1⟩ := hqs9
              have es9 := hs9
              have hs9 := hs9.sub (w' := [16, 17, 18, 20, 21, 22, 24, 25, 26, 28, 29, 30, 41, 42, 44, 45, 51, 57, scx1]) (List.forall_mem_cons.mpr ⟨(by simp), (fun _ h => by cases h)⟩)
              have tys9 := (rl_eq (es9.2.2.1 51 (by decide) (nm_c (by decide) nm_0))).trans pz8_1
              have k21 := es9.b.1 _ _ (nm_c (by decide) nm_0) (fun l z => by cases z) k15
              have k22 := es9.b.1 _ _ (nm_c (by decide) nm_0) (fun l z => by cases z) k16
              have k23 := es9.b.1 _ _ (nm_c (dq_152 _ hAa1) nm_0) (fun l z => by cases z) k17
              have k24 := es9.b.1 _ _ (nm_c (dq_153 _ (mem2 fx1sc)) nm_0) (fun l z => by cases z) k18
              have k25 := es9.b.1 _ _ (nm_c (by decide) nm_0) (fun l z => by cases z) k19
              have k26 := es9.b.1 _ _ (nm_c (by decide) nm_0) (fun l z => by cases z) k20
              have gs9 := gs8.trans hs9
              have aq2 := aq1.fr nq6 es9 (by decide) (nm_c (by decide) nm_0)
              have rq2 : rl s9 42 = rl s7 42 := (rl_eq (es9.2.2.1 42 (by decide) (nm_c (by decide) nm_0))).trans rq1
              have nq7 := (es9.b.2 nq6).1
              refine TX.go 2 (fun n9 => (rfl : _ = exx ξ n9 (d + 8) j_N_attribute 136 [(0, .ref 16), (1, J x), (2, .ref a1), (3, J z3), (4, J z4)] [J (-1), J z3] s9)) ?_
              refine TX.icmp_eq rfl rfl rfl (by omega) (by omega) (fun c7 => ?_) (fun c7 => ?_)
              · exfalso
                omega
              · refine TX.go 1 (fun n9 => (rfl : _ = exx ξ n9 (d + 8) j_N_attribute 140 [(0, .ref 16), (1, J x), (2, .ref a1), (3, J z3), (4, J z4)] [.ref 16] s9)) ?_
                refine TX.get rfl rfl rfl rfl k21 rfl ?_
                refine TX.get rfl rfl rfl rfl k25 rfl ?_
                refine TX.go 1 (fun n9 => (rfl : _ = exx ξ n9 (d + 8) j_N_attribute 147 [(0, .ref 16), (1, J x), (2, .ref a1), (3, J z3), (4, J z4)] [J (-1), J (afld s7 41 6)] s9)) ?_
                refine TX.icmp_ne rfl rfl rfl (by omega) (by omega) (fun c8 => ?_) (fun c8 => ?_)
                · refine TX.go 1 (fun n9 => (rfl : _ = exx ξ n9 (d + 8) j_N_attribute 153 [(0, .ref 16), (1, J x), (2, .ref a1), (3, J z3), (4, J z4)] [.ref 16] s9)) ?_
                  refine TX.get rfl rfl rfl rfl k21 rfl ?_
                  refine TX.go 1 (fun n9 => (rfl : _ = exx ξ n9 (d + 8) j_N_attribute 157 [(0, .ref 16), (1, J x), (2, .ref a1), (3, J z3), (4, J z4)] [.ref 16, .ref 57] s9)) ?_
                  refine TX.get rfl rfl rfl rfl k21 rfl ?_
                  refine TX.get rfl rfl rfl rfl k25 rfl ?_
                  refine TX.go 1 (fun n9 => (rfl : _ = exx ξ n9 (d + 8) j_N_attribute 164 [(0, .ref 16), (1, J x), (2, .ref a1), (3, J z3), (4, J z4)] [.ref 16, .ref 42, .ref 57] s9)) ?_
                  refine TX.get rfl rfl rfl rfl k21 rfl ?_
                  refine TX.get rfl rfl rfl rfl k25 rfl ?_
                  refine TX.go 1 (fun n9 => (rfl : _ = exx ξ n9 (d + 8) j_N_attribute 171 [(0, .ref 16), (1, J x), (2, .ref a1), (3, J z3), (4, J z4)] [.ref 16, J (afld s7 41 6), .ref 42, .ref 57] s9)) ?_
                  refine TX.get rfl rfl rfl rfl k21 rfl ?_
                  refine TX.get rfl rfl rfl rfl k25 rfl ?_
                  obtain ⟨j9, y1, y2, y3, y4, y5, y6⟩ := LVR_y (pz7_1 (by omega)).2 (by omega)
                  have r570 := pz9_1
                  have rq3 := rq2
                  obtain ⟨mx12, nx12, bx12, lx12, hrx12, hbx12, fx12a, fx12b, fx12c, fx12d, fx12e, fx12g, fx12h, fx12i⟩ := hs9.1.row (r := 57) (by decide)
                  have ctx12 := CT_of hrx12 hbx12
                  have rwx12 := rl_of hrx12 (by omega)
                  subst rwx12
                  refine TX.callv (as := [.ref 42, J (afld s7 41 6), J (afld s7 41 7)]) (r := []) rfl rfl rfl rfl rfl hrx12 rfl (s_R_faddPart (d + 6) 57 42 (afld s7 41 6) (afld s7 41 7) s9 hs9.1 (by decide) (by decide) (by decide) (by omega) (by omega) (by omega) (by omega) (by omega) (by omega)) (fun v10 s10 hqs10 => ?_)
                  obtain ⟨z10, rfl, hs10, hzz10, hyz10, pz10_0, pz10_1, pz10_2, pz10_3⟩ := hqs10
                  have es10 := hs10
                  have hs10 := hs10.sub (w' := [16, 17, 18, 20, 21, 22, 24, 25, 26, 28, 29, 30, 41, 42, 44, 45, 51, 57, scx1]) (List.forall_mem_cons.mpr ⟨(by simp), (fun _ h => by cases h)⟩)
                  have tys10 := (rl_eq (es10.2.2.1 51 (by decide) (nm_c (by decide) nm_0))).trans tys9
                  have k27 := es10.b.1 _ _ (nm_c (by decide) nm_0) (fun l z => by cases z) k21
                  have k28 := es10.b.1 _ _ (nm_c (by decide) nm_0) (fun l z => by cases z) k22
                  have k29 := es10.b.1 _ _ (nm_c (dq_152 _ hAa1) nm_0) (fun l z => by cases z) k23
                  have k30 := es10.b.1 _ _ (nm_c (dq_153 _ (mem2 fx1sc)) nm_0) (fun l z => by cases z) k24
                  have k31 := es10.b.1 _ _ (nm_c (by decide) nm_0) (fun l z => by cases z) k25
                  have k32 := es10.b.1 _ _ (nm_c (by decide) nm_0) (fun l z => by cases z) k26
                  have gs10 := gs9.trans hs10
                  subst pz10_2
                  refine TX.go 2 (fun n9 => (rfl : _ = exx ξ n9 (d + 8) j_N_attribute 182 [(0, .ref 16), (1, J x), (2, .ref a1), (3, J z3), (4, J z4)] [.ref 16] s10)) ?_
                  refine TX.get rfl rfl rfl rfl k27 rfl ?_
                  obtain ⟨mx13, nx13, bx13, lx13, hrx13, hbx13, fx13a, fx13b, fx13c, fx13d, fx13e, fx13g, fx13h, fx13i⟩ := hs10.1.row (r := 57) (by decide)
                  have ctx13 := CT_of hrx13 hbx13
                  have rwx13 := rl_of hrx13 (by omega)
                  subst rwx13
                  refine TX.get rfl rfl rfl rfl hrx13 rfl ?_
                  have tq4 : nsx s10 = nsx σ := (nsx_of k27).trans (nsx_of hNx1).symm
                  exact TX.ireti rfl rfl rfl (QE_l ⟨_, rfl, gs10, by omega, by omega, by omega, (Or.inr ⟨z3, nb s4 scx1, rl s4 scx1, e9, nm1, rd9.1, rd9.2, ie9, (pz7_1 (by omega)).1, Or.inr ⟨j9, y1, y2, (by have e5 : rl s10 57 = afld s7 41 7 := (by have q := pz10_1; omega); have q3 := pz10_3 (nb s7 42) (nb s9 57) aq2 nb_ag; have kv := KVL_57 y4 y5 r570 q3 e5; rw [e5]; exact kv), rfl⟩⟩), tq4, ((nsk_of k27).trans (nsk_of hNx1).symm), tys10⟩)
                · refine TX.go 1 (fun n9 => (rfl : _ = exx ξ n9 (d + 8) j_N_attribute 151 [(0, .ref 16), (1, J x), (2, .ref a1), (3, J z3), (4, J z4)] [J (-1)] s9)) ?_
                  have tq5 : nsx s9 = nsx σ := (nsx_of k21).trans (nsx_of hNx1).symm
                  exact TX.ireti rfl rfl rfl (QE_l ⟨_, rfl, gs9, by omega, by omega, by omega, (Or.inr ⟨z3, nb s4 scx1, rl s4 scx1, e9, nm1, rd9.1, rd9.2, ie9, (pz7_1 (by omega)).1, Or.inl ⟨rfl, pz9_1, LVR_n (pz7_1 (by omega)).2 (by omega)⟩⟩), tq5, ((nsk_of k21).trans (nsk_of hNx1).symm), tys9⟩)
            · exfalso
              omega
          · refine TX.go 3 (fun n9 => (rfl : _ = exx ξ n9 (d + 8) j_N_attribute 85 [(0, .ref 16), (1, J x), (2, .ref a1), (3, J z3), (4, J 10)] [.ref 16] s7)) ?_
            refine TX.get rfl rfl rfl rfl k11 rfl ?_
            obtain ⟨mx14, nx14, bx14, lx14, hrx14, hbx14, fx14a, fx14b, fx14c, fx14d, fx14e, fx14g, fx14h, fx14i⟩ := hs7.1.row (r := 51) (by decide)
            have ctx14 := CT_of hrx14 hbx14
            have rwx14 := rl_of hrx14 (by omega)
            subst rwx14
            refine TX.callv (as := []) (r := []) rfl rfl rfl rfl rfl hrx14 rfl (s_R_clear (d + 7) 51 s7 hs7.1 (by decide)  ) (fun v11 s11 hqs11 => ?_)
            obtain ⟨rfl, hs11, pz11_0, pz11_1⟩ := hqs11
            have es11 := hs11
            have hs11 := hs11.sub (w' := [16, 17, 18, 20, 21, 22, 24, 25, 26, 28, 29, 30, 41, 42, 44, 45, 51, 57, scx1]) (List.forall_mem_cons.mpr ⟨(by simp), (fun _ h => by cases h)⟩)
            have k33 := es11.b.1 _ _ (nm_c (by decide) nm_0) (fun l z => by cases z) k11
            have k34 := es11.b.1 _ _ (nm_c (by decide) nm_0) (fun l z => by cases z) k12
            have k35 := es11.b.1 _ _ (nm_c (dq_88 _ hAa1) nm_0) (fun l z => by cases z) k13
            have k36 := es11.b.1 _ _ (nm_c (dq_151 _ (mem2 fx1sc)) nm_0) (fun l z => by cases z) k14
            have k37 := es11.b.1 _ _ (nm_c (by decide) nm_0) (fun l z => by cases z) hmx8
            have k38 := es11.b.1 _ _ (nm_c (by decide) nm_0) (fun l z => by cases z) hrx9
            have gs11 := gs7.trans hs11
            have kq7 : KPR [57] σ s11 := KPR.fr kq5 es11 nq5 (KPR_1 (by decide) (nm_c (by decide) nm_0))
            have aq3 := (nb_ag (σ := s7) (r := 42)).fr nq5 es11 (by decide) (nm_c (by decide) nm_0)
            have rq3 : rl s11 42 = rl s7 42 := (rl_eq (es11.2.2.1 42 (by decide) (nm_c (by decide) nm_0))).trans rfl
            have nq8 := (es11.b.2 nq5).1
            refine TX.go 7 (fun n9 => (rfl : _ = exx ξ n9 (d + 8) j_N_attribute 114 [(0, .ref 16), (1, J x), (2, .ref a1), (3, J z3), (4, J 10)] [J z3, J 10, .ref 16] s11)) ?_
            have tq6 : nsx s11 = nsx σ := (nsx_of k33).trans (nsx_of hNx1).symm
            refine TX.callv (as := [J 10, J z3]) (r := []) rfl rfl rfl rfl rfl k33 rfl (s_N_enote (d + 7) 10 z3 s11 hs11.1   (by omega) (by omega)) (fun v12 s12 hqs12 => ?_)
            obtain ⟨rfl, hs12, pz12_0, pz12_1⟩ := hqs12
            have es12 := hs12
            have hs12 := hs12.sub (w' := [16, 17, 18, 20, 21, 22, 24, 25, 26, 28, 29, 30, 41, 42, 44, 45, 51, 57, scx1]) (List.forall_mem_cons.mpr ⟨(by simp), (fun _ h => by cases h)⟩)
            have tys12 := (rl_eq (es12.2.2.1 51 (by decide) (nm_c (by decide) nm_0))).trans pz11_1
            have k39 := es12.b.1 _ _ (nm_c (by decide) nm_0) (fun l z => by cases z) k34
            have k40 := es12.b.1 _ _ (nm_c (dq_92 _ hAa1) nm_0) (fun l z => by cases z) k35
            have k41 := es12.b.1 _ _ (nm_c (dq_104 _ (mem2 fx1sc)) nm_0) (fun l z => by cases z) k36
            have k42 := es12.b.1 _ _ (nm_c (by decide) nm_0) (fun l z => by cases z) k37
            have k43 := es12.b.1 _ _ (nm_c (by decide) nm_0) (fun l z => by cases z) k38
            have gs12 := gs11.trans hs12
            have tq7 := pz12_0.trans tq6
            have tk2 := pz12_1.trans ((nsk_of k33).trans (nsk_of hNx1).symm)
            have kq8 : KPR [57] σ s12 := KPR.fr kq7 es12 nq8 (KPR_1 (by decide) (nm_c (by decide) nm_0))
            have aq4 := aq3.fr nq8 es12 (by decide) (nm_c (by decide) nm_0)
            have rq4 : rl s12 42 = rl s7 42 := (rl_eq (es12.2.2.1 42 (by decide) (nm_c (by decide) nm_0))).trans rq3
            have nq9 := (es12.b.2 nq8).1
            exact TX.throw (Nat.ble_eq_true_of_le (by omega)) rfl rfl (QE_r (by decide) gs12 ⟨tq7, tk2, tys12, kq8, ⟨(fun q => absurd q (by decide)), (fun _ => ⟨by omega, z3, nm1, Or.inr ⟨nb s4 scx1, rl s4 scx1, e9, rd9.1, rd9.2, ie9, pz7_0 (by omega)⟩⟩)⟩⟩)
    · refine TX.go 5 (fun n9 => (rfl : _ = exx ξ n9 (d + 8) j_N_attribute 54 [(0, .ref 16), (1, J x), (2, .ref a1), (3, J z3), (4, J 0)] [J (-1), J z3] σ)) ?_
      refine TX.icmp_eq rfl rfl rfl (by omega) (by omega) (fun c9 => ?_) (fun c9 => ?_)
      · refine TX.go 1 (fun n9 => (rfl : _ = exx ξ n9 (d + 8) j_N_attribute 85 [(0, .ref 16), (1, J x), (2, .ref a1), (3, J z3), (4, J 0)] [.ref 16] σ)) ?_
        refine TX.get rfl rfl rfl rfl hNx1 rfl ?_
        obtain ⟨mx15, nx15, bx15, lx15, hrx15, hbx15, fx15a, fx15b, fx15c, fx15d, fx15e, fx15g, fx15h, fx15i⟩ := hK.row (r := 51) (by decide)
        have ctx15 := CT_of hrx15 hbx15
        have rwx15 := rl_of hrx15 (by omega)
        subst rwx15
        refine TX.callv (as := []) (r := []) rfl rfl rfl rfl rfl hrx15 rfl (s_R_clear (d + 7) 51 σ hK (by decide)  ) (fun v13 s13 hqs13 => ?_)
        obtain ⟨rfl, hs13, pz13_0, pz13_1⟩ := hqs13
        have es13 := hs13
        have hs13 := hs13.sub (w' := [16, 17, 18, 20, 21, 22, 24, 25, 26, 28, 29, 30, 41, 42, 44, 45, 51, 57, scx1]) (List.forall_mem_cons.mpr ⟨(by simp), (fun _ h => by cases h)⟩)
        have k44 := es13.b.1 _ _ (nm_c (by decide) nm_0) (fun l z => by cases z) hNx1
        have k45 := es13.b.1 _ _ (nm_c (by decide) nm_0) (fun l z => by cases z) hrx2
        have k46 := es13.b.1 _ _ (nm_c (dq_88 _ hAa1) nm_0) (fun l z => by cases z) hax4
        have kq9 : KPR [57] σ s13 := KPR.fr KPR.rf es13 hNA (KPR_1 (by decide) (nm_c (by decide) nm_0))
        have nq10 := (es13.b.2 hNA).1
        refine TX.go 5 (fun n9 => (rfl : _ = exx ξ n9 (d + 8) j_N_attribute 128 [(0, .ref 16), (1, J x), (2, .ref a1), (3, J z3), (4, J 0)] [.ref 16] s13)) ?_
        refine TX.get rfl rfl rfl rfl k44 rfl ?_
        obtain ⟨mx16, nx16, bx16, lx16, hrx16, hbx16, fx16a, fx16b, fx16c, fx16d, fx16e, fx16g, fx16h, fx16i⟩ := hs13.1.row (r := 57) (by decide)
        have ctx16 := CT_of hrx16 hbx16
        have rwx16 := rl_of hrx16 (by omega)
        subst rwx16
        refine TX.callv (as := []) (r := []) rfl rfl rfl rfl rfl hrx16 rfl (s_R_clear (d + 7) 57 s13 hs13.1 (by decide)  ) (fun v14 s14 hqs14 => ?_)
        obtain ⟨rfl, hs14, pz14_0, pz14_1⟩ := hqs14
        have es14 := hs14
        have hs14 := hs14.sub (w' := [16, 17, 18, 20, 21, 22, 24, 25, 26, 28, 29, 30, 41, 42, 44, 45, 51, 57, scx1]) (List.forall_mem_cons.mpr ⟨(by simp), (fun _ h => by cases h)⟩)
        have tys14 := (rl_eq (es14.2.2.1 51 (by decide) (nm_c (by decide) nm_0))).trans pz13_1
        have k47 := es14.b.1 _ _ (nm_c (by decide) nm_0) (fun l z => by cases z) k44
        have k48 := es14.b.1 _ _ (nm_c (by decide) nm_0) (fun l z => by cases z) k45
        have k49 := es14.b.1 _ _ (nm_c (dq_152 _ hAa1) nm_0) (fun l z => by cases z) k46
        have gs14 := hs13.trans hs14
        have nq11 := (es14.b.2 nq10).1
        refine TX.go 2 (fun n9 => (rfl : _ = exx ξ n9 (d + 8) j_N_attribute 136 [(0, .ref 16), (1, J x), (2, .ref a1), (3, J z3), (4, J 0)] [J (-1), J z3] s14)) ?_
        refine TX.icmp_eq rfl rfl rfl (by omega) (by omega) (fun c10 => ?_) (fun c10 => ?_)
        · refine TX.go 1 (fun n9 => (rfl : _ = exx ξ n9 (d + 8) j_N_attribute 151 [(0, .ref 16), (1, J x), (2, .ref a1), (3, J z3), (4, J 0)] [J (-1)] s14)) ?_
          have tq8 : nsx s14 = nsx σ := (nsx_of k47).trans (nsx_of hNx1).symm
          exact TX.ireti rfl rfl rfl (QE_l ⟨_, rfl, gs14, by omega, by omega, by omega, (Or.inl ⟨lk1.2 (by omega), rfl, pz14_1⟩), tq8, ((nsk_of k47).trans (nsk_of hNx1).symm), tys14⟩)
        · exfalso
          omega
      · exfalso
        omega
