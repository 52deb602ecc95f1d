/-! read. -/
def nsk (σ : qH) : Option Value × Option Value := (nfi 7 σ, nfi 8 σ)
theorem nsk_of {σ : qH} {ci : Nat} {fs : List Value} (h : σ[16]? = some (.inl (ci, fs))) : nsk σ = (fs[7]?, fs[8]?) := by
  unfold nsk
  rw [nfi_of h, nfi_of h]
theorem nsk_7 {σ σ' : qH} (h : nsk σ' = nsk σ) : nfi 7 σ' = nfi 7 σ := congrArg Prod.fst h
theorem nsk_8 {σ σ' : qH} (h : nsk σ' = nsk σ) : nfi 8 σ' = nfi 8 σ := congrArg Prod.snd h
/-- why read throws -/
def NRE (σ : qH) (g : Int → Int) (fz : Int) (r : Int → Int) (x y : Int) (e : Nat) : Prop := (e = 1 → ¬ (afld σ 16 11 = 1 ∧ 0 ≤ x ∧ x ≤ afld σ 16 14 ∧ 0 ≤ y ∧ y < NEf g fz)) ∧ (e = 0 → (afld σ 16 11 = 1 ∧ 0 ≤ x ∧ x ≤ afld σ 16 14 ∧ 0 ≤ y ∧ y < NEf g fz) ∧ ∀ o : Int → Int, ¬ RD r (Hj g fz y) (Dj g fz y) o)

set_option maxRecDepth 10000 in
set_option maxHeartbeats 4000000 in
theorem s_N_enote {ξ : Nat → Option (Nat × List Int32)} (d : Nat) (x : Int) (y : Int) (σ : qH) (hK : K σ)  (rx : -2147483648 ≤ x ∧ x ≤ 2147483647) (ry : -2147483648 ≤ y ∧ y ≤ 2147483647) : T ξ d j_N_note 0 (lv_args 0 [.ref 16, J x, J y]) [] σ (fun v σ' => v = none ∧ Fr [16] σ σ' ∧ nsx σ' = nsx σ ∧ nsk σ' = nsk σ) := by
  obtain ⟨kex1, scx1, tpx1, oux1, mox1, sgx1, hox1, mcx1, lfx1, lpx1, hNx1, fx1ke, fx1sc, fx1tp, fx1ou, fx1mo, fx1sg, fx1d, fx1e, fx1f, fx1g, fx1h, fx1i, fx1j⟩ := hK.na
  refine T.go 2 (fun n9 => (rfl : _ = exe ξ n9 d j_N_note 2 [(0, .ref 16), (1, J x), (2, J y)] [J x, .ref 16] σ)) ?_
  refine T.putF (w := [16]) rfl rfl hNx1 rfl rfl rfl (fs' := [.ref 17, .ref 41, .ref 48, .ref 51, .ref 53, .ref 55, .ref 57, .ref kex1, .ref scx1, .ref tpx1, .ref oux1, J hox1, .ref mox1, .ref sgx1, J mcx1, J x, J lpx1]) rfl (Fr.other hK hNx1 rfl (show okN _ from ⟨_, _, _, _, _, _, _, _, _, _, rfl, by omega⟩) (by decide) (Or.inl (by decide)) (fun _ z => by cases z) (by simp)) (fun s1 hs1 hcs1 hos1 => ?_)
  refine T.go 2 (fun n9 => (rfl : _ = exe ξ n9 d j_N_note 7 [(0, .ref 16), (1, J x), (2, J y)] [J y, .ref 16] s1)) ?_
  refine T.putF (w := [16]) rfl rfl hcs1 rfl rfl rfl (fs' := [.ref 17, .ref 41, .ref 48, .ref 51, .ref 53, .ref 55, .ref 57, .ref kex1, .ref scx1, .ref tpx1, .ref oux1, J hox1, .ref mox1, .ref sgx1, J mcx1, J x, J y]) rfl (Fr.other hs1.1 hcs1 rfl (show okN _ from ⟨_, _, _, _, _, _, _, _, _, _, rfl, by omega⟩) (by decide) (Or.inl (by decide)) (fun _ z => by cases z) (by simp)) (fun s2 hs2 hcs2 hos2 => ?_)
  have gs2 := hs1.trans hs2
  have tq1 : nsx s2 = nsx σ := (nsx_of hcs2).trans (nsx_of hNx1).symm
  exact T.vret rfl rfl ⟨rfl, gs2, tq1, ((nsk_of hcs2).trans (nsk_of hNx1).symm)⟩

set_option maxRecDepth 10000 in
set_option maxHeartbeats 4000000 in
theorem s_N_eread {ξ : Nat → Option (Nat × List Int32)} (hX : XT ξ) (d : Nat) (g : Int → Int) (fz : Int) (r : Int → Int) (kex1 scx1 : Nat) (x : Int) (y : Int) (σ : qH) (hK : K σ)  (h255 : ∀ k, 0 ≤ g k ∧ g k ≤ 255) (hr255 : ∀ k, 0 ≤ r k ∧ r k ≤ 255) (hNA : NA σ) (hS : ∀ a : Nat, AOF σ x a → SV σ a g fz) (hrg : ∀ k : Int, 0 ≤ k → k < fz → r k = g k) (hke : nfi 7 σ = some (.ref kex1)) (hsc : nfi 8 σ = some (.ref scx1)) (hks : kex1 ≠ scx1) (hf1 : CD σ 31 fixA 288) (hf2 : CD σ 35 (fun _ => 5) 32) (rx : -2147483648 ≤ x ∧ x ≤ 2147483647) (ry : -2147483648 ≤ y ∧ y ≤ 2147483647) : TX ξ (d + 8) j_N_read 0 (lv_args 0 [.ref 16, J x, J y]) [] σ (QE [16, 17, 18, 20, 21, 22, 24, 25, 26, 28, 29, 30, scx1] [0, 1] σ (fun e s => nsx s = nsx σ ∧ nsk s = nsk σ ∧ NRE σ g fz r x y e) (fun v σ' => ∃ z : Int, v = some (J z) ∧ Fr [16, 17, 18, 20, 21, 22, 24, 25, 26, 28, 29, 30, scx1] σ σ' ∧ -2147483648 ≤ z ∧ z ≤ 2147483647 ∧ (afld σ 16 11 = 1 ∧ 0 ≤ x ∧ x ≤ afld σ 16 14 ∧ 0 ≤ y ∧ y < NEf g fz) ∧ RD r (Hj g fz y) (Dj g fz y) (nb σ' scx1) ∧ rl σ' scx1 = W4 r (Hj g fz y + 24) ∧ z = rl σ' scx1 ∧ nfi 7 σ' = some (.ref scx1) ∧ nfi 8 σ' = some (.ref kex1) ∧ nsx σ' = nsx σ)) := by
  have hX0 := hX
  obtain ⟨⟨X1, hX1, lX1⟩, ⟨X2, hX2, lX2⟩, ⟨X3, hX3, lX3⟩, ⟨X4, hX4, lX4⟩, ⟨X5, hX5, lX5⟩, ⟨X6, hX6, lX6⟩⟩ := hX
  have lY1 : X1.length = 19 := by rw [lX1]; rfl
  have lY2 : X2.length = 29 := by rw [lX2]; rfl
  have lY3 : X3.length = 29 := by rw [lX3]; rfl
  have lY4 : X4.length = 30 := by rw [lX4]; rfl
  have lY5 : X5.length = 30 := by rw [lX5]; rfl
  have lY6 : X6.length = 16 := by rw [lX6]; rfl
  obtain ⟨key, scy, tpx1, oux1, mox1, sgx1, hox1, mcx1, lfx1, lpx1, hNx1, fx1ke, fx1sc, fx1tp, fx1ou, fx1mo, fx1sg, fx1d, fx1e, fx1f, fx1g, fx1h, fx1i, fx1j⟩ := hK.na
  have ety : kex1 = key := by have q : nfi 7 σ = some (.ref key) := (nfi_of hNx1).trans rfl; rw [hke] at q; cases q; rfl
  subst ety
  have etz : scx1 = scy := by have q : nfi 8 σ = some (.ref scy) := (nfi_of hNx1).trans rfl; rw [hsc] at q; cases q; rfl
  subst etz
  have h11 := af_of (i := 11) hNx1 rfl (by omega)
  have h14 := af_of (i := 14) hNx1 rfl (by omega)
  refine TX.go 2 (fun n9 => (rfl : _ = exx ξ n9 (d + 8) j_N_read 2 [(0, .ref 16), (1, J x), (2, J y)] [J x, .ref 16] σ)) ?_
  refine TX.callv (as := [J x]) (r := []) rfl rfl rfl rfl rfl hNx1 rfl (s_N_farchiveOf (d + 7) x σ hK   (by omega)) (fun v1 s1 hqs1 => ?_)
  obtain ⟨esz1, ⟨rfl, hnaa1⟩ | ⟨a1, hAa1, rfl, haoa1⟩⟩ := hqs1
  · rw [esz1]
    refine TX.go 3 (fun n9 => (rfl : _ = exx ξ n9 (d + 8) j_N_read 18 [(0, .ref 16), (1, J x), (2, J y), (3, .null)] [] σ)) ?_
    exact TX.throw (Nat.ble_eq_true_of_le (by omega)) rfl rfl (QE_r (by decide) (Fr.refl hK) ⟨rfl, rfl, ⟨(fun _ => by omega), (fun q => absurd q (by decide))⟩⟩)
  · rw [esz1]; have hSa := hS a1 haoa1; have hS4 := hSa.2.2.2.1; have v1 := haoa1.1; have v2 := haoa1.2.1; have v3 := haoa1.2.2.1
    refine TX.go 5 (fun n9 => (rfl : _ = exx ξ n9 (d + 8) j_N_read 12 [(0, .ref 16), (1, J x), (2, J y), (3, .ref a1)] [J y, .ref a1] σ)) ?_
    obtain ⟨ex2, erx2, dix2, bax2, fpx2, hax2, fx2a, fx2b, fx2c, fx2d, fx2e, fx2f, fx2g, fx2h, fx2i, fx2j⟩ := hK.arc hAa1
    have af3x2 := af_of (i := 3) hax2 rfl (by omega)
    subst af3x2
    have af4x2 := af_of (i := 4) hax2 rfl (by omega)
    subst af4x2
    have af5x2 := af_of (i := 5) hax2 rfl (by omega)
    subst af5x2
    have af6x2 := af_of (i := 6) hax2 rfl (by omega)
    subst af6x2
    have af7x2 := af_of (i := 7) hax2 rfl (by omega)
    subst af7x2
    refine TX.callv (as := [J y]) (r := []) rfl rfl rfl rfl (ArL_lt _ hAa1).2.2.1 hax2 rfl (s_A_fhasEntry (d + 7) a1 y σ hK hAa1  (by omega)) (fun v2 s2 hqs2 => ?_)
    obtain ⟨z2, rfl, esz2, hzz2, hyz2, pz2_0, pz2_1⟩ := hqs2
    rw [esz2]
    refine TX.if_ne rfl rfl rfl (by omega) (fun c1 => ?_) (fun c1 => ?_)
    · refine TX.go 4 (fun n9 => (rfl : _ = exx ξ n9 (d + 8) j_N_read 32 [(0, .ref 16), (1, J x), (2, J y), (3, .ref a1)] [.ref 16, J y, .ref a1, .ref 16] σ)) ?_
      refine TX.get rfl rfl rfl rfl hNx1 rfl ?_
      have s5 := hSa.2.2.2.2 y (by omega) (by omega)
      have s55 := s5.1
      have s56 := s5.2
      have se := (FO_ent h255 hSa.2.2.1).2 y (by omega) (by omega)
      have sr := hSa.1
      have w20 : W4 r (Hj g fz y + 20) = W4 g (Hj g fz y + 20) := W4_c hrg (by omega) (by omega)
      rw [← s55, ← s56] at se
      rw [← s55] at w20
      have agr : AGR σ (a1 + 1) r := fun k k0 k1 => (hrg k k0 (by omega)).trans (hSa.2.1 k k0 k1)
      refine TX.callv (as := [.ref a1, J y, .ref scx1]) (r := []) rfl rfl rfl rfl rfl hNx1 rfl (s_N_funpackEntry hX0 (d + 2) r a1 y scx1 σ hK hAa1 (na_ke fx1sc) (dq_89 _ hAa1 _ (mem2 fx1sc)) hr255 hNA agr ((by decide : ∀ u ∈ [59, 61], mst u = 8000) _ (mem2 fx1sc)) hf1 hf2 (by omega) (by omega) (by omega) (by omega) (by omega) (by omega) (by omega)) (fun v3 s3 hqs3 => ?_)
      obtain ⟨z3, rfl, hs3, hzz3, hyz3, pz3_0, pz3_1⟩ := hqs3
      have es3 := hs3
      have hs3 := hs3.sub (w' := [16, 17, 18, 20, 21, 22, 24, 25, 26, 28, 29, 30, scx1]) (List.forall_mem_cons.mpr ⟨(by simp), (List.forall_mem_cons.mpr ⟨(by simp), (List.forall_mem_cons.mpr ⟨(by simp), (List.forall_mem_cons.mpr ⟨(by simp), (List.forall_mem_cons.mpr ⟨(by simp), (List.forall_mem_cons.mpr ⟨(by simp), (List.forall_mem_cons.mpr ⟨(by simp), (List.forall_mem_cons.mpr ⟨(by simp), (List.forall_mem_cons.mpr ⟨(by simp), (List.forall_mem_cons.mpr ⟨(by simp), (List.forall_mem_cons.mpr ⟨(by simp), (List.forall_mem_cons.mpr ⟨(by simp), (fun _ h => by cases h)⟩)⟩)⟩)⟩)⟩)⟩)⟩)⟩)⟩)⟩)⟩)⟩)
      have k1 := es3.b.1 _ _ (nm_c (by decide) (nm_c (by decide) (nm_c (by decide) (nm_c (by decide) (nm_c (by decide) (nm_c (by decide) (nm_c (by decide) (nm_c (by decide) (nm_c (by decide) (nm_c (by decide) (nm_c (by decide) (nm_c (dq_90 _ (mem2 fx1sc)) nm_0)))))))))))) (fun l z => by cases z) hNx1
      have k2 := es3.b.1 _ _ (nm_c (dq_53 _ hAa1) (nm_c (dq_54 _ hAa1) (nm_c (dq_55 _ hAa1) (nm_c (dq_56 _ hAa1) (nm_c (dq_57 _ hAa1) (nm_c (dq_58 _ hAa1) (nm_c (dq_59 _ hAa1) (nm_c (dq_60 _ hAa1) (nm_c (dq_61 _ hAa1) (nm_c (dq_62 _ hAa1) (nm_c (dq_63 _ hAa1) (nm_c (dq_91 _ hAa1 _ (mem2 fx1sc)) nm_0)))))))))))) (fun l z => by cases z) hax2
      rw [s55, s56] at pz3_0 pz3_1
      have na1 := (hs3.b.2 hNA).1
      refine TX.go 2 (fun n9 => (rfl : _ = exx ξ n9 (d + 8) j_N_read 42 [(0, .ref 16), (1, J x), (2, J y), (3, .ref a1), (4, J z3)] [J z3] s3)) ?_
      refine TX.if_eq rfl rfl rfl (by omega) (fun c2 => ?_) (fun c2 => ?_)
      · refine TX.go 1 (fun n9 => (rfl : _ = exx ξ n9 (d + 8) j_N_read 63 [(0, .ref 16), (1, J x), (2, J y), (3, .ref a1), (4, J z3)] [.ref 16] s3)) ?_
        refine TX.get rfl rfl rfl rfl k1 rfl ?_
        refine TX.go 3 (fun n9 => (rfl : _ = exx ξ n9 (d + 8) j_N_read 70 [(0, .ref 16), (1, J x), (2, J y), (3, .ref a1), (4, J z3), (5, .ref scx1)] [.ref 16, .ref 16] s3)) ?_
        refine TX.get rfl rfl rfl rfl k1 rfl ?_
        refine TX.putF (w := [16]) rfl rfl rfl k1 rfl rfl rfl (fs' := [.ref 17, .ref 41, .ref 48, .ref 51, .ref 53, .ref 55, .ref 57, .ref kex1, .ref kex1, .ref tpx1, .ref oux1, J hox1, .ref mox1, .ref sgx1, J mcx1, J lfx1, J lpx1]) rfl (Fr.other hs3.1 k1 rfl (show okN _ from ⟨_, _, _, _, _, _, _, _, _, _, rfl, by omega⟩) (by decide) (Or.inl (by decide)) (fun _ z => by cases z) (by simp)) (fun s4 hs4 hcs4 hos4 => ?_)
        have ess4 := hs4
        have hs4 := hs4.sub (w' := [16, 17, 18, 20, 21, 22, 24, 25, 26, 28, 29, 30, scx1]) (List.forall_mem_cons.mpr ⟨(by simp), (fun _ h => by cases h)⟩)
        have gs4 := hs3.trans hs4
        have k3 := hos4 (dq_92 _ hAa1) k2
        refine TX.go 2 (fun n9 => (rfl : _ = exx ξ n9 (d + 8) j_N_read 79 [(0, .ref 16), (1, J x), (2, J y), (3, .ref a1), (4, J z3), (5, .ref scx1)] [.ref scx1, .ref 16] s4)) ?_
        refine TX.putF (w := [16]) rfl rfl rfl hcs4 rfl rfl rfl (fs' := [.ref 17, .ref 41, .ref 48, .ref 51, .ref 53, .ref 55, .ref 57, .ref scx1, .ref kex1, .ref tpx1, .ref oux1, J hox1, .ref mox1, .ref sgx1, J mcx1, J lfx1, J lpx1]) rfl (Fr.other hs4.1 hcs4 rfl (show okN _ from ⟨_, _, _, _, _, _, _, _, _, _, rfl, by omega⟩) (by decide) (Or.inl (by decide)) (fun _ z => by cases z) (by simp)) (fun s5 hs5 hcs5 hos5 => ?_)
        have ess5 := hs5
        have hs5 := hs5.sub (w' := [16, 17, 18, 20, 21, 22, 24, 25, 26, 28, 29, 30, scx1]) (List.forall_mem_cons.mpr ⟨(by simp), (fun _ h => by cases h)⟩)
        have gs5 := gs4.trans hs5
        have k4 := hos5 (dq_92 _ hAa1) k3
        refine TX.go 1 (fun n9 => (rfl : _ = exx ξ n9 (d + 8) j_N_read 83 [(0, .ref 16), (1, J x), (2, J y), (3, .ref a1), (4, J z3), (5, .ref scx1)] [.ref 16] s5)) ?_
        refine TX.get rfl rfl rfl rfl hcs5 rfl ?_
        obtain ⟨mx3, nx3, bx3, lx3, hrx3, hbx3, fx3a, fx3b, fx3c, fx3d, fx3e, fx3g, fx3h, fx3i⟩ := hs5.1.row (na_ke fx1sc)
        have ctx3 := CT_of hrx3 hbx3
        have rwx3 := rl_of hrx3 (by omega)
        subst rwx3
        refine TX.get rfl rfl rfl rfl hrx3 rfl ?_
        have nb9 : nb s5 scx1 = nb s3 scx1 := nb_fr na1 (ess4.trans ess5) (na_ke fx1sc) (dq_93 _ (mem2 fx1sc))
        have rl9 : rl s5 scx1 = rl s3 scx1 := rl_eq ((ess4.trans ess5).2.2.1 scx1 (List.mem_cons_of_mem _ (na_ke fx1sc)) (dq_93 _ (mem2 fx1sc)))
        have rd9 := pz3_0 (by omega)
        exact TX.ireti rfl rfl rfl (QE_l ⟨_, rfl, gs5, by omega, by omega, by omega, (by rw [nb9]; exact rd9.1), (rl9.trans rd9.2), by omega, ((nfi_of (i := 7) hcs5).trans rfl), ((nfi_of (i := 8) hcs5).trans rfl), ((nsx_of hcs5).trans (nsx_of hNx1).symm)⟩)
      · refine TX.go 3 (fun n9 => (rfl : _ = exx ξ n9 (d + 8) j_N_read 49 [(0, .ref 16), (1, J x), (2, J y), (3, .ref a1), (4, J z3)] [J y, J z3, .ref 16] s3)) ?_
        have tq1 : nsx s3 = nsx σ := (nsx_of k1).trans (nsx_of hNx1).symm
        have tq1k : nsk s3 = nsk σ := (nsk_of k1).trans (nsk_of hNx1).symm
        refine TX.callv (as := [J z3, J y]) (r := []) rfl rfl rfl rfl rfl k1 rfl (s_N_enote (d + 7) z3 y s3 hs3.1   (by omega) (by omega)) (fun v4 s6 hqs6 => ?_)
        obtain ⟨rfl, hs6, pz4_0, pz4_1⟩ := hqs6
        have es6 := hs6
        have hs6 := hs6.sub (w' := [16, 17, 18, 20, 21, 22, 24, 25, 26, 28, 29, 30, scx1]) (List.forall_mem_cons.mpr ⟨(by simp), (fun _ h => by cases h)⟩)
        have k5 := es6.b.1 _ _ (nm_c (dq_92 _ hAa1) nm_0) (fun l z => by cases z) k2
        have gs6 := hs3.trans hs6
        have tq2 := pz4_0.trans tq1
        have tq2k := pz4_1.trans tq1k
        exact TX.throw (Nat.ble_eq_true_of_le (by omega)) rfl rfl (QE_r (by decide) gs6 ⟨tq2, tq2k, ⟨(fun q => absurd q (by decide)), (fun _ => ⟨by omega, pz3_1 (by omega)⟩)⟩⟩)
    · exact TX.throw (Nat.ble_eq_true_of_le (by omega)) rfl rfl (QE_r (by decide) (Fr.refl hK) ⟨rfl, rfl, ⟨(fun _ => by omega), (fun q => absurd q (by decide))⟩⟩)

set_option maxRecDepth 10000 in
set_option maxHeartbeats 4000000 in
theorem s_N_eoctet {ξ : Nat → Option (Nat × List Int32)} (d : Nat) (kex1 : Nat) (g : Int → Int) (x : Int) (σ : qH) (hK : K σ)  (hke : nfi 7 σ = some (.ref kex1)) (hg : AGR σ kex1 g) (rx : -2147483648 ≤ x ∧ x ≤ 2147483647) : T ξ (d + 8) j_N_octet 0 (lv_args 0 [.ref 16, J x]) [] σ (fun v σ' => ∃ z : Int, v = some (J z) ∧ σ' = σ ∧ -2147483648 ≤ z ∧ z ≤ 2147483647 ∧ (0 ≤ x → x < rl σ kex1 → z = g x) ∧ (x < 0 ∨ rl σ kex1 ≤ x → z = -1)) := by
  obtain ⟨key, scx1, tpx1, oux1, mox1, sgx1, hox1, mcx1, lfx1, lpx1, hNx1, fx1ke, fx1sc, fx1tp, fx1ou, fx1mo, fx1sg, fx1d, fx1e, fx1f, fx1g, fx1h, fx1i, fx1j⟩ := hK.na
  have ety : kex1 = key := by have q : nfi 7 σ = some (.ref key) := (nfi_of hNx1).trans rfl; rw [hke] at q; cases q; rfl
  subst ety
  refine T.go 1 (fun n9 => (rfl : _ = exe ξ n9 (d + 8) j_N_octet 1 [(0, .ref 16), (1, J x)] [.ref 16] σ)) ?_
  refine T.get rfl rfl rfl hNx1 rfl ?_
  refine T.go 1 (fun n9 => (rfl : _ = exe ξ n9 (d + 8) j_N_octet 5 [(0, .ref 16), (1, J x)] [J x, .ref kex1] σ)) ?_
  obtain ⟨mx2, nx2, bx2, lx2, hrx2, hbx2, fx2a, fx2b, fx2c, fx2d, fx2e, fx2g, fx2h, fx2i⟩ := hK.row (na_ke fx1ke)
  have ctx2 := CT_of hrx2 hbx2
  have rwx2 := rl_of hrx2 (by omega)
  subst rwx2
  refine T.callv (as := [J x]) (r := []) rfl rfl rfl (RwL_lt _ (na_ke fx1ke)).2.2.1 hrx2 rfl (s_R_fat (d + 7) g kex1 x σ hK (na_ke fx1ke) hg (by omega)) (fun v1 s1 hqs1 => ?_)
  obtain ⟨z1, rfl, esz1, hzz1, hyz1, pz1_0, pz1_1⟩ := hqs1
  rw [esz1]
  exact T.ireti rfl rfl ⟨_, rfl, rfl, by omega, by omega, pz1_0, pz1_1⟩

set_option maxRecDepth 10000 in
set_option maxHeartbeats 4000000 in
theorem s_N_evalue {ξ : Nat → Option (Nat × List Int32)} (d : Nat) (g : Int → Int) (x : Int) (σ : qH) (hK : K σ)  (hg : AGR σ 57 g) (rx : -2147483648 ≤ x ∧ x ≤ 2147483647) : T ξ (d + 8) j_N_value 0 (lv_args 0 [.ref 16, J x]) [] σ (fun v σ' => ∃ z : Int, v = some (J z) ∧ σ' = σ ∧ -2147483648 ≤ z ∧ z ≤ 2147483647 ∧ (0 ≤ x → x < rl σ 57 → z = g x) ∧ (x < 0 ∨ rl σ 57 ≤ x → z = -1)) := by
  obtain ⟨kex1, scx1, tpx1, oux1, mox1, sgx1, hox1, mcx1, lfx1, lpx1, hNx1, fx1ke, fx1sc, fx1tp, fx1ou, fx1mo, fx1sg, fx1d, fx1e, fx1f, fx1g, fx1h, fx1i, fx1j⟩ := hK.na
  refine T.go 1 (fun n9 => (rfl : _ = exe ξ n9 (d + 8) j_N_value 1 [(0, .ref 16), (1, J x)] [.ref 16] σ)) ?_
  refine T.get rfl rfl rfl hNx1 rfl ?_
  refine T.go 1 (fun n9 => (rfl : _ = exe ξ n9 (d + 8) j_N_value 5 [(0, .ref 16), (1, J x)] [J x, .ref 57] σ)) ?_
  obtain ⟨mx2, nx2, bx2, lx2, hrx2, hbx2, fx2a, fx2b, fx2c, fx2d, fx2e, fx2g, fx2h, fx2i⟩ := hK.row (r := 57) (by decide)
  have ctx2 := CT_of hrx2 hbx2
  have rwx2 := rl_of hrx2 (by omega)
  subst rwx2
  refine T.callv (as := [J x]) (r := []) rfl rfl rfl rfl hrx2 rfl (s_R_fat (d + 7) g 57 x σ hK (by decide) hg (by omega)) (fun v1 s1 hqs1 => ?_)
  obtain ⟨z1, rfl, esz1, hzz1, hyz1, pz1_0, pz1_1⟩ := hqs1
  rw [esz1]
  exact T.ireti rfl rfl ⟨_, rfl, rfl, by omega, by omega, pz1_0, pz1_1⟩
