/-! open: which archives there are. -/
/-- the archive a stays as it is -/
def KPO (a : Nat) (σ s : qH) : Prop := ∀ (G : Int → Int) (F : Int), SV σ a G F → SV s a G F
set_option maxRecDepth 10000 in
set_option maxHeartbeats 4000000 in
theorem s_N_hopen {ξ : Nat → Option (Nat × List Int32)} (d : Nat) (g : Int → Int) (tpx1 oux1 : Nat)  (σ : qH) (hK : K σ)  (ht : nfi 9 σ = some (.ref tpx1)) (ho : nfi 10 σ = some (.ref oux1)) (hne : tpx1 ≠ oux1) (h255 : ∀ k, 0 ≤ g k ∧ g k ≤ 255) (hgt : AGT σ g) (hNA : NA σ) : TX ξ (d + 8) j_N_open 0 (lv_args 0 [.ref 16]) [] σ (QX [16, tpx1, tpx1 + 1, tpx1 + 3, tpx1 + 4, oux1 + 1, 59, 61] [0] σ (fun s => tl s = 0 ∧ FOn g (tl σ) = 0 ∧ nsx s = nsx σ ∧ KPO oux1 σ s) (fun v σ' => ∃ z : Int, v = some (J z) ∧ Fr [16, tpx1, tpx1 + 1, tpx1 + 3, tpx1 + 4, oux1 + 1, 59, 61] σ σ' ∧ -2147483648 ≤ z ∧ z ≤ 2147483647 ∧ tl σ' = 0 ∧ FOn g (tl σ) = 1 ∧ z = W2 g (EN g (tl σ) + 8) ∧ SV σ' tpx1 g (tl σ) ∧ nfi 9 σ' = some (.ref oux1) ∧ nfi 10 σ' = some (.ref tpx1) ∧ afld σ' 16 11 = 1 ∧ afld σ' 16 14 = 0 ∧ nfi 12 σ' = nfi 12 σ ∧ nfi 13 σ' = nfi 13 σ)) := by
  obtain ⟨kex1, scx1, tpy, ouy, mox1, sgx1, hox1, mcx1, lfx1, lpx1, hNx1, fx1ke, fx1sc, fx1tp, fx1ou, fx1mo, fx1sg, fx1d, fx1e, fx1f, fx1g, fx1h, fx1i, fx1j⟩ := hK.na
  have ety : tpx1 = tpy := by have q : nfi 9 σ = some (.ref tpy) := (nfi_of hNx1).trans rfl; rw [ht] at q; cases q; rfl
  subst ety
  have etz : oux1 = ouy := by have q : nfi 10 σ = some (.ref ouy) := (nfi_of hNx1).trans rfl; rw [ho] at q; cases q; rfl
  subst etz
  obtain ⟨ex2, erx2, dix2, bax2, fpx2, hax2, fx2a, fx2b, fx2c, fx2d, fx2e, fx2f, fx2g, fx2h, fx2i, fx2j⟩ := hK.arc (na_tp fx1tp)
  have af3x2 := af_of (i := 3) hax2 rfl (by omega)
  subst af3x2
  have af4x2 := af_of (i := 4) hax2 rfl (by omega)
  subst af4x2
  have af5x2 := af_of (i := 5) hax2 rfl (by omega)
  subst af5x2
  have af6x2 := af_of (i := 6) hax2 rfl (by omega)
  subst af6x2
  have af7x2 := af_of (i := 7) hax2 rfl (by omega)
  subst af7x2
  obtain ⟨mx3, nx3, bx3, lx3, hrx3, hbx3, fx3a, fx3b, fx3c, fx3d, fx3e, fx3g, fx3h, fx3i⟩ := hK.row (kdX_ar _ (na_tp fx1tp)).2.2.1
  have ctx3 := CT_of hrx3 hbx3
  have rwx3 := rl_of hrx3 (by omega)
  subst rwx3
  have hm := mst_tp fx1tp
  have t0 := tl_at hNx1 rfl
  have t1 := rl_of hrx3 (by omega)
  have tpE := tpf_of hNx1 rfl
  have hg := hgt.at tpE
  have la := 0
  refine TX.go 1 (fun n9 => (rfl : _ = exx ξ n9 (d + 8) j_N_open 1 [(0, .ref 16)] [.ref 16] σ)) ?_
  refine TX.get rfl rfl rfl rfl hNx1 rfl ?_
  refine TX.callv (as := []) (r := []) rfl rfl rfl rfl (ArL_lt _ (na_tp fx1tp)).2.2.1 hax2 rfl (s_A_fsurvey (d + 3) g tpx1 σ hK (na_tp fx1tp) h255 hg hNA ) (fun v1 s1 hqs1 => ?_)
  obtain ⟨z1, rfl, hs1, hzz1, hyz1, pz1_0, pz1_1, pz1_2, pz1_3⟩ := hqs1
  have es1 := hs1
  have hs1 := hs1.sub (w' := [16, tpx1, tpx1 + 1, tpx1 + 3, tpx1 + 4, oux1 + 1, 59, 61]) (List.forall_mem_cons.mpr ⟨(by simp), (List.forall_mem_cons.mpr ⟨(by simp), (List.forall_mem_cons.mpr ⟨(by simp), (fun _ h => by cases h)⟩)⟩)⟩)
  have k1 := es1.b.1 _ _ (nm_c ((by decide : ∀ v ∈ [63, 68], (16 : Nat) ≠ v) _ (mem2 fx1tp)) (nm_c ((by decide : ∀ v ∈ [63, 68], (16 : Nat) ≠ v + 3) _ (mem2 fx1tp)) (nm_c ((by decide : ∀ v ∈ [63, 68], (16 : Nat) ≠ v + 4) _ (mem2 fx1tp)) nm_0))) (fun l z => by cases z) hNx1
  have k2 := es1.b.1 _ _ (nm_c (by omega) (nm_c (by omega) (nm_c (by omega) nm_0))) (fun l z => by cases z) hrx3
  obtain ⟨ex4, erx4, dix4, bax4, fpx4, hax4, fx4a, fx4b, fx4c, fx4d, fx4e, fx4f, fx4g, fx4h, fx4i, fx4j⟩ := hs1.1.arc (na_tp fx1tp)
  have af3x4 := af_of (i := 3) hax4 rfl (by omega)
  subst af3x4
  have af4x4 := af_of (i := 4) hax4 rfl (by omega)
  subst af4x4
  have af5x4 := af_of (i := 5) hax4 rfl (by omega)
  subst af5x4
  have af6x4 := af_of (i := 6) hax4 rfl (by omega)
  subst af6x4
  have af7x4 := af_of (i := 7) hax4 rfl (by omega)
  subst af7x4
  refine TX.go 2 (fun n9 => (rfl : _ = exx ξ n9 (d + 8) j_N_open 9 [(0, .ref 16), (1, J z1)] [J z1] s1)) ?_
  refine TX.if_eq rfl rfl rfl (by omega) (fun c1 => ?_) (fun c1 => ?_)
  · refine TX.go 1 (fun n9 => (rfl : _ = exx ξ n9 (d + 8) j_N_open 45 [(0, .ref 16), (1, J z1)] [.ref 16] s1)) ?_
    refine TX.get rfl rfl rfl rfl k1 rfl ?_
    refine TX.go 3 (fun n9 => (rfl : _ = exx ξ n9 (d + 8) j_N_open 51 [(0, .ref 16), (1, J z1), (2, .ref tpx1)] [.ref 16, .ref 16] s1)) ?_
    refine TX.get rfl rfl rfl rfl k1 rfl ?_
    refine TX.putF (w := [16]) rfl rfl rfl k1 rfl rfl rfl (fs' := [.ref 17, .ref 41, .ref 48, .ref 51, .ref 53, .ref 55, .ref 57, .ref kex1, .ref scx1, .ref oux1, .ref oux1, J hox1, .ref mox1, .ref sgx1, J mcx1, J lfx1, J lpx1]) rfl (Fr.other hs1.1 k1 rfl (show okN _ from ⟨_, _, _, _, _, _, _, _, _, _, rfl, by omega⟩) (by decide) (Or.inl (by decide)) (fun _ z => by cases z) (by simp)) (fun s2 hs2 hcs2 hos2 => ?_)
    have ess2 := hs2
    have hs2 := hs2.sub (w' := [16, tpx1, tpx1 + 1, tpx1 + 3, tpx1 + 4, oux1 + 1, 59, 61]) (List.forall_mem_cons.mpr ⟨(by simp), (fun _ h => by cases h)⟩)
    have gs2 := hs1.trans hs2
    have k3 := hos2 ((by decide : ∀ u ∈ [63, 68], u + 1 ≠ 16) _ (mem2 fx1tp)) k2
    have k4 := hos2 ((by decide : ∀ u ∈ [63, 68], u ≠ 16) _ (mem2 fx1tp)) hax4
    refine TX.go 1 (fun n9 => (rfl : _ = exx ξ n9 (d + 8) j_N_open 58 [(0, .ref 16), (1, J z1), (2, .ref tpx1)] [.ref 16] s2)) ?_
    refine TX.get rfl rfl rfl rfl hcs2 rfl ?_
    obtain ⟨ex5, erx5, dix5, bax5, fpx5, hax5, fx5a, fx5b, fx5c, fx5d, fx5e, fx5f, fx5g, fx5h, fx5i, fx5j⟩ := hs2.1.arc (na_tp fx1ou)
    have af3x5 := af_of (i := 3) hax5 rfl (by omega)
    subst af3x5
    have af4x5 := af_of (i := 4) hax5 rfl (by omega)
    subst af4x5
    have af5x5 := af_of (i := 5) hax5 rfl (by omega)
    subst af5x5
    have af6x5 := af_of (i := 6) hax5 rfl (by omega)
    subst af6x5
    have af7x5 := af_of (i := 7) hax5 rfl (by omega)
    subst af7x5
    refine TX.get rfl rfl rfl rfl hax5 rfl ?_
    obtain ⟨mx6, nx6, bx6, lx6, hrx6, hbx6, fx6a, fx6b, fx6c, fx6d, fx6e, fx6g, fx6h, fx6i⟩ := hs2.1.row (kdX_ar _ (na_tp fx1ou)).2.2.1
    have ctx6 := CT_of hrx6 hbx6
    have rwx6 := rl_of hrx6 (by omega)
    subst rwx6
    refine TX.callv (as := []) (r := []) rfl rfl rfl rfl (RwL_lt _ (kdX_ar _ (na_tp fx1ou)).2.2.1).2.2.1 hrx6 rfl (s_R_clear (d + 7) (oux1 + 1) s2 hs2.1 (kdX_ar _ (na_tp fx1ou)).2.2.1  ) (fun v2 s3 hqs3 => ?_)
    obtain ⟨rfl, hs3, pz2_0, pz2_1⟩ := hqs3
    have es3 := hs3
    have hs3 := hs3.sub (w' := [16, tpx1, tpx1 + 1, tpx1 + 3, tpx1 + 4, oux1 + 1, 59, 61]) (List.forall_mem_cons.mpr ⟨(by simp), (fun _ h => by cases h)⟩)
    have k5 := es3.b.1 _ _ (nm_c ((by decide : ∀ v ∈ [63, 68], (16 : Nat) ≠ v + 1) _ (mem2 fx1ou)) nm_0) (fun l z => by cases z) hcs2
    have k6 := es3.b.1 _ _ (nm_c (fun z => hne (by omega)) nm_0) (fun l z => by cases z) k3
    have k7 := es3.b.1 _ _ (nm_c ((by decide : ∀ u ∈ [63, 68], ∀ v ∈ [63, 68], u ≠ v + 1) _ (mem2 fx1tp) _ (mem2 fx1ou)) nm_0) (fun l z => by cases z) k4
    have k8 := es3.b.1 _ _ (nm_c (by omega) nm_0) (fun l z => by cases z) hax5
    have gs3 := gs2.trans hs3
    obtain ⟨mx7, nx7, bx7, lx7, hrx7, hbx7, fx7a, fx7b, fx7c, fx7d, fx7e, fx7g, fx7h, fx7i⟩ := hs3.1.row (kdX_ar _ (na_tp fx1ou)).2.2.1
    have ctx7 := CT_of hrx7 hbx7
    have rwx7 := rl_of hrx7 (by omega)
    subst rwx7
    have cz2 := rl_of hrx7 (by omega)
    have cz2 := rl_of hrx7 (by omega)
    refine TX.go 2 (fun n9 => (rfl : _ = exx ξ n9 (d + 8) j_N_open 69 [(0, .ref 16), (1, J z1), (2, .ref tpx1)] [.ref tpx1, .ref 16] s3)) ?_
    refine TX.putF (w := [16]) rfl rfl rfl k5 rfl rfl rfl (fs' := [.ref 17, .ref 41, .ref 48, .ref 51, .ref 53, .ref 55, .ref 57, .ref kex1, .ref scx1, .ref oux1, .ref tpx1, J hox1, .ref mox1, .ref sgx1, J mcx1, J lfx1, J lpx1]) rfl (Fr.other hs3.1 k5 rfl (show okN _ from ⟨_, _, _, _, _, _, _, _, _, _, rfl, by omega⟩) (by decide) (Or.inl (by decide)) (fun _ z => by cases z) (by simp)) (fun s4 hs4 hcs4 hos4 => ?_)
    have ess4 := hs4
    have hs4 := hs4.sub (w' := [16, tpx1, tpx1 + 1, tpx1 + 3, tpx1 + 4, oux1 + 1, 59, 61]) (List.forall_mem_cons.mpr ⟨(by simp), (fun _ h => by cases h)⟩)
    have gs4 := gs3.trans hs4
    have k9 := hos4 ((by decide : ∀ u ∈ [63, 68], u + 1 ≠ 16) _ (mem2 fx1tp)) k6
    have k10 := hos4 ((by decide : ∀ u ∈ [63, 68], u ≠ 16) _ (mem2 fx1tp)) k7
    have k11 := hos4 ((by decide : ∀ u ∈ [63, 68], u ≠ 16) _ (mem2 fx1ou)) k8
    have k12 := hos4 ((by decide : ∀ u ∈ [63, 68], u + 1 ≠ 16) _ (mem2 fx1ou)) hrx7
    have k13 := hos4 (q_dif hbx7 k5 (fun z => by cases z)) hbx7
    refine TX.go 2 (fun n9 => (rfl : _ = exx ξ n9 (d + 8) j_N_open 74 [(0, .ref 16), (1, J z1), (2, .ref tpx1)] [J 1, .ref 16] s4)) ?_
    refine TX.putF (w := [16]) rfl rfl rfl hcs4 rfl rfl rfl (fs' := [.ref 17, .ref 41, .ref 48, .ref 51, .ref 53, .ref 55, .ref 57, .ref kex1, .ref scx1, .ref oux1, .ref tpx1, J 1, .ref mox1, .ref sgx1, J mcx1, J lfx1, J lpx1]) rfl (Fr.other hs4.1 hcs4 rfl (show okN _ from ⟨_, _, _, _, _, _, _, _, _, _, rfl, by omega⟩) (by decide) (Or.inl (by decide)) (fun _ z => by cases z) (by simp)) (fun s5 hs5 hcs5 hos5 => ?_)
    have ess5 := hs5
    have hs5 := hs5.sub (w' := [16, tpx1, tpx1 + 1, tpx1 + 3, tpx1 + 4, oux1 + 1, 59, 61]) (List.forall_mem_cons.mpr ⟨(by simp), (fun _ h => by cases h)⟩)
    have gs5 := gs4.trans hs5
    have k14 := hos5 ((by decide : ∀ u ∈ [63, 68], u + 1 ≠ 16) _ (mem2 fx1tp)) k9
    have k15 := hos5 ((by decide : ∀ u ∈ [63, 68], u ≠ 16) _ (mem2 fx1tp)) k10
    have k16 := hos5 ((by decide : ∀ u ∈ [63, 68], u ≠ 16) _ (mem2 fx1ou)) k11
    have k17 := hos5 ((by decide : ∀ u ∈ [63, 68], u + 1 ≠ 16) _ (mem2 fx1ou)) k12
    have k18 := hos5 (q_dif k13 hcs4 (fun z => by cases z)) k13
    refine TX.go 2 (fun n9 => (rfl : _ = exx ξ n9 (d + 8) j_N_open 79 [(0, .ref 16), (1, J z1), (2, .ref tpx1)] [J 0, .ref 16] s5)) ?_
    refine TX.putF (w := [16]) rfl rfl rfl hcs5 rfl rfl rfl (fs' := [.ref 17, .ref 41, .ref 48, .ref 51, .ref 53, .ref 55, .ref 57, .ref kex1, .ref scx1, .ref oux1, .ref tpx1, J 1, .ref mox1, .ref sgx1, J 0, J lfx1, J lpx1]) rfl (Fr.other hs5.1 hcs5 rfl (show okN _ from ⟨_, _, _, _, _, _, _, _, _, _, rfl, by omega⟩) (by decide) (Or.inl (by decide)) (fun _ z => by cases z) (by simp)) (fun s6 hs6 hcs6 hos6 => ?_)
    have ess6 := hs6
    have hs6 := hs6.sub (w' := [16, tpx1, tpx1 + 1, tpx1 + 3, tpx1 + 4, oux1 + 1, 59, 61]) (List.forall_mem_cons.mpr ⟨(by simp), (fun _ h => by cases h)⟩)
    have gs6 := gs5.trans hs6
    have k19 := hos6 ((by decide : ∀ u ∈ [63, 68], u + 1 ≠ 16) _ (mem2 fx1tp)) k14
    have k20 := hos6 ((by decide : ∀ u ∈ [63, 68], u ≠ 16) _ (mem2 fx1tp)) k15
    have k21 := hos6 ((by decide : ∀ u ∈ [63, 68], u ≠ 16) _ (mem2 fx1ou)) k16
    have k22 := hos6 ((by decide : ∀ u ∈ [63, 68], u + 1 ≠ 16) _ (mem2 fx1ou)) k17
    have k23 := hos6 (q_dif k18 hcs5 (fun z => by cases z)) k18
    refine TX.go 1 (fun n9 => (rfl : _ = exx ξ n9 (d + 8) j_N_open 83 [(0, .ref 16), (1, J z1), (2, .ref tpx1)] [.ref 16] s6)) ?_
    refine TX.get rfl rfl rfl rfl hcs6 rfl ?_
    obtain ⟨mx8, nx8, bx8, lx8, hrx8, hbx8, fx8a, fx8b, fx8c, fx8d, fx8e, fx8g, fx8h, fx8i⟩ := hs6.1.row (na_ke fx1ke)
    have ctx8 := CT_of hrx8 hbx8
    have rwx8 := rl_of hrx8 (by omega)
    subst rwx8
    refine TX.callv (as := []) (r := []) rfl rfl rfl rfl (RwL_lt _ (na_ke fx1ke)).2.2.1 hrx8 rfl (s_R_clear (d + 7) kex1 s6 hs6.1 (na_ke fx1ke)  ) (fun v3 s7 hqs7 => ?_)
    obtain ⟨rfl, hs7, pz3_0, pz3_1⟩ := hqs7
    have es7 := hs7
    have hs7 := hs7.sub (w' := [16, tpx1, tpx1 + 1, tpx1 + 3, tpx1 + 4, oux1 + 1, 59, 61]) (List.forall_mem_cons.mpr ⟨(by rcases fx1ke with h | h <;> simp [h]), (fun _ h => by cases h)⟩)
    have k24 := es7.b.1 _ _ (nm_c ((by decide : ∀ v ∈ [59, 61], (16 : Nat) ≠ v) _ (mem2 fx1ke)) nm_0) (fun l z => by cases z) hcs6
    have k25 := es7.b.1 _ _ (nm_c ((by decide : ∀ u ∈ [63, 68], ∀ v ∈ [59, 61], u + 1 ≠ v) _ (mem2 fx1tp) _ (mem2 fx1ke)) nm_0) (fun l z => by cases z) k19
    have k26 := es7.b.1 _ _ (nm_c ((by decide : ∀ u ∈ [63, 68], ∀ v ∈ [59, 61], u ≠ v) _ (mem2 fx1tp) _ (mem2 fx1ke)) nm_0) (fun l z => by cases z) k20
    have k27 := es7.b.1 _ _ (nm_c ((by decide : ∀ u ∈ [63, 68], ∀ v ∈ [59, 61], u ≠ v) _ (mem2 fx1ou) _ (mem2 fx1ke)) nm_0) (fun l z => by cases z) k21
    have k28 := es7.b.1 _ _ (nm_c ((by decide : ∀ u ∈ [63, 68], ∀ v ∈ [59, 61], u + 1 ≠ v) _ (mem2 fx1ou) _ (mem2 fx1ke)) nm_0) (fun l z => by cases z) k22
    have gs7 := gs6.trans hs7
    refine TX.go 1 (fun n9 => (rfl : _ = exx ξ n9 (d + 8) j_N_open 90 [(0, .ref 16), (1, J z1), (2, .ref tpx1)] [.ref 16] s7)) ?_
    refine TX.get rfl rfl rfl rfl k24 rfl ?_
    refine TX.get rfl rfl rfl rfl k26 rfl ?_
    have tz1a := tl_at k24 rfl
    have tz1b := rl_of k28 (by omega)
    have tz1 : tl s7 = 0 := by omega
    have nq1 := (es1.b.2 hNA).1
    have rq1 := rl_eq (es1.2.2.1 (tpx1 + 1) (List.mem_cons_of_mem _ ((kdX_ar _ (na_tp fx1tp)).2.2.1)) (nm_c (by omega) (nm_c (by omega) (nm_c (by omega) nm_0))))
    have ag1 := hg.fr hNA es1 ((kdX_ar _ (na_tp fx1tp)).2.2.1) (nm_c (by omega) (nm_c (by omega) (nm_c (by omega) nm_0)))
    have sv0 : SV s1 tpx1 g (rl σ (tpx1 + 1)) := ⟨rq1, ag1, pz1_0 (by omega), (pz1_2 (by omega)).1, fun j j0 j1 => ⟨(pz1_3 (by omega) j j0 j1).1, (pz1_3 (by omega) j j0 j1).2.1⟩⟩
    have sv1 := SV.fr sv0 hs1.1 nq1 (na_tp fx1tp) ess2 (nm_c ((by decide : ∀ u ∈ [63, 68], u ≠ 16) _ (mem2 fx1tp)) nm_0) (nm_c ((by decide : ∀ u ∈ [63, 68], u + 1 ≠ 16) _ (mem2 fx1tp)) nm_0) (nm_c ((by decide : ∀ u ∈ [63, 68], u + 3 ≠ 16) _ (mem2 fx1tp)) nm_0) (nm_c ((by decide : ∀ u ∈ [63, 68], u + 4 ≠ 16) _ (mem2 fx1tp)) nm_0)
    have nx1 := (ess2.b.2 nq1).1
    have sv2 := SV.fr sv1 hs2.1 nx1 (na_tp fx1tp) es3 (nm_c ((by decide : ∀ u ∈ [63, 68], ∀ v ∈ [63, 68], u ≠ v + 1) _ (mem2 fx1tp) _ (mem2 fx1ou)) nm_0) (nm_c (fun z => hne (by omega)) nm_0) (nm_c ((by decide : ∀ u ∈ [63, 68], ∀ v ∈ [63, 68], u + 3 ≠ v + 1) _ (mem2 fx1tp) _ (mem2 fx1ou)) nm_0) (nm_c ((by decide : ∀ u ∈ [63, 68], ∀ v ∈ [63, 68], u + 4 ≠ v + 1) _ (mem2 fx1tp) _ (mem2 fx1ou)) nm_0)
    have nx2 := (es3.b.2 nx1).1
    have sv3 := SV.fr sv2 hs3.1 nx2 (na_tp fx1tp) ess4 (nm_c ((by decide : ∀ u ∈ [63, 68], u ≠ 16) _ (mem2 fx1tp)) nm_0) (nm_c ((by decide : ∀ u ∈ [63, 68], u + 1 ≠ 16) _ (mem2 fx1tp)) nm_0) (nm_c ((by decide : ∀ u ∈ [63, 68], u + 3 ≠ 16) _ (mem2 fx1tp)) nm_0) (nm_c ((by decide : ∀ u ∈ [63, 68], u + 4 ≠ 16) _ (mem2 fx1tp)) nm_0)
    have nx3 := (ess4.b.2 nx2).1
    have sv4 := SV.fr sv3 hs4.1 nx3 (na_tp fx1tp) ess5 (nm_c ((by decide : ∀ u ∈ [63, 68], u ≠ 16) _ (mem2 fx1tp)) nm_0) (nm_c ((by decide : ∀ u ∈ [63, 68], u + 1 ≠ 16) _ (mem2 fx1tp)) nm_0) (nm_c ((by decide : ∀ u ∈ [63, 68], u + 3 ≠ 16) _ (mem2 fx1tp)) nm_0) (nm_c ((by decide : ∀ u ∈ [63, 68], u + 4 ≠ 16) _ (mem2 fx1tp)) nm_0)
    have nx4 := (ess5.b.2 nx3).1
    have sv5 := SV.fr sv4 hs5.1 nx4 (na_tp fx1tp) ess6 (nm_c ((by decide : ∀ u ∈ [63, 68], u ≠ 16) _ (mem2 fx1tp)) nm_0) (nm_c ((by decide : ∀ u ∈ [63, 68], u + 1 ≠ 16) _ (mem2 fx1tp)) nm_0) (nm_c ((by decide : ∀ u ∈ [63, 68], u + 3 ≠ 16) _ (mem2 fx1tp)) nm_0) (nm_c ((by decide : ∀ u ∈ [63, 68], u + 4 ≠ 16) _ (mem2 fx1tp)) nm_0)
    have nx5 := (ess6.b.2 nx4).1
    have sv6 := SV.fr sv5 hs6.1 nx5 (na_tp fx1tp) es7 (nm_c ((by decide : ∀ u ∈ [63, 68], ∀ v ∈ [59, 61], u ≠ v) _ (mem2 fx1tp) _ (mem2 fx1ke)) nm_0) (nm_c ((by decide : ∀ u ∈ [63, 68], ∀ v ∈ [59, 61], u + 1 ≠ v) _ (mem2 fx1tp) _ (mem2 fx1ke)) nm_0) (nm_c ((by decide : ∀ u ∈ [63, 68], ∀ v ∈ [59, 61], u + 3 ≠ v) _ (mem2 fx1tp) _ (mem2 fx1ke)) nm_0) (nm_c ((by decide : ∀ u ∈ [63, 68], ∀ v ∈ [59, 61], u + 4 ≠ v) _ (mem2 fx1tp) _ (mem2 fx1ke)) nm_0)
    have nx6 := (es7.b.2 nx5).1
    exact TX.ireti rfl rfl rfl (QX_l ⟨_, rfl, gs7, by omega, by omega, tz1, (by rw [t0]; omega), (by rw [t0]; omega), (by rw [t0]; exact sv6), ((nfi_of (i := 9) k24).trans rfl), ((nfi_of (i := 10) k24).trans rfl), (af_of (i := 11) k24 rfl (by omega)), (af_of (i := 14) k24 rfl (by omega)), ((nfi_of (i := 12) k24).trans (nfi_of (i := 12) hNx1).symm), ((nfi_of (i := 13) k24).trans (nfi_of (i := 13) hNx1).symm)⟩)
  · refine TX.go 1 (fun n9 => (rfl : _ = exx ξ n9 (d + 8) j_N_open 13 [(0, .ref 16), (1, J z1)] [.ref 16] s1)) ?_
    refine TX.get rfl rfl rfl rfl k1 rfl ?_
    refine TX.get rfl rfl rfl rfl hax4 rfl ?_
    refine TX.callv (as := []) (r := []) rfl rfl rfl rfl (RwL_lt _ (kdX_ar _ (na_tp fx1tp)).2.2.1).2.2.1 k2 rfl (s_R_clear (d + 7) (tpx1 + 1) s1 hs1.1 (kdX_ar _ (na_tp fx1tp)).2.2.1  ) (fun v4 s8 hqs8 => ?_)
    obtain ⟨rfl, hs8, pz4_0, pz4_1⟩ := hqs8
    have es8 := hs8
    have hs8 := hs8.sub (w' := [16, tpx1, tpx1 + 1, tpx1 + 3, tpx1 + 4, oux1 + 1, 59, 61]) (List.forall_mem_cons.mpr ⟨(by simp), (fun _ h => by cases h)⟩)
    have k29 := es8.b.1 _ _ (nm_c ((by decide : ∀ v ∈ [63, 68], (16 : Nat) ≠ v + 1) _ (mem2 fx1tp)) nm_0) (fun l z => by cases z) k1
    have k30 := es8.b.1 _ _ (nm_c (by omega) nm_0) (fun l z => by cases z) hax4
    have gs8 := hs1.trans hs8
    obtain ⟨mx9, nx9, bx9, lx9, hrx9, hbx9, fx9a, fx9b, fx9c, fx9d, fx9e, fx9g, fx9h, fx9i⟩ := hs8.1.row (kdX_ar _ (na_tp fx1tp)).2.2.1
    have ctx9 := CT_of hrx9 hbx9
    have rwx9 := rl_of hrx9 (by omega)
    subst rwx9
    have cz4 := rl_of hrx9 (by omega)
    have cz4 := rl_of hrx9 (by omega)
    refine TX.go 3 (fun n9 => (rfl : _ = exx ξ n9 (d + 8) j_N_open 25 [(0, .ref 16), (1, J z1)] [.ref 16, J z1, .ref 16] s8)) ?_
    refine TX.get rfl rfl rfl rfl k29 rfl ?_
    refine TX.get rfl rfl rfl rfl k30 rfl ?_
    have tq1 : nsx s8 = nsx σ := (nsx_of k29).trans (nsx_of hNx1).symm
    have tz2a := tl_at k29 rfl
    have tz2b := rl_of hrx9 (by omega)
    have tz2 : tl s8 = 0 := by omega
    refine TX.callv (as := [J z1, J (afld s1 tpx1 7)]) (r := []) rfl rfl rfl rfl rfl k29 rfl (s_N_note (d + 7) z1 (afld s1 tpx1 7) s8 hs8.1   (by omega) (by omega)) (fun v5 s9 hqs9 => ?_)
    obtain ⟨rfl, hs9, pz5_0⟩ := hqs9
    have es9 := hs9
    have hs9 := hs9.sub (w' := [16, tpx1, tpx1 + 1, tpx1 + 3, tpx1 + 4, oux1 + 1, 59, 61]) (List.forall_mem_cons.mpr ⟨(by simp), (fun _ h => by cases h)⟩)
    have k31 := es9.b.1 _ _ (nm_c ((by decide : ∀ u ∈ [63, 68], u ≠ 16) _ (mem2 fx1tp)) nm_0) (fun l z => by cases z) k30
    have k32 := es9.b.1 _ _ (nm_c ((by decide : ∀ u ∈ [63, 68], u + 1 ≠ 16) _ (mem2 fx1tp)) nm_0) (fun l z => by cases z) hrx9
    have gs9 := gs8.trans hs9
    have tz3 := (tl_note hs8.1 es9 (nsx_tpf pz5_0)).trans tz2
    have tq2 := pz5_0.trans tq1
    have kpo1 : KPO oux1 σ s9 := by
      intro G F sx
      have sv7 := SV.fr sx hK hNA (na_tp fx1ou) es1 (nm_c (fun z => (fun z => hne (by omega)) z.symm) (nm_c ((by decide : ∀ u ∈ [63, 68], ∀ v ∈ [63, 68], u ≠ v + 3) _ (mem2 fx1ou) _ (mem2 fx1tp)) (nm_c ((by decide : ∀ u ∈ [63, 68], ∀ v ∈ [63, 68], u ≠ v + 4) _ (mem2 fx1ou) _ (mem2 fx1tp)) nm_0))) (nm_c ((by decide : ∀ u ∈ [63, 68], ∀ v ∈ [63, 68], u + 1 ≠ v) _ (mem2 fx1ou) _ (mem2 fx1tp)) (nm_c ((by decide : ∀ u ∈ [63, 68], ∀ v ∈ [63, 68], u + 1 ≠ v + 3) _ (mem2 fx1ou) _ (mem2 fx1tp)) (nm_c ((by decide : ∀ u ∈ [63, 68], ∀ v ∈ [63, 68], u + 1 ≠ v + 4) _ (mem2 fx1ou) _ (mem2 fx1tp)) nm_0))) (nm_c ((by decide : ∀ u ∈ [63, 68], ∀ v ∈ [63, 68], u + 3 ≠ v) _ (mem2 fx1ou) _ (mem2 fx1tp)) (nm_c (fun z => (fun z => hne (by omega)) z.symm) (nm_c ((by decide : ∀ u ∈ [63, 68], ∀ v ∈ [63, 68], u + 3 ≠ v + 4) _ (mem2 fx1ou) _ (mem2 fx1tp)) nm_0))) (nm_c ((by decide : ∀ u ∈ [63, 68], ∀ v ∈ [63, 68], u + 4 ≠ v) _ (mem2 fx1ou) _ (mem2 fx1tp)) (nm_c ((by decide : ∀ u ∈ [63, 68], ∀ v ∈ [63, 68], u + 4 ≠ v + 3) _ (mem2 fx1ou) _ (mem2 fx1tp)) (nm_c (fun z => (fun z => hne (by omega)) z.symm) nm_0)))
      have nx7 := (es1.b.2 hNA).1
      have sv8 := SV.fr sv7 hs1.1 nx7 (na_tp fx1ou) es8 (nm_c ((by decide : ∀ u ∈ [63, 68], ∀ v ∈ [63, 68], u ≠ v + 1) _ (mem2 fx1ou) _ (mem2 fx1tp)) nm_0) (nm_c (fun z => (fun z => hne (by omega)) z.symm) nm_0) (nm_c ((by decide : ∀ u ∈ [63, 68], ∀ v ∈ [63, 68], u + 3 ≠ v + 1) _ (mem2 fx1ou) _ (mem2 fx1tp)) nm_0) (nm_c ((by decide : ∀ u ∈ [63, 68], ∀ v ∈ [63, 68], u + 4 ≠ v + 1) _ (mem2 fx1ou) _ (mem2 fx1tp)) nm_0)
      have nx8 := (es8.b.2 nx7).1
      have sv9 := SV.fr sv8 hs8.1 nx8 (na_tp fx1ou) es9 (nm_c ((by decide : ∀ u ∈ [63, 68], u ≠ 16) _ (mem2 fx1ou)) nm_0) (nm_c ((by decide : ∀ u ∈ [63, 68], u + 1 ≠ 16) _ (mem2 fx1ou)) nm_0) (nm_c ((by decide : ∀ u ∈ [63, 68], u + 3 ≠ 16) _ (mem2 fx1ou)) nm_0) (nm_c ((by decide : ∀ u ∈ [63, 68], u + 4 ≠ 16) _ (mem2 fx1ou)) nm_0)
      have nx9 := (es9.b.2 nx8).1
      exact sv9
    exact TX.throw (Nat.ble_eq_true_of_le (by omega)) rfl rfl (QX_r (by decide) gs9 ⟨tz3, (by rw [t0]; omega), tq2, kpo1⟩)
