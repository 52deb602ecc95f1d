/-! The kept row. -/
/-- these rows stay -/
def KPR (ks : List Nat) (σ s : qH) : Prop := ∀ r ∈ ks, CT s r = CT σ r ∧ rl s r = rl σ r
theorem KPR.rf {ks : List Nat} {σ : qH} : KPR ks σ σ := fun _ _ => ⟨rfl, rfl⟩
theorem KPR.fr {ks w : List Nat} {σ s s' : qH} (h : KPR ks σ s) (hF : Fr w s s') (hN : NA s) (hw : ∀ r ∈ ks, r ∈ RwL ∧ r ∉ w) : KPR ks σ s' := fun r hr => ⟨((hF.b.2 hN).2 r (hw r hr).1 (hw r hr).2).trans (h r hr).1, (rl_eq (hF.2.2.1 r (List.mem_cons_of_mem _ (hw r hr).1) (hw r hr).2)).trans (h r hr).2⟩
theorem KPR_1 {k : Nat} {w : List Nat} (h : k ∈ RwL) (q : k ∉ w) : ∀ r ∈ [k], r ∈ RwL ∧ r ∉ w := fun r hr => by
  cases List.mem_singleton.mp hr
  exact ⟨h, q⟩
def KCL (σ s : qH) : Prop := nsk s = nsk σ ∧ ∀ ke : Nat, nfi 7 σ = some (.ref ke) → rl s ke = 0

set_option maxRecDepth 10000 in
set_option maxHeartbeats 4000000 in
theorem s_N_zopen {ξ : Nat → Option (Nat × List Int32)} (d : Nat) (g : Int → Int) (tpx1 oux1 : Nat)  (σ : qH) (hK : K σ)  (ht : nfi 9 σ = some (.ref tpx1)) (ho : nfi 10 σ = some (.ref oux1)) (hne : tpx1 ≠ oux1) (h255 : ∀ k, 0 ≤ g k ∧ g k ≤ 255) (hgt : AGT σ g) (hNA : NA σ) : TX ξ (d + 8) j_N_open 0 (lv_args 0 [.ref 16]) [] σ (QX [16, tpx1, tpx1 + 1, tpx1 + 3, tpx1 + 4, oux1 + 1, 59, 61] [0] σ (fun s => tl s = 0 ∧ FOn g (tl σ) = 0 ∧ nsx s = nsx σ ∧ KPO oux1 σ s ∧ nsk s = nsk σ ∧ KPR [59, 61] σ s) (fun v σ' => ∃ z : Int, v = some (J z) ∧ Fr [16, tpx1, tpx1 + 1, tpx1 + 3, tpx1 + 4, oux1 + 1, 59, 61] σ σ' ∧ -2147483648 ≤ z ∧ z ≤ 2147483647 ∧ tl σ' = 0 ∧ FOn g (tl σ) = 1 ∧ z = W2 g (EN g (tl σ) + 8) ∧ SV σ' tpx1 g (tl σ) ∧ nfi 9 σ' = some (.ref oux1) ∧ nfi 10 σ' = some (.ref tpx1) ∧ afld σ' 16 11 = 1 ∧ afld σ' 16 14 = 0 ∧ nfi 12 σ' = nfi 12 σ ∧ nfi 13 σ' = nfi 13 σ ∧ KCL σ σ')) := by
  obtain ⟨kex1, scx1, tpy, ouy, mox1, sgx1, hox1, mcx1, lfx1, lpx1, hNx1, fx1ke, fx1sc, fx1tp, fx1ou, fx1mo, fx1sg, fx1d, fx1e, fx1f, fx1g, fx1h, fx1i, fx1j⟩ := hK.na
  have ety : tpx1 = tpy := by have q : nfi 9 σ = some (.ref tpy) := (nfi_of hNx1).trans rfl; rw [ht] at q; cases q; rfl
  subst ety
  have etz : oux1 = ouy := by have q : nfi 10 σ = some (.ref ouy) := (nfi_of hNx1).trans rfl; rw [ho] at q; cases q; rfl
  subst etz
  obtain ⟨ex2, erx2, dix2, bax2, fpx2, hax2, fx2a, fx2b, fx2c, fx2d, fx2e, fx2f, fx2g, fx2h, fx2i, fx2j⟩ := hK.arc (na_tp fx1tp)
  have af3x2 := af_of (i := 3) hax2 rfl (by omega)
  subst af3x2
  have af4x2 := af_of (i := 4) hax2 rfl (by omega)
  subst af4x2
  have af5x2 := af_of (i := 5) hax2 rfl (by omega)
  subst af5x2
  have af6x2 := af_of (i := 6) hax2 rfl (by omega)
  subst af6x2
  have af7x2 := af_of (i := 7) hax2 rfl (by omega)
  subst af7x2
  obtain ⟨mx3, nx3, bx3, lx3, hrx3, hbx3, fx3a, fx3b, fx3c, fx3d, fx3e, fx3g, fx3h, fx3i⟩ := hK.row (kdX_ar _ (na_tp fx1tp)).2.2.1
  have ctx3 := CT_of hrx3 hbx3
  have rwx3 := rl_of hrx3 (by omega)
  subst rwx3
  have hm := mst_tp fx1tp
  have t0 := tl_at hNx1 rfl
  have t1 := rl_of hrx3 (by omega)
  have tpE := tpf_of hNx1 rfl
  have hg := hgt.at tpE
  have la := 0
  refine TX.go 1 (fun n9 => (rfl : _ = exx ξ n9 (d + 8) j_N_open 1 [(0, .ref 16)] [.ref 16] σ)) ?_
  refine TX.get rfl rfl rfl rfl hNx1 rfl ?_
  refine TX.callv (as := []) (r := []) rfl rfl rfl rfl (ArL_lt _ (na_tp fx1tp)).2.2.1 hax2 rfl (s_A_fsurvey (d + 3) g tpx1 σ hK (na_tp fx1tp) h255 hg hNA ) (fun v1 s1 hqs1 => ?_)
  obtain ⟨z1, rfl, hs1, hzz1, hyz1, pz1_0, pz1_1, pz1_2, pz1_3⟩ := hqs1
  have es1 := hs1
  have hs1 := hs1.sub (w' := [16, tpx1, tpx1 + 1, tpx1 + 3, tpx1 + 4, oux1 + 1, 59, 61]) (List.forall_mem_cons.mpr ⟨(by simp), (List.forall_mem_cons.mpr ⟨(by simp), (List.forall_mem_cons.mpr ⟨(by simp), (fun _ h => by cases h)⟩)⟩)⟩)
  have k1 := es1.b.1 _ _ (nm_c ((by decide : ∀ v ∈ [63, 68], (16 : Nat) ≠ v) _ (mem2 fx1tp)) (nm_c ((by decide : ∀ v ∈ [63, 68], (16 : Nat) ≠ v + 3) _ (mem2 fx1tp)) (nm_c ((by decide : ∀ v ∈ [63, 68], (16 : Nat) ≠ v + 4) _ (mem2 fx1tp)) nm_0))) (fun l z => by cases z) hNx1
  have k2 := es1.b.1 _ _ (nm_c (by omega) (nm_c (by omega) (nm_c (by omega) nm_0))) (fun l z => by cases z) hrx3
  obtain ⟨ex4, erx4, dix4, bax4, fpx4, hax4, fx4a, fx4b, fx4c, fx4d, fx4e, fx4f, fx4g, fx4h, fx4i, fx4j⟩ := hs1.1.arc (na_tp fx1tp)
  have af3x4 := af_of (i := 3) hax4 rfl (by omega)
  subst af3x4
  have af4x4 := af_of (i := 4) hax4 rfl (by omega)
  subst af4x4
  have af5x4 := af_of (i := 5) hax4 rfl (by omega)
  subst af5x4
  have af6x4 := af_of (i := 6) hax4 rfl (by omega)
  subst af6x4
  have af7x4 := af_of (i := 7) hax4 rfl (by omega)
  subst af7x4
  refine TX.go 2 (fun n9 => (rfl : _ = exx ξ n9 (d + 8) j_N_open 9 [(0, .ref 16), (1, J z1)] [J z1] s1)) ?_
  refine TX.if_eq rfl rfl rfl (by omega) (fun c1 => ?_) (fun c1 => ?_)
  · refine TX.go 1 (fun n9 => (rfl : _ = exx ξ n9 (d + 8) j_N_open 45 [(0, .ref 16), (1, J z1)] [.ref 16] s1)) ?_
    refine TX.get rfl rfl rfl rfl k1 rfl ?_
    refine TX.go 3 (fun n9 => (rfl : _ = exx ξ n9 (d + 8) j_N_open 51 [(0, .ref 16), (1, J z1), (2, .ref tpx1)] [.ref 16, .ref 16] s1)) ?_
    refine TX.get rfl rfl rfl rfl k1 rfl ?_
    refine TX.putF (w := [16]) rfl rfl rfl k1 rfl rfl rfl (fs' := [.ref 17, .ref 41, .ref 48, .ref 51, .ref 53, .ref 55, .ref 57, .ref kex1, .ref scx1, .ref oux1, .ref oux1, J hox1, .ref mox1, .ref sgx1, J mcx1, J lfx1, J lpx1]) rfl (Fr.other hs1.1 k1 rfl (show okN _ from ⟨_, _, _, _, _, _, _, _, _, _, rfl, by omega⟩) (by decide) (Or.inl (by decide)) (fun _ z => by cases z) (by simp)) (fun s2 hs2 hcs2 hos2 => ?_)
    have ess2 := hs2
    have hs2 := hs2.sub (w' := [16, tpx1, tpx1 + 1, tpx1 + 3, tpx1 + 4, oux1 + 1, 59, 61]) (List.forall_mem_cons.mpr ⟨(by simp), (fun _ h => by cases h)⟩)
    have gs2 := hs1.trans hs2
    have k3 := hos2 (dq_94 _ (mem2 fx1tp)) k2
    have k4 := hos2 (dq_95 _ (mem2 fx1tp)) hax4
    refine TX.go 1 (fun n9 => (rfl : _ = exx ξ n9 (d + 8) j_N_open 58 [(0, .ref 16), (1, J z1), (2, .ref tpx1)] [.ref 16] s2)) ?_
    refine TX.get rfl rfl rfl rfl hcs2 rfl ?_
    obtain ⟨ex5, erx5, dix5, bax5, fpx5, hax5, fx5a, fx5b, fx5c, fx5d, fx5e, fx5f, fx5g, fx5h, fx5i, fx5j⟩ := hs2.1.arc (na_tp fx1ou)
    have af3x5 := af_of (i := 3) hax5 rfl (by omega)
    subst af3x5
    have af4x5 := af_of (i := 4) hax5 rfl (by omega)
    subst af4x5
    have af5x5 := af_of (i := 5) hax5 rfl (by omega)
    subst af5x5
    have af6x5 := af_of (i := 6) hax5 rfl (by omega)
    subst af6x5
    have af7x5 := af_of (i := 7) hax5 rfl (by omega)
    subst af7x5
    refine TX.get rfl rfl rfl rfl hax5 rfl ?_
    obtain ⟨mx6, nx6, bx6, lx6, hrx6, hbx6, fx6a, fx6b, fx6c, fx6d, fx6e, fx6g, fx6h, fx6i⟩ := hs2.1.row (kdX_ar _ (na_tp fx1ou)).2.2.1
    have ctx6 := CT_of hrx6 hbx6
    have rwx6 := rl_of hrx6 (by omega)
    subst rwx6
    refine TX.callv (as := []) (r := []) rfl rfl rfl rfl (RwL_lt _ (kdX_ar _ (na_tp fx1ou)).2.2.1).2.2.1 hrx6 rfl (s_R_clear (d + 7) (oux1 + 1) s2 hs2.1 (kdX_ar _ (na_tp fx1ou)).2.2.1  ) (fun v2 s3 hqs3 => ?_)
    obtain ⟨rfl, hs3, pz2_0, pz2_1⟩ := hqs3
    have es3 := hs3
    have hs3 := hs3.sub (w' := [16, tpx1, tpx1 + 1, tpx1 + 3, tpx1 + 4, oux1 + 1, 59, 61]) (List.forall_mem_cons.mpr ⟨(by simp), (fun _ h => by cases h)⟩)
    have k5 := es3.b.1 _ _ (nm_c (dq_87 _ (mem2 fx1ou)) nm_0) (fun l z => by cases z) hcs2
    have k6 := es3.b.1 _ _ (nm_c (fun z => hne (by omega)) nm_0) (fun l z => by cases z) k3
    have k7 := es3.b.1 _ _ (nm_c (dq_96 _ (mem2 fx1tp) _ (mem2 fx1ou)) nm_0) (fun l z => by cases z) k4
    have k8 := es3.b.1 _ _ (nm_c (by omega) nm_0) (fun l z => by cases z) hax5
    have gs3 := gs2.trans hs3
    obtain ⟨mx7, nx7, bx7, lx7, hrx7, hbx7, fx7a, fx7b, fx7c, fx7d, fx7e, fx7g, fx7h, fx7i⟩ := hs3.1.row (kdX_ar _ (na_tp fx1ou)).2.2.1
    have ctx7 := CT_of hrx7 hbx7
    have rwx7 := rl_of hrx7 (by omega)
    subst rwx7
    have cz2 := rl_of hrx7 (by omega)
    have cz2 := rl_of hrx7 (by omega)
    refine TX.go 2 (fun n9 => (rfl : _ = exx ξ n9 (d + 8) j_N_open 69 [(0, .ref 16), (1, J z1), (2, .ref tpx1)] [.ref tpx1, .ref 16] s3)) ?_
    refine TX.putF (w := [16]) rfl rfl rfl k5 rfl rfl rfl (fs' := [.ref 17, .ref 41, .ref 48, .ref 51, .ref 53, .ref 55, .ref 57, .ref kex1, .ref scx1, .ref oux1, .ref tpx1, J hox1, .ref mox1, .ref sgx1, J mcx1, J lfx1, J lpx1]) rfl (Fr.other hs3.1 k5 rfl (show okN _ from ⟨_, _, _, _, _, _, _, _, _, _, rfl, by omega⟩) (by decide) (Or.inl (by decide)) (fun _ z => by cases z) (by simp)) (fun s4 hs4 hcs4 hos4 => ?_)
    have ess4 := hs4
    have hs4 := hs4.sub (w' := [16, tpx1, tpx1 + 1, tpx1 + 3, tpx1 + 4, oux1 + 1, 59, 61]) (List.forall_mem_cons.mpr ⟨(by simp), (fun _ h => by cases h)⟩)
    have gs4 := gs3.trans hs4
    have k9 := hos4 (dq_94 _ (mem2 fx1tp)) k6
    have k10 := hos4 (dq_95 _ (mem2 fx1tp)) k7
    have k11 := hos4 (dq_95 _ (mem2 fx1ou)) k8
    have k12 := hos4 (dq_94 _ (mem2 fx1ou)) hrx7
    have k13 := hos4 (q_dif hbx7 k5 (fun z => by cases z)) hbx7
    refine TX.go 2 (fun n9 => (rfl : _ = exx ξ n9 (d + 8) j_N_open 74 [(0, .ref 16), (1, J z1), (2, .ref tpx1)] [J 1, .ref 16] s4)) ?_
    refine TX.putF (w := [16]) rfl rfl rfl hcs4 rfl rfl rfl (fs' := [.ref 17, .ref 41, .ref 48, .ref 51, .ref 53, .ref 55, .ref 57, .ref kex1, .ref scx1, .ref oux1, .ref tpx1, J 1, .ref mox1, .ref sgx1, J mcx1, J lfx1, J lpx1]) rfl (Fr.other hs4.1 hcs4 rfl (show okN _ from ⟨_, _, _, _, _, _, _, _, _, _, rfl, by omega⟩) (by decide) (Or.inl (by decide)) (fun _ z => by cases z) (by simp)) (fun s5 hs5 hcs5 hos5 => ?_)
    have ess5 := hs5
    have hs5 := hs5.sub (w' := [16, tpx1, tpx1 + 1, tpx1 + 3, tpx1 + 4, oux1 + 1, 59, 61]) (List.forall_mem_cons.mpr ⟨(by simp), (fun _ h => by cases h)⟩)
    have gs5 := gs4.trans hs5
    have k14 := hos5 (dq_94 _ (mem2 fx1tp)) k9
    have k15 := hos5 (dq_95 _ (mem2 fx1tp)) k10
    have k16 := hos5 (dq_95 _ (mem2 fx1ou)) k11
    have k17 := hos5 (dq_94 _ (mem2 fx1ou)) k12
    have k18 := hos5 (q_dif k13 hcs4 (fun z => by cases z)) k13
    refine TX.go 2 (fun n9 => (rfl : _ = exx ξ n9 (d + 8) j_N_open 79 [(0, .ref 16), (1, J z1), (2, .ref tpx1)] [J 0, .ref 16] s5)) ?_
    refine TX.putF (w := [16]) rfl rfl rfl hcs5 rfl rfl rfl (fs' := [.ref 17, .ref 41, .ref 48, .ref 51, .ref 53, .ref 55, .ref 57, .ref kex1, .ref scx1, .ref oux1, .ref tpx1, J 1, .ref mox1, .ref sgx1, J 0, J lfx1, J lpx1]) rfl (Fr.other hs5.1 hcs5 rfl (show okN _ from ⟨_, _, _, _, _, _, _, _, _, _, rfl, by omega⟩) (by decide) (Or.inl (by decide)) (fun _ z => by cases z) (by simp)) (fun s6 hs6 hcs6 hos6 => ?_)
    have ess6 := hs6
    have hs6 := hs6.sub (w' := [16, tpx1, tpx1 + 1, tpx1 + 3, tpx1 + 4, oux1 + 1, 59, 61]) (List.forall_mem_cons.mpr ⟨(by simp), (fun _ h => by cases h)⟩)
    have gs6 := gs5.trans hs6
    have k19 := hos6 (dq_94 _ (mem2 fx1tp)) k14
    have k20 := hos6 (dq_95 _ (mem2 fx1tp)) k15
    have k21 := hos6 (dq_95 _ (mem2 fx1ou)) k16
    have k22 := hos6 (dq_94 _ (mem2 fx1ou)) k17
    have k23 := hos6 (q_dif k18 hcs5 (fun z => by cases z)) k18
    refine TX.go 1 (fun n9 => (rfl : _ = exx ξ n9 (d + 8) j_N_open 83 [(0, .ref 16), (1, J z1), (2, .ref tpx1)] [.ref 16] s6)) ?_
    refine TX.get rfl rfl rfl rfl hcs6 rfl ?_
    obtain ⟨mx8, nx8, bx8, lx8, hrx8, hbx8, fx8a, fx8b, fx8c, fx8d, fx8e, fx8g, fx8h, fx8i⟩ := hs6.1.row (na_ke fx1ke)
    have ctx8 := CT_of hrx8 hbx8
    have rwx8 := rl_of hrx8 (by omega)
    subst rwx8
    refine TX.callv (as := []) (r := []) rfl rfl rfl rfl (RwL_lt _ (na_ke fx1ke)).2.2.1 hrx8 rfl (s_R_clear (d + 7) kex1 s6 hs6.1 (na_ke fx1ke)  ) (fun v3 s7 hqs7 => ?_)
    obtain ⟨rfl, hs7, pz3_0, pz3_1⟩ := hqs7
    have es7 := hs7
    have hs7 := hs7.sub (w' := [16, tpx1, tpx1 + 1, tpx1 + 3, tpx1 + 4, oux1 + 1, 59, 61]) (List.forall_mem_cons.mpr ⟨(by rcases fx1ke with h | h <;> simp [h]), (fun _ h => by cases h)⟩)
    have k24 := es7.b.1 _ _ (nm_c (dq_90 _ (mem2 fx1ke)) nm_0) (fun l z => by cases z) hcs6
    have k25 := es7.b.1 _ _ (nm_c (dq_97 _ (mem2 fx1tp) _ (mem2 fx1ke)) nm_0) (fun l z => by cases z) k19
    have k26 := es7.b.1 _ _ (nm_c (dq_98 _ (mem2 fx1tp) _ (mem2 fx1ke)) nm_0) (fun l z => by cases z) k20
    have k27 := es7.b.1 _ _ (nm_c (dq_98 _ (mem2 fx1ou) _ (mem2 fx1ke)) nm_0) (fun l z => by cases z) k21
    have k28 := es7.b.1 _ _ (nm_c (dq_97 _ (mem2 fx1ou) _ (mem2 fx1ke)) nm_0) (fun l z => by cases z) k22
    have gs7 := gs6.trans hs7
    refine TX.go 1 (fun n9 => (rfl : _ = exx ξ n9 (d + 8) j_N_open 90 [(0, .ref 16), (1, J z1), (2, .ref tpx1)] [.ref 16] s7)) ?_
    refine TX.get rfl rfl rfl rfl k24 rfl ?_
    refine TX.get rfl rfl rfl rfl k26 rfl ?_
    have tz1a := tl_at k24 rfl
    have tz1b := rl_of k28 (by omega)
    have tz1 : tl s7 = 0 := by omega
    have nq1 := (es1.b.2 hNA).1
    have rq1 := rl_eq (es1.2.2.1 (tpx1 + 1) (List.mem_cons_of_mem _ ((kdX_ar _ (na_tp fx1tp)).2.2.1)) (nm_c (by omega) (nm_c (by omega) (nm_c (by omega) nm_0))))
    have ag1 := hg.fr hNA es1 ((kdX_ar _ (na_tp fx1tp)).2.2.1) (nm_c (by omega) (nm_c (by omega) (nm_c (by omega) nm_0)))
    have sv0 : SV s1 tpx1 g (rl σ (tpx1 + 1)) := ⟨rq1, ag1, pz1_0 (by omega), (pz1_2 (by omega)).1, fun j j0 j1 => ⟨(pz1_3 (by omega) j j0 j1).1, (pz1_3 (by omega) j j0 j1).2.1⟩⟩
    have sv1 := SV.fr sv0 hs1.1 nq1 (na_tp fx1tp) ess2 (nm_c (dq_95 _ (mem2 fx1tp)) nm_0) (nm_c (dq_94 _ (mem2 fx1tp)) nm_0) (nm_c (dq_99 _ (mem2 fx1tp)) nm_0) (nm_c (dq_100 _ (mem2 fx1tp)) nm_0)
    have nx1 := (ess2.b.2 nq1).1
    have sv2 := SV.fr sv1 hs2.1 nx1 (na_tp fx1tp) es3 (nm_c (dq_96 _ (mem2 fx1tp) _ (mem2 fx1ou)) nm_0) (nm_c (fun z => hne (by omega)) nm_0) (nm_c (dq_101 _ (mem2 fx1tp) _ (mem2 fx1ou)) nm_0) (nm_c (dq_102 _ (mem2 fx1tp) _ (mem2 fx1ou)) nm_0)
    have nx2 := (es3.b.2 nx1).1
    have sv3 := SV.fr sv2 hs3.1 nx2 (na_tp fx1tp) ess4 (nm_c (dq_95 _ (mem2 fx1tp)) nm_0) (nm_c (dq_94 _ (mem2 fx1tp)) nm_0) (nm_c (dq_99 _ (mem2 fx1tp)) nm_0) (nm_c (dq_100 _ (mem2 fx1tp)) nm_0)
    have nx3 := (ess4.b.2 nx2).1
    have sv4 := SV.fr sv3 hs4.1 nx3 (na_tp fx1tp) ess5 (nm_c (dq_95 _ (mem2 fx1tp)) nm_0) (nm_c (dq_94 _ (mem2 fx1tp)) nm_0) (nm_c (dq_99 _ (mem2 fx1tp)) nm_0) (nm_c (dq_100 _ (mem2 fx1tp)) nm_0)
    have nx4 := (ess5.b.2 nx3).1
    have sv5 := SV.fr sv4 hs5.1 nx4 (na_tp fx1tp) ess6 (nm_c (dq_95 _ (mem2 fx1tp)) nm_0) (nm_c (dq_94 _ (mem2 fx1tp)) nm_0) (nm_c (dq_99 _ (mem2 fx1tp)) nm_0) (nm_c (dq_100 _ (mem2 fx1tp)) nm_0)
    have nx5 := (ess6.b.2 nx4).1
    have sv6 := SV.fr sv5 hs6.1 nx5 (na_tp fx1tp) es7 (nm_c (dq_98 _ (mem2 fx1tp) _ (mem2 fx1ke)) nm_0) (nm_c (dq_97 _ (mem2 fx1tp) _ (mem2 fx1ke)) nm_0) (nm_c ((by decide : ∀ u ∈ [63, 68], ∀ v ∈ [59, 61], u + 3 ≠ v) _ (mem2 fx1tp) _ (mem2 fx1ke)) nm_0) (nm_c ((by decide : ∀ u ∈ [63, 68], ∀ v ∈ [59, 61], u + 4 ≠ v) _ (mem2 fx1tp) _ (mem2 fx1ke)) nm_0)
    have nx6 := (es7.b.2 nx5).1
    exact TX.ireti rfl rfl rfl (QX_l ⟨_, rfl, gs7, by omega, by omega, tz1, (by rw [t0]; omega), (by rw [t0]; omega), (by rw [t0]; exact sv6), ((nfi_of (i := 9) k24).trans rfl), ((nfi_of (i := 10) k24).trans rfl), (af_of (i := 11) k24 rfl (by omega)), (af_of (i := 14) k24 rfl (by omega)), ((nfi_of (i := 12) k24).trans (nfi_of (i := 12) hNx1).symm), ((nfi_of (i := 13) k24).trans (nfi_of (i := 13) hNx1).symm), ⟨(nsk_of k24).trans (nsk_of hNx1).symm, fun ke q => by have q2 : nfi 7 σ = some (.ref kex1) := (nfi_of hNx1).trans rfl; rw [q2] at q; cases q; exact pz3_1⟩⟩)
  · refine TX.go 1 (fun n9 => (rfl : _ = exx ξ n9 (d + 8) j_N_open 13 [(0, .ref 16), (1, J z1)] [.ref 16] s1)) ?_
    refine TX.get rfl rfl rfl rfl k1 rfl ?_
    refine TX.get rfl rfl rfl rfl hax4 rfl ?_
    refine TX.callv (as := []) (r := []) rfl rfl rfl rfl (RwL_lt _ (kdX_ar _ (na_tp fx1tp)).2.2.1).2.2.1 k2 rfl (s_R_clear (d + 7) (tpx1 + 1) s1 hs1.1 (kdX_ar _ (na_tp fx1tp)).2.2.1  ) (fun v4 s8 hqs8 => ?_)
    obtain ⟨rfl, hs8, pz4_0, pz4_1⟩ := hqs8
    have es8 := hs8
    have hs8 := hs8.sub (w' := [16, tpx1, tpx1 + 1, tpx1 + 3, tpx1 + 4, oux1 + 1, 59, 61]) (List.forall_mem_cons.mpr ⟨(by simp), (fun _ h => by cases h)⟩)
    have k29 := es8.b.1 _ _ (nm_c (dq_87 _ (mem2 fx1tp)) nm_0) (fun l z => by cases z) k1
    have k30 := es8.b.1 _ _ (nm_c (by omega) nm_0) (fun l z => by cases z) hax4
    have gs8 := hs1.trans hs8
    obtain ⟨mx9, nx9, bx9, lx9, hrx9, hbx9, fx9a, fx9b, fx9c, fx9d, fx9e, fx9g, fx9h, fx9i⟩ := hs8.1.row (kdX_ar _ (na_tp fx1tp)).2.2.1
    have ctx9 := CT_of hrx9 hbx9
    have rwx9 := rl_of hrx9 (by omega)
    subst rwx9
    have cz4 := rl_of hrx9 (by omega)
    have cz4 := rl_of hrx9 (by omega)
    refine TX.go 3 (fun n9 => (rfl : _ = exx ξ n9 (d + 8) j_N_open 25 [(0, .ref 16), (1, J z1)] [.ref 16, J z1, .ref 16] s8)) ?_
    refine TX.get rfl rfl rfl rfl k29 rfl ?_
    refine TX.get rfl rfl rfl rfl k30 rfl ?_
    have tq1 : nsx s8 = nsx σ := (nsx_of k29).trans (nsx_of hNx1).symm
    have tz2a := tl_at k29 rfl
    have tz2b := rl_of hrx9 (by omega)
    have tz2 : tl s8 = 0 := by omega
    have tq1k : nsk s8 = nsk σ := (nsk_of k29).trans (nsk_of hNx1).symm
    refine TX.callv (as := [J z1, J (afld s1 tpx1 7)]) (r := []) rfl rfl rfl rfl rfl k29 rfl (s_N_enote (d + 7) z1 (afld s1 tpx1 7) s8 hs8.1   (by omega) (by omega)) (fun v5 s9 hqs9 => ?_)
    obtain ⟨rfl, hs9, pz5_0, pz5_1⟩ := hqs9
    have es9 := hs9
    have hs9 := hs9.sub (w' := [16, tpx1, tpx1 + 1, tpx1 + 3, tpx1 + 4, oux1 + 1, 59, 61]) (List.forall_mem_cons.mpr ⟨(by simp), (fun _ h => by cases h)⟩)
    have k31 := es9.b.1 _ _ (nm_c (dq_95 _ (mem2 fx1tp)) nm_0) (fun l z => by cases z) k30
    have k32 := es9.b.1 _ _ (nm_c (dq_94 _ (mem2 fx1tp)) nm_0) (fun l z => by cases z) hrx9
    have gs9 := gs8.trans hs9
    have tz3 := (tl_note hs8.1 es9 (nsx_tpf pz5_0)).trans tz2
    have tq2 := pz5_0.trans tq1
    have tq2k := pz5_1.trans tq1k
    have kpo1 : KPO oux1 σ s9 := by
      intro G F sx
      have sv7 := SV.fr sx hK hNA (na_tp fx1ou) es1 (nm_c (fun z => (fun z => hne (by omega)) z.symm) (nm_c ((by decide : ∀ u ∈ [63, 68], ∀ v ∈ [63, 68], u ≠ v + 3) _ (mem2 fx1ou) _ (mem2 fx1tp)) (nm_c ((by decide : ∀ u ∈ [63, 68], ∀ v ∈ [63, 68], u ≠ v + 4) _ (mem2 fx1ou) _ (mem2 fx1tp)) nm_0))) (nm_c ((by decide : ∀ u ∈ [63, 68], ∀ v ∈ [63, 68], u + 1 ≠ v) _ (mem2 fx1ou) _ (mem2 fx1tp)) (nm_c ((by decide : ∀ u ∈ [63, 68], ∀ v ∈ [63, 68], u + 1 ≠ v + 3) _ (mem2 fx1ou) _ (mem2 fx1tp)) (nm_c ((by decide : ∀ u ∈ [63, 68], ∀ v ∈ [63, 68], u + 1 ≠ v + 4) _ (mem2 fx1ou) _ (mem2 fx1tp)) nm_0))) (nm_c ((by decide : ∀ u ∈ [63, 68], ∀ v ∈ [63, 68], u + 3 ≠ v) _ (mem2 fx1ou) _ (mem2 fx1tp)) (nm_c (fun z => (fun z => hne (by omega)) z.symm) (nm_c ((by decide : ∀ u ∈ [63, 68], ∀ v ∈ [63, 68], u + 3 ≠ v + 4) _ (mem2 fx1ou) _ (mem2 fx1tp)) nm_0))) (nm_c ((by decide : ∀ u ∈ [63, 68], ∀ v ∈ [63, 68], u + 4 ≠ v) _ (mem2 fx1ou) _ (mem2 fx1tp)) (nm_c ((by decide : ∀ u ∈ [63, 68], ∀ v ∈ [63, 68], u + 4 ≠ v + 3) _ (mem2 fx1ou) _ (mem2 fx1tp)) (nm_c (fun z => (fun z => hne (by omega)) z.symm) nm_0)))
      have nx7 := (es1.b.2 hNA).1
      have sv8 := SV.fr sv7 hs1.1 nx7 (na_tp fx1ou) es8 (nm_c (dq_96 _ (mem2 fx1ou) _ (mem2 fx1tp)) nm_0) (nm_c (fun z => (fun z => hne (by omega)) z.symm) nm_0) (nm_c (dq_101 _ (mem2 fx1ou) _ (mem2 fx1tp)) nm_0) (nm_c (dq_102 _ (mem2 fx1ou) _ (mem2 fx1tp)) nm_0)
      have nx8 := (es8.b.2 nx7).1
      have sv9 := SV.fr sv8 hs8.1 nx8 (na_tp fx1ou) es9 (nm_c (dq_95 _ (mem2 fx1ou)) nm_0) (nm_c (dq_94 _ (mem2 fx1ou)) nm_0) (nm_c (dq_99 _ (mem2 fx1ou)) nm_0) (nm_c (dq_100 _ (mem2 fx1ou)) nm_0)
      have nx9 := (es9.b.2 nx8).1
      exact sv9
    have kr1 : KPR [59, 61] σ _ := KPR.fr KPR.rf es1 hNA (fun r9 hr9 => ⟨dq_103 _ hr9, (nm_c ((by decide : ∀ u ∈ [59, 61], ∀ v ∈ [63, 68], u ≠ v) _ hr9 _ (mem2 fx1tp)) (nm_c ((by decide : ∀ u ∈ [59, 61], ∀ v ∈ [63, 68], u ≠ v + 3) _ hr9 _ (mem2 fx1tp)) (nm_c ((by decide : ∀ u ∈ [59, 61], ∀ v ∈ [63, 68], u ≠ v + 4) _ hr9 _ (mem2 fx1tp)) nm_0)))⟩)
    have ny1 := (es1.b.2 hNA).1
    have kr2 : KPR [59, 61] σ _ := KPR.fr kr1 es8 ny1 (fun r9 hr9 => ⟨dq_103 _ hr9, (nm_c ((by decide : ∀ u ∈ [59, 61], ∀ v ∈ [63, 68], u ≠ v + 1) _ hr9 _ (mem2 fx1tp)) nm_0)⟩)
    have ny2 := (es8.b.2 ny1).1
    have kr3 : KPR [59, 61] σ _ := KPR.fr kr2 es9 ny2 (fun r9 hr9 => ⟨dq_103 _ hr9, (nm_c (dq_104 _ hr9) nm_0)⟩)
    have ny3 := (es9.b.2 ny2).1
    exact TX.throw (Nat.ble_eq_true_of_le (by omega)) rfl rfl (QX_r (by decide) gs9 ⟨tz3, (by rw [t0]; omega), tq2, kpo1, tq2k, kr3⟩)

set_option maxRecDepth 10000 in
set_option maxHeartbeats 4000000 in
theorem s_N_zmount {ξ : Nat → Option (Nat × List Int32)} (hX : XT ξ) (d : Nat) (g : Int → Int) (f : Int) (b : Nat) (x : Int) (σ : qH) (hK : K σ)  (hbM : b ∈ ArM) (h255 : ∀ k, 0 ≤ g k ∧ g k ≤ 255) (hNA : NA σ) (hO : OUX σ g f) (hE : STG σ 0 b) (hms : MSD σ) (hf1 : CD σ 31 fixA 288) (hf2 : CD σ 35 (fun _ => 5) 32) (rx : -2147483648 ≤ x ∧ x ≤ 2147483647) : TX ξ (d + 8) j_N_mount 0 (lv_args 0 [.ref 16, J x]) [] σ (QE [17, 18, 20, 21, 22, 24, 25, 26, 28, 29, 30, b, b + 1, b + 3, b + 4, 16, 73, 74] [0, 1, 2] σ (fun e s => nsx s = nsx σ ∧ nMo s = nMo σ ∧ nSg s = nSg σ ∧ NOM σ g f x e ∧ nsk s = nsk σ) (fun v σ' => ∃ z : Int, v = some (J z) ∧ Fr [17, 18, 20, 21, 22, 24, 25, 26, 28, 29, 30, b, b + 1, b + 3, b + 4, 16, 73, 74] σ σ' ∧ -2147483648 ≤ z ∧ z ≤ 2147483647 ∧ afld σ 16 11 = 1 ∧ 0 ≤ x ∧ x < NEf g f ∧ afld σ 16 14 < 6 ∧ z = afld σ 16 14 + 1 ∧ afld σ' 16 14 = afld σ 16 14 + 1 ∧ nMo σ' = (nMo σ).set (afld σ 16 14).toNat (some b) ∧ nSg σ' = (nSg σ).set 0 ((nMo σ).getD (afld σ 16 14).toNat none) ∧ (nfi 9 σ' = nfi 9 σ ∧ nfi 10 σ' = nfi 10 σ ∧ nfi 11 σ' = nfi 11 σ ∧ nfi 12 σ' = nfi 12 σ ∧ nfi 13 σ' = nfi 13 σ) ∧ STM σ' b g f x ∧ nsk σ' = nsk σ)) := by
  have hX0 := hX
  obtain ⟨⟨X1, hX1, lX1⟩, ⟨X2, hX2, lX2⟩, ⟨X3, hX3, lX3⟩, ⟨X4, hX4, lX4⟩, ⟨X5, hX5, lX5⟩, ⟨X6, hX6, lX6⟩⟩ := hX
  have lY1 : X1.length = 19 := by rw [lX1]; rfl
  have lY2 : X2.length = 29 := by rw [lX2]; rfl
  have lY3 : X3.length = 29 := by rw [lX3]; rfl
  have lY4 : X4.length = 30 := by rw [lX4]; rfl
  have lY5 : X5.length = 30 := by rw [lX5]; rfl
  have lY6 : X6.length = 16 := by rw [lX6]; rfl
  obtain ⟨kex1, scx1, tpx1, oux1, mox1, sgx1, hox1, mcx1, lfx1, lpx1, hNx1, fx1ke, fx1sc, fx1tp, fx1ou, fx1mo, fx1sg, fx1d, fx1e, fx1f, fx1g, fx1h, fx1i, fx1j⟩ := hK.na
  obtain ⟨lx2, hix2, elx2, emx2⟩ := hK.refs (na_mo fx1mo).1
  obtain ⟨lx3, hix3, elx3, emx3⟩ := hK.refs (na_mo fx1sg).1
  have n12 : nfi 12 σ = some (.ref mox1) := (nfi_of hNx1).trans rfl
  have n13 : nfi 13 σ = some (.ref sgx1) := (nfi_of hNx1).trans rfl
  have m12 := nMo_of n12 hix2
  have m13 := nSg_of n13 hix3
  have hmq := hms _ _ n12 n13
  have h11 := af_of (i := 11) hNx1 rfl (by omega)
  have h14 := af_of (i := 14) hNx1 rfl (by omega)
  refine TX.go 1 (fun n9 => (rfl : _ = exx ξ n9 (d + 8) j_N_mount 1 [(0, .ref 16), (1, J x)] [.ref 16] σ)) ?_
  refine TX.get rfl rfl rfl rfl hNx1 rfl ?_
  refine TX.if_eq rfl rfl rfl (by omega) (fun c1 => ?_) (fun c1 => ?_)
  · exact TX.throw (Nat.ble_eq_true_of_le (by omega)) rfl rfl (QE_r (by decide) (Fr.refl hK) ⟨rfl, rfl, rfl, ⟨(fun _ => by omega), (fun q => absurd q (by decide)), (fun q => absurd q (by decide))⟩, rfl⟩)
  · refine TX.go 1 (fun n9 => (rfl : _ = exx ξ n9 (d + 8) j_N_mount 8 [(0, .ref 16), (1, J x)] [.ref 16] σ)) ?_
    refine TX.get rfl rfl rfl rfl hNx1 rfl ?_
    refine TX.go 1 (fun n9 => (rfl : _ = exx ξ n9 (d + 8) j_N_mount 12 [(0, .ref 16), (1, J x)] [J x, .ref oux1] σ)) ?_
    have hO1 : OUT σ g f := hO (by omega)
    have hS := hO1 oux1 ((nfi_of (i := 10) hNx1).trans rfl)
    have hS4 := hS.2.2.2.1
    obtain ⟨ex4, erx4, dix4, bax4, fpx4, hax4, fx4a, fx4b, fx4c, fx4d, fx4e, fx4f, fx4g, fx4h, fx4i, fx4j⟩ := hK.arc (na_tp fx1ou)
    have af3x4 := af_of (i := 3) hax4 rfl (by omega)
    subst af3x4
    have af4x4 := af_of (i := 4) hax4 rfl (by omega)
    subst af4x4
    have af5x4 := af_of (i := 5) hax4 rfl (by omega)
    subst af5x4
    have af6x4 := af_of (i := 6) hax4 rfl (by omega)
    subst af6x4
    have af7x4 := af_of (i := 7) hax4 rfl (by omega)
    subst af7x4
    refine TX.callv (as := [J x]) (r := []) rfl rfl rfl rfl (ArL_lt _ (na_tp fx1ou)).2.2.1 hax4 rfl (s_A_fhasEntry (d + 7) oux1 x σ hK (na_tp fx1ou)  (by omega)) (fun v1 s1 hqs1 => ?_)
    obtain ⟨z1, rfl, esz1, hzz1, hyz1, pz1_0, pz1_1⟩ := hqs1
    rw [esz1]
    refine TX.if_ne rfl rfl rfl (by omega) (fun c2 => ?_) (fun c2 => ?_)
    · refine TX.go 3 (fun n9 => (rfl : _ = exx ξ n9 (d + 8) j_N_mount 31 [(0, .ref 16), (1, J x)] [J x, J 0, .ref 16] σ)) ?_
      refine TX.callv (as := [J 0, J x]) (r := []) rfl rfl rfl rfl rfl hNx1 rfl (s_N_fstageMount hX0 (d + 1) g f b 0 x σ hK  hbM h255 hNA hO1 hE hf1 hf2 (by omega) (by omega) (by omega) (by omega) (by omega) (by omega)) (fun v2 s2 hqs2 => ?_)
      obtain ⟨z2, rfl, hs2, hzz2, hyz2, pz2_0, pz2_1⟩ := hqs2
      have es2 := hs2
      have hs2 := hs2.sub (w' := [17, 18, 20, 21, 22, 24, 25, 26, 28, 29, 30, b, b + 1, b + 3, b + 4, 16, 73, 74]) (List.forall_mem_cons.mpr ⟨(by simp), (List.forall_mem_cons.mpr ⟨(by simp), (List.forall_mem_cons.mpr ⟨(by simp), (List.forall_mem_cons.mpr ⟨(by simp), (List.forall_mem_cons.mpr ⟨(by simp), (List.forall_mem_cons.mpr ⟨(by simp), (List.forall_mem_cons.mpr ⟨(by simp), (List.forall_mem_cons.mpr ⟨(by simp), (List.forall_mem_cons.mpr ⟨(by simp), (List.forall_mem_cons.mpr ⟨(by simp), (List.forall_mem_cons.mpr ⟨(by simp), (List.forall_mem_cons.mpr ⟨(by simp), (List.forall_mem_cons.mpr ⟨(by simp), (List.forall_mem_cons.mpr ⟨(by simp), (List.forall_mem_cons.mpr ⟨(by simp), (fun _ h => by cases h)⟩)⟩)⟩)⟩)⟩)⟩)⟩)⟩)⟩)⟩)⟩)⟩)⟩)⟩)⟩)
      have k1 := es2.b.1 _ _ (nm_c (by decide) (nm_c (by decide) (nm_c (by decide) (nm_c (by decide) (nm_c (by decide) (nm_c (by decide) (nm_c (by decide) (nm_c (by decide) (nm_c (by decide) (nm_c (by decide) (nm_c (by decide) (nm_c (dq_78 _ hbM) (nm_c (dq_65 _ hbM) (nm_c (dq_79 _ hbM) (nm_c (dq_80 _ hbM) nm_0))))))))))))))) (fun l z => by cases z) hNx1
      have k2 := es2.b.1 _ _ (nm_c (dq_66 _ (mem2 fx1mo)) (nm_c (dq_67 _ (mem2 fx1mo)) (nm_c (dq_68 _ (mem2 fx1mo)) (nm_c (dq_69 _ (mem2 fx1mo)) (nm_c (dq_70 _ (mem2 fx1mo)) (nm_c (dq_71 _ (mem2 fx1mo)) (nm_c (dq_72 _ (mem2 fx1mo)) (nm_c (dq_73 _ (mem2 fx1mo)) (nm_c (dq_74 _ (mem2 fx1mo)) (nm_c (dq_75 _ (mem2 fx1mo)) (nm_c (dq_76 _ (mem2 fx1mo)) (nm_c (dq_81 _ (mem2 fx1mo) _ hbM) (nm_c (dq_77 _ (mem2 fx1mo) _ hbM) (nm_c (dq_82 _ (mem2 fx1mo) _ hbM) (nm_c (dq_83 _ (mem2 fx1mo) _ hbM) nm_0))))))))))))))) (fun l z => by cases z) hix2
      have k3 := es2.b.1 _ _ (nm_c (dq_66 _ (mem2 fx1sg)) (nm_c (dq_67 _ (mem2 fx1sg)) (nm_c (dq_68 _ (mem2 fx1sg)) (nm_c (dq_69 _ (mem2 fx1sg)) (nm_c (dq_70 _ (mem2 fx1sg)) (nm_c (dq_71 _ (mem2 fx1sg)) (nm_c (dq_72 _ (mem2 fx1sg)) (nm_c (dq_73 _ (mem2 fx1sg)) (nm_c (dq_74 _ (mem2 fx1sg)) (nm_c (dq_75 _ (mem2 fx1sg)) (nm_c (dq_76 _ (mem2 fx1sg)) (nm_c (dq_81 _ (mem2 fx1sg) _ hbM) (nm_c (dq_77 _ (mem2 fx1sg) _ hbM) (nm_c (dq_82 _ (mem2 fx1sg) _ hbM) (nm_c (dq_83 _ (mem2 fx1sg) _ hbM) nm_0))))))))))))))) (fun l z => by cases z) hix3
      have k4 := es2.b.1 _ _ (nm_c (dq_105 _ (mem2 fx1ou)) (nm_c (dq_106 _ (mem2 fx1ou)) (nm_c (dq_107 _ (mem2 fx1ou)) (nm_c (dq_108 _ (mem2 fx1ou)) (nm_c (dq_109 _ (mem2 fx1ou)) (nm_c (dq_110 _ (mem2 fx1ou)) (nm_c (dq_111 _ (mem2 fx1ou)) (nm_c (dq_112 _ (mem2 fx1ou)) (nm_c (dq_113 _ (mem2 fx1ou)) (nm_c (dq_114 _ (mem2 fx1ou)) (nm_c (dq_115 _ (mem2 fx1ou)) (nm_c (dq_116 _ (mem2 fx1ou) _ hbM) (nm_c (dq_117 _ (mem2 fx1ou) _ hbM) (nm_c (dq_118 _ (mem2 fx1ou) _ hbM) (nm_c (dq_119 _ (mem2 fx1ou) _ hbM) nm_0))))))))))))))) (fun l z => by cases z) hax4
      refine TX.go 2 (fun n9 => (rfl : _ = exx ξ n9 (d + 8) j_N_mount 36 [(0, .ref 16), (1, J x), (2, J z2)] [J z2] s2)) ?_
      refine TX.if_eq rfl rfl rfl (by omega) (fun c3 => ?_) (fun c3 => ?_)
      · refine TX.go 1 (fun n9 => (rfl : _ = exx ξ n9 (d + 8) j_N_mount 74 [(0, .ref 16), (1, J x), (2, J z2)] [.ref 16] s2)) ?_
        refine TX.get rfl rfl rfl rfl k1 rfl ?_
        refine TX.go 1 (fun n9 => (rfl : _ = exx ξ n9 (d + 8) j_N_mount 79 [(0, .ref 16), (1, J x), (2, J z2)] [J 6, J mcx1] s2)) ?_
        refine TX.icmp_lt rfl rfl rfl (by omega) (by omega) (fun c4 => ?_) (fun c4 => ?_)
        · refine TX.go 1 (fun n9 => (rfl : _ = exx ξ n9 (d + 8) j_N_mount 93 [(0, .ref 16), (1, J x), (2, J z2)] [.ref 16] s2)) ?_
          refine TX.get rfl rfl rfl rfl k1 rfl ?_
          refine TX.go 1 (fun n9 => (rfl : _ = exx ξ n9 (d + 8) j_N_mount 97 [(0, .ref 16), (1, J x), (2, J z2)] [J 0, .ref sgx1] s2)) ?_
          have ge63 : lx3.getD (0 : Int).toNat none = some b := by have q := hE _ n13; rw [rls_of hix3] at q; exact q
          refine TX.aald rfl rfl k3 (by omega) ge63 ?_
          refine TX.go 2 (fun n9 => (rfl : _ = exx ξ n9 (d + 8) j_N_mount 100 [(0, .ref 16), (1, J x), (2, J z2), (3, .ref b)] [.ref 16] s2)) ?_
          refine TX.get rfl rfl rfl rfl k1 rfl ?_
          refine TX.go 2 (fun n9 => (rfl : _ = exx ξ n9 (d + 8) j_N_mount 105 [(0, .ref 16), (1, J x), (2, J z2), (3, .ref b)] [.ref 16, J 0, .ref sgx1] s2)) ?_
          refine TX.get rfl rfl rfl rfl k1 rfl ?_
          refine TX.go 1 (fun n9 => (rfl : _ = exx ξ n9 (d + 8) j_N_mount 109 [(0, .ref 16), (1, J x), (2, J z2), (3, .ref b)] [.ref 16, .ref mox1, J 0, .ref sgx1] s2)) ?_
          refine TX.get rfl rfl rfl rfl k1 rfl ?_
          obtain ⟨a3, hga3, hha3⟩ := em_at (x := mcx1) emx2 (by omega)
          refine TX.aald rfl rfl k2 (by omega) hga3 ?_
          obtain ⟨ex5, erx5, dix5, bax5, fpx5, hax5, fx5a, fx5b, fx5c, fx5d, fx5e, fx5f, fx5g, fx5h, fx5i, fx5j⟩ := hs2.1.arc (ArM_L hha3)
          have af3x5 := af_of (i := 3) hax5 rfl (by omega)
          subst af3x5
          have af4x5 := af_of (i := 4) hax5 rfl (by omega)
          subst af4x5
          have af5x5 := af_of (i := 5) hax5 rfl (by omega)
          subst af5x5
          have af6x5 := af_of (i := 6) hax5 rfl (by omega)
          subst af6x5
          have af7x5 := af_of (i := 7) hax5 rfl (by omega)
          subst af7x5
          refine TX.aastF (w := [16, 73, 74]) rfl rfl hs2.1 hax5 k3 emx3 (by omega) hha3 (na_mo fx1sg).2.1 (Or.inl (na_mo fx1sg).2.2) (dq_120 _ (mem2 fx1sg)) (fun s3 hs3 hcs3 hos3 => ?_)
          have ess3 := hs3
          have hs3 := hs3.sub (w' := [17, 18, 20, 21, 22, 24, 25, 26, 28, 29, 30, b, b + 1, b + 3, b + 4, 16, 73, 74]) (List.forall_mem_cons.mpr ⟨(by simp), (List.forall_mem_cons.mpr ⟨(by simp), (List.forall_mem_cons.mpr ⟨(by simp), (fun _ h => by cases h)⟩)⟩)⟩)
          have els3 := List.length_set (as := lx3) (i := (0 : Int).toNat) (a := some a3)
          have ems3 : ∀ y ∈ lx3.set (0 : Int).toNat (some a3), ∃ a : Nat, y = some a ∧ a ∈ ArM := hs3.1.2 _ _ hcs3
          have gs3 := hs2.trans hs3
          have k5 := hos3 (dq_121 _ (mem2 fx1sg)) k1
          have k6 := hos3 hmq k2
          have k7 := hos3 (dq_122 _ (mem2 fx1ou) _ (mem2 fx1sg)) k4
          have k8 := hos3 (dq_123 _ hha3 _ (mem2 fx1sg)) hax5
          refine TX.go 1 (fun n9 => (rfl : _ = exx ξ n9 (d + 8) j_N_mount 115 [(0, .ref 16), (1, J x), (2, J z2), (3, .ref b)] [.ref 16] s3)) ?_
          refine TX.get rfl rfl rfl rfl k5 rfl ?_
          refine TX.go 1 (fun n9 => (rfl : _ = exx ξ n9 (d + 8) j_N_mount 119 [(0, .ref 16), (1, J x), (2, J z2), (3, .ref b)] [.ref 16, .ref mox1] s3)) ?_
          refine TX.get rfl rfl rfl rfl k5 rfl ?_
          refine TX.go 1 (fun n9 => (rfl : _ = exx ξ n9 (d + 8) j_N_mount 123 [(0, .ref 16), (1, J x), (2, J z2), (3, .ref b)] [.ref b, J mcx1, .ref mox1] s3)) ?_
          obtain ⟨ex6, erx6, dix6, bax6, fpx6, hax6, fx6a, fx6b, fx6c, fx6d, fx6e, fx6f, fx6g, fx6h, fx6i, fx6j⟩ := hs3.1.arc (ArM_L hbM)
          have af3x6 := af_of (i := 3) hax6 rfl (by omega)
          subst af3x6
          have af4x6 := af_of (i := 4) hax6 rfl (by omega)
          subst af4x6
          have af5x6 := af_of (i := 5) hax6 rfl (by omega)
          subst af5x6
          have af6x6 := af_of (i := 6) hax6 rfl (by omega)
          subst af6x6
          have af7x6 := af_of (i := 7) hax6 rfl (by omega)
          subst af7x6
          refine TX.aastF (w := [16, 73, 74]) rfl rfl hs3.1 hax6 k6 emx2 (by omega) hbM (na_mo fx1mo).2.1 (Or.inl (na_mo fx1mo).2.2) (dq_120 _ (mem2 fx1mo)) (fun s4 hs4 hcs4 hos4 => ?_)
          have ess4 := hs4
          have hs4 := hs4.sub (w' := [17, 18, 20, 21, 22, 24, 25, 26, 28, 29, 30, b, b + 1, b + 3, b + 4, 16, 73, 74]) (List.forall_mem_cons.mpr ⟨(by simp), (List.forall_mem_cons.mpr ⟨(by simp), (List.forall_mem_cons.mpr ⟨(by simp), (fun _ h => by cases h)⟩)⟩)⟩)
          have els4 := List.length_set (as := lx2) (i := (mcx1 : Int).toNat) (a := some b)
          have ems4 : ∀ y ∈ lx2.set (mcx1 : Int).toNat (some b), ∃ a : Nat, y = some a ∧ a ∈ ArM := hs4.1.2 _ _ hcs4
          have gs4 := gs3.trans hs4
          have k9 := hos4 (fun z => hmq z.symm) hcs3
          have k10 := hos4 (dq_121 _ (mem2 fx1mo)) k5
          have k11 := hos4 (dq_122 _ (mem2 fx1ou) _ (mem2 fx1mo)) k7
          have k12 := hos4 (dq_123 _ hha3 _ (mem2 fx1mo)) k8
          have k13 := hos4 (dq_123 _ hbM _ (mem2 fx1mo)) hax6
          refine TX.go 2 (fun n9 => (rfl : _ = exx ξ n9 (d + 8) j_N_mount 126 [(0, .ref 16), (1, J x), (2, J z2), (3, .ref b)] [.ref 16, .ref 16] s4)) ?_
          refine TX.get rfl rfl rfl rfl k10 rfl ?_
          refine TX.go 1 (fun n9 => (rfl : _ = exx ξ n9 (d + 8) j_N_mount 130 [(0, .ref 16), (1, J x), (2, J z2), (3, .ref b)] [J 1, J mcx1, .ref 16] s4)) ?_
          refine TX.iadd rfl rfl ?_
          refine TX.putF (w := [16, 73, 74]) rfl rfl rfl k10 rfl rfl rfl (fs' := [.ref 17, .ref 41, .ref 48, .ref 51, .ref 53, .ref 55, .ref 57, .ref kex1, .ref scx1, .ref tpx1, .ref oux1, J hox1, .ref mox1, .ref sgx1, J (mcx1 + 1), J lfx1, J lpx1]) rfl (Fr.other hs4.1 k10 rfl (show okN _ from ⟨_, _, _, _, _, _, _, _, _, _, rfl, by omega⟩) (by decide) (Or.inl (by decide)) (fun _ z => by cases z) (by simp)) (fun s5 hs5 hcs5 hos5 => ?_)
          have ess5 := hs5
          have hs5 := hs5.sub (w' := [17, 18, 20, 21, 22, 24, 25, 26, 28, 29, 30, b, b + 1, b + 3, b + 4, 16, 73, 74]) (List.forall_mem_cons.mpr ⟨(by simp), (List.forall_mem_cons.mpr ⟨(by simp), (List.forall_mem_cons.mpr ⟨(by simp), (fun _ h => by cases h)⟩)⟩)⟩)
          have gs5 := gs4.trans hs5
          have k14 := hos5 (dq_124 _ (mem2 fx1mo)) hcs4
          have k15 := hos5 (dq_124 _ (mem2 fx1sg)) k9
          have k16 := hos5 (dq_95 _ (mem2 fx1ou)) k11
          have k17 := hos5 (dq_125 _ hha3) k12
          have k18 := hos5 (dq_125 _ hbM) k13
          refine TX.go 1 (fun n9 => (rfl : _ = exx ξ n9 (d + 8) j_N_mount 135 [(0, .ref 16), (1, J x), (2, J z2), (3, .ref b)] [.ref 16] s5)) ?_
          refine TX.get rfl rfl rfl rfl hcs5 rfl ?_
          have h14n := af_of (i := 14) hcs5 rfl (by omega)
          obtain ⟨oq, mq, sq⟩ := pz2_0 (by omega)
          exact TX.ireti rfl rfl rfl (QE_l ⟨_, rfl, gs5, by omega, by omega, by omega, by omega, by omega, by omega, by omega, (by omega), ((nMo_of ((nfi_of (i := 12) hcs5).trans rfl) k14).trans (by rw [m12, h14])), ((nSg_of ((nfi_of (i := 13) hcs5).trans rfl) k15).trans (by rw [m12, m13, h14, hga3]; rfl)), ⟨(nfi_of (i := 9) hcs5).trans (nfi_of (i := 9) hNx1).symm, (nfi_of (i := 10) hcs5).trans (nfi_of (i := 10) hNx1).symm, (nfi_of (i := 11) hcs5).trans (nfi_of (i := 11) hNx1).symm, (nfi_of (i := 12) hcs5).trans (nfi_of (i := 12) hNx1).symm, (nfi_of (i := 13) hcs5).trans (nfi_of (i := 13) hNx1).symm⟩, ⟨oq, mq, sq.fr hs2.1 (hs2.b.2 hNA).1 (ArM_L hbM) ((ess3.trans ess4).trans ess5) ((by decide : ∀ v ∈ ArM, v ∉ [16, 73, 74]) _ hbM) ((by decide : ∀ v ∈ ArM, v + 1 ∉ [16, 73, 74]) _ hbM) ((by decide : ∀ v ∈ ArM, v + 3 ∉ [16, 73, 74]) _ hbM) ((by decide : ∀ v ∈ ArM, v + 4 ∉ [16, 73, 74]) _ hbM)⟩, ((nsk_of hcs5).trans (nsk_of hNx1).symm)⟩)
        · have tq1 : nsx s2 = nsx σ := (nsx_of k1).trans (nsx_of hNx1).symm
          exact TX.throw (Nat.ble_eq_true_of_le (by omega)) rfl rfl (QE_r (by decide) hs2 ⟨tq1, (nMo_of ((nsx_12 tq1).trans n12) k2).trans m12.symm, (nSg_of ((nsx_13 tq1).trans n13) k3).trans m13.symm, ⟨(fun q => absurd q (by decide)), (fun q => absurd q (by decide)), (fun _ => ⟨by omega, (by obtain ⟨o9, h9, -⟩ := pz2_0 (by omega); exact ⟨o9, h9⟩), by omega⟩)⟩, ((nsk_of k1).trans (nsk_of hNx1).symm)⟩)
      · refine TX.go 4 (fun n9 => (rfl : _ = exx ξ n9 (d + 8) j_N_mount 44 [(0, .ref 16), (1, J x), (2, J z2)] [J 6, J z2, J z2, .ref 16] s2)) ?_
        refine TX.icmp_lt rfl rfl rfl (by omega) (by omega) (fun c5 => ?_) (fun c5 => ?_)
        · refine TX.go 1 (fun n9 => (rfl : _ = exx ξ n9 (d + 8) j_N_mount 52 [(0, .ref 16), (1, J x), (2, J z2)] [.ref 16, J z2, .ref 16] s2)) ?_
          refine TX.get rfl rfl rfl rfl k1 rfl ?_
          refine TX.go 1 (fun n9 => (rfl : _ = exx ξ n9 (d + 8) j_N_mount 56 [(0, .ref 16), (1, J x), (2, J z2)] [J 0, .ref sgx1, J z2, .ref 16] s2)) ?_
          have ge146 : lx3.getD (0 : Int).toNat none = some b := by have q := hE _ n13; rw [rls_of hix3] at q; exact q
          refine TX.aald rfl rfl k3 (by omega) ge146 ?_
          obtain ⟨ex7, erx7, dix7, bax7, fpx7, hax7, fx7a, fx7b, fx7c, fx7d, fx7e, fx7f, fx7g, fx7h, fx7i, fx7j⟩ := hs2.1.arc (ArM_L hbM)
          have af3x7 := af_of (i := 3) hax7 rfl (by omega)
          subst af3x7
          have af4x7 := af_of (i := 4) hax7 rfl (by omega)
          subst af4x7
          have af5x7 := af_of (i := 5) hax7 rfl (by omega)
          subst af5x7
          have af6x7 := af_of (i := 6) hax7 rfl (by omega)
          subst af6x7
          have af7x7 := af_of (i := 7) hax7 rfl (by omega)
          subst af7x7
          refine TX.get rfl rfl rfl rfl hax7 rfl ?_
          have tq2 : nsx s2 = nsx σ := (nsx_of k1).trans (nsx_of hNx1).symm
          refine TX.callv (as := [J z2, J (afld s2 b 7)]) (r := []) rfl rfl rfl rfl rfl k1 rfl (s_N_enote (d + 7) z2 (afld s2 b 7) s2 hs2.1   (by omega) (by omega)) (fun v3 s6 hqs6 => ?_)
          obtain ⟨rfl, hs6, pz3_0, pz3_1⟩ := hqs6
          have es6 := hs6
          have hs6 := hs6.sub (w' := [17, 18, 20, 21, 22, 24, 25, 26, 28, 29, 30, b, b + 1, b + 3, b + 4, 16, 73, 74]) (List.forall_mem_cons.mpr ⟨(by simp), (fun _ h => by cases h)⟩)
          have k19 := es6.b.1 _ _ (nm_c (dq_124 _ (mem2 fx1mo)) nm_0) (fun l z => by cases z) k2
          have k20 := es6.b.1 _ _ (nm_c (dq_124 _ (mem2 fx1sg)) nm_0) (fun l z => by cases z) k3
          have k21 := es6.b.1 _ _ (nm_c (dq_95 _ (mem2 fx1ou)) nm_0) (fun l z => by cases z) k4
          have k22 := es6.b.1 _ _ (nm_c (dq_125 _ hbM) nm_0) (fun l z => by cases z) hax7
          have gs6 := hs2.trans hs6
          have tq3 := pz3_0.trans tq2
          have tk1 := pz3_1.trans ((nsk_of k1).trans (nsk_of hNx1).symm)
          exact TX.throw (Nat.ble_eq_true_of_le (by omega)) rfl rfl (QE_r (by decide) gs6 ⟨tq3, (nMo_of ((nsx_12 tq3).trans n12) k19).trans m12.symm, (nSg_of ((nsx_13 tq3).trans n13) k20).trans m13.symm, ⟨(fun q => absurd q (by decide)), (fun _ => ⟨by omega, pz2_1 (by omega)⟩), (fun q => absurd q (by decide))⟩, tk1⟩)
        · refine TX.go 2 (fun n9 => (rfl : _ = exx ξ n9 (d + 8) j_N_mount 60 [(0, .ref 16), (1, J x), (2, J z2)] [J x, J z2, .ref 16] s2)) ?_
          have tq4 : nsx s2 = nsx σ := (nsx_of k1).trans (nsx_of hNx1).symm
          refine TX.callv (as := [J z2, J x]) (r := []) rfl rfl rfl rfl rfl k1 rfl (s_N_enote (d + 7) z2 x s2 hs2.1   (by omega) (by omega)) (fun v4 s7 hqs7 => ?_)
          obtain ⟨rfl, hs7, pz4_0, pz4_1⟩ := hqs7
          have es7 := hs7
          have hs7 := hs7.sub (w' := [17, 18, 20, 21, 22, 24, 25, 26, 28, 29, 30, b, b + 1, b + 3, b + 4, 16, 73, 74]) (List.forall_mem_cons.mpr ⟨(by simp), (fun _ h => by cases h)⟩)
          have k23 := es7.b.1 _ _ (nm_c (dq_124 _ (mem2 fx1mo)) nm_0) (fun l z => by cases z) k2
          have k24 := es7.b.1 _ _ (nm_c (dq_124 _ (mem2 fx1sg)) nm_0) (fun l z => by cases z) k3
          have k25 := es7.b.1 _ _ (nm_c (dq_95 _ (mem2 fx1ou)) nm_0) (fun l z => by cases z) k4
          have gs7 := hs2.trans hs7
          have tq5 := pz4_0.trans tq4
          have tk2 := pz4_1.trans ((nsk_of k1).trans (nsk_of hNx1).symm)
          exact TX.throw (Nat.ble_eq_true_of_le (by omega)) rfl rfl (QE_r (by decide) gs7 ⟨tq5, (nMo_of ((nsx_12 tq5).trans n12) k23).trans m12.symm, (nSg_of ((nsx_13 tq5).trans n13) k24).trans m13.symm, ⟨(fun q => absurd q (by decide)), (fun _ => ⟨by omega, pz2_1 (by omega)⟩), (fun q => absurd q (by decide))⟩, tk2⟩)
    · exact TX.throw (Nat.ble_eq_true_of_le (by omega)) rfl rfl (QE_r (by decide) (Fr.refl hK) ⟨rfl, rfl, rfl, ⟨(fun _ => by omega), (fun q => absurd q (by decide)), (fun q => absurd q (by decide))⟩, rfl⟩)

set_option maxRecDepth 10000 in
set_option maxHeartbeats 4000000 in
theorem s_N_zindex {ξ : Nat → Option (Nat × List Int32)} (hX : XT ξ) (d : Nat) (g : Int → Int) (fz : Int) (kex1 scx1 : Nat)  (σ : qH) (hK : K σ)  (h255 : ∀ k, 0 ≤ g k ∧ g k ≤ 255) (hNA : NA σ) (hO : OUX σ g fz) (hND : NDP (nSg σ)) (hi1 : AGR σ 55 ixn) (hi2 : rl σ 55 = 9) (hf1 : CD σ 31 fixA 288) (hf2 : CD σ 35 (fun _ => 5) 32) (hke : nfi 7 σ = some (.ref kex1)) (hsc : nfi 8 σ = some (.ref scx1)) (hks : kex1 ≠ scx1) : TX ξ (d + 8) j_N_index 0 (lv_args 0 [.ref 16]) [] σ (QE WI [0, 2] σ (fun e s => nsx s = nsx σ ∧ KPS (nSg σ) σ s ∧ NIE σ g fz e ∧ nsk s = nsk σ ∧ KPR [kex1] σ s) (fun v σ' => ∃ z : Int, v = some (J z) ∧ Fr WI σ σ' ∧ -2147483648 ≤ z ∧ z ≤ 2147483647 ∧ IDX g fz z ∧ STD σ' (nSg σ) g fz z ∧ afld σ' 16 14 = z ∧ nMo σ' = nSg σ ∧ nSg σ' = nMo σ ∧ nfi 9 σ' = nfi 9 σ ∧ nfi 10 σ' = nfi 10 σ ∧ nfi 11 σ' = nfi 11 σ ∧ nfi 12 σ' = nfi 13 σ ∧ nfi 13 σ' = nfi 12 σ ∧ afld σ 16 11 = 1 ∧ nsk σ' = nsk σ ∧ KPR [kex1] σ σ')) := by
  have hX0 := hX
  obtain ⟨⟨X1, hX1, lX1⟩, ⟨X2, hX2, lX2⟩, ⟨X3, hX3, lX3⟩, ⟨X4, hX4, lX4⟩, ⟨X5, hX5, lX5⟩, ⟨X6, hX6, lX6⟩⟩ := hX
  have lY1 : X1.length = 19 := by rw [lX1]; rfl
  have lY2 : X2.length = 29 := by rw [lX2]; rfl
  have lY3 : X3.length = 29 := by rw [lX3]; rfl
  have lY4 : X4.length = 30 := by rw [lX4]; rfl
  have lY5 : X5.length = 30 := by rw [lX5]; rfl
  have lY6 : X6.length = 16 := by rw [lX6]; rfl
  obtain ⟨key, scy, tpx1, oux1, mox1, sgx1, hox1, mcx1, lfx1, lpx1, hNx1, fx1ke, fx1sc, fx1tp, fx1ou, fx1mo, fx1sg, fx1d, fx1e, fx1f, fx1g, fx1h, fx1i, fx1j⟩ := hK.na
  have ety : kex1 = key := by have q : nfi 7 σ = some (.ref key) := (nfi_of hNx1).trans rfl; rw [hke] at q; cases q; rfl
  subst ety
  have etz : scx1 = scy := by have q : nfi 8 σ = some (.ref scy) := (nfi_of hNx1).trans rfl; rw [hsc] at q; cases q; rfl
  subst etz
  obtain ⟨lx2, hix2, elx2, emx2⟩ := hK.refs (na_mo fx1mo).1
  obtain ⟨lx3, hix3, elx3, emx3⟩ := hK.refs (na_mo fx1sg).1
  have n12 : nfi 12 σ = some (.ref mox1) := (nfi_of hNx1).trans rfl
  have n13 : nfi 13 σ = some (.ref sgx1) := (nfi_of hNx1).trans rfl
  have m12 := nMo_of n12 hix2
  have m13 := nSg_of n13 hix3
  have h11 := af_of (i := 11) hNx1 rfl (by omega)
  rw [m13] at hND
  have loop120 : ∀ (f : Nat) (u1 : Int) (u2 : Int) (k : Int) (τ : qH), Fr WI σ τ → 0 ≤ k → k ≤ 6 → τ[16]? = σ[16]? → IXQ τ scx1 g fz → STD τ lx3 g fz k → KPS lx3 σ τ → afld σ 16 11 = 1 → k ≤ afld τ 48 2 → (-1 ≤ u1 ∧ u1 ≤ 63) → (0 ≤ u2 ∧ u2 ≤ 12) → KPR [kex1] σ τ → (6 - k).toNat < f → TX ξ (d + 8) j_N_index 120 [(0, .ref 16), (1, J u1), (2, J u2), (3, J k)] [] τ (QE WI [0, 2] σ (fun e s => nsx s = nsx σ ∧ KPS (nSg σ) σ s ∧ NIE σ g fz e ∧ nsk s = nsk σ ∧ KPR [kex1] σ s) (fun v σ' => ∃ z : Int, v = some (J z) ∧ Fr WI σ σ' ∧ -2147483648 ≤ z ∧ z ≤ 2147483647 ∧ IDX g fz z ∧ STD σ' (nSg σ) g fz z ∧ afld σ' 16 14 = z ∧ nMo σ' = nSg σ ∧ nSg σ' = nMo σ ∧ nfi 9 σ' = nfi 9 σ ∧ nfi 10 σ' = nfi 10 σ ∧ nfi 11 σ' = nfi 11 σ ∧ nfi 12 σ' = nfi 13 σ ∧ nfi 13 σ' = nfi 12 σ ∧ afld σ 16 11 = 1 ∧ nsk σ' = nsk σ ∧ KPR [kex1] σ σ')) := by
    intro f
    induction f with
    | zero => intro u1 u2 k τ hτ i0 i1 i2 i3 i4 i5 i6 i7 i8 i9 i10 hm; omega
    | succ f ih =>
      intro u1 u2 k τ hτ i0 i1 i2 i3 i4 i5 i6 i7 i8 i9 i10 hm
      have hNt := i2.trans hNx1
      have kr1 := hτ.b.1 _ _ ((by decide : ∀ q ∈ [73, 74], q ∉ WI) _ (mem2 fx1mo)) (fun l z => by cases z) hix2
      have kr2 := hτ.b.1 _ _ ((by decide : ∀ q ∈ [73, 74], q ∉ WI) _ (mem2 fx1sg)) (fun l z => by cases z) hix3
      have nat := (hτ.b.2 hNA).1
      have hO1 : OUT σ g fz := hO (by omega)
      have hS := hO1 oux1 ((nfi_of (i := 10) hNx1).trans rfl)
      have hS4 := hS.2.2.2.1
      have hSt : SV τ oux1 g fz := hS.fr hK hNA (na_tp fx1ou) hτ ((by decide : ∀ q ∈ [63, 68], q + 0 ∉ WI) _ (mem2 fx1ou)) ((by decide : ∀ q ∈ [63, 68], q + 1 ∉ WI) _ (mem2 fx1ou)) ((by decide : ∀ q ∈ [63, 68], q + 3 ∉ WI) _ (mem2 fx1ou)) ((by decide : ∀ q ∈ [63, 68], q + 4 ∉ WI) _ (mem2 fx1ou))
      have hSt4 := hSt.2.2.2.1
      have n10t : nfi 10 τ = some (.ref oux1) := (nfi_of hNt).trans rfl
      have hOt : OUT τ g fz := fun o9 q9 => by rw [n10t] at q9; cases q9; exact hSt
      have f1t := hf1.fr hK (by decide) hτ (by decide) (by decide)
      have f2t := hf2.fr hK (by decide) hτ (by decide) (by decide)
      have n13t : nfi 13 τ = some (.ref sgx1) := (nfi_of hNt).trans rfl
      obtain ⟨nx4, hmx4, fx4a, fx4b⟩ := hτ.1.idx
      obtain ⟨lx5, hix5, elx5⟩ := hτ.1.ints kdX_49
      have ilx5 := il_of hix5
      obtain ⟨lx6, hix6, elx6⟩ := hτ.1.ints kdX_50
      have ilx6 := il_of hix6
      obtain ⟨mx7, nx7, bx7, lx7, hrx7, hbx7, fx7a, fx7b, fx7c, fx7d, fx7e, fx7g, fx7h, fx7i⟩ := hτ.1.row (na_ke fx1sc)
      have ctx7 := CT_of hrx7 hbx7
      have rwx7 := rl_of hrx7 (by omega)
      subst rwx7
      have h48 := af_of (i := 2) hmx4 rfl (by omega)
      obtain ⟨wq, uq, hxu, hfl, hag, hlk⟩ := i3
      rw [hfl] at hlk
      have hl0 := hlk.2.1
      have hl6 := hlk.2.2.1
      refine TX.go 2 (fun n9 => (rfl : _ = exx ξ n9 (d + 8) j_N_index 122 [(0, .ref 16), (1, J u1), (2, J u2), (3, J k)] [.ref 16, J k] τ)) ?_
      refine TX.get rfl rfl rfl rfl hNt rfl ?_
      refine TX.get rfl rfl rfl rfl hmx4 rfl ?_
      refine TX.icmp_ge rfl rfl rfl (by omega) (by omega) (fun c1 => ?_) (fun c1 => ?_)
      · refine TX.go 1 (fun n9 => (rfl : _ = exx ξ n9 (d + 8) j_N_index 211 [(0, .ref 16), (1, J u1), (2, J u2), (3, J k)] [.ref 16] τ)) ?_
        refine TX.get rfl rfl rfl rfl hNt rfl ?_
        refine TX.go 3 (fun n9 => (rfl : _ = exx ξ n9 (d + 8) j_N_index 217 [(0, .ref 16), (1, J u1), (2, J u2), (3, .ref sgx1)] [.ref 16, .ref 16] τ)) ?_
        refine TX.get rfl rfl rfl rfl hNt rfl ?_
        refine TX.putF (w := [16]) rfl rfl rfl hNt rfl rfl rfl (fs' := [.ref 17, .ref 41, .ref 48, .ref 51, .ref 53, .ref 55, .ref 57, .ref kex1, .ref scx1, .ref tpx1, .ref oux1, J hox1, .ref mox1, .ref mox1, J mcx1, J lfx1, J lpx1]) rfl (Fr.other hτ.1 hNt rfl (show okN _ from ⟨_, _, _, _, _, _, _, _, _, _, rfl, by omega⟩) (by decide) (Or.inl (by decide)) (fun _ z => by cases z) (by decide)) (fun s1 hs1 hcs1 hos1 => ?_)
        have ess1 := hs1
        have hs1 := hs1.sub (w' := WI) (by decide)
        have gs1 := hτ.trans hs1
        have k1 := hos1 (dq_124 _ (mem2 fx1mo)) kr1
        have k2 := hos1 (dq_124 _ (mem2 fx1sg)) kr2
        have k3 := hos1 (by decide) hmx4
        have k4 := hos1 (by decide) hix5
        have k5 := hos1 (by decide) hix6
        have k6 := hos1 (dq_104 _ (mem2 fx1sc)) hrx7
        have k7 := hos1 (q_dif hbx7 hNt (fun z => by cases z)) hbx7
        refine TX.go 2 (fun n9 => (rfl : _ = exx ξ n9 (d + 8) j_N_index 225 [(0, .ref 16), (1, J u1), (2, J u2), (3, .ref sgx1)] [.ref sgx1, .ref 16] s1)) ?_
        refine TX.putF (w := [16]) rfl rfl rfl hcs1 rfl rfl rfl (fs' := [.ref 17, .ref 41, .ref 48, .ref 51, .ref 53, .ref 55, .ref 57, .ref kex1, .ref scx1, .ref tpx1, .ref oux1, J hox1, .ref sgx1, .ref mox1, J mcx1, J lfx1, J lpx1]) rfl (Fr.other hs1.1 hcs1 rfl (show okN _ from ⟨_, _, _, _, _, _, _, _, _, _, rfl, by omega⟩) (by decide) (Or.inl (by decide)) (fun _ z => by cases z) (by decide)) (fun s2 hs2 hcs2 hos2 => ?_)
        have ess2 := hs2
        have hs2 := hs2.sub (w' := WI) (by decide)
        have gs2 := gs1.trans hs2
        have k8 := hos2 (dq_124 _ (mem2 fx1mo)) k1
        have k9 := hos2 (dq_124 _ (mem2 fx1sg)) k2
        have k10 := hos2 (by decide) k3
        have k11 := hos2 (by decide) k4
        have k12 := hos2 (by decide) k5
        have k13 := hos2 (dq_104 _ (mem2 fx1sc)) k6
        have k14 := hos2 (q_dif k7 hcs1 (fun z => by cases z)) k7
        refine TX.go 2 (fun n9 => (rfl : _ = exx ξ n9 (d + 8) j_N_index 230 [(0, .ref 16), (1, J u1), (2, J u2), (3, .ref sgx1)] [.ref 16, .ref 16] s2)) ?_
        refine TX.get rfl rfl rfl rfl hcs2 rfl ?_
        refine TX.get rfl rfl rfl rfl k10 rfl ?_
        refine TX.putF (w := [16]) rfl rfl rfl hcs2 rfl rfl rfl (fs' := [.ref 17, .ref 41, .ref 48, .ref 51, .ref 53, .ref 55, .ref 57, .ref kex1, .ref scx1, .ref tpx1, .ref oux1, J hox1, .ref sgx1, .ref mox1, J nx4, J lfx1, J lpx1]) rfl (Fr.other hs2.1 hcs2 rfl (show okN _ from ⟨_, _, _, _, _, _, _, _, _, _, rfl, by omega⟩) (by decide) (Or.inl (by decide)) (fun _ z => by cases z) (by decide)) (fun s3 hs3 hcs3 hos3 => ?_)
        have ess3 := hs3
        have hs3 := hs3.sub (w' := WI) (by decide)
        have gs3 := gs2.trans hs3
        have k15 := hos3 (dq_124 _ (mem2 fx1mo)) k8
        have k16 := hos3 (dq_124 _ (mem2 fx1sg)) k9
        have k17 := hos3 (by decide) k10
        have k18 := hos3 (by decide) k11
        have k19 := hos3 (by decide) k12
        have k20 := hos3 (dq_104 _ (mem2 fx1sc)) k13
        have k21 := hos3 (q_dif k14 hcs2 (fun z => by cases z)) k14
        refine TX.go 1 (fun n9 => (rfl : _ = exx ξ n9 (d + 8) j_N_index 240 [(0, .ref 16), (1, J u1), (2, J u2), (3, .ref sgx1)] [.ref 16] s3)) ?_
        refine TX.get rfl rfl rfl rfl hcs3 rfl ?_
        have kq9 : k = nx4 := by omega
        have sd9 := i4
        rw [kq9] at sd9
        have fj9 := ((ess1.trans ess2).trans ess3).sub (w' := WJ) (by decide)
        have hm9 := hlk.1
        rw [h48] at hm9
        have h14n := af_of (i := 14) hcs3 rfl (by omega)
        exact TX.ireti rfl rfl rfl (QE_l ⟨_, rfl, gs3, by omega, by omega, (IDX_mk hxu (by omega) (by omega) hm9 sd9), (by rw [m13]; exact STD_J sd9 fj9 hτ.1 nat), (by omega), ((nMo_of ((nfi_of (i := 12) hcs3).trans rfl) k16).trans m13.symm), ((nSg_of ((nfi_of (i := 13) hcs3).trans rfl) k15).trans m12.symm), ((nfi_of (i := 9) hcs3).trans (nfi_of (i := 9) hNx1).symm), ((nfi_of (i := 10) hcs3).trans (nfi_of (i := 10) hNx1).symm), ((nfi_of (i := 11) hcs3).trans (nfi_of (i := 11) hNx1).symm), ((nfi_of (i := 12) hcs3).trans (nfi_of (i := 13) hNx1).symm), ((nfi_of (i := 13) hcs3).trans (nfi_of (i := 12) hNx1).symm), by omega, ((nsk_of hcs3).trans (nsk_of hNx1).symm), (KPR.fr i10 ((ess1.trans ess2).trans ess3) nat (KPR_1 (na_ke fx1ke) (nm_c (dq_104 _ (mem2 fx1ke)) nm_0)))⟩)
      · refine TX.go 2 (fun n9 => (rfl : _ = exx ξ n9 (d + 8) j_N_index 134 [(0, .ref 16), (1, J u1), (2, J u2), (3, J k)] [J 6, J k] τ)) ?_
        refine TX.icmp_ge rfl rfl rfl (by omega) (by omega) (fun c2 => ?_) (fun c2 => ?_)
        · refine TX.go 1 (fun n9 => (rfl : _ = exx ξ n9 (d + 8) j_N_index 211 [(0, .ref 16), (1, J u1), (2, J u2), (3, J k)] [.ref 16] τ)) ?_
          refine TX.get rfl rfl rfl rfl hNt rfl ?_
          refine TX.go 3 (fun n9 => (rfl : _ = exx ξ n9 (d + 8) j_N_index 217 [(0, .ref 16), (1, J u1), (2, J u2), (3, .ref sgx1)] [.ref 16, .ref 16] τ)) ?_
          refine TX.get rfl rfl rfl rfl hNt rfl ?_
          refine TX.putF (w := [16]) rfl rfl rfl hNt rfl rfl rfl (fs' := [.ref 17, .ref 41, .ref 48, .ref 51, .ref 53, .ref 55, .ref 57, .ref kex1, .ref scx1, .ref tpx1, .ref oux1, J hox1, .ref mox1, .ref mox1, J mcx1, J lfx1, J lpx1]) rfl (Fr.other hτ.1 hNt rfl (show okN _ from ⟨_, _, _, _, _, _, _, _, _, _, rfl, by omega⟩) (by decide) (Or.inl (by decide)) (fun _ z => by cases z) (by decide)) (fun s4 hs4 hcs4 hos4 => ?_)
          have ess4 := hs4
          have hs4 := hs4.sub (w' := WI) (by decide)
          have gs4 := hτ.trans hs4
          have k22 := hos4 (dq_124 _ (mem2 fx1mo)) kr1
          have k23 := hos4 (dq_124 _ (mem2 fx1sg)) kr2
          have k24 := hos4 (by decide) hmx4
          have k25 := hos4 (by decide) hix5
          have k26 := hos4 (by decide) hix6
          have k27 := hos4 (dq_104 _ (mem2 fx1sc)) hrx7
          have k28 := hos4 (q_dif hbx7 hNt (fun z => by cases z)) hbx7
          refine TX.go 2 (fun n9 => (rfl : _ = exx ξ n9 (d + 8) j_N_index 225 [(0, .ref 16), (1, J u1), (2, J u2), (3, .ref sgx1)] [.ref sgx1, .ref 16] s4)) ?_
          refine TX.putF (w := [16]) rfl rfl rfl hcs4 rfl rfl rfl (fs' := [.ref 17, .ref 41, .ref 48, .ref 51, .ref 53, .ref 55, .ref 57, .ref kex1, .ref scx1, .ref tpx1, .ref oux1, J hox1, .ref sgx1, .ref mox1, J mcx1, J lfx1, J lpx1]) rfl (Fr.other hs4.1 hcs4 rfl (show okN _ from ⟨_, _, _, _, _, _, _, _, _, _, rfl, by omega⟩) (by decide) (Or.inl (by decide)) (fun _ z => by cases z) (by decide)) (fun s5 hs5 hcs5 hos5 => ?_)
          have ess5 := hs5
          have hs5 := hs5.sub (w' := WI) (by decide)
          have gs5 := gs4.trans hs5
          have k29 := hos5 (dq_124 _ (mem2 fx1mo)) k22
          have k30 := hos5 (dq_124 _ (mem2 fx1sg)) k23
          have k31 := hos5 (by decide) k24
          have k32 := hos5 (by decide) k25
          have k33 := hos5 (by decide) k26
          have k34 := hos5 (dq_104 _ (mem2 fx1sc)) k27
          have k35 := hos5 (q_dif k28 hcs4 (fun z => by cases z)) k28
          refine TX.go 2 (fun n9 => (rfl : _ = exx ξ n9 (d + 8) j_N_index 230 [(0, .ref 16), (1, J u1), (2, J u2), (3, .ref sgx1)] [.ref 16, .ref 16] s5)) ?_
          refine TX.get rfl rfl rfl rfl hcs5 rfl ?_
          refine TX.get rfl rfl rfl rfl k31 rfl ?_
          refine TX.putF (w := [16]) rfl rfl rfl hcs5 rfl rfl rfl (fs' := [.ref 17, .ref 41, .ref 48, .ref 51, .ref 53, .ref 55, .ref 57, .ref kex1, .ref scx1, .ref tpx1, .ref oux1, J hox1, .ref sgx1, .ref mox1, J nx4, J lfx1, J lpx1]) rfl (Fr.other hs5.1 hcs5 rfl (show okN _ from ⟨_, _, _, _, _, _, _, _, _, _, rfl, by omega⟩) (by decide) (Or.inl (by decide)) (fun _ z => by cases z) (by decide)) (fun s6 hs6 hcs6 hos6 => ?_)
          have ess6 := hs6
          have hs6 := hs6.sub (w' := WI) (by decide)
          have gs6 := gs5.trans hs6
          have k36 := hos6 (dq_124 _ (mem2 fx1mo)) k29
          have k37 := hos6 (dq_124 _ (mem2 fx1sg)) k30
          have k38 := hos6 (by decide) k31
          have k39 := hos6 (by decide) k32
          have k40 := hos6 (by decide) k33
          have k41 := hos6 (dq_104 _ (mem2 fx1sc)) k34
          have k42 := hos6 (q_dif k35 hcs5 (fun z => by cases z)) k35
          refine TX.go 1 (fun n9 => (rfl : _ = exx ξ n9 (d + 8) j_N_index 240 [(0, .ref 16), (1, J u1), (2, J u2), (3, .ref sgx1)] [.ref 16] s6)) ?_
          refine TX.get rfl rfl rfl rfl hcs6 rfl ?_
          have kq9 : k = nx4 := by omega
          have sd9 := i4
          rw [kq9] at sd9
          have fj9 := ((ess4.trans ess5).trans ess6).sub (w' := WJ) (by decide)
          have hm9 := hlk.1
          rw [h48] at hm9
          have h14n := af_of (i := 14) hcs6 rfl (by omega)
          exact TX.ireti rfl rfl rfl (QE_l ⟨_, rfl, gs6, by omega, by omega, (IDX_mk hxu (by omega) (by omega) hm9 sd9), (by rw [m13]; exact STD_J sd9 fj9 hτ.1 nat), (by omega), ((nMo_of ((nfi_of (i := 12) hcs6).trans rfl) k37).trans m13.symm), ((nSg_of ((nfi_of (i := 13) hcs6).trans rfl) k36).trans m12.symm), ((nfi_of (i := 9) hcs6).trans (nfi_of (i := 9) hNx1).symm), ((nfi_of (i := 10) hcs6).trans (nfi_of (i := 10) hNx1).symm), ((nfi_of (i := 11) hcs6).trans (nfi_of (i := 11) hNx1).symm), ((nfi_of (i := 12) hcs6).trans (nfi_of (i := 13) hNx1).symm), ((nfi_of (i := 13) hcs6).trans (nfi_of (i := 12) hNx1).symm), by omega, ((nsk_of hcs6).trans (nsk_of hNx1).symm), (KPR.fr i10 ((ess4.trans ess5).trans ess6) nat (KPR_1 (na_ke fx1ke) (nm_c (dq_104 _ (mem2 fx1ke)) nm_0)))⟩)
        · refine TX.go 1 (fun n9 => (rfl : _ = exx ξ n9 (d + 8) j_N_index 138 [(0, .ref 16), (1, J u1), (2, J u2), (3, J k)] [.ref 16] τ)) ?_
          refine TX.get rfl rfl rfl rfl hNt rfl ?_
          refine TX.go 1 (fun n9 => (rfl : _ = exx ξ n9 (d + 8) j_N_index 142 [(0, .ref 16), (1, J u1), (2, J u2), (3, J k)] [.ref 16, .ref oux1] τ)) ?_
          refine TX.get rfl rfl rfl rfl hNt rfl ?_
          refine TX.go 1 (fun n9 => (rfl : _ = exx ξ n9 (d + 8) j_N_index 146 [(0, .ref 16), (1, J u1), (2, J u2), (3, J k)] [.ref 16, .ref scx1, .ref oux1] τ)) ?_
          refine TX.get rfl rfl rfl rfl hNt rfl ?_
          refine TX.get rfl rfl rfl rfl hmx4 rfl ?_
          refine TX.go 1 (fun n9 => (rfl : _ = exx ξ n9 (d + 8) j_N_index 153 [(0, .ref 16), (1, J u1), (2, J u2), (3, J k)] [J k, .ref 49, .ref scx1, .ref oux1] τ)) ?_
          refine TX.iald rfl rfl rfl hix5 (by omega) (fun z1 hzz1 hyz1 hez1 => ?_)
          have glz1 : gl (il τ 49) k = z1 := by rw [ilx5]; exact gl_of hez1 ⟨hzz1, hyz1⟩
          subst glz1
          refine TX.go 1 (fun n9 => (rfl : _ = exx ξ n9 (d + 8) j_N_index 155 [(0, .ref 16), (1, J u1), (2, J u2), (3, J k)] [.ref 16, J (gl (il τ 49) k), .ref scx1, .ref oux1] τ)) ?_
          refine TX.get rfl rfl rfl rfl hNt rfl ?_
          refine TX.get rfl rfl rfl rfl hmx4 rfl ?_
          refine TX.go 1 (fun n9 => (rfl : _ = exx ξ n9 (d + 8) j_N_index 162 [(0, .ref 16), (1, J u1), (2, J u2), (3, J k)] [J k, .ref 50, J (gl (il τ 49) k), .ref scx1, .ref oux1] τ)) ?_
          refine TX.iald rfl rfl rfl hix6 (by omega) (fun z2 hzz2 hyz2 hez2 => ?_)
          have glz2 : gl (il τ 50) k = z2 := by rw [ilx6]; exact gl_of hez2 ⟨hzz2, hyz2⟩
          subst glz2
          obtain ⟨aq, nq, la, le, e1, e2⟩ := hlk.2.2.2 k i0 (by omega)
          have l1 := le.1
          have l2 := le.2.1
          have l0 := LNA_r (by omega) la
          obtain ⟨ex8, erx8, dix8, bax8, fpx8, hax8, fx8a, fx8b, fx8c, fx8d, fx8e, fx8f, fx8g, fx8h, fx8i, fx8j⟩ := hτ.1.arc (na_tp fx1ou)
          have af3x8 := af_of (i := 3) hax8 rfl (by omega)
          subst af3x8
          have af4x8 := af_of (i := 4) hax8 rfl (by omega)
          subst af4x8
          have af5x8 := af_of (i := 5) hax8 rfl (by omega)
          subst af5x8
          have af6x8 := af_of (i := 6) hax8 rfl (by omega)
          subst af6x8
          have af7x8 := af_of (i := 7) hax8 rfl (by omega)
          subst af7x8
          refine TX.callv (as := [.ref scx1, J (gl (il τ 49) k), J (gl (il τ 50) k)]) (r := []) rfl rfl rfl rfl (ArL_lt _ (na_tp fx1ou)).2.2.1 hax8 rfl (s_A_flookUp (d + 6) g uq oux1 scx1 (gl (il τ 49) k) (gl (il τ 50) k) τ hτ.1 (na_tp fx1ou) (na_ke fx1sc) h255 hSt.2.1 hag (SV_hc h255 hSt) (by omega) (by omega) (by omega) (by omega) (by omega)) (fun v1 s7 hqs7 => ?_)
          obtain ⟨z3, rfl, esz3, hzz3, hyz3, pz3_0⟩ := hqs7
          rw [esz3]
          have lk2 := SV_lk (u := uq) (s := gl (il τ 49) k) (n := gl (il τ 50) k) h255 hSt
          rw [← pz3_0, e1, e2] at lk2
          refine TX.go 3 (fun n9 => (rfl : _ = exx ξ n9 (d + 8) j_N_index 169 [(0, .ref 16), (1, J z3), (2, J u2), (3, J k)] [J (-1), J z3] τ)) ?_
          refine TX.icmp_ne rfl rfl rfl (by omega) (by omega) (fun c3 => ?_) (fun c3 => ?_)
          · refine TX.go 3 (fun n9 => (rfl : _ = exx ξ n9 (d + 8) j_N_index 180 [(0, .ref 16), (1, J z3), (2, J u2), (3, J k)] [J z3, J k, .ref 16] τ)) ?_
            obtain ⟨b, gb, hbM⟩ := em_at (x := k) emx3 (by omega)
            have nmk := lk2.1 (by omega)
            have nm2 := nmk.1
            have nm3 := nmk.2.1
            have ixe : IXE g fz k z3 := ⟨wq, uq, aq, nq, hxu, la, le, nmk⟩
            refine TX.callv (as := [J k, J z3]) (r := []) rfl rfl rfl rfl rfl hNt rfl (s_N_fstageMount hX0 (d + 1) g fz b k z3 τ hτ.1  hbM h255 nat hOt (STG_of n13t kr2 gb) f1t f2t (by omega) (by omega) (by omega) (by omega) (by omega) (by omega)) (fun v2 s8 hqs8 => ?_)
            obtain ⟨z4, rfl, hs8, hzz4, hyz4, pz4_0, pz4_1⟩ := hqs8
            have es8 := hs8
            have hs8 := hs8.sub (w' := WI) (List.forall_mem_cons.mpr ⟨(by decide), (List.forall_mem_cons.mpr ⟨(by decide), (List.forall_mem_cons.mpr ⟨(by decide), (List.forall_mem_cons.mpr ⟨(by decide), (List.forall_mem_cons.mpr ⟨(by decide), (List.forall_mem_cons.mpr ⟨(by decide), (List.forall_mem_cons.mpr ⟨(by decide), (List.forall_mem_cons.mpr ⟨(by decide), (List.forall_mem_cons.mpr ⟨(by decide), (List.forall_mem_cons.mpr ⟨(by decide), (List.forall_mem_cons.mpr ⟨(by decide), (List.forall_mem_cons.mpr ⟨((by decide : ∀ q ∈ ArM, q ∈ WI) _ hbM), (List.forall_mem_cons.mpr ⟨((by decide : ∀ q ∈ ArM, q + 1 ∈ WI) _ hbM), (List.forall_mem_cons.mpr ⟨((by decide : ∀ q ∈ ArM, q + 3 ∈ WI) _ hbM), (List.forall_mem_cons.mpr ⟨((by decide : ∀ q ∈ ArM, q + 4 ∈ WI) _ hbM), (fun _ h => by cases h)⟩)⟩)⟩)⟩)⟩)⟩)⟩)⟩)⟩)⟩)⟩)⟩)⟩)⟩)⟩)
            have k43 := es8.b.1 _ _ (nm_c (by decide) (nm_c (by decide) (nm_c (by decide) (nm_c (by decide) (nm_c (by decide) (nm_c (by decide) (nm_c (by decide) (nm_c (by decide) (nm_c (by decide) (nm_c (by decide) (nm_c (by decide) (nm_c (dq_78 _ hbM) (nm_c (dq_65 _ hbM) (nm_c (dq_79 _ hbM) (nm_c (dq_80 _ hbM) nm_0))))))))))))))) (fun l z => by cases z) hNt
            have k44 := es8.b.1 _ _ (nm_c (dq_66 _ (mem2 fx1mo)) (nm_c (dq_67 _ (mem2 fx1mo)) (nm_c (dq_68 _ (mem2 fx1mo)) (nm_c (dq_69 _ (mem2 fx1mo)) (nm_c (dq_70 _ (mem2 fx1mo)) (nm_c (dq_71 _ (mem2 fx1mo)) (nm_c (dq_72 _ (mem2 fx1mo)) (nm_c (dq_73 _ (mem2 fx1mo)) (nm_c (dq_74 _ (mem2 fx1mo)) (nm_c (dq_75 _ (mem2 fx1mo)) (nm_c (dq_76 _ (mem2 fx1mo)) (nm_c (dq_81 _ (mem2 fx1mo) _ hbM) (nm_c (dq_77 _ (mem2 fx1mo) _ hbM) (nm_c (dq_82 _ (mem2 fx1mo) _ hbM) (nm_c (dq_83 _ (mem2 fx1mo) _ hbM) nm_0))))))))))))))) (fun l z => by cases z) kr1
            have k45 := es8.b.1 _ _ (nm_c (dq_66 _ (mem2 fx1sg)) (nm_c (dq_67 _ (mem2 fx1sg)) (nm_c (dq_68 _ (mem2 fx1sg)) (nm_c (dq_69 _ (mem2 fx1sg)) (nm_c (dq_70 _ (mem2 fx1sg)) (nm_c (dq_71 _ (mem2 fx1sg)) (nm_c (dq_72 _ (mem2 fx1sg)) (nm_c (dq_73 _ (mem2 fx1sg)) (nm_c (dq_74 _ (mem2 fx1sg)) (nm_c (dq_75 _ (mem2 fx1sg)) (nm_c (dq_76 _ (mem2 fx1sg)) (nm_c (dq_81 _ (mem2 fx1sg) _ hbM) (nm_c (dq_77 _ (mem2 fx1sg) _ hbM) (nm_c (dq_82 _ (mem2 fx1sg) _ hbM) (nm_c (dq_83 _ (mem2 fx1sg) _ hbM) nm_0))))))))))))))) (fun l z => by cases z) kr2
            have k46 := es8.b.1 _ _ (nm_c (by decide) (nm_c (by decide) (nm_c (by decide) (nm_c (by decide) (nm_c (by decide) (nm_c (by decide) (nm_c (by decide) (nm_c (by decide) (nm_c (by decide) (nm_c (by decide) (nm_c (by decide) (nm_c ((by decide : ∀ v ∈ ArM, (48 : Nat) ≠ v) _ hbM) (nm_c ((by decide : ∀ v ∈ ArM, (48 : Nat) ≠ v + 1) _ hbM) (nm_c ((by decide : ∀ v ∈ ArM, (48 : Nat) ≠ v + 3) _ hbM) (nm_c ((by decide : ∀ v ∈ ArM, (48 : Nat) ≠ v + 4) _ hbM) nm_0))))))))))))))) (fun l z => by cases z) hmx4
            have k47 := es8.b.1 _ _ (nm_c (by decide) (nm_c (by decide) (nm_c (by decide) (nm_c (by decide) (nm_c (by decide) (nm_c (by decide) (nm_c (by decide) (nm_c (by decide) (nm_c (by decide) (nm_c (by decide) (nm_c (by decide) (nm_c ((by decide : ∀ v ∈ ArM, (49 : Nat) ≠ v) _ hbM) (nm_c ((by decide : ∀ v ∈ ArM, (49 : Nat) ≠ v + 1) _ hbM) (nm_c ((by decide : ∀ v ∈ ArM, (49 : Nat) ≠ v + 3) _ hbM) (nm_c ((by decide : ∀ v ∈ ArM, (49 : Nat) ≠ v + 4) _ hbM) nm_0))))))))))))))) (fun l z => by cases z) hix5
            have k48 := es8.b.1 _ _ (nm_c (by decide) (nm_c (by decide) (nm_c (by decide) (nm_c (by decide) (nm_c (by decide) (nm_c (by decide) (nm_c (by decide) (nm_c (by decide) (nm_c (by decide) (nm_c (by decide) (nm_c (by decide) (nm_c ((by decide : ∀ v ∈ ArM, (50 : Nat) ≠ v) _ hbM) (nm_c ((by decide : ∀ v ∈ ArM, (50 : Nat) ≠ v + 1) _ hbM) (nm_c ((by decide : ∀ v ∈ ArM, (50 : Nat) ≠ v + 3) _ hbM) (nm_c ((by decide : ∀ v ∈ ArM, (50 : Nat) ≠ v + 4) _ hbM) nm_0))))))))))))))) (fun l z => by cases z) hix6
            have k49 := es8.b.1 _ _ (nm_c (dq_126 _ (mem2 fx1sc)) (nm_c (dq_127 _ (mem2 fx1sc)) (nm_c (dq_128 _ (mem2 fx1sc)) (nm_c (dq_129 _ (mem2 fx1sc)) (nm_c (dq_130 _ (mem2 fx1sc)) (nm_c (dq_131 _ (mem2 fx1sc)) (nm_c (dq_132 _ (mem2 fx1sc)) (nm_c (dq_133 _ (mem2 fx1sc)) (nm_c (dq_134 _ (mem2 fx1sc)) (nm_c (dq_135 _ (mem2 fx1sc)) (nm_c (dq_136 _ (mem2 fx1sc)) (nm_c (dq_137 _ (mem2 fx1sc) _ hbM) (nm_c (dq_138 _ (mem2 fx1sc) _ hbM) (nm_c (dq_139 _ (mem2 fx1sc) _ hbM) (nm_c (dq_140 _ (mem2 fx1sc) _ hbM) nm_0))))))))))))))) (fun l z => by cases z) hrx7
            have k50 := es8.b.1 _ _ (nm_c (dq_105 _ (mem2 fx1ou)) (nm_c (dq_106 _ (mem2 fx1ou)) (nm_c (dq_107 _ (mem2 fx1ou)) (nm_c (dq_108 _ (mem2 fx1ou)) (nm_c (dq_109 _ (mem2 fx1ou)) (nm_c (dq_110 _ (mem2 fx1ou)) (nm_c (dq_111 _ (mem2 fx1ou)) (nm_c (dq_112 _ (mem2 fx1ou)) (nm_c (dq_113 _ (mem2 fx1ou)) (nm_c (dq_114 _ (mem2 fx1ou)) (nm_c (dq_115 _ (mem2 fx1ou)) (nm_c (dq_116 _ (mem2 fx1ou) _ hbM) (nm_c (dq_117 _ (mem2 fx1ou) _ hbM) (nm_c (dq_118 _ (mem2 fx1ou) _ hbM) (nm_c (dq_119 _ (mem2 fx1ou) _ hbM) nm_0))))))))))))))) (fun l z => by cases z) hax8
            have gs8 := hτ.trans hs8
            have kp4 : KPS lx3 σ s8 := i5.tr (KPS_B hbM gb es8 hτ.1 nat)
            have kr4 : KPR [kex1] σ s8 := KPR.fr i10 es8 nat (KPR_1 (na_ke fx1ke) (nm_c (dq_126 _ (mem2 fx1ke)) (nm_c (dq_127 _ (mem2 fx1ke)) (nm_c (dq_128 _ (mem2 fx1ke)) (nm_c (dq_129 _ (mem2 fx1ke)) (nm_c (dq_130 _ (mem2 fx1ke)) (nm_c (dq_131 _ (mem2 fx1ke)) (nm_c (dq_132 _ (mem2 fx1ke)) (nm_c (dq_133 _ (mem2 fx1ke)) (nm_c (dq_134 _ (mem2 fx1ke)) (nm_c (dq_135 _ (mem2 fx1ke)) (nm_c (dq_136 _ (mem2 fx1ke)) (nm_c (dq_137 _ (mem2 fx1ke) _ hbM) (nm_c (dq_138 _ (mem2 fx1ke) _ hbM) (nm_c (dq_139 _ (mem2 fx1ke) _ hbM) (nm_c (dq_140 _ (mem2 fx1ke) _ hbM) nm_0))))))))))))))))
            refine TX.go 2 (fun n9 => (rfl : _ = exx ξ n9 (d + 8) j_N_index 185 [(0, .ref 16), (1, J z3), (2, J z4), (3, J k)] [J z4] s8)) ?_
            refine TX.if_eq rfl rfl rfl (by omega) (fun c4 => ?_) (fun c4 => ?_)
            · refine TX.iinc (lv' := [(0, .ref 16), (1, J z3), (2, J z4), (3, J (k + 1))]) rfl rfl rfl rfl rfl ?_
              refine TX.go 1 (fun n9 => (rfl : _ = exx ξ n9 (d + 8) j_N_index 120 [(0, .ref 16), (1, J z3), (2, J z4), (3, J (k + 1))] [] s8)) ?_
              have h48n := af_of (i := 2) k46 rfl (by omega)
              exact ih  z3 z4 (k + 1) s8 gs8 (by omega) (by omega) (k43.trans hNx1.symm) (IXQ_B ⟨wq, uq, hxu, hfl, hag, by rw [hfl]; exact hlk⟩ (mem2 fx1sc) hbM es8 hτ.1 nat) (STD_s i4 i0 (by omega) hND gb hbM es8 hτ.1 nat ixe (pz4_0 (by omega))) kp4 (by omega) (by omega) (by omega) (by omega) kr4 (by omega)
            · refine TX.go 3 (fun n9 => (rfl : _ = exx ξ n9 (d + 8) j_N_index 191 [(0, .ref 16), (1, J z3), (2, J z4), (3, J k)] [J k, J z4, .ref 16] s8)) ?_
              have tq1 : nsx s8 = nsx σ := (nsx_of k43).trans (nsx_of hNx1).symm
              refine TX.callv (as := [J z4, J k]) (r := []) rfl rfl rfl rfl rfl k43 rfl (s_N_enote (d + 7) z4 k s8 hs8.1   (by omega) (by omega)) (fun v3 s9 hqs9 => ?_)
              obtain ⟨rfl, hs9, pz5_0, pz5_1⟩ := hqs9
              have es9 := hs9
              have hs9 := hs9.sub (w' := WI) (List.forall_mem_cons.mpr ⟨(by decide), (fun _ h => by cases h)⟩)
              have k51 := es9.b.1 _ _ (nm_c (dq_124 _ (mem2 fx1mo)) nm_0) (fun l z => by cases z) k44
              have k52 := es9.b.1 _ _ (nm_c (dq_124 _ (mem2 fx1sg)) nm_0) (fun l z => by cases z) k45
              have k53 := es9.b.1 _ _ (nm_c (by decide) nm_0) (fun l z => by cases z) k46
              have k54 := es9.b.1 _ _ (nm_c (by decide) nm_0) (fun l z => by cases z) k47
              have k55 := es9.b.1 _ _ (nm_c (by decide) nm_0) (fun l z => by cases z) k48
              have k56 := es9.b.1 _ _ (nm_c (dq_104 _ (mem2 fx1sc)) nm_0) (fun l z => by cases z) k49
              have k57 := es9.b.1 _ _ (nm_c (dq_95 _ (mem2 fx1ou)) nm_0) (fun l z => by cases z) k50
              have gs9 := gs8.trans hs9
              have tq2 := pz5_0.trans tq1
              have kn1 : KPS (nSg σ) σ s9 := by rw [m13]; exact KPS.tr (kp4 : KPS lx3 σ _) (KPS_J (es9.sub (w' := WJ) (by decide)) hs8.1 (gs8.b.2 hNA).1)
              have tk1 : nsk s9 = nsk σ := pz5_1.trans ((nsk_of k43).trans (nsk_of hNx1).symm)
              have kn2 : KPR [kex1] σ s9 := KPR.fr kr4 es9 (gs8.b.2 hNA).1 (KPR_1 (na_ke fx1ke) (nm_c (dq_104 _ (mem2 fx1ke)) nm_0))
              exact TX.throw (Nat.ble_eq_true_of_le (by omega)) rfl rfl (QE_r (by decide) gs9 ⟨tq2, kn1, ⟨(fun q => absurd q (by decide)), (fun _ => ⟨by omega, (fun (_ : afld σ 16 11 = 1) => by first | exact NIX_d hS.2.2.1 hxu hlk.1 i0 (by omega) la le (lk2.2 (by omega)) | exact NIX_e hS.2.2.1 hxu hlk.1 i0 (by omega) ixe (pz4_1 (by omega))) (by omega)⟩)⟩, tk1, kn2⟩)
          · refine TX.go 8 (fun n9 => (rfl : _ = exx ξ n9 (d + 8) j_N_index 191 [(0, .ref 16), (1, J z3), (2, J 12), (3, J k)] [J k, J 12, .ref 16] τ)) ?_
            have tq3 : nsx τ = nsx σ := (nsx_of hNt).trans (nsx_of hNx1).symm
            refine TX.callv (as := [J 12, J k]) (r := []) rfl rfl rfl rfl rfl hNt rfl (s_N_enote (d + 7) 12 k τ hτ.1   (by omega) (by omega)) (fun v4 s10 hqs10 => ?_)
            obtain ⟨rfl, hs10, pz6_0, pz6_1⟩ := hqs10
            have es10 := hs10
            have hs10 := hs10.sub (w' := WI) (List.forall_mem_cons.mpr ⟨(by decide), (fun _ h => by cases h)⟩)
            have k58 := es10.b.1 _ _ (nm_c (dq_124 _ (mem2 fx1mo)) nm_0) (fun l z => by cases z) kr1
            have k59 := es10.b.1 _ _ (nm_c (dq_124 _ (mem2 fx1sg)) nm_0) (fun l z => by cases z) kr2
            have k60 := es10.b.1 _ _ (nm_c (by decide) nm_0) (fun l z => by cases z) hmx4
            have k61 := es10.b.1 _ _ (nm_c (by decide) nm_0) (fun l z => by cases z) hix5
            have k62 := es10.b.1 _ _ (nm_c (by decide) nm_0) (fun l z => by cases z) hix6
            have k63 := es10.b.1 _ _ (nm_c (dq_104 _ (mem2 fx1sc)) nm_0) (fun l z => by cases z) hrx7
            have k64 := es10.b.1 _ _ (nm_c (dq_95 _ (mem2 fx1ou)) nm_0) (fun l z => by cases z) hax8
            have gs10 := hτ.trans hs10
            have tq4 := pz6_0.trans tq3
            have kn3 : KPS (nSg σ) σ s10 := by rw [m13]; exact KPS.tr (i5 : KPS lx3 σ _) (KPS_J (es10.sub (w' := WJ) (by decide)) hτ.1 (hτ.b.2 hNA).1)
            have tk2 : nsk s10 = nsk σ := pz6_1.trans ((nsk_of hNt).trans (nsk_of hNx1).symm)
            have kn4 : KPR [kex1] σ s10 := KPR.fr i10 es10 (hτ.b.2 hNA).1 (KPR_1 (na_ke fx1ke) (nm_c (dq_104 _ (mem2 fx1ke)) nm_0))
            exact TX.throw (Nat.ble_eq_true_of_le (by omega)) rfl rfl (QE_r (by decide) gs10 ⟨tq4, kn3, ⟨(fun q => absurd q (by decide)), (fun _ => ⟨by omega, (fun (_ : afld σ 16 11 = 1) => by first | exact NIX_d hS.2.2.1 hxu hlk.1 i0 (by omega) la le (lk2.2 (by omega)) | exact NIX_e hS.2.2.1 hxu hlk.1 i0 (by omega) ixe (pz4_1 (by omega))) (by omega)⟩)⟩, tk2, kn4⟩)
  refine TX.go 1 (fun n9 => (rfl : _ = exx ξ n9 (d + 8) j_N_index 1 [(0, .ref 16)] [.ref 16] σ)) ?_
  refine TX.get rfl rfl rfl rfl hNx1 rfl ?_
  refine TX.if_ne rfl rfl rfl (by omega) (fun c5 => ?_) (fun c5 => ?_)
  · refine TX.go 1 (fun n9 => (rfl : _ = exx ξ n9 (d + 8) j_N_index 18 [(0, .ref 16)] [.ref 16] σ)) ?_
    refine TX.get rfl rfl rfl rfl hNx1 rfl ?_
    refine TX.go 1 (fun n9 => (rfl : _ = exx ξ n9 (d + 8) j_N_index 22 [(0, .ref 16)] [.ref 16, .ref oux1] σ)) ?_
    refine TX.get rfl rfl rfl rfl hNx1 rfl ?_
    refine TX.go 2 (fun n9 => (rfl : _ = exx ξ n9 (d + 8) j_N_index 27 [(0, .ref 16)] [.ref 16, J 0, .ref 55, .ref oux1] σ)) ?_
    refine TX.get rfl rfl rfl rfl hNx1 rfl ?_
    obtain ⟨mx9, nx9, bx9, lx9, hrx9, hbx9, fx9a, fx9b, fx9c, fx9d, fx9e, fx9g, fx9h, fx9i⟩ := hK.row (r := 55) (by decide)
    have ctx9 := CT_of hrx9 hbx9
    have rwx9 := rl_of hrx9 (by omega)
    subst rwx9
    refine TX.get rfl rfl rfl rfl hrx9 rfl ?_
    have hO1 : OUT σ g fz := hO (by omega)
    have hS := hO1 oux1 ((nfi_of (i := 10) hNx1).trans rfl)
    have hS4 := hS.2.2.2.1
    obtain ⟨ex10, erx10, dix10, bax10, fpx10, hax10, fx10a, fx10b, fx10c, fx10d, fx10e, fx10f, fx10g, fx10h, fx10i, fx10j⟩ := hK.arc (na_tp fx1ou)
    have af3x10 := af_of (i := 3) hax10 rfl (by omega)
    subst af3x10
    have af4x10 := af_of (i := 4) hax10 rfl (by omega)
    subst af4x10
    have af5x10 := af_of (i := 5) hax10 rfl (by omega)
    subst af5x10
    have af6x10 := af_of (i := 6) hax10 rfl (by omega)
    subst af6x10
    have af7x10 := af_of (i := 7) hax10 rfl (by omega)
    subst af7x10
    refine TX.callv (as := [.ref 55, J 0, J (rl σ 55)]) (r := []) rfl rfl rfl rfl (ArL_lt _ (na_tp fx1ou)).2.2.1 hax10 rfl (s_A_flookUp (d + 6) g ixn oux1 55 0 (rl σ 55) σ hK (na_tp fx1ou) (by decide) h255 hS.2.1 hi1 (SV_hc h255 hS) (by omega) (by omega) (by omega) (by omega) (by omega)) (fun v5 s11 hqs11 => ?_)
    obtain ⟨z7, rfl, esz7, hzz7, hyz7, pz7_0⟩ := hqs11
    rw [esz7]
    have lk1 := SV_lk (u := ixn) (s := 0) (n := rl σ 55) h255 hS
    rw [← pz7_0, hi2] at lk1
    refine TX.go 3 (fun n9 => (rfl : _ = exx ξ n9 (d + 8) j_N_index 39 [(0, .ref 16), (1, J z7)] [J (-1), J z7] σ)) ?_
    refine TX.icmp_ne rfl rfl rfl (by omega) (by omega) (fun c6 => ?_) (fun c6 => ?_)
    · refine TX.go 2 (fun n9 => (rfl : _ = exx ξ n9 (d + 8) j_N_index 49 [(0, .ref 16), (1, J z7)] [.ref 16, .ref 16] σ)) ?_
      refine TX.get rfl rfl rfl rfl hNx1 rfl ?_
      refine TX.go 2 (fun n9 => (rfl : _ = exx ξ n9 (d + 8) j_N_index 54 [(0, .ref 16), (1, J z7)] [.ref 16, J z7, .ref oux1, .ref 16] σ)) ?_
      refine TX.get rfl rfl rfl rfl hNx1 rfl ?_
      have nm1 := lk1.1 (by omega)
      have nm2 := nm1.1
      have nm3 := nm1.2.1
      have s5 := hS.2.2.2.2 z7 (by omega) (by omega)
      have s55 := s5.1
      have s56 := s5.2
      have se := (FO_ent h255 hS.2.2.1).2 z7 (by omega) (by omega)
      rw [← s55, ← s56] at se
      have sr := hS.1
      refine TX.callv (as := [.ref oux1, J z7, .ref scx1]) (r := []) rfl rfl rfl rfl rfl hNx1 rfl (s_N_funpackEntry hX0 (d + 2) g oux1 z7 scx1 σ hK (na_tp fx1ou) (na_ke fx1sc) (dq_97 _ (mem2 fx1ou) _ (mem2 fx1sc)) h255 hNA hS.2.1 ((by decide : ∀ u ∈ [59, 61], mst u = 8000) _ (mem2 fx1sc)) hf1 hf2 (by omega) (by omega) (by omega) (by omega) (by omega) (by omega) (by omega)) (fun v6 s12 hqs12 => ?_)
      obtain ⟨z8, rfl, hs12, hzz8, hyz8, pz8_0, pz8_1⟩ := hqs12
      have es12 := hs12
      have hs12 := hs12.sub (w' := WI) (List.forall_mem_cons.mpr ⟨(by decide), (List.forall_mem_cons.mpr ⟨(by decide), (List.forall_mem_cons.mpr ⟨(by decide), (List.forall_mem_cons.mpr ⟨(by decide), (List.forall_mem_cons.mpr ⟨(by decide), (List.forall_mem_cons.mpr ⟨(by decide), (List.forall_mem_cons.mpr ⟨(by decide), (List.forall_mem_cons.mpr ⟨(by decide), (List.forall_mem_cons.mpr ⟨(by decide), (List.forall_mem_cons.mpr ⟨(by decide), (List.forall_mem_cons.mpr ⟨(by decide), (List.forall_mem_cons.mpr ⟨((by decide : ∀ q ∈ [59, 61], q ∈ WI) _ (mem2 fx1sc)), (fun _ h => by cases h)⟩)⟩)⟩)⟩)⟩)⟩)⟩)⟩)⟩)⟩)⟩)⟩)
      have k65 := es12.b.1 _ _ (nm_c (by decide) (nm_c (by decide) (nm_c (by decide) (nm_c (by decide) (nm_c (by decide) (nm_c (by decide) (nm_c (by decide) (nm_c (by decide) (nm_c (by decide) (nm_c (by decide) (nm_c (by decide) (nm_c (dq_90 _ (mem2 fx1sc)) nm_0)))))))))))) (fun l z => by cases z) hNx1
      have k66 := es12.b.1 _ _ (nm_c (dq_66 _ (mem2 fx1mo)) (nm_c (dq_67 _ (mem2 fx1mo)) (nm_c (dq_68 _ (mem2 fx1mo)) (nm_c (dq_69 _ (mem2 fx1mo)) (nm_c (dq_70 _ (mem2 fx1mo)) (nm_c (dq_71 _ (mem2 fx1mo)) (nm_c (dq_72 _ (mem2 fx1mo)) (nm_c (dq_73 _ (mem2 fx1mo)) (nm_c (dq_74 _ (mem2 fx1mo)) (nm_c (dq_75 _ (mem2 fx1mo)) (nm_c (dq_76 _ (mem2 fx1mo)) (nm_c (dq_141 _ (mem2 fx1mo) _ (mem2 fx1sc)) nm_0)))))))))))) (fun l z => by cases z) hix2
      have k67 := es12.b.1 _ _ (nm_c (dq_66 _ (mem2 fx1sg)) (nm_c (dq_67 _ (mem2 fx1sg)) (nm_c (dq_68 _ (mem2 fx1sg)) (nm_c (dq_69 _ (mem2 fx1sg)) (nm_c (dq_70 _ (mem2 fx1sg)) (nm_c (dq_71 _ (mem2 fx1sg)) (nm_c (dq_72 _ (mem2 fx1sg)) (nm_c (dq_73 _ (mem2 fx1sg)) (nm_c (dq_74 _ (mem2 fx1sg)) (nm_c (dq_75 _ (mem2 fx1sg)) (nm_c (dq_76 _ (mem2 fx1sg)) (nm_c (dq_141 _ (mem2 fx1sg) _ (mem2 fx1sc)) nm_0)))))))))))) (fun l z => by cases z) hix3
      have k68 := es12.b.1 _ _ (nm_c (by decide) (nm_c (by decide) (nm_c (by decide) (nm_c (by decide) (nm_c (by decide) (nm_c (by decide) (nm_c (by decide) (nm_c (by decide) (nm_c (by decide) (nm_c (by decide) (nm_c (by decide) (nm_c ((by decide : ∀ v ∈ [59, 61], (55 : Nat) ≠ v) _ (mem2 fx1sc)) nm_0)))))))))))) (fun l z => by cases z) hrx9
      have k69 := es12.b.1 _ _ (nm_c (dq_105 _ (mem2 fx1ou)) (nm_c (dq_106 _ (mem2 fx1ou)) (nm_c (dq_107 _ (mem2 fx1ou)) (nm_c (dq_108 _ (mem2 fx1ou)) (nm_c (dq_109 _ (mem2 fx1ou)) (nm_c (dq_110 _ (mem2 fx1ou)) (nm_c (dq_111 _ (mem2 fx1ou)) (nm_c (dq_112 _ (mem2 fx1ou)) (nm_c (dq_113 _ (mem2 fx1ou)) (nm_c (dq_114 _ (mem2 fx1ou)) (nm_c (dq_115 _ (mem2 fx1ou)) (nm_c (dq_98 _ (mem2 fx1ou) _ (mem2 fx1sc)) nm_0)))))))))))) (fun l z => by cases z) hax10
      rw [s55, s56] at pz8_0 pz8_1
      have na1 := (hs12.b.2 hNA).1
      have kp1 : KPS lx3 σ s12 := KPS_J (es12.sub (w' := WJ) (List.forall_mem_cons.mpr ⟨(by decide), (List.forall_mem_cons.mpr ⟨(by decide), (List.forall_mem_cons.mpr ⟨(by decide), (List.forall_mem_cons.mpr ⟨(by decide), (List.forall_mem_cons.mpr ⟨(by decide), (List.forall_mem_cons.mpr ⟨(by decide), (List.forall_mem_cons.mpr ⟨(by decide), (List.forall_mem_cons.mpr ⟨(by decide), (List.forall_mem_cons.mpr ⟨(by decide), (List.forall_mem_cons.mpr ⟨(by decide), (List.forall_mem_cons.mpr ⟨(by decide), (List.forall_mem_cons.mpr ⟨((by decide : ∀ q ∈ [59, 61], q ∈ WJ) _ (mem2 fx1sc)), (fun _ h => by cases h)⟩)⟩)⟩)⟩)⟩)⟩)⟩)⟩)⟩)⟩)⟩)⟩)) hK hNA
      have kr1 : KPR [kex1] σ s12 := KPR.fr KPR.rf es12 hNA (KPR_1 (na_ke fx1ke) (nm_c (dq_126 _ (mem2 fx1ke)) (nm_c (dq_127 _ (mem2 fx1ke)) (nm_c (dq_128 _ (mem2 fx1ke)) (nm_c (dq_129 _ (mem2 fx1ke)) (nm_c (dq_130 _ (mem2 fx1ke)) (nm_c (dq_131 _ (mem2 fx1ke)) (nm_c (dq_132 _ (mem2 fx1ke)) (nm_c (dq_133 _ (mem2 fx1ke)) (nm_c (dq_134 _ (mem2 fx1ke)) (nm_c (dq_135 _ (mem2 fx1ke)) (nm_c (dq_136 _ (mem2 fx1ke)) (nm_c hks nm_0)))))))))))))
      refine TX.go 2 (fun n9 => (rfl : _ = exx ξ n9 (d + 8) j_N_index 62 [(0, .ref 16), (1, J z7), (2, J z8)] [J z8] s12)) ?_
      refine TX.if_eq rfl rfl rfl (by omega) (fun c7 => ?_) (fun c7 => ?_)
      · refine TX.go 1 (fun n9 => (rfl : _ = exx ξ n9 (d + 8) j_N_index 82 [(0, .ref 16), (1, J z7), (2, J z8)] [.ref 16] s12)) ?_
        refine TX.get rfl rfl rfl rfl k65 rfl ?_
        refine TX.go 1 (fun n9 => (rfl : _ = exx ξ n9 (d + 8) j_N_index 86 [(0, .ref 16), (1, J z7), (2, J z8)] [.ref 16, .ref 48] s12)) ?_
        refine TX.get rfl rfl rfl rfl k65 rfl ?_
        obtain ⟨nx11, hmx11, fx11a, fx11b⟩ := hs12.1.idx
        refine TX.callv (as := [.ref scx1]) (r := []) rfl rfl rfl rfl rfl hmx11 rfl (s_I_flearn (d + 5) (nb s12 scx1) scx1 s12 hs12.1 (na_ke fx1sc) nb_ag na1 ) (fun v7 s13 hqs13 => ?_)
        obtain ⟨z9, rfl, hs13, hzz9, hyz9, pz9_0, pz9_1⟩ := hqs13
        have es13 := hs13
        have hs13 := hs13.sub (w' := WI) (List.forall_mem_cons.mpr ⟨(by decide), (List.forall_mem_cons.mpr ⟨(by decide), (List.forall_mem_cons.mpr ⟨(by decide), (fun _ h => by cases h)⟩)⟩)⟩)
        have k70 := es13.b.1 _ _ (nm_c (by decide) (nm_c (by decide) (nm_c (by decide) nm_0))) (fun l z => by cases z) k65
        have k71 := es13.b.1 _ _ (nm_c (dq_142 _ (mem2 fx1mo)) (nm_c (dq_143 _ (mem2 fx1mo)) (nm_c (dq_144 _ (mem2 fx1mo)) nm_0))) (fun l z => by cases z) k66
        have k72 := es13.b.1 _ _ (nm_c (dq_142 _ (mem2 fx1sg)) (nm_c (dq_143 _ (mem2 fx1sg)) (nm_c (dq_144 _ (mem2 fx1sg)) nm_0))) (fun l z => by cases z) k67
        have k73 := es13.b.1 _ _ (nm_c (by decide) (nm_c (by decide) (nm_c (by decide) nm_0))) (fun l z => by cases z) k68
        have k74 := es13.b.1 _ _ (nm_c ((by decide : ∀ u ∈ [63, 68], u ≠ 48) _ (mem2 fx1ou)) (nm_c ((by decide : ∀ u ∈ [63, 68], u ≠ 49) _ (mem2 fx1ou)) (nm_c ((by decide : ∀ u ∈ [63, 68], u ≠ 50) _ (mem2 fx1ou)) nm_0))) (fun l z => by cases z) k69
        have gs13 := hs12.trans hs13
        have kp2 : KPS lx3 σ s13 := kp1.tr (KPS_J (es13.sub (w' := WJ) (by decide)) hs12.1 na1)
        have rd9 := pz8_0 (by omega)
        have rq9 := rl_eq (es13.2.2.1 scx1 (List.mem_cons_of_mem _ (na_ke fx1sc)) (dq_145 _ (mem2 fx1sc)))
        have ag9 : AGR s13 scx1 (nb s12 scx1) := (nb_ag (σ := s12) (r := scx1)).fr na1 es13 (na_ke fx1sc) (dq_145 _ (mem2 fx1sc))
        have kr2 : KPR [kex1] σ s13 := KPR.fr kr1 es13 na1 (KPR_1 (na_ke fx1ke) (nm_c ((by decide : ∀ u ∈ [59, 61], u ≠ 48) _ (mem2 fx1ke)) (nm_c ((by decide : ∀ u ∈ [59, 61], u ≠ 49) _ (mem2 fx1ke)) (nm_c ((by decide : ∀ u ∈ [59, 61], u ≠ 50) _ (mem2 fx1ke)) nm_0))))
        refine TX.if_ne rfl rfl rfl (by omega) (fun c8 => ?_) (fun c8 => ?_)
        · refine TX.go 2 (fun n9 => (rfl : _ = exx ξ n9 (d + 8) j_N_index 120 [(0, .ref 16), (1, J z7), (2, J z8), (3, J 0)] [] s13)) ?_
          have h480 : 0 ≤ afld s13 48 2 := (pz9_0 (by omega)).2.1
          exact loop120 _ z7 z8 0 s13 gs13 (by omega) (by omega) (k70.trans hNx1.symm) ⟨z7, nb s12 scx1, ⟨nm1, rd9.1⟩, rq9.trans rd9.2, ag9, by rw [rq9]; exact pz9_0 (by omega)⟩ STD_0 kp2 (by omega) (by omega) (by omega) (by omega) kr2 (Nat.lt_succ_self _)
        · refine TX.go 3 (fun n9 => (rfl : _ = exx ξ n9 (d + 8) j_N_index 99 [(0, .ref 16), (1, J z7), (2, J z8)] [.ref 16, J 11, .ref 16] s13)) ?_
          refine TX.get rfl rfl rfl rfl k70 rfl ?_
          obtain ⟨nx12, hmx12, fx12a, fx12b⟩ := hs13.1.idx
          refine TX.get rfl rfl rfl rfl hmx12 rfl ?_
          have tq5 : nsx s13 = nsx σ := (nsx_of k70).trans (nsx_of hNx1).symm
          refine TX.callv (as := [J 11, J nx12]) (r := []) rfl rfl rfl rfl rfl k70 rfl (s_N_enote (d + 7) 11 nx12 s13 hs13.1   (by omega) (by omega)) (fun v8 s14 hqs14 => ?_)
          obtain ⟨rfl, hs14, pz10_0, pz10_1⟩ := hqs14
          have es14 := hs14
          have hs14 := hs14.sub (w' := WI) (List.forall_mem_cons.mpr ⟨(by decide), (fun _ h => by cases h)⟩)
          have k75 := es14.b.1 _ _ (nm_c (dq_124 _ (mem2 fx1mo)) nm_0) (fun l z => by cases z) k71
          have k76 := es14.b.1 _ _ (nm_c (dq_124 _ (mem2 fx1sg)) nm_0) (fun l z => by cases z) k72
          have k77 := es14.b.1 _ _ (nm_c (by decide) nm_0) (fun l z => by cases z) k73
          have k78 := es14.b.1 _ _ (nm_c (dq_95 _ (mem2 fx1ou)) nm_0) (fun l z => by cases z) k74
          have k79 := es14.b.1 _ _ (nm_c (by decide) nm_0) (fun l z => by cases z) hmx12
          have gs14 := gs13.trans hs14
          have tq6 := pz10_0.trans tq5
          have kn5 : KPS (nSg σ) σ s14 := by rw [m13]; exact KPS.tr (kp2 : KPS lx3 σ _) (KPS_J (es14.sub (w' := WJ) (by decide)) hs13.1 (gs13.b.2 hNA).1)
          have tk3 : nsk s14 = nsk σ := pz10_1.trans ((nsk_of k70).trans (nsk_of hNx1).symm)
          have kn6 : KPR [kex1] σ s14 := KPR.fr kr2 es14 (gs13.b.2 hNA).1 (KPR_1 (na_ke fx1ke) (nm_c (dq_104 _ (mem2 fx1ke)) nm_0))
          exact TX.throw (Nat.ble_eq_true_of_le (by omega)) rfl rfl (QE_r (by decide) gs14 ⟨tq6, kn5, ⟨(fun q => absurd q (by decide)), (fun _ => ⟨by omega, (fun (_ : afld σ 16 11 = 1) => by first | exact NIX_a (lk1.2 (by omega)) | exact NIX_b hS.2.2.1 nm1 (pz8_1 (by omega)) | exact NIX_c hS.2.2.1 ⟨nm1, rd9.1⟩ (by rw [← rd9.2]; exact pz9_1 (by omega))) (by omega)⟩)⟩, tk3, kn6⟩)
      · refine TX.go 3 (fun n9 => (rfl : _ = exx ξ n9 (d + 8) j_N_index 68 [(0, .ref 16), (1, J z7), (2, J z8)] [J z7, J z8, .ref 16] s12)) ?_
        have tq7 : nsx s12 = nsx σ := (nsx_of k65).trans (nsx_of hNx1).symm
        refine TX.callv (as := [J z8, J z7]) (r := []) rfl rfl rfl rfl rfl k65 rfl (s_N_enote (d + 7) z8 z7 s12 hs12.1   (by omega) (by omega)) (fun v9 s15 hqs15 => ?_)
        obtain ⟨rfl, hs15, pz11_0, pz11_1⟩ := hqs15
        have es15 := hs15
        have hs15 := hs15.sub (w' := WI) (List.forall_mem_cons.mpr ⟨(by decide), (fun _ h => by cases h)⟩)
        have k80 := es15.b.1 _ _ (nm_c (dq_124 _ (mem2 fx1mo)) nm_0) (fun l z => by cases z) k66
        have k81 := es15.b.1 _ _ (nm_c (dq_124 _ (mem2 fx1sg)) nm_0) (fun l z => by cases z) k67
        have k82 := es15.b.1 _ _ (nm_c (by decide) nm_0) (fun l z => by cases z) k68
        have k83 := es15.b.1 _ _ (nm_c (dq_95 _ (mem2 fx1ou)) nm_0) (fun l z => by cases z) k69
        have gs15 := hs12.trans hs15
        have tq8 := pz11_0.trans tq7
        have kn7 : KPS (nSg σ) σ s15 := by rw [m13]; exact KPS.tr (kp1 : KPS lx3 σ _) (KPS_J (es15.sub (w' := WJ) (by decide)) hs12.1 (hs12.b.2 hNA).1)
        have tk4 : nsk s15 = nsk σ := pz11_1.trans ((nsk_of k65).trans (nsk_of hNx1).symm)
        have kn8 : KPR [kex1] σ s15 := KPR.fr kr1 es15 (hs12.b.2 hNA).1 (KPR_1 (na_ke fx1ke) (nm_c (dq_104 _ (mem2 fx1ke)) nm_0))
        exact TX.throw (Nat.ble_eq_true_of_le (by omega)) rfl rfl (QE_r (by decide) gs15 ⟨tq8, kn7, ⟨(fun q => absurd q (by decide)), (fun _ => ⟨by omega, (fun (_ : afld σ 16 11 = 1) => by first | exact NIX_a (lk1.2 (by omega)) | exact NIX_b hS.2.2.1 nm1 (pz8_1 (by omega)) | exact NIX_c hS.2.2.1 ⟨nm1, rd9.1⟩ (by rw [← rd9.2]; exact pz9_1 (by omega))) (by omega)⟩)⟩, tk4, kn8⟩)
    · refine TX.go 8 (fun n9 => (rfl : _ = exx ξ n9 (d + 8) j_N_index 68 [(0, .ref 16), (1, J z7), (2, J 11)] [J z7, J 11, .ref 16] σ)) ?_
      refine TX.callv (as := [J 11, J z7]) (r := []) rfl rfl rfl rfl rfl hNx1 rfl (s_N_enote (d + 7) 11 z7 σ hK   (by omega) (by omega)) (fun v10 s16 hqs16 => ?_)
      obtain ⟨rfl, hs16, pz12_0, pz12_1⟩ := hqs16
      have es16 := hs16
      have hs16 := hs16.sub (w' := WI) (List.forall_mem_cons.mpr ⟨(by decide), (fun _ h => by cases h)⟩)
      have k84 := es16.b.1 _ _ (nm_c (dq_124 _ (mem2 fx1mo)) nm_0) (fun l z => by cases z) hix2
      have k85 := es16.b.1 _ _ (nm_c (dq_124 _ (mem2 fx1sg)) nm_0) (fun l z => by cases z) hix3
      have k86 := es16.b.1 _ _ (nm_c (by decide) nm_0) (fun l z => by cases z) hrx9
      have k87 := es16.b.1 _ _ (nm_c (dq_95 _ (mem2 fx1ou)) nm_0) (fun l z => by cases z) hax10
      have tq9 := pz12_0
      have kn9 : KPS (nSg σ) σ s16 := by rw [m13]; exact KPS.tr (KPS.rf : KPS lx3 σ _) (KPS_J (es16.sub (w' := WJ) (by decide)) hK hNA)
      have tk5 : nsk s16 = nsk σ := pz12_1.trans rfl
      have kn10 : KPR [kex1] σ s16 := KPR.fr KPR.rf es16 hNA (KPR_1 (na_ke fx1ke) (nm_c (dq_104 _ (mem2 fx1ke)) nm_0))
      exact TX.throw (Nat.ble_eq_true_of_le (by omega)) rfl rfl (QE_r (by decide) hs16 ⟨tq9, kn9, ⟨(fun q => absurd q (by decide)), (fun _ => ⟨by omega, (fun (_ : afld σ 16 11 = 1) => by first | exact NIX_a (lk1.2 (by omega)) | exact NIX_b hS.2.2.1 nm1 (pz8_1 (by omega)) | exact NIX_c hS.2.2.1 ⟨nm1, rd9.1⟩ (by rw [← rd9.2]; exact pz9_1 (by omega))) (by omega)⟩)⟩, tk5, kn10⟩)
  · exact TX.throw (Nat.ble_eq_true_of_le (by omega)) rfl rfl (QE_r (by decide) (Fr.refl hK) ⟨rfl, KPS.rf, ⟨(fun _ => by omega), (fun q => absurd q (by decide))⟩, rfl, KPR.rf⟩)
