/-! An entry mounted on the stage. -/
set_option maxRecDepth 10000 in
set_option maxHeartbeats 4000000 in
theorem s_N_fstageMount {ξ : Nat → Option (Nat × List Int32)} (hX : XT ξ) (d : Nat) (g : Int → Int) (f : Int) (b : Nat) (x : Int) (y : Int) (σ : qH) (hK : K σ)  (hbM : b ∈ ArM) (h255 : ∀ k, 0 ≤ g k ∧ g k ≤ 255) (hNA : NA σ) (hO : OUT σ g f) (hE : STG σ x b) (hf1 : CD σ 31 fixA 288) (hf2 : CD σ 35 (fun _ => 5) 32) (rx : -2147483648 ≤ x ∧ x ≤ 2147483647) (ry : -2147483648 ≤ y ∧ y ≤ 2147483647) (pre0 : 0 ≤ x) (pre1 : x ≤ 5) (pre2 : 0 ≤ y) (pre3 : y < NEf g f) : T ξ (d + 6) j_N_stageMount 0 (lv_args 0 [.ref 16, J x, J y]) [] σ (fun v σ' => ∃ z : Int, v = some (J z) ∧ Fr [17, 18, 20, 21, 22, 24, 25, 26, 28, 29, 30, b, b + 1, b + 3, b + 4] σ σ' ∧ 0 ≤ z ∧ z ≤ 9 ∧ (z = 0 → STM σ' b g f y) ∧ (z ≠ 0 → NMT g f y)) := by
  have hX0 := hX
  obtain ⟨⟨X1, hX1, lX1⟩, ⟨X2, hX2, lX2⟩, ⟨X3, hX3, lX3⟩, ⟨X4, hX4, lX4⟩, ⟨X5, hX5, lX5⟩, ⟨X6, hX6, lX6⟩⟩ := hX
  have lY1 : X1.length = 19 := by rw [lX1]; rfl
  have lY2 : X2.length = 29 := by rw [lX2]; rfl
  have lY3 : X3.length = 29 := by rw [lX3]; rfl
  have lY4 : X4.length = 30 := by rw [lX4]; rfl
  have lY5 : X5.length = 30 := by rw [lX5]; rfl
  have lY6 : X6.length = 16 := by rw [lX6]; rfl
  have lb := (ArL_lt b (ArM_L hbM)).2.1
  obtain ⟨kex1, scx1, tpx1, oux1, mox1, sgx1, hox1, mcx1, lfx1, lpx1, hNx1, fx1ke, fx1sc, fx1tp, fx1ou, fx1mo, fx1sg, fx1d, fx1e, fx1f, fx1g, fx1h, fx1i, fx1j⟩ := hK.na
  obtain ⟨lx2, hix2, elx2, emx2⟩ := hK.refs (na_mo fx1sg).1
  have hS := hO oux1 ((nfi_of (i := 10) hNx1).trans rfl)
  have hS4 := hS.2.2.2.1
  have s5 := hS.2.2.2.2 y (by omega) (by omega)
  have s55 := s5.1
  have s56 := s5.2
  have se := (FO_ent h255 hS.2.2.1).2 y (by omega) (by omega)
  rw [← s55, ← s56] at se
  have sr := hS.1
  have ouA := na_tp fx1ou
  refine T.go 2 (fun n9 => (rfl : _ = exe ξ n9 (d + 6) j_N_stageMount 2 [(0, .ref 16), (1, J x), (2, J y)] [.ref 16, .ref 16] σ)) ?_
  refine T.get rfl rfl rfl hNx1 rfl ?_
  refine T.go 2 (fun n9 => (rfl : _ = exe ξ n9 (d + 6) j_N_stageMount 7 [(0, .ref 16), (1, J x), (2, J y)] [.ref 16, J y, .ref oux1, .ref 16] σ)) ?_
  refine T.get rfl rfl rfl hNx1 rfl ?_
  refine T.go 1 (fun n9 => (rfl : _ = exe ξ n9 (d + 6) j_N_stageMount 11 [(0, .ref 16), (1, J x), (2, J y)] [J x, .ref sgx1, J y, .ref oux1, .ref 16] σ)) ?_
  have ge27 : lx2.getD (x : Int).toNat none = some b := by have q := hE _ ((nfi_of (i := 13) hNx1).trans rfl); rw [rls_of hix2] at q; exact q
  refine T.aald rfl hix2 (by omega) ge27 ?_
  obtain ⟨ex3, erx3, dix3, bax3, fpx3, hax3, fx3a, fx3b, fx3c, fx3d, fx3e, fx3f, fx3g, fx3h, fx3i, fx3j⟩ := hK.arc (ArM_L hbM)
  have af3x3 := af_of (i := 3) hax3 rfl (by omega)
  subst af3x3
  have af4x3 := af_of (i := 4) hax3 rfl (by omega)
  subst af4x3
  have af5x3 := af_of (i := 5) hax3 rfl (by omega)
  subst af5x3
  have af6x3 := af_of (i := 6) hax3 rfl (by omega)
  subst af6x3
  have af7x3 := af_of (i := 7) hax3 rfl (by omega)
  subst af7x3
  refine T.get rfl rfl rfl hax3 rfl ?_
  refine T.callv (as := [.ref oux1, J y, .ref (b + 1)]) (r := []) rfl rfl rfl rfl hNx1 rfl (s_N_funpackEntry hX0 d g oux1 y (b + 1) σ hK (na_tp fx1ou) (kdX_ar _ (ArM_L hbM)).2.2.1 ((by decide : ∀ u ∈ [63, 68], ∀ v ∈ ArM, u + 1 ≠ v + 1) _ (mem2 fx1ou) _ hbM) h255 hNA hS.2.1 (ArM_8 _ hbM) hf1 hf2 (by omega) (by omega) (by omega) (by omega) (by omega) (by omega) (by omega)) (fun v1 s1 hqs1 => ?_)
  obtain ⟨z1, rfl, hs1, hzz1, hyz1, pz1_0, pz1_1⟩ := hqs1
  have es1 := hs1
  have hs1 := hs1.sub (w' := [17, 18, 20, 21, 22, 24, 25, 26, 28, 29, 30, b, b + 1, b + 3, b + 4]) (List.forall_mem_cons.mpr ⟨(by simp), (List.forall_mem_cons.mpr ⟨(by simp), (List.forall_mem_cons.mpr ⟨(by simp), (List.forall_mem_cons.mpr ⟨(by simp), (List.forall_mem_cons.mpr ⟨(by simp), (List.forall_mem_cons.mpr ⟨(by simp), (List.forall_mem_cons.mpr ⟨(by simp), (List.forall_mem_cons.mpr ⟨(by simp), (List.forall_mem_cons.mpr ⟨(by simp), (List.forall_mem_cons.mpr ⟨(by simp), (List.forall_mem_cons.mpr ⟨(by simp), (List.forall_mem_cons.mpr ⟨(by simp), (fun _ h => by cases h)⟩)⟩)⟩)⟩)⟩)⟩)⟩)⟩)⟩)⟩)⟩)⟩)
  have k1 := es1.b.1 _ _ (nm_c (by decide) (nm_c (by decide) (nm_c (by decide) (nm_c (by decide) (nm_c (by decide) (nm_c (by decide) (nm_c (by decide) (nm_c (by decide) (nm_c (by decide) (nm_c (by decide) (nm_c (by decide) (nm_c (dq_65 _ hbM) nm_0)))))))))))) (fun l z => by cases z) hNx1
  have k2 := es1.b.1 _ _ (nm_c (dq_66 _ (mem2 fx1sg)) (nm_c (dq_67 _ (mem2 fx1sg)) (nm_c (dq_68 _ (mem2 fx1sg)) (nm_c (dq_69 _ (mem2 fx1sg)) (nm_c (dq_70 _ (mem2 fx1sg)) (nm_c (dq_71 _ (mem2 fx1sg)) (nm_c (dq_72 _ (mem2 fx1sg)) (nm_c (dq_73 _ (mem2 fx1sg)) (nm_c (dq_74 _ (mem2 fx1sg)) (nm_c (dq_75 _ (mem2 fx1sg)) (nm_c (dq_76 _ (mem2 fx1sg)) (nm_c (dq_77 _ (mem2 fx1sg) _ hbM) nm_0)))))))))))) (fun l z => by cases z) hix2
  have k3 := es1.b.1 _ _ (nm_c ((by decide : ∀ u ∈ ArM, u ≠ 17) _ hbM) (nm_c ((by decide : ∀ u ∈ ArM, u ≠ 18) _ hbM) (nm_c ((by decide : ∀ u ∈ ArM, u ≠ 20) _ hbM) (nm_c ((by decide : ∀ u ∈ ArM, u ≠ 21) _ hbM) (nm_c ((by decide : ∀ u ∈ ArM, u ≠ 22) _ hbM) (nm_c ((by decide : ∀ u ∈ ArM, u ≠ 24) _ hbM) (nm_c ((by decide : ∀ u ∈ ArM, u ≠ 25) _ hbM) (nm_c ((by decide : ∀ u ∈ ArM, u ≠ 26) _ hbM) (nm_c ((by decide : ∀ u ∈ ArM, u ≠ 28) _ hbM) (nm_c ((by decide : ∀ u ∈ ArM, u ≠ 29) _ hbM) (nm_c ((by decide : ∀ u ∈ ArM, u ≠ 30) _ hbM) (nm_c (by omega) nm_0)))))))))))) (fun l z => by cases z) hax3
  rw [s55, s56] at pz1_0 pz1_1
  have naq := (hs1.b.2 hNA).1
  refine T.go 2 (fun n9 => (rfl : _ = exe ξ n9 (d + 6) j_N_stageMount 20 [(0, .ref 16), (1, J x), (2, J y), (3, J z1)] [J z1] s1)) ?_
  refine T.if_ne rfl rfl (by omega) (fun c1 => ?_) (fun c1 => ?_)
  · refine T.go 1 (fun n9 => (rfl : _ = exe ξ n9 (d + 6) j_N_stageMount 36 [(0, .ref 16), (1, J x), (2, J y), (3, J z1)] [J z1] s1)) ?_
    exact T.ireti rfl rfl ⟨_, rfl, hs1, by omega, by omega, (fun h => absurd h (by omega)), (fun h o q => absurd q.1 (pz1_1 (by omega) o))⟩
  · refine T.go 1 (fun n9 => (rfl : _ = exe ξ n9 (d + 6) j_N_stageMount 24 [(0, .ref 16), (1, J x), (2, J y), (3, J z1)] [.ref 16] s1)) ?_
    refine T.get rfl rfl rfl k1 rfl ?_
    refine T.go 1 (fun n9 => (rfl : _ = exe ξ n9 (d + 6) j_N_stageMount 28 [(0, .ref 16), (1, J x), (2, J y), (3, J z1)] [J x, .ref sgx1] s1)) ?_
    have ge57 : lx2.getD (x : Int).toNat none = some b := by have q := hE _ ((nfi_of (i := 13) hNx1).trans rfl); rw [rls_of hix2] at q; exact q
    refine T.aald rfl k2 (by omega) ge57 ?_
    have rd9 := pz1_0 (by omega)
    refine T.callv (as := []) (r := []) rfl rfl rfl (ArL_lt _ (ArM_L hbM)).2.2.1 k3 rfl (s_A_fsurvey (d + 1) (nb s1 (b + 1)) b s1 hs1.1 (ArM_L hbM) (fun k => nb_r k) nb_ag naq ) (fun v2 s2 hqs2 => ?_)
    obtain ⟨z2, rfl, hs2, hzz2, hyz2, pz2_0, pz2_1, pz2_2, pz2_3⟩ := hqs2
    have es2 := hs2
    have hs2 := hs2.sub (w' := [17, 18, 20, 21, 22, 24, 25, 26, 28, 29, 30, b, b + 1, b + 3, b + 4]) (List.forall_mem_cons.mpr ⟨(by simp), (List.forall_mem_cons.mpr ⟨(by simp), (List.forall_mem_cons.mpr ⟨(by simp), (fun _ h => by cases h)⟩)⟩)⟩)
    have k4 := es2.b.1 _ _ (nm_c (dq_78 _ hbM) (nm_c (dq_79 _ hbM) (nm_c (dq_80 _ hbM) nm_0))) (fun l z => by cases z) k1
    have k5 := es2.b.1 _ _ (nm_c (dq_81 _ (mem2 fx1sg) _ hbM) (nm_c (dq_82 _ (mem2 fx1sg) _ hbM) (nm_c (dq_83 _ (mem2 fx1sg) _ hbM) nm_0))) (fun l z => by cases z) k2
    have gs2 := hs1.trans hs2
    rw [rd9.2] at pz2_0 pz2_1 pz2_2 pz2_3
    have rls9 := rl_eq (es2.2.2.1 (b + 1) (List.mem_cons_of_mem _ ((kdX_ar _ (ArM_L hbM)).2.2.1)) (nm_c (by omega) (nm_c (by omega) (nm_c (by omega) nm_0))))
    have ag9 : AGR s2 (b + 1) (nb s1 (b + 1)) := (nb_ag (σ := s1) (r := b + 1)).fr naq es2 ((kdX_ar _ (ArM_L hbM)).2.2.1) (nm_c (by omega) (nm_c (by omega) (nm_c (by omega) nm_0)))
    refine T.go 1 (fun n9 => (rfl : _ = exe ξ n9 (d + 6) j_N_stageMount 36 [(0, .ref 16), (1, J x), (2, J y), (3, J z1)] [J z2] s2)) ?_
    exact T.ireti rfl rfl ⟨_, rfl, gs2, by omega, by omega, (fun h => ⟨nb s1 (b + 1), ⟨rd9.1, pz2_0 h⟩, rls9.trans rd9.2, ag9, pz2_0 h, (pz2_2 h).1, fun j j0 j1 => ⟨(pz2_3 h j j0 j1).1, (pz2_3 h j j0 j1).2.1⟩⟩), (fun h o q => by have e9 := RD_one rd9.1 q.1; have q2 := q.2; rw [← e9, pz2_1 h] at q2; exact absurd q2 (by decide))⟩
