/-! mount. -/
set_option maxRecDepth 10000 in
set_option maxHeartbeats 4000000 in
theorem s_N_fmount {ξ : Nat → Option (Nat × List Int32)} (hX : XT ξ) (d : Nat) (g : Int → Int) (f : Int) (b : Nat) (x : Int) (σ : qH) (hK : K σ)  (hbM : b ∈ ArM) (h255 : ∀ k, 0 ≤ g k ∧ g k ≤ 255) (hNA : NA σ) (hO : OUX σ g f) (hE : STG σ 0 b) (hms : MSD σ) (hf1 : CD σ 31 fixA 288) (hf2 : CD σ 35 (fun _ => 5) 32) (rx : -2147483648 ≤ x ∧ x ≤ 2147483647) : TX ξ (d + 8) j_N_mount 0 (lv_args 0 [.ref 16, J x]) [] σ (QX [17, 18, 20, 21, 22, 24, 25, 26, 28, 29, 30, b, b + 1, b + 3, b + 4, 16, 73, 74] [0, 1, 2] σ (fun s => nsx s = nsx σ ∧ nMo s = nMo σ ∧ nSg s = nSg σ ∧ NOMT σ g f x) (fun v σ' => ∃ z : Int, v = some (J z) ∧ Fr [17, 18, 20, 21, 22, 24, 25, 26, 28, 29, 30, b, b + 1, b + 3, b + 4, 16, 73, 74] σ σ' ∧ -2147483648 ≤ z ∧ z ≤ 2147483647 ∧ afld σ 16 11 = 1 ∧ 0 ≤ x ∧ x < NEf g f ∧ afld σ 16 14 < 6 ∧ z = afld σ 16 14 + 1 ∧ afld σ' 16 14 = afld σ 16 14 + 1 ∧ nMo σ' = (nMo σ).set (afld σ 16 14).toNat (some b) ∧ nSg σ' = (nSg σ).set 0 ((nMo σ).getD (afld σ 16 14).toNat none) ∧ (nfi 9 σ' = nfi 9 σ ∧ nfi 10 σ' = nfi 10 σ ∧ nfi 11 σ' = nfi 11 σ ∧ nfi 12 σ' = nfi 12 σ ∧ nfi 13 σ' = nfi 13 σ) ∧ STM σ' b g f x)) := by
  have hX0 := hX
  obtain ⟨⟨X1, hX1, lX1⟩, ⟨X2, hX2, lX2⟩, ⟨X3, hX3, lX3⟩, ⟨X4, hX4, lX4⟩, ⟨X5, hX5, lX5⟩, ⟨X6, hX6, lX6⟩⟩ := hX
  have lY1 : X1.length = 19 := by rw [lX1]; rfl
  have lY2 : X2.length = 29 := by rw [lX2]; rfl
  have lY3 : X3.length = 29 := by rw [lX3]; rfl
  have lY4 : X4.length = 30 := by rw [lX4]; rfl
  have lY5 : X5.length = 30 := by rw [lX5]; rfl
  have lY6 : X6.length = 16 := by rw [lX6]; rfl
  obtain ⟨kex1, scx1, tpx1, oux1, mox1, sgx1, hox1, mcx1, lfx1, lpx1, hNx1, fx1ke, fx1sc, fx1tp, fx1ou, fx1mo, fx1sg, fx1d, fx1e, fx1f, fx1g, fx1h, fx1i, fx1j⟩ := hK.na
  obtain ⟨lx2, hix2, elx2, emx2⟩ := hK.refs (na_mo fx1mo).1
  obtain ⟨lx3, hix3, elx3, emx3⟩ := hK.refs (na_mo fx1sg).1
  have n12 : nfi 12 σ = some (.ref mox1) := (nfi_of hNx1).trans rfl
  have n13 : nfi 13 σ = some (.ref sgx1) := (nfi_of hNx1).trans rfl
  have m12 := nMo_of n12 hix2
  have m13 := nSg_of n13 hix3
  have hmq := hms _ _ n12 n13
  have h11 := af_of (i := 11) hNx1 rfl (by omega)
  have h14 := af_of (i := 14) hNx1 rfl (by omega)
  refine TX.go 1 (fun n9 => (rfl : _ = exx ξ n9 (d + 8) j_N_mount 1 [(0, .ref 16), (1, J x)] [.ref 16] σ)) ?_
  refine TX.get rfl rfl rfl rfl hNx1 rfl ?_
  refine TX.if_eq rfl rfl rfl (by omega) (fun c1 => ?_) (fun c1 => ?_)
  · exact TX.throw (Nat.ble_eq_true_of_le (by omega)) rfl rfl (QX_r (by decide) (Fr.refl hK) ⟨rfl, rfl, rfl, (fun q1 q2 q3 q4 => absurd q1 (by omega))⟩)
  · refine TX.go 1 (fun n9 => (rfl : _ = exx ξ n9 (d + 8) j_N_mount 8 [(0, .ref 16), (1, J x)] [.ref 16] σ)) ?_
    refine TX.get rfl rfl rfl rfl hNx1 rfl ?_
    refine TX.go 1 (fun n9 => (rfl : _ = exx ξ n9 (d + 8) j_N_mount 12 [(0, .ref 16), (1, J x)] [J x, .ref oux1] σ)) ?_
    have hO1 : OUT σ g f := hO (by omega)
    have hS := hO1 oux1 ((nfi_of (i := 10) hNx1).trans rfl)
    have hS4 := hS.2.2.2.1
    obtain ⟨ex4, erx4, dix4, bax4, fpx4, hax4, fx4a, fx4b, fx4c, fx4d, fx4e, fx4f, fx4g, fx4h, fx4i, fx4j⟩ := hK.arc (na_tp fx1ou)
    have af3x4 := af_of (i := 3) hax4 rfl (by omega)
    subst af3x4
    have af4x4 := af_of (i := 4) hax4 rfl (by omega)
    subst af4x4
    have af5x4 := af_of (i := 5) hax4 rfl (by omega)
    subst af5x4
    have af6x4 := af_of (i := 6) hax4 rfl (by omega)
    subst af6x4
    have af7x4 := af_of (i := 7) hax4 rfl (by omega)
    subst af7x4
    refine TX.callv (as := [J x]) (r := []) rfl rfl rfl rfl (ArL_lt _ (na_tp fx1ou)).2.2.1 hax4 rfl (s_A_fhasEntry (d + 7) oux1 x σ hK (na_tp fx1ou)  (by omega)) (fun v1 s1 hqs1 => ?_)
    obtain ⟨z1, rfl, esz1, hzz1, hyz1, pz1_0, pz1_1⟩ := hqs1
    rw [esz1]
    refine TX.if_ne rfl rfl rfl (by omega) (fun c2 => ?_) (fun c2 => ?_)
    · refine TX.go 3 (fun n9 => (rfl : _ = exx ξ n9 (d + 8) j_N_mount 31 [(0, .ref 16), (1, J x)] [J x, J 0, .ref 16] σ)) ?_
      refine TX.callv (as := [J 0, J x]) (r := []) rfl rfl rfl rfl rfl hNx1 rfl (s_N_fstageMount hX0 (d + 1) g f b 0 x σ hK  hbM h255 hNA hO1 hE hf1 hf2 (by omega) (by omega) (by omega) (by omega) (by omega) (by omega)) (fun v2 s2 hqs2 => ?_)
      obtain ⟨z2, rfl, hs2, hzz2, hyz2, pz2_0, pz2_1⟩ := hqs2
      have es2 := hs2
      have hs2 := hs2.sub (w' := [17, 18, 20, 21, 22, 24, 25, 26, 28, 29, 30, b, b + 1, b + 3, b + 4, 16, 73, 74]) (List.forall_mem_cons.mpr ⟨(by simp), (List.forall_mem_cons.mpr ⟨(by simp), (List.forall_mem_cons.mpr ⟨(by simp), (List.forall_mem_cons.mpr ⟨(by simp), (List.forall_mem_cons.mpr ⟨(by simp), (List.forall_mem_cons.mpr ⟨(by simp), (List.forall_mem_cons.mpr ⟨(by simp), (List.forall_mem_cons.mpr ⟨(by simp), (List.forall_mem_cons.mpr ⟨(by simp), (List.forall_mem_cons.mpr ⟨(by simp), (List.forall_mem_cons.mpr ⟨(by simp), (List.forall_mem_cons.mpr ⟨(by simp), (List.forall_mem_cons.mpr ⟨(by simp), (List.forall_mem_cons.mpr ⟨(by simp), (List.forall_mem_cons.mpr ⟨(by simp), (fun _ h => by cases h)⟩)⟩)⟩)⟩)⟩)⟩)⟩)⟩)⟩)⟩)⟩)⟩)⟩)⟩)⟩)
      have k1 := es2.b.1 _ _ (nm_c (by decide) (nm_c (by decide) (nm_c (by decide) (nm_c (by decide) (nm_c (by decide) (nm_c (by decide) (nm_c (by decide) (nm_c (by decide) (nm_c (by decide) (nm_c (by decide) (nm_c (by decide) (nm_c ((by decide : ∀ v ∈ ArM, (16 : Nat) ≠ v) _ hbM) (nm_c ((by decide : ∀ v ∈ ArM, (16 : Nat) ≠ v + 1) _ hbM) (nm_c ((by decide : ∀ v ∈ ArM, (16 : Nat) ≠ v + 3) _ hbM) (nm_c ((by decide : ∀ v ∈ ArM, (16 : Nat) ≠ v + 4) _ hbM) nm_0))))))))))))))) (fun l z => by cases z) hNx1
      have k2 := es2.b.1 _ _ (nm_c ((by decide : ∀ u ∈ [73, 74], u ≠ 17) _ (mem2 fx1mo)) (nm_c ((by decide : ∀ u ∈ [73, 74], u ≠ 18) _ (mem2 fx1mo)) (nm_c ((by decide : ∀ u ∈ [73, 74], u ≠ 20) _ (mem2 fx1mo)) (nm_c ((by decide : ∀ u ∈ [73, 74], u ≠ 21) _ (mem2 fx1mo)) (nm_c ((by decide : ∀ u ∈ [73, 74], u ≠ 22) _ (mem2 fx1mo)) (nm_c ((by decide : ∀ u ∈ [73, 74], u ≠ 24) _ (mem2 fx1mo)) (nm_c ((by decide : ∀ u ∈ [73, 74], u ≠ 25) _ (mem2 fx1mo)) (nm_c ((by decide : ∀ u ∈ [73, 74], u ≠ 26) _ (mem2 fx1mo)) (nm_c ((by decide : ∀ u ∈ [73, 74], u ≠ 28) _ (mem2 fx1mo)) (nm_c ((by decide : ∀ u ∈ [73, 74], u ≠ 29) _ (mem2 fx1mo)) (nm_c ((by decide : ∀ u ∈ [73, 74], u ≠ 30) _ (mem2 fx1mo)) (nm_c ((by decide : ∀ u ∈ [73, 74], ∀ v ∈ ArM, u ≠ v) _ (mem2 fx1mo) _ hbM) (nm_c ((by decide : ∀ u ∈ [73, 74], ∀ v ∈ ArM, u ≠ v + 1) _ (mem2 fx1mo) _ hbM) (nm_c ((by decide : ∀ u ∈ [73, 74], ∀ v ∈ ArM, u ≠ v + 3) _ (mem2 fx1mo) _ hbM) (nm_c ((by decide : ∀ u ∈ [73, 74], ∀ v ∈ ArM, u ≠ v + 4) _ (mem2 fx1mo) _ hbM) nm_0))))))))))))))) (fun l z => by cases z) hix2
      have k3 := es2.b.1 _ _ (nm_c ((by decide : ∀ u ∈ [73, 74], u ≠ 17) _ (mem2 fx1sg)) (nm_c ((by decide : ∀ u ∈ [73, 74], u ≠ 18) _ (mem2 fx1sg)) (nm_c ((by decide : ∀ u ∈ [73, 74], u ≠ 20) _ (mem2 fx1sg)) (nm_c ((by decide : ∀ u ∈ [73, 74], u ≠ 21) _ (mem2 fx1sg)) (nm_c ((by decide : ∀ u ∈ [73, 74], u ≠ 22) _ (mem2 fx1sg)) (nm_c ((by decide : ∀ u ∈ [73, 74], u ≠ 24) _ (mem2 fx1sg)) (nm_c ((by decide : ∀ u ∈ [73, 74], u ≠ 25) _ (mem2 fx1sg)) (nm_c ((by decide : ∀ u ∈ [73, 74], u ≠ 26) _ (mem2 fx1sg)) (nm_c ((by decide : ∀ u ∈ [73, 74], u ≠ 28) _ (mem2 fx1sg)) (nm_c ((by decide : ∀ u ∈ [73, 74], u ≠ 29) _ (mem2 fx1sg)) (nm_c ((by decide : ∀ u ∈ [73, 74], u ≠ 30) _ (mem2 fx1sg)) (nm_c ((by decide : ∀ u ∈ [73, 74], ∀ v ∈ ArM, u ≠ v) _ (mem2 fx1sg) _ hbM) (nm_c ((by decide : ∀ u ∈ [73, 74], ∀ v ∈ ArM, u ≠ v + 1) _ (mem2 fx1sg) _ hbM) (nm_c ((by decide : ∀ u ∈ [73, 74], ∀ v ∈ ArM, u ≠ v + 3) _ (mem2 fx1sg) _ hbM) (nm_c ((by decide : ∀ u ∈ [73, 74], ∀ v ∈ ArM, u ≠ v + 4) _ (mem2 fx1sg) _ hbM) nm_0))))))))))))))) (fun l z => by cases z) hix3
      have k4 := es2.b.1 _ _ (nm_c ((by decide : ∀ u ∈ [63, 68], u ≠ 17) _ (mem2 fx1ou)) (nm_c ((by decide : ∀ u ∈ [63, 68], u ≠ 18) _ (mem2 fx1ou)) (nm_c ((by decide : ∀ u ∈ [63, 68], u ≠ 20) _ (mem2 fx1ou)) (nm_c ((by decide : ∀ u ∈ [63, 68], u ≠ 21) _ (mem2 fx1ou)) (nm_c ((by decide : ∀ u ∈ [63, 68], u ≠ 22) _ (mem2 fx1ou)) (nm_c ((by decide : ∀ u ∈ [63, 68], u ≠ 24) _ (mem2 fx1ou)) (nm_c ((by decide : ∀ u ∈ [63, 68], u ≠ 25) _ (mem2 fx1ou)) (nm_c ((by decide : ∀ u ∈ [63, 68], u ≠ 26) _ (mem2 fx1ou)) (nm_c ((by decide : ∀ u ∈ [63, 68], u ≠ 28) _ (mem2 fx1ou)) (nm_c ((by decide : ∀ u ∈ [63, 68], u ≠ 29) _ (mem2 fx1ou)) (nm_c ((by decide : ∀ u ∈ [63, 68], u ≠ 30) _ (mem2 fx1ou)) (nm_c ((by decide : ∀ u ∈ [63, 68], ∀ v ∈ ArM, u ≠ v) _ (mem2 fx1ou) _ hbM) (nm_c ((by decide : ∀ u ∈ [63, 68], ∀ v ∈ ArM, u ≠ v + 1) _ (mem2 fx1ou) _ hbM) (nm_c ((by decide : ∀ u ∈ [63, 68], ∀ v ∈ ArM, u ≠ v + 3) _ (mem2 fx1ou) _ hbM) (nm_c ((by decide : ∀ u ∈ [63, 68], ∀ v ∈ ArM, u ≠ v + 4) _ (mem2 fx1ou) _ hbM) nm_0))))))))))))))) (fun l z => by cases z) hax4
      refine TX.go 2 (fun n9 => (rfl : _ = exx ξ n9 (d + 8) j_N_mount 36 [(0, .ref 16), (1, J x), (2, J z2)] [J z2] s2)) ?_
      refine TX.if_eq rfl rfl rfl (by omega) (fun c3 => ?_) (fun c3 => ?_)
      · refine TX.go 1 (fun n9 => (rfl : _ = exx ξ n9 (d + 8) j_N_mount 74 [(0, .ref 16), (1, J x), (2, J z2)] [.ref 16] s2)) ?_
        refine TX.get rfl rfl rfl rfl k1 rfl ?_
        refine TX.go 1 (fun n9 => (rfl : _ = exx ξ n9 (d + 8) j_N_mount 79 [(0, .ref 16), (1, J x), (2, J z2)] [J 6, J mcx1] s2)) ?_
        refine TX.icmp_lt rfl rfl rfl (by omega) (by omega) (fun c4 => ?_) (fun c4 => ?_)
        · refine TX.go 1 (fun n9 => (rfl : _ = exx ξ n9 (d + 8) j_N_mount 93 [(0, .ref 16), (1, J x), (2, J z2)] [.ref 16] s2)) ?_
          refine TX.get rfl rfl rfl rfl k1 rfl ?_
          refine TX.go 1 (fun n9 => (rfl : _ = exx ξ n9 (d + 8) j_N_mount 97 [(0, .ref 16), (1, J x), (2, J z2)] [J 0, .ref sgx1] s2)) ?_
          have ge63 : lx3.getD (0 : Int).toNat none = some b := by have q := hE _ n13; rw [rls_of hix3] at q; exact q
          refine TX.aald rfl rfl k3 (by omega) ge63 ?_
          refine TX.go 2 (fun n9 => (rfl : _ = exx ξ n9 (d + 8) j_N_mount 100 [(0, .ref 16), (1, J x), (2, J z2), (3, .ref b)] [.ref 16] s2)) ?_
          refine TX.get rfl rfl rfl rfl k1 rfl ?_
          refine TX.go 2 (fun n9 => (rfl : _ = exx ξ n9 (d + 8) j_N_mount 105 [(0, .ref 16), (1, J x), (2, J z2), (3, .ref b)] [.ref 16, J 0, .ref sgx1] s2)) ?_
          refine TX.get rfl rfl rfl rfl k1 rfl ?_
          refine TX.go 1 (fun n9 => (rfl : _ = exx ξ n9 (d + 8) j_N_mount 109 [(0, .ref 16), (1, J x), (2, J z2), (3, .ref b)] [.ref 16, .ref mox1, J 0, .ref sgx1] s2)) ?_
          refine TX.get rfl rfl rfl rfl k1 rfl ?_
          obtain ⟨a3, hga3, hha3⟩ := em_at (x := mcx1) emx2 (by omega)
          refine TX.aald rfl rfl k2 (by omega) hga3 ?_
          obtain ⟨ex5, erx5, dix5, bax5, fpx5, hax5, fx5a, fx5b, fx5c, fx5d, fx5e, fx5f, fx5g, fx5h, fx5i, fx5j⟩ := hs2.1.arc (ArM_L hha3)
          have af3x5 := af_of (i := 3) hax5 rfl (by omega)
          subst af3x5
          have af4x5 := af_of (i := 4) hax5 rfl (by omega)
          subst af4x5
          have af5x5 := af_of (i := 5) hax5 rfl (by omega)
          subst af5x5
          have af6x5 := af_of (i := 6) hax5 rfl (by omega)
          subst af6x5
          have af7x5 := af_of (i := 7) hax5 rfl (by omega)
          subst af7x5
          refine TX.aastF (w := [16, 73, 74]) rfl rfl hs2.1 hax5 k3 emx3 (by omega) hha3 (na_mo fx1sg).2.1 (Or.inl (na_mo fx1sg).2.2) ((by decide : ∀ q ∈ [73, 74], q ∈ [16, 73, 74]) _ (mem2 fx1sg)) (fun s3 hs3 hcs3 hos3 => ?_)
          have ess3 := hs3
          have hs3 := hs3.sub (w' := [17, 18, 20, 21, 22, 24, 25, 26, 28, 29, 30, b, b + 1, b + 3, b + 4, 16, 73, 74]) (List.forall_mem_cons.mpr ⟨(by simp), (List.forall_mem_cons.mpr ⟨(by simp), (List.forall_mem_cons.mpr ⟨(by simp), (fun _ h => by cases h)⟩)⟩)⟩)
          have els3 := List.length_set (as := lx3) (i := (0 : Int).toNat) (a := some a3)
          have ems3 : ∀ y ∈ lx3.set (0 : Int).toNat (some a3), ∃ a : Nat, y = some a ∧ a ∈ ArM := hs3.1.2 _ _ hcs3
          have gs3 := hs2.trans hs3
          have k5 := hos3 ((by decide : ∀ v ∈ [73, 74], (16 : Nat) ≠ v) _ (mem2 fx1sg)) k1
          have k6 := hos3 hmq k2
          have k7 := hos3 ((by decide : ∀ u ∈ [63, 68], ∀ v ∈ [73, 74], u ≠ v) _ (mem2 fx1ou) _ (mem2 fx1sg)) k4
          have k8 := hos3 ((by decide : ∀ u ∈ ArM, ∀ v ∈ [73, 74], u ≠ v) _ hha3 _ (mem2 fx1sg)) hax5
          refine TX.go 1 (fun n9 => (rfl : _ = exx ξ n9 (d + 8) j_N_mount 115 [(0, .ref 16), (1, J x), (2, J z2), (3, .ref b)] [.ref 16] s3)) ?_
          refine TX.get rfl rfl rfl rfl k5 rfl ?_
          refine TX.go 1 (fun n9 => (rfl : _ = exx ξ n9 (d + 8) j_N_mount 119 [(0, .ref 16), (1, J x), (2, J z2), (3, .ref b)] [.ref 16, .ref mox1] s3)) ?_
          refine TX.get rfl rfl rfl rfl k5 rfl ?_
          refine TX.go 1 (fun n9 => (rfl : _ = exx ξ n9 (d + 8) j_N_mount 123 [(0, .ref 16), (1, J x), (2, J z2), (3, .ref b)] [.ref b, J mcx1, .ref mox1] s3)) ?_
          obtain ⟨ex6, erx6, dix6, bax6, fpx6, hax6, fx6a, fx6b, fx6c, fx6d, fx6e, fx6f, fx6g, fx6h, fx6i, fx6j⟩ := hs3.1.arc (ArM_L hbM)
          have af3x6 := af_of (i := 3) hax6 rfl (by omega)
          subst af3x6
          have af4x6 := af_of (i := 4) hax6 rfl (by omega)
          subst af4x6
          have af5x6 := af_of (i := 5) hax6 rfl (by omega)
          subst af5x6
          have af6x6 := af_of (i := 6) hax6 rfl (by omega)
          subst af6x6
          have af7x6 := af_of (i := 7) hax6 rfl (by omega)
          subst af7x6
          refine TX.aastF (w := [16, 73, 74]) rfl rfl hs3.1 hax6 k6 emx2 (by omega) hbM (na_mo fx1mo).2.1 (Or.inl (na_mo fx1mo).2.2) ((by decide : ∀ q ∈ [73, 74], q ∈ [16, 73, 74]) _ (mem2 fx1mo)) (fun s4 hs4 hcs4 hos4 => ?_)
          have ess4 := hs4
          have hs4 := hs4.sub (w' := [17, 18, 20, 21, 22, 24, 25, 26, 28, 29, 30, b, b + 1, b + 3, b + 4, 16, 73, 74]) (List.forall_mem_cons.mpr ⟨(by simp), (List.forall_mem_cons.mpr ⟨(by simp), (List.forall_mem_cons.mpr ⟨(by simp), (fun _ h => by cases h)⟩)⟩)⟩)
          have els4 := List.length_set (as := lx2) (i := (mcx1 : Int).toNat) (a := some b)
          have ems4 : ∀ y ∈ lx2.set (mcx1 : Int).toNat (some b), ∃ a : Nat, y = some a ∧ a ∈ ArM := hs4.1.2 _ _ hcs4
          have gs4 := gs3.trans hs4
          have k9 := hos4 (fun z => hmq z.symm) hcs3
          have k10 := hos4 ((by decide : ∀ v ∈ [73, 74], (16 : Nat) ≠ v) _ (mem2 fx1mo)) k5
          have k11 := hos4 ((by decide : ∀ u ∈ [63, 68], ∀ v ∈ [73, 74], u ≠ v) _ (mem2 fx1ou) _ (mem2 fx1mo)) k7
          have k12 := hos4 ((by decide : ∀ u ∈ ArM, ∀ v ∈ [73, 74], u ≠ v) _ hha3 _ (mem2 fx1mo)) k8
          have k13 := hos4 ((by decide : ∀ u ∈ ArM, ∀ v ∈ [73, 74], u ≠ v) _ hbM _ (mem2 fx1mo)) hax6
          refine TX.go 2 (fun n9 => (rfl : _ = exx ξ n9 (d + 8) j_N_mount 126 [(0, .ref 16), (1, J x), (2, J z2), (3, .ref b)] [.ref 16, .ref 16] s4)) ?_
          refine TX.get rfl rfl rfl rfl k10 rfl ?_
          refine TX.go 1 (fun n9 => (rfl : _ = exx ξ n9 (d + 8) j_N_mount 130 [(0, .ref 16), (1, J x), (2, J z2), (3, .ref b)] [J 1, J mcx1, .ref 16] s4)) ?_
          refine TX.iadd rfl rfl ?_
          refine TX.putF (w := [16, 73, 74]) rfl rfl rfl k10 rfl rfl rfl (fs' := [.ref 17, .ref 41, .ref 48, .ref 51, .ref 53, .ref 55, .ref 57, .ref kex1, .ref scx1, .ref tpx1, .ref oux1, J hox1, .ref mox1, .ref sgx1, J (mcx1 + 1), J lfx1, J lpx1]) rfl (Fr.other hs4.1 k10 rfl (show okN _ from ⟨_, _, _, _, _, _, _, _, _, _, rfl, by omega⟩) (by decide) (Or.inl (by decide)) (fun _ z => by cases z) (by simp)) (fun s5 hs5 hcs5 hos5 => ?_)
          have ess5 := hs5
          have hs5 := hs5.sub (w' := [17, 18, 20, 21, 22, 24, 25, 26, 28, 29, 30, b, b + 1, b + 3, b + 4, 16, 73, 74]) (List.forall_mem_cons.mpr ⟨(by simp), (List.forall_mem_cons.mpr ⟨(by simp), (List.forall_mem_cons.mpr ⟨(by simp), (fun _ h => by cases h)⟩)⟩)⟩)
          have gs5 := gs4.trans hs5
          have k14 := hos5 ((by decide : ∀ u ∈ [73, 74], u ≠ 16) _ (mem2 fx1mo)) hcs4
          have k15 := hos5 ((by decide : ∀ u ∈ [73, 74], u ≠ 16) _ (mem2 fx1sg)) k9
          have k16 := hos5 ((by decide : ∀ u ∈ [63, 68], u ≠ 16) _ (mem2 fx1ou)) k11
          have k17 := hos5 ((by decide : ∀ u ∈ ArM, u ≠ 16) _ hha3) k12
          have k18 := hos5 ((by decide : ∀ u ∈ ArM, u ≠ 16) _ hbM) k13
          refine TX.go 1 (fun n9 => (rfl : _ = exx ξ n9 (d + 8) j_N_mount 135 [(0, .ref 16), (1, J x), (2, J z2), (3, .ref b)] [.ref 16] s5)) ?_
          refine TX.get rfl rfl rfl rfl hcs5 rfl ?_
          have h14n := af_of (i := 14) hcs5 rfl (by omega)
          obtain ⟨oq, mq, sq⟩ := pz2_0 (by omega)
          exact TX.ireti rfl rfl rfl (QX_l ⟨_, rfl, gs5, by omega, by omega, by omega, by omega, by omega, by omega, by omega, (by omega), ((nMo_of ((nfi_of (i := 12) hcs5).trans rfl) k14).trans (by rw [m12, h14])), ((nSg_of ((nfi_of (i := 13) hcs5).trans rfl) k15).trans (by rw [m12, m13, h14, hga3]; rfl)), ⟨(nfi_of (i := 9) hcs5).trans (nfi_of (i := 9) hNx1).symm, (nfi_of (i := 10) hcs5).trans (nfi_of (i := 10) hNx1).symm, (nfi_of (i := 11) hcs5).trans (nfi_of (i := 11) hNx1).symm, (nfi_of (i := 12) hcs5).trans (nfi_of (i := 12) hNx1).symm, (nfi_of (i := 13) hcs5).trans (nfi_of (i := 13) hNx1).symm⟩, ⟨oq, mq, sq.fr hs2.1 (hs2.b.2 hNA).1 (ArM_L hbM) ((ess3.trans ess4).trans ess5) ((by decide : ∀ v ∈ ArM, v ∉ [16, 73, 74]) _ hbM) ((by decide : ∀ v ∈ ArM, v + 1 ∉ [16, 73, 74]) _ hbM) ((by decide : ∀ v ∈ ArM, v + 3 ∉ [16, 73, 74]) _ hbM) ((by decide : ∀ v ∈ ArM, v + 4 ∉ [16, 73, 74]) _ hbM)⟩⟩)
        · have tq1 : nsx s2 = nsx σ := (nsx_of k1).trans (nsx_of hNx1).symm
          exact TX.throw (Nat.ble_eq_true_of_le (by omega)) rfl rfl (QX_r (by decide) hs2 ⟨tq1, (nMo_of ((nsx_12 tq1).trans n12) k2).trans m12.symm, (nSg_of ((nsx_13 tq1).trans n13) k3).trans m13.symm, (fun q1 q2 q3 q4 => by first | exact pz2_1 (by omega) | (exfalso; omega))⟩)
      · refine TX.go 4 (fun n9 => (rfl : _ = exx ξ n9 (d + 8) j_N_mount 44 [(0, .ref 16), (1, J x), (2, J z2)] [J 6, J z2, J z2, .ref 16] s2)) ?_
        refine TX.icmp_lt rfl rfl rfl (by omega) (by omega) (fun c5 => ?_) (fun c5 => ?_)
        · refine TX.go 1 (fun n9 => (rfl : _ = exx ξ n9 (d + 8) j_N_mount 52 [(0, .ref 16), (1, J x), (2, J z2)] [.ref 16, J z2, .ref 16] s2)) ?_
          refine TX.get rfl rfl rfl rfl k1 rfl ?_
          refine TX.go 1 (fun n9 => (rfl : _ = exx ξ n9 (d + 8) j_N_mount 56 [(0, .ref 16), (1, J x), (2, J z2)] [J 0, .ref sgx1, J z2, .ref 16] s2)) ?_
          have ge146 : lx3.getD (0 : Int).toNat none = some b := by have q := hE _ n13; rw [rls_of hix3] at q; exact q
          refine TX.aald rfl rfl k3 (by omega) ge146 ?_
          obtain ⟨ex7, erx7, dix7, bax7, fpx7, hax7, fx7a, fx7b, fx7c, fx7d, fx7e, fx7f, fx7g, fx7h, fx7i, fx7j⟩ := hs2.1.arc (ArM_L hbM)
          have af3x7 := af_of (i := 3) hax7 rfl (by omega)
          subst af3x7
          have af4x7 := af_of (i := 4) hax7 rfl (by omega)
          subst af4x7
          have af5x7 := af_of (i := 5) hax7 rfl (by omega)
          subst af5x7
          have af6x7 := af_of (i := 6) hax7 rfl (by omega)
          subst af6x7
          have af7x7 := af_of (i := 7) hax7 rfl (by omega)
          subst af7x7
          refine TX.get rfl rfl rfl rfl hax7 rfl ?_
          have tq2 : nsx s2 = nsx σ := (nsx_of k1).trans (nsx_of hNx1).symm
          refine TX.callv (as := [J z2, J (afld s2 b 7)]) (r := []) rfl rfl rfl rfl rfl k1 rfl (s_N_note (d + 7) z2 (afld s2 b 7) s2 hs2.1   (by omega) (by omega)) (fun v3 s6 hqs6 => ?_)
          obtain ⟨rfl, hs6, pz3_0⟩ := hqs6
          have es6 := hs6
          have hs6 := hs6.sub (w' := [17, 18, 20, 21, 22, 24, 25, 26, 28, 29, 30, b, b + 1, b + 3, b + 4, 16, 73, 74]) (List.forall_mem_cons.mpr ⟨(by simp), (fun _ h => by cases h)⟩)
          have k19 := es6.b.1 _ _ (nm_c ((by decide : ∀ u ∈ [73, 74], u ≠ 16) _ (mem2 fx1mo)) nm_0) (fun l z => by cases z) k2
          have k20 := es6.b.1 _ _ (nm_c ((by decide : ∀ u ∈ [73, 74], u ≠ 16) _ (mem2 fx1sg)) nm_0) (fun l z => by cases z) k3
          have k21 := es6.b.1 _ _ (nm_c ((by decide : ∀ u ∈ [63, 68], u ≠ 16) _ (mem2 fx1ou)) nm_0) (fun l z => by cases z) k4
          have k22 := es6.b.1 _ _ (nm_c ((by decide : ∀ u ∈ ArM, u ≠ 16) _ hbM) nm_0) (fun l z => by cases z) hax7
          have gs6 := hs2.trans hs6
          have tq3 := pz3_0.trans tq2
          exact TX.throw (Nat.ble_eq_true_of_le (by omega)) rfl rfl (QX_r (by decide) gs6 ⟨tq3, (nMo_of ((nsx_12 tq3).trans n12) k19).trans m12.symm, (nSg_of ((nsx_13 tq3).trans n13) k20).trans m13.symm, (fun q1 q2 q3 q4 => by first | exact pz2_1 (by omega) | (exfalso; omega))⟩)
        · refine TX.go 2 (fun n9 => (rfl : _ = exx ξ n9 (d + 8) j_N_mount 60 [(0, .ref 16), (1, J x), (2, J z2)] [J x, J z2, .ref 16] s2)) ?_
          have tq4 : nsx s2 = nsx σ := (nsx_of k1).trans (nsx_of hNx1).symm
          refine TX.callv (as := [J z2, J x]) (r := []) rfl rfl rfl rfl rfl k1 rfl (s_N_note (d + 7) z2 x s2 hs2.1   (by omega) (by omega)) (fun v4 s7 hqs7 => ?_)
          obtain ⟨rfl, hs7, pz4_0⟩ := hqs7
          have es7 := hs7
          have hs7 := hs7.sub (w' := [17, 18, 20, 21, 22, 24, 25, 26, 28, 29, 30, b, b + 1, b + 3, b + 4, 16, 73, 74]) (List.forall_mem_cons.mpr ⟨(by simp), (fun _ h => by cases h)⟩)
          have k23 := es7.b.1 _ _ (nm_c ((by decide : ∀ u ∈ [73, 74], u ≠ 16) _ (mem2 fx1mo)) nm_0) (fun l z => by cases z) k2
          have k24 := es7.b.1 _ _ (nm_c ((by decide : ∀ u ∈ [73, 74], u ≠ 16) _ (mem2 fx1sg)) nm_0) (fun l z => by cases z) k3
          have k25 := es7.b.1 _ _ (nm_c ((by decide : ∀ u ∈ [63, 68], u ≠ 16) _ (mem2 fx1ou)) nm_0) (fun l z => by cases z) k4
          have gs7 := hs2.trans hs7
          have tq5 := pz4_0.trans tq4
          exact TX.throw (Nat.ble_eq_true_of_le (by omega)) rfl rfl (QX_r (by decide) gs7 ⟨tq5, (nMo_of ((nsx_12 tq5).trans n12) k23).trans m12.symm, (nSg_of ((nsx_13 tq5).trans n13) k24).trans m13.symm, (fun q1 q2 q3 q4 => by first | exact pz2_1 (by omega) | (exfalso; omega))⟩)
    · exact TX.throw (Nat.ble_eq_true_of_le (by omega)) rfl rfl (QX_r (by decide) (Fr.refl hK) ⟨rfl, rfl, rfl, (fun q1 q2 q3 q4 => by exfalso; omega)⟩)
