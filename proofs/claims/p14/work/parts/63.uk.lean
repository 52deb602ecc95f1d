/-! The manifest: the class, a line joined. -/
def SST (σ : qH) (u : Int → Int) (f e : Int) (v : Int → Int) (nq : Int) (i : Nat) (pre : List Int) : Prop := (MS0 σ ∧ i = 0 ∧ pre = []) ∨ MST σ u f e v nq i pre
theorem SST_kn {σ : qH} {u v : Int → Int} {f e nq : Int} {i : Nat} {pre : List Int} (h : SST σ u f e v nq i pre) : KNP σ := by
  rcases h with ⟨h, -⟩ | h
  · intro j j0 j1
    have := h.1
    omega
  · exact MST_kn h
theorem SST_op {σ : qH} {u v : Int → Int} {f e nq : Int} {i : Nat} {pre : List Int} (h : SST σ u f e v nq i pre) : OPN σ (nb σ 42) pre := by
  intro q
  rcases h with ⟨h, -⟩ | h
  · have := h.2.1
    omega
  · exact ⟨h.2.2.1, h.2.2.2.1⟩
theorem SST_r {σ : qH} {u v : Int → Int} {f e nq : Int} {i : Nat} {pre : List Int} (h : SST σ u f e v nq i pre) : -1 ≤ afld σ 41 4 ∧ (afld σ 41 4 = -1 → MS0 σ ∧ i = 0 ∧ pre = []) ∧ (0 ≤ afld σ 41 4 → MST σ u f e v nq i pre) ∧ afld σ 41 3 = i := by
  rcases h with h | h
  · have := h.1.2.1
    have h3 := h.1.1
    exact ⟨by omega, fun _ => h, fun q => by omega, by rw [h3, h.2.1]; rfl⟩
  · have := h.2.1
    exact ⟨by omega, fun q => by omega, fun _ => h, h.1⟩

set_option maxRecDepth 10000 in
set_option maxHeartbeats 4000000 in
theorem s_F_fjoinLine {ξ : Nat → Option (Nat × List Int32)} (d : Nat) (g : Int → Int) (fe e : Int) (vq : Int → Int) (nq : Int) (i : Nat) (pre : List Int) (r : Nat) (x : Int) (n : Int) (σ : qH) (hK : K σ) (hr : r ∈ RwL) (hr42 : r ≠ 42) (hNA : NA σ) (hg : AGR σ r g) (hv : ∀ o : Nat, msk σ = some (.ref o) → AGR σ o vq ∧ rl σ o = nq) (hst : SST σ g fe e vq nq i pre) (hp : g x ≠ 32 → 0 ≤ afld σ 41 4 → pre = LIN g fe e (BRl g fe e i)) (rx : -2147483648 ≤ x ∧ x ≤ 2147483647) (rn : -2147483648 ≤ n ∧ n ≤ 2147483647) (pre0 : 0 ≤ x) (pre1 : x + n ≤ rl σ r) (pre2 : 1 ≤ n) (pre3 : rl σ 42 + n ≤ 8000) (pre4 : afld σ 41 3 < 2000) : T ξ (d + 4) j_F_joinLine 0 (lv_args 0 [.ref 41, .ref r, J x, J n]) [] σ (fun v σ' => ∃ z : Int, v = some (J z) ∧ Fr [41, 44, 45, 42] σ σ' ∧ 0 ≤ z ∧ z ≤ 1 ∧ (g x = 32 → afld σ 41 4 = -1 → z = 0) ∧ (g x = 32 → 0 ≤ afld σ 41 4 → z = 1 ∧ MST σ' g fe e vq nq i (pre ++ SB g (n - 1).toNat (x + 1))) ∧ (g x ≠ 32 → afld σ 41 4 = -1 → z = 1 ∧ MST σ' g fe e vq nq 0 (SB g n.toNat x)) ∧ (g x ≠ 32 → 0 ≤ afld σ 41 4 → z = 0 → ¬ OKL g fe e i) ∧ (g x ≠ 32 → 0 ≤ afld σ 41 4 → z = 1 → OKL g fe e i ∧ MST σ' g fe e vq nq (i + 1) (SB g n.toNat x)) ∧ (z = 1 → rl σ' 42 ≤ rl σ 42 + n) ∧ (z = 1 → msk σ' = msk σ)) := by
  obtain ⟨nx1, osx1, vsx1, vlx1, asx1, hmx1, fx1a, fx1b, fx1c, fx1d, fx1e, fx1f, fx1g, fx1h, fx1i⟩ := hK.man
  have af3x1 := af_of (i := 3) hmx1 rfl (by omega)
  subst af3x1
  have af4x1 := af_of (i := 4) hmx1 rfl (by omega)
  subst af4x1
  have af6x1 := af_of (i := 6) hmx1 rfl (by omega)
  subst af6x1
  have af7x1 := af_of (i := 7) hmx1 rfl (by omega)
  subst af7x1
  obtain ⟨mx2, nx2, bx2, lx2, hrx2, hbx2, fx2a, fx2b, fx2c, fx2d, fx2e, fx2g, fx2h, fx2i⟩ := hK.row (r := 42) (by decide)
  have ctx2 := CT_of hrx2 hbx2
  have rwx2 := rl_of hrx2 (by omega)
  subst rwx2
  obtain ⟨mx3, nx3, bx3, lx3, hrx3, hbx3, fx3a, fx3b, fx3c, fx3d, fx3e, fx3g, fx3h, fx3i⟩ := hK.row hr
  have ctx3 := CT_of hrx3 hbx3
  have rwx3 := rl_of hrx3 (by omega)
  subst rwx3
  obtain ⟨sr1, sr2, sr3, sr4⟩ := SST_r hst
  have m42 : mst 42 = 8000 := by decide
  refine T.go 2 (fun n9 => (rfl : _ = exe ξ n9 (d + 4) j_F_joinLine 2 [(0, .ref 41), (1, .ref r), (2, J x), (3, J n)] [J x, .ref r] σ)) ?_
  refine T.callv (as := [J x]) (r := []) rfl rfl rfl (RwL_lt _ hr).2.2.1 hrx3 rfl (s_R_fat (d + 3) g r x σ hK hr hg (by omega)) (fun v1 s1 hqs1 => ?_)
  obtain ⟨z1, rfl, esz1, hzz1, hyz1, pz1_0, pz1_1⟩ := hqs1
  rw [esz1]
  have ea := pz1_0 (by omega) (by omega)
  refine T.go 1 (fun n9 => (rfl : _ = exe ξ n9 (d + 4) j_F_joinLine 7 [(0, .ref 41), (1, .ref r), (2, J x), (3, J n)] [J 32, J z1] σ)) ?_
  refine T.icmp_ne rfl rfl (by omega) (by omega) (fun c1 => ?_) (fun c1 => ?_)
  · refine T.go 1 (fun n9 => (rfl : _ = exe ξ n9 (d + 4) j_F_joinLine 42 [(0, .ref 41), (1, .ref r), (2, J x), (3, J n)] [.ref 41] σ)) ?_
    refine T.callv (as := []) (r := []) rfl rfl rfl rfl hmx1 rfl (s_F_fcloseLine d (nb σ 42) pre vq nq  σ hK  nb_ag (SST_kn hst) (SST_op hst) hv hNA (by omega) (by omega)) (fun v2 s2 hqs2 => ?_)
    obtain ⟨z2, rfl, hs2, hzz2, hyz2, pz2_0, pz2_1, pz2_2⟩ := hqs2
    have es2 := hs2
    have hs2 := hs2.sub (w' := [41, 44, 45, 42]) (List.forall_mem_cons.mpr ⟨(by simp), (List.forall_mem_cons.mpr ⟨(by simp), (List.forall_mem_cons.mpr ⟨(by simp), (fun _ h => by cases h)⟩)⟩)⟩)
    have k1 := es2.b.1 _ _ (nm_c (by decide) (nm_c (by decide) (nm_c (by decide) nm_0))) (fun l z => by cases z) hrx2
    have k2 := es2.b.1 _ _ (nm_c (dq_148 _ hr) (nm_c (dq_146 _ hr) (nm_c (dq_147 _ hr) nm_0))) (fun l z => by cases z) hrx3
    have nb1 : nb s2 42 = nb σ 42 := nb_fr hNA es2 (by decide) (by decide)
    have rl1 : rl s2 42 = rl σ 42 := rl_eq (es2.2.2.1 42 (by decide) (by decide))
    have rlr : rl s2 r = rl σ r := rl_eq (es2.2.2.1 r (List.mem_cons_of_mem _ hr) (nm_c (dq_148 _ hr) (nm_c (dq_146 _ hr) (nm_c (dq_147 _ hr) nm_0))))
    have na1 := (es2.b.2 hNA).1
    have hg1 := hg.fr hNA es2 hr (nm_c (dq_148 _ hr) (nm_c (dq_146 _ hr) (nm_c (dq_147 _ hr) nm_0)))
    obtain ⟨nx4, osx4, vsx4, vlx4, asx4, hmx4, fx4a, fx4b, fx4c, fx4d, fx4e, fx4f, fx4g, fx4h, fx4i⟩ := hs2.1.man
    have af3x4 := af_of (i := 3) hmx4 rfl (by omega)
    subst af3x4
    have af4x4 := af_of (i := 4) hmx4 rfl (by omega)
    subst af4x4
    have af6x4 := af_of (i := 6) hmx4 rfl (by omega)
    subst af6x4
    have af7x4 := af_of (i := 7) hmx4 rfl (by omega)
    subst af7x4
    obtain ⟨lx5, hix5, elx5⟩ := hs2.1.ints kdX_44
    have ilx5 := il_of hix5
    obtain ⟨lx6, hix6, elx6⟩ := hs2.1.ints kdX_45
    have ilx6 := il_of hix6
    refine T.if_ne rfl rfl (by omega) (fun c2 => ?_) (fun c2 => ?_)
    · refine T.go 2 (fun n9 => (rfl : _ = exe ξ n9 (d + 4) j_F_joinLine 52 [(0, .ref 41), (1, .ref r), (2, J x), (3, J n)] [.ref 41, .ref 41] s2)) ?_
      refine T.get rfl rfl rfl hmx4 rfl ?_
      refine T.get rfl rfl rfl k1 rfl ?_
      refine T.putF (w := [41, 44, 45]) rfl rfl hmx4 rfl rfl rfl (fs' := [.ref 42, .ref 44, .ref 45, J (afld s2 41 3), J (rl σ 42), .ref asx4, J (afld s2 41 6), J (afld s2 41 7)]) rfl (Fr.other hs2.1 hmx4 rfl (show okM _ from ⟨_, _, _, _, _, rfl, by omega, by omega, by omega, by omega, fx4e, by omega⟩) (by decide) (Or.inl (by decide)) (fun _ z => by cases z) (by simp)) (fun s3 hs3 hcs3 hos3 => ?_)
      have ess3 := hs3
      have hs3 := hs3.sub (w' := [41, 44, 45, 42]) (List.forall_mem_cons.mpr ⟨(by simp), (List.forall_mem_cons.mpr ⟨(by simp), (List.forall_mem_cons.mpr ⟨(by simp), (fun _ h => by cases h)⟩)⟩)⟩)
      have gs3 := hs2.trans hs3
      have rl2 : rl s3 42 = rl σ 42 := rl_eq ((es2.trans ess3).2.2.1 42 (by decide) (by decide))
      have rlr2 : rl s3 r = rl σ r := rl_eq ((es2.trans ess3).2.2.1 r (List.mem_cons_of_mem _ hr) (nm_c (dq_148 _ hr) (nm_c (dq_146 _ hr) (nm_c (dq_147 _ hr) nm_0))))
      have hg2 := hg.fr hNA (es2.trans ess3) hr (nm_c (dq_148 _ hr) (nm_c (dq_146 _ hr) (nm_c (dq_147 _ hr) nm_0)))
      have nb2 : AGR s3 42 (nb σ 42) := (nb_ag (σ := σ) (r := 42)).fr hNA (es2.trans ess3) (by decide) (by decide)
      have k3 := hos3 (by decide) k1
      have k4 := hos3 (dq_148 _ hr) k2
      have k5 := hos3 (by decide) hix5
      have k6 := hos3 (by decide) hix6
      refine T.go 1 (fun n9 => (rfl : _ = exe ξ n9 (d + 4) j_F_joinLine 62 [(0, .ref 41), (1, .ref r), (2, J x), (3, J n)] [.ref 41] s3)) ?_
      refine T.get rfl rfl rfl hcs3 rfl ?_
      refine T.go 3 (fun n9 => (rfl : _ = exe ξ n9 (d + 4) j_F_joinLine 68 [(0, .ref 41), (1, .ref r), (2, J x), (3, J n)] [J n, J x, .ref r, .ref 42] s3)) ?_
      refine T.callv (as := [.ref r, J x, J n]) (r := []) rfl rfl rfl rfl k3 rfl (s_R_faddPart (d + 2) 42 r x n s3 hs3.1 (by decide) hr hr42 (by omega) (by omega) (by omega) (by omega) (by omega) (by omega)) (fun v3 s4 hqs4 => ?_)
      obtain ⟨z3, rfl, hs4, hzz3, hyz3, pz3_0, pz3_1, pz3_2, pz3_3⟩ := hqs4
      have es4 := hs4
      have hs4 := hs4.sub (w' := [41, 44, 45, 42]) (List.forall_mem_cons.mpr ⟨(by simp), (fun _ h => by cases h)⟩)
      have k7 := es4.b.1 _ _ (nm_c (by decide) nm_0) (fun l z => by cases z) hcs3
      have k8 := es4.b.1 _ _ (nm_c hr42 nm_0) (fun l z => by cases z) k4
      have k9 := es4.b.1 _ _ (nm_c (by decide) nm_0) (fun l z => by cases z) k5
      have k10 := es4.b.1 _ _ (nm_c (by decide) nm_0) (fun l z => by cases z) k6
      have gs4 := gs3.trans hs4
      subst pz3_2
      exact T.iretz rfl rfl (by omega) ⟨_, rfl, gs4, by omega, by omega, (fun _ q => by first | rfl | (exfalso; omega)), (fun q1 q2 => by exfalso; omega), (fun _ q => by have ms := (pz2_0 (by omega)).2; have m0 := (sr2 (by omega)).1; exact ⟨rfl, MST_new (i := 0) ((af_of (i := 3) k7 rfl (by omega)).trans (ms.1.trans m0.1)) (fun j hj => absurd hj (Nat.not_lt_zero j)) (Or.inl ⟨(af_of (i := 6) k7 rfl (by omega)).trans (ms.2.2.1.trans m0.2.2.2), fun j hj => absurd hj (Nat.not_lt_zero j)⟩) (af_of (i := 4) k7 rfl (by omega)) (by omega) (by have q := pz3_3 g (nb σ 42) hg2 nb2; rw [rl2] at q; exact q) (by have q := pz3_1; omega)⟩), (fun _ _ q => absurd q (by decide)), (fun _ _ _ => by have M := sr3 (by omega); have cl := pz2_2 (by omega) (by omega); rw [hp (by omega) (by omega)] at M cl; obtain ⟨o1, o2, o3, o4⟩ := MST_cl M cl nb1 rl1; rw [nb1, rl1] at o3; exact ⟨o1, MST_new ((af_of (i := 3) k7 rfl (by omega)).trans o2) (by rw [((il_of k9).trans (il_of hix5).symm), ((il_of k10).trans (il_of hix6).symm)]; exact o3) (by rw [((il_of k9).trans (il_of hix5).symm), (af_of (i := 6) k7 rfl (by omega)), (af_of (i := 7) k7 rfl (by omega))]; exact o4) (af_of (i := 4) k7 rfl (by omega)) (by omega) (by have q := pz3_3 g (nb σ 42) hg2 nb2; rw [rl2] at q; exact q) (by have q := pz3_1; omega)⟩), (fun _ => by have q := pz3_1; omega), (fun _ => by have q := (msk_of k7).trans rfl; first | exact (msk_of k7).trans (msk_of hmx1).symm | exact ((msk_of k7).trans (msk_of hmx4).symm).trans (by rcases (by omega : afld σ 41 4 = -1 ∨ 0 ≤ afld σ 41 4) with q9 | q9; (· exact (pz2_0 q9).2.2.2.2.2.2.2); exact (pz2_2 q9 (by omega)).2.2.2.2.2.1))⟩
    · refine T.go 1 (fun n9 => (rfl : _ = exe ξ n9 (d + 4) j_F_joinLine 49 [(0, .ref 41), (1, .ref r), (2, J x), (3, J n)] [J 0] s2)) ?_
      exact T.iretz rfl rfl (by omega) ⟨_, rfl, hs2, by omega, by omega, (fun _ q => by first | rfl | (exfalso; omega)), (fun q1 q2 => by exfalso; omega), (fun q1 q2 => by exfalso; first | omega | (have q := (pz2_0 (by omega)).1; omega)), (fun _ _ _ ok => by have M := sr3 (by omega); have cl := pz2_1 (by omega) (by omega); rw [hp (by omega) (by omega)] at M cl; have k := (MST_ok M).mpr ok; rcases cl with q | q; (· exact k.1 q); exact q k.2), (fun _ _ q => absurd q (by decide)), (fun q => absurd q (by decide)), (fun q => absurd q (by decide))⟩
  · refine T.go 1 (fun n9 => (rfl : _ = exe ξ n9 (d + 4) j_F_joinLine 11 [(0, .ref 41), (1, .ref r), (2, J x), (3, J n)] [.ref 41] σ)) ?_
    refine T.get rfl rfl rfl hmx1 rfl ?_
    refine T.go 1 (fun n9 => (rfl : _ = exe ξ n9 (d + 4) j_F_joinLine 15 [(0, .ref 41), (1, .ref r), (2, J x), (3, J n)] [J (-1), J (afld σ 41 4)] σ)) ?_
    refine T.icmp_eq rfl rfl (by omega) (by omega) (fun c3 => ?_) (fun c3 => ?_)
    · refine T.go 1 (fun n9 => (rfl : _ = exe ξ n9 (d + 4) j_F_joinLine 40 [(0, .ref 41), (1, .ref r), (2, J x), (3, J n)] [J 0] σ)) ?_
      exact T.iretz rfl rfl (by omega) ⟨_, rfl, (Fr.refl hK), by omega, by omega, (fun _ q => by first | rfl | (exfalso; omega)), (fun q1 q2 => by exfalso; omega), (fun q1 q2 => by exfalso; first | omega | (have q := (pz2_0 (by omega)).1; omega)), (fun q1 q2 _ => by exfalso; omega), (fun _ _ q => absurd q (by decide)), (fun q => absurd q (by decide)), (fun _ => rfl)⟩
    · refine T.go 1 (fun n9 => (rfl : _ = exe ξ n9 (d + 4) j_F_joinLine 19 [(0, .ref 41), (1, .ref r), (2, J x), (3, J n)] [.ref 41] σ)) ?_
      refine T.get rfl rfl rfl hmx1 rfl ?_
      refine T.go 3 (fun n9 => (rfl : _ = exe ξ n9 (d + 4) j_F_joinLine 25 [(0, .ref 41), (1, .ref r), (2, J x), (3, J n)] [J 1, J x, .ref r, .ref 42] σ)) ?_
      refine T.iadd rfl ?_
      refine T.go 2 (fun n9 => (rfl : _ = exe ξ n9 (d + 4) j_F_joinLine 28 [(0, .ref 41), (1, .ref r), (2, J x), (3, J n)] [J 1, J n, J (x + 1), .ref r, .ref 42] σ)) ?_
      refine T.isub rfl ?_
      refine T.callv (as := [.ref r, J (x + 1), J (n - 1)]) (r := []) rfl rfl rfl rfl hrx2 rfl (s_R_faddPart (d + 2) 42 r (x + 1) (n - 1) σ hK (by decide) hr hr42 (by omega) (by omega) (by omega) (by omega) (by omega) (by omega)) (fun v4 s5 hqs5 => ?_)
      obtain ⟨z4, rfl, hs5, hzz4, hyz4, pz4_0, pz4_1, pz4_2, pz4_3⟩ := hqs5
      have es5 := hs5
      have hs5 := hs5.sub (w' := [41, 44, 45, 42]) (List.forall_mem_cons.mpr ⟨(by simp), (fun _ h => by cases h)⟩)
      have k11 := es5.b.1 _ _ (nm_c (by decide) nm_0) (fun l z => by cases z) hmx1
      have k12 := es5.b.1 _ _ (nm_c hr42 nm_0) (fun l z => by cases z) hrx3
      subst pz4_2
      refine T.go 3 (fun n9 => (rfl : _ = exe ξ n9 (d + 4) j_F_joinLine 40 [(0, .ref 41), (1, .ref r), (2, J x), (3, J n)] [J 1] s5)) ?_
      exact T.iretz rfl rfl (by omega) ⟨_, rfl, hs5, by omega, by omega, (fun _ q => by first | rfl | (exfalso; omega)), (fun _ _ => ⟨rfl, MST_go (sr3 (by omega)) ⟨(af_of (i := 3) k11 rfl (by omega)), (af_of (i := 4) k11 rfl (by omega)), (af_of (i := 6) k11 rfl (by omega)), (af_of (i := 7) k11 rfl (by omega)), il_fr hK kdX_44 es5 (by decide), il_fr hK kdX_45 es5 (by decide), (msk_of k11).trans (msk_of hmx1).symm⟩ (pz4_3 g (nb σ 42) hg nb_ag) (by have q := pz4_1; omega)⟩), (fun q1 q2 => by exfalso; first | omega | (have q := (pz2_0 (by omega)).1; omega)), (fun _ _ q => absurd q (by decide)), (fun q1 q2 _ => by exfalso; omega), (fun _ => by have q := pz4_1; omega), (fun _ => by have q := (msk_of k11).trans rfl; first | exact (msk_of k11).trans (msk_of hmx1).symm | exact ((msk_of k11).trans (msk_of hmx4).symm).trans (by rcases (by omega : afld σ 41 4 = -1 ∨ 0 ≤ afld σ 41 4) with q9 | q9; (· exact (pz2_0 q9).2.2.2.2.2.2.2); exact (pz2_2 q9 (by omega)).2.2.2.2.2.1))⟩
