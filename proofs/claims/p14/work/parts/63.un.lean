/-! The manifest: the class, all of it learnt. -/

set_option maxRecDepth 10000 in
set_option maxHeartbeats 4000000 in
theorem s_F_flearn {ξ : Nat → Option (Nat × List Int32)} (d : Nat) (g : Int → Int) (e : Int) (vq : Int → Int) (nq : Int) (r : Nat) (o : Nat) (σ : qH) (hK : K σ) (hr : r ∈ RwL) (ho : o ∈ RwL) (hr42 : r ≠ 42) (ho42 : o ≠ 42) (hNA : NA σ) (hg : AGR σ r g) (hgo : AGR σ o vq) (hnq : rl σ o = nq) (hi : IME g (rl σ r) e) (pre0 : (rl σ r) ≤ 8000) (pre1 : e ≤ 8000) : T ξ (d + 5) j_F_learn 0 (lv_args 0 [.ref 41, .ref r, .ref o]) [] σ (fun v σ' => ∃ z : Int, v = some (J z) ∧ Fr [41, 44, 45, 42] σ σ' ∧ 0 ≤ z ∧ z ≤ 1 ∧ (z = 0 → ¬ MFV g (rl σ r) e) ∧ (z = 1 → MFV g (rl σ r) e ∧ LVR σ' g (rl σ r) e vq nq)) := by
  obtain ⟨nx1, osx1, vsx1, vlx1, asx1, hmx1, fx1a, fx1b, fx1c, fx1d, fx1e, fx1f, fx1g, fx1h, fx1i⟩ := hK.man
  have af3x1 := af_of (i := 3) hmx1 rfl (by omega)
  subst af3x1
  have af4x1 := af_of (i := 4) hmx1 rfl (by omega)
  subst af4x1
  have af6x1 := af_of (i := 6) hmx1 rfl (by omega)
  subst af6x1
  have af7x1 := af_of (i := 7) hmx1 rfl (by omega)
  subst af7x1
  obtain ⟨mx2, nx2, bx2, lx2, hrx2, hbx2, fx2a, fx2b, fx2c, fx2d, fx2e, fx2g, fx2h, fx2i⟩ := hK.row (r := 42) (by decide)
  have ctx2 := CT_of hrx2 hbx2
  have rwx2 := rl_of hrx2 (by omega)
  subst rwx2
  obtain ⟨mx3, nx3, bx3, lx3, hrx3, hbx3, fx3a, fx3b, fx3c, fx3d, fx3e, fx3g, fx3h, fx3i⟩ := hK.row hr
  have ctx3 := CT_of hrx3 hbx3
  have rwx3 := rl_of hrx3 (by omega)
  subst rwx3
  obtain ⟨mx4, nx4, bx4, lx4, hrx4, hbx4, fx4a, fx4b, fx4c, fx4d, fx4e, fx4g, fx4h, fx4i⟩ := hK.row ho
  have ctx4 := CT_of hrx4 hbx4
  have rwx4 := rl_of hrx4 (by omega)
  subst rwx4
  have loop40 : ∀ (f : Nat) (um : Int) (x : Int) (k : Int) (τ : qH), Fr [41, 44, 45, 42] σ τ → 0 ≤ um → um ≤ 1 → 0 ≤ x → x ≤ rl σ r + 1 → 0 ≤ k → k ≤ x → LRU τ g (rl σ r) e vq nq um x → LGI g (rl σ r) x → rl τ 42 ≤ x → N32 τ g um x → msk τ = some (.ref o) → (8001 - k).toNat < f → T ξ (d + 5) j_F_learn 40 [(0, .ref 41), (1, .ref r), (2, .ref o), (3, J um), (4, J x), (5, J k)] [] τ (fun v σ' => ∃ z : Int, v = some (J z) ∧ Fr [41, 44, 45, 42] σ σ' ∧ 0 ≤ z ∧ z ≤ 1 ∧ (z = 0 → ¬ MFV g (rl σ r) e) ∧ (z = 1 → MFV g (rl σ r) e ∧ LVR σ' g (rl σ r) e vq nq)) := by
    intro f
    induction f with
    | zero => intro um x k τ hτ i0 i1 i2 i3 i4 i5 i6 i7 i8 i9 i10 hm; omega
    | succ f ih =>
      intro um x k τ hτ i0 i1 i2 i3 i4 i5 i6 i7 i8 i9 i10 hm
      have rlr : rl τ r = rl σ r := rl_eq (hτ.2.2.1 r (List.mem_cons_of_mem _ hr) (nm_c (dq_148 _ hr) (nm_c (dq_146 _ hr) (nm_c (dq_147 _ hr) (nm_c hr42 nm_0)))))
      have hgt := hg.fr hNA hτ hr (nm_c (dq_148 _ hr) (nm_c (dq_146 _ hr) (nm_c (dq_147 _ hr) (nm_c hr42 nm_0))))
      have naτ := (hτ.b.2 hNA).1
      have hvτ : ∀ o9 : Nat, msk τ = some (.ref o9) → AGR τ o9 vq ∧ rl τ o9 = nq := fun o9 q => by rw [i10] at q; cases q; exact ⟨hgo.fr hNA hτ ho (nm_c (dq_148 _ ho) (nm_c (dq_146 _ ho) (nm_c (dq_147 _ ho) (nm_c ho42 nm_0)))), (rl_eq (hτ.2.2.1 o (List.mem_cons_of_mem _ ho) (nm_c (dq_148 _ ho) (nm_c (dq_146 _ ho) (nm_c (dq_147 _ ho) (nm_c ho42 nm_0)))))).trans hnq⟩
      have ltr : LSt g (rl τ r) x = LSt g (rl σ r) x := by rw [rlr]
      have lr := LSt_r g (rl σ r) x
      have le := LE_r g (rl σ r) x
      refine T.go 2 (fun n9 => (rfl : _ = exe ξ n9 (d + 5) j_F_learn 45 [(0, .ref 41), (1, .ref r), (2, .ref o), (3, J um), (4, J x), (5, J k)] [J 8000, J k] τ)) ?_
      refine T.icmp_gt rfl rfl (by omega) (by omega) (fun c1 => ?_) (fun c1 => ?_)
      · refine T.go 1 (fun n9 => (rfl : _ = exe ξ n9 (d + 5) j_F_learn 130 [(0, .ref 41), (1, .ref r), (2, .ref o), (3, J um), (4, J x), (5, J k)] [.ref 41] τ)) ?_
        have hO := LRU_out (by omega) hi i6 (by omega)
        obtain ⟨ii, pre9, hst9, h09, h19⟩ := LRO_s hO
        have hl9 := SST_lt hst9 (fun q => (h19 q).2.2) (by omega)
        have hr9 := (SST_r hst9).1
        obtain ⟨nx5, osx5, vsx5, vlx5, asx5, hmx5, fx5a, fx5b, fx5c, fx5d, fx5e, fx5f, fx5g, fx5h, fx5i⟩ := hτ.1.man
        have af3x5 := af_of (i := 3) hmx5 rfl (by omega)
        subst af3x5
        have af4x5 := af_of (i := 4) hmx5 rfl (by omega)
        subst af4x5
        have af6x5 := af_of (i := 6) hmx5 rfl (by omega)
        subst af6x5
        have af7x5 := af_of (i := 7) hmx5 rfl (by omega)
        subst af7x5
        refine T.callv (as := []) (r := []) rfl rfl rfl rfl hmx5 rfl (s_F_fcloseLine (d + 1) (nb τ 42) pre9 vq nq  τ hτ.1  nb_ag (SST_kn hst9) (SST_op hst9) hvτ naτ (by omega) (by omega)) (fun v1 s1 hqs1 => ?_)
        obtain ⟨z1, rfl, hs1, hzz1, hyz1, pz1_0, pz1_1, pz1_2⟩ := hqs1
        have es1 := hs1
        have hs1 := hs1.sub (w' := [41, 44, 45, 42]) (List.forall_mem_cons.mpr ⟨(by simp), (List.forall_mem_cons.mpr ⟨(by simp), (List.forall_mem_cons.mpr ⟨(by simp), (fun _ h => by cases h)⟩)⟩)⟩)
        have gs1 := hτ.trans hs1
        exact T.iretz rfl rfl (by omega) ⟨_, rfl, gs1, by omega, by omega, (fun q => LRO_no hst9 h19 pz1_0 pz1_1 q), (fun q => LRO_yes hst9 h09 h19 pz1_0 pz1_2 (nb_fr naτ es1 (by decide) (by decide)) (rl_eq (es1.2.2.1 42 (by decide) (by decide))) (LGI_end i7 (by omega)) (N32_out i9 (by omega)) q)⟩
      · refine T.go 2 (fun n9 => (rfl : _ = exe ξ n9 (d + 5) j_F_learn 51 [(0, .ref 41), (1, .ref r), (2, .ref o), (3, J um), (4, J x), (5, J k)] [.ref r, J x] τ)) ?_
        obtain ⟨mx6, nx6, bx6, lx6, hrx6, hbx6, fx6a, fx6b, fx6c, fx6d, fx6e, fx6g, fx6h, fx6i⟩ := hτ.1.row hr
        have ctx6 := CT_of hrx6 hbx6
        have rwx6 := rl_of hrx6 (by omega)
        subst rwx6
        refine T.get rfl rfl rfl hrx6 rfl ?_
        refine T.icmp_ge rfl rfl (by omega) (by omega) (fun c2 => ?_) (fun c2 => ?_)
        · refine T.go 1 (fun n9 => (rfl : _ = exe ξ n9 (d + 5) j_F_learn 130 [(0, .ref 41), (1, .ref r), (2, .ref o), (3, J um), (4, J x), (5, J k)] [.ref 41] τ)) ?_
          have hO := LRU_out (by omega) hi i6 (by omega)
          obtain ⟨ii, pre9, hst9, h09, h19⟩ := LRO_s hO
          have hl9 := SST_lt hst9 (fun q => (h19 q).2.2) (by omega)
          have hr9 := (SST_r hst9).1
          obtain ⟨nx7, osx7, vsx7, vlx7, asx7, hmx7, fx7a, fx7b, fx7c, fx7d, fx7e, fx7f, fx7g, fx7h, fx7i⟩ := hτ.1.man
          have af3x7 := af_of (i := 3) hmx7 rfl (by omega)
          subst af3x7
          have af4x7 := af_of (i := 4) hmx7 rfl (by omega)
          subst af4x7
          have af6x7 := af_of (i := 6) hmx7 rfl (by omega)
          subst af6x7
          have af7x7 := af_of (i := 7) hmx7 rfl (by omega)
          subst af7x7
          refine T.callv (as := []) (r := []) rfl rfl rfl rfl hmx7 rfl (s_F_fcloseLine (d + 1) (nb τ 42) pre9 vq nq  τ hτ.1  nb_ag (SST_kn hst9) (SST_op hst9) hvτ naτ (by omega) (by omega)) (fun v2 s2 hqs2 => ?_)
          obtain ⟨z2, rfl, hs2, hzz2, hyz2, pz2_0, pz2_1, pz2_2⟩ := hqs2
          have es2 := hs2
          have hs2 := hs2.sub (w' := [41, 44, 45, 42]) (List.forall_mem_cons.mpr ⟨(by simp), (List.forall_mem_cons.mpr ⟨(by simp), (List.forall_mem_cons.mpr ⟨(by simp), (fun _ h => by cases h)⟩)⟩)⟩)
          have k1 := es2.b.1 _ _ (nm_c (dq_148 _ hr) (nm_c (dq_146 _ hr) (nm_c (dq_147 _ hr) nm_0))) (fun l z => by cases z) hrx6
          have gs2 := hτ.trans hs2
          exact T.iretz rfl rfl (by omega) ⟨_, rfl, gs2, by omega, by omega, (fun q => LRO_no hst9 h19 pz2_0 pz2_1 q), (fun q => LRO_yes hst9 h09 h19 pz2_0 pz2_2 (nb_fr naτ es2 (by decide) (by decide)) (rl_eq (es2.2.2.1 42 (by decide) (by decide))) (LGI_end i7 (by omega)) (N32_out i9 (by omega)) q)⟩
        · refine T.go 3 (fun n9 => (rfl : _ = exe ξ n9 (d + 5) j_F_learn 61 [(0, .ref 41), (1, .ref r), (2, .ref o), (3, J um), (4, J x), (5, J k)] [J x, .ref r, .ref 41] τ)) ?_
          obtain ⟨nx8, osx8, vsx8, vlx8, asx8, hmx8, fx8a, fx8b, fx8c, fx8d, fx8e, fx8f, fx8g, fx8h, fx8i⟩ := hτ.1.man
          have af3x8 := af_of (i := 3) hmx8 rfl (by omega)
          subst af3x8
          have af4x8 := af_of (i := 4) hmx8 rfl (by omega)
          subst af4x8
          have af6x8 := af_of (i := 6) hmx8 rfl (by omega)
          subst af6x8
          have af7x8 := af_of (i := 7) hmx8 rfl (by omega)
          subst af7x8
          refine T.callv (as := [.ref r, J x]) (r := []) rfl rfl rfl rfl hmx8 rfl (s_F_flineStop (d + 3) g r x τ hτ.1 hr hgt (by omega) (by omega) (by omega)) (fun v3 s3 hqs3 => ?_)
          obtain ⟨z3, rfl, esz3, hzz3, hyz3, pz3_0⟩ := hqs3
          rw [esz3]
          rw [rlr] at pz3_0
          subst pz3_0
          refine T.go 5 (fun n9 => (rfl : _ = exe ξ n9 (d + 5) j_F_learn 72 [(0, .ref 41), (1, .ref r), (2, .ref o), (3, J um), (4, J x), (5, J k), (6, J (LSt g (rl σ r) x))] [J (LSt g (rl σ r) x), J x, .ref r, .ref 41] τ)) ?_
          refine T.callv (as := [.ref r, J x, J (LSt g (rl σ r) x)]) (r := []) rfl rfl rfl rfl hmx8 rfl (s_F_flineLength (d + 3) g r x (LSt g (rl σ r) x) τ hτ.1 hr hgt (by omega) (by omega) (by omega) (by omega) (by omega)) (fun v4 s4 hqs4 => ?_)
          obtain ⟨z4, rfl, esz4, hzz4, hyz4, pz4_0⟩ := hqs4
          rw [esz4]
          rw [rlr] at pz4_0
          refine T.go 2 (fun n9 => (rfl : _ = exe ξ n9 (d + 5) j_F_learn 78 [(0, .ref 41), (1, .ref r), (2, .ref o), (3, J um), (4, J x), (5, J k), (6, J (LSt g (rl σ r) x)), (7, J z4)] [J um] τ)) ?_
          refine T.if_eq rfl rfl (by omega) (fun c3 => ?_) (fun c3 => ?_)
          · refine T.go 4 (fun n9 => (rfl : _ = exe ξ n9 (d + 5) j_F_learn 96 [(0, .ref 41), (1, .ref r), (2, .ref o), (3, J 0), (4, J x), (5, J k), (6, J (LSt g (rl σ r) x)), (7, J z4)] [J 72, J z4] τ)) ?_
            refine T.icmp_gt rfl rfl (by omega) (by omega) (fun c4 => ?_) (fun c4 => ?_)
            · refine T.go 1 (fun n9 => (rfl : _ = exe ξ n9 (d + 5) j_F_learn 116 [(0, .ref 41), (1, .ref r), (2, .ref o), (3, J 0), (4, J x), (5, J k), (6, J (LSt g (rl σ r) x)), (7, J z4)] [J 0] τ)) ?_
              exact T.iretz rfl rfl (by omega) ⟨_, rfl, hτ, by omega, by omega, (fun _ m => LGI_bad i7 (by omega) (by omega) m.1), (fun q => absurd q (by decide))⟩
            · refine T.go 4 (fun n9 => (rfl : _ = exe ξ n9 (d + 5) j_F_learn 120 [(0, .ref 41), (1, .ref r), (2, .ref o), (3, J 0), (4, J x), (5, J k), (6, J (LSt g (rl σ r) x)), (7, J z4)] [J 1, J (LSt g (rl σ r) x)] τ)) ?_
              refine T.iadd rfl ?_
              refine T.go 1 (fun n9 => (rfl : _ = exe ξ n9 (d + 5) j_F_learn 123 [(0, .ref 41), (1, .ref r), (2, .ref o), (3, J 0), (4, J ((LSt g (rl σ r) x) + 1)), (5, J k), (6, J (LSt g (rl σ r) x)), (7, J z4)] [] τ)) ?_
              refine T.iinc (lv' := [(0, .ref 41), (1, .ref r), (2, .ref o), (3, J 0), (4, J ((LSt g (rl σ r) x) + 1)), (5, J (k + 1)), (6, J (LSt g (rl σ r) x)), (7, J z4)]) rfl rfl rfl rfl ?_
              refine T.go 1 (fun n9 => (rfl : _ = exe ξ n9 (d + 5) j_F_learn 40 [(0, .ref 41), (1, .ref r), (2, .ref o), (3, J 0), (4, J ((LSt g (rl σ r) x) + 1)), (5, J (k + 1)), (6, J (LSt g (rl σ r) x)), (7, J z4)] [] τ)) ?_
              refine T.drop (lv := [(0, .ref 41), (1, .ref r), (2, .ref o), (3, J 0), (4, J ((LSt g (rl σ r) x) + 1)), (5, J (k + 1))]) [(6, J (LSt g (rl σ r) x)), (7, J z4)] (by simp) ?_
              exact ih  0 ((LSt g (rl σ r) x) + 1) (k + 1) τ hτ (by omega) (by omega) (by omega) (by omega) (by omega) (by omega) (Or.inr ⟨rfl, by first | exact LRU_no i6 (by omega) | exact LRI_out (by omega) hi (LRU_in i6 (by omega)) (by omega)⟩) (LGI_s i7 (by omega)) (by omega) (by first | exact N32_C i9 (by omega) (by omega) | exact N32_B (f := (rl σ r)) i9 (by omega) (by omega) (by omega)) i10 (by omega)
          · refine T.go 1 (fun n9 => (rfl : _ = exe ξ n9 (d + 5) j_F_learn 83 [(0, .ref 41), (1, .ref r), (2, .ref o), (3, J um), (4, J x), (5, J k), (6, J (LSt g (rl σ r) x)), (7, J z4)] [J z4] τ)) ?_
            refine T.if_le rfl rfl (by omega) (fun c5 => ?_) (fun c5 => ?_)
            · refine T.go 4 (fun n9 => (rfl : _ = exe ξ n9 (d + 5) j_F_learn 96 [(0, .ref 41), (1, .ref r), (2, .ref o), (3, J 0), (4, J x), (5, J k), (6, J (LSt g (rl σ r) x)), (7, J z4)] [J 72, J z4] τ)) ?_
              refine T.icmp_gt rfl rfl (by omega) (by omega) (fun c6 => ?_) (fun c6 => ?_)
              · refine T.go 1 (fun n9 => (rfl : _ = exe ξ n9 (d + 5) j_F_learn 116 [(0, .ref 41), (1, .ref r), (2, .ref o), (3, J 0), (4, J x), (5, J k), (6, J (LSt g (rl σ r) x)), (7, J z4)] [J 0] τ)) ?_
                exact T.iretz rfl rfl (by omega) ⟨_, rfl, hτ, by omega, by omega, (fun _ m => LGI_bad i7 (by omega) (by omega) m.1), (fun q => absurd q (by decide))⟩
              · refine T.go 4 (fun n9 => (rfl : _ = exe ξ n9 (d + 5) j_F_learn 120 [(0, .ref 41), (1, .ref r), (2, .ref o), (3, J 0), (4, J x), (5, J k), (6, J (LSt g (rl σ r) x)), (7, J z4)] [J 1, J (LSt g (rl σ r) x)] τ)) ?_
                refine T.iadd rfl ?_
                refine T.go 1 (fun n9 => (rfl : _ = exe ξ n9 (d + 5) j_F_learn 123 [(0, .ref 41), (1, .ref r), (2, .ref o), (3, J 0), (4, J ((LSt g (rl σ r) x) + 1)), (5, J k), (6, J (LSt g (rl σ r) x)), (7, J z4)] [] τ)) ?_
                refine T.iinc (lv' := [(0, .ref 41), (1, .ref r), (2, .ref o), (3, J 0), (4, J ((LSt g (rl σ r) x) + 1)), (5, J (k + 1)), (6, J (LSt g (rl σ r) x)), (7, J z4)]) rfl rfl rfl rfl ?_
                refine T.go 1 (fun n9 => (rfl : _ = exe ξ n9 (d + 5) j_F_learn 40 [(0, .ref 41), (1, .ref r), (2, .ref o), (3, J 0), (4, J ((LSt g (rl σ r) x) + 1)), (5, J (k + 1)), (6, J (LSt g (rl σ r) x)), (7, J z4)] [] τ)) ?_
                refine T.drop (lv := [(0, .ref 41), (1, .ref r), (2, .ref o), (3, J 0), (4, J ((LSt g (rl σ r) x) + 1)), (5, J (k + 1))]) [(6, J (LSt g (rl σ r) x)), (7, J z4)] (by simp) ?_
                exact ih  0 ((LSt g (rl σ r) x) + 1) (k + 1) τ hτ (by omega) (by omega) (by omega) (by omega) (by omega) (by omega) (Or.inr ⟨rfl, by first | exact LRU_no i6 (by omega) | exact LRI_out (by omega) hi (LRU_in i6 (by omega)) (by omega)⟩) (LGI_s i7 (by omega)) (by omega) (by first | exact N32_C i9 (by omega) (by omega) | exact N32_B (f := (rl σ r)) i9 (by omega) (by omega) (by omega)) i10 (by omega)
            · refine T.go 5 (fun n9 => (rfl : _ = exe ξ n9 (d + 5) j_F_learn 96 [(0, .ref 41), (1, .ref r), (2, .ref o), (3, J 1), (4, J x), (5, J k), (6, J (LSt g (rl σ r) x)), (7, J z4)] [J 72, J z4] τ)) ?_
              refine T.icmp_gt rfl rfl (by omega) (by omega) (fun c7 => ?_) (fun c7 => ?_)
              · refine T.go 1 (fun n9 => (rfl : _ = exe ξ n9 (d + 5) j_F_learn 116 [(0, .ref 41), (1, .ref r), (2, .ref o), (3, J 1), (4, J x), (5, J k), (6, J (LSt g (rl σ r) x)), (7, J z4)] [J 0] τ)) ?_
                exact T.iretz rfl rfl (by omega) ⟨_, rfl, hτ, by omega, by omega, (fun _ m => LGI_bad i7 (by omega) (by omega) m.1), (fun q => absurd q (by decide))⟩
              · refine T.go 6 (fun n9 => (rfl : _ = exe ξ n9 (d + 5) j_F_learn 109 [(0, .ref 41), (1, .ref r), (2, .ref o), (3, J 1), (4, J x), (5, J k), (6, J (LSt g (rl σ r) x)), (7, J z4)] [J z4, J x, .ref r, .ref 41] τ)) ?_
                have hL := LRU_in i6 (by omega)
                have hlx : x < LEe g (rl σ r) x := by omega
                have hxe := IME_in hi hL.1 (by omega) hlx
                obtain ⟨ii, pre9, hst9, hp9, h09, h19⟩ := LRI_s hL hxe
                have hl9 := SST_lt hst9 (fun q => (h19 q).2.2) (by omega)
                have hr9 := (SST_r hst9).1
                refine T.callv (as := [.ref r, J x, J z4]) (r := []) rfl rfl rfl rfl hmx8 rfl (s_F_fjoinLine d g (rl σ r) e vq nq ii pre9 r x z4 τ hτ.1 hr hr42 naτ hgt hvτ hst9 hp9 (by omega) (by omega) (by omega) (by omega) (by omega) (by omega) (by omega)) (fun v5 s5 hqs5 => ?_)
                obtain ⟨z5, rfl, hs5, hzz5, hyz5, pz5_0, pz5_1, pz5_2, pz5_3, pz5_4, pz5_5, pz5_6⟩ := hqs5
                have es5 := hs5
                have k2 := es5.b.1 _ _ (nm_c (dq_148 _ hr) (nm_c (dq_146 _ hr) (nm_c (dq_147 _ hr) (nm_c hr42 nm_0)))) (fun l z => by cases z) hrx6
                have gs5 := hτ.trans hs5
                refine T.if_ne rfl rfl (by omega) (fun c8 => ?_) (fun c8 => ?_)
                · refine T.go 2 (fun n9 => (rfl : _ = exe ξ n9 (d + 5) j_F_learn 120 [(0, .ref 41), (1, .ref r), (2, .ref o), (3, J 1), (4, J x), (5, J k), (6, J (LSt g (rl σ r) x)), (7, J z4)] [J 1, J (LSt g (rl σ r) x)] s5)) ?_
                  refine T.iadd rfl ?_
                  refine T.go 1 (fun n9 => (rfl : _ = exe ξ n9 (d + 5) j_F_learn 123 [(0, .ref 41), (1, .ref r), (2, .ref o), (3, J 1), (4, J ((LSt g (rl σ r) x) + 1)), (5, J k), (6, J (LSt g (rl σ r) x)), (7, J z4)] [] s5)) ?_
                  refine T.iinc (lv' := [(0, .ref 41), (1, .ref r), (2, .ref o), (3, J 1), (4, J ((LSt g (rl σ r) x) + 1)), (5, J (k + 1)), (6, J (LSt g (rl σ r) x)), (7, J z4)]) rfl rfl rfl rfl ?_
                  refine T.go 1 (fun n9 => (rfl : _ = exe ξ n9 (d + 5) j_F_learn 40 [(0, .ref 41), (1, .ref r), (2, .ref o), (3, J 1), (4, J ((LSt g (rl σ r) x) + 1)), (5, J (k + 1)), (6, J (LSt g (rl σ r) x)), (7, J z4)] [] s5)) ?_
                  refine T.drop (lv := [(0, .ref 41), (1, .ref r), (2, .ref o), (3, J 1), (4, J ((LSt g (rl σ r) x) + 1)), (5, J (k + 1))]) [(6, J (LSt g (rl σ r) x)), (7, J z4)] (by simp) ?_
                  exact ih  1 ((LSt g (rl σ r) x) + 1) (k + 1) s5 gs5 (by omega) (by omega) (by omega) (by omega) (by omega) (by omega) (Or.inl ⟨rfl, LRI_yes hL (by omega) hlx hxe hr9 h09 h19 pz5_0 pz5_1 pz5_2 pz5_4 pz4_0 (by omega)⟩) (LGI_s i7 (by omega)) (by have q := pz5_5 (by omega); omega) (N32_A i9 pz5_0 (z := z5) (by omega) (by omega)) ((pz5_6 (by omega)).trans i10) (by omega)
                · refine T.go 1 (fun n9 => (rfl : _ = exe ξ n9 (d + 5) j_F_learn 116 [(0, .ref 41), (1, .ref r), (2, .ref o), (3, J 1), (4, J x), (5, J k), (6, J (LSt g (rl σ r) x)), (7, J z4)] [J 0] s5)) ?_
                  exact T.iretz rfl rfl (by omega) ⟨_, rfl, gs5, by omega, by omega, (fun _ => LRI_no (by omega) hr9 h09 h19 pz5_1 pz5_2 pz5_3 (by omega)), (fun q => absurd q (by decide))⟩
  refine T.go 1 (fun n9 => (rfl : _ = exe ξ n9 (d + 5) j_F_learn 1 [(0, .ref 41), (1, .ref r), (2, .ref o)] [.ref 41] σ)) ?_
  refine T.get rfl rfl rfl hmx1 rfl ?_
  refine T.callv (as := []) (r := []) rfl rfl rfl rfl hrx2 rfl (s_R_clear (d + 4) 42 σ hK (by decide)  ) (fun v6 s6 hqs6 => ?_)
  obtain ⟨rfl, hs6, pz6_0, pz6_1⟩ := hqs6
  have es6 := hs6
  have hs6 := hs6.sub (w' := [41, 44, 45, 42]) (List.forall_mem_cons.mpr ⟨(by simp), (fun _ h => by cases h)⟩)
  have k3 := es6.b.1 _ _ (nm_c (by decide) nm_0) (fun l z => by cases z) hmx1
  have k4 := es6.b.1 _ _ (nm_c hr42 nm_0) (fun l z => by cases z) hrx3
  have k5 := es6.b.1 _ _ (nm_c ho42 nm_0) (fun l z => by cases z) hrx4
  clear pz6_0
  refine T.go 2 (fun n9 => (rfl : _ = exe ξ n9 (d + 5) j_F_learn 9 [(0, .ref 41), (1, .ref r), (2, .ref o)] [J 0, .ref 41] s6)) ?_
  refine T.putF (w := [41]) rfl rfl k3 rfl rfl rfl (fs' := [.ref 42, .ref 44, .ref 45, J 0, J (afld σ 41 4), .ref asx1, J (afld σ 41 6), J (afld σ 41 7)]) rfl (Fr.other hs6.1 k3 rfl (show okM _ from ⟨_, _, _, _, _, rfl, by omega, by omega, by omega, by omega, fx1e, by omega⟩) (by decide) (Or.inl (by decide)) (fun _ z => by cases z) (by simp)) (fun s7 hs7 hcs7 hos7 => ?_)
  have ess7 := hs7
  have hs7 := hs7.sub (w' := [41, 44, 45, 42]) (List.forall_mem_cons.mpr ⟨(by simp), (fun _ h => by cases h)⟩)
  have gs7 := hs6.trans hs7
  have rc1 : rl s7 42 = 0 := (rl_eq (ess7.2.2.1 42 (by decide) (by decide))).trans pz6_1
  have k6 := hos7 (dq_148 _ hr) k4
  have k7 := hos7 (dq_148 _ ho) k5
  refine T.go 2 (fun n9 => (rfl : _ = exe ξ n9 (d + 5) j_F_learn 14 [(0, .ref 41), (1, .ref r), (2, .ref o)] [J (-1), .ref 41] s7)) ?_
  refine T.putF (w := [41]) rfl rfl hcs7 rfl rfl rfl (fs' := [.ref 42, .ref 44, .ref 45, J 0, J (-1), .ref asx1, J (afld σ 41 6), J (afld σ 41 7)]) rfl (Fr.other hs7.1 hcs7 rfl (show okM _ from ⟨_, _, _, _, _, rfl, by omega, by omega, by omega, by omega, fx1e, by omega⟩) (by decide) (Or.inl (by decide)) (fun _ z => by cases z) (by simp)) (fun s8 hs8 hcs8 hos8 => ?_)
  have ess8 := hs8
  have hs8 := hs8.sub (w' := [41, 44, 45, 42]) (List.forall_mem_cons.mpr ⟨(by simp), (fun _ h => by cases h)⟩)
  have gs8 := gs7.trans hs8
  have rc2 : rl s8 42 = 0 := (rl_eq (ess8.2.2.1 42 (by decide) (by decide))).trans rc1
  have k8 := hos8 (dq_148 _ hr) k6
  have k9 := hos8 (dq_148 _ ho) k7
  refine T.go 2 (fun n9 => (rfl : _ = exe ξ n9 (d + 5) j_F_learn 19 [(0, .ref 41), (1, .ref r), (2, .ref o)] [.ref o, .ref 41] s8)) ?_
  refine T.putF (w := [41]) rfl rfl hcs8 rfl rfl rfl (fs' := [.ref 42, .ref 44, .ref 45, J 0, J (-1), .ref o, J (afld σ 41 6), J (afld σ 41 7)]) rfl (Fr.other hs8.1 hcs8 rfl (show okM _ from ⟨_, _, _, _, _, rfl, by omega, by omega, by omega, by omega, ho, by omega⟩) (by decide) (Or.inl (by decide)) (fun _ z => by cases z) (by simp)) (fun s9 hs9 hcs9 hos9 => ?_)
  have ess9 := hs9
  have hs9 := hs9.sub (w' := [41, 44, 45, 42]) (List.forall_mem_cons.mpr ⟨(by simp), (fun _ h => by cases h)⟩)
  have gs9 := gs8.trans hs9
  have rc3 : rl s9 42 = 0 := (rl_eq (ess9.2.2.1 42 (by decide) (by decide))).trans rc2
  have k10 := hos9 (dq_148 _ hr) k8
  have k11 := hos9 (dq_148 _ ho) k9
  refine T.go 2 (fun n9 => (rfl : _ = exe ξ n9 (d + 5) j_F_learn 24 [(0, .ref 41), (1, .ref r), (2, .ref o)] [J (-1), .ref 41] s9)) ?_
  refine T.putF (w := [41]) rfl rfl hcs9 rfl rfl rfl (fs' := [.ref 42, .ref 44, .ref 45, J 0, J (-1), .ref o, J (-1), J (afld σ 41 7)]) rfl (Fr.other hs9.1 hcs9 rfl (show okM _ from ⟨_, _, _, _, _, rfl, by omega, by omega, by omega, by omega, ho, by omega⟩) (by decide) (Or.inl (by decide)) (fun _ z => by cases z) (by simp)) (fun s10 hs10 hcs10 hos10 => ?_)
  have ess10 := hs10
  have hs10 := hs10.sub (w' := [41, 44, 45, 42]) (List.forall_mem_cons.mpr ⟨(by simp), (fun _ h => by cases h)⟩)
  have gs10 := gs9.trans hs10
  have rc4 : rl s10 42 = 0 := (rl_eq (ess10.2.2.1 42 (by decide) (by decide))).trans rc3
  have k12 := hos10 (dq_148 _ hr) k10
  have k13 := hos10 (dq_148 _ ho) k11
  refine T.go 2 (fun n9 => (rfl : _ = exe ξ n9 (d + 5) j_F_learn 29 [(0, .ref 41), (1, .ref r), (2, .ref o)] [J 0, .ref 41] s10)) ?_
  refine T.putF (w := [41]) rfl rfl hcs10 rfl rfl rfl (fs' := [.ref 42, .ref 44, .ref 45, J 0, J (-1), .ref o, J (-1), J 0]) rfl (Fr.other hs10.1 hcs10 rfl (show okM _ from ⟨_, _, _, _, _, rfl, by omega, by omega, by omega, by omega, ho, by omega⟩) (by decide) (Or.inl (by decide)) (fun _ z => by cases z) (by simp)) (fun s11 hs11 hcs11 hos11 => ?_)
  have ess11 := hs11
  have hs11 := hs11.sub (w' := [41, 44, 45, 42]) (List.forall_mem_cons.mpr ⟨(by simp), (fun _ h => by cases h)⟩)
  have gs11 := gs10.trans hs11
  have rc5 : rl s11 42 = 0 := (rl_eq (ess11.2.2.1 42 (by decide) (by decide))).trans rc4
  have k14 := hos11 (dq_148 _ hr) k12
  have k15 := hos11 (dq_148 _ ho) k13
  refine T.go 6 (fun n9 => (rfl : _ = exe ξ n9 (d + 5) j_F_learn 40 [(0, .ref 41), (1, .ref r), (2, .ref o), (3, J 1), (4, J 0), (5, J 0)] [] s11)) ?_
  exact loop40 _ 1 0 0 s11 gs11 (by omega) (by omega) (by omega) (by omega) (by omega) (by omega) (Or.inl ⟨rfl, LRI_0 ⟨(af_of (i := 3) hcs11 rfl (by omega)), (af_of (i := 4) hcs11 rfl (by omega)), rc5, (af_of (i := 6) hcs11 rfl (by omega))⟩⟩) (LGI_0 _ _) (by have q := rc5; omega) (Or.inr ⟨rfl, rfl, (af_of (i := 4) hcs11 rfl (by omega))⟩) ((msk_of hcs11).trans rfl) (Nat.lt_succ_self _)
