/-! class Unpacker: a packed row. -/
set_option maxRecDepth 10000 in
set_option maxHeartbeats 4000000 in
theorem s_U_funpack {ξ : Nat → Option (Nat × List Int32)} (hX : XT ξ) (d : Nat) (g : Int → Int) (o : Nat) (x : Int) (n : Int) (q : Nat) (u : Int) (σ : qH) (hK : K σ) (ho : o ∈ RwL) (hq : q ∈ RwL) (hoq : o ≠ q) (hNA : NA σ) (hg : AGR σ o g) (hmt : mst q = 8000) (hf1 : CD σ 31 fixA 288) (hf2 : CD σ 35 (fun _ => 5) 32) (rx : -2147483648 ≤ x ∧ x ≤ 2147483647) (rn : -2147483648 ≤ n ∧ n ≤ 2147483647) (ru : -2147483648 ≤ u ∧ u ≤ 2147483647) (pre0 : 0 ≤ u) (pre1 : u ≤ 8000) (pre2 : 0 ≤ x) (pre3 : 0 ≤ n) (pre4 : x + n ≤ rl σ o) (pre5 : rl σ q = 0) : T ξ (d + 4) j_U_unpack 0 (lv_args 0 [.ref 17, .ref o, J x, J n, .ref q, J u]) [] σ (fun v σ' => ∃ z : Int, v = some (J z) ∧ Fr [17, 18, 20, 21, 22, 24, 25, 26, 28, 29, 30, q] σ σ' ∧ 0 ≤ z ∧ z ≤ 1 ∧ (z = 1 → ∃ v : US, INF g (8 * (x + n)) u 64001 (8 * x) 0 (fun _ => 0) v ∧ v.2.2.1 = u ∧ 8 * (x + n) - v.2.1 ≤ 7 ∧ rl σ' q = u ∧ nb σ' q = v.2.2.2) ∧ (z = 0 → ∀ v : US, INF g (8 * (x + n)) u 64001 (8 * x) 0 (fun _ => 0) v → ¬ (v.2.2.1 = u ∧ 8 * (x + n) - v.2.1 ≤ 7))) := by
  have hX0 := hX
  obtain ⟨⟨X1, hX1, lX1⟩, ⟨X2, hX2, lX2⟩, ⟨X3, hX3, lX3⟩, ⟨X4, hX4, lX4⟩, ⟨X5, hX5, lX5⟩, ⟨X6, hX6, lX6⟩⟩ := hX
  have lY1 : X1.length = 19 := by rw [lX1]; rfl
  have lY2 : X2.length = 29 := by rw [lX2]; rfl
  have lY3 : X3.length = 29 := by rw [lX3]; rfl
  have lY4 : X4.length = 30 := by rw [lX4]; rfl
  have lY5 : X5.length = 30 := by rw [lX5]; rfl
  have lY6 : X6.length = 16 := by rw [lX6]; rfl
  obtain ⟨mx1, nx1, bx1, lx1, hrx1, hbx1, fx1a, fx1b, fx1c, fx1d, fx1e, fx1g, fx1h, fx1i⟩ := hK.row ho
  have ctx1 := CT_of hrx1 hbx1
  have rwx1 := rl_of hrx1 (by omega)
  subst rwx1
  obtain ⟨mx2, nx2, bx2, lx2, hrx2, hbx2, fx2a, fx2b, fx2c, fx2d, fx2e, fx2g, fx2h, fx2i⟩ := hK.row hq
  have ctx2 := CT_of hrx2 hbx2
  have rwx2 := rl_of hrx2 (by omega)
  subst rwx2
  obtain ⟨sx3, tx3, wx3, bix3, bex3, rox3, hux3, fx3a, fx3b, fx3c, fx3d, fx3e, fx3f, fx3g, fx3h, fx3i⟩ := hK.unp
  have loop74 : ∀ (f : Nat) (e : Int) (i : Int) (τ : qH), Fr [17, 18, 20, 21, 22, 24, 25, 26, 28, 29, 30, q] σ τ → UL o q τ → (0 ≤ e ∧ e ≤ 1) → (0 ≤ i ∧ i ≤ 64001) → afld τ 17 8 = u → afld τ 17 10 = 8 * (x + n) → afld τ 17 11 = 0 → (e = 0 → ∀ v : US, INF g (8 * (x + n)) u (64001 - i).toNat (afld τ 17 9) (rl τ q) (nb τ q) v ↔ INF g (8 * (x + n)) u 64001 (8 * x) 0 (fun _ => 0) v) → (e = 1 → INF g (8 * (x + n)) u 64001 (8 * x) 0 (fun _ => 0) (true, afld τ 17 9, rl τ q, nb τ q)) → (64001 - i).toNat < f → T ξ (d + 4) j_U_unpack 74 [(0, .ref 17), (1, .ref o), (2, J x), (3, J n), (4, .ref q), (5, J u), (6, J e), (7, J i)] [] τ (fun v σ' => ∃ z : Int, v = some (J z) ∧ Fr [17, 18, 20, 21, 22, 24, 25, 26, 28, 29, 30, q] σ σ' ∧ 0 ≤ z ∧ z ≤ 1 ∧ (z = 1 → ∃ v : US, INF g (8 * (x + n)) u 64001 (8 * x) 0 (fun _ => 0) v ∧ v.2.2.1 = u ∧ 8 * (x + n) - v.2.1 ≤ 7 ∧ rl σ' q = u ∧ nb σ' q = v.2.2.2) ∧ (z = 0 → ∀ v : US, INF g (8 * (x + n)) u 64001 (8 * x) 0 (fun _ => 0) v → ¬ (v.2.2.1 = u ∧ 8 * (x + n) - v.2.1 ≤ 7))) := by
    intro f
    induction f with
    | zero => intro e i τ hτ uτ i0 i1 i2 i3 i4 i5 i6 hm; omega
    | succ f ih =>
      intro e i τ hτ uτ i0 i1 i2 i3 i4 i5 i6 hm
      obtain ⟨wx4, bix4, bex4, rox4, mx4, nx4, bx4, lx4, hux4, hrx4, hbx4, ⟨fx4a, fx4b, fx4c, fx4d, fx4e, fx4f, fx4g, fx4h, fx4i, fx4j⟩, ⟨fx4k, fx4l, fx4m, fx4n⟩, fx4o, fx4p⟩ := UL.unf hτ.1 uτ ho
      have af8x4 := af_of (i := 8) hux4 rfl (by omega)
      subst af8x4
      have af9x4 := af_of (i := 9) hux4 rfl (by omega)
      subst af9x4
      have af10x4 := af_of (i := 10) hux4 rfl (by omega)
      subst af10x4
      have af11x4 := af_of (i := 11) hux4 rfl (by omega)
      subst af11x4
      have ctx4 := CT_of hrx4 hbx4
      have rwx4 := rl_of hrx4 (by omega)
      subst rwx4
      obtain ⟨mx5, nx5, bx5, lx5, hrx5, hbx5, fx5a, fx5b, fx5c, fx5d, fx5e, fx5g, fx5h, fx5i⟩ := hτ.1.row hq
      have ctx5 := CT_of hrx5 hbx5
      have rwx5 := rl_of hrx5 (by omega)
      subst rwx5
      refine T.go 2 (fun n9 => (rfl : _ = exe ξ n9 (d + 4) j_U_unpack 78 [(0, .ref 17), (1, .ref o), (2, J x), (3, J n), (4, .ref q), (5, J u), (6, J e), (7, J i)] [J 64000, J i] τ)) ?_
      refine T.icmp_gt rfl rfl (by omega) (by omega) (fun c1 => ?_) (fun c1 => ?_)
      · refine T.go 1 (fun n9 => (rfl : _ = exe ξ n9 (d + 4) j_U_unpack 199 [(0, .ref 17), (1, .ref o), (2, J x), (3, J n), (4, .ref q), (5, J u), (6, J e), (7, J i)] [J e] τ)) ?_
        refine T.if_eq rfl rfl (by omega) (fun c2 => ?_) (fun c2 => ?_)
        · refine T.go 1 (fun n9 => (rfl : _ = exe ξ n9 (d + 4) j_U_unpack 235 [(0, .ref 17), (1, .ref o), (2, J x), (3, J n), (4, .ref q), (5, J u), (6, J e), (7, J i)] [J 0] τ)) ?_
          exact T.iretz rfl rfl (by omega) ⟨_, rfl, hτ, by omega, by omega, (fun h => absurd h (by decide)), (fun _ v hv hv2 => by first | (have h5 := (i5 (by omega) v).mpr hv; rw [show (64001 - i).toNat = 0 by omega] at h5; exact h5) | (have h6 := INF_one _ (i6 (by omega)) hv; rw [← h6] at hv2; have h7 : rl τ q = u := hv2.1; have h8 : 8 * (x + n) - afld τ 17 9 ≤ 7 := hv2.2; omega))⟩
        · refine T.go 1 (fun n9 => (rfl : _ = exe ξ n9 (d + 4) j_U_unpack 203 [(0, .ref 17), (1, .ref o), (2, J x), (3, J n), (4, .ref q), (5, J u), (6, J e), (7, J i)] [.ref 17] τ)) ?_
          refine T.get rfl rfl rfl hux4 rfl ?_
          refine T.get rfl rfl rfl hrx5 rfl ?_
          refine T.go 1 (fun n9 => (rfl : _ = exe ξ n9 (d + 4) j_U_unpack 210 [(0, .ref 17), (1, .ref o), (2, J x), (3, J n), (4, .ref q), (5, J u), (6, J e), (7, J i)] [.ref 17, J (rl τ q)] τ)) ?_
          refine T.get rfl rfl rfl hux4 rfl ?_
          refine T.icmp_ne rfl rfl (by omega) (by omega) (fun c3 => ?_) (fun c3 => ?_)
          · refine T.go 1 (fun n9 => (rfl : _ = exe ξ n9 (d + 4) j_U_unpack 235 [(0, .ref 17), (1, .ref o), (2, J x), (3, J n), (4, .ref q), (5, J u), (6, J e), (7, J i)] [J 0] τ)) ?_
            exact T.iretz rfl rfl (by omega) ⟨_, rfl, hτ, by omega, by omega, (fun h => absurd h (by decide)), (fun _ v hv hv2 => by first | (have h6 := INF_one _ (i6 (by omega)) hv; rw [← h6] at hv2; have h7 : rl τ q = u := hv2.1; have h8 : 8 * (x + n) - afld τ 17 9 ≤ 7 := hv2.2; omega) | (have h5 := (i5 (by omega) v).mpr hv; rw [show (64001 - i).toNat = 0 by omega] at h5; exact h5))⟩
          · refine T.go 1 (fun n9 => (rfl : _ = exe ξ n9 (d + 4) j_U_unpack 217 [(0, .ref 17), (1, .ref o), (2, J x), (3, J n), (4, .ref q), (5, J u), (6, J e), (7, J i)] [.ref 17] τ)) ?_
            refine T.get rfl rfl rfl hux4 rfl ?_
            refine T.go 1 (fun n9 => (rfl : _ = exe ξ n9 (d + 4) j_U_unpack 221 [(0, .ref 17), (1, .ref o), (2, J x), (3, J n), (4, .ref q), (5, J u), (6, J e), (7, J i)] [.ref 17, J (afld τ 17 9)] τ)) ?_
            refine T.get rfl rfl rfl hux4 rfl ?_
            refine T.go 1 (fun n9 => (rfl : _ = exe ξ n9 (d + 4) j_U_unpack 226 [(0, .ref 17), (1, .ref o), (2, J x), (3, J n), (4, .ref q), (5, J u), (6, J e), (7, J i)] [J 8, J (afld τ 17 10), J (afld τ 17 9)] τ)) ?_
            refine T.isub rfl ?_
            refine T.icmp_le rfl rfl (by omega) (by omega) (fun c4 => ?_) (fun c4 => ?_)
            · refine T.go 1 (fun n9 => (rfl : _ = exe ξ n9 (d + 4) j_U_unpack 235 [(0, .ref 17), (1, .ref o), (2, J x), (3, J n), (4, .ref q), (5, J u), (6, J e), (7, J i)] [J 0] τ)) ?_
              exact T.iretz rfl rfl (by omega) ⟨_, rfl, hτ, by omega, by omega, (fun h => absurd h (by decide)), (fun _ v hv hv2 => by first | (have h6 := INF_one _ (i6 (by omega)) hv; rw [← h6] at hv2; have h7 : rl τ q = u := hv2.1; have h8 : 8 * (x + n) - afld τ 17 9 ≤ 7 := hv2.2; omega) | (have h5 := (i5 (by omega) v).mpr hv; rw [show (64001 - i).toNat = 0 by omega] at h5; exact h5))⟩
            · refine T.go 2 (fun n9 => (rfl : _ = exe ξ n9 (d + 4) j_U_unpack 235 [(0, .ref 17), (1, .ref o), (2, J x), (3, J n), (4, .ref q), (5, J u), (6, J e), (7, J i)] [J 1] τ)) ?_
              exact T.iretz rfl rfl (by omega) ⟨_, rfl, hτ, by omega, by omega, (fun _ => ⟨_, i6 (by omega), by show rl τ q = u; omega, by show 8 * (x + n) - afld τ 17 9 ≤ 7; omega, by omega, rfl⟩), (fun h => absurd h (by decide))⟩
      · refine T.go 1 (fun n9 => (rfl : _ = exe ξ n9 (d + 4) j_U_unpack 83 [(0, .ref 17), (1, .ref o), (2, J x), (3, J n), (4, .ref q), (5, J u), (6, J e), (7, J i)] [J e] τ)) ?_
        refine T.if_ne rfl rfl (by omega) (fun c5 => ?_) (fun c5 => ?_)
        · refine T.go 1 (fun n9 => (rfl : _ = exe ξ n9 (d + 4) j_U_unpack 199 [(0, .ref 17), (1, .ref o), (2, J x), (3, J n), (4, .ref q), (5, J u), (6, J e), (7, J i)] [J e] τ)) ?_
          refine T.if_eq rfl rfl (by omega) (fun c6 => ?_) (fun c6 => ?_)
          · refine T.go 1 (fun n9 => (rfl : _ = exe ξ n9 (d + 4) j_U_unpack 235 [(0, .ref 17), (1, .ref o), (2, J x), (3, J n), (4, .ref q), (5, J u), (6, J e), (7, J i)] [J 0] τ)) ?_
            exact T.iretz rfl rfl (by omega) ⟨_, rfl, hτ, by omega, by omega, (fun h => absurd h (by decide)), (fun _ v hv hv2 => by first | (have h5 := (i5 (by omega) v).mpr hv; rw [show (64001 - i).toNat = 0 by omega] at h5; exact h5) | (have h6 := INF_one _ (i6 (by omega)) hv; rw [← h6] at hv2; have h7 : rl τ q = u := hv2.1; have h8 : 8 * (x + n) - afld τ 17 9 ≤ 7 := hv2.2; omega))⟩
          · refine T.go 1 (fun n9 => (rfl : _ = exe ξ n9 (d + 4) j_U_unpack 203 [(0, .ref 17), (1, .ref o), (2, J x), (3, J n), (4, .ref q), (5, J u), (6, J e), (7, J i)] [.ref 17] τ)) ?_
            refine T.get rfl rfl rfl hux4 rfl ?_
            refine T.get rfl rfl rfl hrx5 rfl ?_
            refine T.go 1 (fun n9 => (rfl : _ = exe ξ n9 (d + 4) j_U_unpack 210 [(0, .ref 17), (1, .ref o), (2, J x), (3, J n), (4, .ref q), (5, J u), (6, J e), (7, J i)] [.ref 17, J (rl τ q)] τ)) ?_
            refine T.get rfl rfl rfl hux4 rfl ?_
            refine T.icmp_ne rfl rfl (by omega) (by omega) (fun c7 => ?_) (fun c7 => ?_)
            · refine T.go 1 (fun n9 => (rfl : _ = exe ξ n9 (d + 4) j_U_unpack 235 [(0, .ref 17), (1, .ref o), (2, J x), (3, J n), (4, .ref q), (5, J u), (6, J e), (7, J i)] [J 0] τ)) ?_
              exact T.iretz rfl rfl (by omega) ⟨_, rfl, hτ, by omega, by omega, (fun h => absurd h (by decide)), (fun _ v hv hv2 => by first | (have h6 := INF_one _ (i6 (by omega)) hv; rw [← h6] at hv2; have h7 : rl τ q = u := hv2.1; have h8 : 8 * (x + n) - afld τ 17 9 ≤ 7 := hv2.2; omega) | (have h5 := (i5 (by omega) v).mpr hv; rw [show (64001 - i).toNat = 0 by omega] at h5; exact h5))⟩
            · refine T.go 1 (fun n9 => (rfl : _ = exe ξ n9 (d + 4) j_U_unpack 217 [(0, .ref 17), (1, .ref o), (2, J x), (3, J n), (4, .ref q), (5, J u), (6, J e), (7, J i)] [.ref 17] τ)) ?_
              refine T.get rfl rfl rfl hux4 rfl ?_
              refine T.go 1 (fun n9 => (rfl : _ = exe ξ n9 (d + 4) j_U_unpack 221 [(0, .ref 17), (1, .ref o), (2, J x), (3, J n), (4, .ref q), (5, J u), (6, J e), (7, J i)] [.ref 17, J (afld τ 17 9)] τ)) ?_
              refine T.get rfl rfl rfl hux4 rfl ?_
              refine T.go 1 (fun n9 => (rfl : _ = exe ξ n9 (d + 4) j_U_unpack 226 [(0, .ref 17), (1, .ref o), (2, J x), (3, J n), (4, .ref q), (5, J u), (6, J e), (7, J i)] [J 8, J (afld τ 17 10), J (afld τ 17 9)] τ)) ?_
              refine T.isub rfl ?_
              refine T.icmp_le rfl rfl (by omega) (by omega) (fun c8 => ?_) (fun c8 => ?_)
              · refine T.go 1 (fun n9 => (rfl : _ = exe ξ n9 (d + 4) j_U_unpack 235 [(0, .ref 17), (1, .ref o), (2, J x), (3, J n), (4, .ref q), (5, J u), (6, J e), (7, J i)] [J 0] τ)) ?_
                exact T.iretz rfl rfl (by omega) ⟨_, rfl, hτ, by omega, by omega, (fun h => absurd h (by decide)), (fun _ v hv hv2 => by first | (have h6 := INF_one _ (i6 (by omega)) hv; rw [← h6] at hv2; have h7 : rl τ q = u := hv2.1; have h8 : 8 * (x + n) - afld τ 17 9 ≤ 7 := hv2.2; omega) | (have h5 := (i5 (by omega) v).mpr hv; rw [show (64001 - i).toNat = 0 by omega] at h5; exact h5))⟩
              · refine T.go 2 (fun n9 => (rfl : _ = exe ξ n9 (d + 4) j_U_unpack 235 [(0, .ref 17), (1, .ref o), (2, J x), (3, J n), (4, .ref q), (5, J u), (6, J e), (7, J i)] [J 1] τ)) ?_
                exact T.iretz rfl rfl (by omega) ⟨_, rfl, hτ, by omega, by omega, (fun _ => ⟨_, i6 (by omega), by show rl τ q = u; omega, by show 8 * (x + n) - afld τ 17 9 ≤ 7; omega, by omega, rfl⟩), (fun h => absurd h (by decide))⟩
        · refine T.go 2 (fun n9 => (rfl : _ = exe ξ n9 (d + 4) j_U_unpack 88 [(0, .ref 17), (1, .ref o), (2, J x), (3, J n), (4, .ref q), (5, J u), (6, J e), (7, J i)] [J 1, .ref 17] τ)) ?_
          have na1 := (hτ.b.2 hNA).1
          have hg1 := hg.fr hNA hτ ho (nm_c (dq_1 _ ho) (nm_c (dq_3 _ ho) (nm_c (dq_4 _ ho) (nm_c (dq_5 _ ho) (nm_c (dq_6 _ ho) (nm_c (dq_7 _ ho) (nm_c (dq_8 _ ho) (nm_c (dq_9 _ ho) (nm_c (dq_10 _ ho) (nm_c (dq_11 _ ho) (nm_c (dq_12 _ ho) (nm_c hoq nm_0))))))))))))
          refine T.callv (as := [J 1]) (r := []) rfl rfl rfl rfl hux4 rfl (s_U_ftakeBits (d + 3) o q g 1 τ hτ.1  ho hq hoq uτ na1 hg1 (by omega) (by omega) (by omega)) (fun v1 s1 hqs1 => ?_)
          obtain ⟨z1, rfl, hs1, hzz1, hyz1, pz1_0, pz1_1, pz1_2⟩ := hqs1
          have es1 := hs1
          have hs1 := hs1.sub (w' := [17, 18, 20, 21, 22, 24, 25, 26, 28, 29, 30, q]) (List.forall_mem_cons.mpr ⟨(by simp), (fun _ h => by cases h)⟩)
          have k1 := es1.b.1 _ _ (nm_c (dq_1 _ ho) nm_0) (fun l z => by cases z) hrx4
          have k2 := es1.b.1 _ _ (nm_c (dq_1 _ hq) nm_0) (fun l z => by cases z) hrx5
          have gs1 := hτ.trans hs1
          have nt1 := nb_fr na1 es1 hq (nm_c (dq_1 _ hq) nm_0)
          have rt1 := rl_eq (es1.2.2.1 q (List.mem_cons_of_mem _ hq) (nm_c (dq_1 _ hq) nm_0))
          rw [show (1 : Int).toNat = 1 from rfl] at pz1_1
          rcases pz1_1 with ⟨taz1, tbz1, tcz1, tdz1⟩ | ⟨taz1, tbz1, tcz1, tdz1⟩
          · have fkz1 := taz1
            refine T.go 1 (fun n9 => (rfl : _ = exe ξ n9 (d + 4) j_U_unpack 92 [(0, .ref 17), (1, .ref o), (2, J x), (3, J n), (4, .ref q), (5, J u), (6, J e), (7, J i)] [J 1, J z1] s1)) ?_
            refine T.icmp_ne rfl rfl (by omega) (by omega) (fun c9 => ?_) (fun c9 => ?_)
            · refine T.go 4 (fun n9 => (rfl : _ = exe ξ n9 (d + 4) j_U_unpack 104 [(0, .ref 17), (1, .ref o), (2, J x), (3, J n), (4, .ref q), (5, J u), (6, J 0), (7, J i)] [J 2, .ref 17] s1)) ?_
              have na2 := (gs1.b.2 hNA).1
              have hg2 := hg.fr hNA gs1 ho (nm_c (dq_1 _ ho) (nm_c (dq_3 _ ho) (nm_c (dq_4 _ ho) (nm_c (dq_5 _ ho) (nm_c (dq_6 _ ho) (nm_c (dq_7 _ ho) (nm_c (dq_8 _ ho) (nm_c (dq_9 _ ho) (nm_c (dq_10 _ ho) (nm_c (dq_11 _ ho) (nm_c (dq_12 _ ho) (nm_c hoq nm_0))))))))))))
              obtain ⟨wx6, bix6, bex6, rox6, mx6, nx6, bx6, lx6, hux6, hrx6, hbx6, ⟨fx6a, fx6b, fx6c, fx6d, fx6e, fx6f, fx6g, fx6h, fx6i, fx6j⟩, ⟨fx6k, fx6l, fx6m, fx6n⟩, fx6o, fx6p⟩ := UL.unf hs1.1 pz1_0 ho
              have af8x6 := af_of (i := 8) hux6 rfl (by omega)
              subst af8x6
              have af9x6 := af_of (i := 9) hux6 rfl (by omega)
              subst af9x6
              have af10x6 := af_of (i := 10) hux6 rfl (by omega)
              subst af10x6
              have af11x6 := af_of (i := 11) hux6 rfl (by omega)
              subst af11x6
              have ctx6 := CT_of hrx6 hbx6
              have rwx6 := rl_of hrx6 (by omega)
              subst rwx6
              refine T.callv (as := [J 2]) (r := []) rfl rfl rfl rfl hux6 rfl (s_U_ftakeBits (d + 3) o q g 2 s1 hs1.1  ho hq hoq pz1_0 na2 hg2 (by omega) (by omega) (by omega)) (fun v2 s2 hqs2 => ?_)
              obtain ⟨z2, rfl, hs2, hzz2, hyz2, pz2_0, pz2_1, pz2_2⟩ := hqs2
              have es2 := hs2
              have hs2 := hs2.sub (w' := [17, 18, 20, 21, 22, 24, 25, 26, 28, 29, 30, q]) (List.forall_mem_cons.mpr ⟨(by simp), (fun _ h => by cases h)⟩)
              have k3 := es2.b.1 _ _ (nm_c (dq_1 _ ho) nm_0) (fun l z => by cases z) hrx6
              have k4 := es2.b.1 _ _ (nm_c (dq_1 _ hq) nm_0) (fun l z => by cases z) k2
              have gs2 := gs1.trans hs2
              have nt2 := nb_fr na2 es2 hq (nm_c (dq_1 _ hq) nm_0)
              have rt2 := rl_eq (es2.2.2.1 q (List.mem_cons_of_mem _ hq) (nm_c (dq_1 _ hq) nm_0))
              have nt3 := nt2.trans nt1
              rw [show (2 : Int).toNat = 2 from rfl] at pz2_1
              rcases pz2_1 with ⟨taz2, tbz2, tcz2, tdz2⟩ | ⟨taz2, tbz2, tcz2, tdz2⟩
              · rw [show afld s1 17 9 = afld τ 17 9 + 1 by omega] at tbz2
                refine T.go 2 (fun n9 => (rfl : _ = exe ξ n9 (d + 4) j_U_unpack 111 [(0, .ref 17), (1, .ref o), (2, J x), (3, J n), (4, .ref q), (5, J u), (6, J 0), (7, J i), (8, J z2)] [J z2] s2)) ?_
                refine T.if_ne rfl rfl (by omega) (fun c10 => ?_) (fun c10 => ?_)
                · refine T.go 2 (fun n9 => (rfl : _ = exe ξ n9 (d + 4) j_U_unpack 124 [(0, .ref 17), (1, .ref o), (2, J x), (3, J n), (4, .ref q), (5, J u), (6, J 0), (7, J i), (8, J z2)] [J 1, J z2] s2)) ?_
                  refine T.icmp_ne rfl rfl (by omega) (by omega) (fun c11 => ?_) (fun c11 => ?_)
                  · refine T.go 2 (fun n9 => (rfl : _ = exe ξ n9 (d + 4) j_U_unpack 145 [(0, .ref 17), (1, .ref o), (2, J x), (3, J n), (4, .ref q), (5, J u), (6, J 0), (7, J i), (8, J z2)] [J 2, J z2] s2)) ?_
                    refine T.icmp_ne rfl rfl (by omega) (by omega) (fun c12 => ?_) (fun c12 => ?_)
                    · refine T.go 3 (fun n9 => (rfl : _ = exe ξ n9 (d + 4) j_U_unpack 178 [(0, .ref 17), (1, .ref o), (2, J x), (3, J n), (4, .ref q), (5, J u), (6, J 0), (7, J i), (8, J z2), (9, J 0)] [.ref 17] s2)) ?_
                      obtain ⟨wx7, bix7, bex7, rox7, mx7, nx7, bx7, lx7, hux7, hrx7, hbx7, ⟨fx7a, fx7b, fx7c, fx7d, fx7e, fx7f, fx7g, fx7h, fx7i, fx7j⟩, ⟨fx7k, fx7l, fx7m, fx7n⟩, fx7o, fx7p⟩ := UL.unf hs2.1 pz2_0 ho
                      have af8x7 := af_of (i := 8) hux7 rfl (by omega)
                      subst af8x7
                      have af9x7 := af_of (i := 9) hux7 rfl (by omega)
                      subst af9x7
                      have af10x7 := af_of (i := 10) hux7 rfl (by omega)
                      subst af10x7
                      have af11x7 := af_of (i := 11) hux7 rfl (by omega)
                      subst af11x7
                      have ctx7 := CT_of hrx7 hbx7
                      have rwx7 := rl_of hrx7 (by omega)
                      subst rwx7
                      refine T.get rfl rfl rfl hux7 rfl ?_
                      refine T.if_ne rfl rfl (by omega) (fun c13 => ?_) (fun c13 => ?_)
                      · refine T.go 1 (fun n9 => (rfl : _ = exe ξ n9 (d + 4) j_U_unpack 190 [(0, .ref 17), (1, .ref o), (2, J x), (3, J n), (4, .ref q), (5, J u), (6, J 0), (7, J i), (8, J z2), (9, J 0)] [J 0] s2)) ?_
                        have hbn : ∀ w9, ¬ BK g (8 * (x + n)) u (afld τ 17 9) (rl τ q) (nb τ q) w9 := BK_no4 (by omega)
                        exact T.iretz rfl rfl (by omega) ⟨_, rfl, gs2, by omega, by omega, (fun h => absurd h (by decide)), (fun _ v hv _ => by have h5 := (i5 (by omega) v).mpr hv; rw [show (64001 - i).toNat = (64001 - (i + 1)).toNat + 1 by omega] at h5; exact INF_no hbn h5)⟩
                      · refine T.go 3 (fun n9 => (rfl : _ = exe ξ n9 (d + 4) j_U_unpack 190 [(0, .ref 17), (1, .ref o), (2, J x), (3, J n), (4, .ref q), (5, J u), (6, J 0), (7, J i), (8, J z2), (9, J 0)] [J 0] s2)) ?_
                        have hbn : ∀ w9, ¬ BK g (8 * (x + n)) u (afld τ 17 9) (rl τ q) (nb τ q) w9 := BK_no4 (by omega)
                        exact T.iretz rfl rfl (by omega) ⟨_, rfl, gs2, by omega, by omega, (fun h => absurd h (by decide)), (fun _ v hv _ => by have h5 := (i5 (by omega) v).mpr hv; rw [show (64001 - i).toNat = (64001 - (i + 1)).toNat + 1 by omega] at h5; exact INF_no hbn h5)⟩
                    · refine T.go 1 (fun n9 => (rfl : _ = exe ξ n9 (d + 4) j_U_unpack 149 [(0, .ref 17), (1, .ref o), (2, J x), (3, J n), (4, .ref q), (5, J u), (6, J 0), (7, J i), (8, J z2)] [.ref 17] s2)) ?_
                      have na3 := (gs2.b.2 hNA).1
                      have hg3 := hg.fr hNA gs2 ho (nm_c (dq_1 _ ho) (nm_c (dq_3 _ ho) (nm_c (dq_4 _ ho) (nm_c (dq_5 _ ho) (nm_c (dq_6 _ ho) (nm_c (dq_7 _ ho) (nm_c (dq_8 _ ho) (nm_c (dq_9 _ ho) (nm_c (dq_10 _ ho) (nm_c (dq_11 _ ho) (nm_c (dq_12 _ ho) (nm_c hoq nm_0))))))))))))
                      obtain ⟨wx8, bix8, bex8, rox8, mx8, nx8, bx8, lx8, hux8, hrx8, hbx8, ⟨fx8a, fx8b, fx8c, fx8d, fx8e, fx8f, fx8g, fx8h, fx8i, fx8j⟩, ⟨fx8k, fx8l, fx8m, fx8n⟩, fx8o, fx8p⟩ := UL.unf hs2.1 pz2_0 ho
                      have af8x8 := af_of (i := 8) hux8 rfl (by omega)
                      subst af8x8
                      have af9x8 := af_of (i := 9) hux8 rfl (by omega)
                      subst af9x8
                      have af10x8 := af_of (i := 10) hux8 rfl (by omega)
                      subst af10x8
                      have af11x8 := af_of (i := 11) hux8 rfl (by omega)
                      subst af11x8
                      have ctx8 := CT_of hrx8 hbx8
                      have rwx8 := rl_of hrx8 (by omega)
                      subst rwx8
                      refine T.callv (as := []) (r := []) rfl rfl rfl rfl hux8 rfl (s_U_flearnCodes hX0 d o q g  s2 hs2.1  ho hq hoq pz2_0 na3 hg3 (by omega)) (fun v3 s3 hqs3 => ?_)
                      obtain ⟨z3, rfl, hs3, hzz3, hyz3, pz3_0, pz3_1, pz3_2, pz3_3⟩ := hqs3
                      have es3 := hs3
                      have hs3 := hs3.sub (w' := [17, 18, 20, 21, 22, 24, 25, 26, 28, 29, 30, q]) (List.forall_mem_cons.mpr ⟨(by simp), (List.forall_mem_cons.mpr ⟨(by simp), (List.forall_mem_cons.mpr ⟨(by simp), (List.forall_mem_cons.mpr ⟨(by simp), (List.forall_mem_cons.mpr ⟨(by simp), (List.forall_mem_cons.mpr ⟨(by simp), (List.forall_mem_cons.mpr ⟨(by simp), (List.forall_mem_cons.mpr ⟨(by simp), (List.forall_mem_cons.mpr ⟨(by simp), (List.forall_mem_cons.mpr ⟨(by simp), (List.forall_mem_cons.mpr ⟨(by simp), (fun _ h => by cases h)⟩)⟩)⟩)⟩)⟩)⟩)⟩)⟩)⟩)⟩)⟩)
                      have k5 := es3.b.1 _ _ (nm_c (dq_1 _ ho) (nm_c (dq_3 _ ho) (nm_c (dq_4 _ ho) (nm_c (dq_5 _ ho) (nm_c (dq_6 _ ho) (nm_c (dq_7 _ ho) (nm_c (dq_8 _ ho) (nm_c (dq_9 _ ho) (nm_c (dq_10 _ ho) (nm_c (dq_11 _ ho) (nm_c (dq_12 _ ho) nm_0))))))))))) (fun l z => by cases z) hrx8
                      have k6 := es3.b.1 _ _ (nm_c (dq_1 _ hq) (nm_c (dq_3 _ hq) (nm_c (dq_4 _ hq) (nm_c (dq_5 _ hq) (nm_c (dq_6 _ hq) (nm_c (dq_7 _ hq) (nm_c (dq_8 _ hq) (nm_c (dq_9 _ hq) (nm_c (dq_10 _ hq) (nm_c (dq_11 _ hq) (nm_c (dq_12 _ hq) nm_0))))))))))) (fun l z => by cases z) k4
                      have gs3 := gs2.trans hs3
                      rw [show afld s2 17 10 = 8 * (x + n) by omega, show afld s2 17 9 = afld τ 17 9 + 3 by omega] at pz3_1 pz3_2
                      have nt4 := (nb_fr na3 es3 hq (nm_c (dq_1 _ hq) (nm_c (dq_3 _ hq) (nm_c (dq_4 _ hq) (nm_c (dq_5 _ hq) (nm_c (dq_6 _ hq) (nm_c (dq_7 _ hq) (nm_c (dq_8 _ hq) (nm_c (dq_9 _ hq) (nm_c (dq_10 _ hq) (nm_c (dq_11 _ hq) (nm_c (dq_12 _ hq) nm_0)))))))))))).trans nt3
                      have rt3 := rl_eq (es3.2.2.1 q (List.mem_cons_of_mem _ hq) (nm_c (dq_1 _ hq) (nm_c (dq_3 _ hq) (nm_c (dq_4 _ hq) (nm_c (dq_5 _ hq) (nm_c (dq_6 _ hq) (nm_c (dq_7 _ hq) (nm_c (dq_8 _ hq) (nm_c (dq_9 _ hq) (nm_c (dq_10 _ hq) (nm_c (dq_11 _ hq) (nm_c (dq_12 _ hq) nm_0))))))))))))
                      refine T.if_eq rfl rfl (by omega) (fun c14 => ?_) (fun c14 => ?_)
                      · refine T.go 3 (fun n9 => (rfl : _ = exe ξ n9 (d + 4) j_U_unpack 178 [(0, .ref 17), (1, .ref o), (2, J x), (3, J n), (4, .ref q), (5, J u), (6, J 0), (7, J i), (8, J z2), (9, J 0)] [.ref 17] s3)) ?_
                        obtain ⟨wx9, bix9, bex9, rox9, mx9, nx9, bx9, lx9, hux9, hrx9, hbx9, ⟨fx9a, fx9b, fx9c, fx9d, fx9e, fx9f, fx9g, fx9h, fx9i, fx9j⟩, ⟨fx9k, fx9l, fx9m, fx9n⟩, fx9o, fx9p⟩ := UL.unf hs3.1 pz3_0 ho
                        have af8x9 := af_of (i := 8) hux9 rfl (by omega)
                        subst af8x9
                        have af9x9 := af_of (i := 9) hux9 rfl (by omega)
                        subst af9x9
                        have af10x9 := af_of (i := 10) hux9 rfl (by omega)
                        subst af10x9
                        have af11x9 := af_of (i := 11) hux9 rfl (by omega)
                        subst af11x9
                        have ctx9 := CT_of hrx9 hbx9
                        have rwx9 := rl_of hrx9 (by omega)
                        subst rwx9
                        refine T.get rfl rfl rfl hux9 rfl ?_
                        refine T.if_ne rfl rfl (by omega) (fun c15 => ?_) (fun c15 => ?_)
                        · refine T.go 1 (fun n9 => (rfl : _ = exe ξ n9 (d + 4) j_U_unpack 190 [(0, .ref 17), (1, .ref o), (2, J x), (3, J n), (4, .ref q), (5, J u), (6, J 0), (7, J i), (8, J z2), (9, J 0)] [J 0] s3)) ?_
                          have hbn : ∀ w9, ¬ BK g (8 * (x + n)) u (afld τ 17 9) (rl τ q) (nb τ q) w9 := BK_no2 (by omega) (pz3_2 (by omega))
                          exact T.iretz rfl rfl (by omega) ⟨_, rfl, gs3, by omega, by omega, (fun h => absurd h (by decide)), (fun _ v hv _ => by have h5 := (i5 (by omega) v).mpr hv; rw [show (64001 - i).toNat = (64001 - (i + 1)).toNat + 1 by omega] at h5; exact INF_no hbn h5)⟩
                        · refine T.go 3 (fun n9 => (rfl : _ = exe ξ n9 (d + 4) j_U_unpack 190 [(0, .ref 17), (1, .ref o), (2, J x), (3, J n), (4, .ref q), (5, J u), (6, J 0), (7, J i), (8, J z2), (9, J 0)] [J 0] s3)) ?_
                          have hbn : ∀ w9, ¬ BK g (8 * (x + n)) u (afld τ 17 9) (rl τ q) (nb τ q) w9 := BK_no2 (by omega) (pz3_2 (by omega))
                          exact T.iretz rfl rfl (by omega) ⟨_, rfl, gs3, by omega, by omega, (fun h => absurd h (by decide)), (fun _ v hv _ => by have h5 := (i5 (by omega) v).mpr hv; rw [show (64001 - i).toNat = (64001 - (i + 1)).toNat + 1 by omega] at h5; exact INF_no hbn h5)⟩
                      · refine T.go 2 (fun n9 => (rfl : _ = exe ξ n9 (d + 4) j_U_unpack 157 [(0, .ref 17), (1, .ref o), (2, J x), (3, J n), (4, .ref q), (5, J u), (6, J 0), (7, J i), (8, J z2)] [.ref 17, .ref 17] s3)) ?_
                        obtain ⟨wx10, bix10, bex10, rox10, mx10, nx10, bx10, lx10, hux10, hrx10, hbx10, ⟨fx10a, fx10b, fx10c, fx10d, fx10e, fx10f, fx10g, fx10h, fx10i, fx10j⟩, ⟨fx10k, fx10l, fx10m, fx10n⟩, fx10o, fx10p⟩ := UL.unf hs3.1 pz3_0 ho
                        have af8x10 := af_of (i := 8) hux10 rfl (by omega)
                        subst af8x10
                        have af9x10 := af_of (i := 9) hux10 rfl (by omega)
                        subst af9x10
                        have af10x10 := af_of (i := 10) hux10 rfl (by omega)
                        subst af10x10
                        have af11x10 := af_of (i := 11) hux10 rfl (by omega)
                        subst af11x10
                        have ctx10 := CT_of hrx10 hbx10
                        have rwx10 := rl_of hrx10 (by omega)
                        subst rwx10
                        refine T.get rfl rfl rfl hux10 rfl ?_
                        refine T.go 1 (fun n9 => (rfl : _ = exe ξ n9 (d + 4) j_U_unpack 161 [(0, .ref 17), (1, .ref o), (2, J x), (3, J n), (4, .ref q), (5, J u), (6, J 0), (7, J i), (8, J z2)] [.ref 17, .ref 23, .ref 17] s3)) ?_
                        refine T.get rfl rfl rfl hux10 rfl ?_
                        have lc9 := pz3_1 (by omega)
                        have cdA := lc9.2.1
                        have cdB := lc9.2.2.1
                        have na4 := (gs3.b.2 hNA).1
                        have hg4 := hg.fr hNA gs3 ho (nm_c (dq_1 _ ho) (nm_c (dq_3 _ ho) (nm_c (dq_4 _ ho) (nm_c (dq_5 _ ho) (nm_c (dq_6 _ ho) (nm_c (dq_7 _ ho) (nm_c (dq_8 _ ho) (nm_c (dq_9 _ ho) (nm_c (dq_10 _ ho) (nm_c (dq_11 _ ho) (nm_c (dq_12 _ ho) (nm_c hoq nm_0))))))))))))
                        have hm9 := lc9.1.2.1
                        have hm8 := lc9.1.2.2.1
                        refine T.callv (as := [.ref 23, .ref 27]) (r := []) rfl rfl rfl rfl hux10 rfl (s_U_ffollowSigns hX0 (d + 1) o q g (TQ g (8 * (x + n)) (afld τ 17 9 + 3)).2.2 (hlQ g (afld τ 17 9 + 3)).toNat (fun j => (TQ g (8 * (x + n)) (afld τ 17 9 + 3)).2.2 (hlQ g (afld τ 17 9 + 3) + j)) (hdQ g (afld τ 17 9 + 3)).toNat 23 27 s3 hs3.1 (by decide) (by decide) ho hq hoq pz3_0 na4 hg4 hmt cdA cdB (by omega) (by omega) (by omega)) (fun v4 s4 hqs4 => ?_)
                        obtain ⟨z4, rfl, hs4, hzz4, hyz4, pz4_0, pz4_1, pz4_2, pz4_3, pz4_4⟩ := hqs4
                        have es4 := hs4
                        have hs4 := hs4.sub (w' := [17, 18, 20, 21, 22, 24, 25, 26, 28, 29, 30, q]) (List.forall_mem_cons.mpr ⟨(by simp), (List.forall_mem_cons.mpr ⟨(by simp), (fun _ h => by cases h)⟩)⟩)
                        have k7 := es4.b.1 _ _ (nm_c (dq_1 _ ho) (nm_c hoq nm_0)) (fun l z => by cases z) hrx10
                        have gs4 := gs3.trans hs4
                        rw [show afld s3 17 10 = 8 * (x + n) by omega, show afld s3 17 8 = u by omega, lc9.2.2.2.1, show rl s3 q = rl τ q by omega, nt4] at pz4_1 pz4_2
                        refine T.if_eq rfl rfl (by omega) (fun c16 => ?_) (fun c16 => ?_)
                        · refine T.go 3 (fun n9 => (rfl : _ = exe ξ n9 (d + 4) j_U_unpack 178 [(0, .ref 17), (1, .ref o), (2, J x), (3, J n), (4, .ref q), (5, J u), (6, J 0), (7, J i), (8, J z2), (9, J 0)] [.ref 17] s4)) ?_
                          obtain ⟨wx11, bix11, bex11, rox11, mx11, nx11, bx11, lx11, hux11, hrx11, hbx11, ⟨fx11a, fx11b, fx11c, fx11d, fx11e, fx11f, fx11g, fx11h, fx11i, fx11j⟩, ⟨fx11k, fx11l, fx11m, fx11n⟩, fx11o, fx11p⟩ := UL.unf hs4.1 pz4_0 ho
                          have af8x11 := af_of (i := 8) hux11 rfl (by omega)
                          subst af8x11
                          have af9x11 := af_of (i := 9) hux11 rfl (by omega)
                          subst af9x11
                          have af10x11 := af_of (i := 10) hux11 rfl (by omega)
                          subst af10x11
                          have af11x11 := af_of (i := 11) hux11 rfl (by omega)
                          subst af11x11
                          have ctx11 := CT_of hrx11 hbx11
                          have rwx11 := rl_of hrx11 (by omega)
                          subst rwx11
                          refine T.get rfl rfl rfl hux11 rfl ?_
                          refine T.if_ne rfl rfl (by omega) (fun c17 => ?_) (fun c17 => ?_)
                          · refine T.go 1 (fun n9 => (rfl : _ = exe ξ n9 (d + 4) j_U_unpack 190 [(0, .ref 17), (1, .ref o), (2, J x), (3, J n), (4, .ref q), (5, J u), (6, J 0), (7, J i), (8, J z2), (9, J 0)] [J 0] s4)) ?_
                            have hbn : ∀ w9, ¬ BK g (8 * (x + n)) u (afld τ 17 9) (rl τ q) (nb τ q) w9 := BK_no3 (by omega) (pz4_2 (by omega))
                            exact T.iretz rfl rfl (by omega) ⟨_, rfl, gs4, by omega, by omega, (fun h => absurd h (by decide)), (fun _ v hv _ => by have h5 := (i5 (by omega) v).mpr hv; rw [show (64001 - i).toNat = (64001 - (i + 1)).toNat + 1 by omega] at h5; exact INF_no hbn h5)⟩
                          · refine T.go 3 (fun n9 => (rfl : _ = exe ξ n9 (d + 4) j_U_unpack 190 [(0, .ref 17), (1, .ref o), (2, J x), (3, J n), (4, .ref q), (5, J u), (6, J 0), (7, J i), (8, J z2), (9, J 0)] [J 0] s4)) ?_
                            have hbn : ∀ w9, ¬ BK g (8 * (x + n)) u (afld τ 17 9) (rl τ q) (nb τ q) w9 := BK_no3 (by omega) (pz4_2 (by omega))
                            exact T.iretz rfl rfl (by omega) ⟨_, rfl, gs4, by omega, by omega, (fun h => absurd h (by decide)), (fun _ v hv _ => by have h5 := (i5 (by omega) v).mpr hv; rw [show (64001 - i).toNat = (64001 - (i + 1)).toNat + 1 by omega] at h5; exact INF_no hbn h5)⟩
                        · refine T.go 4 (fun n9 => (rfl : _ = exe ξ n9 (d + 4) j_U_unpack 178 [(0, .ref 17), (1, .ref o), (2, J x), (3, J n), (4, .ref q), (5, J u), (6, J 0), (7, J i), (8, J z2), (9, J 1)] [.ref 17] s4)) ?_
                          obtain ⟨wx12, bix12, bex12, rox12, mx12, nx12, bx12, lx12, hux12, hrx12, hbx12, ⟨fx12a, fx12b, fx12c, fx12d, fx12e, fx12f, fx12g, fx12h, fx12i, fx12j⟩, ⟨fx12k, fx12l, fx12m, fx12n⟩, fx12o, fx12p⟩ := UL.unf hs4.1 pz4_0 ho
                          have af8x12 := af_of (i := 8) hux12 rfl (by omega)
                          subst af8x12
                          have af9x12 := af_of (i := 9) hux12 rfl (by omega)
                          subst af9x12
                          have af10x12 := af_of (i := 10) hux12 rfl (by omega)
                          subst af10x12
                          have af11x12 := af_of (i := 11) hux12 rfl (by omega)
                          subst af11x12
                          have ctx12 := CT_of hrx12 hbx12
                          have rwx12 := rl_of hrx12 (by omega)
                          subst rwx12
                          refine T.get rfl rfl rfl hux12 rfl ?_
                          refine T.if_ne rfl rfl (by omega) (fun c18 => ?_) (fun c18 => ?_)
                          · refine T.go 1 (fun n9 => (rfl : _ = exe ξ n9 (d + 4) j_U_unpack 190 [(0, .ref 17), (1, .ref o), (2, J x), (3, J n), (4, .ref q), (5, J u), (6, J 0), (7, J i), (8, J z2), (9, J 1)] [J 0] s4)) ?_
                            have hbn : ∀ w9, ¬ BK g (8 * (x + n)) u (afld τ 17 9) (rl τ q) (nb τ q) w9 := BK_no3 (by omega) (pz4_2 (by omega))
                            exact T.iretz rfl rfl (by omega) ⟨_, rfl, gs4, by omega, by omega, (fun h => absurd h (by decide)), (fun _ v hv _ => by have h5 := (i5 (by omega) v).mpr hv; rw [show (64001 - i).toNat = (64001 - (i + 1)).toNat + 1 by omega] at h5; exact INF_no hbn h5)⟩
                          · refine T.go 2 (fun n9 => (rfl : _ = exe ξ n9 (d + 4) j_U_unpack 191 [(0, .ref 17), (1, .ref o), (2, J x), (3, J n), (4, .ref q), (5, J u), (6, J 0), (7, J i), (8, J z2), (9, J 1)] [] s4)) ?_
                            refine T.iinc (lv' := [(0, .ref 17), (1, .ref o), (2, J x), (3, J n), (4, .ref q), (5, J u), (6, J 0), (7, J (i + 1)), (8, J z2), (9, J 1)]) rfl rfl rfl rfl ?_
                            refine T.go 1 (fun n9 => (rfl : _ = exe ξ n9 (d + 4) j_U_unpack 74 [(0, .ref 17), (1, .ref o), (2, J x), (3, J n), (4, .ref q), (5, J u), (6, J 0), (7, J (i + 1)), (8, J z2), (9, J 1)] [] s4)) ?_
                            refine T.drop (lv := [(0, .ref 17), (1, .ref o), (2, J x), (3, J n), (4, .ref q), (5, J u), (6, J 0), (7, J (i + 1))]) [(8, J z2), (9, J 1)] (by simp) ?_
                            obtain ⟨u1, u2, u3, u4⟩ := (show UR s4 q (DYN g (8 * (x + n)) u (afld τ 17 9 + 3) (rl τ q) (nb τ q)) from pz4_1 (by omega))
                            have hbk : BK g (8 * (x + n)) u (afld τ 17 9) (rl τ q) (nb τ q) (DYN g (8 * (x + n)) u (afld τ 17 9 + 3) (rl τ q) (nb τ q)) := ⟨by omega, u1, Or.inr (Or.inr ⟨by omega, lc9.1, rfl⟩)⟩
                            have bt9 := BV_1 g (afld τ 17 9)
                            exact ih  0 (i + 1) s4 gs4 pz4_0 (by omega) (by omega) (by omega) (by omega) (by omega) (fun _ v => by have h5 := i5 (by omega) v; rw [show (64001 - i).toNat = (64001 - (i + 1)).toNat + 1 by omega, INF_st0 hbk (by omega), ← u2, ← u3, ← u4] at h5; exact h5) (fun h => absurd h (by decide)) (by omega)
                  · refine T.go 2 (fun n9 => (rfl : _ = exe ξ n9 (d + 4) j_U_unpack 129 [(0, .ref 17), (1, .ref o), (2, J x), (3, J n), (4, .ref q), (5, J u), (6, J 0), (7, J i), (8, J z2)] [.ref 17, .ref 17] s2)) ?_
                    obtain ⟨wx13, bix13, bex13, rox13, mx13, nx13, bx13, lx13, hux13, hrx13, hbx13, ⟨fx13a, fx13b, fx13c, fx13d, fx13e, fx13f, fx13g, fx13h, fx13i, fx13j⟩, ⟨fx13k, fx13l, fx13m, fx13n⟩, fx13o, fx13p⟩ := UL.unf hs2.1 pz2_0 ho
                    have af8x13 := af_of (i := 8) hux13 rfl (by omega)
                    subst af8x13
                    have af9x13 := af_of (i := 9) hux13 rfl (by omega)
                    subst af9x13
                    have af10x13 := af_of (i := 10) hux13 rfl (by omega)
                    subst af10x13
                    have af11x13 := af_of (i := 11) hux13 rfl (by omega)
                    subst af11x13
                    have ctx13 := CT_of hrx13 hbx13
                    have rwx13 := rl_of hrx13 (by omega)
                    subst rwx13
                    refine T.get rfl rfl rfl hux13 rfl ?_
                    refine T.go 1 (fun n9 => (rfl : _ = exe ξ n9 (d + 4) j_U_unpack 133 [(0, .ref 17), (1, .ref o), (2, J x), (3, J n), (4, .ref q), (5, J u), (6, J 0), (7, J i), (8, J z2)] [.ref 17, .ref 31, .ref 17] s2)) ?_
                    refine T.get rfl rfl rfl hux13 rfl ?_
                    have na5 := (gs2.b.2 hNA).1
                    have hg5 := hg.fr hNA gs2 ho (nm_c (dq_1 _ ho) (nm_c (dq_3 _ ho) (nm_c (dq_4 _ ho) (nm_c (dq_5 _ ho) (nm_c (dq_6 _ ho) (nm_c (dq_7 _ ho) (nm_c (dq_8 _ ho) (nm_c (dq_9 _ ho) (nm_c (dq_10 _ ho) (nm_c (dq_11 _ ho) (nm_c (dq_12 _ ho) (nm_c hoq nm_0))))))))))))
                    refine T.callv (as := [.ref 31, .ref 35]) (r := []) rfl rfl rfl rfl hux13 rfl (s_U_ffollowSigns hX0 (d + 1) o q g fixA 288 (fun _ => 5) 32 31 35 s2 hs2.1 (by decide) (by decide) ho hq hoq pz2_0 na5 hg5 hmt (hf1.fr hK (by decide) gs2 (nm_c (by decide) (nm_c (by decide) (nm_c (by decide) (nm_c (by decide) (nm_c (by decide) (nm_c (by decide) (nm_c (by decide) (nm_c (by decide) (nm_c (by decide) (nm_c (by decide) (nm_c (by decide) (nm_c (dq_13 _ hq) nm_0)))))))))))) (nm_c (by decide) (nm_c (by decide) (nm_c (by decide) (nm_c (by decide) (nm_c (by decide) (nm_c (by decide) (nm_c (by decide) (nm_c (by decide) (nm_c (by decide) (nm_c (by decide) (nm_c (by decide) (nm_c (dq_14 _ hq) nm_0))))))))))))) (hf2.fr hK (by decide) gs2 (nm_c (by decide) (nm_c (by decide) (nm_c (by decide) (nm_c (by decide) (nm_c (by decide) (nm_c (by decide) (nm_c (by decide) (nm_c (by decide) (nm_c (by decide) (nm_c (by decide) (nm_c (by decide) (nm_c (dq_15 _ hq) nm_0)))))))))))) (nm_c (by decide) (nm_c (by decide) (nm_c (by decide) (nm_c (by decide) (nm_c (by decide) (nm_c (by decide) (nm_c (by decide) (nm_c (by decide) (nm_c (by decide) (nm_c (by decide) (nm_c (by decide) (nm_c (dq_16 _ hq) nm_0))))))))))))) (by omega) (by omega) (by omega)) (fun v5 s5 hqs5 => ?_)
                    obtain ⟨z5, rfl, hs5, hzz5, hyz5, pz5_0, pz5_1, pz5_2, pz5_3, pz5_4⟩ := hqs5
                    have es5 := hs5
                    have hs5 := hs5.sub (w' := [17, 18, 20, 21, 22, 24, 25, 26, 28, 29, 30, q]) (List.forall_mem_cons.mpr ⟨(by simp), (List.forall_mem_cons.mpr ⟨(by simp), (fun _ h => by cases h)⟩)⟩)
                    have k8 := es5.b.1 _ _ (nm_c (dq_1 _ ho) (nm_c hoq nm_0)) (fun l z => by cases z) hrx13
                    have gs5 := gs2.trans hs5
                    rw [show afld s2 17 10 = 8 * (x + n) by omega, show afld s2 17 8 = u by omega, show afld s2 17 9 = afld τ 17 9 + 3 by omega, show rl s2 q = rl τ q by omega, nt3] at pz5_1 pz5_2
                    refine T.go 3 (fun n9 => (rfl : _ = exe ξ n9 (d + 4) j_U_unpack 178 [(0, .ref 17), (1, .ref o), (2, J x), (3, J n), (4, .ref q), (5, J u), (6, J 0), (7, J i), (8, J z2), (9, J z5)] [.ref 17] s5)) ?_
                    obtain ⟨wx14, bix14, bex14, rox14, mx14, nx14, bx14, lx14, hux14, hrx14, hbx14, ⟨fx14a, fx14b, fx14c, fx14d, fx14e, fx14f, fx14g, fx14h, fx14i, fx14j⟩, ⟨fx14k, fx14l, fx14m, fx14n⟩, fx14o, fx14p⟩ := UL.unf hs5.1 pz5_0 ho
                    have af8x14 := af_of (i := 8) hux14 rfl (by omega)
                    subst af8x14
                    have af9x14 := af_of (i := 9) hux14 rfl (by omega)
                    subst af9x14
                    have af10x14 := af_of (i := 10) hux14 rfl (by omega)
                    subst af10x14
                    have af11x14 := af_of (i := 11) hux14 rfl (by omega)
                    subst af11x14
                    have ctx14 := CT_of hrx14 hbx14
                    have rwx14 := rl_of hrx14 (by omega)
                    subst rwx14
                    refine T.get rfl rfl rfl hux14 rfl ?_
                    refine T.if_ne rfl rfl (by omega) (fun c19 => ?_) (fun c19 => ?_)
                    · refine T.go 1 (fun n9 => (rfl : _ = exe ξ n9 (d + 4) j_U_unpack 190 [(0, .ref 17), (1, .ref o), (2, J x), (3, J n), (4, .ref q), (5, J u), (6, J 0), (7, J i), (8, J z2), (9, J z5)] [J 0] s5)) ?_
                      have hbn : ∀ w9, ¬ BK g (8 * (x + n)) u (afld τ 17 9) (rl τ q) (nb τ q) w9 := BK_no1 (by omega) (pz5_2 (by omega))
                      exact T.iretz rfl rfl (by omega) ⟨_, rfl, gs5, by omega, by omega, (fun h => absurd h (by decide)), (fun _ v hv _ => by have h5 := (i5 (by omega) v).mpr hv; rw [show (64001 - i).toNat = (64001 - (i + 1)).toNat + 1 by omega] at h5; exact INF_no hbn h5)⟩
                    · refine T.go 1 (fun n9 => (rfl : _ = exe ξ n9 (d + 4) j_U_unpack 186 [(0, .ref 17), (1, .ref o), (2, J x), (3, J n), (4, .ref q), (5, J u), (6, J 0), (7, J i), (8, J z2), (9, J z5)] [J z5] s5)) ?_
                      refine T.if_ne rfl rfl (by omega) (fun c20 => ?_) (fun c20 => ?_)
                      · refine T.iinc (lv' := [(0, .ref 17), (1, .ref o), (2, J x), (3, J n), (4, .ref q), (5, J u), (6, J 0), (7, J (i + 1)), (8, J z2), (9, J z5)]) rfl rfl rfl rfl ?_
                        refine T.go 1 (fun n9 => (rfl : _ = exe ξ n9 (d + 4) j_U_unpack 74 [(0, .ref 17), (1, .ref o), (2, J x), (3, J n), (4, .ref q), (5, J u), (6, J 0), (7, J (i + 1)), (8, J z2), (9, J z5)] [] s5)) ?_
                        refine T.drop (lv := [(0, .ref 17), (1, .ref o), (2, J x), (3, J n), (4, .ref q), (5, J u), (6, J 0), (7, J (i + 1))]) [(8, J z2), (9, J z5)] (by simp) ?_
                        obtain ⟨u1, u2, u3, u4⟩ := (show UR s5 q (FS g (8 * (x + n)) u fixA 288 (fun _ => 5) 32 64001 (afld τ 17 9 + 3) (rl τ q) (nb τ q)) from pz5_1 (by omega))
                        have hbk : BK g (8 * (x + n)) u (afld τ 17 9) (rl τ q) (nb τ q) (FS g (8 * (x + n)) u fixA 288 (fun _ => 5) 32 64001 (afld τ 17 9 + 3) (rl τ q) (nb τ q)) := ⟨by omega, u1, Or.inr (Or.inl ⟨by omega, rfl⟩)⟩
                        have bt9 := BV_1 g (afld τ 17 9)
                        exact ih  0 (i + 1) s5 gs5 pz5_0 (by omega) (by omega) (by omega) (by omega) (by omega) (fun _ v => by have h5 := i5 (by omega) v; rw [show (64001 - i).toNat = (64001 - (i + 1)).toNat + 1 by omega, INF_st0 hbk (by omega), ← u2, ← u3, ← u4] at h5; exact h5) (fun h => absurd h (by decide)) (by omega)
                      · refine T.go 1 (fun n9 => (rfl : _ = exe ξ n9 (d + 4) j_U_unpack 190 [(0, .ref 17), (1, .ref o), (2, J x), (3, J n), (4, .ref q), (5, J u), (6, J 0), (7, J i), (8, J z2), (9, J z5)] [J 0] s5)) ?_
                        have hbn : ∀ w9, ¬ BK g (8 * (x + n)) u (afld τ 17 9) (rl τ q) (nb τ q) w9 := BK_no1 (by omega) (pz5_2 (by omega))
                        exact T.iretz rfl rfl (by omega) ⟨_, rfl, gs5, by omega, by omega, (fun h => absurd h (by decide)), (fun _ v hv _ => by have h5 := (i5 (by omega) v).mpr hv; rw [show (64001 - i).toNat = (64001 - (i + 1)).toNat + 1 by omega] at h5; exact INF_no hbn h5)⟩
                · refine T.go 1 (fun n9 => (rfl : _ = exe ξ n9 (d + 4) j_U_unpack 115 [(0, .ref 17), (1, .ref o), (2, J x), (3, J n), (4, .ref q), (5, J u), (6, J 0), (7, J i), (8, J z2)] [.ref 17] s2)) ?_
                  have na6 := (gs2.b.2 hNA).1
                  have hg6 := hg.fr hNA gs2 ho (nm_c (dq_1 _ ho) (nm_c (dq_3 _ ho) (nm_c (dq_4 _ ho) (nm_c (dq_5 _ ho) (nm_c (dq_6 _ ho) (nm_c (dq_7 _ ho) (nm_c (dq_8 _ ho) (nm_c (dq_9 _ ho) (nm_c (dq_10 _ ho) (nm_c (dq_11 _ ho) (nm_c (dq_12 _ ho) (nm_c hoq nm_0))))))))))))
                  obtain ⟨wx15, bix15, bex15, rox15, mx15, nx15, bx15, lx15, hux15, hrx15, hbx15, ⟨fx15a, fx15b, fx15c, fx15d, fx15e, fx15f, fx15g, fx15h, fx15i, fx15j⟩, ⟨fx15k, fx15l, fx15m, fx15n⟩, fx15o, fx15p⟩ := UL.unf hs2.1 pz2_0 ho
                  have af8x15 := af_of (i := 8) hux15 rfl (by omega)
                  subst af8x15
                  have af9x15 := af_of (i := 9) hux15 rfl (by omega)
                  subst af9x15
                  have af10x15 := af_of (i := 10) hux15 rfl (by omega)
                  subst af10x15
                  have af11x15 := af_of (i := 11) hux15 rfl (by omega)
                  subst af11x15
                  have ctx15 := CT_of hrx15 hbx15
                  have rwx15 := rl_of hrx15 (by omega)
                  subst rwx15
                  refine T.callv (as := []) (r := []) rfl rfl rfl rfl hux15 rfl (s_U_fcopyPlain (d + 1) o q g  s2 hs2.1  ho hq hoq pz2_0 na6 hg6 hmt ) (fun v6 s6 hqs6 => ?_)
                  obtain ⟨z6, rfl, hs6, hzz6, hyz6, pz6_0, pz6_1, pz6_2, pz6_3, pz6_4⟩ := hqs6
                  have es6 := hs6
                  have hs6 := hs6.sub (w' := [17, 18, 20, 21, 22, 24, 25, 26, 28, 29, 30, q]) (List.forall_mem_cons.mpr ⟨(by simp), (List.forall_mem_cons.mpr ⟨(by simp), (fun _ h => by cases h)⟩)⟩)
                  have k9 := es6.b.1 _ _ (nm_c (dq_1 _ ho) (nm_c hoq nm_0)) (fun l z => by cases z) hrx15
                  have gs6 := gs2.trans hs6
                  rw [show afld s2 17 10 = 8 * (x + n) by omega, show afld s2 17 8 = u by omega, show afld s2 17 9 = afld τ 17 9 + 3 by omega, show rl s2 q = rl τ q by omega, nt3] at pz6_1 pz6_2
                  refine T.go 3 (fun n9 => (rfl : _ = exe ξ n9 (d + 4) j_U_unpack 178 [(0, .ref 17), (1, .ref o), (2, J x), (3, J n), (4, .ref q), (5, J u), (6, J 0), (7, J i), (8, J z2), (9, J z6)] [.ref 17] s6)) ?_
                  obtain ⟨wx16, bix16, bex16, rox16, mx16, nx16, bx16, lx16, hux16, hrx16, hbx16, ⟨fx16a, fx16b, fx16c, fx16d, fx16e, fx16f, fx16g, fx16h, fx16i, fx16j⟩, ⟨fx16k, fx16l, fx16m, fx16n⟩, fx16o, fx16p⟩ := UL.unf hs6.1 pz6_0 ho
                  have af8x16 := af_of (i := 8) hux16 rfl (by omega)
                  subst af8x16
                  have af9x16 := af_of (i := 9) hux16 rfl (by omega)
                  subst af9x16
                  have af10x16 := af_of (i := 10) hux16 rfl (by omega)
                  subst af10x16
                  have af11x16 := af_of (i := 11) hux16 rfl (by omega)
                  subst af11x16
                  have ctx16 := CT_of hrx16 hbx16
                  have rwx16 := rl_of hrx16 (by omega)
                  subst rwx16
                  refine T.get rfl rfl rfl hux16 rfl ?_
                  refine T.if_ne rfl rfl (by omega) (fun c21 => ?_) (fun c21 => ?_)
                  · refine T.go 1 (fun n9 => (rfl : _ = exe ξ n9 (d + 4) j_U_unpack 190 [(0, .ref 17), (1, .ref o), (2, J x), (3, J n), (4, .ref q), (5, J u), (6, J 0), (7, J i), (8, J z2), (9, J z6)] [J 0] s6)) ?_
                    have hbn : ∀ w9, ¬ BK g (8 * (x + n)) u (afld τ 17 9) (rl τ q) (nb τ q) w9 := BK_no0 (by omega) (pz6_2 (by omega) (by omega))
                    exact T.iretz rfl rfl (by omega) ⟨_, rfl, gs6, by omega, by omega, (fun h => absurd h (by decide)), (fun _ v hv _ => by have h5 := (i5 (by omega) v).mpr hv; rw [show (64001 - i).toNat = (64001 - (i + 1)).toNat + 1 by omega] at h5; exact INF_no hbn h5)⟩
                  · refine T.go 1 (fun n9 => (rfl : _ = exe ξ n9 (d + 4) j_U_unpack 186 [(0, .ref 17), (1, .ref o), (2, J x), (3, J n), (4, .ref q), (5, J u), (6, J 0), (7, J i), (8, J z2), (9, J z6)] [J z6] s6)) ?_
                    refine T.if_ne rfl rfl (by omega) (fun c22 => ?_) (fun c22 => ?_)
                    · refine T.iinc (lv' := [(0, .ref 17), (1, .ref o), (2, J x), (3, J n), (4, .ref q), (5, J u), (6, J 0), (7, J (i + 1)), (8, J z2), (9, J z6)]) rfl rfl rfl rfl ?_
                      refine T.go 1 (fun n9 => (rfl : _ = exe ξ n9 (d + 4) j_U_unpack 74 [(0, .ref 17), (1, .ref o), (2, J x), (3, J n), (4, .ref q), (5, J u), (6, J 0), (7, J (i + 1)), (8, J z2), (9, J z6)] [] s6)) ?_
                      refine T.drop (lv := [(0, .ref 17), (1, .ref o), (2, J x), (3, J n), (4, .ref q), (5, J u), (6, J 0), (7, J (i + 1))]) [(8, J z2), (9, J z6)] (by simp) ?_
                      obtain ⟨u1, u2, u3, u4⟩ := (show UR s6 q (PLN g (8 * (x + n)) u ((afld τ 17 9 + 3 + 7) / 8 * 8) (rl τ q) (nb τ q)) from pz6_1 (by omega))
                      have hbk : BK g (8 * (x + n)) u (afld τ 17 9) (rl τ q) (nb τ q) (PLN g (8 * (x + n)) u ((afld τ 17 9 + 3 + 7) / 8 * 8) (rl τ q) (nb τ q)) := ⟨by omega, u1, Or.inl ⟨by omega, rfl⟩⟩
                      have bt9 := BV_1 g (afld τ 17 9)
                      exact ih  0 (i + 1) s6 gs6 pz6_0 (by omega) (by omega) (by omega) (by omega) (by omega) (fun _ v => by have h5 := i5 (by omega) v; rw [show (64001 - i).toNat = (64001 - (i + 1)).toNat + 1 by omega, INF_st0 hbk (by omega), ← u2, ← u3, ← u4] at h5; exact h5) (fun h => absurd h (by decide)) (by omega)
                    · refine T.go 1 (fun n9 => (rfl : _ = exe ξ n9 (d + 4) j_U_unpack 190 [(0, .ref 17), (1, .ref o), (2, J x), (3, J n), (4, .ref q), (5, J u), (6, J 0), (7, J i), (8, J z2), (9, J z6)] [J 0] s6)) ?_
                      have hbn : ∀ w9, ¬ BK g (8 * (x + n)) u (afld τ 17 9) (rl τ q) (nb τ q) w9 := BK_no0 (by omega) (pz6_2 (by omega) (by omega))
                      exact T.iretz rfl rfl (by omega) ⟨_, rfl, gs6, by omega, by omega, (fun h => absurd h (by decide)), (fun _ v hv _ => by have h5 := (i5 (by omega) v).mpr hv; rw [show (64001 - i).toNat = (64001 - (i + 1)).toNat + 1 by omega] at h5; exact INF_no hbn h5)⟩
              · have fkz2 := taz2
                refine T.go 2 (fun n9 => (rfl : _ = exe ξ n9 (d + 4) j_U_unpack 111 [(0, .ref 17), (1, .ref o), (2, J x), (3, J n), (4, .ref q), (5, J u), (6, J 0), (7, J i), (8, J z2)] [J z2] s2)) ?_
                refine T.if_ne rfl rfl (by omega) (fun c23 => ?_) (fun c23 => ?_)
                · exfalso
                  omega
                · refine T.go 1 (fun n9 => (rfl : _ = exe ξ n9 (d + 4) j_U_unpack 115 [(0, .ref 17), (1, .ref o), (2, J x), (3, J n), (4, .ref q), (5, J u), (6, J 0), (7, J i), (8, J z2)] [.ref 17] s2)) ?_
                  have na7 := (gs2.b.2 hNA).1
                  have hg7 := hg.fr hNA gs2 ho (nm_c (dq_1 _ ho) (nm_c (dq_3 _ ho) (nm_c (dq_4 _ ho) (nm_c (dq_5 _ ho) (nm_c (dq_6 _ ho) (nm_c (dq_7 _ ho) (nm_c (dq_8 _ ho) (nm_c (dq_9 _ ho) (nm_c (dq_10 _ ho) (nm_c (dq_11 _ ho) (nm_c (dq_12 _ ho) (nm_c hoq nm_0))))))))))))
                  obtain ⟨wx17, bix17, bex17, rox17, mx17, nx17, bx17, lx17, hux17, hrx17, hbx17, ⟨fx17a, fx17b, fx17c, fx17d, fx17e, fx17f, fx17g, fx17h, fx17i, fx17j⟩, ⟨fx17k, fx17l, fx17m, fx17n⟩, fx17o, fx17p⟩ := UL.unf hs2.1 pz2_0 ho
                  have af8x17 := af_of (i := 8) hux17 rfl (by omega)
                  subst af8x17
                  have af9x17 := af_of (i := 9) hux17 rfl (by omega)
                  subst af9x17
                  have af10x17 := af_of (i := 10) hux17 rfl (by omega)
                  subst af10x17
                  have af11x17 := af_of (i := 11) hux17 rfl (by omega)
                  subst af11x17
                  have ctx17 := CT_of hrx17 hbx17
                  have rwx17 := rl_of hrx17 (by omega)
                  subst rwx17
                  refine T.callv (as := []) (r := []) rfl rfl rfl rfl hux17 rfl (s_U_fcopyPlain (d + 1) o q g  s2 hs2.1  ho hq hoq pz2_0 na7 hg7 hmt ) (fun v7 s7 hqs7 => ?_)
                  obtain ⟨z7, rfl, hs7, hzz7, hyz7, pz7_0, pz7_1, pz7_2, pz7_3, pz7_4⟩ := hqs7
                  have es7 := hs7
                  have hs7 := hs7.sub (w' := [17, 18, 20, 21, 22, 24, 25, 26, 28, 29, 30, q]) (List.forall_mem_cons.mpr ⟨(by simp), (List.forall_mem_cons.mpr ⟨(by simp), (fun _ h => by cases h)⟩)⟩)
                  have k10 := es7.b.1 _ _ (nm_c (dq_1 _ ho) (nm_c hoq nm_0)) (fun l z => by cases z) hrx17
                  have gs7 := gs2.trans hs7
                  refine T.go 3 (fun n9 => (rfl : _ = exe ξ n9 (d + 4) j_U_unpack 178 [(0, .ref 17), (1, .ref o), (2, J x), (3, J n), (4, .ref q), (5, J u), (6, J 0), (7, J i), (8, J z2), (9, J z7)] [.ref 17] s7)) ?_
                  obtain ⟨wx18, bix18, bex18, rox18, mx18, nx18, bx18, lx18, hux18, hrx18, hbx18, ⟨fx18a, fx18b, fx18c, fx18d, fx18e, fx18f, fx18g, fx18h, fx18i, fx18j⟩, ⟨fx18k, fx18l, fx18m, fx18n⟩, fx18o, fx18p⟩ := UL.unf hs7.1 pz7_0 ho
                  have af8x18 := af_of (i := 8) hux18 rfl (by omega)
                  subst af8x18
                  have af9x18 := af_of (i := 9) hux18 rfl (by omega)
                  subst af9x18
                  have af10x18 := af_of (i := 10) hux18 rfl (by omega)
                  subst af10x18
                  have af11x18 := af_of (i := 11) hux18 rfl (by omega)
                  subst af11x18
                  have ctx18 := CT_of hrx18 hbx18
                  have rwx18 := rl_of hrx18 (by omega)
                  subst rwx18
                  refine T.get rfl rfl rfl hux18 rfl ?_
                  refine T.if_ne rfl rfl (by omega) (fun c24 => ?_) (fun c24 => ?_)
                  · refine T.go 1 (fun n9 => (rfl : _ = exe ξ n9 (d + 4) j_U_unpack 190 [(0, .ref 17), (1, .ref o), (2, J x), (3, J n), (4, .ref q), (5, J u), (6, J 0), (7, J i), (8, J z2), (9, J z7)] [J 0] s7)) ?_
                    have hbn : ∀ w9, ¬ BK g (8 * (x + n)) u (afld τ 17 9) (rl τ q) (nb τ q) w9 := BK_noE (by omega)
                    exact T.iretz rfl rfl (by omega) ⟨_, rfl, gs7, by omega, by omega, (fun h => absurd h (by decide)), (fun _ v hv _ => by have h5 := (i5 (by omega) v).mpr hv; rw [show (64001 - i).toNat = (64001 - (i + 1)).toNat + 1 by omega] at h5; exact INF_no hbn h5)⟩
                  · refine T.go 1 (fun n9 => (rfl : _ = exe ξ n9 (d + 4) j_U_unpack 186 [(0, .ref 17), (1, .ref o), (2, J x), (3, J n), (4, .ref q), (5, J u), (6, J 0), (7, J i), (8, J z2), (9, J z7)] [J z7] s7)) ?_
                    refine T.if_ne rfl rfl (by omega) (fun c25 => ?_) (fun c25 => ?_)
                    · exfalso
                      omega
                    · refine T.go 1 (fun n9 => (rfl : _ = exe ξ n9 (d + 4) j_U_unpack 190 [(0, .ref 17), (1, .ref o), (2, J x), (3, J n), (4, .ref q), (5, J u), (6, J 0), (7, J i), (8, J z2), (9, J z7)] [J 0] s7)) ?_
                      have hbn : ∀ w9, ¬ BK g (8 * (x + n)) u (afld τ 17 9) (rl τ q) (nb τ q) w9 := BK_noE (by omega)
                      exact T.iretz rfl rfl (by omega) ⟨_, rfl, gs7, by omega, by omega, (fun h => absurd h (by decide)), (fun _ v hv _ => by have h5 := (i5 (by omega) v).mpr hv; rw [show (64001 - i).toNat = (64001 - (i + 1)).toNat + 1 by omega] at h5; exact INF_no hbn h5)⟩
            · refine T.go 5 (fun n9 => (rfl : _ = exe ξ n9 (d + 4) j_U_unpack 104 [(0, .ref 17), (1, .ref o), (2, J x), (3, J n), (4, .ref q), (5, J u), (6, J 1), (7, J i)] [J 2, .ref 17] s1)) ?_
              have na8 := (gs1.b.2 hNA).1
              have hg8 := hg.fr hNA gs1 ho (nm_c (dq_1 _ ho) (nm_c (dq_3 _ ho) (nm_c (dq_4 _ ho) (nm_c (dq_5 _ ho) (nm_c (dq_6 _ ho) (nm_c (dq_7 _ ho) (nm_c (dq_8 _ ho) (nm_c (dq_9 _ ho) (nm_c (dq_10 _ ho) (nm_c (dq_11 _ ho) (nm_c (dq_12 _ ho) (nm_c hoq nm_0))))))))))))
              obtain ⟨wx19, bix19, bex19, rox19, mx19, nx19, bx19, lx19, hux19, hrx19, hbx19, ⟨fx19a, fx19b, fx19c, fx19d, fx19e, fx19f, fx19g, fx19h, fx19i, fx19j⟩, ⟨fx19k, fx19l, fx19m, fx19n⟩, fx19o, fx19p⟩ := UL.unf hs1.1 pz1_0 ho
              have af8x19 := af_of (i := 8) hux19 rfl (by omega)
              subst af8x19
              have af9x19 := af_of (i := 9) hux19 rfl (by omega)
              subst af9x19
              have af10x19 := af_of (i := 10) hux19 rfl (by omega)
              subst af10x19
              have af11x19 := af_of (i := 11) hux19 rfl (by omega)
              subst af11x19
              have ctx19 := CT_of hrx19 hbx19
              have rwx19 := rl_of hrx19 (by omega)
              subst rwx19
              refine T.callv (as := [J 2]) (r := []) rfl rfl rfl rfl hux19 rfl (s_U_ftakeBits (d + 3) o q g 2 s1 hs1.1  ho hq hoq pz1_0 na8 hg8 (by omega) (by omega) (by omega)) (fun v8 s8 hqs8 => ?_)
              obtain ⟨z8, rfl, hs8, hzz8, hyz8, pz8_0, pz8_1, pz8_2⟩ := hqs8
              have es8 := hs8
              have hs8 := hs8.sub (w' := [17, 18, 20, 21, 22, 24, 25, 26, 28, 29, 30, q]) (List.forall_mem_cons.mpr ⟨(by simp), (fun _ h => by cases h)⟩)
              have k11 := es8.b.1 _ _ (nm_c (dq_1 _ ho) nm_0) (fun l z => by cases z) hrx19
              have k12 := es8.b.1 _ _ (nm_c (dq_1 _ hq) nm_0) (fun l z => by cases z) k2
              have gs8 := gs1.trans hs8
              have nt5 := nb_fr na8 es8 hq (nm_c (dq_1 _ hq) nm_0)
              have rt4 := rl_eq (es8.2.2.1 q (List.mem_cons_of_mem _ hq) (nm_c (dq_1 _ hq) nm_0))
              have nt6 := nt5.trans nt1
              rw [show (2 : Int).toNat = 2 from rfl] at pz8_1
              rcases pz8_1 with ⟨taz8, tbz8, tcz8, tdz8⟩ | ⟨taz8, tbz8, tcz8, tdz8⟩
              · rw [show afld s1 17 9 = afld τ 17 9 + 1 by omega] at tbz8
                refine T.go 2 (fun n9 => (rfl : _ = exe ξ n9 (d + 4) j_U_unpack 111 [(0, .ref 17), (1, .ref o), (2, J x), (3, J n), (4, .ref q), (5, J u), (6, J 1), (7, J i), (8, J z8)] [J z8] s8)) ?_
                refine T.if_ne rfl rfl (by omega) (fun c26 => ?_) (fun c26 => ?_)
                · refine T.go 2 (fun n9 => (rfl : _ = exe ξ n9 (d + 4) j_U_unpack 124 [(0, .ref 17), (1, .ref o), (2, J x), (3, J n), (4, .ref q), (5, J u), (6, J 1), (7, J i), (8, J z8)] [J 1, J z8] s8)) ?_
                  refine T.icmp_ne rfl rfl (by omega) (by omega) (fun c27 => ?_) (fun c27 => ?_)
                  · refine T.go 2 (fun n9 => (rfl : _ = exe ξ n9 (d + 4) j_U_unpack 145 [(0, .ref 17), (1, .ref o), (2, J x), (3, J n), (4, .ref q), (5, J u), (6, J 1), (7, J i), (8, J z8)] [J 2, J z8] s8)) ?_
                    refine T.icmp_ne rfl rfl (by omega) (by omega) (fun c28 => ?_) (fun c28 => ?_)
                    · refine T.go 3 (fun n9 => (rfl : _ = exe ξ n9 (d + 4) j_U_unpack 178 [(0, .ref 17), (1, .ref o), (2, J x), (3, J n), (4, .ref q), (5, J u), (6, J 1), (7, J i), (8, J z8), (9, J 0)] [.ref 17] s8)) ?_
                      obtain ⟨wx20, bix20, bex20, rox20, mx20, nx20, bx20, lx20, hux20, hrx20, hbx20, ⟨fx20a, fx20b, fx20c, fx20d, fx20e, fx20f, fx20g, fx20h, fx20i, fx20j⟩, ⟨fx20k, fx20l, fx20m, fx20n⟩, fx20o, fx20p⟩ := UL.unf hs8.1 pz8_0 ho
                      have af8x20 := af_of (i := 8) hux20 rfl (by omega)
                      subst af8x20
                      have af9x20 := af_of (i := 9) hux20 rfl (by omega)
                      subst af9x20
                      have af10x20 := af_of (i := 10) hux20 rfl (by omega)
                      subst af10x20
                      have af11x20 := af_of (i := 11) hux20 rfl (by omega)
                      subst af11x20
                      have ctx20 := CT_of hrx20 hbx20
                      have rwx20 := rl_of hrx20 (by omega)
                      subst rwx20
                      refine T.get rfl rfl rfl hux20 rfl ?_
                      refine T.if_ne rfl rfl (by omega) (fun c29 => ?_) (fun c29 => ?_)
                      · refine T.go 1 (fun n9 => (rfl : _ = exe ξ n9 (d + 4) j_U_unpack 190 [(0, .ref 17), (1, .ref o), (2, J x), (3, J n), (4, .ref q), (5, J u), (6, J 1), (7, J i), (8, J z8), (9, J 0)] [J 0] s8)) ?_
                        have hbn : ∀ w9, ¬ BK g (8 * (x + n)) u (afld τ 17 9) (rl τ q) (nb τ q) w9 := BK_no4 (by omega)
                        exact T.iretz rfl rfl (by omega) ⟨_, rfl, gs8, by omega, by omega, (fun h => absurd h (by decide)), (fun _ v hv _ => by have h5 := (i5 (by omega) v).mpr hv; rw [show (64001 - i).toNat = (64001 - (i + 1)).toNat + 1 by omega] at h5; exact INF_no hbn h5)⟩
                      · refine T.go 3 (fun n9 => (rfl : _ = exe ξ n9 (d + 4) j_U_unpack 190 [(0, .ref 17), (1, .ref o), (2, J x), (3, J n), (4, .ref q), (5, J u), (6, J 1), (7, J i), (8, J z8), (9, J 0)] [J 0] s8)) ?_
                        have hbn : ∀ w9, ¬ BK g (8 * (x + n)) u (afld τ 17 9) (rl τ q) (nb τ q) w9 := BK_no4 (by omega)
                        exact T.iretz rfl rfl (by omega) ⟨_, rfl, gs8, by omega, by omega, (fun h => absurd h (by decide)), (fun _ v hv _ => by have h5 := (i5 (by omega) v).mpr hv; rw [show (64001 - i).toNat = (64001 - (i + 1)).toNat + 1 by omega] at h5; exact INF_no hbn h5)⟩
                    · refine T.go 1 (fun n9 => (rfl : _ = exe ξ n9 (d + 4) j_U_unpack 149 [(0, .ref 17), (1, .ref o), (2, J x), (3, J n), (4, .ref q), (5, J u), (6, J 1), (7, J i), (8, J z8)] [.ref 17] s8)) ?_
                      have na9 := (gs8.b.2 hNA).1
                      have hg9 := hg.fr hNA gs8 ho (nm_c (dq_1 _ ho) (nm_c (dq_3 _ ho) (nm_c (dq_4 _ ho) (nm_c (dq_5 _ ho) (nm_c (dq_6 _ ho) (nm_c (dq_7 _ ho) (nm_c (dq_8 _ ho) (nm_c (dq_9 _ ho) (nm_c (dq_10 _ ho) (nm_c (dq_11 _ ho) (nm_c (dq_12 _ ho) (nm_c hoq nm_0))))))))))))
                      obtain ⟨wx21, bix21, bex21, rox21, mx21, nx21, bx21, lx21, hux21, hrx21, hbx21, ⟨fx21a, fx21b, fx21c, fx21d, fx21e, fx21f, fx21g, fx21h, fx21i, fx21j⟩, ⟨fx21k, fx21l, fx21m, fx21n⟩, fx21o, fx21p⟩ := UL.unf hs8.1 pz8_0 ho
                      have af8x21 := af_of (i := 8) hux21 rfl (by omega)
                      subst af8x21
                      have af9x21 := af_of (i := 9) hux21 rfl (by omega)
                      subst af9x21
                      have af10x21 := af_of (i := 10) hux21 rfl (by omega)
                      subst af10x21
                      have af11x21 := af_of (i := 11) hux21 rfl (by omega)
                      subst af11x21
                      have ctx21 := CT_of hrx21 hbx21
                      have rwx21 := rl_of hrx21 (by omega)
                      subst rwx21
                      refine T.callv (as := []) (r := []) rfl rfl rfl rfl hux21 rfl (s_U_flearnCodes hX0 d o q g  s8 hs8.1  ho hq hoq pz8_0 na9 hg9 (by omega)) (fun v9 s9 hqs9 => ?_)
                      obtain ⟨z9, rfl, hs9, hzz9, hyz9, pz9_0, pz9_1, pz9_2, pz9_3⟩ := hqs9
                      have es9 := hs9
                      have hs9 := hs9.sub (w' := [17, 18, 20, 21, 22, 24, 25, 26, 28, 29, 30, q]) (List.forall_mem_cons.mpr ⟨(by simp), (List.forall_mem_cons.mpr ⟨(by simp), (List.forall_mem_cons.mpr ⟨(by simp), (List.forall_mem_cons.mpr ⟨(by simp), (List.forall_mem_cons.mpr ⟨(by simp), (List.forall_mem_cons.mpr ⟨(by simp), (List.forall_mem_cons.mpr ⟨(by simp), (List.forall_mem_cons.mpr ⟨(by simp), (List.forall_mem_cons.mpr ⟨(by simp), (List.forall_mem_cons.mpr ⟨(by simp), (List.forall_mem_cons.mpr ⟨(by simp), (fun _ h => by cases h)⟩)⟩)⟩)⟩)⟩)⟩)⟩)⟩)⟩)⟩)⟩)
                      have k13 := es9.b.1 _ _ (nm_c (dq_1 _ ho) (nm_c (dq_3 _ ho) (nm_c (dq_4 _ ho) (nm_c (dq_5 _ ho) (nm_c (dq_6 _ ho) (nm_c (dq_7 _ ho) (nm_c (dq_8 _ ho) (nm_c (dq_9 _ ho) (nm_c (dq_10 _ ho) (nm_c (dq_11 _ ho) (nm_c (dq_12 _ ho) nm_0))))))))))) (fun l z => by cases z) hrx21
                      have k14 := es9.b.1 _ _ (nm_c (dq_1 _ hq) (nm_c (dq_3 _ hq) (nm_c (dq_4 _ hq) (nm_c (dq_5 _ hq) (nm_c (dq_6 _ hq) (nm_c (dq_7 _ hq) (nm_c (dq_8 _ hq) (nm_c (dq_9 _ hq) (nm_c (dq_10 _ hq) (nm_c (dq_11 _ hq) (nm_c (dq_12 _ hq) nm_0))))))))))) (fun l z => by cases z) k12
                      have gs9 := gs8.trans hs9
                      rw [show afld s8 17 10 = 8 * (x + n) by omega, show afld s8 17 9 = afld τ 17 9 + 3 by omega] at pz9_1 pz9_2
                      have nt7 := (nb_fr na9 es9 hq (nm_c (dq_1 _ hq) (nm_c (dq_3 _ hq) (nm_c (dq_4 _ hq) (nm_c (dq_5 _ hq) (nm_c (dq_6 _ hq) (nm_c (dq_7 _ hq) (nm_c (dq_8 _ hq) (nm_c (dq_9 _ hq) (nm_c (dq_10 _ hq) (nm_c (dq_11 _ hq) (nm_c (dq_12 _ hq) nm_0)))))))))))).trans nt6
                      have rt5 := rl_eq (es9.2.2.1 q (List.mem_cons_of_mem _ hq) (nm_c (dq_1 _ hq) (nm_c (dq_3 _ hq) (nm_c (dq_4 _ hq) (nm_c (dq_5 _ hq) (nm_c (dq_6 _ hq) (nm_c (dq_7 _ hq) (nm_c (dq_8 _ hq) (nm_c (dq_9 _ hq) (nm_c (dq_10 _ hq) (nm_c (dq_11 _ hq) (nm_c (dq_12 _ hq) nm_0))))))))))))
                      refine T.if_eq rfl rfl (by omega) (fun c30 => ?_) (fun c30 => ?_)
                      · refine T.go 3 (fun n9 => (rfl : _ = exe ξ n9 (d + 4) j_U_unpack 178 [(0, .ref 17), (1, .ref o), (2, J x), (3, J n), (4, .ref q), (5, J u), (6, J 1), (7, J i), (8, J z8), (9, J 0)] [.ref 17] s9)) ?_
                        obtain ⟨wx22, bix22, bex22, rox22, mx22, nx22, bx22, lx22, hux22, hrx22, hbx22, ⟨fx22a, fx22b, fx22c, fx22d, fx22e, fx22f, fx22g, fx22h, fx22i, fx22j⟩, ⟨fx22k, fx22l, fx22m, fx22n⟩, fx22o, fx22p⟩ := UL.unf hs9.1 pz9_0 ho
                        have af8x22 := af_of (i := 8) hux22 rfl (by omega)
                        subst af8x22
                        have af9x22 := af_of (i := 9) hux22 rfl (by omega)
                        subst af9x22
                        have af10x22 := af_of (i := 10) hux22 rfl (by omega)
                        subst af10x22
                        have af11x22 := af_of (i := 11) hux22 rfl (by omega)
                        subst af11x22
                        have ctx22 := CT_of hrx22 hbx22
                        have rwx22 := rl_of hrx22 (by omega)
                        subst rwx22
                        refine T.get rfl rfl rfl hux22 rfl ?_
                        refine T.if_ne rfl rfl (by omega) (fun c31 => ?_) (fun c31 => ?_)
                        · refine T.go 1 (fun n9 => (rfl : _ = exe ξ n9 (d + 4) j_U_unpack 190 [(0, .ref 17), (1, .ref o), (2, J x), (3, J n), (4, .ref q), (5, J u), (6, J 1), (7, J i), (8, J z8), (9, J 0)] [J 0] s9)) ?_
                          have hbn : ∀ w9, ¬ BK g (8 * (x + n)) u (afld τ 17 9) (rl τ q) (nb τ q) w9 := BK_no2 (by omega) (pz9_2 (by omega))
                          exact T.iretz rfl rfl (by omega) ⟨_, rfl, gs9, by omega, by omega, (fun h => absurd h (by decide)), (fun _ v hv _ => by have h5 := (i5 (by omega) v).mpr hv; rw [show (64001 - i).toNat = (64001 - (i + 1)).toNat + 1 by omega] at h5; exact INF_no hbn h5)⟩
                        · refine T.go 3 (fun n9 => (rfl : _ = exe ξ n9 (d + 4) j_U_unpack 190 [(0, .ref 17), (1, .ref o), (2, J x), (3, J n), (4, .ref q), (5, J u), (6, J 1), (7, J i), (8, J z8), (9, J 0)] [J 0] s9)) ?_
                          have hbn : ∀ w9, ¬ BK g (8 * (x + n)) u (afld τ 17 9) (rl τ q) (nb τ q) w9 := BK_no2 (by omega) (pz9_2 (by omega))
                          exact T.iretz rfl rfl (by omega) ⟨_, rfl, gs9, by omega, by omega, (fun h => absurd h (by decide)), (fun _ v hv _ => by have h5 := (i5 (by omega) v).mpr hv; rw [show (64001 - i).toNat = (64001 - (i + 1)).toNat + 1 by omega] at h5; exact INF_no hbn h5)⟩
                      · refine T.go 2 (fun n9 => (rfl : _ = exe ξ n9 (d + 4) j_U_unpack 157 [(0, .ref 17), (1, .ref o), (2, J x), (3, J n), (4, .ref q), (5, J u), (6, J 1), (7, J i), (8, J z8)] [.ref 17, .ref 17] s9)) ?_
                        obtain ⟨wx23, bix23, bex23, rox23, mx23, nx23, bx23, lx23, hux23, hrx23, hbx23, ⟨fx23a, fx23b, fx23c, fx23d, fx23e, fx23f, fx23g, fx23h, fx23i, fx23j⟩, ⟨fx23k, fx23l, fx23m, fx23n⟩, fx23o, fx23p⟩ := UL.unf hs9.1 pz9_0 ho
                        have af8x23 := af_of (i := 8) hux23 rfl (by omega)
                        subst af8x23
                        have af9x23 := af_of (i := 9) hux23 rfl (by omega)
                        subst af9x23
                        have af10x23 := af_of (i := 10) hux23 rfl (by omega)
                        subst af10x23
                        have af11x23 := af_of (i := 11) hux23 rfl (by omega)
                        subst af11x23
                        have ctx23 := CT_of hrx23 hbx23
                        have rwx23 := rl_of hrx23 (by omega)
                        subst rwx23
                        refine T.get rfl rfl rfl hux23 rfl ?_
                        refine T.go 1 (fun n9 => (rfl : _ = exe ξ n9 (d + 4) j_U_unpack 161 [(0, .ref 17), (1, .ref o), (2, J x), (3, J n), (4, .ref q), (5, J u), (6, J 1), (7, J i), (8, J z8)] [.ref 17, .ref 23, .ref 17] s9)) ?_
                        refine T.get rfl rfl rfl hux23 rfl ?_
                        have lc9 := pz9_1 (by omega)
                        have cdA := lc9.2.1
                        have cdB := lc9.2.2.1
                        have na10 := (gs9.b.2 hNA).1
                        have hg10 := hg.fr hNA gs9 ho (nm_c (dq_1 _ ho) (nm_c (dq_3 _ ho) (nm_c (dq_4 _ ho) (nm_c (dq_5 _ ho) (nm_c (dq_6 _ ho) (nm_c (dq_7 _ ho) (nm_c (dq_8 _ ho) (nm_c (dq_9 _ ho) (nm_c (dq_10 _ ho) (nm_c (dq_11 _ ho) (nm_c (dq_12 _ ho) (nm_c hoq nm_0))))))))))))
                        have hm9 := lc9.1.2.1
                        have hm8 := lc9.1.2.2.1
                        refine T.callv (as := [.ref 23, .ref 27]) (r := []) rfl rfl rfl rfl hux23 rfl (s_U_ffollowSigns hX0 (d + 1) o q g (TQ g (8 * (x + n)) (afld τ 17 9 + 3)).2.2 (hlQ g (afld τ 17 9 + 3)).toNat (fun j => (TQ g (8 * (x + n)) (afld τ 17 9 + 3)).2.2 (hlQ g (afld τ 17 9 + 3) + j)) (hdQ g (afld τ 17 9 + 3)).toNat 23 27 s9 hs9.1 (by decide) (by decide) ho hq hoq pz9_0 na10 hg10 hmt cdA cdB (by omega) (by omega) (by omega)) (fun v10 s10 hqs10 => ?_)
                        obtain ⟨z10, rfl, hs10, hzz10, hyz10, pz10_0, pz10_1, pz10_2, pz10_3, pz10_4⟩ := hqs10
                        have es10 := hs10
                        have hs10 := hs10.sub (w' := [17, 18, 20, 21, 22, 24, 25, 26, 28, 29, 30, q]) (List.forall_mem_cons.mpr ⟨(by simp), (List.forall_mem_cons.mpr ⟨(by simp), (fun _ h => by cases h)⟩)⟩)
                        have k15 := es10.b.1 _ _ (nm_c (dq_1 _ ho) (nm_c hoq nm_0)) (fun l z => by cases z) hrx23
                        have gs10 := gs9.trans hs10
                        rw [show afld s9 17 10 = 8 * (x + n) by omega, show afld s9 17 8 = u by omega, lc9.2.2.2.1, show rl s9 q = rl τ q by omega, nt7] at pz10_1 pz10_2
                        refine T.if_eq rfl rfl (by omega) (fun c32 => ?_) (fun c32 => ?_)
                        · refine T.go 3 (fun n9 => (rfl : _ = exe ξ n9 (d + 4) j_U_unpack 178 [(0, .ref 17), (1, .ref o), (2, J x), (3, J n), (4, .ref q), (5, J u), (6, J 1), (7, J i), (8, J z8), (9, J 0)] [.ref 17] s10)) ?_
                          obtain ⟨wx24, bix24, bex24, rox24, mx24, nx24, bx24, lx24, hux24, hrx24, hbx24, ⟨fx24a, fx24b, fx24c, fx24d, fx24e, fx24f, fx24g, fx24h, fx24i, fx24j⟩, ⟨fx24k, fx24l, fx24m, fx24n⟩, fx24o, fx24p⟩ := UL.unf hs10.1 pz10_0 ho
                          have af8x24 := af_of (i := 8) hux24 rfl (by omega)
                          subst af8x24
                          have af9x24 := af_of (i := 9) hux24 rfl (by omega)
                          subst af9x24
                          have af10x24 := af_of (i := 10) hux24 rfl (by omega)
                          subst af10x24
                          have af11x24 := af_of (i := 11) hux24 rfl (by omega)
                          subst af11x24
                          have ctx24 := CT_of hrx24 hbx24
                          have rwx24 := rl_of hrx24 (by omega)
                          subst rwx24
                          refine T.get rfl rfl rfl hux24 rfl ?_
                          refine T.if_ne rfl rfl (by omega) (fun c33 => ?_) (fun c33 => ?_)
                          · refine T.go 1 (fun n9 => (rfl : _ = exe ξ n9 (d + 4) j_U_unpack 190 [(0, .ref 17), (1, .ref o), (2, J x), (3, J n), (4, .ref q), (5, J u), (6, J 1), (7, J i), (8, J z8), (9, J 0)] [J 0] s10)) ?_
                            have hbn : ∀ w9, ¬ BK g (8 * (x + n)) u (afld τ 17 9) (rl τ q) (nb τ q) w9 := BK_no3 (by omega) (pz10_2 (by omega))
                            exact T.iretz rfl rfl (by omega) ⟨_, rfl, gs10, by omega, by omega, (fun h => absurd h (by decide)), (fun _ v hv _ => by have h5 := (i5 (by omega) v).mpr hv; rw [show (64001 - i).toNat = (64001 - (i + 1)).toNat + 1 by omega] at h5; exact INF_no hbn h5)⟩
                          · refine T.go 3 (fun n9 => (rfl : _ = exe ξ n9 (d + 4) j_U_unpack 190 [(0, .ref 17), (1, .ref o), (2, J x), (3, J n), (4, .ref q), (5, J u), (6, J 1), (7, J i), (8, J z8), (9, J 0)] [J 0] s10)) ?_
                            have hbn : ∀ w9, ¬ BK g (8 * (x + n)) u (afld τ 17 9) (rl τ q) (nb τ q) w9 := BK_no3 (by omega) (pz10_2 (by omega))
                            exact T.iretz rfl rfl (by omega) ⟨_, rfl, gs10, by omega, by omega, (fun h => absurd h (by decide)), (fun _ v hv _ => by have h5 := (i5 (by omega) v).mpr hv; rw [show (64001 - i).toNat = (64001 - (i + 1)).toNat + 1 by omega] at h5; exact INF_no hbn h5)⟩
                        · refine T.go 4 (fun n9 => (rfl : _ = exe ξ n9 (d + 4) j_U_unpack 178 [(0, .ref 17), (1, .ref o), (2, J x), (3, J n), (4, .ref q), (5, J u), (6, J 1), (7, J i), (8, J z8), (9, J 1)] [.ref 17] s10)) ?_
                          obtain ⟨wx25, bix25, bex25, rox25, mx25, nx25, bx25, lx25, hux25, hrx25, hbx25, ⟨fx25a, fx25b, fx25c, fx25d, fx25e, fx25f, fx25g, fx25h, fx25i, fx25j⟩, ⟨fx25k, fx25l, fx25m, fx25n⟩, fx25o, fx25p⟩ := UL.unf hs10.1 pz10_0 ho
                          have af8x25 := af_of (i := 8) hux25 rfl (by omega)
                          subst af8x25
                          have af9x25 := af_of (i := 9) hux25 rfl (by omega)
                          subst af9x25
                          have af10x25 := af_of (i := 10) hux25 rfl (by omega)
                          subst af10x25
                          have af11x25 := af_of (i := 11) hux25 rfl (by omega)
                          subst af11x25
                          have ctx25 := CT_of hrx25 hbx25
                          have rwx25 := rl_of hrx25 (by omega)
                          subst rwx25
                          refine T.get rfl rfl rfl hux25 rfl ?_
                          refine T.if_ne rfl rfl (by omega) (fun c34 => ?_) (fun c34 => ?_)
                          · refine T.go 1 (fun n9 => (rfl : _ = exe ξ n9 (d + 4) j_U_unpack 190 [(0, .ref 17), (1, .ref o), (2, J x), (3, J n), (4, .ref q), (5, J u), (6, J 1), (7, J i), (8, J z8), (9, J 1)] [J 0] s10)) ?_
                            have hbn : ∀ w9, ¬ BK g (8 * (x + n)) u (afld τ 17 9) (rl τ q) (nb τ q) w9 := BK_no3 (by omega) (pz10_2 (by omega))
                            exact T.iretz rfl rfl (by omega) ⟨_, rfl, gs10, by omega, by omega, (fun h => absurd h (by decide)), (fun _ v hv _ => by have h5 := (i5 (by omega) v).mpr hv; rw [show (64001 - i).toNat = (64001 - (i + 1)).toNat + 1 by omega] at h5; exact INF_no hbn h5)⟩
                          · refine T.go 2 (fun n9 => (rfl : _ = exe ξ n9 (d + 4) j_U_unpack 191 [(0, .ref 17), (1, .ref o), (2, J x), (3, J n), (4, .ref q), (5, J u), (6, J 1), (7, J i), (8, J z8), (9, J 1)] [] s10)) ?_
                            refine T.iinc (lv' := [(0, .ref 17), (1, .ref o), (2, J x), (3, J n), (4, .ref q), (5, J u), (6, J 1), (7, J (i + 1)), (8, J z8), (9, J 1)]) rfl rfl rfl rfl ?_
                            refine T.go 1 (fun n9 => (rfl : _ = exe ξ n9 (d + 4) j_U_unpack 74 [(0, .ref 17), (1, .ref o), (2, J x), (3, J n), (4, .ref q), (5, J u), (6, J 1), (7, J (i + 1)), (8, J z8), (9, J 1)] [] s10)) ?_
                            refine T.drop (lv := [(0, .ref 17), (1, .ref o), (2, J x), (3, J n), (4, .ref q), (5, J u), (6, J 1), (7, J (i + 1))]) [(8, J z8), (9, J 1)] (by simp) ?_
                            obtain ⟨u1, u2, u3, u4⟩ := (show UR s10 q (DYN g (8 * (x + n)) u (afld τ 17 9 + 3) (rl τ q) (nb τ q)) from pz10_1 (by omega))
                            have hbk : BK g (8 * (x + n)) u (afld τ 17 9) (rl τ q) (nb τ q) (DYN g (8 * (x + n)) u (afld τ 17 9 + 3) (rl τ q) (nb τ q)) := ⟨by omega, u1, Or.inr (Or.inr ⟨by omega, lc9.1, rfl⟩)⟩
                            have bt9 := BV_1 g (afld τ 17 9)
                            exact ih  1 (i + 1) s10 gs10 pz10_0 (by omega) (by omega) (by omega) (by omega) (by omega) (fun h => absurd h (by decide)) (fun _ => by have h5 := (i5 (by omega) _).mp (by rw [show (64001 - i).toNat = (64001 - (i + 1)).toNat + 1 by omega]; exact INF_st1 hbk (by omega)); rw [US_eta u1 u2 u3 u4]; exact h5) (by omega)
                  · refine T.go 2 (fun n9 => (rfl : _ = exe ξ n9 (d + 4) j_U_unpack 129 [(0, .ref 17), (1, .ref o), (2, J x), (3, J n), (4, .ref q), (5, J u), (6, J 1), (7, J i), (8, J z8)] [.ref 17, .ref 17] s8)) ?_
                    obtain ⟨wx26, bix26, bex26, rox26, mx26, nx26, bx26, lx26, hux26, hrx26, hbx26, ⟨fx26a, fx26b, fx26c, fx26d, fx26e, fx26f, fx26g, fx26h, fx26i, fx26j⟩, ⟨fx26k, fx26l, fx26m, fx26n⟩, fx26o, fx26p⟩ := UL.unf hs8.1 pz8_0 ho
                    have af8x26 := af_of (i := 8) hux26 rfl (by omega)
                    subst af8x26
                    have af9x26 := af_of (i := 9) hux26 rfl (by omega)
                    subst af9x26
                    have af10x26 := af_of (i := 10) hux26 rfl (by omega)
                    subst af10x26
                    have af11x26 := af_of (i := 11) hux26 rfl (by omega)
                    subst af11x26
                    have ctx26 := CT_of hrx26 hbx26
                    have rwx26 := rl_of hrx26 (by omega)
                    subst rwx26
                    refine T.get rfl rfl rfl hux26 rfl ?_
                    refine T.go 1 (fun n9 => (rfl : _ = exe ξ n9 (d + 4) j_U_unpack 133 [(0, .ref 17), (1, .ref o), (2, J x), (3, J n), (4, .ref q), (5, J u), (6, J 1), (7, J i), (8, J z8)] [.ref 17, .ref 31, .ref 17] s8)) ?_
                    refine T.get rfl rfl rfl hux26 rfl ?_
                    have na11 := (gs8.b.2 hNA).1
                    have hg11 := hg.fr hNA gs8 ho (nm_c (dq_1 _ ho) (nm_c (dq_3 _ ho) (nm_c (dq_4 _ ho) (nm_c (dq_5 _ ho) (nm_c (dq_6 _ ho) (nm_c (dq_7 _ ho) (nm_c (dq_8 _ ho) (nm_c (dq_9 _ ho) (nm_c (dq_10 _ ho) (nm_c (dq_11 _ ho) (nm_c (dq_12 _ ho) (nm_c hoq nm_0))))))))))))
                    refine T.callv (as := [.ref 31, .ref 35]) (r := []) rfl rfl rfl rfl hux26 rfl (s_U_ffollowSigns hX0 (d + 1) o q g fixA 288 (fun _ => 5) 32 31 35 s8 hs8.1 (by decide) (by decide) ho hq hoq pz8_0 na11 hg11 hmt (hf1.fr hK (by decide) gs8 (nm_c (by decide) (nm_c (by decide) (nm_c (by decide) (nm_c (by decide) (nm_c (by decide) (nm_c (by decide) (nm_c (by decide) (nm_c (by decide) (nm_c (by decide) (nm_c (by decide) (nm_c (by decide) (nm_c (dq_13 _ hq) nm_0)))))))))))) (nm_c (by decide) (nm_c (by decide) (nm_c (by decide) (nm_c (by decide) (nm_c (by decide) (nm_c (by decide) (nm_c (by decide) (nm_c (by decide) (nm_c (by decide) (nm_c (by decide) (nm_c (by decide) (nm_c (dq_14 _ hq) nm_0))))))))))))) (hf2.fr hK (by decide) gs8 (nm_c (by decide) (nm_c (by decide) (nm_c (by decide) (nm_c (by decide) (nm_c (by decide) (nm_c (by decide) (nm_c (by decide) (nm_c (by decide) (nm_c (by decide) (nm_c (by decide) (nm_c (by decide) (nm_c (dq_15 _ hq) nm_0)))))))))))) (nm_c (by decide) (nm_c (by decide) (nm_c (by decide) (nm_c (by decide) (nm_c (by decide) (nm_c (by decide) (nm_c (by decide) (nm_c (by decide) (nm_c (by decide) (nm_c (by decide) (nm_c (by decide) (nm_c (dq_16 _ hq) nm_0))))))))))))) (by omega) (by omega) (by omega)) (fun v11 s11 hqs11 => ?_)
                    obtain ⟨z11, rfl, hs11, hzz11, hyz11, pz11_0, pz11_1, pz11_2, pz11_3, pz11_4⟩ := hqs11
                    have es11 := hs11
                    have hs11 := hs11.sub (w' := [17, 18, 20, 21, 22, 24, 25, 26, 28, 29, 30, q]) (List.forall_mem_cons.mpr ⟨(by simp), (List.forall_mem_cons.mpr ⟨(by simp), (fun _ h => by cases h)⟩)⟩)
                    have k16 := es11.b.1 _ _ (nm_c (dq_1 _ ho) (nm_c hoq nm_0)) (fun l z => by cases z) hrx26
                    have gs11 := gs8.trans hs11
                    rw [show afld s8 17 10 = 8 * (x + n) by omega, show afld s8 17 8 = u by omega, show afld s8 17 9 = afld τ 17 9 + 3 by omega, show rl s8 q = rl τ q by omega, nt6] at pz11_1 pz11_2
                    refine T.go 3 (fun n9 => (rfl : _ = exe ξ n9 (d + 4) j_U_unpack 178 [(0, .ref 17), (1, .ref o), (2, J x), (3, J n), (4, .ref q), (5, J u), (6, J 1), (7, J i), (8, J z8), (9, J z11)] [.ref 17] s11)) ?_
                    obtain ⟨wx27, bix27, bex27, rox27, mx27, nx27, bx27, lx27, hux27, hrx27, hbx27, ⟨fx27a, fx27b, fx27c, fx27d, fx27e, fx27f, fx27g, fx27h, fx27i, fx27j⟩, ⟨fx27k, fx27l, fx27m, fx27n⟩, fx27o, fx27p⟩ := UL.unf hs11.1 pz11_0 ho
                    have af8x27 := af_of (i := 8) hux27 rfl (by omega)
                    subst af8x27
                    have af9x27 := af_of (i := 9) hux27 rfl (by omega)
                    subst af9x27
                    have af10x27 := af_of (i := 10) hux27 rfl (by omega)
                    subst af10x27
                    have af11x27 := af_of (i := 11) hux27 rfl (by omega)
                    subst af11x27
                    have ctx27 := CT_of hrx27 hbx27
                    have rwx27 := rl_of hrx27 (by omega)
                    subst rwx27
                    refine T.get rfl rfl rfl hux27 rfl ?_
                    refine T.if_ne rfl rfl (by omega) (fun c35 => ?_) (fun c35 => ?_)
                    · refine T.go 1 (fun n9 => (rfl : _ = exe ξ n9 (d + 4) j_U_unpack 190 [(0, .ref 17), (1, .ref o), (2, J x), (3, J n), (4, .ref q), (5, J u), (6, J 1), (7, J i), (8, J z8), (9, J z11)] [J 0] s11)) ?_
                      have hbn : ∀ w9, ¬ BK g (8 * (x + n)) u (afld τ 17 9) (rl τ q) (nb τ q) w9 := BK_no1 (by omega) (pz11_2 (by omega))
                      exact T.iretz rfl rfl (by omega) ⟨_, rfl, gs11, by omega, by omega, (fun h => absurd h (by decide)), (fun _ v hv _ => by have h5 := (i5 (by omega) v).mpr hv; rw [show (64001 - i).toNat = (64001 - (i + 1)).toNat + 1 by omega] at h5; exact INF_no hbn h5)⟩
                    · refine T.go 1 (fun n9 => (rfl : _ = exe ξ n9 (d + 4) j_U_unpack 186 [(0, .ref 17), (1, .ref o), (2, J x), (3, J n), (4, .ref q), (5, J u), (6, J 1), (7, J i), (8, J z8), (9, J z11)] [J z11] s11)) ?_
                      refine T.if_ne rfl rfl (by omega) (fun c36 => ?_) (fun c36 => ?_)
                      · refine T.iinc (lv' := [(0, .ref 17), (1, .ref o), (2, J x), (3, J n), (4, .ref q), (5, J u), (6, J 1), (7, J (i + 1)), (8, J z8), (9, J z11)]) rfl rfl rfl rfl ?_
                        refine T.go 1 (fun n9 => (rfl : _ = exe ξ n9 (d + 4) j_U_unpack 74 [(0, .ref 17), (1, .ref o), (2, J x), (3, J n), (4, .ref q), (5, J u), (6, J 1), (7, J (i + 1)), (8, J z8), (9, J z11)] [] s11)) ?_
                        refine T.drop (lv := [(0, .ref 17), (1, .ref o), (2, J x), (3, J n), (4, .ref q), (5, J u), (6, J 1), (7, J (i + 1))]) [(8, J z8), (9, J z11)] (by simp) ?_
                        obtain ⟨u1, u2, u3, u4⟩ := (show UR s11 q (FS g (8 * (x + n)) u fixA 288 (fun _ => 5) 32 64001 (afld τ 17 9 + 3) (rl τ q) (nb τ q)) from pz11_1 (by omega))
                        have hbk : BK g (8 * (x + n)) u (afld τ 17 9) (rl τ q) (nb τ q) (FS g (8 * (x + n)) u fixA 288 (fun _ => 5) 32 64001 (afld τ 17 9 + 3) (rl τ q) (nb τ q)) := ⟨by omega, u1, Or.inr (Or.inl ⟨by omega, rfl⟩)⟩
                        have bt9 := BV_1 g (afld τ 17 9)
                        exact ih  1 (i + 1) s11 gs11 pz11_0 (by omega) (by omega) (by omega) (by omega) (by omega) (fun h => absurd h (by decide)) (fun _ => by have h5 := (i5 (by omega) _).mp (by rw [show (64001 - i).toNat = (64001 - (i + 1)).toNat + 1 by omega]; exact INF_st1 hbk (by omega)); rw [US_eta u1 u2 u3 u4]; exact h5) (by omega)
                      · refine T.go 1 (fun n9 => (rfl : _ = exe ξ n9 (d + 4) j_U_unpack 190 [(0, .ref 17), (1, .ref o), (2, J x), (3, J n), (4, .ref q), (5, J u), (6, J 1), (7, J i), (8, J z8), (9, J z11)] [J 0] s11)) ?_
                        have hbn : ∀ w9, ¬ BK g (8 * (x + n)) u (afld τ 17 9) (rl τ q) (nb τ q) w9 := BK_no1 (by omega) (pz11_2 (by omega))
                        exact T.iretz rfl rfl (by omega) ⟨_, rfl, gs11, by omega, by omega, (fun h => absurd h (by decide)), (fun _ v hv _ => by have h5 := (i5 (by omega) v).mpr hv; rw [show (64001 - i).toNat = (64001 - (i + 1)).toNat + 1 by omega] at h5; exact INF_no hbn h5)⟩
                · refine T.go 1 (fun n9 => (rfl : _ = exe ξ n9 (d + 4) j_U_unpack 115 [(0, .ref 17), (1, .ref o), (2, J x), (3, J n), (4, .ref q), (5, J u), (6, J 1), (7, J i), (8, J z8)] [.ref 17] s8)) ?_
                  have na12 := (gs8.b.2 hNA).1
                  have hg12 := hg.fr hNA gs8 ho (nm_c (dq_1 _ ho) (nm_c (dq_3 _ ho) (nm_c (dq_4 _ ho) (nm_c (dq_5 _ ho) (nm_c (dq_6 _ ho) (nm_c (dq_7 _ ho) (nm_c (dq_8 _ ho) (nm_c (dq_9 _ ho) (nm_c (dq_10 _ ho) (nm_c (dq_11 _ ho) (nm_c (dq_12 _ ho) (nm_c hoq nm_0))))))))))))
                  obtain ⟨wx28, bix28, bex28, rox28, mx28, nx28, bx28, lx28, hux28, hrx28, hbx28, ⟨fx28a, fx28b, fx28c, fx28d, fx28e, fx28f, fx28g, fx28h, fx28i, fx28j⟩, ⟨fx28k, fx28l, fx28m, fx28n⟩, fx28o, fx28p⟩ := UL.unf hs8.1 pz8_0 ho
                  have af8x28 := af_of (i := 8) hux28 rfl (by omega)
                  subst af8x28
                  have af9x28 := af_of (i := 9) hux28 rfl (by omega)
                  subst af9x28
                  have af10x28 := af_of (i := 10) hux28 rfl (by omega)
                  subst af10x28
                  have af11x28 := af_of (i := 11) hux28 rfl (by omega)
                  subst af11x28
                  have ctx28 := CT_of hrx28 hbx28
                  have rwx28 := rl_of hrx28 (by omega)
                  subst rwx28
                  refine T.callv (as := []) (r := []) rfl rfl rfl rfl hux28 rfl (s_U_fcopyPlain (d + 1) o q g  s8 hs8.1  ho hq hoq pz8_0 na12 hg12 hmt ) (fun v12 s12 hqs12 => ?_)
                  obtain ⟨z12, rfl, hs12, hzz12, hyz12, pz12_0, pz12_1, pz12_2, pz12_3, pz12_4⟩ := hqs12
                  have es12 := hs12
                  have hs12 := hs12.sub (w' := [17, 18, 20, 21, 22, 24, 25, 26, 28, 29, 30, q]) (List.forall_mem_cons.mpr ⟨(by simp), (List.forall_mem_cons.mpr ⟨(by simp), (fun _ h => by cases h)⟩)⟩)
                  have k17 := es12.b.1 _ _ (nm_c (dq_1 _ ho) (nm_c hoq nm_0)) (fun l z => by cases z) hrx28
                  have gs12 := gs8.trans hs12
                  rw [show afld s8 17 10 = 8 * (x + n) by omega, show afld s8 17 8 = u by omega, show afld s8 17 9 = afld τ 17 9 + 3 by omega, show rl s8 q = rl τ q by omega, nt6] at pz12_1 pz12_2
                  refine T.go 3 (fun n9 => (rfl : _ = exe ξ n9 (d + 4) j_U_unpack 178 [(0, .ref 17), (1, .ref o), (2, J x), (3, J n), (4, .ref q), (5, J u), (6, J 1), (7, J i), (8, J z8), (9, J z12)] [.ref 17] s12)) ?_
                  obtain ⟨wx29, bix29, bex29, rox29, mx29, nx29, bx29, lx29, hux29, hrx29, hbx29, ⟨fx29a, fx29b, fx29c, fx29d, fx29e, fx29f, fx29g, fx29h, fx29i, fx29j⟩, ⟨fx29k, fx29l, fx29m, fx29n⟩, fx29o, fx29p⟩ := UL.unf hs12.1 pz12_0 ho
                  have af8x29 := af_of (i := 8) hux29 rfl (by omega)
                  subst af8x29
                  have af9x29 := af_of (i := 9) hux29 rfl (by omega)
                  subst af9x29
                  have af10x29 := af_of (i := 10) hux29 rfl (by omega)
                  subst af10x29
                  have af11x29 := af_of (i := 11) hux29 rfl (by omega)
                  subst af11x29
                  have ctx29 := CT_of hrx29 hbx29
                  have rwx29 := rl_of hrx29 (by omega)
                  subst rwx29
                  refine T.get rfl rfl rfl hux29 rfl ?_
                  refine T.if_ne rfl rfl (by omega) (fun c37 => ?_) (fun c37 => ?_)
                  · refine T.go 1 (fun n9 => (rfl : _ = exe ξ n9 (d + 4) j_U_unpack 190 [(0, .ref 17), (1, .ref o), (2, J x), (3, J n), (4, .ref q), (5, J u), (6, J 1), (7, J i), (8, J z8), (9, J z12)] [J 0] s12)) ?_
                    have hbn : ∀ w9, ¬ BK g (8 * (x + n)) u (afld τ 17 9) (rl τ q) (nb τ q) w9 := BK_no0 (by omega) (pz12_2 (by omega) (by omega))
                    exact T.iretz rfl rfl (by omega) ⟨_, rfl, gs12, by omega, by omega, (fun h => absurd h (by decide)), (fun _ v hv _ => by have h5 := (i5 (by omega) v).mpr hv; rw [show (64001 - i).toNat = (64001 - (i + 1)).toNat + 1 by omega] at h5; exact INF_no hbn h5)⟩
                  · refine T.go 1 (fun n9 => (rfl : _ = exe ξ n9 (d + 4) j_U_unpack 186 [(0, .ref 17), (1, .ref o), (2, J x), (3, J n), (4, .ref q), (5, J u), (6, J 1), (7, J i), (8, J z8), (9, J z12)] [J z12] s12)) ?_
                    refine T.if_ne rfl rfl (by omega) (fun c38 => ?_) (fun c38 => ?_)
                    · refine T.iinc (lv' := [(0, .ref 17), (1, .ref o), (2, J x), (3, J n), (4, .ref q), (5, J u), (6, J 1), (7, J (i + 1)), (8, J z8), (9, J z12)]) rfl rfl rfl rfl ?_
                      refine T.go 1 (fun n9 => (rfl : _ = exe ξ n9 (d + 4) j_U_unpack 74 [(0, .ref 17), (1, .ref o), (2, J x), (3, J n), (4, .ref q), (5, J u), (6, J 1), (7, J (i + 1)), (8, J z8), (9, J z12)] [] s12)) ?_
                      refine T.drop (lv := [(0, .ref 17), (1, .ref o), (2, J x), (3, J n), (4, .ref q), (5, J u), (6, J 1), (7, J (i + 1))]) [(8, J z8), (9, J z12)] (by simp) ?_
                      obtain ⟨u1, u2, u3, u4⟩ := (show UR s12 q (PLN g (8 * (x + n)) u ((afld τ 17 9 + 3 + 7) / 8 * 8) (rl τ q) (nb τ q)) from pz12_1 (by omega))
                      have hbk : BK g (8 * (x + n)) u (afld τ 17 9) (rl τ q) (nb τ q) (PLN g (8 * (x + n)) u ((afld τ 17 9 + 3 + 7) / 8 * 8) (rl τ q) (nb τ q)) := ⟨by omega, u1, Or.inl ⟨by omega, rfl⟩⟩
                      have bt9 := BV_1 g (afld τ 17 9)
                      exact ih  1 (i + 1) s12 gs12 pz12_0 (by omega) (by omega) (by omega) (by omega) (by omega) (fun h => absurd h (by decide)) (fun _ => by have h5 := (i5 (by omega) _).mp (by rw [show (64001 - i).toNat = (64001 - (i + 1)).toNat + 1 by omega]; exact INF_st1 hbk (by omega)); rw [US_eta u1 u2 u3 u4]; exact h5) (by omega)
                    · refine T.go 1 (fun n9 => (rfl : _ = exe ξ n9 (d + 4) j_U_unpack 190 [(0, .ref 17), (1, .ref o), (2, J x), (3, J n), (4, .ref q), (5, J u), (6, J 1), (7, J i), (8, J z8), (9, J z12)] [J 0] s12)) ?_
                      have hbn : ∀ w9, ¬ BK g (8 * (x + n)) u (afld τ 17 9) (rl τ q) (nb τ q) w9 := BK_no0 (by omega) (pz12_2 (by omega) (by omega))
                      exact T.iretz rfl rfl (by omega) ⟨_, rfl, gs12, by omega, by omega, (fun h => absurd h (by decide)), (fun _ v hv _ => by have h5 := (i5 (by omega) v).mpr hv; rw [show (64001 - i).toNat = (64001 - (i + 1)).toNat + 1 by omega] at h5; exact INF_no hbn h5)⟩
              · have fkz8 := taz8
                refine T.go 2 (fun n9 => (rfl : _ = exe ξ n9 (d + 4) j_U_unpack 111 [(0, .ref 17), (1, .ref o), (2, J x), (3, J n), (4, .ref q), (5, J u), (6, J 1), (7, J i), (8, J z8)] [J z8] s8)) ?_
                refine T.if_ne rfl rfl (by omega) (fun c39 => ?_) (fun c39 => ?_)
                · exfalso
                  omega
                · refine T.go 1 (fun n9 => (rfl : _ = exe ξ n9 (d + 4) j_U_unpack 115 [(0, .ref 17), (1, .ref o), (2, J x), (3, J n), (4, .ref q), (5, J u), (6, J 1), (7, J i), (8, J z8)] [.ref 17] s8)) ?_
                  have na13 := (gs8.b.2 hNA).1
                  have hg13 := hg.fr hNA gs8 ho (nm_c (dq_1 _ ho) (nm_c (dq_3 _ ho) (nm_c (dq_4 _ ho) (nm_c (dq_5 _ ho) (nm_c (dq_6 _ ho) (nm_c (dq_7 _ ho) (nm_c (dq_8 _ ho) (nm_c (dq_9 _ ho) (nm_c (dq_10 _ ho) (nm_c (dq_11 _ ho) (nm_c (dq_12 _ ho) (nm_c hoq nm_0))))))))))))
                  obtain ⟨wx30, bix30, bex30, rox30, mx30, nx30, bx30, lx30, hux30, hrx30, hbx30, ⟨fx30a, fx30b, fx30c, fx30d, fx30e, fx30f, fx30g, fx30h, fx30i, fx30j⟩, ⟨fx30k, fx30l, fx30m, fx30n⟩, fx30o, fx30p⟩ := UL.unf hs8.1 pz8_0 ho
                  have af8x30 := af_of (i := 8) hux30 rfl (by omega)
                  subst af8x30
                  have af9x30 := af_of (i := 9) hux30 rfl (by omega)
                  subst af9x30
                  have af10x30 := af_of (i := 10) hux30 rfl (by omega)
                  subst af10x30
                  have af11x30 := af_of (i := 11) hux30 rfl (by omega)
                  subst af11x30
                  have ctx30 := CT_of hrx30 hbx30
                  have rwx30 := rl_of hrx30 (by omega)
                  subst rwx30
                  refine T.callv (as := []) (r := []) rfl rfl rfl rfl hux30 rfl (s_U_fcopyPlain (d + 1) o q g  s8 hs8.1  ho hq hoq pz8_0 na13 hg13 hmt ) (fun v13 s13 hqs13 => ?_)
                  obtain ⟨z13, rfl, hs13, hzz13, hyz13, pz13_0, pz13_1, pz13_2, pz13_3, pz13_4⟩ := hqs13
                  have es13 := hs13
                  have hs13 := hs13.sub (w' := [17, 18, 20, 21, 22, 24, 25, 26, 28, 29, 30, q]) (List.forall_mem_cons.mpr ⟨(by simp), (List.forall_mem_cons.mpr ⟨(by simp), (fun _ h => by cases h)⟩)⟩)
                  have k18 := es13.b.1 _ _ (nm_c (dq_1 _ ho) (nm_c hoq nm_0)) (fun l z => by cases z) hrx30
                  have gs13 := gs8.trans hs13
                  refine T.go 3 (fun n9 => (rfl : _ = exe ξ n9 (d + 4) j_U_unpack 178 [(0, .ref 17), (1, .ref o), (2, J x), (3, J n), (4, .ref q), (5, J u), (6, J 1), (7, J i), (8, J z8), (9, J z13)] [.ref 17] s13)) ?_
                  obtain ⟨wx31, bix31, bex31, rox31, mx31, nx31, bx31, lx31, hux31, hrx31, hbx31, ⟨fx31a, fx31b, fx31c, fx31d, fx31e, fx31f, fx31g, fx31h, fx31i, fx31j⟩, ⟨fx31k, fx31l, fx31m, fx31n⟩, fx31o, fx31p⟩ := UL.unf hs13.1 pz13_0 ho
                  have af8x31 := af_of (i := 8) hux31 rfl (by omega)
                  subst af8x31
                  have af9x31 := af_of (i := 9) hux31 rfl (by omega)
                  subst af9x31
                  have af10x31 := af_of (i := 10) hux31 rfl (by omega)
                  subst af10x31
                  have af11x31 := af_of (i := 11) hux31 rfl (by omega)
                  subst af11x31
                  have ctx31 := CT_of hrx31 hbx31
                  have rwx31 := rl_of hrx31 (by omega)
                  subst rwx31
                  refine T.get rfl rfl rfl hux31 rfl ?_
                  refine T.if_ne rfl rfl (by omega) (fun c40 => ?_) (fun c40 => ?_)
                  · refine T.go 1 (fun n9 => (rfl : _ = exe ξ n9 (d + 4) j_U_unpack 190 [(0, .ref 17), (1, .ref o), (2, J x), (3, J n), (4, .ref q), (5, J u), (6, J 1), (7, J i), (8, J z8), (9, J z13)] [J 0] s13)) ?_
                    have hbn : ∀ w9, ¬ BK g (8 * (x + n)) u (afld τ 17 9) (rl τ q) (nb τ q) w9 := BK_noE (by omega)
                    exact T.iretz rfl rfl (by omega) ⟨_, rfl, gs13, by omega, by omega, (fun h => absurd h (by decide)), (fun _ v hv _ => by have h5 := (i5 (by omega) v).mpr hv; rw [show (64001 - i).toNat = (64001 - (i + 1)).toNat + 1 by omega] at h5; exact INF_no hbn h5)⟩
                  · refine T.go 1 (fun n9 => (rfl : _ = exe ξ n9 (d + 4) j_U_unpack 186 [(0, .ref 17), (1, .ref o), (2, J x), (3, J n), (4, .ref q), (5, J u), (6, J 1), (7, J i), (8, J z8), (9, J z13)] [J z13] s13)) ?_
                    refine T.if_ne rfl rfl (by omega) (fun c41 => ?_) (fun c41 => ?_)
                    · exfalso
                      omega
                    · refine T.go 1 (fun n9 => (rfl : _ = exe ξ n9 (d + 4) j_U_unpack 190 [(0, .ref 17), (1, .ref o), (2, J x), (3, J n), (4, .ref q), (5, J u), (6, J 1), (7, J i), (8, J z8), (9, J z13)] [J 0] s13)) ?_
                      have hbn : ∀ w9, ¬ BK g (8 * (x + n)) u (afld τ 17 9) (rl τ q) (nb τ q) w9 := BK_noE (by omega)
                      exact T.iretz rfl rfl (by omega) ⟨_, rfl, gs13, by omega, by omega, (fun h => absurd h (by decide)), (fun _ v hv _ => by have h5 := (i5 (by omega) v).mpr hv; rw [show (64001 - i).toNat = (64001 - (i + 1)).toNat + 1 by omega] at h5; exact INF_no hbn h5)⟩
          · have fkz1 := taz1
            refine T.go 1 (fun n9 => (rfl : _ = exe ξ n9 (d + 4) j_U_unpack 92 [(0, .ref 17), (1, .ref o), (2, J x), (3, J n), (4, .ref q), (5, J u), (6, J e), (7, J i)] [J 1, J z1] s1)) ?_
            refine T.icmp_ne rfl rfl (by omega) (by omega) (fun c42 => ?_) (fun c42 => ?_)
            · refine T.go 4 (fun n9 => (rfl : _ = exe ξ n9 (d + 4) j_U_unpack 104 [(0, .ref 17), (1, .ref o), (2, J x), (3, J n), (4, .ref q), (5, J u), (6, J 0), (7, J i)] [J 2, .ref 17] s1)) ?_
              have na14 := (gs1.b.2 hNA).1
              have hg14 := hg.fr hNA gs1 ho (nm_c (dq_1 _ ho) (nm_c (dq_3 _ ho) (nm_c (dq_4 _ ho) (nm_c (dq_5 _ ho) (nm_c (dq_6 _ ho) (nm_c (dq_7 _ ho) (nm_c (dq_8 _ ho) (nm_c (dq_9 _ ho) (nm_c (dq_10 _ ho) (nm_c (dq_11 _ ho) (nm_c (dq_12 _ ho) (nm_c hoq nm_0))))))))))))
              obtain ⟨wx32, bix32, bex32, rox32, mx32, nx32, bx32, lx32, hux32, hrx32, hbx32, ⟨fx32a, fx32b, fx32c, fx32d, fx32e, fx32f, fx32g, fx32h, fx32i, fx32j⟩, ⟨fx32k, fx32l, fx32m, fx32n⟩, fx32o, fx32p⟩ := UL.unf hs1.1 pz1_0 ho
              have af8x32 := af_of (i := 8) hux32 rfl (by omega)
              subst af8x32
              have af9x32 := af_of (i := 9) hux32 rfl (by omega)
              subst af9x32
              have af10x32 := af_of (i := 10) hux32 rfl (by omega)
              subst af10x32
              have af11x32 := af_of (i := 11) hux32 rfl (by omega)
              subst af11x32
              have ctx32 := CT_of hrx32 hbx32
              have rwx32 := rl_of hrx32 (by omega)
              subst rwx32
              refine T.callv (as := [J 2]) (r := []) rfl rfl rfl rfl hux32 rfl (s_U_ftakeBits (d + 3) o q g 2 s1 hs1.1  ho hq hoq pz1_0 na14 hg14 (by omega) (by omega) (by omega)) (fun v14 s14 hqs14 => ?_)
              obtain ⟨z14, rfl, hs14, hzz14, hyz14, pz14_0, pz14_1, pz14_2⟩ := hqs14
              have es14 := hs14
              have hs14 := hs14.sub (w' := [17, 18, 20, 21, 22, 24, 25, 26, 28, 29, 30, q]) (List.forall_mem_cons.mpr ⟨(by simp), (fun _ h => by cases h)⟩)
              have k19 := es14.b.1 _ _ (nm_c (dq_1 _ ho) nm_0) (fun l z => by cases z) hrx32
              have k20 := es14.b.1 _ _ (nm_c (dq_1 _ hq) nm_0) (fun l z => by cases z) k2
              have gs14 := gs1.trans hs14
              have nt8 := nb_fr na14 es14 hq (nm_c (dq_1 _ hq) nm_0)
              have rt6 := rl_eq (es14.2.2.1 q (List.mem_cons_of_mem _ hq) (nm_c (dq_1 _ hq) nm_0))
              have nt9 := nt8.trans nt1
              rw [show (2 : Int).toNat = 2 from rfl] at pz14_1
              refine T.go 2 (fun n9 => (rfl : _ = exe ξ n9 (d + 4) j_U_unpack 111 [(0, .ref 17), (1, .ref o), (2, J x), (3, J n), (4, .ref q), (5, J u), (6, J 0), (7, J i), (8, J z14)] [J z14] s14)) ?_
              refine T.if_ne rfl rfl (by omega) (fun c43 => ?_) (fun c43 => ?_)
              · exfalso
                omega
              · refine T.go 1 (fun n9 => (rfl : _ = exe ξ n9 (d + 4) j_U_unpack 115 [(0, .ref 17), (1, .ref o), (2, J x), (3, J n), (4, .ref q), (5, J u), (6, J 0), (7, J i), (8, J z14)] [.ref 17] s14)) ?_
                have na15 := (gs14.b.2 hNA).1
                have hg15 := hg.fr hNA gs14 ho (nm_c (dq_1 _ ho) (nm_c (dq_3 _ ho) (nm_c (dq_4 _ ho) (nm_c (dq_5 _ ho) (nm_c (dq_6 _ ho) (nm_c (dq_7 _ ho) (nm_c (dq_8 _ ho) (nm_c (dq_9 _ ho) (nm_c (dq_10 _ ho) (nm_c (dq_11 _ ho) (nm_c (dq_12 _ ho) (nm_c hoq nm_0))))))))))))
                obtain ⟨wx33, bix33, bex33, rox33, mx33, nx33, bx33, lx33, hux33, hrx33, hbx33, ⟨fx33a, fx33b, fx33c, fx33d, fx33e, fx33f, fx33g, fx33h, fx33i, fx33j⟩, ⟨fx33k, fx33l, fx33m, fx33n⟩, fx33o, fx33p⟩ := UL.unf hs14.1 pz14_0 ho
                have af8x33 := af_of (i := 8) hux33 rfl (by omega)
                subst af8x33
                have af9x33 := af_of (i := 9) hux33 rfl (by omega)
                subst af9x33
                have af10x33 := af_of (i := 10) hux33 rfl (by omega)
                subst af10x33
                have af11x33 := af_of (i := 11) hux33 rfl (by omega)
                subst af11x33
                have ctx33 := CT_of hrx33 hbx33
                have rwx33 := rl_of hrx33 (by omega)
                subst rwx33
                refine T.callv (as := []) (r := []) rfl rfl rfl rfl hux33 rfl (s_U_fcopyPlain (d + 1) o q g  s14 hs14.1  ho hq hoq pz14_0 na15 hg15 hmt ) (fun v15 s15 hqs15 => ?_)
                obtain ⟨z15, rfl, hs15, hzz15, hyz15, pz15_0, pz15_1, pz15_2, pz15_3, pz15_4⟩ := hqs15
                have es15 := hs15
                have hs15 := hs15.sub (w' := [17, 18, 20, 21, 22, 24, 25, 26, 28, 29, 30, q]) (List.forall_mem_cons.mpr ⟨(by simp), (List.forall_mem_cons.mpr ⟨(by simp), (fun _ h => by cases h)⟩)⟩)
                have k21 := es15.b.1 _ _ (nm_c (dq_1 _ ho) (nm_c hoq nm_0)) (fun l z => by cases z) hrx33
                have gs15 := gs14.trans hs15
                refine T.go 3 (fun n9 => (rfl : _ = exe ξ n9 (d + 4) j_U_unpack 178 [(0, .ref 17), (1, .ref o), (2, J x), (3, J n), (4, .ref q), (5, J u), (6, J 0), (7, J i), (8, J z14), (9, J z15)] [.ref 17] s15)) ?_
                obtain ⟨wx34, bix34, bex34, rox34, mx34, nx34, bx34, lx34, hux34, hrx34, hbx34, ⟨fx34a, fx34b, fx34c, fx34d, fx34e, fx34f, fx34g, fx34h, fx34i, fx34j⟩, ⟨fx34k, fx34l, fx34m, fx34n⟩, fx34o, fx34p⟩ := UL.unf hs15.1 pz15_0 ho
                have af8x34 := af_of (i := 8) hux34 rfl (by omega)
                subst af8x34
                have af9x34 := af_of (i := 9) hux34 rfl (by omega)
                subst af9x34
                have af10x34 := af_of (i := 10) hux34 rfl (by omega)
                subst af10x34
                have af11x34 := af_of (i := 11) hux34 rfl (by omega)
                subst af11x34
                have ctx34 := CT_of hrx34 hbx34
                have rwx34 := rl_of hrx34 (by omega)
                subst rwx34
                refine T.get rfl rfl rfl hux34 rfl ?_
                refine T.if_ne rfl rfl (by omega) (fun c44 => ?_) (fun c44 => ?_)
                · refine T.go 1 (fun n9 => (rfl : _ = exe ξ n9 (d + 4) j_U_unpack 190 [(0, .ref 17), (1, .ref o), (2, J x), (3, J n), (4, .ref q), (5, J u), (6, J 0), (7, J i), (8, J z14), (9, J z15)] [J 0] s15)) ?_
                  have hbn : ∀ w9, ¬ BK g (8 * (x + n)) u (afld τ 17 9) (rl τ q) (nb τ q) w9 := BK_noE (by omega)
                  exact T.iretz rfl rfl (by omega) ⟨_, rfl, gs15, by omega, by omega, (fun h => absurd h (by decide)), (fun _ v hv _ => by have h5 := (i5 (by omega) v).mpr hv; rw [show (64001 - i).toNat = (64001 - (i + 1)).toNat + 1 by omega] at h5; exact INF_no hbn h5)⟩
                · refine T.go 1 (fun n9 => (rfl : _ = exe ξ n9 (d + 4) j_U_unpack 186 [(0, .ref 17), (1, .ref o), (2, J x), (3, J n), (4, .ref q), (5, J u), (6, J 0), (7, J i), (8, J z14), (9, J z15)] [J z15] s15)) ?_
                  refine T.if_ne rfl rfl (by omega) (fun c45 => ?_) (fun c45 => ?_)
                  · exfalso
                    omega
                  · refine T.go 1 (fun n9 => (rfl : _ = exe ξ n9 (d + 4) j_U_unpack 190 [(0, .ref 17), (1, .ref o), (2, J x), (3, J n), (4, .ref q), (5, J u), (6, J 0), (7, J i), (8, J z14), (9, J z15)] [J 0] s15)) ?_
                    have hbn : ∀ w9, ¬ BK g (8 * (x + n)) u (afld τ 17 9) (rl τ q) (nb τ q) w9 := BK_noE (by omega)
                    exact T.iretz rfl rfl (by omega) ⟨_, rfl, gs15, by omega, by omega, (fun h => absurd h (by decide)), (fun _ v hv _ => by have h5 := (i5 (by omega) v).mpr hv; rw [show (64001 - i).toNat = (64001 - (i + 1)).toNat + 1 by omega] at h5; exact INF_no hbn h5)⟩
            · refine T.go 5 (fun n9 => (rfl : _ = exe ξ n9 (d + 4) j_U_unpack 104 [(0, .ref 17), (1, .ref o), (2, J x), (3, J n), (4, .ref q), (5, J u), (6, J 1), (7, J i)] [J 2, .ref 17] s1)) ?_
              have na16 := (gs1.b.2 hNA).1
              have hg16 := hg.fr hNA gs1 ho (nm_c (dq_1 _ ho) (nm_c (dq_3 _ ho) (nm_c (dq_4 _ ho) (nm_c (dq_5 _ ho) (nm_c (dq_6 _ ho) (nm_c (dq_7 _ ho) (nm_c (dq_8 _ ho) (nm_c (dq_9 _ ho) (nm_c (dq_10 _ ho) (nm_c (dq_11 _ ho) (nm_c (dq_12 _ ho) (nm_c hoq nm_0))))))))))))
              obtain ⟨wx35, bix35, bex35, rox35, mx35, nx35, bx35, lx35, hux35, hrx35, hbx35, ⟨fx35a, fx35b, fx35c, fx35d, fx35e, fx35f, fx35g, fx35h, fx35i, fx35j⟩, ⟨fx35k, fx35l, fx35m, fx35n⟩, fx35o, fx35p⟩ := UL.unf hs1.1 pz1_0 ho
              have af8x35 := af_of (i := 8) hux35 rfl (by omega)
              subst af8x35
              have af9x35 := af_of (i := 9) hux35 rfl (by omega)
              subst af9x35
              have af10x35 := af_of (i := 10) hux35 rfl (by omega)
              subst af10x35
              have af11x35 := af_of (i := 11) hux35 rfl (by omega)
              subst af11x35
              have ctx35 := CT_of hrx35 hbx35
              have rwx35 := rl_of hrx35 (by omega)
              subst rwx35
              refine T.callv (as := [J 2]) (r := []) rfl rfl rfl rfl hux35 rfl (s_U_ftakeBits (d + 3) o q g 2 s1 hs1.1  ho hq hoq pz1_0 na16 hg16 (by omega) (by omega) (by omega)) (fun v16 s16 hqs16 => ?_)
              obtain ⟨z16, rfl, hs16, hzz16, hyz16, pz16_0, pz16_1, pz16_2⟩ := hqs16
              have es16 := hs16
              have hs16 := hs16.sub (w' := [17, 18, 20, 21, 22, 24, 25, 26, 28, 29, 30, q]) (List.forall_mem_cons.mpr ⟨(by simp), (fun _ h => by cases h)⟩)
              have k22 := es16.b.1 _ _ (nm_c (dq_1 _ ho) nm_0) (fun l z => by cases z) hrx35
              have k23 := es16.b.1 _ _ (nm_c (dq_1 _ hq) nm_0) (fun l z => by cases z) k2
              have gs16 := gs1.trans hs16
              have nt10 := nb_fr na16 es16 hq (nm_c (dq_1 _ hq) nm_0)
              have rt7 := rl_eq (es16.2.2.1 q (List.mem_cons_of_mem _ hq) (nm_c (dq_1 _ hq) nm_0))
              have nt11 := nt10.trans nt1
              rw [show (2 : Int).toNat = 2 from rfl] at pz16_1
              refine T.go 2 (fun n9 => (rfl : _ = exe ξ n9 (d + 4) j_U_unpack 111 [(0, .ref 17), (1, .ref o), (2, J x), (3, J n), (4, .ref q), (5, J u), (6, J 1), (7, J i), (8, J z16)] [J z16] s16)) ?_
              refine T.if_ne rfl rfl (by omega) (fun c46 => ?_) (fun c46 => ?_)
              · exfalso
                omega
              · refine T.go 1 (fun n9 => (rfl : _ = exe ξ n9 (d + 4) j_U_unpack 115 [(0, .ref 17), (1, .ref o), (2, J x), (3, J n), (4, .ref q), (5, J u), (6, J 1), (7, J i), (8, J z16)] [.ref 17] s16)) ?_
                have na17 := (gs16.b.2 hNA).1
                have hg17 := hg.fr hNA gs16 ho (nm_c (dq_1 _ ho) (nm_c (dq_3 _ ho) (nm_c (dq_4 _ ho) (nm_c (dq_5 _ ho) (nm_c (dq_6 _ ho) (nm_c (dq_7 _ ho) (nm_c (dq_8 _ ho) (nm_c (dq_9 _ ho) (nm_c (dq_10 _ ho) (nm_c (dq_11 _ ho) (nm_c (dq_12 _ ho) (nm_c hoq nm_0))))))))))))
                obtain ⟨wx36, bix36, bex36, rox36, mx36, nx36, bx36, lx36, hux36, hrx36, hbx36, ⟨fx36a, fx36b, fx36c, fx36d, fx36e, fx36f, fx36g, fx36h, fx36i, fx36j⟩, ⟨fx36k, fx36l, fx36m, fx36n⟩, fx36o, fx36p⟩ := UL.unf hs16.1 pz16_0 ho
                have af8x36 := af_of (i := 8) hux36 rfl (by omega)
                subst af8x36
                have af9x36 := af_of (i := 9) hux36 rfl (by omega)
                subst af9x36
                have af10x36 := af_of (i := 10) hux36 rfl (by omega)
                subst af10x36
                have af11x36 := af_of (i := 11) hux36 rfl (by omega)
                subst af11x36
                have ctx36 := CT_of hrx36 hbx36
                have rwx36 := rl_of hrx36 (by omega)
                subst rwx36
                refine T.callv (as := []) (r := []) rfl rfl rfl rfl hux36 rfl (s_U_fcopyPlain (d + 1) o q g  s16 hs16.1  ho hq hoq pz16_0 na17 hg17 hmt ) (fun v17 s17 hqs17 => ?_)
                obtain ⟨z17, rfl, hs17, hzz17, hyz17, pz17_0, pz17_1, pz17_2, pz17_3, pz17_4⟩ := hqs17
                have es17 := hs17
                have hs17 := hs17.sub (w' := [17, 18, 20, 21, 22, 24, 25, 26, 28, 29, 30, q]) (List.forall_mem_cons.mpr ⟨(by simp), (List.forall_mem_cons.mpr ⟨(by simp), (fun _ h => by cases h)⟩)⟩)
                have k24 := es17.b.1 _ _ (nm_c (dq_1 _ ho) (nm_c hoq nm_0)) (fun l z => by cases z) hrx36
                have gs17 := gs16.trans hs17
                refine T.go 3 (fun n9 => (rfl : _ = exe ξ n9 (d + 4) j_U_unpack 178 [(0, .ref 17), (1, .ref o), (2, J x), (3, J n), (4, .ref q), (5, J u), (6, J 1), (7, J i), (8, J z16), (9, J z17)] [.ref 17] s17)) ?_
                obtain ⟨wx37, bix37, bex37, rox37, mx37, nx37, bx37, lx37, hux37, hrx37, hbx37, ⟨fx37a, fx37b, fx37c, fx37d, fx37e, fx37f, fx37g, fx37h, fx37i, fx37j⟩, ⟨fx37k, fx37l, fx37m, fx37n⟩, fx37o, fx37p⟩ := UL.unf hs17.1 pz17_0 ho
                have af8x37 := af_of (i := 8) hux37 rfl (by omega)
                subst af8x37
                have af9x37 := af_of (i := 9) hux37 rfl (by omega)
                subst af9x37
                have af10x37 := af_of (i := 10) hux37 rfl (by omega)
                subst af10x37
                have af11x37 := af_of (i := 11) hux37 rfl (by omega)
                subst af11x37
                have ctx37 := CT_of hrx37 hbx37
                have rwx37 := rl_of hrx37 (by omega)
                subst rwx37
                refine T.get rfl rfl rfl hux37 rfl ?_
                refine T.if_ne rfl rfl (by omega) (fun c47 => ?_) (fun c47 => ?_)
                · refine T.go 1 (fun n9 => (rfl : _ = exe ξ n9 (d + 4) j_U_unpack 190 [(0, .ref 17), (1, .ref o), (2, J x), (3, J n), (4, .ref q), (5, J u), (6, J 1), (7, J i), (8, J z16), (9, J z17)] [J 0] s17)) ?_
                  have hbn : ∀ w9, ¬ BK g (8 * (x + n)) u (afld τ 17 9) (rl τ q) (nb τ q) w9 := BK_noE (by omega)
                  exact T.iretz rfl rfl (by omega) ⟨_, rfl, gs17, by omega, by omega, (fun h => absurd h (by decide)), (fun _ v hv _ => by have h5 := (i5 (by omega) v).mpr hv; rw [show (64001 - i).toNat = (64001 - (i + 1)).toNat + 1 by omega] at h5; exact INF_no hbn h5)⟩
                · refine T.go 1 (fun n9 => (rfl : _ = exe ξ n9 (d + 4) j_U_unpack 186 [(0, .ref 17), (1, .ref o), (2, J x), (3, J n), (4, .ref q), (5, J u), (6, J 1), (7, J i), (8, J z16), (9, J z17)] [J z17] s17)) ?_
                  refine T.if_ne rfl rfl (by omega) (fun c48 => ?_) (fun c48 => ?_)
                  · exfalso
                    omega
                  · refine T.go 1 (fun n9 => (rfl : _ = exe ξ n9 (d + 4) j_U_unpack 190 [(0, .ref 17), (1, .ref o), (2, J x), (3, J n), (4, .ref q), (5, J u), (6, J 1), (7, J i), (8, J z16), (9, J z17)] [J 0] s17)) ?_
                    have hbn : ∀ w9, ¬ BK g (8 * (x + n)) u (afld τ 17 9) (rl τ q) (nb τ q) w9 := BK_noE (by omega)
                    exact T.iretz rfl rfl (by omega) ⟨_, rfl, gs17, by omega, by omega, (fun h => absurd h (by decide)), (fun _ v hv _ => by have h5 := (i5 (by omega) v).mpr hv; rw [show (64001 - i).toNat = (64001 - (i + 1)).toNat + 1 by omega] at h5; exact INF_no hbn h5)⟩
  refine T.go 1 (fun n9 => (rfl : _ = exe ξ n9 (d + 4) j_U_unpack 1 [(0, .ref 17), (1, .ref o), (2, J x), (3, J n), (4, .ref q), (5, J u)] [J x] σ)) ?_
  refine T.if_lt rfl rfl (by omega) (fun c49 => ?_) (fun c49 => ?_)
  · refine T.go 1 (fun n9 => (rfl : _ = exe ξ n9 (d + 4) j_U_unpack 27 [(0, .ref 17), (1, .ref o), (2, J x), (3, J n), (4, .ref q), (5, J u)] [J 0] σ)) ?_
    exact T.iretz rfl rfl (by omega) ⟨_, rfl, (Fr.refl hK), by omega, by omega, (fun h => absurd h (by decide)), (fun _ => by exfalso; omega)⟩
  · refine T.go 1 (fun n9 => (rfl : _ = exe ξ n9 (d + 4) j_U_unpack 5 [(0, .ref 17), (1, .ref o), (2, J x), (3, J n), (4, .ref q), (5, J u)] [J n] σ)) ?_
    refine T.if_lt rfl rfl (by omega) (fun c50 => ?_) (fun c50 => ?_)
    · refine T.go 1 (fun n9 => (rfl : _ = exe ξ n9 (d + 4) j_U_unpack 27 [(0, .ref 17), (1, .ref o), (2, J x), (3, J n), (4, .ref q), (5, J u)] [J 0] σ)) ?_
      exact T.iretz rfl rfl (by omega) ⟨_, rfl, (Fr.refl hK), by omega, by omega, (fun h => absurd h (by decide)), (fun _ => by exfalso; omega)⟩
    · refine T.go 2 (fun n9 => (rfl : _ = exe ξ n9 (d + 4) j_U_unpack 10 [(0, .ref 17), (1, .ref o), (2, J x), (3, J n), (4, .ref q), (5, J u)] [.ref o, J n] σ)) ?_
      refine T.get rfl rfl rfl hrx1 rfl ?_
      refine T.icmp_gt rfl rfl (by omega) (by omega) (fun c51 => ?_) (fun c51 => ?_)
      · refine T.go 1 (fun n9 => (rfl : _ = exe ξ n9 (d + 4) j_U_unpack 27 [(0, .ref 17), (1, .ref o), (2, J x), (3, J n), (4, .ref q), (5, J u)] [J 0] σ)) ?_
        exact T.iretz rfl rfl (by omega) ⟨_, rfl, (Fr.refl hK), by omega, by omega, (fun h => absurd h (by decide)), (fun _ => by exfalso; omega)⟩
      · refine T.go 2 (fun n9 => (rfl : _ = exe ξ n9 (d + 4) j_U_unpack 18 [(0, .ref 17), (1, .ref o), (2, J x), (3, J n), (4, .ref q), (5, J u)] [.ref o, J x] σ)) ?_
        refine T.get rfl rfl rfl hrx1 rfl ?_
        refine T.go 1 (fun n9 => (rfl : _ = exe ξ n9 (d + 4) j_U_unpack 22 [(0, .ref 17), (1, .ref o), (2, J x), (3, J n), (4, .ref q), (5, J u)] [J n, J (rl σ o), J x] σ)) ?_
        refine T.isub rfl ?_
        refine T.icmp_le rfl rfl (by omega) (by omega) (fun c52 => ?_) (fun c52 => ?_)
        · refine T.go 2 (fun n9 => (rfl : _ = exe ξ n9 (d + 4) j_U_unpack 30 [(0, .ref 17), (1, .ref o), (2, J x), (3, J n), (4, .ref q), (5, J u)] [.ref o, .ref 17] σ)) ?_
          refine T.putF (w := [17, 18, 20, 21, 22, 24, 25, 26, 28, 29, 30, q]) rfl rfl hux3 rfl rfl rfl (fs' := [.ref 18, .ref 19, .ref 23, .ref 27, .ref 31, .ref 35, .ref o, .ref tx3, J wx3, J bix3, J bex3, J rox3]) rfl (Fr.other hK hux3 rfl (show okU _ from ⟨_, _, _, _, _, _, rfl, ho, fx3b, by omega⟩) (by decide) (Or.inl (by decide)) (fun _ z => by cases z) (by simp)) (fun s18 hs18 hcs18 hos18 => ?_)
          have nt12 := nb_set hK hq hux3 (dq_1 _ hq) hos18
          have rtnt12 := nt12.2
          have k25 := hos18 (dq_1 _ ho) hrx1
          have k26 := hos18 (q_dif hbx1 hux3 (fun z => by cases z)) hbx1
          have k27 := hos18 (dq_1 _ hq) hrx2
          have k28 := hos18 (q_dif hbx2 hux3 (fun z => by cases z)) hbx2
          refine T.go 2 (fun n9 => (rfl : _ = exe ξ n9 (d + 4) j_U_unpack 36 [(0, .ref 17), (1, .ref o), (2, J x), (3, J n), (4, .ref q), (5, J u)] [.ref q, .ref 17] s18)) ?_
          refine T.putF (w := [17, 18, 20, 21, 22, 24, 25, 26, 28, 29, 30, q]) rfl rfl hcs18 rfl rfl rfl (fs' := [.ref 18, .ref 19, .ref 23, .ref 27, .ref 31, .ref 35, .ref o, .ref q, J wx3, J bix3, J bex3, J rox3]) rfl (Fr.other hs18.1 hcs18 rfl (show okU _ from ⟨_, _, _, _, _, _, rfl, ho, hq, by omega⟩) (by decide) (Or.inl (by decide)) (fun _ z => by cases z) (by simp)) (fun s19 hs19 hcs19 hos19 => ?_)
          have gs19 := hs18.trans hs19
          have nt13 := nb_set hs18.1 hq hcs18 (dq_1 _ hq) hos19
          have rtnt13 := nt13.2
          have nt14 := nt13.1.trans nt12.1
          have k29 := hos19 (dq_1 _ ho) k25
          have k30 := hos19 (q_dif k26 hcs18 (fun z => by cases z)) k26
          have k31 := hos19 (dq_1 _ hq) k27
          have k32 := hos19 (q_dif k28 hcs18 (fun z => by cases z)) k28
          refine T.go 2 (fun n9 => (rfl : _ = exe ξ n9 (d + 4) j_U_unpack 42 [(0, .ref 17), (1, .ref o), (2, J x), (3, J n), (4, .ref q), (5, J u)] [J u, .ref 17] s19)) ?_
          refine T.putF (w := [17, 18, 20, 21, 22, 24, 25, 26, 28, 29, 30, q]) rfl rfl hcs19 rfl rfl rfl (fs' := [.ref 18, .ref 19, .ref 23, .ref 27, .ref 31, .ref 35, .ref o, .ref q, J u, J bix3, J bex3, J rox3]) rfl (Fr.other hs19.1 hcs19 rfl (show okU _ from ⟨_, _, _, _, _, _, rfl, ho, hq, by omega⟩) (by decide) (Or.inl (by decide)) (fun _ z => by cases z) (by simp)) (fun s20 hs20 hcs20 hos20 => ?_)
          have gs20 := gs19.trans hs20
          have nt15 := nb_set hs19.1 hq hcs19 (dq_1 _ hq) hos20
          have rtnt15 := nt15.2
          have nt16 := nt15.1.trans nt14
          have k33 := hos20 (dq_1 _ ho) k29
          have k34 := hos20 (q_dif k30 hcs19 (fun z => by cases z)) k30
          have k35 := hos20 (dq_1 _ hq) k31
          have k36 := hos20 (q_dif k32 hcs19 (fun z => by cases z)) k32
          refine T.go 3 (fun n9 => (rfl : _ = exe ξ n9 (d + 4) j_U_unpack 49 [(0, .ref 17), (1, .ref o), (2, J x), (3, J n), (4, .ref q), (5, J u)] [J x, J 8, .ref 17] s20)) ?_
          refine T.imul rfl ?_
          refine T.putF (w := [17, 18, 20, 21, 22, 24, 25, 26, 28, 29, 30, q]) rfl rfl hcs20 rfl rfl rfl (fs' := [.ref 18, .ref 19, .ref 23, .ref 27, .ref 31, .ref 35, .ref o, .ref q, J u, J (8 * x), J bex3, J rox3]) rfl (Fr.other hs20.1 hcs20 rfl (show okU _ from ⟨_, _, _, _, _, _, rfl, ho, hq, by omega⟩) (by decide) (Or.inl (by decide)) (fun _ z => by cases z) (by simp)) (fun s21 hs21 hcs21 hos21 => ?_)
          have gs21 := gs20.trans hs21
          have nt17 := nb_set hs20.1 hq hcs20 (dq_1 _ hq) hos21
          have rtnt17 := nt17.2
          have nt18 := nt17.1.trans nt16
          have k37 := hos21 (dq_1 _ ho) k33
          have k38 := hos21 (q_dif k34 hcs20 (fun z => by cases z)) k34
          have k39 := hos21 (dq_1 _ hq) k35
          have k40 := hos21 (q_dif k36 hcs20 (fun z => by cases z)) k36
          refine T.go 4 (fun n9 => (rfl : _ = exe ξ n9 (d + 4) j_U_unpack 58 [(0, .ref 17), (1, .ref o), (2, J x), (3, J n), (4, .ref q), (5, J u)] [J n, J x, J 8, .ref 17] s21)) ?_
          refine T.iadd rfl ?_
          refine T.imul rfl ?_
          refine T.putF (w := [17, 18, 20, 21, 22, 24, 25, 26, 28, 29, 30, q]) rfl rfl hcs21 rfl rfl rfl (fs' := [.ref 18, .ref 19, .ref 23, .ref 27, .ref 31, .ref 35, .ref o, .ref q, J u, J (8 * x), J (8 * (x + n)), J rox3]) rfl (Fr.other hs21.1 hcs21 rfl (show okU _ from ⟨_, _, _, _, _, _, rfl, ho, hq, by omega⟩) (by decide) (Or.inl (by decide)) (fun _ z => by cases z) (by simp)) (fun s22 hs22 hcs22 hos22 => ?_)
          have gs22 := gs21.trans hs22
          have nt19 := nb_set hs21.1 hq hcs21 (dq_1 _ hq) hos22
          have rtnt19 := nt19.2
          have nt20 := nt19.1.trans nt18
          have k41 := hos22 (dq_1 _ ho) k37
          have k42 := hos22 (q_dif k38 hcs21 (fun z => by cases z)) k38
          have k43 := hos22 (dq_1 _ hq) k39
          have k44 := hos22 (q_dif k40 hcs21 (fun z => by cases z)) k40
          refine T.go 2 (fun n9 => (rfl : _ = exe ξ n9 (d + 4) j_U_unpack 65 [(0, .ref 17), (1, .ref o), (2, J x), (3, J n), (4, .ref q), (5, J u)] [J 0, .ref 17] s22)) ?_
          refine T.putF (w := [17, 18, 20, 21, 22, 24, 25, 26, 28, 29, 30, q]) rfl rfl hcs22 rfl rfl rfl (fs' := [.ref 18, .ref 19, .ref 23, .ref 27, .ref 31, .ref 35, .ref o, .ref q, J u, J (8 * x), J (8 * (x + n)), J 0]) rfl (Fr.other hs22.1 hcs22 rfl (show okU _ from ⟨_, _, _, _, _, _, rfl, ho, hq, by omega⟩) (by decide) (Or.inl (by decide)) (fun _ z => by cases z) (by simp)) (fun s23 hs23 hcs23 hos23 => ?_)
          have gs23 := gs22.trans hs23
          have nt21 := nb_set hs22.1 hq hcs22 (dq_1 _ hq) hos23
          have rtnt21 := nt21.2
          have nt22 := nt21.1.trans nt20
          have k45 := hos23 (dq_1 _ ho) k41
          have k46 := hos23 (q_dif k42 hcs22 (fun z => by cases z)) k42
          have k47 := hos23 (dq_1 _ hq) k43
          have k48 := hos23 (q_dif k44 hcs22 (fun z => by cases z)) k44
          refine T.go 4 (fun n9 => (rfl : _ = exe ξ n9 (d + 4) j_U_unpack 74 [(0, .ref 17), (1, .ref o), (2, J x), (3, J n), (4, .ref q), (5, J u), (6, J 0), (7, J 0)] [] s23)) ?_
          have hU18 : UL o q s23 := ⟨_, _, _, _, _, _, _, _, hcs23, k45, k46, by omega⟩
          have nf1 := af_of (i := 8) hcs23 rfl (by omega)
          have nf2 := af_of (i := 9) hcs23 rfl (by omega)
          have nf3 := af_of (i := 10) hcs23 rfl (by omega)
          have nf4 := af_of (i := 11) hcs23 rfl (by omega)
          have nf5 := af_of (i := 8) hcs23 rfl (by omega)
          have nf6 := af_of (i := 9) hcs23 rfl (by omega)
          have nf7 := af_of (i := 10) hcs23 rfl (by omega)
          have nf8 := af_of (i := 11) hcs23 rfl (by omega)
          exact loop74 _ 0 0 s23 gs23 hU18 (by omega) (by omega) (by omega) (by omega) (by omega) (fun _ v => by rw [show afld s23 17 9 = 8 * x by omega, show rl s23 q = 0 by omega, nt22, nb_0 (by omega)]; exact Iff.rfl) (fun h => absurd h (by decide)) (Nat.lt_succ_self _)
        · refine T.go 1 (fun n9 => (rfl : _ = exe ξ n9 (d + 4) j_U_unpack 27 [(0, .ref 17), (1, .ref o), (2, J x), (3, J n), (4, .ref q), (5, J u)] [J 0] σ)) ?_
          exact T.iretz rfl rfl (by omega) ⟨_, rfl, (Fr.refl hK), by omega, by omega, (fun h => absurd h (by decide)), (fun _ => by exfalso; omega)⟩
