/-! find. -/
/-- no mount from x up to i has the name -/
def NOF (O : Int → Int → Int) (F : Int → Int) (u : Int → Int) (n x i : Int) : Prop := ∀ j : Int, x ≤ j → j < i → NNM (O j) (F j) u 0 n
theorem NOF_0 {O : Int → Int → Int} {F : Int → Int} {u : Int → Int} {n x : Int} : NOF O F u n x x := fun j a b => absurd a (by omega)
theorem NOF_s {O : Int → Int → Int} {F : Int → Int} {u : Int → Int} {n x i : Int} (h : NOF O F u n x i) (q : NNM (O i) (F i) u 0 n) : NOF O F u n x (i + 1) := fun j a b => by
  by_cases e : j = i
  · rw [e]; exact q
  · exact h j a (by omega)
/-- the answer of find -/
def FNZ (O : Int → Int → Int) (F : Int → Int) (mo : Int) (u : Int → Int) (n x z : Int) : Prop := (z = -1 ∧ NOF O F u n x (mo + 1)) ∨ ∃ i k : Int, x ≤ i ∧ i ≤ mo ∧ NMD (O i) (F i) u 0 n k ∧ z = 100 * i + k ∧ NOF O F u n x i
theorem NOF_w {O : Int → Int → Int} {F : Int → Int} {u : Int → Int} {n x i m : Int} (h : NOF O F u n x i) (q : m ≤ i) : NOF O F u n x m := fun j a b => h j a (by omega)

set_option maxRecDepth 10000 in
set_option maxHeartbeats 4000000 in
theorem s_N_fsearchMounts {ξ : Nat → Option (Nat × List Int32)} (d : Nat) (O : Int → Int → Int) (F : Int → Int) (u : Int → Int) (x : Int) (σ : qH) (hK : K σ)  (h255 : ∀ i k, 0 ≤ O i k ∧ O i k ≤ 255) (hS : ∀ (i : Int) (a : Nat), AOF σ i a → SV σ a (O i) (F i)) (hu : AGR σ 51 u) (hio : afld σ 16 11 = 1 ∨ afld σ 16 14 = 0) (rx : -2147483648 ≤ x ∧ x ≤ 2147483647) (pre0 : 1 ≤ x) : T ξ (d + 2) j_N_searchMounts 0 (lv_args 0 [.ref 16, J x]) [] σ (fun v σ' => ∃ z : Int, v = some (J z) ∧ σ' = σ ∧ -1 ≤ z ∧ z ≤ 700 ∧ FNZ O F (afld σ 16 14) u (rl σ 51) x z) := by
  obtain ⟨kex1, scx1, tpx1, oux1, mox1, sgx1, hox1, mcx1, lfx1, lpx1, hNx1, fx1ke, fx1sc, fx1tp, fx1ou, fx1mo, fx1sg, fx1d, fx1e, fx1f, fx1g, fx1h, fx1i, fx1j⟩ := hK.na
  have h11 := af_of (i := 11) hNx1 rfl (by omega)
  have h14 := af_of (i := 14) hNx1 rfl (by omega)
  obtain ⟨mx2, nx2, bx2, lx2, hrx2, hbx2, fx2a, fx2b, fx2c, fx2d, fx2e, fx2g, fx2h, fx2i⟩ := hK.row (r := 51) (by decide)
  have ctx2 := CT_of hrx2 hbx2
  have rwx2 := rl_of hrx2 (by omega)
  subst rwx2
  have loop2 : ∀ (f : Nat) (k : Int), -2147483648 ≤ k → k ≤ 2147483647 → x ≤ k → NOF O F u (rl σ 51) x k → (7 - k).toNat < f → T ξ (d + 2) j_N_searchMounts 2 [(0, .ref 16), (1, J x), (2, J k)] [] σ (fun v σ' => ∃ z : Int, v = some (J z) ∧ σ' = σ ∧ -1 ≤ z ∧ z ≤ 700 ∧ FNZ O F (afld σ 16 14) u (rl σ 51) x z) := by
    intro f
    induction f with
    | zero => intro k i0 i1 i2 i3 hm; omega
    | succ f ih =>
      intro k i0 i1 i2 i3 hm
      refine T.go 2 (fun n9 => (rfl : _ = exe ξ n9 (d + 2) j_N_searchMounts 4 [(0, .ref 16), (1, J x), (2, J k)] [J 1, J k] σ)) ?_
      refine T.icmp_lt rfl rfl (by omega) (by omega) (fun c1 => ?_) (fun c1 => ?_)
      · refine T.go 1 (fun n9 => (rfl : _ = exe ξ n9 (d + 2) j_N_searchMounts 64 [(0, .ref 16), (1, J x), (2, J k)] [J (-1)] σ)) ?_
        exact T.ireti rfl rfl ⟨_, rfl, rfl, by omega, by omega, (Or.inl ⟨rfl, NOF_w i3 (by omega)⟩)⟩
      · refine T.go 2 (fun n9 => (rfl : _ = exe ξ n9 (d + 2) j_N_searchMounts 9 [(0, .ref 16), (1, J x), (2, J k)] [.ref 16, J k] σ)) ?_
        refine T.get rfl rfl rfl hNx1 rfl ?_
        refine T.icmp_gt rfl rfl (by omega) (by omega) (fun c2 => ?_) (fun c2 => ?_)
        · refine T.go 1 (fun n9 => (rfl : _ = exe ξ n9 (d + 2) j_N_searchMounts 64 [(0, .ref 16), (1, J x), (2, J k)] [J (-1)] σ)) ?_
          exact T.ireti rfl rfl ⟨_, rfl, rfl, by omega, by omega, (Or.inl ⟨rfl, NOF_w i3 (by omega)⟩)⟩
        · refine T.go 2 (fun n9 => (rfl : _ = exe ξ n9 (d + 2) j_N_searchMounts 18 [(0, .ref 16), (1, J x), (2, J k)] [J 6, J k] σ)) ?_
          refine T.icmp_gt rfl rfl (by omega) (by omega) (fun c3 => ?_) (fun c3 => ?_)
          · refine T.go 1 (fun n9 => (rfl : _ = exe ξ n9 (d + 2) j_N_searchMounts 64 [(0, .ref 16), (1, J x), (2, J k)] [J (-1)] σ)) ?_
            exact T.ireti rfl rfl ⟨_, rfl, rfl, by omega, by omega, (Or.inl ⟨rfl, NOF_w i3 (by omega)⟩)⟩
          · refine T.go 1 (fun n9 => (rfl : _ = exe ξ n9 (d + 2) j_N_searchMounts 22 [(0, .ref 16), (1, J x), (2, J k)] [.ref 16] σ)) ?_
            refine T.get rfl rfl rfl hNx1 rfl ?_
            refine T.go 2 (fun n9 => (rfl : _ = exe ξ n9 (d + 2) j_N_searchMounts 27 [(0, .ref 16), (1, J x), (2, J k)] [J 1, J k, .ref mox1] σ)) ?_
            refine T.isub rfl ?_
            obtain ⟨lx3, hix3, elx3, emx3⟩ := hK.refs (na_mo fx1mo).1
            obtain ⟨a2, hga2, hha2⟩ := em_at (x := k - 1) emx3 (by omega)
            refine T.aald rfl hix3 (by omega) hga2 ?_
            have hao : AOF σ k a2 := ⟨by omega, by omega, by omega, fun h => absurd h (by omega), fun _ => by rw [nMo_of ((nfi_of (i := 12) hNx1).trans rfl) hix3]; exact hga2⟩
            have hSa := hS k a2 hao
            refine T.go 1 (fun n9 => (rfl : _ = exe ξ n9 (d + 2) j_N_searchMounts 30 [(0, .ref 16), (1, J x), (2, J k)] [.ref 16, .ref a2] σ)) ?_
            refine T.get rfl rfl rfl hNx1 rfl ?_
            refine T.go 2 (fun n9 => (rfl : _ = exe ξ n9 (d + 2) j_N_searchMounts 35 [(0, .ref 16), (1, J x), (2, J k)] [.ref 16, J 0, .ref 51, .ref a2] σ)) ?_
            refine T.get rfl rfl rfl hNx1 rfl ?_
            refine T.get rfl rfl rfl hrx2 rfl ?_
            obtain ⟨ex4, erx4, dix4, bax4, fpx4, hax4, fx4a, fx4b, fx4c, fx4d, fx4e, fx4f, fx4g, fx4h, fx4i, fx4j⟩ := hK.arc (ArM_L hha2)
            have af3x4 := af_of (i := 3) hax4 rfl (by omega)
            subst af3x4
            have af4x4 := af_of (i := 4) hax4 rfl (by omega)
            subst af4x4
            have af5x4 := af_of (i := 5) hax4 rfl (by omega)
            subst af5x4
            have af6x4 := af_of (i := 6) hax4 rfl (by omega)
            subst af6x4
            have af7x4 := af_of (i := 7) hax4 rfl (by omega)
            subst af7x4
            refine T.callv (as := [.ref 51, J 0, J (rl σ 51)]) (r := []) rfl rfl rfl (ArL_lt _ (ArM_L hha2)).2.2.1 hax4 rfl (s_A_flookUp d (O k) u a2 51 0 (rl σ 51) σ hK (ArM_L hha2) (by decide) (h255 k) hSa.2.1 hu (SV_hc (h255 k) hSa) (by omega) (by omega) (by omega) (by omega) (by omega)) (fun v1 s1 hqs1 => ?_)
            obtain ⟨z1, rfl, esz1, hzz1, hyz1, pz1_0⟩ := hqs1
            rw [esz1]
            have lk1 := SV_lk (u := u) (s := 0) (n := rl σ 51) (h255 k) hSa
            rw [← pz1_0] at lk1
            refine T.go 3 (fun n9 => (rfl : _ = exe ξ n9 (d + 2) j_N_searchMounts 47 [(0, .ref 16), (1, J x), (2, J k), (3, J z1)] [J (-1), J z1] σ)) ?_
            refine T.icmp_eq rfl rfl (by omega) (by omega) (fun c4 => ?_) (fun c4 => ?_)
            · refine T.iinc (lv' := [(0, .ref 16), (1, J x), (2, J (k + 1)), (3, J z1)]) rfl rfl rfl rfl ?_
              refine T.go 1 (fun n9 => (rfl : _ = exe ξ n9 (d + 2) j_N_searchMounts 2 [(0, .ref 16), (1, J x), (2, J (k + 1)), (3, J z1)] [] σ)) ?_
              refine T.drop (lv := [(0, .ref 16), (1, J x), (2, J (k + 1))]) [(3, J z1)] (by simp) ?_
              exact ih  (k + 1) (by omega) (by omega) (by omega) (NOF_s i3 (lk1.2 (by omega))) (by omega)
            · refine T.go 2 (fun n9 => (rfl : _ = exe ξ n9 (d + 2) j_N_searchMounts 53 [(0, .ref 16), (1, J x), (2, J k), (3, J z1)] [J k, J 100] σ)) ?_
              refine T.imul rfl ?_
              refine T.go 1 (fun n9 => (rfl : _ = exe ξ n9 (d + 2) j_N_searchMounts 55 [(0, .ref 16), (1, J x), (2, J k), (3, J z1)] [J z1, J (100 * k)] σ)) ?_
              refine T.iadd rfl ?_
              exact T.ireti rfl rfl ⟨_, rfl, rfl, by omega, by omega, (Or.inr ⟨k, z1, by omega, by omega, lk1.1 (by omega), by omega, i3⟩)⟩
  refine T.go 2 (fun n9 => (rfl : _ = exe ξ n9 (d + 2) j_N_searchMounts 2 [(0, .ref 16), (1, J x), (2, J x)] [] σ)) ?_
  exact loop2 _ x (by omega) (by omega) (by omega) NOF_0 (Nat.lt_succ_self _)

set_option maxRecDepth 10000 in
set_option maxHeartbeats 4000000 in
theorem s_N_efind {ξ : Nat → Option (Nat × List Int32)} (d : Nat) (O : Int → Int → Int) (F : Int → Int) (u : Int → Int) (x : Int) (σ : qH) (hK : K σ)  (h255 : ∀ i k, 0 ≤ O i k ∧ O i k ≤ 255) (hS : ∀ (i : Int) (a : Nat), AOF σ i a → SV σ a (O i) (F i)) (hu : AGR σ 51 u) (hio : afld σ 16 11 = 1 ∨ afld σ 16 14 = 0) (rx : -2147483648 ≤ x ∧ x ≤ 2147483647) : TX ξ (d + 8) j_N_find 0 (lv_args 0 [.ref 16, J x]) [] σ (QE [51] [0] σ (fun e s => x < 1 ∧ rl s 51 = 0) (fun v σ' => ∃ z : Int, v = some (J z) ∧ Fr [51] σ σ' ∧ -2147483648 ≤ z ∧ z ≤ 2147483647 ∧ 1 ≤ x ∧ FNZ O F (afld σ 16 14) u (rl σ 51) x z ∧ rl σ' 51 = 0)) := by
  obtain ⟨kex1, scx1, tpx1, oux1, mox1, sgx1, hox1, mcx1, lfx1, lpx1, hNx1, fx1ke, fx1sc, fx1tp, fx1ou, fx1mo, fx1sg, fx1d, fx1e, fx1f, fx1g, fx1h, fx1i, fx1j⟩ := hK.na
  have h11 := af_of (i := 11) hNx1 rfl (by omega)
  have h14 := af_of (i := 14) hNx1 rfl (by omega)
  obtain ⟨mx2, nx2, bx2, lx2, hrx2, hbx2, fx2a, fx2b, fx2c, fx2d, fx2e, fx2g, fx2h, fx2i⟩ := hK.row (r := 51) (by decide)
  have ctx2 := CT_of hrx2 hbx2
  have rwx2 := rl_of hrx2 (by omega)
  subst rwx2
  refine TX.go 2 (fun n9 => (rfl : _ = exx ξ n9 (d + 8) j_N_find 2 [(0, .ref 16), (1, J x)] [J 1, J x] σ)) ?_
  refine TX.icmp_ge rfl rfl rfl (by omega) (by omega) (fun c1 => ?_) (fun c1 => ?_)
  · refine TX.go 2 (fun n9 => (rfl : _ = exx ξ n9 (d + 8) j_N_find 11 [(0, .ref 16), (1, J x)] [J x, .ref 16] σ)) ?_
    refine TX.callv (as := [J x]) (r := []) rfl rfl rfl rfl rfl hNx1 rfl (s_N_fsearchMounts (d + 5) O F u x σ hK  h255 hS hu hio (by omega) (by omega)) (fun v1 s1 hqs1 => ?_)
    obtain ⟨z1, rfl, esz1, hzz1, hyz1, pz1_0⟩ := hqs1
    rw [esz1]
    refine TX.go 2 (fun n9 => (rfl : _ = exx ξ n9 (d + 8) j_N_find 16 [(0, .ref 16), (1, J x), (2, J z1)] [.ref 16] σ)) ?_
    refine TX.get rfl rfl rfl rfl hNx1 rfl ?_
    refine TX.callv (as := []) (r := []) rfl rfl rfl rfl rfl hrx2 rfl (s_R_clear (d + 7) 51 σ hK (by decide)  ) (fun v2 s2 hqs2 => ?_)
    obtain ⟨rfl, hs2, pz2_0, pz2_1⟩ := hqs2
    have es2 := hs2
    have k1 := es2.b.1 _ _ (nm_c (by decide) nm_0) (fun l z => by cases z) hNx1
    refine TX.go 2 (fun n9 => (rfl : _ = exx ξ n9 (d + 8) j_N_find 24 [(0, .ref 16), (1, J x), (2, J z1)] [J 1, J x] s2)) ?_
    refine TX.icmp_ge rfl rfl rfl (by omega) (by omega) (fun c2 => ?_) (fun c2 => ?_)
    · refine TX.go 1 (fun n9 => (rfl : _ = exx ξ n9 (d + 8) j_N_find 38 [(0, .ref 16), (1, J x), (2, J z1)] [J z1] s2)) ?_
      exact TX.ireti rfl rfl rfl (QE_l ⟨_, rfl, hs2, by omega, by omega, by omega, (by first | exact pz1_0 | (exfalso; omega)), pz2_1⟩)
    · exact TX.throw (Nat.ble_eq_true_of_le (by omega)) rfl rfl (QE_r (by decide) hs2 ⟨by omega, pz2_1⟩)
  · refine TX.go 4 (fun n9 => (rfl : _ = exx ξ n9 (d + 8) j_N_find 16 [(0, .ref 16), (1, J x), (2, J (-1))] [.ref 16] σ)) ?_
    refine TX.get rfl rfl rfl rfl hNx1 rfl ?_
    refine TX.callv (as := []) (r := []) rfl rfl rfl rfl rfl hrx2 rfl (s_R_clear (d + 7) 51 σ hK (by decide)  ) (fun v3 s3 hqs3 => ?_)
    obtain ⟨rfl, hs3, pz3_0, pz3_1⟩ := hqs3
    have es3 := hs3
    have k2 := es3.b.1 _ _ (nm_c (by decide) nm_0) (fun l z => by cases z) hNx1
    refine TX.go 2 (fun n9 => (rfl : _ = exx ξ n9 (d + 8) j_N_find 24 [(0, .ref 16), (1, J x), (2, J (-1))] [J 1, J x] s3)) ?_
    refine TX.icmp_ge rfl rfl rfl (by omega) (by omega) (fun c3 => ?_) (fun c3 => ?_)
    · refine TX.go 1 (fun n9 => (rfl : _ = exx ξ n9 (d + 8) j_N_find 38 [(0, .ref 16), (1, J x), (2, J (-1))] [J (-1)] s3)) ?_
      exact TX.ireti rfl rfl rfl (QE_l ⟨_, rfl, hs3, by omega, by omega, by omega, (by first | exact pz1_0 | (exfalso; omega)), pz3_1⟩)
    · exact TX.throw (Nat.ble_eq_true_of_le (by omega)) rfl rfl (QE_r (by decide) hs3 ⟨by omega, pz3_1⟩)
