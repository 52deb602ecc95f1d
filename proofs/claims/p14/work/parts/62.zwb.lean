/-! count. -/
/-- a is the archive x: the outer one, or a mount -/
def AOF (σ : qH) (x : Int) (a : Nat) : Prop := afld σ 16 11 = 1 ∧ 0 ≤ x ∧ x ≤ afld σ 16 14 ∧ (x = 0 → nfi 10 σ = some (.ref a)) ∧ (1 ≤ x → (nMo σ).getD (x - 1).toNat none = some a)
def CNT (σ : qH) (x z : Int) : Prop := ∃ a : Nat, a ∈ ArL ∧ AOF σ x a ∧ z = afld σ a 3
set_option maxRecDepth 10000 in
set_option maxHeartbeats 4000000 in
theorem s_N_farchiveOf {ξ : Nat → Option (Nat × List Int32)} (d : Nat) (x : Int) (σ : qH) (hK : K σ)  (rx : -2147483648 ≤ x ∧ x ≤ 2147483647) : T ξ d j_N_archiveOf 0 (lv_args 0 [.ref 16, J x]) [] σ (fun v σ' => σ' = σ ∧ ((v = some .null ∧ ¬ (afld σ 16 11 = 1 ∧ 0 ≤ x ∧ x ≤ afld σ 16 14)) ∨ ∃ a : Nat, a ∈ ArL ∧ v = some (.ref a) ∧ AOF σ x a)) := by
  refine T.go 1 (fun n9 => (rfl : _ = exe ξ n9 d j_N_archiveOf 1 [(0, .ref 16), (1, J x)] [.ref 16] σ)) ?_
  obtain ⟨kex1, scx1, tpx1, oux1, mox1, sgx1, hox1, mcx1, lfx1, lpx1, hNx1, fx1ke, fx1sc, fx1tp, fx1ou, fx1mo, fx1sg, fx1d, fx1e, fx1f, fx1g, fx1h, fx1i, fx1j⟩ := hK.na
  have h11 := af_of (i := 11) hNx1 rfl (by omega)
  have h14 := af_of (i := 14) hNx1 rfl (by omega)
  refine T.get rfl rfl rfl hNx1 rfl ?_
  refine T.if_eq rfl rfl (by omega) (fun c1 => ?_) (fun c1 => ?_)
  · refine T.go 1 (fun n9 => (rfl : _ = exe ξ n9 d j_N_archiveOf 26 [(0, .ref 16), (1, J x)] [.null] σ)) ?_
    exact T.end 1 (fun n9 => rfl) ⟨rfl, Or.inl ⟨rfl, by omega⟩⟩
  · refine T.go 1 (fun n9 => (rfl : _ = exe ξ n9 d j_N_archiveOf 8 [(0, .ref 16), (1, J x)] [J x] σ)) ?_
    refine T.if_lt rfl rfl (by omega) (fun c2 => ?_) (fun c2 => ?_)
    · refine T.go 1 (fun n9 => (rfl : _ = exe ξ n9 d j_N_archiveOf 26 [(0, .ref 16), (1, J x)] [.null] σ)) ?_
      exact T.end 1 (fun n9 => rfl) ⟨rfl, Or.inl ⟨rfl, by omega⟩⟩
    · refine T.go 2 (fun n9 => (rfl : _ = exe ξ n9 d j_N_archiveOf 13 [(0, .ref 16), (1, J x)] [.ref 16, J x] σ)) ?_
      refine T.get rfl rfl rfl hNx1 rfl ?_
      refine T.icmp_gt rfl rfl (by omega) (by omega) (fun c3 => ?_) (fun c3 => ?_)
      · refine T.go 1 (fun n9 => (rfl : _ = exe ξ n9 d j_N_archiveOf 26 [(0, .ref 16), (1, J x)] [.null] σ)) ?_
        exact T.end 1 (fun n9 => rfl) ⟨rfl, Or.inl ⟨rfl, by omega⟩⟩
      · refine T.go 2 (fun n9 => (rfl : _ = exe ξ n9 d j_N_archiveOf 22 [(0, .ref 16), (1, J x)] [J 6, J x] σ)) ?_
        refine T.icmp_le rfl rfl (by omega) (by omega) (fun c4 => ?_) (fun c4 => ?_)
        · refine T.go 1 (fun n9 => (rfl : _ = exe ξ n9 d j_N_archiveOf 28 [(0, .ref 16), (1, J x)] [J x] σ)) ?_
          refine T.if_ne rfl rfl (by omega) (fun c5 => ?_) (fun c5 => ?_)
          · refine T.go 1 (fun n9 => (rfl : _ = exe ξ n9 d j_N_archiveOf 39 [(0, .ref 16), (1, J x)] [.ref 16] σ)) ?_
            refine T.get rfl rfl rfl hNx1 rfl ?_
            refine T.go 2 (fun n9 => (rfl : _ = exe ξ n9 d j_N_archiveOf 44 [(0, .ref 16), (1, J x)] [J 1, J x, .ref mox1] σ)) ?_
            refine T.isub rfl ?_
            obtain ⟨lx2, hix2, elx2, emx2⟩ := hK.refs (na_mo fx1mo).1
            obtain ⟨a1, hga1, hha1⟩ := em_at (x := x - 1) emx2 (by omega)
            refine T.aald rfl hix2 (by omega) hga1 ?_
            exact T.end 1 (fun n9 => rfl) ⟨rfl, Or.inr ⟨_, (ArM_L hha1), rfl, by omega, by omega, by omega, fun h => absurd h (by omega), fun _ => by rw [nMo_of ((nfi_of (i := 12) hNx1).trans rfl) hix2]; exact hga1⟩⟩
          · refine T.go 1 (fun n9 => (rfl : _ = exe ξ n9 d j_N_archiveOf 32 [(0, .ref 16), (1, J x)] [.ref 16] σ)) ?_
            refine T.get rfl rfl rfl hNx1 rfl ?_
            refine T.go 1 (fun n9 => (rfl : _ = exe ξ n9 d j_N_archiveOf 46 [(0, .ref 16), (1, J x)] [.ref oux1] σ)) ?_
            exact T.end 1 (fun n9 => rfl) ⟨rfl, Or.inr ⟨_, (na_tp fx1ou), rfl, by omega, by omega, by omega, fun _ => (nfi_of (i := 10) hNx1).trans rfl, fun h => absurd h (by omega)⟩⟩
        · refine T.go 1 (fun n9 => (rfl : _ = exe ξ n9 d j_N_archiveOf 26 [(0, .ref 16), (1, J x)] [.null] σ)) ?_
          exact T.end 1 (fun n9 => rfl) ⟨rfl, Or.inl ⟨rfl, by omega⟩⟩

set_option maxRecDepth 10000 in
set_option maxHeartbeats 4000000 in
theorem s_N_fcount {ξ : Nat → Option (Nat × List Int32)} (d : Nat) (x : Int) (σ : qH) (hK : K σ)  (rx : -2147483648 ≤ x ∧ x ≤ 2147483647) : T ξ (d + 8) j_N_count 0 (lv_args 0 [.ref 16, J x]) [] σ (fun v σ' => ∃ z : Int, v = some (J z) ∧ σ' = σ ∧ -2147483648 ≤ z ∧ z ≤ 2147483647 ∧ (x = -1 → afld σ 16 11 = 1 → z = 1 + afld σ 16 14) ∧ (x = -1 → afld σ 16 11 = 0 → z = 0) ∧ (x ≠ -1 → ¬ (afld σ 16 11 = 1 ∧ 0 ≤ x ∧ x ≤ afld σ 16 14) → z = -1) ∧ (x ≠ -1 → afld σ 16 11 = 1 ∧ 0 ≤ x ∧ x ≤ afld σ 16 14 → CNT σ x z)) := by
  refine T.go 2 (fun n9 => (rfl : _ = exe ξ n9 (d + 8) j_N_count 2 [(0, .ref 16), (1, J x)] [J (-1), J x] σ)) ?_
  refine T.icmp_ne rfl rfl (by omega) (by omega) (fun c1 => ?_) (fun c1 => ?_)
  · refine T.go 2 (fun n9 => (rfl : _ = exe ξ n9 (d + 8) j_N_count 25 [(0, .ref 16), (1, J x)] [J x, .ref 16] σ)) ?_
    obtain ⟨kex1, scx1, tpx1, oux1, mox1, sgx1, hox1, mcx1, lfx1, lpx1, hNx1, fx1ke, fx1sc, fx1tp, fx1ou, fx1mo, fx1sg, fx1d, fx1e, fx1f, fx1g, fx1h, fx1i, fx1j⟩ := hK.na
    have h11 := af_of (i := 11) hNx1 rfl (by omega)
    have h14 := af_of (i := 14) hNx1 rfl (by omega)
    refine T.callv (as := [J x]) (r := []) rfl rfl rfl rfl hNx1 rfl (s_N_farchiveOf (d + 7) x σ hK   (by omega)) (fun v1 s1 hqs1 => ?_)
    obtain ⟨esz1, ⟨rfl, hna⟩ | ⟨a1, hAa1, rfl, hao⟩⟩ := hqs1
    · rw [esz1]
      refine T.go 5 (fun n9 => (rfl : _ = exe ξ n9 (d + 8) j_N_count 41 [(0, .ref 16), (1, J x), (2, .null)] [J (-1)] σ)) ?_
      exact T.ireti rfl rfl ⟨_, rfl, rfl, by omega, by omega, fun h => absurd h (by omega), fun h => absurd h (by omega), fun _ _ => rfl, fun _ h => absurd h hna⟩
    · rw [esz1]
      refine T.go 4 (fun n9 => (rfl : _ = exe ξ n9 (d + 8) j_N_count 38 [(0, .ref 16), (1, J x), (2, .ref a1)] [.ref a1] σ)) ?_
      obtain ⟨ex2, erx2, dix2, bax2, fpx2, hax2, fx2a, fx2b, fx2c, fx2d, fx2e, fx2f, fx2g, fx2h, fx2i, fx2j⟩ := hK.arc hAa1
      refine T.get rfl rfl rfl hax2 rfl ?_
      exact T.ireti rfl rfl ⟨_, rfl, rfl, by omega, by omega, fun h => absurd h (by omega), fun h => absurd h (by omega), fun _ h => absurd ⟨hao.1, hao.2.1, hao.2.2.1⟩ h, fun _ _ => ⟨a1, hAa1, hao, (af_of (i := 3) hax2 rfl (by omega)).symm⟩⟩
  · refine T.go 1 (fun n9 => (rfl : _ = exe ξ n9 (d + 8) j_N_count 6 [(0, .ref 16), (1, J x)] [.ref 16] σ)) ?_
    obtain ⟨kex3, scx3, tpx3, oux3, mox3, sgx3, hox3, mcx3, lfx3, lpx3, hNx3, fx3ke, fx3sc, fx3tp, fx3ou, fx3mo, fx3sg, fx3d, fx3e, fx3f, fx3g, fx3h, fx3i, fx3j⟩ := hK.na
    have h11 := af_of (i := 11) hNx3 rfl (by omega)
    have h14 := af_of (i := 14) hNx3 rfl (by omega)
    refine T.get rfl rfl rfl hNx3 rfl ?_
    refine T.if_eq rfl rfl (by omega) (fun c2 => ?_) (fun c2 => ?_)
    · refine T.go 1 (fun n9 => (rfl : _ = exe ξ n9 (d + 8) j_N_count 22 [(0, .ref 16), (1, J x)] [J 0] σ)) ?_
      exact T.ireti rfl rfl ⟨_, rfl, rfl, by omega, by omega, fun _ h => by omega, fun _ _ => rfl, fun h => absurd (by omega) h, fun h => absurd (by omega) h⟩
    · refine T.go 2 (fun n9 => (rfl : _ = exe ξ n9 (d + 8) j_N_count 14 [(0, .ref 16), (1, J x)] [.ref 16, J 1] σ)) ?_
      refine T.get rfl rfl rfl hNx3 rfl ?_
      refine T.iadd rfl ?_
      refine T.go 1 (fun n9 => (rfl : _ = exe ξ n9 (d + 8) j_N_count 22 [(0, .ref 16), (1, J x)] [J (1 + mcx3)] σ)) ?_
      exact T.ireti rfl rfl ⟨_, rfl, rfl, by omega, by omega, fun _ _ => by omega, fun _ h => by omega, fun h => absurd (by omega) h, fun h => absurd (by omega) h⟩
