/-! The model: the entry index.txt. -/
set_option maxHeartbeats 4000000 in
theorem s_M_fwordByte {ξ : Nat → Option (Nat × List Int32)} (d : Nat) (x : Int) (y : Int) (σ : qH) (rx : -2147483648 ≤ x ∧ x ≤ 2147483647) (ry : -2147483648 ≤ y ∧ y ≤ 2147483647) (pre0 : 0 ≤ y) : T ξ d j_M_wordByte 0 (lv_args 0 [J x, J y]) [] σ (fun v σ' => ∃ (z : Int), v = some (J z) ∧ σ' = σ ∧ 0 ≤ z ∧ z ≤ 255 ∧ (x = 0 → y ≤ 8 → z = ixn y)) := by
  refine T.go 1 (fun n9 => (rfl : _ = exe ξ n9 d j_M_wordByte 1 [(0, J x), (1, J y)] [J x] σ)) ?_
  refine T.if_ne rfl rfl (by omega) (fun c1 => ?_) (fun c1 => ?_)
  · refine T.go 3 (fun n9 => (rfl : _ = exe ξ n9 d j_M_wordByte 15 [(0, J x), (1, J y), (2, JL 5567949153222872646)] [J x] σ)) ?_
    refine T.if_ne rfl rfl (by omega) (fun c2 => ?_) (fun c2 => ?_)
    · refine T.go 3 (fun n9 => (rfl : _ = exe ξ n9 d j_M_wordByte 30 [(0, J x), (1, J y), (2, JL 5567949153222872646), (4, JL 3408452297481930067)] [J x] σ)) ?_
      refine T.if_ne rfl rfl (by omega) (fun c3 => ?_) (fun c3 => ?_)
      · refine T.go 4 (fun n9 => (rfl : _ = exe ξ n9 d j_M_wordByte 45 [(0, J x), (1, J y), (2, JL 5567949153222872646), (4, JL 3408452297481930067), (6, JL 6065870711157686272)] [J 23, J y] σ)) ?_
        refine T.icmp_le rfl rfl (by omega) (by omega) (fun c4 => ?_) (fun c4 => ?_)
        · refine T.go 2 (fun n9 => (rfl : _ = exe ξ n9 d j_M_wordByte 53 [(0, J x), (1, J y), (2, JL 5567949153222872646), (4, JL 3408452297481930067), (6, JL 6065870711157686272)] [J 8, J y] σ)) ?_
          refine T.icmp_ge rfl rfl (by omega) (by omega) (fun c5 => ?_) (fun c5 => ?_)
          · refine T.go 2 (fun n9 => (rfl : _ = exe ξ n9 d j_M_wordByte 63 [(0, J x), (1, J y), (2, JL 5567949153222872646), (4, JL 3408452297481930067), (6, JL 6065870711157686272)] [J 16, J y] σ)) ?_
            refine T.icmp_ge rfl rfl (by omega) (by omega) (fun c6 => ?_) (fun c6 => ?_)
            · refine T.go 7 (fun n9 => (rfl : _ = exe ξ n9 d j_M_wordByte 84 [(0, J x), (1, J y), (2, JL 5567949153222872646), (4, JL 3408452297481930067), (6, JL 6065870711157686272), (8, JL 6065870711157686272)] [J 8, J y, J 8, J 56, JL 6065870711157686272] σ)) ?_
              refine T.iremc (c := 8) rfl (by decide) (by omega) ?_
              refine T.imul rfl ?_
              refine T.isub rfl ?_
              refine T.lshrp rfl (by omega) (by omega) ?_
              refine T.l2i rfl ?_
              refine T.go 1 (fun n9 => (rfl : _ = exe ξ n9 d j_M_wordByte 92 [(0, J x), (1, J y), (2, JL 5567949153222872646), (4, JL 3408452297481930067), (6, JL 6065870711157686272), (8, JL 6065870711157686272)] [J 255, J (6065870711157686272 / P2 (56 - (8 * (y % 8))))] σ)) ?_
              refine T.iandw rfl ?_
              exact T.ireti rfl rfl ⟨_, rfl, rfl, by omega, by omega, (fun h1 h2 => by first | (exfalso; omega) | (rcases (by omega : y = 0 ∨ y = 1 ∨ y = 2 ∨ y = 3 ∨ y = 4 ∨ y = 5 ∨ y = 6 ∨ y = 7) with h | h | h | h | h | h | h | h <;> (rw [h]; decide +kernel)) | (rw [(by omega : y = 8)]; decide +kernel))⟩
            · refine T.go 8 (fun n9 => (rfl : _ = exe ξ n9 d j_M_wordByte 84 [(0, J x), (1, J y), (2, JL 5567949153222872646), (4, JL 3408452297481930067), (6, JL 6065870711157686272), (8, JL 3408452297481930067)] [J 8, J y, J 8, J 56, JL 3408452297481930067] σ)) ?_
              refine T.iremc (c := 8) rfl (by decide) (by omega) ?_
              refine T.imul rfl ?_
              refine T.isub rfl ?_
              refine T.lshrp rfl (by omega) (by omega) ?_
              refine T.l2i rfl ?_
              refine T.go 1 (fun n9 => (rfl : _ = exe ξ n9 d j_M_wordByte 92 [(0, J x), (1, J y), (2, JL 5567949153222872646), (4, JL 3408452297481930067), (6, JL 6065870711157686272), (8, JL 3408452297481930067)] [J 255, J (3408452297481930067 / P2 (56 - (8 * (y % 8))))] σ)) ?_
              refine T.iandw rfl ?_
              exact T.ireti rfl rfl ⟨_, rfl, rfl, by omega, by omega, (fun h1 h2 => by first | (exfalso; omega) | (rcases (by omega : y = 0 ∨ y = 1 ∨ y = 2 ∨ y = 3 ∨ y = 4 ∨ y = 5 ∨ y = 6 ∨ y = 7) with h | h | h | h | h | h | h | h <;> (rw [h]; decide +kernel)) | (rw [(by omega : y = 8)]; decide +kernel))⟩
          · refine T.go 8 (fun n9 => (rfl : _ = exe ξ n9 d j_M_wordByte 84 [(0, J x), (1, J y), (2, JL 5567949153222872646), (4, JL 3408452297481930067), (6, JL 6065870711157686272), (8, JL 5567949153222872646)] [J 8, J y, J 8, J 56, JL 5567949153222872646] σ)) ?_
            refine T.iremc (c := 8) rfl (by decide) (by omega) ?_
            refine T.imul rfl ?_
            refine T.isub rfl ?_
            refine T.lshrp rfl (by omega) (by omega) ?_
            refine T.l2i rfl ?_
            refine T.go 1 (fun n9 => (rfl : _ = exe ξ n9 d j_M_wordByte 92 [(0, J x), (1, J y), (2, JL 5567949153222872646), (4, JL 3408452297481930067), (6, JL 6065870711157686272), (8, JL 5567949153222872646)] [J 255, J (5567949153222872646 / P2 (56 - (8 * (y % 8))))] σ)) ?_
            refine T.iandw rfl ?_
            exact T.ireti rfl rfl ⟨_, rfl, rfl, by omega, by omega, (fun h1 h2 => by first | (exfalso; omega) | (rcases (by omega : y = 0 ∨ y = 1 ∨ y = 2 ∨ y = 3 ∨ y = 4 ∨ y = 5 ∨ y = 6 ∨ y = 7) with h | h | h | h | h | h | h | h <;> (rw [h]; decide +kernel)) | (rw [(by omega : y = 8)]; decide +kernel))⟩
        · refine T.go 1 (fun n9 => (rfl : _ = exe ξ n9 d j_M_wordByte 49 [(0, J x), (1, J y), (2, JL 5567949153222872646), (4, JL 3408452297481930067), (6, JL 6065870711157686272)] [J 0] σ)) ?_
          exact T.ireti rfl rfl ⟨_, rfl, rfl, by omega, by omega, (fun h1 h2 => by first | (exfalso; omega) | (rcases (by omega : y = 0 ∨ y = 1 ∨ y = 2 ∨ y = 3 ∨ y = 4 ∨ y = 5 ∨ y = 6 ∨ y = 7) with h | h | h | h | h | h | h | h <;> (rw [h]; decide +kernel)) | (rw [(by omega : y = 8)]; decide +kernel))⟩
      · refine T.go 5 (fun n9 => (rfl : _ = exe ξ n9 d j_M_wordByte 45 [(0, J x), (1, J y), (2, JL 5567949153222872646), (4, JL 3408452297481930067), (6, JL 0)] [J 23, J y] σ)) ?_
        refine T.icmp_le rfl rfl (by omega) (by omega) (fun c7 => ?_) (fun c7 => ?_)
        · refine T.go 2 (fun n9 => (rfl : _ = exe ξ n9 d j_M_wordByte 53 [(0, J x), (1, J y), (2, JL 5567949153222872646), (4, JL 3408452297481930067), (6, JL 0)] [J 8, J y] σ)) ?_
          refine T.icmp_ge rfl rfl (by omega) (by omega) (fun c8 => ?_) (fun c8 => ?_)
          · refine T.go 2 (fun n9 => (rfl : _ = exe ξ n9 d j_M_wordByte 63 [(0, J x), (1, J y), (2, JL 5567949153222872646), (4, JL 3408452297481930067), (6, JL 0)] [J 16, J y] σ)) ?_
            refine T.icmp_ge rfl rfl (by omega) (by omega) (fun c9 => ?_) (fun c9 => ?_)
            · refine T.go 7 (fun n9 => (rfl : _ = exe ξ n9 d j_M_wordByte 84 [(0, J x), (1, J y), (2, JL 5567949153222872646), (4, JL 3408452297481930067), (6, JL 0), (8, JL 0)] [J 8, J y, J 8, J 56, JL 0] σ)) ?_
              refine T.iremc (c := 8) rfl (by decide) (by omega) ?_
              refine T.imul rfl ?_
              refine T.isub rfl ?_
              refine T.lshrp rfl (by omega) (by omega) ?_
              refine T.l2i rfl ?_
              refine T.go 1 (fun n9 => (rfl : _ = exe ξ n9 d j_M_wordByte 92 [(0, J x), (1, J y), (2, JL 5567949153222872646), (4, JL 3408452297481930067), (6, JL 0), (8, JL 0)] [J 255, J (0 / P2 (56 - (8 * (y % 8))))] σ)) ?_
              refine T.iandw rfl ?_
              exact T.ireti rfl rfl ⟨_, rfl, rfl, by omega, by omega, (fun h1 h2 => by first | (exfalso; omega) | (rcases (by omega : y = 0 ∨ y = 1 ∨ y = 2 ∨ y = 3 ∨ y = 4 ∨ y = 5 ∨ y = 6 ∨ y = 7) with h | h | h | h | h | h | h | h <;> (rw [h]; decide +kernel)) | (rw [(by omega : y = 8)]; decide +kernel))⟩
            · refine T.go 8 (fun n9 => (rfl : _ = exe ξ n9 d j_M_wordByte 84 [(0, J x), (1, J y), (2, JL 5567949153222872646), (4, JL 3408452297481930067), (6, JL 0), (8, JL 3408452297481930067)] [J 8, J y, J 8, J 56, JL 3408452297481930067] σ)) ?_
              refine T.iremc (c := 8) rfl (by decide) (by omega) ?_
              refine T.imul rfl ?_
              refine T.isub rfl ?_
              refine T.lshrp rfl (by omega) (by omega) ?_
              refine T.l2i rfl ?_
              refine T.go 1 (fun n9 => (rfl : _ = exe ξ n9 d j_M_wordByte 92 [(0, J x), (1, J y), (2, JL 5567949153222872646), (4, JL 3408452297481930067), (6, JL 0), (8, JL 3408452297481930067)] [J 255, J (3408452297481930067 / P2 (56 - (8 * (y % 8))))] σ)) ?_
              refine T.iandw rfl ?_
              exact T.ireti rfl rfl ⟨_, rfl, rfl, by omega, by omega, (fun h1 h2 => by first | (exfalso; omega) | (rcases (by omega : y = 0 ∨ y = 1 ∨ y = 2 ∨ y = 3 ∨ y = 4 ∨ y = 5 ∨ y = 6 ∨ y = 7) with h | h | h | h | h | h | h | h <;> (rw [h]; decide +kernel)) | (rw [(by omega : y = 8)]; decide +kernel))⟩
          · refine T.go 8 (fun n9 => (rfl : _ = exe ξ n9 d j_M_wordByte 84 [(0, J x), (1, J y), (2, JL 5567949153222872646), (4, JL 3408452297481930067), (6, JL 0), (8, JL 5567949153222872646)] [J 8, J y, J 8, J 56, JL 5567949153222872646] σ)) ?_
            refine T.iremc (c := 8) rfl (by decide) (by omega) ?_
            refine T.imul rfl ?_
            refine T.isub rfl ?_
            refine T.lshrp rfl (by omega) (by omega) ?_
            refine T.l2i rfl ?_
            refine T.go 1 (fun n9 => (rfl : _ = exe ξ n9 d j_M_wordByte 92 [(0, J x), (1, J y), (2, JL 5567949153222872646), (4, JL 3408452297481930067), (6, JL 0), (8, JL 5567949153222872646)] [J 255, J (5567949153222872646 / P2 (56 - (8 * (y % 8))))] σ)) ?_
            refine T.iandw rfl ?_
            exact T.ireti rfl rfl ⟨_, rfl, rfl, by omega, by omega, (fun h1 h2 => by first | (exfalso; omega) | (rcases (by omega : y = 0 ∨ y = 1 ∨ y = 2 ∨ y = 3 ∨ y = 4 ∨ y = 5 ∨ y = 6 ∨ y = 7) with h | h | h | h | h | h | h | h <;> (rw [h]; decide +kernel)) | (rw [(by omega : y = 8)]; decide +kernel))⟩
        · refine T.go 1 (fun n9 => (rfl : _ = exe ξ n9 d j_M_wordByte 49 [(0, J x), (1, J y), (2, JL 5567949153222872646), (4, JL 3408452297481930067), (6, JL 0)] [J 0] σ)) ?_
          exact T.ireti rfl rfl ⟨_, rfl, rfl, by omega, by omega, (fun h1 h2 => by first | (exfalso; omega) | (rcases (by omega : y = 0 ∨ y = 1 ∨ y = 2 ∨ y = 3 ∨ y = 4 ∨ y = 5 ∨ y = 6 ∨ y = 7) with h | h | h | h | h | h | h | h <;> (rw [h]; decide +kernel)) | (rw [(by omega : y = 8)]; decide +kernel))⟩
    · refine T.go 4 (fun n9 => (rfl : _ = exe ξ n9 d j_M_wordByte 30 [(0, J x), (1, J y), (2, JL 5567949153222872646), (4, JL 8358680908399640576)] [J x] σ)) ?_
      refine T.if_ne rfl rfl (by omega) (fun c10 => ?_) (fun c10 => ?_)
      · refine T.go 4 (fun n9 => (rfl : _ = exe ξ n9 d j_M_wordByte 45 [(0, J x), (1, J y), (2, JL 5567949153222872646), (4, JL 8358680908399640576), (6, JL 6065870711157686272)] [J 23, J y] σ)) ?_
        refine T.icmp_le rfl rfl (by omega) (by omega) (fun c11 => ?_) (fun c11 => ?_)
        · refine T.go 2 (fun n9 => (rfl : _ = exe ξ n9 d j_M_wordByte 53 [(0, J x), (1, J y), (2, JL 5567949153222872646), (4, JL 8358680908399640576), (6, JL 6065870711157686272)] [J 8, J y] σ)) ?_
          refine T.icmp_ge rfl rfl (by omega) (by omega) (fun c12 => ?_) (fun c12 => ?_)
          · refine T.go 2 (fun n9 => (rfl : _ = exe ξ n9 d j_M_wordByte 63 [(0, J x), (1, J y), (2, JL 5567949153222872646), (4, JL 8358680908399640576), (6, JL 6065870711157686272)] [J 16, J y] σ)) ?_
            refine T.icmp_ge rfl rfl (by omega) (by omega) (fun c13 => ?_) (fun c13 => ?_)
            · refine T.go 7 (fun n9 => (rfl : _ = exe ξ n9 d j_M_wordByte 84 [(0, J x), (1, J y), (2, JL 5567949153222872646), (4, JL 8358680908399640576), (6, JL 6065870711157686272), (8, JL 6065870711157686272)] [J 8, J y, J 8, J 56, JL 6065870711157686272] σ)) ?_
              refine T.iremc (c := 8) rfl (by decide) (by omega) ?_
              refine T.imul rfl ?_
              refine T.isub rfl ?_
              refine T.lshrp rfl (by omega) (by omega) ?_
              refine T.l2i rfl ?_
              refine T.go 1 (fun n9 => (rfl : _ = exe ξ n9 d j_M_wordByte 92 [(0, J x), (1, J y), (2, JL 5567949153222872646), (4, JL 8358680908399640576), (6, JL 6065870711157686272), (8, JL 6065870711157686272)] [J 255, J (6065870711157686272 / P2 (56 - (8 * (y % 8))))] σ)) ?_
              refine T.iandw rfl ?_
              exact T.ireti rfl rfl ⟨_, rfl, rfl, by omega, by omega, (fun h1 h2 => by first | (exfalso; omega) | (rcases (by omega : y = 0 ∨ y = 1 ∨ y = 2 ∨ y = 3 ∨ y = 4 ∨ y = 5 ∨ y = 6 ∨ y = 7) with h | h | h | h | h | h | h | h <;> (rw [h]; decide +kernel)) | (rw [(by omega : y = 8)]; decide +kernel))⟩
            · refine T.go 8 (fun n9 => (rfl : _ = exe ξ n9 d j_M_wordByte 84 [(0, J x), (1, J y), (2, JL 5567949153222872646), (4, JL 8358680908399640576), (6, JL 6065870711157686272), (8, JL 8358680908399640576)] [J 8, J y, J 8, J 56, JL 8358680908399640576] σ)) ?_
              refine T.iremc (c := 8) rfl (by decide) (by omega) ?_
              refine T.imul rfl ?_
              refine T.isub rfl ?_
              refine T.lshrp rfl (by omega) (by omega) ?_
              refine T.l2i rfl ?_
              refine T.go 1 (fun n9 => (rfl : _ = exe ξ n9 d j_M_wordByte 92 [(0, J x), (1, J y), (2, JL 5567949153222872646), (4, JL 8358680908399640576), (6, JL 6065870711157686272), (8, JL 8358680908399640576)] [J 255, J (8358680908399640576 / P2 (56 - (8 * (y % 8))))] σ)) ?_
              refine T.iandw rfl ?_
              exact T.ireti rfl rfl ⟨_, rfl, rfl, by omega, by omega, (fun h1 h2 => by first | (exfalso; omega) | (rcases (by omega : y = 0 ∨ y = 1 ∨ y = 2 ∨ y = 3 ∨ y = 4 ∨ y = 5 ∨ y = 6 ∨ y = 7) with h | h | h | h | h | h | h | h <;> (rw [h]; decide +kernel)) | (rw [(by omega : y = 8)]; decide +kernel))⟩
          · refine T.go 8 (fun n9 => (rfl : _ = exe ξ n9 d j_M_wordByte 84 [(0, J x), (1, J y), (2, JL 5567949153222872646), (4, JL 8358680908399640576), (6, JL 6065870711157686272), (8, JL 5567949153222872646)] [J 8, J y, J 8, J 56, JL 5567949153222872646] σ)) ?_
            refine T.iremc (c := 8) rfl (by decide) (by omega) ?_
            refine T.imul rfl ?_
            refine T.isub rfl ?_
            refine T.lshrp rfl (by omega) (by omega) ?_
            refine T.l2i rfl ?_
            refine T.go 1 (fun n9 => (rfl : _ = exe ξ n9 d j_M_wordByte 92 [(0, J x), (1, J y), (2, JL 5567949153222872646), (4, JL 8358680908399640576), (6, JL 6065870711157686272), (8, JL 5567949153222872646)] [J 255, J (5567949153222872646 / P2 (56 - (8 * (y % 8))))] σ)) ?_
            refine T.iandw rfl ?_
            exact T.ireti rfl rfl ⟨_, rfl, rfl, by omega, by omega, (fun h1 h2 => by first | (exfalso; omega) | (rcases (by omega : y = 0 ∨ y = 1 ∨ y = 2 ∨ y = 3 ∨ y = 4 ∨ y = 5 ∨ y = 6 ∨ y = 7) with h | h | h | h | h | h | h | h <;> (rw [h]; decide +kernel)) | (rw [(by omega : y = 8)]; decide +kernel))⟩
        · refine T.go 1 (fun n9 => (rfl : _ = exe ξ n9 d j_M_wordByte 49 [(0, J x), (1, J y), (2, JL 5567949153222872646), (4, JL 8358680908399640576), (6, JL 6065870711157686272)] [J 0] σ)) ?_
          exact T.ireti rfl rfl ⟨_, rfl, rfl, by omega, by omega, (fun h1 h2 => by first | (exfalso; omega) | (rcases (by omega : y = 0 ∨ y = 1 ∨ y = 2 ∨ y = 3 ∨ y = 4 ∨ y = 5 ∨ y = 6 ∨ y = 7) with h | h | h | h | h | h | h | h <;> (rw [h]; decide +kernel)) | (rw [(by omega : y = 8)]; decide +kernel))⟩
      · refine T.go 5 (fun n9 => (rfl : _ = exe ξ n9 d j_M_wordByte 45 [(0, J x), (1, J y), (2, JL 5567949153222872646), (4, JL 8358680908399640576), (6, JL 0)] [J 23, J y] σ)) ?_
        refine T.icmp_le rfl rfl (by omega) (by omega) (fun c14 => ?_) (fun c14 => ?_)
        · refine T.go 2 (fun n9 => (rfl : _ = exe ξ n9 d j_M_wordByte 53 [(0, J x), (1, J y), (2, JL 5567949153222872646), (4, JL 8358680908399640576), (6, JL 0)] [J 8, J y] σ)) ?_
          refine T.icmp_ge rfl rfl (by omega) (by omega) (fun c15 => ?_) (fun c15 => ?_)
          · refine T.go 2 (fun n9 => (rfl : _ = exe ξ n9 d j_M_wordByte 63 [(0, J x), (1, J y), (2, JL 5567949153222872646), (4, JL 8358680908399640576), (6, JL 0)] [J 16, J y] σ)) ?_
            refine T.icmp_ge rfl rfl (by omega) (by omega) (fun c16 => ?_) (fun c16 => ?_)
            · refine T.go 7 (fun n9 => (rfl : _ = exe ξ n9 d j_M_wordByte 84 [(0, J x), (1, J y), (2, JL 5567949153222872646), (4, JL 8358680908399640576), (6, JL 0), (8, JL 0)] [J 8, J y, J 8, J 56, JL 0] σ)) ?_
              refine T.iremc (c := 8) rfl (by decide) (by omega) ?_
              refine T.imul rfl ?_
              refine T.isub rfl ?_
              refine T.lshrp rfl (by omega) (by omega) ?_
              refine T.l2i rfl ?_
              refine T.go 1 (fun n9 => (rfl : _ = exe ξ n9 d j_M_wordByte 92 [(0, J x), (1, J y), (2, JL 5567949153222872646), (4, JL 8358680908399640576), (6, JL 0), (8, JL 0)] [J 255, J (0 / P2 (56 - (8 * (y % 8))))] σ)) ?_
              refine T.iandw rfl ?_
              exact T.ireti rfl rfl ⟨_, rfl, rfl, by omega, by omega, (fun h1 h2 => by first | (exfalso; omega) | (rcases (by omega : y = 0 ∨ y = 1 ∨ y = 2 ∨ y = 3 ∨ y = 4 ∨ y = 5 ∨ y = 6 ∨ y = 7) with h | h | h | h | h | h | h | h <;> (rw [h]; decide +kernel)) | (rw [(by omega : y = 8)]; decide +kernel))⟩
            · refine T.go 8 (fun n9 => (rfl : _ = exe ξ n9 d j_M_wordByte 84 [(0, J x), (1, J y), (2, JL 5567949153222872646), (4, JL 8358680908399640576), (6, JL 0), (8, JL 8358680908399640576)] [J 8, J y, J 8, J 56, JL 8358680908399640576] σ)) ?_
              refine T.iremc (c := 8) rfl (by decide) (by omega) ?_
              refine T.imul rfl ?_
              refine T.isub rfl ?_
              refine T.lshrp rfl (by omega) (by omega) ?_
              refine T.l2i rfl ?_
              refine T.go 1 (fun n9 => (rfl : _ = exe ξ n9 d j_M_wordByte 92 [(0, J x), (1, J y), (2, JL 5567949153222872646), (4, JL 8358680908399640576), (6, JL 0), (8, JL 8358680908399640576)] [J 255, J (8358680908399640576 / P2 (56 - (8 * (y % 8))))] σ)) ?_
              refine T.iandw rfl ?_
              exact T.ireti rfl rfl ⟨_, rfl, rfl, by omega, by omega, (fun h1 h2 => by first | (exfalso; omega) | (rcases (by omega : y = 0 ∨ y = 1 ∨ y = 2 ∨ y = 3 ∨ y = 4 ∨ y = 5 ∨ y = 6 ∨ y = 7) with h | h | h | h | h | h | h | h <;> (rw [h]; decide +kernel)) | (rw [(by omega : y = 8)]; decide +kernel))⟩
          · refine T.go 8 (fun n9 => (rfl : _ = exe ξ n9 d j_M_wordByte 84 [(0, J x), (1, J y), (2, JL 5567949153222872646), (4, JL 8358680908399640576), (6, JL 0), (8, JL 5567949153222872646)] [J 8, J y, J 8, J 56, JL 5567949153222872646] σ)) ?_
            refine T.iremc (c := 8) rfl (by decide) (by omega) ?_
            refine T.imul rfl ?_
            refine T.isub rfl ?_
            refine T.lshrp rfl (by omega) (by omega) ?_
            refine T.l2i rfl ?_
            refine T.go 1 (fun n9 => (rfl : _ = exe ξ n9 d j_M_wordByte 92 [(0, J x), (1, J y), (2, JL 5567949153222872646), (4, JL 8358680908399640576), (6, JL 0), (8, JL 5567949153222872646)] [J 255, J (5567949153222872646 / P2 (56 - (8 * (y % 8))))] σ)) ?_
            refine T.iandw rfl ?_
            exact T.ireti rfl rfl ⟨_, rfl, rfl, by omega, by omega, (fun h1 h2 => by first | (exfalso; omega) | (rcases (by omega : y = 0 ∨ y = 1 ∨ y = 2 ∨ y = 3 ∨ y = 4 ∨ y = 5 ∨ y = 6 ∨ y = 7) with h | h | h | h | h | h | h | h <;> (rw [h]; decide +kernel)) | (rw [(by omega : y = 8)]; decide +kernel))⟩
        · refine T.go 1 (fun n9 => (rfl : _ = exe ξ n9 d j_M_wordByte 49 [(0, J x), (1, J y), (2, JL 5567949153222872646), (4, JL 8358680908399640576), (6, JL 0)] [J 0] σ)) ?_
          exact T.ireti rfl rfl ⟨_, rfl, rfl, by omega, by omega, (fun h1 h2 => by first | (exfalso; omega) | (rcases (by omega : y = 0 ∨ y = 1 ∨ y = 2 ∨ y = 3 ∨ y = 4 ∨ y = 5 ∨ y = 6 ∨ y = 7) with h | h | h | h | h | h | h | h <;> (rw [h]; decide +kernel)) | (rw [(by omega : y = 8)]; decide +kernel))⟩
  · refine T.go 4 (fun n9 => (rfl : _ = exe ξ n9 d j_M_wordByte 15 [(0, J x), (1, J y), (2, JL 7597120008391390328)] [J x] σ)) ?_
    refine T.if_ne rfl rfl (by omega) (fun c17 => ?_) (fun c17 => ?_)
    · refine T.go 3 (fun n9 => (rfl : _ = exe ξ n9 d j_M_wordByte 30 [(0, J x), (1, J y), (2, JL 7597120008391390328), (4, JL 3408452297481930067)] [J x] σ)) ?_
      refine T.if_ne rfl rfl (by omega) (fun c18 => ?_) (fun c18 => ?_)
      · refine T.go 4 (fun n9 => (rfl : _ = exe ξ n9 d j_M_wordByte 45 [(0, J x), (1, J y), (2, JL 7597120008391390328), (4, JL 3408452297481930067), (6, JL 6065870711157686272)] [J 23, J y] σ)) ?_
        refine T.icmp_le rfl rfl (by omega) (by omega) (fun c19 => ?_) (fun c19 => ?_)
        · refine T.go 2 (fun n9 => (rfl : _ = exe ξ n9 d j_M_wordByte 53 [(0, J x), (1, J y), (2, JL 7597120008391390328), (4, JL 3408452297481930067), (6, JL 6065870711157686272)] [J 8, J y] σ)) ?_
          refine T.icmp_ge rfl rfl (by omega) (by omega) (fun c20 => ?_) (fun c20 => ?_)
          · refine T.go 2 (fun n9 => (rfl : _ = exe ξ n9 d j_M_wordByte 63 [(0, J x), (1, J y), (2, JL 7597120008391390328), (4, JL 3408452297481930067), (6, JL 6065870711157686272)] [J 16, J y] σ)) ?_
            refine T.icmp_ge rfl rfl (by omega) (by omega) (fun c21 => ?_) (fun c21 => ?_)
            · refine T.go 7 (fun n9 => (rfl : _ = exe ξ n9 d j_M_wordByte 84 [(0, J x), (1, J y), (2, JL 7597120008391390328), (4, JL 3408452297481930067), (6, JL 6065870711157686272), (8, JL 6065870711157686272)] [J 8, J y, J 8, J 56, JL 6065870711157686272] σ)) ?_
              refine T.iremc (c := 8) rfl (by decide) (by omega) ?_
              refine T.imul rfl ?_
              refine T.isub rfl ?_
              refine T.lshrp rfl (by omega) (by omega) ?_
              refine T.l2i rfl ?_
              refine T.go 1 (fun n9 => (rfl : _ = exe ξ n9 d j_M_wordByte 92 [(0, J x), (1, J y), (2, JL 7597120008391390328), (4, JL 3408452297481930067), (6, JL 6065870711157686272), (8, JL 6065870711157686272)] [J 255, J (6065870711157686272 / P2 (56 - (8 * (y % 8))))] σ)) ?_
              refine T.iandw rfl ?_
              exact T.ireti rfl rfl ⟨_, rfl, rfl, by omega, by omega, (fun h1 h2 => by first | (exfalso; omega) | (rcases (by omega : y = 0 ∨ y = 1 ∨ y = 2 ∨ y = 3 ∨ y = 4 ∨ y = 5 ∨ y = 6 ∨ y = 7) with h | h | h | h | h | h | h | h <;> (rw [h]; decide +kernel)) | (rw [(by omega : y = 8)]; decide +kernel))⟩
            · refine T.go 8 (fun n9 => (rfl : _ = exe ξ n9 d j_M_wordByte 84 [(0, J x), (1, J y), (2, JL 7597120008391390328), (4, JL 3408452297481930067), (6, JL 6065870711157686272), (8, JL 3408452297481930067)] [J 8, J y, J 8, J 56, JL 3408452297481930067] σ)) ?_
              refine T.iremc (c := 8) rfl (by decide) (by omega) ?_
              refine T.imul rfl ?_
              refine T.isub rfl ?_
              refine T.lshrp rfl (by omega) (by omega) ?_
              refine T.l2i rfl ?_
              refine T.go 1 (fun n9 => (rfl : _ = exe ξ n9 d j_M_wordByte 92 [(0, J x), (1, J y), (2, JL 7597120008391390328), (4, JL 3408452297481930067), (6, JL 6065870711157686272), (8, JL 3408452297481930067)] [J 255, J (3408452297481930067 / P2 (56 - (8 * (y % 8))))] σ)) ?_
              refine T.iandw rfl ?_
              exact T.ireti rfl rfl ⟨_, rfl, rfl, by omega, by omega, (fun h1 h2 => by first | (exfalso; omega) | (rcases (by omega : y = 0 ∨ y = 1 ∨ y = 2 ∨ y = 3 ∨ y = 4 ∨ y = 5 ∨ y = 6 ∨ y = 7) with h | h | h | h | h | h | h | h <;> (rw [h]; decide +kernel)) | (rw [(by omega : y = 8)]; decide +kernel))⟩
          · refine T.go 8 (fun n9 => (rfl : _ = exe ξ n9 d j_M_wordByte 84 [(0, J x), (1, J y), (2, JL 7597120008391390328), (4, JL 3408452297481930067), (6, JL 6065870711157686272), (8, JL 7597120008391390328)] [J 8, J y, J 8, J 56, JL 7597120008391390328] σ)) ?_
            refine T.iremc (c := 8) rfl (by decide) (by omega) ?_
            refine T.imul rfl ?_
            refine T.isub rfl ?_
            refine T.lshrp rfl (by omega) (by omega) ?_
            refine T.l2i rfl ?_
            refine T.go 1 (fun n9 => (rfl : _ = exe ξ n9 d j_M_wordByte 92 [(0, J x), (1, J y), (2, JL 7597120008391390328), (4, JL 3408452297481930067), (6, JL 6065870711157686272), (8, JL 7597120008391390328)] [J 255, J (7597120008391390328 / P2 (56 - (8 * (y % 8))))] σ)) ?_
            refine T.iandw rfl ?_
            exact T.ireti rfl rfl ⟨_, rfl, rfl, by omega, by omega, (fun h1 h2 => by first | (exfalso; omega) | (rcases (by omega : y = 0 ∨ y = 1 ∨ y = 2 ∨ y = 3 ∨ y = 4 ∨ y = 5 ∨ y = 6 ∨ y = 7) with h | h | h | h | h | h | h | h <;> (rw [h]; decide +kernel)) | (rw [(by omega : y = 8)]; decide +kernel))⟩
        · refine T.go 1 (fun n9 => (rfl : _ = exe ξ n9 d j_M_wordByte 49 [(0, J x), (1, J y), (2, JL 7597120008391390328), (4, JL 3408452297481930067), (6, JL 6065870711157686272)] [J 0] σ)) ?_
          exact T.ireti rfl rfl ⟨_, rfl, rfl, by omega, by omega, (fun h1 h2 => by first | (exfalso; omega) | (rcases (by omega : y = 0 ∨ y = 1 ∨ y = 2 ∨ y = 3 ∨ y = 4 ∨ y = 5 ∨ y = 6 ∨ y = 7) with h | h | h | h | h | h | h | h <;> (rw [h]; decide +kernel)) | (rw [(by omega : y = 8)]; decide +kernel))⟩
      · refine T.go 5 (fun n9 => (rfl : _ = exe ξ n9 d j_M_wordByte 45 [(0, J x), (1, J y), (2, JL 7597120008391390328), (4, JL 3408452297481930067), (6, JL 0)] [J 23, J y] σ)) ?_
        refine T.icmp_le rfl rfl (by omega) (by omega) (fun c22 => ?_) (fun c22 => ?_)
        · refine T.go 2 (fun n9 => (rfl : _ = exe ξ n9 d j_M_wordByte 53 [(0, J x), (1, J y), (2, JL 7597120008391390328), (4, JL 3408452297481930067), (6, JL 0)] [J 8, J y] σ)) ?_
          refine T.icmp_ge rfl rfl (by omega) (by omega) (fun c23 => ?_) (fun c23 => ?_)
          · refine T.go 2 (fun n9 => (rfl : _ = exe ξ n9 d j_M_wordByte 63 [(0, J x), (1, J y), (2, JL 7597120008391390328), (4, JL 3408452297481930067), (6, JL 0)] [J 16, J y] σ)) ?_
            refine T.icmp_ge rfl rfl (by omega) (by omega) (fun c24 => ?_) (fun c24 => ?_)
            · refine T.go 7 (fun n9 => (rfl : _ = exe ξ n9 d j_M_wordByte 84 [(0, J x), (1, J y), (2, JL 7597120008391390328), (4, JL 3408452297481930067), (6, JL 0), (8, JL 0)] [J 8, J y, J 8, J 56, JL 0] σ)) ?_
              refine T.iremc (c := 8) rfl (by decide) (by omega) ?_
              refine T.imul rfl ?_
              refine T.isub rfl ?_
              refine T.lshrp rfl (by omega) (by omega) ?_
              refine T.l2i rfl ?_
              refine T.go 1 (fun n9 => (rfl : _ = exe ξ n9 d j_M_wordByte 92 [(0, J x), (1, J y), (2, JL 7597120008391390328), (4, JL 3408452297481930067), (6, JL 0), (8, JL 0)] [J 255, J (0 / P2 (56 - (8 * (y % 8))))] σ)) ?_
              refine T.iandw rfl ?_
              exact T.ireti rfl rfl ⟨_, rfl, rfl, by omega, by omega, (fun h1 h2 => by first | (exfalso; omega) | (rcases (by omega : y = 0 ∨ y = 1 ∨ y = 2 ∨ y = 3 ∨ y = 4 ∨ y = 5 ∨ y = 6 ∨ y = 7) with h | h | h | h | h | h | h | h <;> (rw [h]; decide +kernel)) | (rw [(by omega : y = 8)]; decide +kernel))⟩
            · refine T.go 8 (fun n9 => (rfl : _ = exe ξ n9 d j_M_wordByte 84 [(0, J x), (1, J y), (2, JL 7597120008391390328), (4, JL 3408452297481930067), (6, JL 0), (8, JL 3408452297481930067)] [J 8, J y, J 8, J 56, JL 3408452297481930067] σ)) ?_
              refine T.iremc (c := 8) rfl (by decide) (by omega) ?_
              refine T.imul rfl ?_
              refine T.isub rfl ?_
              refine T.lshrp rfl (by omega) (by omega) ?_
              refine T.l2i rfl ?_
              refine T.go 1 (fun n9 => (rfl : _ = exe ξ n9 d j_M_wordByte 92 [(0, J x), (1, J y), (2, JL 7597120008391390328), (4, JL 3408452297481930067), (6, JL 0), (8, JL 3408452297481930067)] [J 255, J (3408452297481930067 / P2 (56 - (8 * (y % 8))))] σ)) ?_
              refine T.iandw rfl ?_
              exact T.ireti rfl rfl ⟨_, rfl, rfl, by omega, by omega, (fun h1 h2 => by first | (exfalso; omega) | (rcases (by omega : y = 0 ∨ y = 1 ∨ y = 2 ∨ y = 3 ∨ y = 4 ∨ y = 5 ∨ y = 6 ∨ y = 7) with h | h | h | h | h | h | h | h <;> (rw [h]; decide +kernel)) | (rw [(by omega : y = 8)]; decide +kernel))⟩
          · refine T.go 8 (fun n9 => (rfl : _ = exe ξ n9 d j_M_wordByte 84 [(0, J x), (1, J y), (2, JL 7597120008391390328), (4, JL 3408452297481930067), (6, JL 0), (8, JL 7597120008391390328)] [J 8, J y, J 8, J 56, JL 7597120008391390328] σ)) ?_
            refine T.iremc (c := 8) rfl (by decide) (by omega) ?_
            refine T.imul rfl ?_
            refine T.isub rfl ?_
            refine T.lshrp rfl (by omega) (by omega) ?_
            refine T.l2i rfl ?_
            refine T.go 1 (fun n9 => (rfl : _ = exe ξ n9 d j_M_wordByte 92 [(0, J x), (1, J y), (2, JL 7597120008391390328), (4, JL 3408452297481930067), (6, JL 0), (8, JL 7597120008391390328)] [J 255, J (7597120008391390328 / P2 (56 - (8 * (y % 8))))] σ)) ?_
            refine T.iandw rfl ?_
            exact T.ireti rfl rfl ⟨_, rfl, rfl, by omega, by omega, (fun h1 h2 => by first | (exfalso; omega) | (rcases (by omega : y = 0 ∨ y = 1 ∨ y = 2 ∨ y = 3 ∨ y = 4 ∨ y = 5 ∨ y = 6 ∨ y = 7) with h | h | h | h | h | h | h | h <;> (rw [h]; decide +kernel)) | (rw [(by omega : y = 8)]; decide +kernel))⟩
        · refine T.go 1 (fun n9 => (rfl : _ = exe ξ n9 d j_M_wordByte 49 [(0, J x), (1, J y), (2, JL 7597120008391390328), (4, JL 3408452297481930067), (6, JL 0)] [J 0] σ)) ?_
          exact T.ireti rfl rfl ⟨_, rfl, rfl, by omega, by omega, (fun h1 h2 => by first | (exfalso; omega) | (rcases (by omega : y = 0 ∨ y = 1 ∨ y = 2 ∨ y = 3 ∨ y = 4 ∨ y = 5 ∨ y = 6 ∨ y = 7) with h | h | h | h | h | h | h | h <;> (rw [h]; decide +kernel)) | (rw [(by omega : y = 8)]; decide +kernel))⟩
    · refine T.go 4 (fun n9 => (rfl : _ = exe ξ n9 d j_M_wordByte 30 [(0, J x), (1, J y), (2, JL 7597120008391390328), (4, JL 8358680908399640576)] [J x] σ)) ?_
      refine T.if_ne rfl rfl (by omega) (fun c25 => ?_) (fun c25 => ?_)
      · refine T.go 4 (fun n9 => (rfl : _ = exe ξ n9 d j_M_wordByte 45 [(0, J x), (1, J y), (2, JL 7597120008391390328), (4, JL 8358680908399640576), (6, JL 6065870711157686272)] [J 23, J y] σ)) ?_
        refine T.icmp_le rfl rfl (by omega) (by omega) (fun c26 => ?_) (fun c26 => ?_)
        · refine T.go 2 (fun n9 => (rfl : _ = exe ξ n9 d j_M_wordByte 53 [(0, J x), (1, J y), (2, JL 7597120008391390328), (4, JL 8358680908399640576), (6, JL 6065870711157686272)] [J 8, J y] σ)) ?_
          refine T.icmp_ge rfl rfl (by omega) (by omega) (fun c27 => ?_) (fun c27 => ?_)
          · refine T.go 2 (fun n9 => (rfl : _ = exe ξ n9 d j_M_wordByte 63 [(0, J x), (1, J y), (2, JL 7597120008391390328), (4, JL 8358680908399640576), (6, JL 6065870711157686272)] [J 16, J y] σ)) ?_
            refine T.icmp_ge rfl rfl (by omega) (by omega) (fun c28 => ?_) (fun c28 => ?_)
            · refine T.go 7 (fun n9 => (rfl : _ = exe ξ n9 d j_M_wordByte 84 [(0, J x), (1, J y), (2, JL 7597120008391390328), (4, JL 8358680908399640576), (6, JL 6065870711157686272), (8, JL 6065870711157686272)] [J 8, J y, J 8, J 56, JL 6065870711157686272] σ)) ?_
              refine T.iremc (c := 8) rfl (by decide) (by omega) ?_
              refine T.imul rfl ?_
              refine T.isub rfl ?_
              refine T.lshrp rfl (by omega) (by omega) ?_
              refine T.l2i rfl ?_
              refine T.go 1 (fun n9 => (rfl : _ = exe ξ n9 d j_M_wordByte 92 [(0, J x), (1, J y), (2, JL 7597120008391390328), (4, JL 8358680908399640576), (6, JL 6065870711157686272), (8, JL 6065870711157686272)] [J 255, J (6065870711157686272 / P2 (56 - (8 * (y % 8))))] σ)) ?_
              refine T.iandw rfl ?_
              exact T.ireti rfl rfl ⟨_, rfl, rfl, by omega, by omega, (fun h1 h2 => by first | (exfalso; omega) | (rcases (by omega : y = 0 ∨ y = 1 ∨ y = 2 ∨ y = 3 ∨ y = 4 ∨ y = 5 ∨ y = 6 ∨ y = 7) with h | h | h | h | h | h | h | h <;> (rw [h]; decide +kernel)) | (rw [(by omega : y = 8)]; decide +kernel))⟩
            · refine T.go 8 (fun n9 => (rfl : _ = exe ξ n9 d j_M_wordByte 84 [(0, J x), (1, J y), (2, JL 7597120008391390328), (4, JL 8358680908399640576), (6, JL 6065870711157686272), (8, JL 8358680908399640576)] [J 8, J y, J 8, J 56, JL 8358680908399640576] σ)) ?_
              refine T.iremc (c := 8) rfl (by decide) (by omega) ?_
              refine T.imul rfl ?_
              refine T.isub rfl ?_
              refine T.lshrp rfl (by omega) (by omega) ?_
              refine T.l2i rfl ?_
              refine T.go 1 (fun n9 => (rfl : _ = exe ξ n9 d j_M_wordByte 92 [(0, J x), (1, J y), (2, JL 7597120008391390328), (4, JL 8358680908399640576), (6, JL 6065870711157686272), (8, JL 8358680908399640576)] [J 255, J (8358680908399640576 / P2 (56 - (8 * (y % 8))))] σ)) ?_
              refine T.iandw rfl ?_
              exact T.ireti rfl rfl ⟨_, rfl, rfl, by omega, by omega, (fun h1 h2 => by first | (exfalso; omega) | (rcases (by omega : y = 0 ∨ y = 1 ∨ y = 2 ∨ y = 3 ∨ y = 4 ∨ y = 5 ∨ y = 6 ∨ y = 7) with h | h | h | h | h | h | h | h <;> (rw [h]; decide +kernel)) | (rw [(by omega : y = 8)]; decide +kernel))⟩
          · refine T.go 8 (fun n9 => (rfl : _ = exe ξ n9 d j_M_wordByte 84 [(0, J x), (1, J y), (2, JL 7597120008391390328), (4, JL 8358680908399640576), (6, JL 6065870711157686272), (8, JL 7597120008391390328)] [J 8, J y, J 8, J 56, JL 7597120008391390328] σ)) ?_
            refine T.iremc (c := 8) rfl (by decide) (by omega) ?_
            refine T.imul rfl ?_
            refine T.isub rfl ?_
            refine T.lshrp rfl (by omega) (by omega) ?_
            refine T.l2i rfl ?_
            refine T.go 1 (fun n9 => (rfl : _ = exe ξ n9 d j_M_wordByte 92 [(0, J x), (1, J y), (2, JL 7597120008391390328), (4, JL 8358680908399640576), (6, JL 6065870711157686272), (8, JL 7597120008391390328)] [J 255, J (7597120008391390328 / P2 (56 - (8 * (y % 8))))] σ)) ?_
            refine T.iandw rfl ?_
            exact T.ireti rfl rfl ⟨_, rfl, rfl, by omega, by omega, (fun h1 h2 => by first | (exfalso; omega) | (rcases (by omega : y = 0 ∨ y = 1 ∨ y = 2 ∨ y = 3 ∨ y = 4 ∨ y = 5 ∨ y = 6 ∨ y = 7) with h | h | h | h | h | h | h | h <;> (rw [h]; decide +kernel)) | (rw [(by omega : y = 8)]; decide +kernel))⟩
        · refine T.go 1 (fun n9 => (rfl : _ = exe ξ n9 d j_M_wordByte 49 [(0, J x), (1, J y), (2, JL 7597120008391390328), (4, JL 8358680908399640576), (6, JL 6065870711157686272)] [J 0] σ)) ?_
          exact T.ireti rfl rfl ⟨_, rfl, rfl, by omega, by omega, (fun h1 h2 => by first | (exfalso; omega) | (rcases (by omega : y = 0 ∨ y = 1 ∨ y = 2 ∨ y = 3 ∨ y = 4 ∨ y = 5 ∨ y = 6 ∨ y = 7) with h | h | h | h | h | h | h | h <;> (rw [h]; decide +kernel)) | (rw [(by omega : y = 8)]; decide +kernel))⟩
      · refine T.go 5 (fun n9 => (rfl : _ = exe ξ n9 d j_M_wordByte 45 [(0, J x), (1, J y), (2, JL 7597120008391390328), (4, JL 8358680908399640576), (6, JL 0)] [J 23, J y] σ)) ?_
        refine T.icmp_le rfl rfl (by omega) (by omega) (fun c29 => ?_) (fun c29 => ?_)
        · refine T.go 2 (fun n9 => (rfl : _ = exe ξ n9 d j_M_wordByte 53 [(0, J x), (1, J y), (2, JL 7597120008391390328), (4, JL 8358680908399640576), (6, JL 0)] [J 8, J y] σ)) ?_
          refine T.icmp_ge rfl rfl (by omega) (by omega) (fun c30 => ?_) (fun c30 => ?_)
          · refine T.go 2 (fun n9 => (rfl : _ = exe ξ n9 d j_M_wordByte 63 [(0, J x), (1, J y), (2, JL 7597120008391390328), (4, JL 8358680908399640576), (6, JL 0)] [J 16, J y] σ)) ?_
            refine T.icmp_ge rfl rfl (by omega) (by omega) (fun c31 => ?_) (fun c31 => ?_)
            · refine T.go 7 (fun n9 => (rfl : _ = exe ξ n9 d j_M_wordByte 84 [(0, J x), (1, J y), (2, JL 7597120008391390328), (4, JL 8358680908399640576), (6, JL 0), (8, JL 0)] [J 8, J y, J 8, J 56, JL 0] σ)) ?_
              refine T.iremc (c := 8) rfl (by decide) (by omega) ?_
              refine T.imul rfl ?_
              refine T.isub rfl ?_
              refine T.lshrp rfl (by omega) (by omega) ?_
              refine T.l2i rfl ?_
              refine T.go 1 (fun n9 => (rfl : _ = exe ξ n9 d j_M_wordByte 92 [(0, J x), (1, J y), (2, JL 7597120008391390328), (4, JL 8358680908399640576), (6, JL 0), (8, JL 0)] [J 255, J (0 / P2 (56 - (8 * (y % 8))))] σ)) ?_
              refine T.iandw rfl ?_
              exact T.ireti rfl rfl ⟨_, rfl, rfl, by omega, by omega, (fun h1 h2 => by first | (exfalso; omega) | (rcases (by omega : y = 0 ∨ y = 1 ∨ y = 2 ∨ y = 3 ∨ y = 4 ∨ y = 5 ∨ y = 6 ∨ y = 7) with h | h | h | h | h | h | h | h <;> (rw [h]; decide +kernel)) | (rw [(by omega : y = 8)]; decide +kernel))⟩
            · refine T.go 8 (fun n9 => (rfl : _ = exe ξ n9 d j_M_wordByte 84 [(0, J x), (1, J y), (2, JL 7597120008391390328), (4, JL 8358680908399640576), (6, JL 0), (8, JL 8358680908399640576)] [J 8, J y, J 8, J 56, JL 8358680908399640576] σ)) ?_
              refine T.iremc (c := 8) rfl (by decide) (by omega) ?_
              refine T.imul rfl ?_
              refine T.isub rfl ?_
              refine T.lshrp rfl (by omega) (by omega) ?_
              refine T.l2i rfl ?_
              refine T.go 1 (fun n9 => (rfl : _ = exe ξ n9 d j_M_wordByte 92 [(0, J x), (1, J y), (2, JL 7597120008391390328), (4, JL 8358680908399640576), (6, JL 0), (8, JL 8358680908399640576)] [J 255, J (8358680908399640576 / P2 (56 - (8 * (y % 8))))] σ)) ?_
              refine T.iandw rfl ?_
              exact T.ireti rfl rfl ⟨_, rfl, rfl, by omega, by omega, (fun h1 h2 => by first | (exfalso; omega) | (rcases (by omega : y = 0 ∨ y = 1 ∨ y = 2 ∨ y = 3 ∨ y = 4 ∨ y = 5 ∨ y = 6 ∨ y = 7) with h | h | h | h | h | h | h | h <;> (rw [h]; decide +kernel)) | (rw [(by omega : y = 8)]; decide +kernel))⟩
          · refine T.go 8 (fun n9 => (rfl : _ = exe ξ n9 d j_M_wordByte 84 [(0, J x), (1, J y), (2, JL 7597120008391390328), (4, JL 8358680908399640576), (6, JL 0), (8, JL 7597120008391390328)] [J 8, J y, J 8, J 56, JL 7597120008391390328] σ)) ?_
            refine T.iremc (c := 8) rfl (by decide) (by omega) ?_
            refine T.imul rfl ?_
            refine T.isub rfl ?_
            refine T.lshrp rfl (by omega) (by omega) ?_
            refine T.l2i rfl ?_
            refine T.go 1 (fun n9 => (rfl : _ = exe ξ n9 d j_M_wordByte 92 [(0, J x), (1, J y), (2, JL 7597120008391390328), (4, JL 8358680908399640576), (6, JL 0), (8, JL 7597120008391390328)] [J 255, J (7597120008391390328 / P2 (56 - (8 * (y % 8))))] σ)) ?_
            refine T.iandw rfl ?_
            exact T.ireti rfl rfl ⟨_, rfl, rfl, by omega, by omega, (fun h1 h2 => by first | (exfalso; omega) | (rcases (by omega : y = 0 ∨ y = 1 ∨ y = 2 ∨ y = 3 ∨ y = 4 ∨ y = 5 ∨ y = 6 ∨ y = 7) with h | h | h | h | h | h | h | h <;> (rw [h]; decide +kernel)) | (rw [(by omega : y = 8)]; decide +kernel))⟩
        · refine T.go 1 (fun n9 => (rfl : _ = exe ξ n9 d j_M_wordByte 49 [(0, J x), (1, J y), (2, JL 7597120008391390328), (4, JL 8358680908399640576), (6, JL 0)] [J 0] σ)) ?_
          exact T.ireti rfl rfl ⟨_, rfl, rfl, by omega, by omega, (fun h1 h2 => by first | (exfalso; omega) | (rcases (by omega : y = 0 ∨ y = 1 ∨ y = 2 ∨ y = 3 ∨ y = 4 ∨ y = 5 ∨ y = 6 ∨ y = 7) with h | h | h | h | h | h | h | h <;> (rw [h]; decide +kernel)) | (rw [(by omega : y = 8)]; decide +kernel))⟩

set_option maxHeartbeats 4000000 in
theorem s_M_flistNamed {ξ : Nat → Option (Nat × List Int32)} {c io mo fa pl ns rw en wy wh bi ed sz md bd li wk we : Int} {Lc : List Int64} {la lm ln lh ld lk lt : List Int32} (d : Nat) (x : Int) (σ : qH) (hM : MS σ c io mo fa pl ns rw en wy wh bi ed sz md bd li wk we Lc la lm ln lh ld lk lt) (rx : -2147483648 ≤ x ∧ x ≤ 2147483647) (pre0 : x = 0) (pre1 : HD (gc Lc rw) lh ld en) : T ξ (d + 3) j_M_listNamed 0 (lv_args 0 [.ref 137, J x]) [] σ (fun v σ' => ∃ (z : Int), v = some (J z) ∧ σ' = σ ∧ -1 ≤ z ∧ z ≤ 64 ∧ z = LK (gc Lc rw) ixn (gl lh) 0 9 en.toNat) := by
  have r0 := hM.rg
  have n0 := hM.len
  have loop14 : ∀ (f14 : Nat) (n : Int) (k : Int), n = 9 → 0 ≤ k → k ≤ en → LK (gc Lc rw) ixn (gl lh) 0 9 k.toNat = -1 → (en - k).toNat < f14 → T ξ (d + 3) j_M_listNamed 14 [(0, .ref 137), (1, J x), (2, J n), (3, J k)] [] σ (fun v σ' => ∃ (z : Int), v = some (J z) ∧ σ' = σ ∧ -1 ≤ z ∧ z ≤ 64 ∧ z = LK (gc Lc rw) ixn (gl lh) 0 9 en.toNat) := by
    intro f14
    induction f14 with
    | zero => intro n k i0 i1 i2 i3 hm14; omega
    | succ f14 ih14 =>
      intro n k i0 i1 i2 i3 hm14
      have loop41 : ∀ (f41 : Nat) (q4 : Int) (i : Int), 0 ≤ q4 → q4 ≤ 1 → 0 ≤ i → i ≤ 9 → k < en → (q4 = 0 → ¬ (W2 (gc Lc rw) (gl lh k + 28) = 9 ∧ EQ2 (gc Lc rw) ixn (gl lh k + 46) 0 (9 : Int).toNat = 1)) → (q4 = 1 → W2 (gc Lc rw) (gl lh k + 28) = 9 ∧ EQ2 (gc Lc rw) ixn (gl lh k + 46) 0 i.toNat = 1) → (n - i).toNat < f41 → T ξ (d + 3) j_M_listNamed 41 [(0, .ref 137), (1, J x), (2, J n), (3, J k), (4, J q4), (5, J i)] [] σ (fun v σ' => ∃ (z : Int), v = some (J z) ∧ σ' = σ ∧ -1 ≤ z ∧ z ≤ 64 ∧ z = LK (gc Lc rw) ixn (gl lh) 0 9 en.toNat) := by
        intro f41
        induction f41 with
        | zero => intro q4 i j0 j1 j2 j3 j4 j5 j6 hm41; omega
        | succ f41 ih41 =>
          intro q4 i j0 j1 j2 j3 j4 j5 j6 hm41
          have hdk := pre1 k (by omega) (by omega)
          refine T.go 2 (fun n9 => (rfl : _ = exe ξ n9 (d + 3) j_M_listNamed 44 [(0, .ref 137), (1, J x), (2, J n), (3, J k), (4, J q4), (5, J i)] [J n, J i] σ)) ?_
          refine T.icmp_ge rfl rfl (by omega) (by omega) (fun c1 => ?_) (fun c1 => ?_)
          · refine T.go 1 (fun n9 => (rfl : _ = exe ξ n9 (d + 3) j_M_listNamed 96 [(0, .ref 137), (1, J x), (2, J n), (3, J k), (4, J q4), (5, J i)] [J q4] σ)) ?_
            refine T.if_eq rfl rfl (by omega) (fun c2 => ?_) (fun c2 => ?_)
            · refine T.iinc (lv' := [(0, .ref 137), (1, J x), (2, J n), (3, J (k + 1)), (4, J q4), (5, J i)]) rfl rfl rfl rfl ?_
              refine T.go 1 (fun n9 => (rfl : _ = exe ξ n9 (d + 3) j_M_listNamed 14 [(0, .ref 137), (1, J x), (2, J n), (3, J (k + 1)), (4, J q4), (5, J i)] [] σ)) ?_
              refine T.drop (lv := [(0, .ref 137), (1, J x), (2, J n), (3, J (k + 1))]) [(4, J q4), (5, J i)] (by simp) ?_
              exact ih14  n (k + 1)  (by omega) (by omega) (by omega) (by rw [LK_step (by omega), if_neg (fun q => q i3), if_neg (by omega)]) (by omega)
            · refine T.go 1 (fun n9 => (rfl : _ = exe ξ n9 (d + 3) j_M_listNamed 100 [(0, .ref 137), (1, J x), (2, J n), (3, J k), (4, J q4), (5, J i)] [J k] σ)) ?_
              exact T.ireti rfl rfl ⟨_, rfl, rfl, by omega, by omega, (LK_yes (m := (k + 1).toNat) (by rw [LK_step (by omega), if_neg (fun q => q i3), if_pos ⟨by omega, by rw [show (9 : Int).toNat = i.toNat by omega]; exact (j6 (by omega)).2⟩]) (by omega) (by omega)).symm⟩
          · refine T.go 1 (fun n9 => (rfl : _ = exe ξ n9 (d + 3) j_M_listNamed 49 [(0, .ref 137), (1, J x), (2, J n), (3, J k), (4, J q4), (5, J i)] [J q4] σ)) ?_
            refine T.if_eq rfl rfl (by omega) (fun c3 => ?_) (fun c3 => ?_)
            · refine T.go 1 (fun n9 => (rfl : _ = exe ξ n9 (d + 3) j_M_listNamed 96 [(0, .ref 137), (1, J x), (2, J n), (3, J k), (4, J q4), (5, J i)] [J q4] σ)) ?_
              refine T.if_eq rfl rfl (by omega) (fun c4 => ?_) (fun c4 => ?_)
              · refine T.iinc (lv' := [(0, .ref 137), (1, J x), (2, J n), (3, J (k + 1)), (4, J q4), (5, J i)]) rfl rfl rfl rfl ?_
                refine T.go 1 (fun n9 => (rfl : _ = exe ξ n9 (d + 3) j_M_listNamed 14 [(0, .ref 137), (1, J x), (2, J n), (3, J (k + 1)), (4, J q4), (5, J i)] [] σ)) ?_
                refine T.drop (lv := [(0, .ref 137), (1, J x), (2, J n), (3, J (k + 1))]) [(4, J q4), (5, J i)] (by simp) ?_
                exact ih14  n (k + 1)  (by omega) (by omega) (by omega) (by rw [LK_step (by omega), if_neg (fun q => q i3), if_neg (by omega)]) (by omega)
              · refine T.go 1 (fun n9 => (rfl : _ = exe ξ n9 (d + 3) j_M_listNamed 100 [(0, .ref 137), (1, J x), (2, J n), (3, J k), (4, J q4), (5, J i)] [J k] σ)) ?_
                exact T.ireti rfl rfl ⟨_, rfl, rfl, by omega, by omega, (LK_yes (m := (k + 1).toNat) (by rw [LK_step (by omega), if_neg (fun q => q i3), if_pos ⟨by omega, by rw [show (9 : Int).toNat = i.toNat by omega]; exact (j6 (by omega)).2⟩]) (by omega) (by omega)).symm⟩
            · refine T.go 2 (fun n9 => (rfl : _ = exe ξ n9 (d + 3) j_M_listNamed 54 [(0, .ref 137), (1, J x), (2, J n), (3, J k), (4, J q4), (5, J i)] [.ref 137, .ref 137] σ)) ?_
              refine T.get rfl rfl rfl hM.ob rfl ?_
              refine T.go 1 (fun n9 => (rfl : _ = exe ξ n9 (d + 3) j_M_listNamed 58 [(0, .ref 137), (1, J x), (2, J n), (3, J k), (4, J q4), (5, J i)] [.ref 137, J rw, .ref 137] σ)) ?_
              refine T.get rfl rfl rfl hM.ob rfl ?_
              refine T.go 1 (fun n9 => (rfl : _ = exe ξ n9 (d + 3) j_M_listNamed 62 [(0, .ref 137), (1, J x), (2, J n), (3, J k), (4, J q4), (5, J i)] [J k, .ref 142, J rw, .ref 137] σ)) ?_
              refine T.iald rfl rfl hM.c142 (by omega) (fun z1 hzz1 hyz1 hez1 => ?_)
              have hbz1 := hM.b142.at hez1 ⟨hzz1, hyz1⟩
              have gzz1 := gl_of hez1 ⟨hzz1, hyz1⟩
              subst gzz1
              refine T.go 1 (fun n9 => (rfl : _ = exe ξ n9 (d + 3) j_M_listNamed 65 [(0, .ref 137), (1, J x), (2, J n), (3, J k), (4, J q4), (5, J i)] [J 46, J (gl lh k), J rw, .ref 137] σ)) ?_
              refine T.iadd rfl ?_
              refine T.go 1 (fun n9 => (rfl : _ = exe ξ n9 (d + 3) j_M_listNamed 68 [(0, .ref 137), (1, J x), (2, J n), (3, J k), (4, J q4), (5, J i)] [J i, J ((gl lh k) + 46), J rw, .ref 137] σ)) ?_
              refine T.iadd rfl ?_
              refine T.callv (as := [J rw, J (((gl lh k) + 46) + i)]) (r := []) rfl rfl rfl rfl hM.ob rfl (s_M_get (d + 2) rw (((gl lh k) + 46) + i) σ hM (by omega)) (fun v1 s1 hqs1 => ?_)
              obtain ⟨z2, rfl, esz2, hzz2, hyz2, pz2_0⟩ := hqs1
              rw [esz2]
              have gg := gc_at (Lc := Lc) (r := rw) (k := gl lh k + 46 + i) (by omega)
              refine T.go 2 (fun n9 => (rfl : _ = exe ξ n9 (d + 3) j_M_listNamed 75 [(0, .ref 137), (1, J x), (2, J n), (3, J k), (4, J q4), (5, J i)] [J i, J x, J z2] σ)) ?_
              refine T.calls (as := [J x, J i]) (r := [J z2]) rfl rfl (by decide) rfl rfl (s_M_fwordByte (d + 2) x i σ (by omega) (by omega) (by omega)) (fun v2 s2 hqs2 => ?_)
              obtain ⟨z3, rfl, esz3, hzz3, hyz3, pz3_0⟩ := hqs2
              rw [esz3]
              have iz : ixn (0 + i) = ixn i := by rw [Int.zero_add]
              have ez := pz3_0 (by omega) (by omega)
              refine T.icmp_ne rfl rfl (by omega) (by omega) (fun c5 => ?_) (fun c5 => ?_)
              · refine T.go 2 (fun n9 => (rfl : _ = exe ξ n9 (d + 3) j_M_listNamed 88 [(0, .ref 137), (1, J x), (2, J n), (3, J k), (4, J 0), (5, J i)] [] σ)) ?_
                refine T.iinc (lv' := [(0, .ref 137), (1, J x), (2, J n), (3, J k), (4, J 0), (5, J (i + 1))]) rfl rfl rfl rfl ?_
                refine T.go 1 (fun n9 => (rfl : _ = exe ξ n9 (d + 3) j_M_listNamed 41 [(0, .ref 137), (1, J x), (2, J n), (3, J k), (4, J 0), (5, J (i + 1))] [] σ)) ?_
                exact ih41  0 (i + 1)  (by omega) (by omega) (by omega) (by omega) (by omega) (fun q u => by have := EQ2_no (m := (i + 1).toNat) (n := (9 : Int).toNat) (by rw [EQ2_step (by omega), if_neg (by omega)] : EQ2 (gc Lc rw) ixn (gl lh k + 46) 0 (i + 1).toNat = 0) (by omega); omega) (fun q => absurd q (by omega)) (by omega)
              · refine T.go 3 (fun n9 => (rfl : _ = exe ξ n9 (d + 3) j_M_listNamed 88 [(0, .ref 137), (1, J x), (2, J n), (3, J k), (4, J 1), (5, J i)] [] σ)) ?_
                refine T.iinc (lv' := [(0, .ref 137), (1, J x), (2, J n), (3, J k), (4, J 1), (5, J (i + 1))]) rfl rfl rfl rfl ?_
                refine T.go 1 (fun n9 => (rfl : _ = exe ξ n9 (d + 3) j_M_listNamed 41 [(0, .ref 137), (1, J x), (2, J n), (3, J k), (4, J 1), (5, J (i + 1))] [] σ)) ?_
                exact ih41  1 (i + 1)  (by omega) (by omega) (by omega) (by omega) (by omega) (fun q => absurd q (by omega)) (fun q => ⟨by omega, by rw [EQ2_step (by omega), if_pos ⟨by omega, by omega⟩]⟩) (by omega)
      refine T.go 2 (fun n9 => (rfl : _ = exe ξ n9 (d + 3) j_M_listNamed 16 [(0, .ref 137), (1, J x), (2, J n), (3, J k)] [.ref 137, J k] σ)) ?_
      refine T.get rfl rfl rfl hM.ob rfl ?_
      refine T.icmp_ge rfl rfl (by omega) (by omega) (fun c6 => ?_) (fun c6 => ?_)
      · refine T.go 1 (fun n9 => (rfl : _ = exe ξ n9 (d + 3) j_M_listNamed 108 [(0, .ref 137), (1, J x), (2, J n), (3, J k)] [J (-1)] σ)) ?_
        exact T.ireti rfl rfl ⟨_, rfl, rfl, by omega, by omega, (by rw [show en.toNat = k.toNat by omega]; exact i3.symm)⟩
      · refine T.go 2 (fun n9 => (rfl : _ = exe ξ n9 (d + 3) j_M_listNamed 24 [(0, .ref 137), (1, J x), (2, J n), (3, J k)] [J k, .ref 137] σ)) ?_
        refine T.callv (as := [J k]) (r := []) rfl rfl rfl rfl hM.ob rfl (s_M_nameLength d k σ hM (by omega) (by omega) (by omega)) (fun v3 s3 hqs3 => ?_)
        obtain ⟨z4, rfl, esz4, hzz4, hyz4, pz4_0⟩ := hqs3
        rw [esz4]
        have hdk := pre1 k (by omega) (by omega)
        have e5 := pz4_0 (by omega)
        subst e5
        refine T.go 1 (fun n9 => (rfl : _ = exe ξ n9 (d + 3) j_M_listNamed 28 [(0, .ref 137), (1, J x), (2, J n), (3, J k)] [J n, J (W2 (gc Lc rw) (gl lh k + 28))] σ)) ?_
        refine T.icmp_ne rfl rfl (by omega) (by omega) (fun c7 => ?_) (fun c7 => ?_)
        · refine T.go 4 (fun n9 => (rfl : _ = exe ξ n9 (d + 3) j_M_listNamed 41 [(0, .ref 137), (1, J x), (2, J n), (3, J k), (4, J 0), (5, J 0)] [] σ)) ?_
          exact loop41 _ 0 0  (by omega) (by omega) (by omega) (by omega) (by omega) (fun q u => by omega) (fun q => absurd q (by omega)) (Nat.lt_succ_self _)
        · refine T.go 5 (fun n9 => (rfl : _ = exe ξ n9 (d + 3) j_M_listNamed 41 [(0, .ref 137), (1, J x), (2, J n), (3, J k), (4, J 1), (5, J 0)] [] σ)) ?_
          exact loop41 _ 1 0  (by omega) (by omega) (by omega) (by omega) (by omega) (fun q => absurd q (by omega)) (fun q => ⟨by omega, rfl⟩) (Nat.lt_succ_self _)
  refine T.go 1 (fun n9 => (rfl : _ = exe ξ n9 (d + 3) j_M_listNamed 1 [(0, .ref 137), (1, J x)] [J x] σ)) ?_
  refine T.if_ne rfl rfl (by omega) (fun c8 => ?_) (fun c8 => ?_)
  · refine T.go 4 (fun n9 => (rfl : _ = exe ξ n9 (d + 3) j_M_listNamed 14 [(0, .ref 137), (1, J x), (2, J 20), (3, J 0)] [] σ)) ?_
    exact loop14 _ 20 0  (by omega) (by omega) (by omega) rfl (Nat.lt_succ_self _)
  · refine T.go 5 (fun n9 => (rfl : _ = exe ξ n9 (d + 3) j_M_listNamed 14 [(0, .ref 137), (1, J x), (2, J 9), (3, J 0)] [] σ)) ?_
    exact loop14 _ 9 0  (by omega) (by omega) (by omega) rfl (Nat.lt_succ_self _)
