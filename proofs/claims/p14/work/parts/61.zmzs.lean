/-! The model: the sum of what is made. -/
set_option maxHeartbeats 4000000 in
theorem s_M_fsumOfMade {ξ : Nat → Option (Nat × List Int32)} {c io mo fa pl ns rw en wy wh bi ed sz md bd li wk we : Int} {Lc : List Int64} {la lm ln lh ld lk lt : List Int32} (d : Nat)  (σ : qH) (hM : MS σ c io mo fa pl ns rw en wy wh bi ed sz md bd li wk we Lc la lm ln lh ld lk lt) (pre0 : 0 ≤ md) (pre1 : md ≤ 8000) : T ξ (d + 1) j_M_sumOfMade 0 (lv_args 0 [.ref 137]) [] σ (fun v σ' => ∃ (z : Int), v = some (JL z) ∧ σ' = σ ∧ 0 ≤ z ∧ z ≤ 4294967295 ∧ z = 4294967295 - (CRN (nm Lc md) md.toNat : Int)) := by
  have r0 := hM.rg
  have n0 := hM.len
  have e21 : P2 1 = 2 := by decide
  have loop6 : ∀ (f6 : Nat) (u : Int) (k : Int), u.toNat = CRN (nm Lc md) k.toNat → (0 ≤ u ∧ u < 4294967296) → 0 ≤ k → k ≤ md → (md - k).toNat < f6 → T ξ (d + 1) j_M_sumOfMade 6 [(0, .ref 137), (1, JL u), (3, J k)] [] σ (fun v σ' => ∃ (z : Int), v = some (JL z) ∧ σ' = σ ∧ 0 ≤ z ∧ z ≤ 4294967295 ∧ z = 4294967295 - (CRN (nm Lc md) md.toNat : Int)) := by
    intro f6
    induction f6 with
    | zero => intro u k i0 i1 i2 i3 hm6; omega
    | succ f6 ih6 =>
      intro u k i0 i1 i2 i3 hm6
      have loop17 : ∀ (f17 : Nat) (u1 : Int) (i : Int), u1.toNat = cM ((nm Lc md) k).toNat i.toNat (CRN (nm Lc md) k.toNat) → (0 ≤ u1 ∧ u1 < 4294967296) → 0 ≤ i → i ≤ 8 → k < md → (8 - i).toNat < f17 → T ξ (d + 1) j_M_sumOfMade 17 [(0, .ref 137), (1, JL u1), (3, J k), (4, J i)] [] σ (fun v σ' => ∃ (z : Int), v = some (JL z) ∧ σ' = σ ∧ 0 ≤ z ∧ z ≤ 4294967295 ∧ z = 4294967295 - (CRN (nm Lc md) md.toNat : Int)) := by
        intro f17
        induction f17 with
        | zero => intro u1 i j0 j1 j2 j3 j4 hm17; omega
        | succ f17 ih17 =>
          intro u1 i j0 j1 j2 j3 j4 hm17
          refine T.go 2 (fun n9 => (rfl : _ = exe ξ n9 (d + 1) j_M_sumOfMade 21 [(0, .ref 137), (1, JL u1), (3, J k), (4, J i)] [J 8, J i] σ)) ?_
          refine T.icmp_ge rfl rfl (by omega) (by omega) (fun c1 => ?_) (fun c1 => ?_)
          · refine T.iinc (lv' := [(0, .ref 137), (1, JL u1), (3, J (k + 1)), (4, J i)]) rfl rfl rfl rfl ?_
            refine T.go 1 (fun n9 => (rfl : _ = exe ξ n9 (d + 1) j_M_sumOfMade 6 [(0, .ref 137), (1, JL u1), (3, J (k + 1)), (4, J i)] [] σ)) ?_
            refine T.drop (lv := [(0, .ref 137), (1, JL u1), (3, J (k + 1))]) [(4, J i)] (by simp) ?_
            have gr9 := gc_r Lc 4 k
            have gn9 := nm_at (Lc := Lc) (m := md) (k := k) (by omega)
            exact ih6  u1 (k + 1)  (by rw [j0, show i.toNat = 8 by omega, cM_8 (by rw [gn9]; omega), CRN_step (by omega)]) (by omega) (by omega) (by omega) (by omega)
          · refine T.go 2 (fun n9 => (rfl : _ = exe ξ n9 (d + 1) j_M_sumOfMade 26 [(0, .ref 137), (1, JL u1), (3, J k), (4, J i)] [JL 1, JL u1] σ)) ?_
            refine T.landm (p := 2) 1 rfl (by decide) (by decide) (by decide) (by omega) ?_
            refine T.go 3 (fun n9 => (rfl : _ = exe ξ n9 (d + 1) j_M_sumOfMade 30 [(0, .ref 137), (1, JL u1), (3, J k), (4, J i)] [J k, J 4, .ref 137, JL (u1 % 2)] σ)) ?_
            refine T.callv (as := [J 4, J k]) (r := [JL (u1 % 2)]) rfl rfl rfl rfl hM.ob rfl (s_M_get d 4 k σ hM (by omega)) (fun v1 s1 hqs1 => ?_)
            obtain ⟨z2, rfl, esz2, hzz2, hyz2, pz2_0⟩ := hqs1
            rw [esz2]
            have gk := gc_at (Lc := Lc) (r := 4) (k := k) (by omega)
            have gr := gc_r Lc 4 k
            have gn := nm_at (Lc := Lc) (m := md) (k := k) (by omega)
            refine T.go 1 (fun n9 => (rfl : _ = exe ξ n9 (d + 1) j_M_sumOfMade 35 [(0, .ref 137), (1, JL u1), (3, J k), (4, J i)] [J i, J z2, JL (u1 % 2)] σ)) ?_
            refine T.ishrv rfl (by omega) (by omega) ?_
            have dz3 := dP2_r (q := z2) (n := i) (by omega)
            refine T.go 1 (fun n9 => (rfl : _ = exe ξ n9 (d + 1) j_M_sumOfMade 37 [(0, .ref 137), (1, JL u1), (3, J k), (4, J i)] [J 1, J (z2 / P2 i), JL (u1 % 2)] σ)) ?_
            refine T.iandm (p := 2) 1 rfl (by decide) (by decide) (by decide) (by omega) ?_
            refine T.i2l rfl (by omega) ?_
            refine T.lcmp rfl (by omega) (by omega) (fun c2 => ?_) (fun c2 => ?_) (fun c2 => ?_)
            · refine T.go 1 (fun n9 => (rfl : _ = exe ξ n9 (d + 1) j_M_sumOfMade 43 [(0, .ref 137), (1, JL u1), (3, J k), (4, J i)] [] σ)) ?_
              refine T.go 5 (fun n9 => (rfl : _ = exe ξ n9 (d + 1) j_M_sumOfMade 52 [(0, .ref 137), (1, JL u1), (3, J k), (4, J i), (5, J 1)] [J 1, JL u1] σ)) ?_
              refine T.lshrp rfl (by omega) (by omega) ?_
              rw [show u1 / P2 1 = u1 / 2 from rfl]
              refine T.go 2 (fun n9 => (rfl : _ = exe ξ n9 (d + 1) j_M_sumOfMade 58 [(0, .ref 137), (1, JL u1), (3, J k), (4, J i), (5, J 1)] [JL (u1 / 2)] σ)) ?_
              refine T.go 2 (fun n9 => (rfl : _ = exe ξ n9 (d + 1) j_M_sumOfMade 65 [(0, .ref 137), (1, JL u1), (3, J k), (4, J i), (5, J 1)] [JL 3988292384, JL (u1 / 2)] σ)) ?_
              refine T.lxorn rfl (by omega) (by omega) (fun z6 hzz6 hyz6 hxz6 => ?_)
              refine T.go 1 (fun n9 => (rfl : _ = exe ξ n9 (d + 1) j_M_sumOfMade 67 [(0, .ref 137), (1, JL z6), (3, J k), (4, J i), (5, J 1)] [] σ)) ?_
              refine T.iinc (lv' := [(0, .ref 137), (1, JL z6), (3, J k), (4, J (i + 1)), (5, J 1)]) rfl rfl rfl rfl ?_
              refine T.go 1 (fun n9 => (rfl : _ = exe ξ n9 (d + 1) j_M_sumOfMade 17 [(0, .ref 137), (1, JL z6), (3, J k), (4, J (i + 1)), (5, J 1)] [] σ)) ?_
              refine T.drop (lv := [(0, .ref 137), (1, JL z6), (3, J k), (4, J (i + 1))]) [(5, J 1)] (by simp) ?_
              exact ih17  z6 (i + 1)  (cM_st (i := i) (t := u1) (z := z2) (by omega) j0 (by omega) (by omega) (by rw [gn]; omega) hxz6 (by omega)) (by omega) (by omega) (by omega) (by omega) (by omega)
            · refine T.go 1 (fun n9 => (rfl : _ = exe ξ n9 (d + 1) j_M_sumOfMade 47 [(0, .ref 137), (1, JL u1), (3, J k), (4, J i)] [] σ)) ?_
              refine T.go 4 (fun n9 => (rfl : _ = exe ξ n9 (d + 1) j_M_sumOfMade 52 [(0, .ref 137), (1, JL u1), (3, J k), (4, J i), (5, J 0)] [J 1, JL u1] σ)) ?_
              refine T.lshrp rfl (by omega) (by omega) ?_
              rw [show u1 / P2 1 = u1 / 2 from rfl]
              refine T.go 3 (fun n9 => (rfl : _ = exe ξ n9 (d + 1) j_M_sumOfMade 65 [(0, .ref 137), (1, JL u1), (3, J k), (4, J i), (5, J 0)] [JL 0, JL (u1 / 2)] σ)) ?_
              refine T.lxorn rfl (by omega) (by omega) (fun z8 hzz8 hyz8 hxz8 => ?_)
              refine T.go 1 (fun n9 => (rfl : _ = exe ξ n9 (d + 1) j_M_sumOfMade 67 [(0, .ref 137), (1, JL z8), (3, J k), (4, J i), (5, J 0)] [] σ)) ?_
              refine T.iinc (lv' := [(0, .ref 137), (1, JL z8), (3, J k), (4, J (i + 1)), (5, J 0)]) rfl rfl rfl rfl ?_
              refine T.go 1 (fun n9 => (rfl : _ = exe ξ n9 (d + 1) j_M_sumOfMade 17 [(0, .ref 137), (1, JL z8), (3, J k), (4, J (i + 1)), (5, J 0)] [] σ)) ?_
              refine T.drop (lv := [(0, .ref 137), (1, JL z8), (3, J k), (4, J (i + 1))]) [(5, J 0)] (by simp) ?_
              exact ih17  z8 (i + 1)  (cM_st (i := i) (t := u1) (z := z2) (by omega) j0 (by omega) (by omega) (by rw [gn]; omega) hxz8 (by omega)) (by omega) (by omega) (by omega) (by omega) (by omega)
            · refine T.go 1 (fun n9 => (rfl : _ = exe ξ n9 (d + 1) j_M_sumOfMade 43 [(0, .ref 137), (1, JL u1), (3, J k), (4, J i)] [] σ)) ?_
              refine T.go 5 (fun n9 => (rfl : _ = exe ξ n9 (d + 1) j_M_sumOfMade 52 [(0, .ref 137), (1, JL u1), (3, J k), (4, J i), (5, J 1)] [J 1, JL u1] σ)) ?_
              refine T.lshrp rfl (by omega) (by omega) ?_
              rw [show u1 / P2 1 = u1 / 2 from rfl]
              refine T.go 2 (fun n9 => (rfl : _ = exe ξ n9 (d + 1) j_M_sumOfMade 58 [(0, .ref 137), (1, JL u1), (3, J k), (4, J i), (5, J 1)] [JL (u1 / 2)] σ)) ?_
              refine T.go 2 (fun n9 => (rfl : _ = exe ξ n9 (d + 1) j_M_sumOfMade 65 [(0, .ref 137), (1, JL u1), (3, J k), (4, J i), (5, J 1)] [JL 3988292384, JL (u1 / 2)] σ)) ?_
              refine T.lxorn rfl (by omega) (by omega) (fun z10 hzz10 hyz10 hxz10 => ?_)
              refine T.go 1 (fun n9 => (rfl : _ = exe ξ n9 (d + 1) j_M_sumOfMade 67 [(0, .ref 137), (1, JL z10), (3, J k), (4, J i), (5, J 1)] [] σ)) ?_
              refine T.iinc (lv' := [(0, .ref 137), (1, JL z10), (3, J k), (4, J (i + 1)), (5, J 1)]) rfl rfl rfl rfl ?_
              refine T.go 1 (fun n9 => (rfl : _ = exe ξ n9 (d + 1) j_M_sumOfMade 17 [(0, .ref 137), (1, JL z10), (3, J k), (4, J (i + 1)), (5, J 1)] [] σ)) ?_
              refine T.drop (lv := [(0, .ref 137), (1, JL z10), (3, J k), (4, J (i + 1))]) [(5, J 1)] (by simp) ?_
              exact ih17  z10 (i + 1)  (cM_st (i := i) (t := u1) (z := z2) (by omega) j0 (by omega) (by omega) (by rw [gn]; omega) hxz10 (by omega)) (by omega) (by omega) (by omega) (by omega) (by omega)
      refine T.go 2 (fun n9 => (rfl : _ = exe ξ n9 (d + 1) j_M_sumOfMade 8 [(0, .ref 137), (1, JL u), (3, J k)] [.ref 137, J k] σ)) ?_
      refine T.get rfl rfl rfl hM.ob rfl ?_
      refine T.icmp_ge rfl rfl (by omega) (by omega) (fun c3 => ?_) (fun c3 => ?_)
      · refine T.go 1 (fun n9 => (rfl : _ = exe ξ n9 (d + 1) j_M_sumOfMade 80 [(0, .ref 137), (1, JL u), (3, J k)] [JL u] σ)) ?_
        refine T.go 1 (fun n9 => (rfl : _ = exe ξ n9 (d + 1) j_M_sumOfMade 83 [(0, .ref 137), (1, JL u), (3, J k)] [JL 4294967295, JL u] σ)) ?_
        refine T.lxorn rfl (by omega) (by omega) (fun z11 hzz11 hyz11 hxz11 => ?_)
        have e9 := hxz11
        rw [i0, show (4294967295 : Int).toNat = 4294967295 from rfl, xor32 (by omega)] at e9
        exact T.lret rfl rfl ⟨_, rfl, rfl, by omega, by omega, (by rw [show md.toNat = k.toNat by omega]; omega)⟩
      · refine T.go 2 (fun n9 => (rfl : _ = exe ξ n9 (d + 1) j_M_sumOfMade 17 [(0, .ref 137), (1, JL u), (3, J k), (4, J 0)] [] σ)) ?_
        exact loop17 _ u 0  (by rw [i0]; rfl) (by omega) (by omega) (by omega) (by omega) (Nat.lt_succ_self _)
  refine T.go 4 (fun n9 => (rfl : _ = exe ξ n9 (d + 1) j_M_sumOfMade 6 [(0, .ref 137), (1, JL 4294967295), (3, J 0)] [] σ)) ?_
  exact loop6 _ 4294967295 0  rfl (by omega) (by omega) (by omega) (Nat.lt_succ_self _)
