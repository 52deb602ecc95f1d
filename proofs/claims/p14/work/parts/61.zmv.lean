/-! The model: the next sign. -/
set_option maxHeartbeats 4000000 in
theorem s_M_fsign {ξ : Nat → Option (Nat × List Int32)} {c io mo fa pl ns rw en wy wh bi ed sz md bd li wk we : Int} {Lc : List Int64} {la lm ln lh ld lk lt : List Int32} (d : Nat) (x : Int) (y : Int) (σ : qH) (hM : MS σ c io mo fa pl ns rw en wy wh bi ed sz md bd li wk we Lc la lm ln lh ld lk lt) (rx : -2147483648 ≤ x ∧ x ≤ 2147483647) (ry : -2147483648 ≤ y ∧ y ≤ 2147483647) (pre0 : 0 ≤ bi) (pre1 : bi ≤ ed) (pre2 : ed ≤ 64000) (pre3 : ed % 8 = 0) (pre4 : 0 ≤ x) (pre5 : 0 ≤ y) (pre6 : x + y ≤ 360) (pre7 : bd = 0) : T ξ (d + 2) j_M_sign 0 (lv_args 0 [.ref 137, J x, J y]) [] σ (fun v σ' => ∃ (z : Int) (bi1 : Int) (bd1 : Int), v = some (J z) ∧ MS σ' c io mo fa pl ns rw en wy wh bi1 ed sz md bd1 li wk we Lc la lm ln lh ld lk lt ∧ FM σ σ' ∧ -1 ≤ z ∧ z ≤ 360 ∧ bi ≤ bi1 ∧ bi1 ≤ ed ∧ ((0 ≤ (SG (gc Lc rw) ed (lkf lk x) y.toNat 15 bi 0 0).1 ∧ z = (SG (gc Lc rw) ed (lkf lk x) y.toNat 15 bi 0 0).1 ∧ bi1 = (SG (gc Lc rw) ed (lkf lk x) y.toNat 15 bi 0 0).2 ∧ bd1 = 0) ∨ ((SG (gc Lc rw) ed (lkf lk x) y.toNat 15 bi 0 0).1 < 0 ∧ bd1 = 1))) := by
  have r0 := hM.rg
  have n0 := hM.len
  have e2_0 : P2 0 = 1 := by decide
  have e2_15 : P2 15 = 32768 := by decide
  have loop8 : ∀ (f8 : Nat) (w3 : Int) (f4 : Int) (k : Int) (bi9 : Int) (bd9 : Int) (τ : qH), MS τ c io mo fa pl ns rw en wy wh bi9 ed sz md bd9 li wk we Lc la lm ln lh ld lk lt → FM σ τ → bi ≤ bi9 → bi9 ≤ ed → 1 ≤ k → k ≤ 16 → (bd9 = 0 → SG (gc Lc rw) ed (lkf lk x) y.toNat (16 - k).toNat bi9 w3 f4 = SG (gc Lc rw) ed (lkf lk x) y.toNat 15 bi 0 0) → (bd9 = 1 → (SG (gc Lc rw) ed (lkf lk x) y.toNat 15 bi 0 0).1 < 0) → 0 ≤ f4 → f4 ≤ w3 → w3 < P2 (k - 1) → (16 - k).toNat < f8 → T ξ (d + 2) j_M_sign 8 [(0, .ref 137), (1, J x), (2, J y), (3, J w3), (4, J f4), (5, J k)] [] τ (fun v σ' => ∃ (z : Int) (bi1 : Int) (bd1 : Int), v = some (J z) ∧ MS σ' c io mo fa pl ns rw en wy wh bi1 ed sz md bd1 li wk we Lc la lm ln lh ld lk lt ∧ FM σ σ' ∧ -1 ≤ z ∧ z ≤ 360 ∧ bi ≤ bi1 ∧ bi1 ≤ ed ∧ ((0 ≤ (SG (gc Lc rw) ed (lkf lk x) y.toNat 15 bi 0 0).1 ∧ z = (SG (gc Lc rw) ed (lkf lk x) y.toNat 15 bi 0 0).1 ∧ bi1 = (SG (gc Lc rw) ed (lkf lk x) y.toNat 15 bi 0 0).2 ∧ bd1 = 0) ∨ ((SG (gc Lc rw) ed (lkf lk x) y.toNat 15 bi 0 0).1 < 0 ∧ bd1 = 1))) := by
    intro f8
    induction f8 with
    | zero => intro w3 f4 k bi9 bd9 τ mτ fτ i0 i1 i2 i3 i4 i5 i6 i7 i8 hm8; omega
    | succ f8 ih8 =>
      intro w3 f4 k bi9 bd9 τ mτ fτ i0 i1 i2 i3 i4 i5 i6 i7 i8 hm8
      have rτ := mτ.rg
      have nτ := mτ.len
      have ek := P2_le15 (k := k - 1) (by omega)
      have es := P2_s (k := k - 1) (by omega)
      rw [show k - 1 + 1 = k by omega] at es
      have eq : k + 1 - 1 = k := by omega
      refine T.go 2 (fun n9 => (rfl : _ = exe ξ n9 (d + 2) j_M_sign 12 [(0, .ref 137), (1, J x), (2, J y), (3, J w3), (4, J f4), (5, J k)] [J 16, J k] τ)) ?_
      refine T.icmp_ge rfl rfl (by omega) (by omega) (fun c1 => ?_) (fun c1 => ?_)
      · refine T.go 2 (fun n9 => (rfl : _ = exe ξ n9 (d + 2) j_M_sign 85 [(0, .ref 137), (1, J x), (2, J y), (3, J w3), (4, J f4), (5, J k)] [J 1, .ref 137] τ)) ?_
        refine T.mput (c' := c) (io' := io) (mo' := mo) (fa' := fa) (pl' := pl) (ns' := ns) (rw' := rw) (en' := en) (wy' := wy) (wh' := wh) (bi' := bi9) (ed' := ed) (sz' := sz) (md' := md) (bd' := 1) (li' := li) (wk' := wk) (we' := we) mτ rfl rfl rfl rfl rfl rfl (by omega) (fun s1 ms1 fs1 => ?_)
        have gs1 := fτ.trans fs1
        refine T.go 1 (fun n9 => (rfl : _ = exe ξ n9 (d + 2) j_M_sign 89 [(0, .ref 137), (1, J x), (2, J y), (3, J w3), (4, J f4), (5, J k)] [J (-1)] s1)) ?_
        exact T.ireti rfl rfl ⟨_, bi9, 1, rfl, ms1, gs1, by omega, by omega, by omega, by omega, (Or.inr ⟨by rcases (by omega : bd9 = 0 ∨ bd9 = 1) with h | h; (· exact SGm_end (Or.inr (by omega)) (i4 h)); (exact i5 h), by omega⟩)⟩
      · refine T.go 1 (fun n9 => (rfl : _ = exe ξ n9 (d + 2) j_M_sign 16 [(0, .ref 137), (1, J x), (2, J y), (3, J w3), (4, J f4), (5, J k)] [.ref 137] τ)) ?_
        refine T.get rfl rfl rfl mτ.ob rfl ?_
        refine T.if_ne rfl rfl (by omega) (fun c2 => ?_) (fun c2 => ?_)
        · refine T.go 2 (fun n9 => (rfl : _ = exe ξ n9 (d + 2) j_M_sign 85 [(0, .ref 137), (1, J x), (2, J y), (3, J w3), (4, J f4), (5, J k)] [J 1, .ref 137] τ)) ?_
          refine T.mput (c' := c) (io' := io) (mo' := mo) (fa' := fa) (pl' := pl) (ns' := ns) (rw' := rw) (en' := en) (wy' := wy) (wh' := wh) (bi' := bi9) (ed' := ed) (sz' := sz) (md' := md) (bd' := 1) (li' := li) (wk' := wk) (we' := we) mτ rfl rfl rfl rfl rfl rfl (by omega) (fun s2 ms2 fs2 => ?_)
          have gs2 := fτ.trans fs2
          refine T.go 1 (fun n9 => (rfl : _ = exe ξ n9 (d + 2) j_M_sign 89 [(0, .ref 137), (1, J x), (2, J y), (3, J w3), (4, J f4), (5, J k)] [J (-1)] s2)) ?_
          exact T.ireti rfl rfl ⟨_, bi9, 1, rfl, ms2, gs2, by omega, by omega, by omega, by omega, (Or.inr ⟨by rcases (by omega : bd9 = 0 ∨ bd9 = 1) with h | h; (· exact SGm_end (Or.inr (by omega)) (i4 h)); (exact i5 h), by omega⟩)⟩
        · refine T.go 2 (fun n9 => (rfl : _ = exe ξ n9 (d + 2) j_M_sign 24 [(0, .ref 137), (1, J x), (2, J y), (3, J w3), (4, J f4), (5, J k)] [J w3, J 2] τ)) ?_
          refine T.imul rfl ?_
          refine T.go 2 (fun n9 => (rfl : _ = exe ξ n9 (d + 2) j_M_sign 27 [(0, .ref 137), (1, J x), (2, J y), (3, J w3), (4, J f4), (5, J k)] [J 1, .ref 137, J (2 * w3)] τ)) ?_
          refine T.callv (as := [J 1]) (r := [J (2 * w3)]) rfl rfl rfl rfl mτ.ob rfl (s_M_ftake d 1 τ mτ (by omega) (by omega) (by omega) (by omega) (by omega) (by omega) (by omega)) (fun v1 s3 hqs3 => ?_)
          obtain ⟨z1, bi_1, bd_1, rfl, ms3, fs3, hzz1, hyz1, pz1_0, pz1_1, pz1_2⟩ := hqs3
          have ns3 := ms3.len
          have rs3 := ms3.rg
          have gs3 := fτ.trans fs3
          rw [show (1 : Int).toNat = 1 from rfl] at pz1_2
          rcases pz1_2 with ⟨taz1, tbz1, tcz1, tdz1, tez1⟩ | ⟨taz1, tbz1⟩
          · have fkz1 := taz1
            refine T.iadd rfl ?_
            refine T.go 3 (fun n9 => (rfl : _ = exe ξ n9 (d + 2) j_M_sign 35 [(0, .ref 137), (1, J x), (2, J y), (3, J ((2 * w3) + z1)), (4, J f4), (5, J k)] [J f4, J 2] s3)) ?_
            refine T.imul rfl ?_
            refine T.go 5 (fun n9 => (rfl : _ = exe ξ n9 (d + 2) j_M_sign 43 [(0, .ref 137), (1, J x), (2, J y), (3, J ((2 * w3) + z1)), (4, J (2 * f4)), (5, J k)] [J k, J y, J x, .ref 137] s3)) ?_
            refine T.callv (as := [J x, J y, J k]) (r := []) rfl rfl rfl rfl ms3.ob rfl (s_M_fmany (d + 1) x y k s3 ms3 (by omega) (by omega) (by omega) (by omega) (by omega) (by omega)) (fun v2 s4 hqs4 => ?_)
            obtain ⟨z2, rfl, esz2, hzz2, hyz2, pz2_0⟩ := hqs4
            rw [esz2]
            refine T.go 3 (fun n9 => (rfl : _ = exe ξ n9 (d + 2) j_M_sign 51 [(0, .ref 137), (1, J x), (2, J y), (3, J ((2 * w3) + z1)), (4, J (2 * f4)), (5, J k), (6, J z2)] [J (2 * f4), J ((2 * w3) + z1)] s3)) ?_
            refine T.isub rfl ?_
            refine T.go 1 (fun n9 => (rfl : _ = exe ξ n9 (d + 2) j_M_sign 54 [(0, .ref 137), (1, J x), (2, J y), (3, J ((2 * w3) + z1)), (4, J (2 * f4)), (5, J k), (6, J z2)] [J z2, J (((2 * w3) + z1) - (2 * f4))] s3)) ?_
            refine T.icmp_ge rfl rfl (by omega) (by omega) (fun c3 => ?_) (fun c3 => ?_)
            · refine T.go 2 (fun n9 => (rfl : _ = exe ξ n9 (d + 2) j_M_sign 74 [(0, .ref 137), (1, J x), (2, J y), (3, J ((2 * w3) + z1)), (4, J (2 * f4)), (5, J k), (6, J z2)] [J z2, J (2 * f4)] s3)) ?_
              refine T.iadd rfl ?_
              refine T.go 1 (fun n9 => (rfl : _ = exe ξ n9 (d + 2) j_M_sign 77 [(0, .ref 137), (1, J x), (2, J y), (3, J ((2 * w3) + z1)), (4, J ((2 * f4) + z2)), (5, J k), (6, J z2)] [] s3)) ?_
              refine T.iinc (lv' := [(0, .ref 137), (1, J x), (2, J y), (3, J ((2 * w3) + z1)), (4, J ((2 * f4) + z2)), (5, J (k + 1)), (6, J z2)]) rfl rfl rfl rfl ?_
              refine T.go 1 (fun n9 => (rfl : _ = exe ξ n9 (d + 2) j_M_sign 8 [(0, .ref 137), (1, J x), (2, J y), (3, J ((2 * w3) + z1)), (4, J ((2 * f4) + z2)), (5, J (k + 1)), (6, J z2)] [] s3)) ?_
              refine T.drop (lv := [(0, .ref 137), (1, J x), (2, J y), (3, J ((2 * w3) + z1)), (4, J ((2 * f4) + z2)), (5, J (k + 1))]) [(6, J z2)] (by simp) ?_
              have b1 := BV_1 (gc Lc rw) bi9
              have b2 := bt_r (gc Lc rw) bi9
              have eb : bt (gc Lc rw) bi9 = z1 := by omega
              have mis := SGm_miss (g := gc Lc rw) (e := ed) (b := bi9) (w := w3) (f := f4) (k := k) (L := lkf lk x) (m := y.toNat) (by omega) (by omega) (by rw [eb]; omega)
              rw [i4 (by omega), eb, ← pz2_0] at mis
              exact ih8  ((2 * w3) + z1) ((2 * f4) + z2) (k + 1) bi_1 bd_1 s3 ms3 gs3 (by omega) (by omega) (by omega) (by omega) (fun _ => by rw [show bi_1 = bi9 + 1 by omega]; exact mis.symm) (fun h => absurd h (by omega)) (by omega) (by omega) (by rw [eq]; omega) (by omega)
            · refine T.go 6 (fun n9 => (rfl : _ = exe ξ n9 (d + 2) j_M_sign 65 [(0, .ref 137), (1, J x), (2, J y), (3, J ((2 * w3) + z1)), (4, J (2 * f4)), (5, J k), (6, J z2)] [J (2 * f4), J ((2 * w3) + z1), J k, J y, J x, .ref 137] s3)) ?_
              refine T.isub rfl ?_
              refine T.callv (as := [J x, J y, J k, J (((2 * w3) + z1) - (2 * f4))]) (r := []) rfl rfl rfl rfl ms3.ob rfl (s_M_fpick (d + 1) x y k (((2 * w3) + z1) - (2 * f4)) s3 ms3 (by omega) (by omega) (by omega) (by omega) (by omega) (by omega) (by omega) (by omega) (by omega)) (fun v3 s5 hqs5 => ?_)
              obtain ⟨z3, rfl, esz3, hzz3, hyz3, pz3_0⟩ := hqs5
              rw [esz3]
              have b1 := BV_1 (gc Lc rw) bi9
              have b2 := bt_r (gc Lc rw) bi9
              have eb : bt (gc Lc rw) bi9 = z1 := by omega
              have hit := SGm_hit (g := gc Lc rw) (e := ed) (b := bi9) (w := w3) (f := f4) (k := k) (L := lkf lk x) (m := y.toNat) (by omega) (by omega) (by rw [eb]; omega)
              rw [i4 (by omega), eb] at hit
              have pks := PK_some (lkf lk x) k (2 * w3 + z1 - 2 * f4) y.toNat (by omega) (by omega)
              exact T.ireti rfl rfl ⟨_, bi_1, bd_1, rfl, ms3, gs3, by omega, by omega, by omega, by omega, (SGm_yes hit.symm (by omega) (by rw [pz3_0]) (by omega) (by omega))⟩
          · have fkz1 := taz1
            refine T.iadd rfl ?_
            refine T.go 3 (fun n9 => (rfl : _ = exe ξ n9 (d + 2) j_M_sign 35 [(0, .ref 137), (1, J x), (2, J y), (3, J ((2 * w3) + z1)), (4, J f4), (5, J k)] [J f4, J 2] s3)) ?_
            refine T.imul rfl ?_
            refine T.go 5 (fun n9 => (rfl : _ = exe ξ n9 (d + 2) j_M_sign 43 [(0, .ref 137), (1, J x), (2, J y), (3, J ((2 * w3) + z1)), (4, J (2 * f4)), (5, J k)] [J k, J y, J x, .ref 137] s3)) ?_
            refine T.callv (as := [J x, J y, J k]) (r := []) rfl rfl rfl rfl ms3.ob rfl (s_M_many (d + 1) x y k s3 ms3 (by omega) (by omega) (by omega) (by omega) (by omega) (by omega)) (fun v4 s6 hqs6 => ?_)
            obtain ⟨z4, rfl, esz4, hzz4, hyz4, pz4_0⟩ := hqs6
            rw [esz4]
            refine T.go 3 (fun n9 => (rfl : _ = exe ξ n9 (d + 2) j_M_sign 51 [(0, .ref 137), (1, J x), (2, J y), (3, J ((2 * w3) + z1)), (4, J (2 * f4)), (5, J k), (6, J z4)] [J (2 * f4), J ((2 * w3) + z1)] s3)) ?_
            refine T.isub rfl ?_
            refine T.go 1 (fun n9 => (rfl : _ = exe ξ n9 (d + 2) j_M_sign 54 [(0, .ref 137), (1, J x), (2, J y), (3, J ((2 * w3) + z1)), (4, J (2 * f4)), (5, J k), (6, J z4)] [J z4, J (((2 * w3) + z1) - (2 * f4))] s3)) ?_
            refine T.icmp_ge rfl rfl (by omega) (by omega) (fun c4 => ?_) (fun c4 => ?_)
            · refine T.go 2 (fun n9 => (rfl : _ = exe ξ n9 (d + 2) j_M_sign 74 [(0, .ref 137), (1, J x), (2, J y), (3, J ((2 * w3) + z1)), (4, J (2 * f4)), (5, J k), (6, J z4)] [J z4, J (2 * f4)] s3)) ?_
              refine T.iadd rfl ?_
              refine T.go 1 (fun n9 => (rfl : _ = exe ξ n9 (d + 2) j_M_sign 77 [(0, .ref 137), (1, J x), (2, J y), (3, J ((2 * w3) + z1)), (4, J ((2 * f4) + z4)), (5, J k), (6, J z4)] [] s3)) ?_
              refine T.iinc (lv' := [(0, .ref 137), (1, J x), (2, J y), (3, J ((2 * w3) + z1)), (4, J ((2 * f4) + z4)), (5, J (k + 1)), (6, J z4)]) rfl rfl rfl rfl ?_
              refine T.go 1 (fun n9 => (rfl : _ = exe ξ n9 (d + 2) j_M_sign 8 [(0, .ref 137), (1, J x), (2, J y), (3, J ((2 * w3) + z1)), (4, J ((2 * f4) + z4)), (5, J (k + 1)), (6, J z4)] [] s3)) ?_
              refine T.drop (lv := [(0, .ref 137), (1, J x), (2, J y), (3, J ((2 * w3) + z1)), (4, J ((2 * f4) + z4)), (5, J (k + 1))]) [(6, J z4)] (by simp) ?_
              exact ih8  ((2 * w3) + z1) ((2 * f4) + z4) (k + 1) bi_1 bd_1 s3 ms3 gs3 (by omega) (by omega) (by omega) (by omega) (fun h => absurd h (by omega)) (fun _ => SGm_end (Or.inl (by omega)) (i4 (by omega))) (by omega) (by omega) (by rw [eq]; omega) (by omega)
            · refine T.go 6 (fun n9 => (rfl : _ = exe ξ n9 (d + 2) j_M_sign 65 [(0, .ref 137), (1, J x), (2, J y), (3, J ((2 * w3) + z1)), (4, J (2 * f4)), (5, J k), (6, J z4)] [J (2 * f4), J ((2 * w3) + z1), J k, J y, J x, .ref 137] s3)) ?_
              refine T.isub rfl ?_
              refine T.callv (as := [J x, J y, J k, J (((2 * w3) + z1) - (2 * f4))]) (r := []) rfl rfl rfl rfl ms3.ob rfl (s_M_pick (d + 1) x y k (((2 * w3) + z1) - (2 * f4)) s3 ms3 (by omega) (by omega) (by omega) (by omega) (by omega) (by omega) (by omega) (by omega) (by omega)) (fun v5 s7 hqs7 => ?_)
              obtain ⟨z5, rfl, esz5, hzz5, hyz5, pz5_0⟩ := hqs7
              rw [esz5]
              exact T.ireti rfl rfl ⟨_, bi_1, bd_1, rfl, ms3, gs3, by omega, by omega, by omega, by omega, (Or.inr ⟨SGm_end (Or.inl (by omega)) (i4 (by omega)), by omega⟩)⟩
  refine T.go 6 (fun n9 => (rfl : _ = exe ξ n9 (d + 2) j_M_sign 8 [(0, .ref 137), (1, J x), (2, J y), (3, J 0), (4, J 0), (5, J 1)] [] σ)) ?_
  exact loop8 _ 0 0 1 bi bd σ hM FM.refl (by omega) (by omega) (by omega) (by omega) (fun _ => rfl) (fun h => absurd h (by omega)) (by omega) (by omega) (by show (0 : Int) < P2 0; omega) (Nat.lt_succ_self _)

set_option maxHeartbeats 4000000 in
theorem s_M_fstretched4 {ξ : Nat → Option (Nat × List Int32)} {c io mo fa pl ns rw en wy wh bi ed sz md bd li wk we : Int} {Lc : List Int64} {la lm ln lh ld lk lt : List Int32} (d : Nat) (x : Int) (σ : qH) (hM : MS σ c io mo fa pl ns rw en wy wh bi ed sz md bd li wk we Lc la lm ln lh ld lk lt) (rx : -2147483648 ≤ x ∧ x ≤ 2147483647) (pre0 : 0 ≤ bi) (pre1 : bi ≤ ed) (pre2 : ed ≤ 64000) (pre3 : ed % 8 = 0) (pre4 : 0 ≤ x) (pre5 : x ≤ 27) : T ξ (d + 2) j_M_stretched 0 (lv_args 0 [.ref 137, J x, J 4]) [] σ (fun v σ' => ∃ (z : Int) (bi1 : Int) (bd1 : Int), v = some (J z) ∧ MS σ' c io mo fa pl ns rw en wy wh bi1 ed sz md bd1 li wk we Lc la lm ln lh ld lk lt ∧ FM σ σ' ∧ 0 ≤ z ∧ z ≤ 65800000 ∧ bi ≤ bi1 ∧ bi1 ≤ ed ∧ ((bd = 0 ∧ bi + mor x 4 ≤ ed ∧ z = frm x 4 + BV (gc Lc rw) bi (mor x 4).toNat ∧ bi1 = bi + mor x 4 ∧ bd1 = 0) ∨ ((bd = 1 ∨ ed < bi + mor x 4) ∧ bd1 = 1))) := by
  have r0 := hM.rg
  have n0 := hM.len
  refine T.go 3 (fun n9 => (rfl : _ = exe ξ n9 (d + 2) j_M_stretched 3 [(0, .ref 137), (1, J x), (2, J 4)] [J 4, J 2, J x] σ)) ?_
  refine T.imul rfl ?_
  refine T.icmp_ge rfl rfl (by omega) (by omega) (fun c1 => ?_) (fun c1 => ?_)
  · refine T.go 2 (fun n9 => (rfl : _ = exe ξ n9 (d + 2) j_M_stretched 13 [(0, .ref 137), (1, J x), (2, J 4)] [J 4, J x] σ)) ?_
    refine T.idivc (c := 4) rfl (by decide) (by omega) ?_
    refine T.go 1 (fun n9 => (rfl : _ = exe ξ n9 (d + 2) j_M_stretched 15 [(0, .ref 137), (1, J x), (2, J 4)] [J 1, J (x / 4)] σ)) ?_
    refine T.isub rfl ?_
    refine T.go 4 (fun n9 => (rfl : _ = exe ξ n9 (d + 2) j_M_stretched 20 [(0, .ref 137), (1, J x), (2, J 4), (3, J ((x / 4) - 1))] [J 4, J 2, J x] σ)) ?_
    refine T.imul rfl ?_
    refine T.icmp_ge rfl rfl (by omega) (by omega) (fun c2 => ?_) (fun c2 => ?_)
    · refine T.go 3 (fun n9 => (rfl : _ = exe ξ n9 (d + 2) j_M_stretched 31 [(0, .ref 137), (1, J x), (2, J 4), (3, J ((x / 4) - 1))] [J 4, J x, J 4] σ)) ?_
      refine T.iremc (c := 4) rfl (by decide) (by omega) ?_
      refine T.iadd rfl ?_
      refine T.go 1 (fun n9 => (rfl : _ = exe ξ n9 (d + 2) j_M_stretched 34 [(0, .ref 137), (1, J x), (2, J 4), (3, J ((x / 4) - 1))] [J ((x / 4) - 1), J (4 + (x % 4))] σ)) ?_
      refine T.ishlq rfl (by omega) (by omega) (fun z3 hzz3 hyz3 hvz3 hwz3 huz3 => ?_)
      refine T.go 4 (fun n9 => (rfl : _ = exe ξ n9 (d + 2) j_M_stretched 41 [(0, .ref 137), (1, J x), (2, J 4), (3, J ((x / 4) - 1)), (4, J z3)] [J ((x / 4) - 1), .ref 137, J z3] σ)) ?_
      refine T.callv (as := [J ((x / 4) - 1)]) (r := [J z3]) rfl rfl rfl rfl hM.ob rfl (s_M_ftake d ((x / 4) - 1) σ hM (by omega) (by omega) (by omega) (by omega) (by omega) (by omega) (by omega)) (fun v1 s1 hqs1 => ?_)
      obtain ⟨z4, bi_1, bd_1, rfl, ms1, fs1, hzz4, hyz4, pz4_0, pz4_1, pz4_2⟩ := hqs1
      have ns1 := ms1.len
      have rs1 := ms1.rg
      refine T.iadd rfl ?_
      have em : mor x 4 = (x / 4) - 1 := by unfold mor; split <;> omega
      have ef : frm x 4 = z3 := by unfold frm; rw [if_neg (by omega), em]; exact hvz3.symm
      exact T.ireti rfl rfl ⟨_, bi_1, bd_1, rfl, ms1, fs1, by omega, by omega, by omega, by omega, (by rw [em, ef]; omega)⟩
    · refine T.go 6 (fun n9 => (rfl : _ = exe ξ n9 (d + 2) j_M_stretched 41 [(0, .ref 137), (1, J x), (2, J 4), (3, J ((x / 4) - 1)), (4, J x)] [J ((x / 4) - 1), .ref 137, J x] σ)) ?_
      refine T.callv (as := [J ((x / 4) - 1)]) (r := [J x]) rfl rfl rfl rfl hM.ob rfl (s_M_ftake d ((x / 4) - 1) σ hM (by omega) (by omega) (by omega) (by omega) (by omega) (by omega) (by omega)) (fun v2 s2 hqs2 => ?_)
      obtain ⟨z5, bi_2, bd_2, rfl, ms2, fs2, hzz5, hyz5, pz5_0, pz5_1, pz5_2⟩ := hqs2
      have ns2 := ms2.len
      have rs2 := ms2.rg
      refine T.iadd rfl ?_
      have em : mor x 4 = (x / 4) - 1 := by unfold mor; split <;> omega
      have ef : frm x 4 = x := by unfold frm; rw [if_pos (by omega)]
      exact T.ireti rfl rfl ⟨_, bi_2, bd_2, rfl, ms2, fs2, by omega, by omega, by omega, by omega, (by rw [em, ef]; omega)⟩
  · refine T.go 6 (fun n9 => (rfl : _ = exe ξ n9 (d + 2) j_M_stretched 20 [(0, .ref 137), (1, J x), (2, J 4), (3, J 0)] [J 4, J 2, J x] σ)) ?_
    refine T.imul rfl ?_
    refine T.icmp_ge rfl rfl (by omega) (by omega) (fun c3 => ?_) (fun c3 => ?_)
    · refine T.go 3 (fun n9 => (rfl : _ = exe ξ n9 (d + 2) j_M_stretched 31 [(0, .ref 137), (1, J x), (2, J 4), (3, J 0)] [J 4, J x, J 4] σ)) ?_
      refine T.iremc (c := 4) rfl (by decide) (by omega) ?_
      refine T.iadd rfl ?_
      refine T.go 1 (fun n9 => (rfl : _ = exe ξ n9 (d + 2) j_M_stretched 34 [(0, .ref 137), (1, J x), (2, J 4), (3, J 0)] [J 0, J (4 + (x % 4))] σ)) ?_
      refine T.ishlq rfl (by omega) (by omega) (fun z7 hzz7 hyz7 hvz7 hwz7 huz7 => ?_)
      refine T.go 4 (fun n9 => (rfl : _ = exe ξ n9 (d + 2) j_M_stretched 41 [(0, .ref 137), (1, J x), (2, J 4), (3, J 0), (4, J z7)] [J 0, .ref 137, J z7] σ)) ?_
      refine T.callv (as := [J 0]) (r := [J z7]) rfl rfl rfl rfl hM.ob rfl (s_M_ftake d 0 σ hM (by omega) (by omega) (by omega) (by omega) (by omega) (by omega) (by omega)) (fun v3 s3 hqs3 => ?_)
      obtain ⟨z8, bi_3, bd_3, rfl, ms3, fs3, hzz8, hyz8, pz8_0, pz8_1, pz8_2⟩ := hqs3
      have ns3 := ms3.len
      have rs3 := ms3.rg
      refine T.iadd rfl ?_
      have em : mor x 4 = 0 := by unfold mor; split <;> omega
      have ef : frm x 4 = z7 := by unfold frm; rw [if_neg (by omega), em]; exact hvz7.symm
      exact T.ireti rfl rfl ⟨_, bi_3, bd_3, rfl, ms3, fs3, by omega, by omega, by omega, by omega, (by rw [em, ef]; omega)⟩
    · refine T.go 6 (fun n9 => (rfl : _ = exe ξ n9 (d + 2) j_M_stretched 41 [(0, .ref 137), (1, J x), (2, J 4), (3, J 0), (4, J x)] [J 0, .ref 137, J x] σ)) ?_
      refine T.callv (as := [J 0]) (r := [J x]) rfl rfl rfl rfl hM.ob rfl (s_M_ftake d 0 σ hM (by omega) (by omega) (by omega) (by omega) (by omega) (by omega) (by omega)) (fun v4 s4 hqs4 => ?_)
      obtain ⟨z9, bi_4, bd_4, rfl, ms4, fs4, hzz9, hyz9, pz9_0, pz9_1, pz9_2⟩ := hqs4
      have ns4 := ms4.len
      have rs4 := ms4.rg
      refine T.iadd rfl ?_
      have em : mor x 4 = 0 := by unfold mor; split <;> omega
      have ef : frm x 4 = x := by unfold frm; rw [if_pos (by omega)]
      exact T.ireti rfl rfl ⟨_, bi_4, bd_4, rfl, ms4, fs4, by omega, by omega, by omega, by omega, (by rw [em, ef]; omega)⟩

set_option maxHeartbeats 4000000 in
theorem s_M_fstretched2 {ξ : Nat → Option (Nat × List Int32)} {c io mo fa pl ns rw en wy wh bi ed sz md bd li wk we : Int} {Lc : List Int64} {la lm ln lh ld lk lt : List Int32} (d : Nat) (x : Int) (σ : qH) (hM : MS σ c io mo fa pl ns rw en wy wh bi ed sz md bd li wk we Lc la lm ln lh ld lk lt) (rx : -2147483648 ≤ x ∧ x ≤ 2147483647) (pre0 : 0 ≤ bi) (pre1 : bi ≤ ed) (pre2 : ed ≤ 64000) (pre3 : ed % 8 = 0) (pre4 : 0 ≤ x) (pre5 : x ≤ 29) : T ξ (d + 2) j_M_stretched 0 (lv_args 0 [.ref 137, J x, J 2]) [] σ (fun v σ' => ∃ (z : Int) (bi1 : Int) (bd1 : Int), v = some (J z) ∧ MS σ' c io mo fa pl ns rw en wy wh bi1 ed sz md bd1 li wk we Lc la lm ln lh ld lk lt ∧ FM σ σ' ∧ 0 ≤ z ∧ z ≤ 65800000 ∧ bi ≤ bi1 ∧ bi1 ≤ ed ∧ ((bd = 0 ∧ bi + mor x 2 ≤ ed ∧ z = frm x 2 + BV (gc Lc rw) bi (mor x 2).toNat ∧ bi1 = bi + mor x 2 ∧ bd1 = 0) ∨ ((bd = 1 ∨ ed < bi + mor x 2) ∧ bd1 = 1))) := by
  have r0 := hM.rg
  have n0 := hM.len
  refine T.go 3 (fun n9 => (rfl : _ = exe ξ n9 (d + 2) j_M_stretched 3 [(0, .ref 137), (1, J x), (2, J 2)] [J 2, J 2, J x] σ)) ?_
  refine T.imul rfl ?_
  refine T.icmp_ge rfl rfl (by omega) (by omega) (fun c1 => ?_) (fun c1 => ?_)
  · refine T.go 2 (fun n9 => (rfl : _ = exe ξ n9 (d + 2) j_M_stretched 13 [(0, .ref 137), (1, J x), (2, J 2)] [J 2, J x] σ)) ?_
    refine T.idivc (c := 2) rfl (by decide) (by omega) ?_
    refine T.go 1 (fun n9 => (rfl : _ = exe ξ n9 (d + 2) j_M_stretched 15 [(0, .ref 137), (1, J x), (2, J 2)] [J 1, J (x / 2)] σ)) ?_
    refine T.isub rfl ?_
    refine T.go 4 (fun n9 => (rfl : _ = exe ξ n9 (d + 2) j_M_stretched 20 [(0, .ref 137), (1, J x), (2, J 2), (3, J ((x / 2) - 1))] [J 2, J 2, J x] σ)) ?_
    refine T.imul rfl ?_
    refine T.icmp_ge rfl rfl (by omega) (by omega) (fun c2 => ?_) (fun c2 => ?_)
    · refine T.go 3 (fun n9 => (rfl : _ = exe ξ n9 (d + 2) j_M_stretched 31 [(0, .ref 137), (1, J x), (2, J 2), (3, J ((x / 2) - 1))] [J 2, J x, J 2] σ)) ?_
      refine T.iremc (c := 2) rfl (by decide) (by omega) ?_
      refine T.iadd rfl ?_
      refine T.go 1 (fun n9 => (rfl : _ = exe ξ n9 (d + 2) j_M_stretched 34 [(0, .ref 137), (1, J x), (2, J 2), (3, J ((x / 2) - 1))] [J ((x / 2) - 1), J (2 + (x % 2))] σ)) ?_
      refine T.ishlq rfl (by omega) (by omega) (fun z3 hzz3 hyz3 hvz3 hwz3 huz3 => ?_)
      refine T.go 4 (fun n9 => (rfl : _ = exe ξ n9 (d + 2) j_M_stretched 41 [(0, .ref 137), (1, J x), (2, J 2), (3, J ((x / 2) - 1)), (4, J z3)] [J ((x / 2) - 1), .ref 137, J z3] σ)) ?_
      refine T.callv (as := [J ((x / 2) - 1)]) (r := [J z3]) rfl rfl rfl rfl hM.ob rfl (s_M_ftake d ((x / 2) - 1) σ hM (by omega) (by omega) (by omega) (by omega) (by omega) (by omega) (by omega)) (fun v1 s1 hqs1 => ?_)
      obtain ⟨z4, bi_1, bd_1, rfl, ms1, fs1, hzz4, hyz4, pz4_0, pz4_1, pz4_2⟩ := hqs1
      have ns1 := ms1.len
      have rs1 := ms1.rg
      refine T.iadd rfl ?_
      have em : mor x 2 = (x / 2) - 1 := by unfold mor; split <;> omega
      have ef : frm x 2 = z3 := by unfold frm; rw [if_neg (by omega), em]; exact hvz3.symm
      exact T.ireti rfl rfl ⟨_, bi_1, bd_1, rfl, ms1, fs1, by omega, by omega, by omega, by omega, (by rw [em, ef]; omega)⟩
    · refine T.go 6 (fun n9 => (rfl : _ = exe ξ n9 (d + 2) j_M_stretched 41 [(0, .ref 137), (1, J x), (2, J 2), (3, J ((x / 2) - 1)), (4, J x)] [J ((x / 2) - 1), .ref 137, J x] σ)) ?_
      refine T.callv (as := [J ((x / 2) - 1)]) (r := [J x]) rfl rfl rfl rfl hM.ob rfl (s_M_ftake d ((x / 2) - 1) σ hM (by omega) (by omega) (by omega) (by omega) (by omega) (by omega) (by omega)) (fun v2 s2 hqs2 => ?_)
      obtain ⟨z5, bi_2, bd_2, rfl, ms2, fs2, hzz5, hyz5, pz5_0, pz5_1, pz5_2⟩ := hqs2
      have ns2 := ms2.len
      have rs2 := ms2.rg
      refine T.iadd rfl ?_
      have em : mor x 2 = (x / 2) - 1 := by unfold mor; split <;> omega
      have ef : frm x 2 = x := by unfold frm; rw [if_pos (by omega)]
      exact T.ireti rfl rfl ⟨_, bi_2, bd_2, rfl, ms2, fs2, by omega, by omega, by omega, by omega, (by rw [em, ef]; omega)⟩
  · refine T.go 6 (fun n9 => (rfl : _ = exe ξ n9 (d + 2) j_M_stretched 20 [(0, .ref 137), (1, J x), (2, J 2), (3, J 0)] [J 2, J 2, J x] σ)) ?_
    refine T.imul rfl ?_
    refine T.icmp_ge rfl rfl (by omega) (by omega) (fun c3 => ?_) (fun c3 => ?_)
    · refine T.go 3 (fun n9 => (rfl : _ = exe ξ n9 (d + 2) j_M_stretched 31 [(0, .ref 137), (1, J x), (2, J 2), (3, J 0)] [J 2, J x, J 2] σ)) ?_
      refine T.iremc (c := 2) rfl (by decide) (by omega) ?_
      refine T.iadd rfl ?_
      refine T.go 1 (fun n9 => (rfl : _ = exe ξ n9 (d + 2) j_M_stretched 34 [(0, .ref 137), (1, J x), (2, J 2), (3, J 0)] [J 0, J (2 + (x % 2))] σ)) ?_
      refine T.ishlq rfl (by omega) (by omega) (fun z7 hzz7 hyz7 hvz7 hwz7 huz7 => ?_)
      refine T.go 4 (fun n9 => (rfl : _ = exe ξ n9 (d + 2) j_M_stretched 41 [(0, .ref 137), (1, J x), (2, J 2), (3, J 0), (4, J z7)] [J 0, .ref 137, J z7] σ)) ?_
      refine T.callv (as := [J 0]) (r := [J z7]) rfl rfl rfl rfl hM.ob rfl (s_M_ftake d 0 σ hM (by omega) (by omega) (by omega) (by omega) (by omega) (by omega) (by omega)) (fun v3 s3 hqs3 => ?_)
      obtain ⟨z8, bi_3, bd_3, rfl, ms3, fs3, hzz8, hyz8, pz8_0, pz8_1, pz8_2⟩ := hqs3
      have ns3 := ms3.len
      have rs3 := ms3.rg
      refine T.iadd rfl ?_
      have em : mor x 2 = 0 := by unfold mor; split <;> omega
      have ef : frm x 2 = z7 := by unfold frm; rw [if_neg (by omega), em]; exact hvz7.symm
      exact T.ireti rfl rfl ⟨_, bi_3, bd_3, rfl, ms3, fs3, by omega, by omega, by omega, by omega, (by rw [em, ef]; omega)⟩
    · refine T.go 6 (fun n9 => (rfl : _ = exe ξ n9 (d + 2) j_M_stretched 41 [(0, .ref 137), (1, J x), (2, J 2), (3, J 0), (4, J x)] [J 0, .ref 137, J x] σ)) ?_
      refine T.callv (as := [J 0]) (r := [J x]) rfl rfl rfl rfl hM.ob rfl (s_M_ftake d 0 σ hM (by omega) (by omega) (by omega) (by omega) (by omega) (by omega) (by omega)) (fun v4 s4 hqs4 => ?_)
      obtain ⟨z9, bi_4, bd_4, rfl, ms4, fs4, hzz9, hyz9, pz9_0, pz9_1, pz9_2⟩ := hqs4
      have ns4 := ms4.len
      have rs4 := ms4.rg
      refine T.iadd rfl ?_
      have em : mor x 2 = 0 := by unfold mor; split <;> omega
      have ef : frm x 2 = x := by unfold frm; rw [if_pos (by omega)]
      exact T.ireti rfl rfl ⟨_, bi_4, bd_4, rfl, ms4, fs4, by omega, by omega, by omega, by omega, (by rw [em, ef]; omega)⟩
