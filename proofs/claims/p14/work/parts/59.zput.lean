/-! A byte put, told. -/
set_option maxHeartbeats 4000000 in
theorem s_M_fput {ξ : Nat → Option (Nat × List Int32)} {c io mo fa pl ns rw en wy wh bi ed sz md bd li wk we : Int} {Lc : List Int64} {la lm ln lh ld lk lt : List Int32} (d : Nat) (x : Int) (y : Int) (u : Int) (σ : qH) (hM : MS σ c io mo fa pl ns rw en wy wh bi ed sz md bd li wk we Lc la lm ln lh ld lk lt) (rx : -2147483648 ≤ x ∧ x ≤ 2147483647) (ry : -2147483648 ≤ y ∧ y ≤ 2147483647) (ru : -2147483648 ≤ u ∧ u ≤ 2147483647) (pre0 : 0 ≤ x) (pre1 : 0 ≤ y) (pre2 : y < 8000) (pre3 : x ≤ 6) : T ξ d j_M_put 0 (lv_args 0 [.ref 137, J x, J y, J u]) [] σ (fun v σ' => ∃ (Lc1 : List Int64), v = none ∧ MS σ' c io mo fa pl ns rw en wy wh bi ed sz md bd li wk we Lc1 la lm ln lh ld lk lt ∧ FM σ σ' ∧ RG [x] Lc Lc1 ∧ gc Lc1 x = updG (gc Lc x) y (u % 256)) := by
  have r0 := hM.rg
  have n0 := hM.len
  refine T.go 2 (fun n9 => (rfl : _ = exe ξ n9 d j_M_put 4 [(0, .ref 137), (1, J x), (2, J y), (3, J u)] [J x, J 1000] σ)) ?_
  refine T.imul rfl ?_
  refine T.go 2 (fun n9 => (rfl : _ = exe ξ n9 d j_M_put 8 [(0, .ref 137), (1, J x), (2, J y), (3, J u)] [J 8, J y, J (1000 * x)] σ)) ?_
  refine T.idivc (c := 8) rfl (by decide) (by omega) ?_
  refine T.iadd rfl ?_
  refine T.go 4 (fun n9 => (rfl : _ = exe ξ n9 d j_M_put 17 [(0, .ref 137), (1, J x), (2, J y), (3, J u), (4, J ((1000 * x) + (y / 8)))] [J 8, J y, J 8] σ)) ?_
  refine T.iremc (c := 8) rfl (by decide) (by omega) ?_
  refine T.imul rfl ?_
  refine T.go 2 (fun n9 => (rfl : _ = exe ξ n9 d j_M_put 22 [(0, .ref 137), (1, J x), (2, J y), (3, J u), (4, J ((1000 * x) + (y / 8))), (5, J (8 * (y % 8)))] [.ref 137] σ)) ?_
  refine T.get rfl rfl rfl hM.ob rfl ?_
  refine T.go 2 (fun n9 => (rfl : _ = exe ξ n9 d j_M_put 28 [(0, .ref 137), (1, J x), (2, J y), (3, J u), (4, J ((1000 * x) + (y / 8))), (5, J (8 * (y % 8)))] [.ref 137, J ((1000 * x) + (y / 8)), .ref 138] σ)) ?_
  refine T.get rfl rfl rfl hM.ob rfl ?_
  refine T.go 1 (fun n9 => (rfl : _ = exe ξ n9 d j_M_put 33 [(0, .ref 137), (1, J x), (2, J y), (3, J u), (4, J ((1000 * x) + (y / 8))), (5, J (8 * (y % 8)))] [J ((1000 * x) + (y / 8)), .ref 138, J ((1000 * x) + (y / 8)), .ref 138] σ)) ?_
  refine T.lald rfl hM.c138 (by omega) (fun z3 hzz3 hyz3 hez3 => ?_)
  refine T.go 2 (fun n9 => (rfl : _ = exe ξ n9 d j_M_put 39 [(0, .ref 137), (1, J x), (2, J y), (3, J u), (4, J ((1000 * x) + (y / 8))), (5, J (8 * (y % 8)))] [J (8 * (y % 8)), JL 255, JL z3, J ((1000 * x) + (y / 8)), .ref 138] σ)) ?_
  refine T.some2 rfl rfl (fun z4 hzz4 hyz4 hez4 => ?_)
  refine T.go 1 (fun n9 => (rfl : _ = exe ξ n9 d j_M_put 43 [(0, .ref 137), (1, J x), (2, J y), (3, J u), (4, J ((1000 * x) + (y / 8))), (5, J (8 * (y % 8)))] [JL (-1), JL z4, JL z3, J ((1000 * x) + (y / 8)), .ref 138] σ)) ?_
  refine T.some2 rfl rfl (fun z5 hzz5 hyz5 hez5 => ?_)
  refine T.some2 rfl rfl (fun z6 hzz6 hyz6 hez6 => ?_)
  refine T.go 1 (fun n9 => (rfl : _ = exe ξ n9 d j_M_put 46 [(0, .ref 137), (1, J x), (2, J y), (3, J u), (4, J ((1000 * x) + (y / 8))), (5, J (8 * (y % 8)))] [J u, JL z6, J ((1000 * x) + (y / 8)), .ref 138] σ)) ?_
  refine T.i2l rfl (by omega) ?_
  refine T.go 1 (fun n9 => (rfl : _ = exe ξ n9 d j_M_put 50 [(0, .ref 137), (1, J x), (2, J y), (3, J u), (4, J ((1000 * x) + (y / 8))), (5, J (8 * (y % 8)))] [JL 255, JL u, JL z6, J ((1000 * x) + (y / 8)), .ref 138] σ)) ?_
  refine T.some2 rfl rfl (fun z7 hzz7 hyz7 hez7 => ?_)
  refine T.go 1 (fun n9 => (rfl : _ = exe ξ n9 d j_M_put 53 [(0, .ref 137), (1, J x), (2, J y), (3, J u), (4, J ((1000 * x) + (y / 8))), (5, J (8 * (y % 8)))] [J (8 * (y % 8)), JL z7, JL z6, J ((1000 * x) + (y / 8)), .ref 138] σ)) ?_
  refine T.some2 rfl rfl (fun z8 hzz8 hyz8 hez8 => ?_)
  refine T.some2 rfl rfl (fun z9 hzz9 hyz9 hez9 => ?_)
  refine T.mlast hM rfl (by omega) (fun s1 ms1 fs1 => ?_)
  have ns1 := ms1.len
  have hs := sh64 (m := 8 * (y % 8)) (by omega)
  rw [show (8 * (y % 8)).toNat = 8 * (y % 8).toNat by omega] at hs
  have hV : (Int64.ofInt z9).toBitVec = ((Lc.getD (1000 * x + y / 8).toNat 0).toBitVec &&& ((255#64 <<< (8 * (y % 8).toNat)) ^^^ BitVec.allOnes 64)) ||| (((Int64.ofInt u).toBitVec &&& 255#64) <<< (8 * (y % 8).toNat)) := by
    rw [← hez9, Int64.toBitVec_or, ← hez6, Int64.toBitVec_and, ← hez5, Int64.toBitVec_xor, ← hez4, shl64 _ _ hs, ← hez8, shl64 _ _ hs, ← hez7, Int64.toBitVec_and, hez3]
    rfl
  exact T.vret rfl rfl ⟨(Lc.set ((1000 * x) + (y / 8) : Int).toNat (Int64.ofInt z9)), rfl, ms1, fs1, ((AG.refl (A := Lc)).set (by omega) (by omega)).rg, gc_put (by omega) (by omega) (by omega) hV⟩
