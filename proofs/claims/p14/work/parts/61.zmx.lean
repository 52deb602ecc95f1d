/-! The model: codes. -/
set_option maxHeartbeats 4000000 in
theorem s_M_ffixedCodes {ξ : Nat → Option (Nat × List Int32)} {c io mo fa pl ns rw en wy wh bi ed sz md bd li wk we : Int} {Lc : List Int64} {la lm ln lh ld lk lt : List Int32} (d : Nat)  (σ : qH) (hM : MS σ c io mo fa pl ns rw en wy wh bi ed sz md bd li wk we Lc la lm ln lh ld lk lt)  : T ξ d j_M_fixedCodes 0 (lv_args 0 [.ref 137]) [] σ (fun v σ' => ∃ (lk1 : List Int32), v = none ∧ MS σ' c io mo fa pl ns rw en wy wh bi ed sz md bd li wk we Lc la lm ln lh ld lk1 lt ∧ FM σ σ' ∧ (∀ j : Int, 0 ≤ j → j < 288 → gl lk1 j = fixA j) ∧ (∀ j : Int, 0 ≤ j → j < 32 → gl lk1 (300 + j) = 5)) := by
  have r0 := hM.rg
  have n0 := hM.len
  have loop61 : ∀ (f61 : Nat) (k : Int) (lk9 : List Int32) (τ : qH), MS τ c io mo fa pl ns rw en wy wh bi ed sz md bd li wk we Lc la lm ln lh ld lk9 lt → FM σ τ → 0 ≤ k → k ≤ 32 → (∀ j : Int, 0 ≤ j → j < 288 → gl lk9 j = fixA j) → (∀ j : Int, 0 ≤ j → j < k → gl lk9 (300 + j) = 5) → (32 - k).toNat < f61 → T ξ d j_M_fixedCodes 61 [(0, .ref 137), (1, J k)] [] τ (fun v σ' => ∃ (lk1 : List Int32), v = none ∧ MS σ' c io mo fa pl ns rw en wy wh bi ed sz md bd li wk we Lc la lm ln lh ld lk1 lt ∧ FM σ σ' ∧ (∀ j : Int, 0 ≤ j → j < 288 → gl lk1 j = fixA j) ∧ (∀ j : Int, 0 ≤ j → j < 32 → gl lk1 (300 + j) = 5)) := by
    intro f61
    induction f61 with
    | zero => intro k lk9 τ mτ fτ i0 i1 i2 i3 hm61; omega
    | succ f61 ih61 =>
      intro k lk9 τ mτ fτ i0 i1 i2 i3 hm61
      have rτ := mτ.rg
      have nτ := mτ.len
      refine T.go 2 (fun n9 => (rfl : _ = exe ξ n9 d j_M_fixedCodes 64 [(0, .ref 137), (1, J k)] [J 32, J k] τ)) ?_
      refine T.icmp_ge rfl rfl (by omega) (by omega) (fun c1 => ?_) (fun c1 => ?_)
      · exact T.vret rfl rfl ⟨lk9, rfl, mτ, fτ, i2, (fun j a b => i3 j a (by omega))⟩
      · refine T.go 1 (fun n9 => (rfl : _ = exe ξ n9 d j_M_fixedCodes 68 [(0, .ref 137), (1, J k)] [.ref 137] τ)) ?_
        refine T.get rfl rfl rfl mτ.ob rfl ?_
        refine T.go 2 (fun n9 => (rfl : _ = exe ξ n9 d j_M_fixedCodes 75 [(0, .ref 137), (1, J k)] [J k, J 300, .ref 144] τ)) ?_
        refine T.iadd rfl ?_
        refine T.go 1 (fun n9 => (rfl : _ = exe ξ n9 d j_M_fixedCodes 77 [(0, .ref 137), (1, J k)] [J 5, J (300 + k), .ref 144] τ)) ?_
        refine T.mast144 mτ rfl (by omega) (fun s1 ms1 fs1 => ?_)
        have ns1 := ms1.len
        have gs1 := fτ.trans fs1
        have gss1 : ∀ j : Int, 0 ≤ j → gl (lk9.set (300 + k : Int).toNat (Int32.ofInt 5)) j = if j = 300 + k then 5 else gl lk9 j := fun j hj => gl_set ⟨by omega, by omega⟩ ⟨by omega, by omega⟩ hj
        have ges1 : gl (lk9.set (300 + k : Int).toNat (Int32.ofInt 5)) (300 + k) = 5 := (gss1 (300 + k) (by omega)).trans (if_pos rfl)
        refine T.iinc (lv' := [(0, .ref 137), (1, J (k + 1))]) rfl rfl rfl rfl ?_
        refine T.go 1 (fun n9 => (rfl : _ = exe ξ n9 d j_M_fixedCodes 61 [(0, .ref 137), (1, J (k + 1))] [] s1)) ?_
        exact ih61  (k + 1) (lk9.set (300 + k : Int).toNat (Int32.ofInt 5)) s1 ms1 gs1 (by omega) (by omega) (fun j a b => ((gss1 j a).trans (if_neg (by omega))).trans (i2 j a b)) (fun j a b => if q : j = k then (by rw [q]; exact ges1) else ((gss1 (300 + j) (by omega)).trans (if_neg (by omega))).trans (i3 j a (by omega))) (by omega)
  have loop2 : ∀ (f2 : Nat) (k : Int) (lk9 : List Int32) (τ : qH), MS τ c io mo fa pl ns rw en wy wh bi ed sz md bd li wk we Lc la lm ln lh ld lk9 lt → FM σ τ → 0 ≤ k → k ≤ 288 → (∀ j : Int, 0 ≤ j → j < k → gl lk9 j = fixA j) → (288 - k).toNat < f2 → T ξ d j_M_fixedCodes 2 [(0, .ref 137), (1, J k)] [] τ (fun v σ' => ∃ (lk1 : List Int32), v = none ∧ MS σ' c io mo fa pl ns rw en wy wh bi ed sz md bd li wk we Lc la lm ln lh ld lk1 lt ∧ FM σ σ' ∧ (∀ j : Int, 0 ≤ j → j < 288 → gl lk1 j = fixA j) ∧ (∀ j : Int, 0 ≤ j → j < 32 → gl lk1 (300 + j) = 5)) := by
    intro f2
    induction f2 with
    | zero => intro k lk9 τ mτ fτ i0 i1 i2 hm2; omega
    | succ f2 ih2 =>
      intro k lk9 τ mτ fτ i0 i1 i2 hm2
      have rτ := mτ.rg
      have nτ := mτ.len
      refine T.go 2 (fun n9 => (rfl : _ = exe ξ n9 d j_M_fixedCodes 6 [(0, .ref 137), (1, J k)] [J 288, J k] τ)) ?_
      refine T.icmp_ge rfl rfl (by omega) (by omega) (fun c2 => ?_) (fun c2 => ?_)
      · refine T.go 2 (fun n9 => (rfl : _ = exe ξ n9 d j_M_fixedCodes 61 [(0, .ref 137), (1, J 0)] [] τ)) ?_
        exact loop61 _ 0 lk9 τ mτ fτ (by omega) (by omega) (fun j a b => i2 j a (by omega)) (fun j a b => absurd b (by omega)) (Nat.lt_succ_self _)
      · refine T.go 1 (fun n9 => (rfl : _ = exe ξ n9 d j_M_fixedCodes 10 [(0, .ref 137), (1, J k)] [.ref 137] τ)) ?_
        refine T.get rfl rfl rfl mτ.ob rfl ?_
        refine T.go 3 (fun n9 => (rfl : _ = exe ξ n9 d j_M_fixedCodes 18 [(0, .ref 137), (1, J k)] [J 144, J k, J k, .ref 144] τ)) ?_
        refine T.icmp_ge rfl rfl (by omega) (by omega) (fun c3 => ?_) (fun c3 => ?_)
        · refine T.go 2 (fun n9 => (rfl : _ = exe ξ n9 d j_M_fixedCodes 30 [(0, .ref 137), (1, J k)] [J 256, J k, J k, .ref 144] τ)) ?_
          refine T.icmp_ge rfl rfl (by omega) (by omega) (fun c4 => ?_) (fun c4 => ?_)
          · refine T.go 2 (fun n9 => (rfl : _ = exe ξ n9 d j_M_fixedCodes 42 [(0, .ref 137), (1, J k)] [J 280, J k, J k, .ref 144] τ)) ?_
            refine T.icmp_ge rfl rfl (by omega) (by omega) (fun c5 => ?_) (fun c5 => ?_)
            · refine T.go 1 (fun n9 => (rfl : _ = exe ξ n9 d j_M_fixedCodes 52 [(0, .ref 137), (1, J k)] [J 8, J k, .ref 144] τ)) ?_
              refine T.mast144 mτ rfl (by omega) (fun s2 ms2 fs2 => ?_)
              have ns2 := ms2.len
              have gs2 := fτ.trans fs2
              have gss2 : ∀ j : Int, 0 ≤ j → gl (lk9.set (k : Int).toNat (Int32.ofInt 8)) j = if j = k then 8 else gl lk9 j := fun j hj => gl_set ⟨by omega, by omega⟩ ⟨by omega, by omega⟩ hj
              have ges2 : gl (lk9.set (k : Int).toNat (Int32.ofInt 8)) k = 8 := (gss2 k (by omega)).trans (if_pos rfl)
              refine T.iinc (lv' := [(0, .ref 137), (1, J (k + 1))]) rfl rfl rfl rfl ?_
              refine T.go 1 (fun n9 => (rfl : _ = exe ξ n9 d j_M_fixedCodes 2 [(0, .ref 137), (1, J (k + 1))] [] s2)) ?_
              exact ih2  (k + 1) (lk9.set (k : Int).toNat (Int32.ofInt 8)) s2 ms2 gs2 (by omega) (by omega) (fun j a b => if q : j = k then (by rw [q, ges2]; unfold fixA; first | (rw [if_pos (by omega)]) | (rw [if_neg (by omega), if_pos (by omega)]) | (rw [if_neg (by omega), if_neg (by omega), if_pos (by omega)]) | (rw [if_neg (by omega), if_neg (by omega), if_neg (by omega)])) else ((gss2 j a).trans (if_neg q)).trans (i2 j a (by omega))) (by omega)
            · refine T.go 2 (fun n9 => (rfl : _ = exe ξ n9 d j_M_fixedCodes 52 [(0, .ref 137), (1, J k)] [J 7, J k, .ref 144] τ)) ?_
              refine T.mast144 mτ rfl (by omega) (fun s3 ms3 fs3 => ?_)
              have ns3 := ms3.len
              have gs3 := fτ.trans fs3
              have gss3 : ∀ j : Int, 0 ≤ j → gl (lk9.set (k : Int).toNat (Int32.ofInt 7)) j = if j = k then 7 else gl lk9 j := fun j hj => gl_set ⟨by omega, by omega⟩ ⟨by omega, by omega⟩ hj
              have ges3 : gl (lk9.set (k : Int).toNat (Int32.ofInt 7)) k = 7 := (gss3 k (by omega)).trans (if_pos rfl)
              refine T.iinc (lv' := [(0, .ref 137), (1, J (k + 1))]) rfl rfl rfl rfl ?_
              refine T.go 1 (fun n9 => (rfl : _ = exe ξ n9 d j_M_fixedCodes 2 [(0, .ref 137), (1, J (k + 1))] [] s3)) ?_
              exact ih2  (k + 1) (lk9.set (k : Int).toNat (Int32.ofInt 7)) s3 ms3 gs3 (by omega) (by omega) (fun j a b => if q : j = k then (by rw [q, ges3]; unfold fixA; first | (rw [if_pos (by omega)]) | (rw [if_neg (by omega), if_pos (by omega)]) | (rw [if_neg (by omega), if_neg (by omega), if_pos (by omega)]) | (rw [if_neg (by omega), if_neg (by omega), if_neg (by omega)])) else ((gss3 j a).trans (if_neg q)).trans (i2 j a (by omega))) (by omega)
          · refine T.go 2 (fun n9 => (rfl : _ = exe ξ n9 d j_M_fixedCodes 52 [(0, .ref 137), (1, J k)] [J 9, J k, .ref 144] τ)) ?_
            refine T.mast144 mτ rfl (by omega) (fun s4 ms4 fs4 => ?_)
            have ns4 := ms4.len
            have gs4 := fτ.trans fs4
            have gss4 : ∀ j : Int, 0 ≤ j → gl (lk9.set (k : Int).toNat (Int32.ofInt 9)) j = if j = k then 9 else gl lk9 j := fun j hj => gl_set ⟨by omega, by omega⟩ ⟨by omega, by omega⟩ hj
            have ges4 : gl (lk9.set (k : Int).toNat (Int32.ofInt 9)) k = 9 := (gss4 k (by omega)).trans (if_pos rfl)
            refine T.iinc (lv' := [(0, .ref 137), (1, J (k + 1))]) rfl rfl rfl rfl ?_
            refine T.go 1 (fun n9 => (rfl : _ = exe ξ n9 d j_M_fixedCodes 2 [(0, .ref 137), (1, J (k + 1))] [] s4)) ?_
            exact ih2  (k + 1) (lk9.set (k : Int).toNat (Int32.ofInt 9)) s4 ms4 gs4 (by omega) (by omega) (fun j a b => if q : j = k then (by rw [q, ges4]; unfold fixA; first | (rw [if_pos (by omega)]) | (rw [if_neg (by omega), if_pos (by omega)]) | (rw [if_neg (by omega), if_neg (by omega), if_pos (by omega)]) | (rw [if_neg (by omega), if_neg (by omega), if_neg (by omega)])) else ((gss4 j a).trans (if_neg q)).trans (i2 j a (by omega))) (by omega)
        · refine T.go 2 (fun n9 => (rfl : _ = exe ξ n9 d j_M_fixedCodes 52 [(0, .ref 137), (1, J k)] [J 8, J k, .ref 144] τ)) ?_
          refine T.mast144 mτ rfl (by omega) (fun s5 ms5 fs5 => ?_)
          have ns5 := ms5.len
          have gs5 := fτ.trans fs5
          have gss5 : ∀ j : Int, 0 ≤ j → gl (lk9.set (k : Int).toNat (Int32.ofInt 8)) j = if j = k then 8 else gl lk9 j := fun j hj => gl_set ⟨by omega, by omega⟩ ⟨by omega, by omega⟩ hj
          have ges5 : gl (lk9.set (k : Int).toNat (Int32.ofInt 8)) k = 8 := (gss5 k (by omega)).trans (if_pos rfl)
          refine T.iinc (lv' := [(0, .ref 137), (1, J (k + 1))]) rfl rfl rfl rfl ?_
          refine T.go 1 (fun n9 => (rfl : _ = exe ξ n9 d j_M_fixedCodes 2 [(0, .ref 137), (1, J (k + 1))] [] s5)) ?_
          exact ih2  (k + 1) (lk9.set (k : Int).toNat (Int32.ofInt 8)) s5 ms5 gs5 (by omega) (by omega) (fun j a b => if q : j = k then (by rw [q, ges5]; unfold fixA; first | (rw [if_pos (by omega)]) | (rw [if_neg (by omega), if_pos (by omega)]) | (rw [if_neg (by omega), if_neg (by omega), if_pos (by omega)]) | (rw [if_neg (by omega), if_neg (by omega), if_neg (by omega)])) else ((gss5 j a).trans (if_neg q)).trans (i2 j a (by omega))) (by omega)
  refine T.go 2 (fun n9 => (rfl : _ = exe ξ n9 d j_M_fixedCodes 2 [(0, .ref 137), (1, J 0)] [] σ)) ?_
  exact loop2 _ 0 lk σ hM FM.refl (by omega) (by omega) (fun j a b => absurd b (by omega)) (Nat.lt_succ_self _)

set_option maxHeartbeats 4000000 in
theorem s_M_forderOf {ξ : Nat → Option (Nat × List Int32)} (d : Nat) (x : Int) (σ : qH) (rx : -2147483648 ≤ x ∧ x ≤ 2147483647) (pre0 : 0 ≤ x) (pre1 : x ≤ 18) : T ξ d j_M_orderOf 0 (lv_args 0 [J x]) [] σ (fun v σ' => ∃ (z : Int), v = some (J z) ∧ σ' = σ ∧ 0 ≤ z ∧ z ≤ 18 ∧ z = ordQ x) := by
  refine T.go 2 (fun n9 => (rfl : _ = exe ξ n9 d j_M_orderOf 2 [(0, J x)] [J 3, J x] σ)) ?_
  refine T.icmp_ge rfl rfl (by omega) (by omega) (fun c1 => ?_) (fun c1 => ?_)
  · refine T.go 2 (fun n9 => (rfl : _ = exe ξ n9 d j_M_orderOf 12 [(0, J x)] [J 3, J x] σ)) ?_
    refine T.icmp_ne rfl rfl (by omega) (by omega) (fun c2 => ?_) (fun c2 => ?_)
    · refine T.go 2 (fun n9 => (rfl : _ = exe ξ n9 d j_M_orderOf 19 [(0, J x)] [J 3, J x] σ)) ?_
      refine T.isub rfl ?_
      refine T.go 1 (fun n9 => (rfl : _ = exe ξ n9 d j_M_orderOf 21 [(0, J x)] [J 2, J (x - 3)] σ)) ?_
      refine T.idivc (c := 2) rfl (by decide) (by omega) ?_
      refine T.go 3 (fun n9 => (rfl : _ = exe ξ n9 d j_M_orderOf 25 [(0, J x), (1, J ((x - 3) / 2))] [J 2, J x] σ)) ?_
      refine T.iremc (c := 2) rfl (by decide) (by omega) ?_
      refine T.if_ne rfl rfl (by omega) (fun c3 => ?_) (fun c3 => ?_)
      · refine T.go 2 (fun n9 => (rfl : _ = exe ξ n9 d j_M_orderOf 43 [(0, J x), (1, J ((x - 3) / 2))] [J ((x - 3) / 2), J 8] σ)) ?_
        refine T.isub rfl ?_
        exact T.ireti rfl rfl ⟨_, rfl, rfl, by omega, by omega, (by unfold ordQ; first | (rw [if_pos (by omega)]) | (rw [if_neg (by omega), if_pos (by omega)]) | (rw [if_neg (by omega), if_neg (by omega), if_pos (by omega)]) | (rw [if_neg (by omega), if_neg (by omega), if_neg (by omega)]))⟩
      · refine T.go 3 (fun n9 => (rfl : _ = exe ξ n9 d j_M_orderOf 33 [(0, J x), (1, J ((x - 3) / 2))] [J 4, J x, J 8] σ)) ?_
        refine T.isub rfl ?_
        refine T.go 1 (fun n9 => (rfl : _ = exe ξ n9 d j_M_orderOf 35 [(0, J x), (1, J ((x - 3) / 2))] [J 2, J (x - 4), J 8] σ)) ?_
        refine T.idivc (c := 2) rfl (by decide) (by omega) ?_
        refine T.iadd rfl ?_
        refine T.go 1 (fun n9 => (rfl : _ = exe ξ n9 d j_M_orderOf 44 [(0, J x), (1, J ((x - 3) / 2))] [J (8 + ((x - 4) / 2))] σ)) ?_
        exact T.ireti rfl rfl ⟨_, rfl, rfl, by omega, by omega, (by unfold ordQ; first | (rw [if_pos (by omega)]) | (rw [if_neg (by omega), if_pos (by omega)]) | (rw [if_neg (by omega), if_neg (by omega), if_pos (by omega)]) | (rw [if_neg (by omega), if_neg (by omega), if_neg (by omega)]))⟩
    · refine T.go 1 (fun n9 => (rfl : _ = exe ξ n9 d j_M_orderOf 16 [(0, J x)] [J 0] σ)) ?_
      exact T.ireti rfl rfl ⟨_, rfl, rfl, by omega, by omega, (by unfold ordQ; first | (rw [if_pos (by omega)]) | (rw [if_neg (by omega), if_pos (by omega)]) | (rw [if_neg (by omega), if_neg (by omega), if_pos (by omega)]) | (rw [if_neg (by omega), if_neg (by omega), if_neg (by omega)]))⟩
  · refine T.go 2 (fun n9 => (rfl : _ = exe ξ n9 d j_M_orderOf 8 [(0, J x)] [J x, J 16] σ)) ?_
    refine T.iadd rfl ?_
    exact T.ireti rfl rfl ⟨_, rfl, rfl, by omega, by omega, (by unfold ordQ; first | (rw [if_pos (by omega)]) | (rw [if_neg (by omega), if_pos (by omega)]) | (rw [if_neg (by omega), if_neg (by omega), if_pos (by omega)]) | (rw [if_neg (by omega), if_neg (by omega), if_neg (by omega)]))⟩

set_option maxHeartbeats 4000000 in
theorem s_M_ftoldCodes {ξ : Nat → Option (Nat × List Int32)} {c io mo fa pl ns rw en wy wh bi ed sz md bd li wk we : Int} {Lc : List Int64} {la lm ln lh ld lk lt : List Int32} (d : Nat) (x : Int) (y : Int) (σ : qH) (hM : MS σ c io mo fa pl ns rw en wy wh bi ed sz md bd li wk we Lc la lm ln lh ld lk lt) (rx : -2147483648 ≤ x ∧ x ≤ 2147483647) (ry : -2147483648 ≤ y ∧ y ≤ 2147483647) (pre0 : 0 ≤ bi) (pre1 : bi ≤ ed) (pre2 : ed ≤ 64000) (pre3 : ed % 8 = 0) (pre4 : 257 ≤ x) (pre5 : x ≤ 286) (pre6 : 1 ≤ y) (pre7 : y ≤ 30) (pre8 : bd = 0) : T ξ (d + 3) j_M_toldCodes 0 (lv_args 0 [.ref 137, J x, J y]) [] σ (fun v σ' => ∃ (bi1 : Int) (bd1 : Int) (lk1 : List Int32), v = none ∧ MS σ' c io mo fa pl ns rw en wy wh bi1 ed sz md bd1 li wk we Lc la lm ln lh ld lk1 lt ∧ FM σ σ' ∧ bi ≤ bi1 ∧ bi1 ≤ ed ∧ ((bd1 = 0 ∧ TG (gc Lc rw) ed (x + y) bi ∧ bi1 = (TT (gc Lc rw) ed (x + y) bi).2.1 ∧ (∀ j : Int, 0 ≤ j → j < x → gl lk1 j = (TT (gc Lc rw) ed (x + y) bi).2.2 j) ∧ (∀ j : Int, 0 ≤ j → j < y → gl lk1 (300 + j) = (TT (gc Lc rw) ed (x + y) bi).2.2 (x + j))) ∨ (bd1 = 1 ∧ ¬ TG (gc Lc rw) ed (x + y) bi))) := by
  have r0 := hM.rg
  have n0 := hM.len
  have bvr := BV_r (gc Lc rw) bi 4
  have bvp : P2 ((4 : Nat) : Int) = 16 := by decide
  have e2_2 : P2 2 = 4 := by decide
  have e2_3 : P2 3 = 8 := by decide
  have e2_4 : P2 4 = 16 := by decide
  have e2_7 : P2 7 = 128 := by decide
  have loop104 : ∀ (f104 : Nat) (n : Int) (a : Int) (l5 : Int) (bi9 : Int) (bd9 : Int) (lk9 : List Int32) (τ : qH), MS τ c io mo fa pl ns rw en wy wh bi9 ed sz md bd9 li wk we Lc la lm ln lh ld lk9 lt → FM σ τ → 0 ≤ a → a ≤ x + y → -1 ≤ l5 → l5 ≤ 100 → bi ≤ bi9 → bi9 ≤ ed → (bd9 = 0 → bi + 4 ≤ ed ∧ bi + 4 + 3 * (4 + BV (gc Lc rw) bi 4) ≤ ed) → (bd9 = 0 → OKQ (TC (gc Lc rw) bi) 19) → (bd9 = 0 → TL (gc Lc rw) ed (TC (gc Lc rw) bi) (x + y) (x + y - a).toNat a bi9 (gw2 lk9 x a) = TT (gc Lc rw) ed (x + y) bi) → (bd9 = 1 → ¬ TG (gc Lc rw) ed (x + y) bi) → (bd9 = 0 → (a = 0 ∧ l5 = -1) ∨ (1 ≤ a ∧ 0 ≤ l5 ∧ l5 = gw2 lk9 x a (a - 1))) → (bd9 = 0 → ∀ j : Int, 0 ≤ j → j < 19 → gl lk9 (340 + j) = TC (gc Lc rw) bi j) → (x + y - a + 1 - bd9).toNat < f104 → T ξ (d + 3) j_M_toldCodes 104 [(0, .ref 137), (1, J x), (2, J y), (3, J n), (4, J a), (5, J l5)] [] τ (fun v σ' => ∃ (bi1 : Int) (bd1 : Int) (lk1 : List Int32), v = none ∧ MS σ' c io mo fa pl ns rw en wy wh bi1 ed sz md bd1 li wk we Lc la lm ln lh ld lk1 lt ∧ FM σ σ' ∧ bi ≤ bi1 ∧ bi1 ≤ ed ∧ ((bd1 = 0 ∧ TG (gc Lc rw) ed (x + y) bi ∧ bi1 = (TT (gc Lc rw) ed (x + y) bi).2.1 ∧ (∀ j : Int, 0 ≤ j → j < x → gl lk1 j = (TT (gc Lc rw) ed (x + y) bi).2.2 j) ∧ (∀ j : Int, 0 ≤ j → j < y → gl lk1 (300 + j) = (TT (gc Lc rw) ed (x + y) bi).2.2 (x + j))) ∨ (bd1 = 1 ∧ ¬ TG (gc Lc rw) ed (x + y) bi))) := by
    intro f104
    induction f104 with
    | zero => intro n a l5 bi9 bd9 lk9 τ mτ fτ i0 i1 i2 i3 i4 i5 i6 i7 i8 i9 i10 i11 hm104; omega
    | succ f104 ih104 =>
      intro n a l5 bi9 bd9 lk9 τ mτ fτ i0 i1 i2 i3 i4 i5 i6 i7 i8 i9 i10 i11 hm104
      have rτ := mτ.rg
      have nτ := mτ.len
      have loop248 : ∀ (f248 : Nat) (a4 : Int) (s6 : Int) (t7 : Int) (v8 : Int) (k9 : Int) (bi8 : Int) (bd8 : Int) (lk8 : List Int32) (τ1 : qH), MS τ1 c io mo fa pl ns rw en wy wh bi8 ed sz md bd8 li wk we Lc la lm ln lh ld lk8 lt → FM σ τ1 → 0 ≤ a4 → a4 ≤ x + y → -1 ≤ v8 → v8 ≤ 100 → 0 ≤ k9 → k9 ≤ t7 → 1 ≤ t7 → t7 ≤ 200 → bd9 = 0 → a < x + y → a ≤ a4 → (bd8 = 0 → a4 = a + k9 ∧ a + t7 ≤ x + y ∧ 0 ≤ v8) → (bd8 = 0 → ∀ j : Int, 0 ≤ j → j < 19 → gl lk8 (340 + j) = TC (gc Lc rw) bi j) → (bd8 = 0 → gw2 lk8 x a4 = FILL (gw2 lk9 x a) a k9 v8) → (bd8 = 0 → TL (gc Lc rw) ed (TC (gc Lc rw) bi) (x + y) (x + y - (a + t7)).toNat (a + t7) bi8 (FILL (gw2 lk9 x a) a t7 v8) = TT (gc Lc rw) ed (x + y) bi) → (bd8 = 1 → ¬ TG (gc Lc rw) ed (x + y) bi) → bi ≤ bi8 → bi8 ≤ ed → (t7 - k9).toNat < f248 → T ξ (d + 3) j_M_toldCodes 248 [(0, .ref 137), (1, J x), (2, J y), (3, J n), (4, J a4), (5, J l5), (6, J s6), (7, J t7), (8, J v8), (9, J k9)] [] τ1 (fun v σ' => ∃ (bi1 : Int) (bd1 : Int) (lk1 : List Int32), v = none ∧ MS σ' c io mo fa pl ns rw en wy wh bi1 ed sz md bd1 li wk we Lc la lm ln lh ld lk1 lt ∧ FM σ σ' ∧ bi ≤ bi1 ∧ bi1 ≤ ed ∧ ((bd1 = 0 ∧ TG (gc Lc rw) ed (x + y) bi ∧ bi1 = (TT (gc Lc rw) ed (x + y) bi).2.1 ∧ (∀ j : Int, 0 ≤ j → j < x → gl lk1 j = (TT (gc Lc rw) ed (x + y) bi).2.2 j) ∧ (∀ j : Int, 0 ≤ j → j < y → gl lk1 (300 + j) = (TT (gc Lc rw) ed (x + y) bi).2.2 (x + j))) ∨ (bd1 = 1 ∧ ¬ TG (gc Lc rw) ed (x + y) bi))) := by
        intro f248
        induction f248 with
        | zero => intro a4 s6 t7 v8 k9 bi8 bd8 lk8 τ1 mτ1 fτ1 j0 j1 j2 j3 j4 j5 j6 j7 j8 j9 j10 j11 j12 j13 j14 j15 j16 j17 hm248; omega
        | succ f248 ih248 =>
          intro a4 s6 t7 v8 k9 bi8 bd8 lk8 τ1 mτ1 fτ1 j0 j1 j2 j3 j4 j5 j6 j7 j8 j9 j10 j11 j12 j13 j14 j15 j16 j17 hm248
          have rτ1 := mτ1.rg
          have nτ1 := mτ1.len
          refine T.go 2 (fun n9 => (rfl : _ = exe ξ n9 (d + 3) j_M_toldCodes 252 [(0, .ref 137), (1, J x), (2, J y), (3, J n), (4, J a4), (5, J l5), (6, J s6), (7, J t7), (8, J v8), (9, J k9)] [J t7, J k9] τ1)) ?_
          refine T.icmp_ge rfl rfl (by omega) (by omega) (fun c1 => ?_) (fun c1 => ?_)
          · refine T.go 3 (fun n9 => (rfl : _ = exe ξ n9 (d + 3) j_M_toldCodes 104 [(0, .ref 137), (1, J x), (2, J y), (3, J n), (4, J a4), (5, J v8), (6, J s6), (7, J t7), (8, J v8), (9, J k9)] [] τ1)) ?_
            refine T.drop (lv := [(0, .ref 137), (1, J x), (2, J y), (3, J n), (4, J a4), (5, J v8)]) [(6, J s6), (7, J t7), (8, J v8), (9, J k9)] (by simp) ?_
            exact ih104  n a4 v8 bi8 bd8 lk8 τ1 mτ1 fτ1 (by omega) (by omega) (by omega) (by omega) (by omega) (by omega) (by omega) (fun h => i7 (by omega)) (fun h => by have h1 := j13 h; have h2 := j11 h; have h3 := j14 h; rw [show k9 = t7 by omega] at h1; rw [show a4 = a + t7 by omega] at h1 ⊢; rw [h1]; exact h3) j15 (fun h => Or.inr ⟨by omega, by have h2 := j11 h; omega, by have h1 := j13 h; have h2 := j11 h; rw [h1]; unfold FILL; rw [if_pos (by omega)]⟩) j12 (by omega)
          · refine T.go 1 (fun n9 => (rfl : _ = exe ξ n9 (d + 3) j_M_toldCodes 256 [(0, .ref 137), (1, J x), (2, J y), (3, J n), (4, J a4), (5, J l5), (6, J s6), (7, J t7), (8, J v8), (9, J k9)] [.ref 137] τ1)) ?_
            refine T.get rfl rfl rfl mτ1.ob rfl ?_
            refine T.if_ne rfl rfl (by omega) (fun c2 => ?_) (fun c2 => ?_)
            · refine T.go 3 (fun n9 => (rfl : _ = exe ξ n9 (d + 3) j_M_toldCodes 104 [(0, .ref 137), (1, J x), (2, J y), (3, J n), (4, J a4), (5, J v8), (6, J s6), (7, J t7), (8, J v8), (9, J k9)] [] τ1)) ?_
              refine T.drop (lv := [(0, .ref 137), (1, J x), (2, J y), (3, J n), (4, J a4), (5, J v8)]) [(6, J s6), (7, J t7), (8, J v8), (9, J k9)] (by simp) ?_
              exact ih104  n a4 v8 bi8 bd8 lk8 τ1 mτ1 fτ1 (by omega) (by omega) (by omega) (by omega) (by omega) (by omega) (by omega) (fun h => i7 (by omega)) (fun h => by have h1 := j13 h; have h2 := j11 h; have h3 := j14 h; rw [show k9 = t7 by omega] at h1; rw [show a4 = a + t7 by omega] at h1 ⊢; rw [h1]; exact h3) j15 (fun h => Or.inr ⟨by omega, by have h2 := j11 h; omega, by have h1 := j13 h; have h2 := j11 h; rw [h1]; unfold FILL; rw [if_pos (by omega)]⟩) j12 (by omega)
            · refine T.go 1 (fun n9 => (rfl : _ = exe ξ n9 (d + 3) j_M_toldCodes 263 [(0, .ref 137), (1, J x), (2, J y), (3, J n), (4, J a4), (5, J l5), (6, J s6), (7, J t7), (8, J v8), (9, J k9)] [.ref 137] τ1)) ?_
              refine T.get rfl rfl rfl mτ1.ob rfl ?_
              refine T.go 2 (fun n9 => (rfl : _ = exe ξ n9 (d + 3) j_M_toldCodes 269 [(0, .ref 137), (1, J x), (2, J y), (3, J n), (4, J a4), (5, J l5), (6, J s6), (7, J t7), (8, J v8), (9, J k9)] [J x, J a4, .ref 144] τ1)) ?_
              refine T.icmp_ge rfl rfl (by omega) (by omega) (fun c3 => ?_) (fun c3 => ?_)
              · refine T.go 2 (fun n9 => (rfl : _ = exe ξ n9 (d + 3) j_M_toldCodes 282 [(0, .ref 137), (1, J x), (2, J y), (3, J n), (4, J a4), (5, J l5), (6, J s6), (7, J t7), (8, J v8), (9, J k9)] [J a4, J 300, .ref 144] τ1)) ?_
                refine T.iadd rfl ?_
                refine T.go 1 (fun n9 => (rfl : _ = exe ξ n9 (d + 3) j_M_toldCodes 284 [(0, .ref 137), (1, J x), (2, J y), (3, J n), (4, J a4), (5, J l5), (6, J s6), (7, J t7), (8, J v8), (9, J k9)] [J x, J (300 + a4), .ref 144] τ1)) ?_
                refine T.isub rfl ?_
                refine T.go 1 (fun n9 => (rfl : _ = exe ξ n9 (d + 3) j_M_toldCodes 287 [(0, .ref 137), (1, J x), (2, J y), (3, J n), (4, J a4), (5, J l5), (6, J s6), (7, J t7), (8, J v8), (9, J k9)] [J v8, J ((300 + a4) - x), .ref 144] τ1)) ?_
                refine T.mast144 mτ1 rfl (by omega) (fun s1 ms1 fs1 => ?_)
                have ns1 := ms1.len
                have gs1 := fτ1.trans fs1
                have gss1 : ∀ j : Int, 0 ≤ j → gl (lk8.set ((300 + a4) - x : Int).toNat (Int32.ofInt v8)) j = if j = (300 + a4) - x then v8 else gl lk8 j := fun j hj => gl_set ⟨by omega, by omega⟩ ⟨by omega, by omega⟩ hj
                have ges1 : gl (lk8.set ((300 + a4) - x : Int).toNat (Int32.ofInt v8)) ((300 + a4) - x) = v8 := (gss1 ((300 + a4) - x) (by omega)).trans (if_pos rfl)
                refine T.iinc (lv' := [(0, .ref 137), (1, J x), (2, J y), (3, J n), (4, J (a4 + 1)), (5, J l5), (6, J s6), (7, J t7), (8, J v8), (9, J k9)]) rfl rfl rfl rfl ?_
                refine T.iinc (lv' := [(0, .ref 137), (1, J x), (2, J y), (3, J n), (4, J (a4 + 1)), (5, J l5), (6, J s6), (7, J t7), (8, J v8), (9, J (k9 + 1))]) rfl rfl rfl rfl ?_
                refine T.go 1 (fun n9 => (rfl : _ = exe ξ n9 (d + 3) j_M_toldCodes 248 [(0, .ref 137), (1, J x), (2, J y), (3, J n), (4, J (a4 + 1)), (5, J l5), (6, J s6), (7, J t7), (8, J v8), (9, J (k9 + 1))] [] s1)) ?_
                exact ih248  (a4 + 1) s6 t7 v8 (k9 + 1) bi8 bd8 (lk8.set ((300 + a4) - x : Int).toNat (Int32.ofInt v8)) s1 ms1 gs1 (by omega) (by omega) (by omega) (by omega) (by omega) (by omega) (by omega) (by omega) (by omega) (by omega) (by omega) (by omega) (fun h j a b => ((gss1 (340 + j) (by omega)).trans (if_neg (by omega))).trans (j12 (by omega) j a b)) (fun h => by have h1 := j11 (by omega); rw [gw2_put gss1 (by omega) (by omega) (by omega), FILL_step (by omega), j13 (by omega), show a4 = a + k9 by omega]) (fun h => j14 (by omega)) j15 (by omega) (by omega) (by omega)
              · refine T.go 3 (fun n9 => (rfl : _ = exe ξ n9 (d + 3) j_M_toldCodes 287 [(0, .ref 137), (1, J x), (2, J y), (3, J n), (4, J a4), (5, J l5), (6, J s6), (7, J t7), (8, J v8), (9, J k9)] [J v8, J a4, .ref 144] τ1)) ?_
                refine T.mast144 mτ1 rfl (by omega) (fun s2 ms2 fs2 => ?_)
                have ns2 := ms2.len
                have gs2 := fτ1.trans fs2
                have gss2 : ∀ j : Int, 0 ≤ j → gl (lk8.set (a4 : Int).toNat (Int32.ofInt v8)) j = if j = a4 then v8 else gl lk8 j := fun j hj => gl_set ⟨by omega, by omega⟩ ⟨by omega, by omega⟩ hj
                have ges2 : gl (lk8.set (a4 : Int).toNat (Int32.ofInt v8)) a4 = v8 := (gss2 a4 (by omega)).trans (if_pos rfl)
                refine T.iinc (lv' := [(0, .ref 137), (1, J x), (2, J y), (3, J n), (4, J (a4 + 1)), (5, J l5), (6, J s6), (7, J t7), (8, J v8), (9, J k9)]) rfl rfl rfl rfl ?_
                refine T.iinc (lv' := [(0, .ref 137), (1, J x), (2, J y), (3, J n), (4, J (a4 + 1)), (5, J l5), (6, J s6), (7, J t7), (8, J v8), (9, J (k9 + 1))]) rfl rfl rfl rfl ?_
                refine T.go 1 (fun n9 => (rfl : _ = exe ξ n9 (d + 3) j_M_toldCodes 248 [(0, .ref 137), (1, J x), (2, J y), (3, J n), (4, J (a4 + 1)), (5, J l5), (6, J s6), (7, J t7), (8, J v8), (9, J (k9 + 1))] [] s2)) ?_
                exact ih248  (a4 + 1) s6 t7 v8 (k9 + 1) bi8 bd8 (lk8.set (a4 : Int).toNat (Int32.ofInt v8)) s2 ms2 gs2 (by omega) (by omega) (by omega) (by omega) (by omega) (by omega) (by omega) (by omega) (by omega) (by omega) (by omega) (by omega) (fun h j a b => ((gss2 (340 + j) (by omega)).trans (if_neg (by omega))).trans (j12 (by omega) j a b)) (fun h => by have h1 := j11 (by omega); rw [gw2_put gss2 (by omega) (by omega) (by omega), FILL_step (by omega), j13 (by omega), show a4 = a + k9 by omega]) (fun h => j14 (by omega)) j15 (by omega) (by omega) (by omega)
      refine T.go 3 (fun n9 => (rfl : _ = exe ξ n9 (d + 3) j_M_toldCodes 108 [(0, .ref 137), (1, J x), (2, J y), (3, J n), (4, J a), (5, J l5)] [J y, J x, J a] τ)) ?_
      refine T.iadd rfl ?_
      refine T.icmp_ge rfl rfl (by omega) (by omega) (fun c4 => ?_) (fun c4 => ?_)
      · exact T.vret rfl rfl ⟨bi9, bd9, lk9, rfl, mτ, fτ, by omega, by omega, (by rcases (by omega : bd9 = 0 ∨ bd9 = 1) with h | h; (· have h8 := i8 h; have h6 := i6 h; rw [TL_end (by omega)] at h8; refine Or.inl ⟨h, ⟨h6.1, h6.2, i7 h, by rw [← h8]; exact decide_eq_true (by omega)⟩, by rw [← h8], fun j a9 b => ?_, fun j a9 b => ?_⟩; (· rw [← h8]; show _ = gw2 lk9 x a j; unfold gw2; rw [if_pos (by omega), if_pos b]); (rw [← h8]; show _ = gw2 lk9 x a (x + j); unfold gw2; rw [if_pos (by omega), if_neg (by omega), show 300 + (x + j) - x = 300 + j by omega])); (exact Or.inr ⟨h, i9 h⟩))⟩
      · refine T.go 1 (fun n9 => (rfl : _ = exe ξ n9 (d + 3) j_M_toldCodes 113 [(0, .ref 137), (1, J x), (2, J y), (3, J n), (4, J a), (5, J l5)] [.ref 137] τ)) ?_
        refine T.get rfl rfl rfl mτ.ob rfl ?_
        refine T.if_ne rfl rfl (by omega) (fun c5 => ?_) (fun c5 => ?_)
        · exact T.vret rfl rfl ⟨bi9, bd9, lk9, rfl, mτ, fτ, by omega, by omega, (by rcases (by omega : bd9 = 0 ∨ bd9 = 1) with h | h; (· have h8 := i8 h; have h6 := i6 h; rw [TL_end (by omega)] at h8; refine Or.inl ⟨h, ⟨h6.1, h6.2, i7 h, by rw [← h8]; exact decide_eq_true (by omega)⟩, by rw [← h8], fun j a9 b => ?_, fun j a9 b => ?_⟩; (· rw [← h8]; show _ = gw2 lk9 x a j; unfold gw2; rw [if_pos (by omega), if_pos b]); (rw [← h8]; show _ = gw2 lk9 x a (x + j); unfold gw2; rw [if_pos (by omega), if_neg (by omega), show 300 + (x + j) - x = 300 + j by omega])); (exact Or.inr ⟨h, i9 h⟩))⟩
        · refine T.go 3 (fun n9 => (rfl : _ = exe ξ n9 (d + 3) j_M_toldCodes 125 [(0, .ref 137), (1, J x), (2, J y), (3, J n), (4, J a), (5, J l5)] [J 19, J 340, .ref 137] τ)) ?_
          refine T.callv (as := [J 340, J 19]) (r := []) rfl rfl rfl rfl mτ.ob rfl (s_M_fsign d 340 19 τ mτ (by omega) (by omega) (by omega) (by omega) (by omega) (by omega) (by omega) (by omega) (by omega) (by omega)) (fun v1 s3 hqs3 => ?_)
          obtain ⟨z1, bi_1, bd_1, rfl, ms3, fs3, hzz1, hyz1, pz1_0, pz1_1, pz1_2⟩ := hqs3
          have ns3 := ms3.len
          have rs3 := ms3.rg
          have gs3 := fτ.trans fs3
          have sgc : SG (gc Lc rw) ed (lkf lk9 340) (19 : Int).toNat 15 bi9 0 0 = SG (gc Lc rw) ed (TC (gc Lc rw) bi) 19 15 bi9 0 0 := SG_congr (fun j a b => i11 (by omega) j a (by omega)) 15 bi9 0 0
          rw [sgc] at pz1_2
          obtain ⟨W9, hW9⟩ : ∃ W, SG (gc Lc rw) ed (TC (gc Lc rw) bi) 19 15 bi9 0 0 = W := ⟨_, rfl⟩
          rw [hW9] at pz1_2
          have rW9 := SG_r (g := gc Lc rw) (e := ed) (L := TC (gc Lc rw) bi) (n := 19) 15 bi9 0 0 (Int.le_refl _)
          rw [hW9] at rW9
          rcases pz1_2 with ⟨taz1, tbz1, tcz1, tdz1⟩ | ⟨taz1, tbz1⟩
          · subst tbz1
            refine T.go 3 (fun n9 => (rfl : _ = exe ξ n9 (d + 3) j_M_toldCodes 134 [(0, .ref 137), (1, J x), (2, J y), (3, J n), (4, J a), (5, J l5), (6, J (W9.1))] [J 16, J (W9.1)] s3)) ?_
            refine T.icmp_ge rfl rfl (by omega) (by omega) (fun c6 => ?_) (fun c6 => ?_)
            · refine T.go 2 (fun n9 => (rfl : _ = exe ξ n9 (d + 3) j_M_toldCodes 145 [(0, .ref 137), (1, J x), (2, J y), (3, J n), (4, J a), (5, J l5), (6, J (W9.1))] [J 16, J (W9.1)] s3)) ?_
              refine T.icmp_ne rfl rfl (by omega) (by omega) (fun c7 => ?_) (fun c7 => ?_)
              · refine T.go 2 (fun n9 => (rfl : _ = exe ξ n9 (d + 3) j_M_toldCodes 162 [(0, .ref 137), (1, J x), (2, J y), (3, J n), (4, J a), (5, J l5), (6, J (W9.1))] [J 17, J (W9.1)] s3)) ?_
                refine T.icmp_ne rfl rfl (by omega) (by omega) (fun c8 => ?_) (fun c8 => ?_)
                · refine T.go 3 (fun n9 => (rfl : _ = exe ξ n9 (d + 3) j_M_toldCodes 180 [(0, .ref 137), (1, J x), (2, J y), (3, J n), (4, J a), (5, J l5), (6, J (W9.1))] [J 7, .ref 137, J 11] s3)) ?_
                  refine T.callv (as := [J 7]) (r := [J 11]) rfl rfl rfl rfl ms3.ob rfl (s_M_ftake (d + 1) 7 s3 ms3 (by omega) (by omega) (by omega) (by omega) (by omega) (by omega) (by omega)) (fun v2 s4 hqs4 => ?_)
                  obtain ⟨z2, bi_2, bd_2, rfl, ms4, fs4, hzz2, hyz2, pz2_0, pz2_1, pz2_2⟩ := hqs4
                  have ns4 := ms4.len
                  have rs4 := ms4.rg
                  have gs4 := gs3.trans fs4
                  rw [show (7 : Int).toNat = 7 from rfl] at pz2_2
                  rcases pz2_2 with ⟨taz2, tbz2, tcz2, tdz2, tez2⟩ | ⟨taz2, tbz2⟩
                  · rw [show bi_1 = W9.2 by omega] at tcz2
                    have bvrz2 := BV_r (gc Lc rw) W9.2 7
                    have bvpz2 : P2 ((7 : Nat) : Int) = 128 := by decide
                    refine T.iadd rfl ?_
                    refine T.go 3 (fun n9 => (rfl : _ = exe ξ n9 (d + 3) j_M_toldCodes 190 [(0, .ref 137), (1, J x), (2, J y), (3, J n), (4, J a), (5, J l5), (6, J (W9.1)), (7, J (11 + z2))] [J 16, J (W9.1)] s4)) ?_
                    refine T.icmp_ge rfl rfl (by omega) (by omega) (fun c9 => ?_) (fun c9 => ?_)
                    · refine T.go 2 (fun n9 => (rfl : _ = exe ξ n9 (d + 3) j_M_toldCodes 202 [(0, .ref 137), (1, J x), (2, J y), (3, J n), (4, J a), (5, J l5), (6, J (W9.1)), (7, J (11 + z2))] [J 16, J (W9.1)] s4)) ?_
                      refine T.icmp_ne rfl rfl (by omega) (by omega) (fun c10 => ?_) (fun c10 => ?_)
                      · refine T.go 4 (fun n9 => (rfl : _ = exe ξ n9 (d + 3) j_M_toldCodes 215 [(0, .ref 137), (1, J x), (2, J y), (3, J n), (4, J a), (5, J l5), (6, J (W9.1)), (7, J (11 + z2)), (8, J 0)] [.ref 137, .ref 137] s4)) ?_
                        refine T.get rfl rfl rfl ms4.ob rfl ?_
                        refine T.if_ne rfl rfl (by omega) (fun c11 => ?_) (fun c11 => ?_)
                        · exfalso
                          omega
                        · refine T.go 4 (fun n9 => (rfl : _ = exe ξ n9 (d + 3) j_M_toldCodes 230 [(0, .ref 137), (1, J x), (2, J y), (3, J n), (4, J a), (5, J l5), (6, J (W9.1)), (7, J (11 + z2)), (8, J 0)] [J (11 + z2), J a, .ref 137] s4)) ?_
                          refine T.iadd rfl ?_
                          refine T.go 2 (fun n9 => (rfl : _ = exe ξ n9 (d + 3) j_M_toldCodes 233 [(0, .ref 137), (1, J x), (2, J y), (3, J n), (4, J a), (5, J l5), (6, J (W9.1)), (7, J (11 + z2)), (8, J 0)] [J y, J x, J (a + (11 + z2)), .ref 137] s4)) ?_
                          refine T.iadd rfl ?_
                          refine T.icmp_le rfl rfl (by omega) (by omega) (fun c12 => ?_) (fun c12 => ?_)
                          · refine T.go 1 (fun n9 => (rfl : _ = exe ξ n9 (d + 3) j_M_toldCodes 242 [(0, .ref 137), (1, J x), (2, J y), (3, J n), (4, J a), (5, J l5), (6, J (W9.1)), (7, J (11 + z2)), (8, J 0)] [J 0, .ref 137] s4)) ?_
                            refine T.mput (c' := c) (io' := io) (mo' := mo) (fa' := fa) (pl' := pl) (ns' := ns) (rw' := rw) (en' := en) (wy' := wy) (wh' := wh) (bi' := bi_2) (ed' := ed) (sz' := sz) (md' := md) (bd' := 0) (li' := li) (wk' := wk) (we' := we) ms4 rfl rfl rfl rfl rfl rfl (by omega) (fun s5 ms5 fs5 => ?_)
                            have gs5 := gs4.trans fs5
                            refine T.go 2 (fun n9 => (rfl : _ = exe ξ n9 (d + 3) j_M_toldCodes 248 [(0, .ref 137), (1, J x), (2, J y), (3, J n), (4, J a), (5, J l5), (6, J (W9.1)), (7, J (11 + z2)), (8, J 0), (9, J 0)] [] s5)) ?_
                            have tk1 := tB_18 (s := W9.1) (by omega)
                            have tw1 : BV (gc Lc rw) W9.2 (tBi W9.1).toNat = BV (gc Lc rw) W9.2 7 := by rw [tk1.1]; rfl
                            exact loop248 _ a (W9.1) (11 + z2) 0 0 bi_2 0 lk9 s5 ms5 gs5 (by omega) (by omega) (by omega) (by omega) (by omega) (by omega) (by omega) (by omega) (by omega) (by omega) (by omega) (by omega) (fun _ => i11 (by omega)) (fun _ => (FILL_0 _ _ _).symm) (fun _ => by rw [show bi_2 = W9.2 + tBi W9.1 by omega]; exact TL_one (i8 (by omega)) hW9 (by omega) (by omega) (by omega) (by omega) (by omega) (by omega) (tV_17 (by omega)).symm) (fun h => absurd h (by omega)) (by omega) (by omega) (Nat.lt_succ_self _)
                          · refine T.go 2 (fun n9 => (rfl : _ = exe ξ n9 (d + 3) j_M_toldCodes 242 [(0, .ref 137), (1, J x), (2, J y), (3, J n), (4, J a), (5, J l5), (6, J (W9.1)), (7, J (11 + z2)), (8, J 0)] [J 1, .ref 137] s4)) ?_
                            refine T.mput (c' := c) (io' := io) (mo' := mo) (fa' := fa) (pl' := pl) (ns' := ns) (rw' := rw) (en' := en) (wy' := wy) (wh' := wh) (bi' := bi_2) (ed' := ed) (sz' := sz) (md' := md) (bd' := 1) (li' := li) (wk' := wk) (we' := we) ms4 rfl rfl rfl rfl rfl rfl (by omega) (fun s6 ms6 fs6 => ?_)
                            have gs6 := gs4.trans fs6
                            refine T.go 2 (fun n9 => (rfl : _ = exe ξ n9 (d + 3) j_M_toldCodes 248 [(0, .ref 137), (1, J x), (2, J y), (3, J n), (4, J a), (5, J l5), (6, J (W9.1)), (7, J (11 + z2)), (8, J 0), (9, J 0)] [] s6)) ?_
                            have tk2 := tB_18 (s := W9.1) (by omega)
                            have tw2 : BV (gc Lc rw) W9.2 (tBi W9.1).toNat = BV (gc Lc rw) W9.2 7 := by rw [tk2.1]; rfl
                            exact loop248 _ a (W9.1) (11 + z2) 0 0 bi_2 1 lk9 s6 ms6 gs6 (by omega) (by omega) (by omega) (by omega) (by omega) (by omega) (by omega) (by omega) (by omega) (by omega) (by omega) (by omega) (fun h => absurd h (by omega)) (fun h => absurd h (by omega)) (fun h => absurd h (by omega)) (fun _ => TG_no (TL_bad (i8 (by omega)) hW9 (by omega) (by have := i10 (by omega); omega))) (by omega) (by omega) (Nat.lt_succ_self _)
                      · exfalso
                        omega
                    · exfalso
                      omega
                  · have fkz2 := taz2
                    refine T.iadd rfl ?_
                    refine T.go 3 (fun n9 => (rfl : _ = exe ξ n9 (d + 3) j_M_toldCodes 190 [(0, .ref 137), (1, J x), (2, J y), (3, J n), (4, J a), (5, J l5), (6, J (W9.1)), (7, J (11 + z2))] [J 16, J (W9.1)] s4)) ?_
                    refine T.icmp_ge rfl rfl (by omega) (by omega) (fun c13 => ?_) (fun c13 => ?_)
                    · refine T.go 2 (fun n9 => (rfl : _ = exe ξ n9 (d + 3) j_M_toldCodes 202 [(0, .ref 137), (1, J x), (2, J y), (3, J n), (4, J a), (5, J l5), (6, J (W9.1)), (7, J (11 + z2))] [J 16, J (W9.1)] s4)) ?_
                      refine T.icmp_ne rfl rfl (by omega) (by omega) (fun c14 => ?_) (fun c14 => ?_)
                      · refine T.go 4 (fun n9 => (rfl : _ = exe ξ n9 (d + 3) j_M_toldCodes 215 [(0, .ref 137), (1, J x), (2, J y), (3, J n), (4, J a), (5, J l5), (6, J (W9.1)), (7, J (11 + z2)), (8, J 0)] [.ref 137, .ref 137] s4)) ?_
                        refine T.get rfl rfl rfl ms4.ob rfl ?_
                        refine T.if_ne rfl rfl (by omega) (fun c15 => ?_) (fun c15 => ?_)
                        · refine T.go 2 (fun n9 => (rfl : _ = exe ξ n9 (d + 3) j_M_toldCodes 242 [(0, .ref 137), (1, J x), (2, J y), (3, J n), (4, J a), (5, J l5), (6, J (W9.1)), (7, J (11 + z2)), (8, J 0)] [J 1, .ref 137] s4)) ?_
                          refine T.mput (c' := c) (io' := io) (mo' := mo) (fa' := fa) (pl' := pl) (ns' := ns) (rw' := rw) (en' := en) (wy' := wy) (wh' := wh) (bi' := bi_2) (ed' := ed) (sz' := sz) (md' := md) (bd' := 1) (li' := li) (wk' := wk) (we' := we) ms4 rfl rfl rfl rfl rfl rfl (by omega) (fun s7 ms7 fs7 => ?_)
                          have gs7 := gs4.trans fs7
                          refine T.go 2 (fun n9 => (rfl : _ = exe ξ n9 (d + 3) j_M_toldCodes 248 [(0, .ref 137), (1, J x), (2, J y), (3, J n), (4, J a), (5, J l5), (6, J (W9.1)), (7, J (11 + z2)), (8, J 0), (9, J 0)] [] s7)) ?_
                          have tk3 := tB_18 (s := W9.1) (by omega)
                          have tw3 : BV (gc Lc rw) W9.2 (tBi W9.1).toNat = BV (gc Lc rw) W9.2 7 := by rw [tk3.1]; rfl
                          exact loop248 _ a (W9.1) (11 + z2) 0 0 bi_2 1 lk9 s7 ms7 gs7 (by omega) (by omega) (by omega) (by omega) (by omega) (by omega) (by omega) (by omega) (by omega) (by omega) (by omega) (by omega) (fun h => absurd h (by omega)) (fun h => absurd h (by omega)) (fun h => absurd h (by omega)) (fun _ => TG_no (TL_bad (i8 (by omega)) hW9 (by omega) (by have := i10 (by omega); omega))) (by omega) (by omega) (Nat.lt_succ_self _)
                        · exfalso
                          omega
                      · exfalso
                        omega
                    · exfalso
                      omega
                · refine T.go 3 (fun n9 => (rfl : _ = exe ξ n9 (d + 3) j_M_toldCodes 168 [(0, .ref 137), (1, J x), (2, J y), (3, J n), (4, J a), (5, J l5), (6, J (W9.1))] [J 3, .ref 137, J 3] s3)) ?_
                  refine T.callv (as := [J 3]) (r := [J 3]) rfl rfl rfl rfl ms3.ob rfl (s_M_ftake (d + 1) 3 s3 ms3 (by omega) (by omega) (by omega) (by omega) (by omega) (by omega) (by omega)) (fun v3 s8 hqs8 => ?_)
                  obtain ⟨z3, bi_3, bd_3, rfl, ms8, fs8, hzz3, hyz3, pz3_0, pz3_1, pz3_2⟩ := hqs8
                  have ns8 := ms8.len
                  have rs8 := ms8.rg
                  have gs8 := gs3.trans fs8
                  rw [show (3 : Int).toNat = 3 from rfl] at pz3_2
                  rcases pz3_2 with ⟨taz3, tbz3, tcz3, tdz3, tez3⟩ | ⟨taz3, tbz3⟩
                  · rw [show bi_1 = W9.2 by omega] at tcz3
                    have bvrz3 := BV_r (gc Lc rw) W9.2 3
                    have bvpz3 : P2 ((3 : Nat) : Int) = 8 := by decide
                    refine T.iadd rfl ?_
                    refine T.go 4 (fun n9 => (rfl : _ = exe ξ n9 (d + 3) j_M_toldCodes 190 [(0, .ref 137), (1, J x), (2, J y), (3, J n), (4, J a), (5, J l5), (6, J (W9.1)), (7, J (3 + z3))] [J 16, J (W9.1)] s8)) ?_
                    refine T.icmp_ge rfl rfl (by omega) (by omega) (fun c16 => ?_) (fun c16 => ?_)
                    · refine T.go 2 (fun n9 => (rfl : _ = exe ξ n9 (d + 3) j_M_toldCodes 202 [(0, .ref 137), (1, J x), (2, J y), (3, J n), (4, J a), (5, J l5), (6, J (W9.1)), (7, J (3 + z3))] [J 16, J (W9.1)] s8)) ?_
                      refine T.icmp_ne rfl rfl (by omega) (by omega) (fun c17 => ?_) (fun c17 => ?_)
                      · refine T.go 4 (fun n9 => (rfl : _ = exe ξ n9 (d + 3) j_M_toldCodes 215 [(0, .ref 137), (1, J x), (2, J y), (3, J n), (4, J a), (5, J l5), (6, J (W9.1)), (7, J (3 + z3)), (8, J 0)] [.ref 137, .ref 137] s8)) ?_
                        refine T.get rfl rfl rfl ms8.ob rfl ?_
                        refine T.if_ne rfl rfl (by omega) (fun c18 => ?_) (fun c18 => ?_)
                        · exfalso
                          omega
                        · refine T.go 4 (fun n9 => (rfl : _ = exe ξ n9 (d + 3) j_M_toldCodes 230 [(0, .ref 137), (1, J x), (2, J y), (3, J n), (4, J a), (5, J l5), (6, J (W9.1)), (7, J (3 + z3)), (8, J 0)] [J (3 + z3), J a, .ref 137] s8)) ?_
                          refine T.iadd rfl ?_
                          refine T.go 2 (fun n9 => (rfl : _ = exe ξ n9 (d + 3) j_M_toldCodes 233 [(0, .ref 137), (1, J x), (2, J y), (3, J n), (4, J a), (5, J l5), (6, J (W9.1)), (7, J (3 + z3)), (8, J 0)] [J y, J x, J (a + (3 + z3)), .ref 137] s8)) ?_
                          refine T.iadd rfl ?_
                          refine T.icmp_le rfl rfl (by omega) (by omega) (fun c19 => ?_) (fun c19 => ?_)
                          · refine T.go 1 (fun n9 => (rfl : _ = exe ξ n9 (d + 3) j_M_toldCodes 242 [(0, .ref 137), (1, J x), (2, J y), (3, J n), (4, J a), (5, J l5), (6, J (W9.1)), (7, J (3 + z3)), (8, J 0)] [J 0, .ref 137] s8)) ?_
                            refine T.mput (c' := c) (io' := io) (mo' := mo) (fa' := fa) (pl' := pl) (ns' := ns) (rw' := rw) (en' := en) (wy' := wy) (wh' := wh) (bi' := bi_3) (ed' := ed) (sz' := sz) (md' := md) (bd' := 0) (li' := li) (wk' := wk) (we' := we) ms8 rfl rfl rfl rfl rfl rfl (by omega) (fun s9 ms9 fs9 => ?_)
                            have gs9 := gs8.trans fs9
                            refine T.go 2 (fun n9 => (rfl : _ = exe ξ n9 (d + 3) j_M_toldCodes 248 [(0, .ref 137), (1, J x), (2, J y), (3, J n), (4, J a), (5, J l5), (6, J (W9.1)), (7, J (3 + z3)), (8, J 0), (9, J 0)] [] s9)) ?_
                            have tk4 := tB_17 (s := W9.1) (by omega)
                            have tw4 : BV (gc Lc rw) W9.2 (tBi W9.1).toNat = BV (gc Lc rw) W9.2 3 := by rw [tk4.1]; rfl
                            exact loop248 _ a (W9.1) (3 + z3) 0 0 bi_3 0 lk9 s9 ms9 gs9 (by omega) (by omega) (by omega) (by omega) (by omega) (by omega) (by omega) (by omega) (by omega) (by omega) (by omega) (by omega) (fun _ => i11 (by omega)) (fun _ => (FILL_0 _ _ _).symm) (fun _ => by rw [show bi_3 = W9.2 + tBi W9.1 by omega]; exact TL_one (i8 (by omega)) hW9 (by omega) (by omega) (by omega) (by omega) (by omega) (by omega) (tV_17 (by omega)).symm) (fun h => absurd h (by omega)) (by omega) (by omega) (Nat.lt_succ_self _)
                          · refine T.go 2 (fun n9 => (rfl : _ = exe ξ n9 (d + 3) j_M_toldCodes 242 [(0, .ref 137), (1, J x), (2, J y), (3, J n), (4, J a), (5, J l5), (6, J (W9.1)), (7, J (3 + z3)), (8, J 0)] [J 1, .ref 137] s8)) ?_
                            refine T.mput (c' := c) (io' := io) (mo' := mo) (fa' := fa) (pl' := pl) (ns' := ns) (rw' := rw) (en' := en) (wy' := wy) (wh' := wh) (bi' := bi_3) (ed' := ed) (sz' := sz) (md' := md) (bd' := 1) (li' := li) (wk' := wk) (we' := we) ms8 rfl rfl rfl rfl rfl rfl (by omega) (fun s10 ms10 fs10 => ?_)
                            have gs10 := gs8.trans fs10
                            refine T.go 2 (fun n9 => (rfl : _ = exe ξ n9 (d + 3) j_M_toldCodes 248 [(0, .ref 137), (1, J x), (2, J y), (3, J n), (4, J a), (5, J l5), (6, J (W9.1)), (7, J (3 + z3)), (8, J 0), (9, J 0)] [] s10)) ?_
                            have tk5 := tB_17 (s := W9.1) (by omega)
                            have tw5 : BV (gc Lc rw) W9.2 (tBi W9.1).toNat = BV (gc Lc rw) W9.2 3 := by rw [tk5.1]; rfl
                            exact loop248 _ a (W9.1) (3 + z3) 0 0 bi_3 1 lk9 s10 ms10 gs10 (by omega) (by omega) (by omega) (by omega) (by omega) (by omega) (by omega) (by omega) (by omega) (by omega) (by omega) (by omega) (fun h => absurd h (by omega)) (fun h => absurd h (by omega)) (fun h => absurd h (by omega)) (fun _ => TG_no (TL_bad (i8 (by omega)) hW9 (by omega) (by have := i10 (by omega); omega))) (by omega) (by omega) (Nat.lt_succ_self _)
                      · exfalso
                        omega
                    · exfalso
                      omega
                  · have fkz3 := taz3
                    refine T.iadd rfl ?_
                    refine T.go 4 (fun n9 => (rfl : _ = exe ξ n9 (d + 3) j_M_toldCodes 190 [(0, .ref 137), (1, J x), (2, J y), (3, J n), (4, J a), (5, J l5), (6, J (W9.1)), (7, J (3 + z3))] [J 16, J (W9.1)] s8)) ?_
                    refine T.icmp_ge rfl rfl (by omega) (by omega) (fun c20 => ?_) (fun c20 => ?_)
                    · refine T.go 2 (fun n9 => (rfl : _ = exe ξ n9 (d + 3) j_M_toldCodes 202 [(0, .ref 137), (1, J x), (2, J y), (3, J n), (4, J a), (5, J l5), (6, J (W9.1)), (7, J (3 + z3))] [J 16, J (W9.1)] s8)) ?_
                      refine T.icmp_ne rfl rfl (by omega) (by omega) (fun c21 => ?_) (fun c21 => ?_)
                      · refine T.go 4 (fun n9 => (rfl : _ = exe ξ n9 (d + 3) j_M_toldCodes 215 [(0, .ref 137), (1, J x), (2, J y), (3, J n), (4, J a), (5, J l5), (6, J (W9.1)), (7, J (3 + z3)), (8, J 0)] [.ref 137, .ref 137] s8)) ?_
                        refine T.get rfl rfl rfl ms8.ob rfl ?_
                        refine T.if_ne rfl rfl (by omega) (fun c22 => ?_) (fun c22 => ?_)
                        · refine T.go 2 (fun n9 => (rfl : _ = exe ξ n9 (d + 3) j_M_toldCodes 242 [(0, .ref 137), (1, J x), (2, J y), (3, J n), (4, J a), (5, J l5), (6, J (W9.1)), (7, J (3 + z3)), (8, J 0)] [J 1, .ref 137] s8)) ?_
                          refine T.mput (c' := c) (io' := io) (mo' := mo) (fa' := fa) (pl' := pl) (ns' := ns) (rw' := rw) (en' := en) (wy' := wy) (wh' := wh) (bi' := bi_3) (ed' := ed) (sz' := sz) (md' := md) (bd' := 1) (li' := li) (wk' := wk) (we' := we) ms8 rfl rfl rfl rfl rfl rfl (by omega) (fun s11 ms11 fs11 => ?_)
                          have gs11 := gs8.trans fs11
                          refine T.go 2 (fun n9 => (rfl : _ = exe ξ n9 (d + 3) j_M_toldCodes 248 [(0, .ref 137), (1, J x), (2, J y), (3, J n), (4, J a), (5, J l5), (6, J (W9.1)), (7, J (3 + z3)), (8, J 0), (9, J 0)] [] s11)) ?_
                          have tk6 := tB_17 (s := W9.1) (by omega)
                          have tw6 : BV (gc Lc rw) W9.2 (tBi W9.1).toNat = BV (gc Lc rw) W9.2 3 := by rw [tk6.1]; rfl
                          exact loop248 _ a (W9.1) (3 + z3) 0 0 bi_3 1 lk9 s11 ms11 gs11 (by omega) (by omega) (by omega) (by omega) (by omega) (by omega) (by omega) (by omega) (by omega) (by omega) (by omega) (by omega) (fun h => absurd h (by omega)) (fun h => absurd h (by omega)) (fun h => absurd h (by omega)) (fun _ => TG_no (TL_bad (i8 (by omega)) hW9 (by omega) (by have := i10 (by omega); omega))) (by omega) (by omega) (Nat.lt_succ_self _)
                        · exfalso
                          omega
                      · exfalso
                        omega
                    · exfalso
                      omega
              · refine T.go 3 (fun n9 => (rfl : _ = exe ξ n9 (d + 3) j_M_toldCodes 151 [(0, .ref 137), (1, J x), (2, J y), (3, J n), (4, J a), (5, J l5), (6, J (W9.1))] [J 2, .ref 137, J 3] s3)) ?_
                refine T.callv (as := [J 2]) (r := [J 3]) rfl rfl rfl rfl ms3.ob rfl (s_M_ftake (d + 1) 2 s3 ms3 (by omega) (by omega) (by omega) (by omega) (by omega) (by omega) (by omega)) (fun v4 s12 hqs12 => ?_)
                obtain ⟨z4, bi_4, bd_4, rfl, ms12, fs12, hzz4, hyz4, pz4_0, pz4_1, pz4_2⟩ := hqs12
                have ns12 := ms12.len
                have rs12 := ms12.rg
                have gs12 := gs3.trans fs12
                rw [show (2 : Int).toNat = 2 from rfl] at pz4_2
                rcases pz4_2 with ⟨taz4, tbz4, tcz4, tdz4, tez4⟩ | ⟨taz4, tbz4⟩
                · rw [show bi_1 = W9.2 by omega] at tcz4
                  have bvrz4 := BV_r (gc Lc rw) W9.2 2
                  have bvpz4 : P2 ((2 : Nat) : Int) = 4 := by decide
                  refine T.iadd rfl ?_
                  refine T.go 4 (fun n9 => (rfl : _ = exe ξ n9 (d + 3) j_M_toldCodes 190 [(0, .ref 137), (1, J x), (2, J y), (3, J n), (4, J a), (5, J l5), (6, J (W9.1)), (7, J (3 + z4))] [J 16, J (W9.1)] s12)) ?_
                  refine T.icmp_ge rfl rfl (by omega) (by omega) (fun c23 => ?_) (fun c23 => ?_)
                  · refine T.go 2 (fun n9 => (rfl : _ = exe ξ n9 (d + 3) j_M_toldCodes 202 [(0, .ref 137), (1, J x), (2, J y), (3, J n), (4, J a), (5, J l5), (6, J (W9.1)), (7, J (3 + z4))] [J 16, J (W9.1)] s12)) ?_
                    refine T.icmp_ne rfl rfl (by omega) (by omega) (fun c24 => ?_) (fun c24 => ?_)
                    · exfalso
                      omega
                    · refine T.go 5 (fun n9 => (rfl : _ = exe ξ n9 (d + 3) j_M_toldCodes 215 [(0, .ref 137), (1, J x), (2, J y), (3, J n), (4, J a), (5, J l5), (6, J (W9.1)), (7, J (3 + z4)), (8, J l5)] [.ref 137, .ref 137] s12)) ?_
                      refine T.get rfl rfl rfl ms12.ob rfl ?_
                      refine T.if_ne rfl rfl (by omega) (fun c25 => ?_) (fun c25 => ?_)
                      · exfalso
                        omega
                      · refine T.go 1 (fun n9 => (rfl : _ = exe ξ n9 (d + 3) j_M_toldCodes 223 [(0, .ref 137), (1, J x), (2, J y), (3, J n), (4, J a), (5, J l5), (6, J (W9.1)), (7, J (3 + z4)), (8, J l5)] [J l5, .ref 137] s12)) ?_
                        refine T.if_lt rfl rfl (by omega) (fun c26 => ?_) (fun c26 => ?_)
                        · refine T.go 2 (fun n9 => (rfl : _ = exe ξ n9 (d + 3) j_M_toldCodes 242 [(0, .ref 137), (1, J x), (2, J y), (3, J n), (4, J a), (5, J l5), (6, J (W9.1)), (7, J (3 + z4)), (8, J l5)] [J 1, .ref 137] s12)) ?_
                          refine T.mput (c' := c) (io' := io) (mo' := mo) (fa' := fa) (pl' := pl) (ns' := ns) (rw' := rw) (en' := en) (wy' := wy) (wh' := wh) (bi' := bi_4) (ed' := ed) (sz' := sz) (md' := md) (bd' := 1) (li' := li) (wk' := wk) (we' := we) ms12 rfl rfl rfl rfl rfl rfl (by omega) (fun s13 ms13 fs13 => ?_)
                          have gs13 := gs12.trans fs13
                          refine T.go 2 (fun n9 => (rfl : _ = exe ξ n9 (d + 3) j_M_toldCodes 248 [(0, .ref 137), (1, J x), (2, J y), (3, J n), (4, J a), (5, J l5), (6, J (W9.1)), (7, J (3 + z4)), (8, J l5), (9, J 0)] [] s13)) ?_
                          have tk7 := tB_16 (s := W9.1) (by omega)
                          have tw7 : BV (gc Lc rw) W9.2 (tBi W9.1).toNat = BV (gc Lc rw) W9.2 2 := by rw [tk7.1]; rfl
                          exact loop248 _ a (W9.1) (3 + z4) l5 0 bi_4 1 lk9 s13 ms13 gs13 (by omega) (by omega) (by omega) (by omega) (by omega) (by omega) (by omega) (by omega) (by omega) (by omega) (by omega) (by omega) (fun h => absurd h (by omega)) (fun h => absurd h (by omega)) (fun h => absurd h (by omega)) (fun _ => TG_no (TL_bad (i8 (by omega)) hW9 (by omega) (by have := i10 (by omega); omega))) (by omega) (by omega) (Nat.lt_succ_self _)
                        · refine T.go 2 (fun n9 => (rfl : _ = exe ξ n9 (d + 3) j_M_toldCodes 230 [(0, .ref 137), (1, J x), (2, J y), (3, J n), (4, J a), (5, J l5), (6, J (W9.1)), (7, J (3 + z4)), (8, J l5)] [J (3 + z4), J a, .ref 137] s12)) ?_
                          refine T.iadd rfl ?_
                          refine T.go 2 (fun n9 => (rfl : _ = exe ξ n9 (d + 3) j_M_toldCodes 233 [(0, .ref 137), (1, J x), (2, J y), (3, J n), (4, J a), (5, J l5), (6, J (W9.1)), (7, J (3 + z4)), (8, J l5)] [J y, J x, J (a + (3 + z4)), .ref 137] s12)) ?_
                          refine T.iadd rfl ?_
                          refine T.icmp_le rfl rfl (by omega) (by omega) (fun c27 => ?_) (fun c27 => ?_)
                          · refine T.go 1 (fun n9 => (rfl : _ = exe ξ n9 (d + 3) j_M_toldCodes 242 [(0, .ref 137), (1, J x), (2, J y), (3, J n), (4, J a), (5, J l5), (6, J (W9.1)), (7, J (3 + z4)), (8, J l5)] [J 0, .ref 137] s12)) ?_
                            refine T.mput (c' := c) (io' := io) (mo' := mo) (fa' := fa) (pl' := pl) (ns' := ns) (rw' := rw) (en' := en) (wy' := wy) (wh' := wh) (bi' := bi_4) (ed' := ed) (sz' := sz) (md' := md) (bd' := 0) (li' := li) (wk' := wk) (we' := we) ms12 rfl rfl rfl rfl rfl rfl (by omega) (fun s14 ms14 fs14 => ?_)
                            have gs14 := gs12.trans fs14
                            refine T.go 2 (fun n9 => (rfl : _ = exe ξ n9 (d + 3) j_M_toldCodes 248 [(0, .ref 137), (1, J x), (2, J y), (3, J n), (4, J a), (5, J l5), (6, J (W9.1)), (7, J (3 + z4)), (8, J l5), (9, J 0)] [] s14)) ?_
                            have tk8 := tB_16 (s := W9.1) (by omega)
                            have tw8 : BV (gc Lc rw) W9.2 (tBi W9.1).toNat = BV (gc Lc rw) W9.2 2 := by rw [tk8.1]; rfl
                            exact loop248 _ a (W9.1) (3 + z4) l5 0 bi_4 0 lk9 s14 ms14 gs14 (by omega) (by omega) (by omega) (by omega) (by omega) (by omega) (by omega) (by omega) (by omega) (by omega) (by omega) (by omega) (fun _ => i11 (by omega)) (fun _ => (FILL_0 _ _ _).symm) (fun _ => by rw [show bi_4 = W9.2 + tBi W9.1 by omega]; exact TL_one (i8 (by omega)) hW9 (by omega) (by omega) (by omega) (by omega) (by omega) (by omega) (by rw [tV_16 (by omega)]; have := i10 (by omega); omega)) (fun h => absurd h (by omega)) (by omega) (by omega) (Nat.lt_succ_self _)
                          · refine T.go 2 (fun n9 => (rfl : _ = exe ξ n9 (d + 3) j_M_toldCodes 242 [(0, .ref 137), (1, J x), (2, J y), (3, J n), (4, J a), (5, J l5), (6, J (W9.1)), (7, J (3 + z4)), (8, J l5)] [J 1, .ref 137] s12)) ?_
                            refine T.mput (c' := c) (io' := io) (mo' := mo) (fa' := fa) (pl' := pl) (ns' := ns) (rw' := rw) (en' := en) (wy' := wy) (wh' := wh) (bi' := bi_4) (ed' := ed) (sz' := sz) (md' := md) (bd' := 1) (li' := li) (wk' := wk) (we' := we) ms12 rfl rfl rfl rfl rfl rfl (by omega) (fun s15 ms15 fs15 => ?_)
                            have gs15 := gs12.trans fs15
                            refine T.go 2 (fun n9 => (rfl : _ = exe ξ n9 (d + 3) j_M_toldCodes 248 [(0, .ref 137), (1, J x), (2, J y), (3, J n), (4, J a), (5, J l5), (6, J (W9.1)), (7, J (3 + z4)), (8, J l5), (9, J 0)] [] s15)) ?_
                            have tk9 := tB_16 (s := W9.1) (by omega)
                            have tw9 : BV (gc Lc rw) W9.2 (tBi W9.1).toNat = BV (gc Lc rw) W9.2 2 := by rw [tk9.1]; rfl
                            exact loop248 _ a (W9.1) (3 + z4) l5 0 bi_4 1 lk9 s15 ms15 gs15 (by omega) (by omega) (by omega) (by omega) (by omega) (by omega) (by omega) (by omega) (by omega) (by omega) (by omega) (by omega) (fun h => absurd h (by omega)) (fun h => absurd h (by omega)) (fun h => absurd h (by omega)) (fun _ => TG_no (TL_bad (i8 (by omega)) hW9 (by omega) (by have := i10 (by omega); omega))) (by omega) (by omega) (Nat.lt_succ_self _)
                  · exfalso
                    omega
                · have fkz4 := taz4
                  refine T.iadd rfl ?_
                  refine T.go 4 (fun n9 => (rfl : _ = exe ξ n9 (d + 3) j_M_toldCodes 190 [(0, .ref 137), (1, J x), (2, J y), (3, J n), (4, J a), (5, J l5), (6, J (W9.1)), (7, J (3 + z4))] [J 16, J (W9.1)] s12)) ?_
                  refine T.icmp_ge rfl rfl (by omega) (by omega) (fun c28 => ?_) (fun c28 => ?_)
                  · refine T.go 2 (fun n9 => (rfl : _ = exe ξ n9 (d + 3) j_M_toldCodes 202 [(0, .ref 137), (1, J x), (2, J y), (3, J n), (4, J a), (5, J l5), (6, J (W9.1)), (7, J (3 + z4))] [J 16, J (W9.1)] s12)) ?_
                    refine T.icmp_ne rfl rfl (by omega) (by omega) (fun c29 => ?_) (fun c29 => ?_)
                    · exfalso
                      omega
                    · refine T.go 5 (fun n9 => (rfl : _ = exe ξ n9 (d + 3) j_M_toldCodes 215 [(0, .ref 137), (1, J x), (2, J y), (3, J n), (4, J a), (5, J l5), (6, J (W9.1)), (7, J (3 + z4)), (8, J l5)] [.ref 137, .ref 137] s12)) ?_
                      refine T.get rfl rfl rfl ms12.ob rfl ?_
                      refine T.if_ne rfl rfl (by omega) (fun c30 => ?_) (fun c30 => ?_)
                      · refine T.go 2 (fun n9 => (rfl : _ = exe ξ n9 (d + 3) j_M_toldCodes 242 [(0, .ref 137), (1, J x), (2, J y), (3, J n), (4, J a), (5, J l5), (6, J (W9.1)), (7, J (3 + z4)), (8, J l5)] [J 1, .ref 137] s12)) ?_
                        refine T.mput (c' := c) (io' := io) (mo' := mo) (fa' := fa) (pl' := pl) (ns' := ns) (rw' := rw) (en' := en) (wy' := wy) (wh' := wh) (bi' := bi_4) (ed' := ed) (sz' := sz) (md' := md) (bd' := 1) (li' := li) (wk' := wk) (we' := we) ms12 rfl rfl rfl rfl rfl rfl (by omega) (fun s16 ms16 fs16 => ?_)
                        have gs16 := gs12.trans fs16
                        refine T.go 2 (fun n9 => (rfl : _ = exe ξ n9 (d + 3) j_M_toldCodes 248 [(0, .ref 137), (1, J x), (2, J y), (3, J n), (4, J a), (5, J l5), (6, J (W9.1)), (7, J (3 + z4)), (8, J l5), (9, J 0)] [] s16)) ?_
                        have tk10 := tB_16 (s := W9.1) (by omega)
                        have tw10 : BV (gc Lc rw) W9.2 (tBi W9.1).toNat = BV (gc Lc rw) W9.2 2 := by rw [tk10.1]; rfl
                        exact loop248 _ a (W9.1) (3 + z4) l5 0 bi_4 1 lk9 s16 ms16 gs16 (by omega) (by omega) (by omega) (by omega) (by omega) (by omega) (by omega) (by omega) (by omega) (by omega) (by omega) (by omega) (fun h => absurd h (by omega)) (fun h => absurd h (by omega)) (fun h => absurd h (by omega)) (fun _ => TG_no (TL_bad (i8 (by omega)) hW9 (by omega) (by have := i10 (by omega); omega))) (by omega) (by omega) (Nat.lt_succ_self _)
                      · exfalso
                        omega
                  · exfalso
                    omega
            · refine T.go 5 (fun n9 => (rfl : _ = exe ξ n9 (d + 3) j_M_toldCodes 190 [(0, .ref 137), (1, J x), (2, J y), (3, J n), (4, J a), (5, J l5), (6, J (W9.1)), (7, J 1)] [J 16, J (W9.1)] s3)) ?_
              refine T.icmp_ge rfl rfl (by omega) (by omega) (fun c31 => ?_) (fun c31 => ?_)
              · exfalso
                omega
              · refine T.go 5 (fun n9 => (rfl : _ = exe ξ n9 (d + 3) j_M_toldCodes 215 [(0, .ref 137), (1, J x), (2, J y), (3, J n), (4, J a), (5, J l5), (6, J (W9.1)), (7, J 1), (8, J (W9.1))] [.ref 137, .ref 137] s3)) ?_
                refine T.get rfl rfl rfl ms3.ob rfl ?_
                refine T.if_ne rfl rfl (by omega) (fun c32 => ?_) (fun c32 => ?_)
                · exfalso
                  omega
                · refine T.go 1 (fun n9 => (rfl : _ = exe ξ n9 (d + 3) j_M_toldCodes 223 [(0, .ref 137), (1, J x), (2, J y), (3, J n), (4, J a), (5, J l5), (6, J (W9.1)), (7, J 1), (8, J (W9.1))] [J (W9.1), .ref 137] s3)) ?_
                  refine T.if_lt rfl rfl (by omega) (fun c33 => ?_) (fun c33 => ?_)
                  · exfalso
                    omega
                  · refine T.go 2 (fun n9 => (rfl : _ = exe ξ n9 (d + 3) j_M_toldCodes 230 [(0, .ref 137), (1, J x), (2, J y), (3, J n), (4, J a), (5, J l5), (6, J (W9.1)), (7, J 1), (8, J (W9.1))] [J 1, J a, .ref 137] s3)) ?_
                    refine T.iadd rfl ?_
                    refine T.go 2 (fun n9 => (rfl : _ = exe ξ n9 (d + 3) j_M_toldCodes 233 [(0, .ref 137), (1, J x), (2, J y), (3, J n), (4, J a), (5, J l5), (6, J (W9.1)), (7, J 1), (8, J (W9.1))] [J y, J x, J (a + 1), .ref 137] s3)) ?_
                    refine T.iadd rfl ?_
                    refine T.icmp_le rfl rfl (by omega) (by omega) (fun c34 => ?_) (fun c34 => ?_)
                    · refine T.go 1 (fun n9 => (rfl : _ = exe ξ n9 (d + 3) j_M_toldCodes 242 [(0, .ref 137), (1, J x), (2, J y), (3, J n), (4, J a), (5, J l5), (6, J (W9.1)), (7, J 1), (8, J (W9.1))] [J 0, .ref 137] s3)) ?_
                      refine T.mput (c' := c) (io' := io) (mo' := mo) (fa' := fa) (pl' := pl) (ns' := ns) (rw' := rw) (en' := en) (wy' := wy) (wh' := wh) (bi' := bi_1) (ed' := ed) (sz' := sz) (md' := md) (bd' := 0) (li' := li) (wk' := wk) (we' := we) ms3 rfl rfl rfl rfl rfl rfl (by omega) (fun s17 ms17 fs17 => ?_)
                      have gs17 := gs3.trans fs17
                      refine T.go 2 (fun n9 => (rfl : _ = exe ξ n9 (d + 3) j_M_toldCodes 248 [(0, .ref 137), (1, J x), (2, J y), (3, J n), (4, J a), (5, J l5), (6, J (W9.1)), (7, J 1), (8, J (W9.1)), (9, J 0)] [] s17)) ?_
                      have tk11 := tB_lo (s := W9.1) (by omega)
                      have tw11 : BV (gc Lc rw) W9.2 (tBi W9.1).toNat = BV (gc Lc rw) W9.2 0 := by rw [tk11.1]; rfl
                      have tw11z := BV_0 (gc Lc rw) W9.2
                      exact loop248 _ a (W9.1) 1 (W9.1) 0 bi_1 0 lk9 s17 ms17 gs17 (by omega) (by omega) (by omega) (by omega) (by omega) (by omega) (by omega) (by omega) (by omega) (by omega) (by omega) (by omega) (fun _ => i11 (by omega)) (fun _ => (FILL_0 _ _ _).symm) (fun _ => by rw [show bi_1 = W9.2 + tBi W9.1 by omega]; exact TL_one (i8 (by omega)) hW9 (by omega) (by omega) (by omega) (by omega) (by omega) (by omega) (tV_lo (by omega)).symm) (fun h => absurd h (by omega)) (by omega) (by omega) (Nat.lt_succ_self _)
                    · refine T.go 2 (fun n9 => (rfl : _ = exe ξ n9 (d + 3) j_M_toldCodes 242 [(0, .ref 137), (1, J x), (2, J y), (3, J n), (4, J a), (5, J l5), (6, J (W9.1)), (7, J 1), (8, J (W9.1))] [J 1, .ref 137] s3)) ?_
                      refine T.mput (c' := c) (io' := io) (mo' := mo) (fa' := fa) (pl' := pl) (ns' := ns) (rw' := rw) (en' := en) (wy' := wy) (wh' := wh) (bi' := bi_1) (ed' := ed) (sz' := sz) (md' := md) (bd' := 1) (li' := li) (wk' := wk) (we' := we) ms3 rfl rfl rfl rfl rfl rfl (by omega) (fun s18 ms18 fs18 => ?_)
                      have gs18 := gs3.trans fs18
                      refine T.go 2 (fun n9 => (rfl : _ = exe ξ n9 (d + 3) j_M_toldCodes 248 [(0, .ref 137), (1, J x), (2, J y), (3, J n), (4, J a), (5, J l5), (6, J (W9.1)), (7, J 1), (8, J (W9.1)), (9, J 0)] [] s18)) ?_
                      have tk12 := tB_lo (s := W9.1) (by omega)
                      have tw12 : BV (gc Lc rw) W9.2 (tBi W9.1).toNat = BV (gc Lc rw) W9.2 0 := by rw [tk12.1]; rfl
                      have tw12z := BV_0 (gc Lc rw) W9.2
                      exact loop248 _ a (W9.1) 1 (W9.1) 0 bi_1 1 lk9 s18 ms18 gs18 (by omega) (by omega) (by omega) (by omega) (by omega) (by omega) (by omega) (by omega) (by omega) (by omega) (by omega) (by omega) (fun h => absurd h (by omega)) (fun h => absurd h (by omega)) (fun h => absurd h (by omega)) (fun _ => TG_no (TL_bad (i8 (by omega)) hW9 (by omega) (by have := i10 (by omega); omega))) (by omega) (by omega) (Nat.lt_succ_self _)
          · have fkz1 := taz1
            refine T.go 3 (fun n9 => (rfl : _ = exe ξ n9 (d + 3) j_M_toldCodes 134 [(0, .ref 137), (1, J x), (2, J y), (3, J n), (4, J a), (5, J l5), (6, J z1)] [J 16, J z1] s3)) ?_
            refine T.icmp_ge rfl rfl (by omega) (by omega) (fun c35 => ?_) (fun c35 => ?_)
            · refine T.go 2 (fun n9 => (rfl : _ = exe ξ n9 (d + 3) j_M_toldCodes 145 [(0, .ref 137), (1, J x), (2, J y), (3, J n), (4, J a), (5, J l5), (6, J z1)] [J 16, J z1] s3)) ?_
              refine T.icmp_ne rfl rfl (by omega) (by omega) (fun c36 => ?_) (fun c36 => ?_)
              · refine T.go 2 (fun n9 => (rfl : _ = exe ξ n9 (d + 3) j_M_toldCodes 162 [(0, .ref 137), (1, J x), (2, J y), (3, J n), (4, J a), (5, J l5), (6, J z1)] [J 17, J z1] s3)) ?_
                refine T.icmp_ne rfl rfl (by omega) (by omega) (fun c37 => ?_) (fun c37 => ?_)
                · refine T.go 3 (fun n9 => (rfl : _ = exe ξ n9 (d + 3) j_M_toldCodes 180 [(0, .ref 137), (1, J x), (2, J y), (3, J n), (4, J a), (5, J l5), (6, J z1)] [J 7, .ref 137, J 11] s3)) ?_
                  refine T.callv (as := [J 7]) (r := [J 11]) rfl rfl rfl rfl ms3.ob rfl (s_M_take (d + 1) 7 s3 ms3 (by omega) (by omega) (by omega) (by omega) (by omega) (by omega) (by omega)) (fun v5 s19 hqs19 => ?_)
                  obtain ⟨z5, bi_5, bd_5, rfl, ms19, fs19, hzz5, hyz5, pz5_0, pz5_1, pz5_2, pz5_3, pz5_4⟩ := hqs19
                  have ns19 := ms19.len
                  have rs19 := ms19.rg
                  have gs19 := gs3.trans fs19
                  refine T.iadd rfl ?_
                  refine T.go 3 (fun n9 => (rfl : _ = exe ξ n9 (d + 3) j_M_toldCodes 190 [(0, .ref 137), (1, J x), (2, J y), (3, J n), (4, J a), (5, J l5), (6, J z1), (7, J (11 + z5))] [J 16, J z1] s19)) ?_
                  refine T.icmp_ge rfl rfl (by omega) (by omega) (fun c38 => ?_) (fun c38 => ?_)
                  · refine T.go 2 (fun n9 => (rfl : _ = exe ξ n9 (d + 3) j_M_toldCodes 202 [(0, .ref 137), (1, J x), (2, J y), (3, J n), (4, J a), (5, J l5), (6, J z1), (7, J (11 + z5))] [J 16, J z1] s19)) ?_
                    refine T.icmp_ne rfl rfl (by omega) (by omega) (fun c39 => ?_) (fun c39 => ?_)
                    · refine T.go 4 (fun n9 => (rfl : _ = exe ξ n9 (d + 3) j_M_toldCodes 215 [(0, .ref 137), (1, J x), (2, J y), (3, J n), (4, J a), (5, J l5), (6, J z1), (7, J (11 + z5)), (8, J 0)] [.ref 137, .ref 137] s19)) ?_
                      refine T.get rfl rfl rfl ms19.ob rfl ?_
                      refine T.if_ne rfl rfl (by omega) (fun c40 => ?_) (fun c40 => ?_)
                      · refine T.go 2 (fun n9 => (rfl : _ = exe ξ n9 (d + 3) j_M_toldCodes 242 [(0, .ref 137), (1, J x), (2, J y), (3, J n), (4, J a), (5, J l5), (6, J z1), (7, J (11 + z5)), (8, J 0)] [J 1, .ref 137] s19)) ?_
                        refine T.mput (c' := c) (io' := io) (mo' := mo) (fa' := fa) (pl' := pl) (ns' := ns) (rw' := rw) (en' := en) (wy' := wy) (wh' := wh) (bi' := bi_5) (ed' := ed) (sz' := sz) (md' := md) (bd' := 1) (li' := li) (wk' := wk) (we' := we) ms19 rfl rfl rfl rfl rfl rfl (by omega) (fun s20 ms20 fs20 => ?_)
                        have gs20 := gs19.trans fs20
                        refine T.go 2 (fun n9 => (rfl : _ = exe ξ n9 (d + 3) j_M_toldCodes 248 [(0, .ref 137), (1, J x), (2, J y), (3, J n), (4, J a), (5, J l5), (6, J z1), (7, J (11 + z5)), (8, J 0), (9, J 0)] [] s20)) ?_
                        exact loop248 _ a z1 (11 + z5) 0 0 bi_5 1 lk9 s20 ms20 gs20 (by omega) (by omega) (by omega) (by omega) (by omega) (by omega) (by omega) (by omega) (by omega) (by omega) (by omega) (by omega) (fun h => absurd h (by omega)) (fun h => absurd h (by omega)) (fun h => absurd h (by omega)) (fun _ => TG_no (TL_bad (i8 (by omega)) hW9 (by omega) (Or.inl taz1))) (by omega) (by omega) (Nat.lt_succ_self _)
                      · exfalso
                        omega
                    · exfalso
                      omega
                  · exfalso
                    omega
                · refine T.go 3 (fun n9 => (rfl : _ = exe ξ n9 (d + 3) j_M_toldCodes 168 [(0, .ref 137), (1, J x), (2, J y), (3, J n), (4, J a), (5, J l5), (6, J z1)] [J 3, .ref 137, J 3] s3)) ?_
                  refine T.callv (as := [J 3]) (r := [J 3]) rfl rfl rfl rfl ms3.ob rfl (s_M_take (d + 1) 3 s3 ms3 (by omega) (by omega) (by omega) (by omega) (by omega) (by omega) (by omega)) (fun v6 s21 hqs21 => ?_)
                  obtain ⟨z6, bi_6, bd_6, rfl, ms21, fs21, hzz6, hyz6, pz6_0, pz6_1, pz6_2, pz6_3, pz6_4⟩ := hqs21
                  have ns21 := ms21.len
                  have rs21 := ms21.rg
                  have gs21 := gs3.trans fs21
                  refine T.iadd rfl ?_
                  refine T.go 4 (fun n9 => (rfl : _ = exe ξ n9 (d + 3) j_M_toldCodes 190 [(0, .ref 137), (1, J x), (2, J y), (3, J n), (4, J a), (5, J l5), (6, J z1), (7, J (3 + z6))] [J 16, J z1] s21)) ?_
                  refine T.icmp_ge rfl rfl (by omega) (by omega) (fun c41 => ?_) (fun c41 => ?_)
                  · refine T.go 2 (fun n9 => (rfl : _ = exe ξ n9 (d + 3) j_M_toldCodes 202 [(0, .ref 137), (1, J x), (2, J y), (3, J n), (4, J a), (5, J l5), (6, J z1), (7, J (3 + z6))] [J 16, J z1] s21)) ?_
                    refine T.icmp_ne rfl rfl (by omega) (by omega) (fun c42 => ?_) (fun c42 => ?_)
                    · refine T.go 4 (fun n9 => (rfl : _ = exe ξ n9 (d + 3) j_M_toldCodes 215 [(0, .ref 137), (1, J x), (2, J y), (3, J n), (4, J a), (5, J l5), (6, J z1), (7, J (3 + z6)), (8, J 0)] [.ref 137, .ref 137] s21)) ?_
                      refine T.get rfl rfl rfl ms21.ob rfl ?_
                      refine T.if_ne rfl rfl (by omega) (fun c43 => ?_) (fun c43 => ?_)
                      · refine T.go 2 (fun n9 => (rfl : _ = exe ξ n9 (d + 3) j_M_toldCodes 242 [(0, .ref 137), (1, J x), (2, J y), (3, J n), (4, J a), (5, J l5), (6, J z1), (7, J (3 + z6)), (8, J 0)] [J 1, .ref 137] s21)) ?_
                        refine T.mput (c' := c) (io' := io) (mo' := mo) (fa' := fa) (pl' := pl) (ns' := ns) (rw' := rw) (en' := en) (wy' := wy) (wh' := wh) (bi' := bi_6) (ed' := ed) (sz' := sz) (md' := md) (bd' := 1) (li' := li) (wk' := wk) (we' := we) ms21 rfl rfl rfl rfl rfl rfl (by omega) (fun s22 ms22 fs22 => ?_)
                        have gs22 := gs21.trans fs22
                        refine T.go 2 (fun n9 => (rfl : _ = exe ξ n9 (d + 3) j_M_toldCodes 248 [(0, .ref 137), (1, J x), (2, J y), (3, J n), (4, J a), (5, J l5), (6, J z1), (7, J (3 + z6)), (8, J 0), (9, J 0)] [] s22)) ?_
                        exact loop248 _ a z1 (3 + z6) 0 0 bi_6 1 lk9 s22 ms22 gs22 (by omega) (by omega) (by omega) (by omega) (by omega) (by omega) (by omega) (by omega) (by omega) (by omega) (by omega) (by omega) (fun h => absurd h (by omega)) (fun h => absurd h (by omega)) (fun h => absurd h (by omega)) (fun _ => TG_no (TL_bad (i8 (by omega)) hW9 (by omega) (Or.inl taz1))) (by omega) (by omega) (Nat.lt_succ_self _)
                      · exfalso
                        omega
                    · exfalso
                      omega
                  · exfalso
                    omega
              · refine T.go 3 (fun n9 => (rfl : _ = exe ξ n9 (d + 3) j_M_toldCodes 151 [(0, .ref 137), (1, J x), (2, J y), (3, J n), (4, J a), (5, J l5), (6, J z1)] [J 2, .ref 137, J 3] s3)) ?_
                refine T.callv (as := [J 2]) (r := [J 3]) rfl rfl rfl rfl ms3.ob rfl (s_M_take (d + 1) 2 s3 ms3 (by omega) (by omega) (by omega) (by omega) (by omega) (by omega) (by omega)) (fun v7 s23 hqs23 => ?_)
                obtain ⟨z7, bi_7, bd_7, rfl, ms23, fs23, hzz7, hyz7, pz7_0, pz7_1, pz7_2, pz7_3, pz7_4⟩ := hqs23
                have ns23 := ms23.len
                have rs23 := ms23.rg
                have gs23 := gs3.trans fs23
                refine T.iadd rfl ?_
                refine T.go 4 (fun n9 => (rfl : _ = exe ξ n9 (d + 3) j_M_toldCodes 190 [(0, .ref 137), (1, J x), (2, J y), (3, J n), (4, J a), (5, J l5), (6, J z1), (7, J (3 + z7))] [J 16, J z1] s23)) ?_
                refine T.icmp_ge rfl rfl (by omega) (by omega) (fun c44 => ?_) (fun c44 => ?_)
                · refine T.go 2 (fun n9 => (rfl : _ = exe ξ n9 (d + 3) j_M_toldCodes 202 [(0, .ref 137), (1, J x), (2, J y), (3, J n), (4, J a), (5, J l5), (6, J z1), (7, J (3 + z7))] [J 16, J z1] s23)) ?_
                  refine T.icmp_ne rfl rfl (by omega) (by omega) (fun c45 => ?_) (fun c45 => ?_)
                  · exfalso
                    omega
                  · refine T.go 5 (fun n9 => (rfl : _ = exe ξ n9 (d + 3) j_M_toldCodes 215 [(0, .ref 137), (1, J x), (2, J y), (3, J n), (4, J a), (5, J l5), (6, J z1), (7, J (3 + z7)), (8, J l5)] [.ref 137, .ref 137] s23)) ?_
                    refine T.get rfl rfl rfl ms23.ob rfl ?_
                    refine T.if_ne rfl rfl (by omega) (fun c46 => ?_) (fun c46 => ?_)
                    · refine T.go 2 (fun n9 => (rfl : _ = exe ξ n9 (d + 3) j_M_toldCodes 242 [(0, .ref 137), (1, J x), (2, J y), (3, J n), (4, J a), (5, J l5), (6, J z1), (7, J (3 + z7)), (8, J l5)] [J 1, .ref 137] s23)) ?_
                      refine T.mput (c' := c) (io' := io) (mo' := mo) (fa' := fa) (pl' := pl) (ns' := ns) (rw' := rw) (en' := en) (wy' := wy) (wh' := wh) (bi' := bi_7) (ed' := ed) (sz' := sz) (md' := md) (bd' := 1) (li' := li) (wk' := wk) (we' := we) ms23 rfl rfl rfl rfl rfl rfl (by omega) (fun s24 ms24 fs24 => ?_)
                      have gs24 := gs23.trans fs24
                      refine T.go 2 (fun n9 => (rfl : _ = exe ξ n9 (d + 3) j_M_toldCodes 248 [(0, .ref 137), (1, J x), (2, J y), (3, J n), (4, J a), (5, J l5), (6, J z1), (7, J (3 + z7)), (8, J l5), (9, J 0)] [] s24)) ?_
                      exact loop248 _ a z1 (3 + z7) l5 0 bi_7 1 lk9 s24 ms24 gs24 (by omega) (by omega) (by omega) (by omega) (by omega) (by omega) (by omega) (by omega) (by omega) (by omega) (by omega) (by omega) (fun h => absurd h (by omega)) (fun h => absurd h (by omega)) (fun h => absurd h (by omega)) (fun _ => TG_no (TL_bad (i8 (by omega)) hW9 (by omega) (Or.inl taz1))) (by omega) (by omega) (Nat.lt_succ_self _)
                    · exfalso
                      omega
                · exfalso
                  omega
            · refine T.go 5 (fun n9 => (rfl : _ = exe ξ n9 (d + 3) j_M_toldCodes 190 [(0, .ref 137), (1, J x), (2, J y), (3, J n), (4, J a), (5, J l5), (6, J z1), (7, J 1)] [J 16, J z1] s3)) ?_
              refine T.icmp_ge rfl rfl (by omega) (by omega) (fun c47 => ?_) (fun c47 => ?_)
              · exfalso
                omega
              · refine T.go 5 (fun n9 => (rfl : _ = exe ξ n9 (d + 3) j_M_toldCodes 215 [(0, .ref 137), (1, J x), (2, J y), (3, J n), (4, J a), (5, J l5), (6, J z1), (7, J 1), (8, J z1)] [.ref 137, .ref 137] s3)) ?_
                refine T.get rfl rfl rfl ms3.ob rfl ?_
                refine T.if_ne rfl rfl (by omega) (fun c48 => ?_) (fun c48 => ?_)
                · refine T.go 2 (fun n9 => (rfl : _ = exe ξ n9 (d + 3) j_M_toldCodes 242 [(0, .ref 137), (1, J x), (2, J y), (3, J n), (4, J a), (5, J l5), (6, J z1), (7, J 1), (8, J z1)] [J 1, .ref 137] s3)) ?_
                  refine T.mput (c' := c) (io' := io) (mo' := mo) (fa' := fa) (pl' := pl) (ns' := ns) (rw' := rw) (en' := en) (wy' := wy) (wh' := wh) (bi' := bi_1) (ed' := ed) (sz' := sz) (md' := md) (bd' := 1) (li' := li) (wk' := wk) (we' := we) ms3 rfl rfl rfl rfl rfl rfl (by omega) (fun s25 ms25 fs25 => ?_)
                  have gs25 := gs3.trans fs25
                  refine T.go 2 (fun n9 => (rfl : _ = exe ξ n9 (d + 3) j_M_toldCodes 248 [(0, .ref 137), (1, J x), (2, J y), (3, J n), (4, J a), (5, J l5), (6, J z1), (7, J 1), (8, J z1), (9, J 0)] [] s25)) ?_
                  exact loop248 _ a z1 1 z1 0 bi_1 1 lk9 s25 ms25 gs25 (by omega) (by omega) (by omega) (by omega) (by omega) (by omega) (by omega) (by omega) (by omega) (by omega) (by omega) (by omega) (fun h => absurd h (by omega)) (fun h => absurd h (by omega)) (fun h => absurd h (by omega)) (fun _ => TG_no (TL_bad (i8 (by omega)) hW9 (by omega) (Or.inl taz1))) (by omega) (by omega) (Nat.lt_succ_self _)
                · exfalso
                  omega
  have loop39 : ∀ (f39 : Nat) (n : Int) (k : Int) (bi9 : Int) (bd9 : Int) (lk9 : List Int32) (τ : qH), MS τ c io mo fa pl ns rw en wy wh bi9 ed sz md bd9 li wk we Lc la lm ln lh ld lk9 lt → FM σ τ → 4 ≤ n → n ≤ 19 → 0 ≤ k → k ≤ n → (bd9 = 0 → n = 4 + BV (gc Lc rw) bi 4 ∧ bi9 = bi + 4 + 3 * k ∧ bi + 4 + 3 * k ≤ ed) → (bd9 = 1 → ed < bi + 4 ∨ ed < bi + 4 + 3 * (4 + BV (gc Lc rw) bi 4)) → (bd9 = 0 → ∀ j : Int, 0 ≤ j → j < 19 → gl lk9 (340 + j) = CQ (gc Lc rw) (bi + 4) k.toNat j) → bi ≤ bi9 → bi9 ≤ ed → (n - k).toNat < f39 → T ξ (d + 3) j_M_toldCodes 39 [(0, .ref 137), (1, J x), (2, J y), (3, J n), (4, J k)] [] τ (fun v σ' => ∃ (bi1 : Int) (bd1 : Int) (lk1 : List Int32), v = none ∧ MS σ' c io mo fa pl ns rw en wy wh bi1 ed sz md bd1 li wk we Lc la lm ln lh ld lk1 lt ∧ FM σ σ' ∧ bi ≤ bi1 ∧ bi1 ≤ ed ∧ ((bd1 = 0 ∧ TG (gc Lc rw) ed (x + y) bi ∧ bi1 = (TT (gc Lc rw) ed (x + y) bi).2.1 ∧ (∀ j : Int, 0 ≤ j → j < x → gl lk1 j = (TT (gc Lc rw) ed (x + y) bi).2.2 j) ∧ (∀ j : Int, 0 ≤ j → j < y → gl lk1 (300 + j) = (TT (gc Lc rw) ed (x + y) bi).2.2 (x + j))) ∨ (bd1 = 1 ∧ ¬ TG (gc Lc rw) ed (x + y) bi))) := by
    intro f39
    induction f39 with
    | zero => intro n k bi9 bd9 lk9 τ mτ fτ i0 i1 i2 i3 i4 i5 i6 i7 i8 hm39; omega
    | succ f39 ih39 =>
      intro n k bi9 bd9 lk9 τ mτ fτ i0 i1 i2 i3 i4 i5 i6 i7 i8 hm39
      have rτ := mτ.rg
      have nτ := mτ.len
      refine T.go 2 (fun n9 => (rfl : _ = exe ξ n9 (d + 3) j_M_toldCodes 42 [(0, .ref 137), (1, J x), (2, J y), (3, J n), (4, J k)] [J n, J k] τ)) ?_
      refine T.icmp_ge rfl rfl (by omega) (by omega) (fun c49 => ?_) (fun c49 => ?_)
      · refine T.go 2 (fun n9 => (rfl : _ = exe ξ n9 (d + 3) j_M_toldCodes 72 [(0, .ref 137), (1, J x), (2, J y), (3, J n), (4, J k)] [.ref 137, .ref 137] τ)) ?_
        refine T.get rfl rfl rfl mτ.ob rfl ?_
        refine T.if_ne rfl rfl (by omega) (fun c50 => ?_) (fun c50 => ?_)
        · refine T.go 2 (fun n9 => (rfl : _ = exe ξ n9 (d + 3) j_M_toldCodes 95 [(0, .ref 137), (1, J x), (2, J y), (3, J n), (4, J k)] [J 1, .ref 137] τ)) ?_
          refine T.mput (c' := c) (io' := io) (mo' := mo) (fa' := fa) (pl' := pl) (ns' := ns) (rw' := rw) (en' := en) (wy' := wy) (wh' := wh) (bi' := bi9) (ed' := ed) (sz' := sz) (md' := md) (bd' := 1) (li' := li) (wk' := wk) (we' := we) mτ rfl rfl rfl rfl rfl rfl (by omega) (fun s26 ms26 fs26 => ?_)
          have gs26 := fτ.trans fs26
          refine T.go 4 (fun n9 => (rfl : _ = exe ξ n9 (d + 3) j_M_toldCodes 104 [(0, .ref 137), (1, J x), (2, J y), (3, J n), (4, J 0), (5, J (-1))] [] s26)) ?_
          exact loop104 _ n 0 (-1) bi9 1 lk9 s26 ms26 gs26 (by omega) (by omega) (by omega) (by omega) (by omega) (by omega) (by omega) (fun h => absurd h (by omega)) (fun h => absurd h (by omega)) (fun _ q => by have q0 := q.1; have q1 := q.2.1; omega) (fun _ => Or.inl ⟨rfl, rfl⟩) (fun h => absurd h (by omega)) (Nat.lt_succ_self _)
        · refine T.go 3 (fun n9 => (rfl : _ = exe ξ n9 (d + 3) j_M_toldCodes 84 [(0, .ref 137), (1, J x), (2, J y), (3, J n), (4, J k)] [J 19, J 340, .ref 137, .ref 137] τ)) ?_
          refine T.callv (as := [J 340, J 19]) (r := [.ref 137]) rfl rfl rfl rfl mτ.ob rfl (s_M_fisComplete (d + 1) 340 19 τ mτ (by omega) (by omega) (by omega) (by omega) (by omega)) (fun v8 s27 hqs27 => ?_)
          obtain ⟨z8, rfl, esz8, hzz8, hyz8, pz8_0⟩ := hqs27
          rw [esz8]
          rw [show (19 : Int).toNat = 19 from rfl] at pz8_0
          refine T.if_ne rfl rfl (by omega) (fun c51 => ?_) (fun c51 => ?_)
          · refine T.go 1 (fun n9 => (rfl : _ = exe ξ n9 (d + 3) j_M_toldCodes 95 [(0, .ref 137), (1, J x), (2, J y), (3, J n), (4, J k)] [J 0, .ref 137] τ)) ?_
            refine T.mput (c' := c) (io' := io) (mo' := mo) (fa' := fa) (pl' := pl) (ns' := ns) (rw' := rw) (en' := en) (wy' := wy) (wh' := wh) (bi' := bi9) (ed' := ed) (sz' := sz) (md' := md) (bd' := 0) (li' := li) (wk' := wk) (we' := we) mτ rfl rfl rfl rfl rfl rfl (by omega) (fun s28 ms28 fs28 => ?_)
            have gs28 := fτ.trans fs28
            refine T.go 4 (fun n9 => (rfl : _ = exe ξ n9 (d + 3) j_M_toldCodes 104 [(0, .ref 137), (1, J x), (2, J y), (3, J n), (4, J 0), (5, J (-1))] [] s28)) ?_
            exact loop104 _ n 0 (-1) bi9 0 lk9 s28 ms28 gs28 (by omega) (by omega) (by omega) (by omega) (by omega) (by omega) (by omega) (fun _ => (OKQ_congr (L := lkf lk9 340) (n := 19) (fun j a b => by have := i6 (by omega) j a (by omega); rw [show k = 4 + BV (gc Lc rw) bi 4 by omega] at this; exact this)).mp ((pz8_0).mp (by omega))) (fun _ => by rw [gw2_0, Int.sub_zero]; unfold TT; rw [show bi9 = bi + 4 + 3 * (4 + BV (gc Lc rw) bi 4) by omega]) (fun h => absurd h (by omega)) (fun _ => Or.inl ⟨rfl, rfl⟩) (fun h j a b => by have := i6 (by omega) j a b; rw [show k = 4 + BV (gc Lc rw) bi 4 by omega] at this; exact this) (Nat.lt_succ_self _)
          · refine T.go 2 (fun n9 => (rfl : _ = exe ξ n9 (d + 3) j_M_toldCodes 95 [(0, .ref 137), (1, J x), (2, J y), (3, J n), (4, J k)] [J 1, .ref 137] τ)) ?_
            refine T.mput (c' := c) (io' := io) (mo' := mo) (fa' := fa) (pl' := pl) (ns' := ns) (rw' := rw) (en' := en) (wy' := wy) (wh' := wh) (bi' := bi9) (ed' := ed) (sz' := sz) (md' := md) (bd' := 1) (li' := li) (wk' := wk) (we' := we) mτ rfl rfl rfl rfl rfl rfl (by omega) (fun s29 ms29 fs29 => ?_)
            have gs29 := fτ.trans fs29
            refine T.go 4 (fun n9 => (rfl : _ = exe ξ n9 (d + 3) j_M_toldCodes 104 [(0, .ref 137), (1, J x), (2, J y), (3, J n), (4, J 0), (5, J (-1))] [] s29)) ?_
            exact loop104 _ n 0 (-1) bi9 1 lk9 s29 ms29 gs29 (by omega) (by omega) (by omega) (by omega) (by omega) (by omega) (by omega) (fun h => absurd h (by omega)) (fun h => absurd h (by omega)) (fun _ q => absurd ((pz8_0).mpr ((OKQ_congr (L := lkf lk9 340) (n := 19) (fun j a b => by have := i6 (by omega) j a (by omega); rw [show k = 4 + BV (gc Lc rw) bi 4 by omega] at this; exact this)).mpr q.2.2.1)) (by omega)) (fun _ => Or.inl ⟨rfl, rfl⟩) (fun h => absurd h (by omega)) (Nat.lt_succ_self _)
      · refine T.go 1 (fun n9 => (rfl : _ = exe ξ n9 (d + 3) j_M_toldCodes 46 [(0, .ref 137), (1, J x), (2, J y), (3, J n), (4, J k)] [.ref 137] τ)) ?_
        refine T.get rfl rfl rfl mτ.ob rfl ?_
        refine T.go 2 (fun n9 => (rfl : _ = exe ξ n9 (d + 3) j_M_toldCodes 54 [(0, .ref 137), (1, J x), (2, J y), (3, J n), (4, J k)] [J k, J 340, .ref 144] τ)) ?_
        refine T.calls (as := [J k]) (r := [J 340, .ref 144]) rfl rfl (by decide) rfl rfl (s_M_forderOf (d + 2) k τ (by omega) (by omega) (by omega)) (fun v9 s30 hqs30 => ?_)
        obtain ⟨z9, rfl, esz9, hzz9, hyz9, pz9_0⟩ := hqs30
        rw [esz9]
        refine T.iadd rfl ?_
        refine T.go 2 (fun n9 => (rfl : _ = exe ξ n9 (d + 3) j_M_toldCodes 60 [(0, .ref 137), (1, J x), (2, J y), (3, J n), (4, J k)] [J 3, .ref 137, J (340 + z9), .ref 144] τ)) ?_
        refine T.callv (as := [J 3]) (r := [J (340 + z9), .ref 144]) rfl rfl rfl rfl mτ.ob rfl (s_M_ftake (d + 1) 3 τ mτ (by omega) (by omega) (by omega) (by omega) (by omega) (by omega) (by omega)) (fun v10 s31 hqs31 => ?_)
        obtain ⟨z10, bi_8, bd_8, rfl, ms31, fs31, hzz10, hyz10, pz10_0, pz10_1, pz10_2⟩ := hqs31
        have ns31 := ms31.len
        have rs31 := ms31.rg
        have gs31 := fτ.trans fs31
        rw [show (3 : Int).toNat = 3 from rfl] at pz10_2
        refine T.mast144 ms31 rfl (by omega) (fun s32 ms32 fs32 => ?_)
        have ns32 := ms32.len
        have gs32 := gs31.trans fs32
        have gss32 : ∀ j : Int, 0 ≤ j → gl (lk9.set (340 + z9 : Int).toNat (Int32.ofInt z10)) j = if j = 340 + z9 then z10 else gl lk9 j := fun j hj => gl_set ⟨by omega, by omega⟩ ⟨by omega, by omega⟩ hj
        have ges32 : gl (lk9.set (340 + z9 : Int).toNat (Int32.ofInt z10)) (340 + z9) = z10 := (gss32 (340 + z9) (by omega)).trans (if_pos rfl)
        refine T.iinc (lv' := [(0, .ref 137), (1, J x), (2, J y), (3, J n), (4, J (k + 1))]) rfl rfl rfl rfl ?_
        refine T.go 1 (fun n9 => (rfl : _ = exe ξ n9 (d + 3) j_M_toldCodes 39 [(0, .ref 137), (1, J x), (2, J y), (3, J n), (4, J (k + 1))] [] s32)) ?_
        exact ih39  n (k + 1) bi_8 bd_8 (lk9.set (340 + z9 : Int).toNat (Int32.ofInt z10)) s32 ms32 gs32 (by omega) (by omega) (by omega) (by omega) (by omega) (by omega) (fun h j a b => by have h0 : bd9 = 0 := (by omega); have h1 := i6 h0; have q1 : z10 = BV (gc Lc rw) (bi + 4 + 3 * k) 3 := (by rw [← show bi9 = bi + 4 + 3 * k by omega]; omega); rw [gss32 (340 + j) (by omega), CQ_step (by omega)]; show _ = (if j = ordQ k then _ else _); by_cases e : j = ordQ k; (· rw [if_pos (by omega), if_pos e, q1]); (· rw [if_neg (by omega), if_neg e]; exact h1 j a b)) (by omega) (by omega) (by omega)
  have loop11 : ∀ (f11 : Nat) (n : Int) (k : Int) (bi9 : Int) (bd9 : Int) (lk9 : List Int32) (τ : qH), MS τ c io mo fa pl ns rw en wy wh bi9 ed sz md bd9 li wk we Lc la lm ln lh ld lk9 lt → FM σ τ → 4 ≤ n → n ≤ 19 → 0 ≤ k → k ≤ 20 → (bd9 = 0 → n = 4 + BV (gc Lc rw) bi 4 ∧ bi9 = bi + 4 ∧ bi + 4 ≤ ed) → (bd9 = 1 → ed < bi + 4) → (∀ j : Int, 0 ≤ j → j < k → gl lk9 (340 + j) = 0) → bi ≤ bi9 → bi9 ≤ ed → (20 - k).toNat < f11 → T ξ (d + 3) j_M_toldCodes 11 [(0, .ref 137), (1, J x), (2, J y), (3, J n), (4, J k)] [] τ (fun v σ' => ∃ (bi1 : Int) (bd1 : Int) (lk1 : List Int32), v = none ∧ MS σ' c io mo fa pl ns rw en wy wh bi1 ed sz md bd1 li wk we Lc la lm ln lh ld lk1 lt ∧ FM σ σ' ∧ bi ≤ bi1 ∧ bi1 ≤ ed ∧ ((bd1 = 0 ∧ TG (gc Lc rw) ed (x + y) bi ∧ bi1 = (TT (gc Lc rw) ed (x + y) bi).2.1 ∧ (∀ j : Int, 0 ≤ j → j < x → gl lk1 j = (TT (gc Lc rw) ed (x + y) bi).2.2 j) ∧ (∀ j : Int, 0 ≤ j → j < y → gl lk1 (300 + j) = (TT (gc Lc rw) ed (x + y) bi).2.2 (x + j))) ∨ (bd1 = 1 ∧ ¬ TG (gc Lc rw) ed (x + y) bi))) := by
    intro f11
    induction f11 with
    | zero => intro n k bi9 bd9 lk9 τ mτ fτ i0 i1 i2 i3 i4 i5 i6 i7 i8 hm11; omega
    | succ f11 ih11 =>
      intro n k bi9 bd9 lk9 τ mτ fτ i0 i1 i2 i3 i4 i5 i6 i7 i8 hm11
      have rτ := mτ.rg
      have nτ := mτ.len
      refine T.go 2 (fun n9 => (rfl : _ = exe ξ n9 (d + 3) j_M_toldCodes 15 [(0, .ref 137), (1, J x), (2, J y), (3, J n), (4, J k)] [J 20, J k] τ)) ?_
      refine T.icmp_ge rfl rfl (by omega) (by omega) (fun c52 => ?_) (fun c52 => ?_)
      · refine T.go 2 (fun n9 => (rfl : _ = exe ξ n9 (d + 3) j_M_toldCodes 39 [(0, .ref 137), (1, J x), (2, J y), (3, J n), (4, J 0)] [] τ)) ?_
        exact loop39 _ n 0 bi9 bd9 lk9 τ mτ fτ (by omega) (by omega) (by omega) (by omega) (by omega) (by omega) (fun _ j a b => i6 j a (by omega)) (by omega) (by omega) (Nat.lt_succ_self _)
      · refine T.go 1 (fun n9 => (rfl : _ = exe ξ n9 (d + 3) j_M_toldCodes 19 [(0, .ref 137), (1, J x), (2, J y), (3, J n), (4, J k)] [.ref 137] τ)) ?_
        refine T.get rfl rfl rfl mτ.ob rfl ?_
        refine T.go 2 (fun n9 => (rfl : _ = exe ξ n9 (d + 3) j_M_toldCodes 27 [(0, .ref 137), (1, J x), (2, J y), (3, J n), (4, J k)] [J k, J 340, .ref 144] τ)) ?_
        refine T.iadd rfl ?_
        refine T.go 1 (fun n9 => (rfl : _ = exe ξ n9 (d + 3) j_M_toldCodes 29 [(0, .ref 137), (1, J x), (2, J y), (3, J n), (4, J k)] [J 0, J (340 + k), .ref 144] τ)) ?_
        refine T.mast144 mτ rfl (by omega) (fun s33 ms33 fs33 => ?_)
        have ns33 := ms33.len
        have gs33 := fτ.trans fs33
        have gss33 : ∀ j : Int, 0 ≤ j → gl (lk9.set (340 + k : Int).toNat (Int32.ofInt 0)) j = if j = 340 + k then 0 else gl lk9 j := fun j hj => gl_set ⟨by omega, by omega⟩ ⟨by omega, by omega⟩ hj
        have ges33 : gl (lk9.set (340 + k : Int).toNat (Int32.ofInt 0)) (340 + k) = 0 := (gss33 (340 + k) (by omega)).trans (if_pos rfl)
        refine T.iinc (lv' := [(0, .ref 137), (1, J x), (2, J y), (3, J n), (4, J (k + 1))]) rfl rfl rfl rfl ?_
        refine T.go 1 (fun n9 => (rfl : _ = exe ξ n9 (d + 3) j_M_toldCodes 11 [(0, .ref 137), (1, J x), (2, J y), (3, J n), (4, J (k + 1))] [] s33)) ?_
        exact ih11  n (k + 1) bi9 bd9 (lk9.set (340 + k : Int).toNat (Int32.ofInt 0)) s33 ms33 gs33 (by omega) (by omega) (by omega) (by omega) (by omega) (by omega) (fun j a b => if q : j = k then (by rw [q]; exact ges33) else ((gss33 (340 + j) (by omega)).trans (if_neg (by omega))).trans (i6 j a (by omega))) (by omega) (by omega) (by omega)
  refine T.go 3 (fun n9 => (rfl : _ = exe ξ n9 (d + 3) j_M_toldCodes 3 [(0, .ref 137), (1, J x), (2, J y)] [J 4, .ref 137, J 4] σ)) ?_
  refine T.callv (as := [J 4]) (r := [J 4]) rfl rfl rfl rfl hM.ob rfl (s_M_ftake (d + 1) 4 σ hM (by omega) (by omega) (by omega) (by omega) (by omega) (by omega) (by omega)) (fun v11 s34 hqs34 => ?_)
  obtain ⟨z11, bi_9, bd_9, rfl, ms34, fs34, hzz11, hyz11, pz11_0, pz11_1, pz11_2⟩ := hqs34
  have ns34 := ms34.len
  have rs34 := ms34.rg
  rw [show (4 : Int).toNat = 4 from rfl] at pz11_2
  refine T.iadd rfl ?_
  refine T.go 3 (fun n9 => (rfl : _ = exe ξ n9 (d + 3) j_M_toldCodes 11 [(0, .ref 137), (1, J x), (2, J y), (3, J (4 + z11)), (4, J 0)] [] s34)) ?_
  exact loop11 _ (4 + z11) 0 bi_9 bd_9 lk s34 ms34 fs34 (by omega) (by omega) (by omega) (by omega) (by omega) (by omega) (fun j a b => absurd b (by omega)) (by omega) (by omega) (Nat.lt_succ_self _)
