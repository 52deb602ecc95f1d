/-! The model: is a row an archive. -/
theorem NRn_40 (g hs : Int → Int) (x : Int) : NRn g hs x = 1 → W2 g (hs x + 28) ≤ 40 := by
  unfold NRn
  split
  · omega
  · omega
set_option maxHeartbeats 4000000 in
theorem s_M_nameLength {ξ : Nat → Option (Nat × List Int32)} {c io mo fa pl ns rw en wy wh bi ed sz md bd li wk we : Int} {Lc : List Int64} {la lm ln lh ld lk lt : List Int32} (d : Nat) (x : Int) (σ : qH) (hM : MS σ c io mo fa pl ns rw en wy wh bi ed sz md bd li wk we Lc la lm ln lh ld lk lt) (rx : -2147483648 ≤ x ∧ x ≤ 2147483647) (pre0 : 0 ≤ x) (pre1 : x ≤ 63) : T ξ (d + 2) j_M_nameLength 0 (lv_args 0 [.ref 137, J x]) [] σ (fun v σ' => ∃ (z : Int), v = some (J z) ∧ σ' = σ ∧ 0 ≤ z ∧ z ≤ 65535 ∧ (gl lh x ≤ 7970 → z = W2 (gc Lc rw) (gl lh x + 28))) := by
  have r0 := hM.rg
  have n0 := hM.len
  refine T.go 2 (fun n9 => (rfl : _ = exe ξ n9 (d + 2) j_M_nameLength 2 [(0, .ref 137), (1, J x)] [.ref 137, .ref 137] σ)) ?_
  refine T.get rfl rfl rfl hM.ob rfl ?_
  refine T.go 1 (fun n9 => (rfl : _ = exe ξ n9 (d + 2) j_M_nameLength 6 [(0, .ref 137), (1, J x)] [J x, .ref 142, .ref 137] σ)) ?_
  refine T.iald rfl rfl hM.c142 (by omega) (fun z1 hzz1 hyz1 hez1 => ?_)
  have hbz1 := hM.b142.at hez1 ⟨hzz1, hyz1⟩
  have gzz1 := gl_of hez1 ⟨hzz1, hyz1⟩
  subst gzz1
  refine T.go 1 (fun n9 => (rfl : _ = exe ξ n9 (d + 2) j_M_nameLength 9 [(0, .ref 137), (1, J x)] [J 28, J (gl lh x), .ref 137] σ)) ?_
  refine T.iadd rfl ?_
  refine T.callv (as := [J ((gl lh x) + 28)]) (r := []) rfl rfl rfl rfl hM.ob rfl (s_M_two d ((gl lh x) + 28) σ hM (by omega) (by omega) (by omega)) (fun v1 s1 hqs1 => ?_)
  obtain ⟨z2, rfl, esz2, hzz2, hyz2, pz2_0⟩ := hqs1
  rw [esz2]
  exact T.ireti rfl rfl ⟨_, rfl, rfl, by omega, by omega, by omega⟩

set_option maxHeartbeats 4000000 in
theorem s_M_sameName {ξ : Nat → Option (Nat × List Int32)} {c io mo fa pl ns rw en wy wh bi ed sz md bd li wk we : Int} {Lc : List Int64} {la lm ln lh ld lk lt : List Int32} (d : Nat) (x : Int) (y : Int) (σ : qH) (hM : MS σ c io mo fa pl ns rw en wy wh bi ed sz md bd li wk we Lc la lm ln lh ld lk lt) (rx : -2147483648 ≤ x ∧ x ≤ 2147483647) (ry : -2147483648 ≤ y ∧ y ≤ 2147483647) (pre0 : 0 ≤ x) (pre1 : x ≤ 63) (pre2 : 0 ≤ y) (pre3 : y ≤ 63) (pre4 : gl lh x ≤ 7932) (pre5 : gl lh y ≤ 7932) (pre6 : gl lh x + 46 + W2 (gc Lc rw) (gl lh x + 28) ≤ 8000) (pre7 : gl lh y + 46 + W2 (gc Lc rw) (gl lh y + 28) ≤ 8000) (pre8 : W2 (gc Lc rw) (gl lh y + 28) ≤ 40) : T ξ (d + 3) j_M_sameName 0 (lv_args 0 [.ref 137, J x, J y]) [] σ (fun v σ' => ∃ (z : Int), v = some (J z) ∧ σ' = σ ∧ 0 ≤ z ∧ z ≤ 1 ∧ z = SNn (gc Lc rw) (gl lh x) (gl lh y)) := by
  have r0 := hM.rg
  have n0 := hM.len
  have hg := gc_r Lc rw
  have hW := W2_r hg
  have hV := W4_r hg
  have q1 := hW (gl lh x + 28)
  have q2 := hW (gl lh y + 28)
  have loop17 : ∀ (f17 : Nat) (k : Int), 0 ≤ k → k ≤ W2 (gc Lc rw) (gl lh x + 28) → EQn (gc Lc rw) (gl lh x + 46) (gl lh y + 46) k.toNat = 1 → W2 (gc Lc rw) (gl lh x + 28) = W2 (gc Lc rw) (gl lh y + 28) → (W2 (gc Lc rw) (gl lh x + 28) - k).toNat < f17 → T ξ (d + 3) j_M_sameName 17 [(0, .ref 137), (1, J x), (2, J y), (3, J k)] [] σ (fun v σ' => ∃ (z : Int), v = some (J z) ∧ σ' = σ ∧ 0 ≤ z ∧ z ≤ 1 ∧ z = SNn (gc Lc rw) (gl lh x) (gl lh y)) := by
    intro f17
    induction f17 with
    | zero => intro k i0 i1 i2 i3 hm17; omega
    | succ f17 ih17 =>
      intro k i0 i1 i2 i3 hm17
      refine T.go 3 (fun n9 => (rfl : _ = exe ξ n9 (d + 3) j_M_sameName 20 [(0, .ref 137), (1, J x), (2, J y), (3, J k)] [J x, .ref 137, J k] σ)) ?_
      refine T.callv (as := [J x]) (r := [J k]) rfl rfl rfl rfl hM.ob rfl (s_M_nameLength d x σ hM (by omega) (by omega) (by omega)) (fun v1 s1 hqs1 => ?_)
      obtain ⟨z1, rfl, esz1, hzz1, hyz1, pz1_0⟩ := hqs1
      rw [esz1]
      refine T.icmp_ge rfl rfl (by omega) (by omega) (fun c1 => ?_) (fun c1 => ?_)
      · refine T.go 1 (fun n9 => (rfl : _ = exe ξ n9 (d + 3) j_M_sameName 76 [(0, .ref 137), (1, J x), (2, J y), (3, J k)] [J 1] σ)) ?_
        exact T.iretz rfl rfl (by omega) ⟨_, rfl, rfl, by omega, by omega, (by unfold SNn; first | (rw [if_neg (by omega)]) | (rw [if_pos (by omega), show (W2 (gc Lc rw) (gl lh x + 28)).toNat = k.toNat by omega]; exact i2.symm) | (rw [if_pos (by omega)]; exact (EQn_no (m := (k + 1).toNat) (by rw [EQn_step (by omega), if_neg (by rw [gc_at (by omega), gc_at (by omega)]; omega)]) (by omega)).symm))⟩
      · refine T.go 2 (fun n9 => (rfl : _ = exe ξ n9 (d + 3) j_M_sameName 28 [(0, .ref 137), (1, J x), (2, J y), (3, J k)] [.ref 137, .ref 137] σ)) ?_
        refine T.get rfl rfl rfl hM.ob rfl ?_
        refine T.go 1 (fun n9 => (rfl : _ = exe ξ n9 (d + 3) j_M_sameName 32 [(0, .ref 137), (1, J x), (2, J y), (3, J k)] [.ref 137, J rw, .ref 137] σ)) ?_
        refine T.get rfl rfl rfl hM.ob rfl ?_
        refine T.go 1 (fun n9 => (rfl : _ = exe ξ n9 (d + 3) j_M_sameName 36 [(0, .ref 137), (1, J x), (2, J y), (3, J k)] [J x, .ref 142, J rw, .ref 137] σ)) ?_
        refine T.iald rfl rfl hM.c142 (by omega) (fun z2 hzz2 hyz2 hez2 => ?_)
        have hbz2 := hM.b142.at hez2 ⟨hzz2, hyz2⟩
        have gzz2 := gl_of hez2 ⟨hzz2, hyz2⟩
        subst gzz2
        refine T.go 1 (fun n9 => (rfl : _ = exe ξ n9 (d + 3) j_M_sameName 39 [(0, .ref 137), (1, J x), (2, J y), (3, J k)] [J 46, J (gl lh x), J rw, .ref 137] σ)) ?_
        refine T.iadd rfl ?_
        refine T.go 1 (fun n9 => (rfl : _ = exe ξ n9 (d + 3) j_M_sameName 41 [(0, .ref 137), (1, J x), (2, J y), (3, J k)] [J k, J ((gl lh x) + 46), J rw, .ref 137] σ)) ?_
        refine T.iadd rfl ?_
        refine T.callv (as := [J rw, J (((gl lh x) + 46) + k)]) (r := []) rfl rfl rfl rfl hM.ob rfl (s_M_get (d + 2) rw (((gl lh x) + 46) + k) σ hM (by omega)) (fun v2 s2 hqs2 => ?_)
        obtain ⟨z3, rfl, esz3, hzz3, hyz3, pz3_0⟩ := hqs2
        rw [esz3]
        refine T.go 2 (fun n9 => (rfl : _ = exe ξ n9 (d + 3) j_M_sameName 47 [(0, .ref 137), (1, J x), (2, J y), (3, J k)] [.ref 137, .ref 137, J z3] σ)) ?_
        refine T.get rfl rfl rfl hM.ob rfl ?_
        refine T.go 1 (fun n9 => (rfl : _ = exe ξ n9 (d + 3) j_M_sameName 51 [(0, .ref 137), (1, J x), (2, J y), (3, J k)] [.ref 137, J rw, .ref 137, J z3] σ)) ?_
        refine T.get rfl rfl rfl hM.ob rfl ?_
        refine T.go 1 (fun n9 => (rfl : _ = exe ξ n9 (d + 3) j_M_sameName 55 [(0, .ref 137), (1, J x), (2, J y), (3, J k)] [J y, .ref 142, J rw, .ref 137, J z3] σ)) ?_
        refine T.iald rfl rfl hM.c142 (by omega) (fun z4 hzz4 hyz4 hez4 => ?_)
        have hbz4 := hM.b142.at hez4 ⟨hzz4, hyz4⟩
        have gzz4 := gl_of hez4 ⟨hzz4, hyz4⟩
        subst gzz4
        refine T.go 1 (fun n9 => (rfl : _ = exe ξ n9 (d + 3) j_M_sameName 58 [(0, .ref 137), (1, J x), (2, J y), (3, J k)] [J 46, J (gl lh y), J rw, .ref 137, J z3] σ)) ?_
        refine T.iadd rfl ?_
        refine T.go 1 (fun n9 => (rfl : _ = exe ξ n9 (d + 3) j_M_sameName 60 [(0, .ref 137), (1, J x), (2, J y), (3, J k)] [J k, J ((gl lh y) + 46), J rw, .ref 137, J z3] σ)) ?_
        refine T.iadd rfl ?_
        refine T.callv (as := [J rw, J (((gl lh y) + 46) + k)]) (r := [J z3]) rfl rfl rfl rfl hM.ob rfl (s_M_get (d + 2) rw (((gl lh y) + 46) + k) σ hM (by omega)) (fun v3 s3 hqs3 => ?_)
        obtain ⟨z5, rfl, esz5, hzz5, hyz5, pz5_0⟩ := hqs3
        rw [esz5]
        refine T.icmp_eq rfl rfl (by omega) (by omega) (fun c2 => ?_) (fun c2 => ?_)
        · refine T.iinc (lv' := [(0, .ref 137), (1, J x), (2, J y), (3, J (k + 1))]) rfl rfl rfl rfl ?_
          refine T.go 1 (fun n9 => (rfl : _ = exe ξ n9 (d + 3) j_M_sameName 17 [(0, .ref 137), (1, J x), (2, J y), (3, J (k + 1))] [] σ)) ?_
          exact ih17  (k + 1)  (by omega) (by omega) (by rw [EQn_step (by omega), if_pos ⟨i2, by rw [gc_at (by omega), gc_at (by omega)]; omega⟩]) (by omega) (by omega)
        · refine T.go 1 (fun n9 => (rfl : _ = exe ξ n9 (d + 3) j_M_sameName 68 [(0, .ref 137), (1, J x), (2, J y), (3, J k)] [J 0] σ)) ?_
          exact T.iretz rfl rfl (by omega) ⟨_, rfl, rfl, by omega, by omega, (by unfold SNn; first | (rw [if_neg (by omega)]) | (rw [if_pos (by omega), show (W2 (gc Lc rw) (gl lh x + 28)).toNat = k.toNat by omega]; exact i2.symm) | (rw [if_pos (by omega)]; exact (EQn_no (m := (k + 1).toNat) (by rw [EQn_step (by omega), if_neg (by rw [gc_at (by omega), gc_at (by omega)]; omega)]) (by omega)).symm))⟩
  refine T.go 2 (fun n9 => (rfl : _ = exe ξ n9 (d + 3) j_M_sameName 2 [(0, .ref 137), (1, J x), (2, J y)] [J x, .ref 137] σ)) ?_
  refine T.callv (as := [J x]) (r := []) rfl rfl rfl rfl hM.ob rfl (s_M_nameLength d x σ hM (by omega) (by omega) (by omega)) (fun v4 s4 hqs4 => ?_)
  obtain ⟨z6, rfl, esz6, hzz6, hyz6, pz6_0⟩ := hqs4
  rw [esz6]
  refine T.go 2 (fun n9 => (rfl : _ = exe ξ n9 (d + 3) j_M_sameName 7 [(0, .ref 137), (1, J x), (2, J y)] [J y, .ref 137, J z6] σ)) ?_
  refine T.callv (as := [J y]) (r := [J z6]) rfl rfl rfl rfl hM.ob rfl (s_M_nameLength d y σ hM (by omega) (by omega) (by omega)) (fun v5 s5 hqs5 => ?_)
  obtain ⟨z7, rfl, esz7, hzz7, hyz7, pz7_0⟩ := hqs5
  rw [esz7]
  refine T.icmp_eq rfl rfl (by omega) (by omega) (fun c3 => ?_) (fun c3 => ?_)
  · refine T.go 2 (fun n9 => (rfl : _ = exe ξ n9 (d + 3) j_M_sameName 17 [(0, .ref 137), (1, J x), (2, J y), (3, J 0)] [] σ)) ?_
    exact loop17 _ 0  (by omega) (by omega) rfl (by omega) (Nat.lt_succ_self _)
  · refine T.go 1 (fun n9 => (rfl : _ = exe ξ n9 (d + 3) j_M_sameName 14 [(0, .ref 137), (1, J x), (2, J y)] [J 0] σ)) ?_
    exact T.iretz rfl rfl (by omega) ⟨_, rfl, rfl, by omega, by omega, (by unfold SNn; first | (rw [if_neg (by omega)]) | (rw [if_pos (by omega), show (W2 (gc Lc rw) (gl lh x + 28)).toNat = k.toNat by omega]; exact i2.symm) | (rw [if_pos (by omega)]; exact (EQn_no (m := (k + 1).toNat) (by rw [EQn_step (by omega), if_neg (by rw [gc_at (by omega), gc_at (by omega)]; omega)]) (by omega)).symm))⟩

set_option maxHeartbeats 4000000 in
theorem s_M_isNameRight {ξ : Nat → Option (Nat × List Int32)} {c io mo fa pl ns rw en wy wh bi ed sz md bd li wk we : Int} {Lc : List Int64} {la lm ln lh ld lk lt : List Int32} (d : Nat) (x : Int) (σ : qH) (hM : MS σ c io mo fa pl ns rw en wy wh bi ed sz md bd li wk we Lc la lm ln lh ld lk lt) (rx : -2147483648 ≤ x ∧ x ≤ 2147483647) (pre0 : 0 ≤ x) (pre1 : x ≤ 63) (pre2 : gl lh x ≤ 7932) (pre3 : gl lh x + 46 + W2 (gc Lc rw) (gl lh x + 28) ≤ 8000) (pre4 : ∀ j : Int, 0 ≤ j → j < x → gl lh j ≤ 7932 ∧ gl lh j + 46 + W2 (gc Lc rw) (gl lh j + 28) ≤ 8000) : T ξ (d + 4) j_M_isNameRight 0 (lv_args 0 [.ref 137, J x]) [] σ (fun v σ' => ∃ (z : Int), v = some (J z) ∧ σ' = σ ∧ 0 ≤ z ∧ z ≤ 1 ∧ z = NRn (gc Lc rw) (gl lh) x) := by
  have r0 := hM.rg
  have n0 := hM.len
  have hg := gc_r Lc rw
  have hW := W2_r hg
  have hV := W4_r hg
  have q2 := hW (gl lh x + 28)
  have loop66 : ∀ (f66 : Nat) (k : Int), 0 ≤ k → k ≤ x → DPn (gc Lc rw) (gl lh) x k.toNat = 0 → LTn (gc Lc rw) (gl lh x + 46) (W2 (gc Lc rw) (gl lh x + 28)).toNat = 1 → 1 ≤ W2 (gc Lc rw) (gl lh x + 28) → W2 (gc Lc rw) (gl lh x + 28) ≤ 40 → (x - k).toNat < f66 → T ξ (d + 4) j_M_isNameRight 66 [(0, .ref 137), (1, J x), (2, J k)] [] σ (fun v σ' => ∃ (z : Int), v = some (J z) ∧ σ' = σ ∧ 0 ≤ z ∧ z ≤ 1 ∧ z = NRn (gc Lc rw) (gl lh) x) := by
    intro f66
    induction f66 with
    | zero => intro k i0 i1 i2 i3 i4 i5 hm66; omega
    | succ f66 ih66 =>
      intro k i0 i1 i2 i3 i4 i5 hm66
      refine T.go 2 (fun n9 => (rfl : _ = exe ξ n9 (d + 4) j_M_isNameRight 68 [(0, .ref 137), (1, J x), (2, J k)] [J x, J k] σ)) ?_
      refine T.icmp_ge rfl rfl (by omega) (by omega) (fun c1 => ?_) (fun c1 => ?_)
      · refine T.go 1 (fun n9 => (rfl : _ = exe ξ n9 (d + 4) j_M_isNameRight 89 [(0, .ref 137), (1, J x), (2, J k)] [J 1] σ)) ?_
        exact T.iretz rfl rfl (by omega) ⟨_, rfl, rfl, by omega, by omega, (by unfold NRn; rw [if_pos ⟨by omega, by omega, i3, by rw [show x.toNat = k.toNat by omega]; exact i2⟩])⟩
      · refine T.go 3 (fun n9 => (rfl : _ = exe ξ n9 (d + 4) j_M_isNameRight 74 [(0, .ref 137), (1, J x), (2, J k)] [J x, J k, .ref 137] σ)) ?_
        have qk := pre4 k (by omega) (by omega)
        refine T.callv (as := [J k, J x]) (r := []) rfl rfl rfl rfl hM.ob rfl (s_M_sameName d k x σ hM (by omega) (by omega) (by omega) (by omega) (by omega) (by omega) (by omega) (by omega) (by omega) (by omega) (by omega)) (fun v1 s1 hqs1 => ?_)
        obtain ⟨z1, rfl, esz1, hzz1, hyz1, pz1_0⟩ := hqs1
        rw [esz1]
        refine T.if_eq rfl rfl (by omega) (fun c2 => ?_) (fun c2 => ?_)
        · refine T.iinc (lv' := [(0, .ref 137), (1, J x), (2, J (k + 1))]) rfl rfl rfl rfl ?_
          refine T.go 1 (fun n9 => (rfl : _ = exe ξ n9 (d + 4) j_M_isNameRight 66 [(0, .ref 137), (1, J x), (2, J (k + 1))] [] σ)) ?_
          exact ih66  (k + 1)  (by omega) (by omega) (by rw [DPn_step (by omega), if_neg (by omega)]) i3 (by omega) (by omega) (by omega)
        · refine T.go 1 (fun n9 => (rfl : _ = exe ξ n9 (d + 4) j_M_isNameRight 81 [(0, .ref 137), (1, J x), (2, J k)] [J 0] σ)) ?_
          exact T.iretz rfl rfl (by omega) ⟨_, rfl, rfl, by omega, by omega, (by unfold NRn; rw [if_neg (fun q => by have q9 := DPn_yes (g := gc Lc rw) (hs := gl lh) (x := x) (m := (k + 1).toNat) (n := x.toNat) (by rw [DPn_step (by omega), if_pos (Or.inr (by omega))]) (by omega); omega)])⟩
  have loop18 : ∀ (f18 : Nat) (k : Int), 0 ≤ k → k ≤ W2 (gc Lc rw) (gl lh x + 28) → LTn (gc Lc rw) (gl lh x + 46) k.toNat = 1 → 1 ≤ W2 (gc Lc rw) (gl lh x + 28) → W2 (gc Lc rw) (gl lh x + 28) ≤ 40 → (W2 (gc Lc rw) (gl lh x + 28) - k).toNat < f18 → T ξ (d + 4) j_M_isNameRight 18 [(0, .ref 137), (1, J x), (2, J k)] [] σ (fun v σ' => ∃ (z : Int), v = some (J z) ∧ σ' = σ ∧ 0 ≤ z ∧ z ≤ 1 ∧ z = NRn (gc Lc rw) (gl lh) x) := by
    intro f18
    induction f18 with
    | zero => intro k i0 i1 i2 i3 i4 hm18; omega
    | succ f18 ih18 =>
      intro k i0 i1 i2 i3 i4 hm18
      refine T.go 3 (fun n9 => (rfl : _ = exe ξ n9 (d + 4) j_M_isNameRight 21 [(0, .ref 137), (1, J x), (2, J k)] [J x, .ref 137, J k] σ)) ?_
      refine T.callv (as := [J x]) (r := [J k]) rfl rfl rfl rfl hM.ob rfl (s_M_nameLength (d + 1) x σ hM (by omega) (by omega) (by omega)) (fun v2 s2 hqs2 => ?_)
      obtain ⟨z2, rfl, esz2, hzz2, hyz2, pz2_0⟩ := hqs2
      rw [esz2]
      refine T.icmp_ge rfl rfl (by omega) (by omega) (fun c3 => ?_) (fun c3 => ?_)
      · refine T.go 2 (fun n9 => (rfl : _ = exe ξ n9 (d + 4) j_M_isNameRight 66 [(0, .ref 137), (1, J x), (2, J 0)] [] σ)) ?_
        exact loop66 _ 0  (by omega) (by omega) rfl (by rw [show (W2 (gc Lc rw) (gl lh x + 28)).toNat = k.toNat by omega]; exact i2) (by omega) (by omega) (Nat.lt_succ_self _)
      · refine T.go 2 (fun n9 => (rfl : _ = exe ξ n9 (d + 4) j_M_isNameRight 29 [(0, .ref 137), (1, J x), (2, J k)] [.ref 137, .ref 137] σ)) ?_
        refine T.get rfl rfl rfl hM.ob rfl ?_
        refine T.go 1 (fun n9 => (rfl : _ = exe ξ n9 (d + 4) j_M_isNameRight 33 [(0, .ref 137), (1, J x), (2, J k)] [.ref 137, J rw, .ref 137] σ)) ?_
        refine T.get rfl rfl rfl hM.ob rfl ?_
        refine T.go 1 (fun n9 => (rfl : _ = exe ξ n9 (d + 4) j_M_isNameRight 37 [(0, .ref 137), (1, J x), (2, J k)] [J x, .ref 142, J rw, .ref 137] σ)) ?_
        refine T.iald rfl rfl hM.c142 (by omega) (fun z3 hzz3 hyz3 hez3 => ?_)
        have hbz3 := hM.b142.at hez3 ⟨hzz3, hyz3⟩
        have gzz3 := gl_of hez3 ⟨hzz3, hyz3⟩
        subst gzz3
        refine T.go 1 (fun n9 => (rfl : _ = exe ξ n9 (d + 4) j_M_isNameRight 40 [(0, .ref 137), (1, J x), (2, J k)] [J 46, J (gl lh x), J rw, .ref 137] σ)) ?_
        refine T.iadd rfl ?_
        refine T.go 1 (fun n9 => (rfl : _ = exe ξ n9 (d + 4) j_M_isNameRight 42 [(0, .ref 137), (1, J x), (2, J k)] [J k, J ((gl lh x) + 46), J rw, .ref 137] σ)) ?_
        refine T.iadd rfl ?_
        refine T.callv (as := [J rw, J (((gl lh x) + 46) + k)]) (r := []) rfl rfl rfl rfl hM.ob rfl (s_M_get (d + 3) rw (((gl lh x) + 46) + k) σ hM (by omega)) (fun v3 s3 hqs3 => ?_)
        obtain ⟨z4, rfl, esz4, hzz4, hyz4, pz4_0⟩ := hqs3
        rw [esz4]
        refine T.go 2 (fun n9 => (rfl : _ = exe ξ n9 (d + 4) j_M_isNameRight 50 [(0, .ref 137), (1, J x), (2, J k)] [J 126, J 33, J z4] σ)) ?_
        refine T.calls (as := [J z4, J 33, J 126]) (r := []) rfl rfl (by decide) rfl rfl (s_M_in (d + 3) z4 33 126 σ (by omega) (by omega) (by omega)) (fun v4 s4 hqs4 => ?_)
        obtain ⟨z5, rfl, esz5, hzz5, hyz5, pz5_0, pz5_1⟩ := hqs4
        rw [esz5]
        refine T.if_ne rfl rfl (by omega) (fun c4 => ?_) (fun c4 => ?_)
        · refine T.iinc (lv' := [(0, .ref 137), (1, J x), (2, J (k + 1))]) rfl rfl rfl rfl ?_
          refine T.go 1 (fun n9 => (rfl : _ = exe ξ n9 (d + 4) j_M_isNameRight 18 [(0, .ref 137), (1, J x), (2, J (k + 1))] [] σ)) ?_
          exact ih18  (k + 1)  (by omega) (by omega) (by rw [LTn_step (by omega), if_pos ⟨i2, by rw [gc_at (by omega)]; omega⟩]) (by omega) (by omega) (by omega)
        · refine T.go 1 (fun n9 => (rfl : _ = exe ξ n9 (d + 4) j_M_isNameRight 57 [(0, .ref 137), (1, J x), (2, J k)] [J 0] σ)) ?_
          exact T.iretz rfl rfl (by omega) ⟨_, rfl, rfl, by omega, by omega, (by unfold NRn; rw [if_neg (fun q => by have q9 := LTn_no (g := gc Lc rw) (a := gl lh x + 46) (m := (k + 1).toNat) (n := (W2 (gc Lc rw) (gl lh x + 28)).toNat) (by rw [LTn_step (by omega), if_neg (by rw [gc_at (by omega)]; omega)]) (by omega); omega)])⟩
  refine T.go 2 (fun n9 => (rfl : _ = exe ξ n9 (d + 4) j_M_isNameRight 2 [(0, .ref 137), (1, J x)] [J x, .ref 137] σ)) ?_
  refine T.callv (as := [J x]) (r := []) rfl rfl rfl rfl hM.ob rfl (s_M_nameLength (d + 1) x σ hM (by omega) (by omega) (by omega)) (fun v5 s5 hqs5 => ?_)
  obtain ⟨z6, rfl, esz6, hzz6, hyz6, pz6_0⟩ := hqs5
  rw [esz6]
  refine T.go 2 (fun n9 => (rfl : _ = exe ξ n9 (d + 4) j_M_isNameRight 8 [(0, .ref 137), (1, J x)] [J 40, J 1, J z6] σ)) ?_
  refine T.calls (as := [J z6, J 1, J 40]) (r := []) rfl rfl (by decide) rfl rfl (s_M_in (d + 3) z6 1 40 σ (by omega) (by omega) (by omega)) (fun v6 s6 hqs6 => ?_)
  obtain ⟨z7, rfl, esz7, hzz7, hyz7, pz7_0, pz7_1⟩ := hqs6
  rw [esz7]
  refine T.if_ne rfl rfl (by omega) (fun c5 => ?_) (fun c5 => ?_)
  · refine T.go 2 (fun n9 => (rfl : _ = exe ξ n9 (d + 4) j_M_isNameRight 18 [(0, .ref 137), (1, J x), (2, J 0)] [] σ)) ?_
    exact loop18 _ 0  (by omega) (by omega) rfl (by omega) (by omega) (Nat.lt_succ_self _)
  · refine T.go 1 (fun n9 => (rfl : _ = exe ξ n9 (d + 4) j_M_isNameRight 15 [(0, .ref 137), (1, J x)] [J 0] σ)) ?_
    exact T.iretz rfl rfl (by omega) ⟨_, rfl, rfl, by omega, by omega, (by unfold NRn; rw [if_neg (by omega)])⟩

set_option maxHeartbeats 4000000 in
theorem s_M_isLocalRight {ξ : Nat → Option (Nat × List Int32)} {c io mo fa pl ns rw en wy wh bi ed sz md bd li wk we : Int} {Lc : List Int64} {la lm ln lh ld lk lt : List Int32} (d : Nat) (x : Int) (l : Int) (dr : Int) (σ : qH) (hM : MS σ c io mo fa pl ns rw en wy wh bi ed sz md bd li wk we Lc la lm ln lh ld lk lt) (rx : -2147483648 ≤ x ∧ x ≤ 2147483647) (rl : -9223372036854775808 ≤ l ∧ l ≤ 9223372036854775807) (rdr : -2147483648 ≤ dr ∧ dr ≤ 2147483647) (pre0 : 0 ≤ x) (pre1 : x ≤ 63) (pre2 : 0 ≤ l) (pre3 : l ≤ 8000000000) (pre4 : 0 ≤ dr) (pre5 : dr ≤ 7978) (pre6 : gl lh x ≤ 7932) (pre7 : gl lh x + 46 + W2 (gc Lc rw) (gl lh x + 28) ≤ 8000) (pre8 : W2 (gc Lc rw) (gl lh x + 28) ≤ 40) : T ξ (d + 3) j_M_isLocalRight 0 (lv_args 0 [.ref 137, J x, JL l, J dr]) [] σ (fun v σ' => ∃ (z : Int) (ld1 : List Int32), v = some (J z) ∧ MS σ' c io mo fa pl ns rw en wy wh bi ed sz md bd li wk we Lc la lm ln lh ld1 lk lt ∧ FM σ σ' ∧ 0 ≤ z ∧ z ≤ 1 ∧ z = LRn (gc Lc rw) (gl lh x) l dr ∧ (∀ j : Int, 0 ≤ j → j ≠ x → gl ld1 j = gl ld j) ∧ (z = 1 → 0 ≤ gl ld1 x ∧ gl ld1 x + W4 (gc Lc rw) (gl lh x + 20) ≤ dr) ∧ (z = 1 → gl ld1 x = l + 30 + W2 (gc Lc rw) (gl lh x + 28) + W2 (gc Lc rw) (l + 28))) := by
  have r0 := hM.rg
  have n0 := hM.len
  have hg := gc_r Lc rw
  have hW := W2_r hg
  have hV := W4_r hg
  have q2 := hW (gl lh x + 28)
  have q3 := hV (gl lh x + 20)
  have loop58 : ∀ (f58 : Nat) (k : Int) (τ : qH), MS τ c io mo fa pl ns rw en wy wh bi ed sz md bd li wk we Lc la lm ln lh ld lk lt → FM σ τ → l + 30 + W2 (gc Lc rw) (gl lh x + 28) ≤ dr → STn (gc Lc rw) l 3 4 = 1 → W2 (gc Lc rw) (l + 26) = W2 (gc Lc rw) (gl lh x + 28) → 0 ≤ k → k ≤ W2 (gc Lc rw) (gl lh x + 28) → EQn (gc Lc rw) (l + 30) (gl lh x + 46) k.toNat = 1 → (W2 (gc Lc rw) (gl lh x + 28) - k).toNat < f58 → T ξ (d + 3) j_M_isLocalRight 58 [(0, .ref 137), (1, J x), (2, JL l), (4, J dr), (5, J (W2 (gc Lc rw) (gl lh x + 28))), (6, J l), (7, J k)] [] τ (fun v σ' => ∃ (z : Int) (ld1 : List Int32), v = some (J z) ∧ MS σ' c io mo fa pl ns rw en wy wh bi ed sz md bd li wk we Lc la lm ln lh ld1 lk lt ∧ FM σ σ' ∧ 0 ≤ z ∧ z ≤ 1 ∧ z = LRn (gc Lc rw) (gl lh x) l dr ∧ (∀ j : Int, 0 ≤ j → j ≠ x → gl ld1 j = gl ld j) ∧ (z = 1 → 0 ≤ gl ld1 x ∧ gl ld1 x + W4 (gc Lc rw) (gl lh x + 20) ≤ dr) ∧ (z = 1 → gl ld1 x = l + 30 + W2 (gc Lc rw) (gl lh x + 28) + W2 (gc Lc rw) (l + 28))) := by
    intro f58
    induction f58 with
    | zero => intro k τ mτ fτ i0 i1 i2 i3 i4 i5 hm58; omega
    | succ f58 ih58 =>
      intro k τ mτ fτ i0 i1 i2 i3 i4 i5 hm58
      have rτ := mτ.rg
      have nτ := mτ.len
      refine T.go 2 (fun n9 => (rfl : _ = exe ξ n9 (d + 3) j_M_isLocalRight 62 [(0, .ref 137), (1, J x), (2, JL l), (4, J dr), (5, J (W2 (gc Lc rw) (gl lh x + 28))), (6, J l), (7, J k)] [J (W2 (gc Lc rw) (gl lh x + 28)), J k] τ)) ?_
      refine T.icmp_ge rfl rfl (by omega) (by omega) (fun c1 => ?_) (fun c1 => ?_)
      · refine T.go 1 (fun n9 => (rfl : _ = exe ξ n9 (d + 3) j_M_isLocalRight 113 [(0, .ref 137), (1, J x), (2, JL l), (4, J dr), (5, J (W2 (gc Lc rw) (gl lh x + 28))), (6, J l), (7, J k)] [.ref 137] τ)) ?_
        refine T.get rfl rfl rfl mτ.ob rfl ?_
        refine T.go 3 (fun n9 => (rfl : _ = exe ξ n9 (d + 3) j_M_isLocalRight 121 [(0, .ref 137), (1, J x), (2, JL l), (4, J dr), (5, J (W2 (gc Lc rw) (gl lh x + 28))), (6, J l), (7, J k)] [J 30, J l, J x, .ref 143] τ)) ?_
        refine T.iadd rfl ?_
        refine T.go 1 (fun n9 => (rfl : _ = exe ξ n9 (d + 3) j_M_isLocalRight 124 [(0, .ref 137), (1, J x), (2, JL l), (4, J dr), (5, J (W2 (gc Lc rw) (gl lh x + 28))), (6, J l), (7, J k)] [J (W2 (gc Lc rw) (gl lh x + 28)), J (l + 30), J x, .ref 143] τ)) ?_
        refine T.iadd rfl ?_
        refine T.go 3 (fun n9 => (rfl : _ = exe ξ n9 (d + 3) j_M_isLocalRight 130 [(0, .ref 137), (1, J x), (2, JL l), (4, J dr), (5, J (W2 (gc Lc rw) (gl lh x + 28))), (6, J l), (7, J k)] [J 28, J l, .ref 137, J ((l + 30) + (W2 (gc Lc rw) (gl lh x + 28))), J x, .ref 143] τ)) ?_
        refine T.iadd rfl ?_
        refine T.callv (as := [J (l + 28)]) (r := [J ((l + 30) + (W2 (gc Lc rw) (gl lh x + 28))), J x, .ref 143]) rfl rfl rfl rfl mτ.ob rfl (s_M_two (d + 1) (l + 28) τ mτ (by omega) (by omega) (by omega)) (fun v1 s1 hqs1 => ?_)
        obtain ⟨z1, rfl, esz1, hzz1, hyz1, pz1_0⟩ := hqs1
        rw [esz1]
        refine T.iadd rfl ?_
        refine T.mast143 mτ rfl (by omega) (fun s2 ms2 fs2 => ?_)
        have ns2 := ms2.len
        have gs2 := fτ.trans fs2
        have gss2 : ∀ j : Int, 0 ≤ j → gl (ld.set (x : Int).toNat (Int32.ofInt (((l + 30) + (W2 (gc Lc rw) (gl lh x + 28))) + z1))) j = if j = x then ((l + 30) + (W2 (gc Lc rw) (gl lh x + 28))) + z1 else gl ld j := fun j hj => gl_set ⟨by omega, by omega⟩ ⟨by omega, by omega⟩ hj
        have ges2 : gl (ld.set (x : Int).toNat (Int32.ofInt (((l + 30) + (W2 (gc Lc rw) (gl lh x + 28))) + z1))) x = ((l + 30) + (W2 (gc Lc rw) (gl lh x + 28))) + z1 := (gss2 x (by omega)).trans (if_pos rfl)
        refine T.go 1 (fun n9 => (rfl : _ = exe ξ n9 (d + 3) j_M_isLocalRight 137 [(0, .ref 137), (1, J x), (2, JL l), (4, J dr), (5, J (W2 (gc Lc rw) (gl lh x + 28))), (6, J l), (7, J k)] [.ref 137] s2)) ?_
        refine T.get rfl rfl rfl ms2.ob rfl ?_
        refine T.go 1 (fun n9 => (rfl : _ = exe ξ n9 (d + 3) j_M_isLocalRight 141 [(0, .ref 137), (1, J x), (2, JL l), (4, J dr), (5, J (W2 (gc Lc rw) (gl lh x + 28))), (6, J l), (7, J k)] [J x, .ref 143] s2)) ?_
        refine T.iald rfl rfl ms2.c143 (by omega) (fun z2 hzz2 hyz2 hez2 => ?_)
        have gzz2 := gl_of hez2 ⟨hzz2, hyz2⟩
        subst gzz2
        refine T.i2l rfl (by omega) ?_
        refine T.go 2 (fun n9 => (rfl : _ = exe ξ n9 (d + 3) j_M_isLocalRight 145 [(0, .ref 137), (1, J x), (2, JL l), (4, J dr), (5, J (W2 (gc Lc rw) (gl lh x + 28))), (6, J l), (7, J k)] [.ref 137, .ref 137, JL (gl (ld.set (x : Int).toNat (Int32.ofInt (((l + 30) + (W2 (gc Lc rw) (gl lh x + 28))) + z1))) x)] s2)) ?_
        refine T.get rfl rfl rfl ms2.ob rfl ?_
        refine T.go 1 (fun n9 => (rfl : _ = exe ξ n9 (d + 3) j_M_isLocalRight 149 [(0, .ref 137), (1, J x), (2, JL l), (4, J dr), (5, J (W2 (gc Lc rw) (gl lh x + 28))), (6, J l), (7, J k)] [J x, .ref 142, .ref 137, JL (gl (ld.set (x : Int).toNat (Int32.ofInt (((l + 30) + (W2 (gc Lc rw) (gl lh x + 28))) + z1))) x)] s2)) ?_
        refine T.iald rfl rfl ms2.c142 (by omega) (fun z3 hzz3 hyz3 hez3 => ?_)
        have hbz3 := ms2.b142.at hez3 ⟨hzz3, hyz3⟩
        have gzz3 := gl_of hez3 ⟨hzz3, hyz3⟩
        subst gzz3
        refine T.go 1 (fun n9 => (rfl : _ = exe ξ n9 (d + 3) j_M_isLocalRight 152 [(0, .ref 137), (1, J x), (2, JL l), (4, J dr), (5, J (W2 (gc Lc rw) (gl lh x + 28))), (6, J l), (7, J k)] [J 20, J (gl lh x), .ref 137, JL (gl (ld.set (x : Int).toNat (Int32.ofInt (((l + 30) + (W2 (gc Lc rw) (gl lh x + 28))) + z1))) x)] s2)) ?_
        refine T.iadd rfl ?_
        refine T.callv (as := [J ((gl lh x) + 20)]) (r := [JL (gl (ld.set (x : Int).toNat (Int32.ofInt (((l + 30) + (W2 (gc Lc rw) (gl lh x + 28))) + z1))) x)]) rfl rfl rfl rfl ms2.ob rfl (s_M_four d ((gl lh x) + 20) s2 ms2 (by omega) (by omega) (by omega)) (fun v2 s3 hqs3 => ?_)
        obtain ⟨z4, rfl, esz4, hzz4, hyz4, pz4_0⟩ := hqs3
        rw [esz4]
        refine T.ladd rfl ?_
        refine T.go 1 (fun n9 => (rfl : _ = exe ξ n9 (d + 3) j_M_isLocalRight 159 [(0, .ref 137), (1, J x), (2, JL l), (4, J dr), (5, J (W2 (gc Lc rw) (gl lh x + 28))), (6, J l), (7, J k)] [J dr, JL ((gl (ld.set (x : Int).toNat (Int32.ofInt (((l + 30) + (W2 (gc Lc rw) (gl lh x + 28))) + z1))) x) + z4)] s2)) ?_
        refine T.i2l rfl (by omega) ?_
        refine T.lcmp rfl (by omega) (by omega) (fun c2 => ?_) (fun c2 => ?_) (fun c2 => ?_)
        · refine T.go 1 (fun n9 => (rfl : _ = exe ξ n9 (d + 3) j_M_isLocalRight 164 [(0, .ref 137), (1, J x), (2, JL l), (4, J dr), (5, J (W2 (gc Lc rw) (gl lh x + 28))), (6, J l), (7, J k)] [] s2)) ?_
          refine T.go 2 (fun n9 => (rfl : _ = exe ξ n9 (d + 3) j_M_isLocalRight 169 [(0, .ref 137), (1, J x), (2, JL l), (4, J dr), (5, J (W2 (gc Lc rw) (gl lh x + 28))), (6, J l), (7, J k)] [J 1] s2)) ?_
          exact T.iretz rfl rfl (by omega) ⟨_, (ld.set (x : Int).toNat (Int32.ofInt (((l + 30) + (W2 (gc Lc rw) (gl lh x + 28))) + z1))), rfl, ms2, gs2, by omega, by omega, (by unfold LRn; rw [if_pos ⟨by omega, by omega, by omega, by rw [show (W2 (gc Lc rw) (gl lh x + 28)).toNat = k.toNat by omega]; exact i5, by omega⟩]), (fun j hj hn => (gss2 j hj).trans (if_neg hn)), by omega, by omega⟩
        · refine T.go 1 (fun n9 => (rfl : _ = exe ξ n9 (d + 3) j_M_isLocalRight 164 [(0, .ref 137), (1, J x), (2, JL l), (4, J dr), (5, J (W2 (gc Lc rw) (gl lh x + 28))), (6, J l), (7, J k)] [] s2)) ?_
          refine T.go 2 (fun n9 => (rfl : _ = exe ξ n9 (d + 3) j_M_isLocalRight 169 [(0, .ref 137), (1, J x), (2, JL l), (4, J dr), (5, J (W2 (gc Lc rw) (gl lh x + 28))), (6, J l), (7, J k)] [J 1] s2)) ?_
          exact T.iretz rfl rfl (by omega) ⟨_, (ld.set (x : Int).toNat (Int32.ofInt (((l + 30) + (W2 (gc Lc rw) (gl lh x + 28))) + z1))), rfl, ms2, gs2, by omega, by omega, (by unfold LRn; rw [if_pos ⟨by omega, by omega, by omega, by rw [show (W2 (gc Lc rw) (gl lh x + 28)).toNat = k.toNat by omega]; exact i5, by omega⟩]), (fun j hj hn => (gss2 j hj).trans (if_neg hn)), by omega, by omega⟩
        · refine T.go 1 (fun n9 => (rfl : _ = exe ξ n9 (d + 3) j_M_isLocalRight 168 [(0, .ref 137), (1, J x), (2, JL l), (4, J dr), (5, J (W2 (gc Lc rw) (gl lh x + 28))), (6, J l), (7, J k)] [] s2)) ?_
          refine T.go 1 (fun n9 => (rfl : _ = exe ξ n9 (d + 3) j_M_isLocalRight 169 [(0, .ref 137), (1, J x), (2, JL l), (4, J dr), (5, J (W2 (gc Lc rw) (gl lh x + 28))), (6, J l), (7, J k)] [J 0] s2)) ?_
          exact T.iretz rfl rfl (by omega) ⟨_, (ld.set (x : Int).toNat (Int32.ofInt (((l + 30) + (W2 (gc Lc rw) (gl lh x + 28))) + z1))), rfl, ms2, gs2, by omega, by omega, (by unfold LRn; rw [if_neg (by omega)]), (fun j hj hn => (gss2 j hj).trans (if_neg hn)), by omega, by omega⟩
      · refine T.go 2 (fun n9 => (rfl : _ = exe ξ n9 (d + 3) j_M_isLocalRight 67 [(0, .ref 137), (1, J x), (2, JL l), (4, J dr), (5, J (W2 (gc Lc rw) (gl lh x + 28))), (6, J l), (7, J k)] [.ref 137, .ref 137] τ)) ?_
        refine T.get rfl rfl rfl mτ.ob rfl ?_
        refine T.go 2 (fun n9 => (rfl : _ = exe ξ n9 (d + 3) j_M_isLocalRight 74 [(0, .ref 137), (1, J x), (2, JL l), (4, J dr), (5, J (W2 (gc Lc rw) (gl lh x + 28))), (6, J l), (7, J k)] [J 30, J l, J rw, .ref 137] τ)) ?_
        refine T.iadd rfl ?_
        refine T.go 1 (fun n9 => (rfl : _ = exe ξ n9 (d + 3) j_M_isLocalRight 77 [(0, .ref 137), (1, J x), (2, JL l), (4, J dr), (5, J (W2 (gc Lc rw) (gl lh x + 28))), (6, J l), (7, J k)] [J k, J (l + 30), J rw, .ref 137] τ)) ?_
        refine T.iadd rfl ?_
        refine T.callv (as := [J rw, J ((l + 30) + k)]) (r := []) rfl rfl rfl rfl mτ.ob rfl (s_M_get (d + 2) rw ((l + 30) + k) τ mτ (by omega)) (fun v3 s4 hqs4 => ?_)
        obtain ⟨z5, rfl, esz5, hzz5, hyz5, pz5_0⟩ := hqs4
        rw [esz5]
        refine T.go 2 (fun n9 => (rfl : _ = exe ξ n9 (d + 3) j_M_isLocalRight 83 [(0, .ref 137), (1, J x), (2, JL l), (4, J dr), (5, J (W2 (gc Lc rw) (gl lh x + 28))), (6, J l), (7, J k)] [.ref 137, .ref 137, J z5] τ)) ?_
        refine T.get rfl rfl rfl mτ.ob rfl ?_
        refine T.go 1 (fun n9 => (rfl : _ = exe ξ n9 (d + 3) j_M_isLocalRight 87 [(0, .ref 137), (1, J x), (2, JL l), (4, J dr), (5, J (W2 (gc Lc rw) (gl lh x + 28))), (6, J l), (7, J k)] [.ref 137, J rw, .ref 137, J z5] τ)) ?_
        refine T.get rfl rfl rfl mτ.ob rfl ?_
        refine T.go 1 (fun n9 => (rfl : _ = exe ξ n9 (d + 3) j_M_isLocalRight 91 [(0, .ref 137), (1, J x), (2, JL l), (4, J dr), (5, J (W2 (gc Lc rw) (gl lh x + 28))), (6, J l), (7, J k)] [J x, .ref 142, J rw, .ref 137, J z5] τ)) ?_
        refine T.iald rfl rfl mτ.c142 (by omega) (fun z6 hzz6 hyz6 hez6 => ?_)
        have hbz6 := mτ.b142.at hez6 ⟨hzz6, hyz6⟩
        have gzz6 := gl_of hez6 ⟨hzz6, hyz6⟩
        subst gzz6
        refine T.go 1 (fun n9 => (rfl : _ = exe ξ n9 (d + 3) j_M_isLocalRight 94 [(0, .ref 137), (1, J x), (2, JL l), (4, J dr), (5, J (W2 (gc Lc rw) (gl lh x + 28))), (6, J l), (7, J k)] [J 46, J (gl lh x), J rw, .ref 137, J z5] τ)) ?_
        refine T.iadd rfl ?_
        refine T.go 1 (fun n9 => (rfl : _ = exe ξ n9 (d + 3) j_M_isLocalRight 97 [(0, .ref 137), (1, J x), (2, JL l), (4, J dr), (5, J (W2 (gc Lc rw) (gl lh x + 28))), (6, J l), (7, J k)] [J k, J ((gl lh x) + 46), J rw, .ref 137, J z5] τ)) ?_
        refine T.iadd rfl ?_
        refine T.callv (as := [J rw, J (((gl lh x) + 46) + k)]) (r := [J z5]) rfl rfl rfl rfl mτ.ob rfl (s_M_get (d + 2) rw (((gl lh x) + 46) + k) τ mτ (by omega)) (fun v4 s5 hqs5 => ?_)
        obtain ⟨z7, rfl, esz7, hzz7, hyz7, pz7_0⟩ := hqs5
        rw [esz7]
        refine T.icmp_eq rfl rfl (by omega) (by omega) (fun c3 => ?_) (fun c3 => ?_)
        · refine T.iinc (lv' := [(0, .ref 137), (1, J x), (2, JL l), (4, J dr), (5, J (W2 (gc Lc rw) (gl lh x + 28))), (6, J l), (7, J (k + 1))]) rfl rfl rfl rfl ?_
          refine T.go 1 (fun n9 => (rfl : _ = exe ξ n9 (d + 3) j_M_isLocalRight 58 [(0, .ref 137), (1, J x), (2, JL l), (4, J dr), (5, J (W2 (gc Lc rw) (gl lh x + 28))), (6, J l), (7, J (k + 1))] [] τ)) ?_
          exact ih58  (k + 1) τ mτ fτ (by omega) (by omega) (by omega) (by omega) (by omega) (by rw [EQn_step (by omega), if_pos ⟨i5, by rw [gc_at (by omega), gc_at (by omega)]; omega⟩]) (by omega)
        · refine T.go 1 (fun n9 => (rfl : _ = exe ξ n9 (d + 3) j_M_isLocalRight 105 [(0, .ref 137), (1, J x), (2, JL l), (4, J dr), (5, J (W2 (gc Lc rw) (gl lh x + 28))), (6, J l), (7, J k)] [J 0] τ)) ?_
          exact T.iretz rfl rfl (by omega) ⟨_, ld, rfl, mτ, fτ, by omega, by omega, (by unfold LRn; rw [if_neg (fun q => by have q9 := EQn_no (g := gc Lc rw) (a := l + 30) (b := gl lh x + 46) (m := (k + 1).toNat) (n := (W2 (gc Lc rw) (gl lh x + 28)).toNat) (by rw [EQn_step (by omega), if_neg (by rw [gc_at (by omega), gc_at (by omega)]; omega)]) (by omega); omega)]), (fun _ _ _ => rfl), by omega, by omega⟩
  refine T.go 2 (fun n9 => (rfl : _ = exe ξ n9 (d + 3) j_M_isLocalRight 2 [(0, .ref 137), (1, J x), (2, JL l), (4, J dr)] [J x, .ref 137] σ)) ?_
  refine T.callv (as := [J x]) (r := []) rfl rfl rfl rfl hM.ob rfl (s_M_nameLength d x σ hM (by omega) (by omega) (by omega)) (fun v5 s6 hqs6 => ?_)
  obtain ⟨z8, rfl, esz8, hzz8, hyz8, pz8_0⟩ := hqs6
  rw [esz8]
  have e5 := pz8_0 (by omega)
  subst e5
  refine T.go 2 (fun n9 => (rfl : _ = exe ξ n9 (d + 3) j_M_isLocalRight 8 [(0, .ref 137), (1, J x), (2, JL l), (4, J dr), (5, J (W2 (gc Lc rw) (gl lh x + 28)))] [JL l] σ)) ?_
  refine T.go 1 (fun n9 => (rfl : _ = exe ξ n9 (d + 3) j_M_isLocalRight 11 [(0, .ref 137), (1, J x), (2, JL l), (4, J dr), (5, J (W2 (gc Lc rw) (gl lh x + 28)))] [JL 30, JL l] σ)) ?_
  refine T.ladd rfl ?_
  refine T.go 1 (fun n9 => (rfl : _ = exe ξ n9 (d + 3) j_M_isLocalRight 14 [(0, .ref 137), (1, J x), (2, JL l), (4, J dr), (5, J (W2 (gc Lc rw) (gl lh x + 28)))] [J (W2 (gc Lc rw) (gl lh x + 28)), JL (l + 30)] σ)) ?_
  refine T.i2l rfl (by omega) ?_
  refine T.ladd rfl ?_
  refine T.go 1 (fun n9 => (rfl : _ = exe ξ n9 (d + 3) j_M_isLocalRight 18 [(0, .ref 137), (1, J x), (2, JL l), (4, J dr), (5, J (W2 (gc Lc rw) (gl lh x + 28)))] [J dr, JL ((l + 30) + (W2 (gc Lc rw) (gl lh x + 28)))] σ)) ?_
  refine T.i2l rfl (by omega) ?_
  refine T.lcmp rfl (by omega) (by omega) (fun c4 => ?_) (fun c4 => ?_) (fun c4 => ?_)
  · refine T.go 1 (fun n9 => (rfl : _ = exe ξ n9 (d + 3) j_M_isLocalRight 23 [(0, .ref 137), (1, J x), (2, JL l), (4, J dr), (5, J (W2 (gc Lc rw) (gl lh x + 28)))] [] σ)) ?_
    refine T.go 4 (fun n9 => (rfl : _ = exe ξ n9 (d + 3) j_M_isLocalRight 27 [(0, .ref 137), (1, J x), (2, JL l), (4, J dr), (5, J (W2 (gc Lc rw) (gl lh x + 28)))] [J 4, J 3, JL l, .ref 137] σ)) ?_
    refine T.callv (as := [JL l, J 3, J 4]) (r := []) rfl rfl rfl rfl hM.ob rfl (s_M_stands (d + 1) l 3 4 σ hM (by omega) (by omega) (by omega) (by omega) (by omega)) (fun v6 s7 hqs7 => ?_)
    obtain ⟨z9, rfl, esz9, hzz9, hyz9, pz9_0⟩ := hqs7
    rw [esz9]
    refine T.if_ne rfl rfl (by omega) (fun c5 => ?_) (fun c5 => ?_)
    · refine T.go 1 (fun n9 => (rfl : _ = exe ξ n9 (d + 3) j_M_isLocalRight 36 [(0, .ref 137), (1, J x), (2, JL l), (4, J dr), (5, J (W2 (gc Lc rw) (gl lh x + 28)))] [JL l] σ)) ?_
      refine T.l2i rfl ?_
      refine T.go 4 (fun n9 => (rfl : _ = exe ξ n9 (d + 3) j_M_isLocalRight 44 [(0, .ref 137), (1, J x), (2, JL l), (4, J dr), (5, J (W2 (gc Lc rw) (gl lh x + 28))), (6, J l)] [J 26, J l, .ref 137] σ)) ?_
      refine T.iadd rfl ?_
      refine T.callv (as := [J (l + 26)]) (r := []) rfl rfl rfl rfl hM.ob rfl (s_M_two (d + 1) (l + 26) σ hM (by omega) (by omega) (by omega)) (fun v7 s8 hqs8 => ?_)
      obtain ⟨z10, rfl, esz10, hzz10, hyz10, pz10_0⟩ := hqs8
      rw [esz10]
      refine T.go 1 (fun n9 => (rfl : _ = exe ξ n9 (d + 3) j_M_isLocalRight 50 [(0, .ref 137), (1, J x), (2, JL l), (4, J dr), (5, J (W2 (gc Lc rw) (gl lh x + 28))), (6, J l)] [J (W2 (gc Lc rw) (gl lh x + 28)), J z10] σ)) ?_
      refine T.icmp_eq rfl rfl (by omega) (by omega) (fun c6 => ?_) (fun c6 => ?_)
      · refine T.go 2 (fun n9 => (rfl : _ = exe ξ n9 (d + 3) j_M_isLocalRight 58 [(0, .ref 137), (1, J x), (2, JL l), (4, J dr), (5, J (W2 (gc Lc rw) (gl lh x + 28))), (6, J l), (7, J 0)] [] σ)) ?_
        exact loop58 _ 0 σ hM FM.refl (by omega) (by omega) (by omega) (by omega) (by omega) rfl (Nat.lt_succ_self _)
      · refine T.go 1 (fun n9 => (rfl : _ = exe ξ n9 (d + 3) j_M_isLocalRight 54 [(0, .ref 137), (1, J x), (2, JL l), (4, J dr), (5, J (W2 (gc Lc rw) (gl lh x + 28))), (6, J l)] [J 0] σ)) ?_
        exact T.iretz rfl rfl (by omega) ⟨_, ld, rfl, hM, FM.refl, by omega, by omega, (by unfold LRn; rw [if_neg (by omega)]), (fun _ _ _ => rfl), by omega, by omega⟩
    · refine T.go 1 (fun n9 => (rfl : _ = exe ξ n9 (d + 3) j_M_isLocalRight 34 [(0, .ref 137), (1, J x), (2, JL l), (4, J dr), (5, J (W2 (gc Lc rw) (gl lh x + 28)))] [J 0] σ)) ?_
      exact T.iretz rfl rfl (by omega) ⟨_, ld, rfl, hM, FM.refl, by omega, by omega, (by unfold LRn; rw [if_neg (by omega)]), (fun _ _ _ => rfl), by omega, by omega⟩
  · refine T.go 1 (fun n9 => (rfl : _ = exe ξ n9 (d + 3) j_M_isLocalRight 23 [(0, .ref 137), (1, J x), (2, JL l), (4, J dr), (5, J (W2 (gc Lc rw) (gl lh x + 28)))] [] σ)) ?_
    refine T.go 4 (fun n9 => (rfl : _ = exe ξ n9 (d + 3) j_M_isLocalRight 27 [(0, .ref 137), (1, J x), (2, JL l), (4, J dr), (5, J (W2 (gc Lc rw) (gl lh x + 28)))] [J 4, J 3, JL l, .ref 137] σ)) ?_
    refine T.callv (as := [JL l, J 3, J 4]) (r := []) rfl rfl rfl rfl hM.ob rfl (s_M_stands (d + 1) l 3 4 σ hM (by omega) (by omega) (by omega) (by omega) (by omega)) (fun v8 s9 hqs9 => ?_)
    obtain ⟨z11, rfl, esz11, hzz11, hyz11, pz11_0⟩ := hqs9
    rw [esz11]
    refine T.if_ne rfl rfl (by omega) (fun c7 => ?_) (fun c7 => ?_)
    · refine T.go 1 (fun n9 => (rfl : _ = exe ξ n9 (d + 3) j_M_isLocalRight 36 [(0, .ref 137), (1, J x), (2, JL l), (4, J dr), (5, J (W2 (gc Lc rw) (gl lh x + 28)))] [JL l] σ)) ?_
      refine T.l2i rfl ?_
      refine T.go 4 (fun n9 => (rfl : _ = exe ξ n9 (d + 3) j_M_isLocalRight 44 [(0, .ref 137), (1, J x), (2, JL l), (4, J dr), (5, J (W2 (gc Lc rw) (gl lh x + 28))), (6, J l)] [J 26, J l, .ref 137] σ)) ?_
      refine T.iadd rfl ?_
      refine T.callv (as := [J (l + 26)]) (r := []) rfl rfl rfl rfl hM.ob rfl (s_M_two (d + 1) (l + 26) σ hM (by omega) (by omega) (by omega)) (fun v9 s10 hqs10 => ?_)
      obtain ⟨z12, rfl, esz12, hzz12, hyz12, pz12_0⟩ := hqs10
      rw [esz12]
      refine T.go 1 (fun n9 => (rfl : _ = exe ξ n9 (d + 3) j_M_isLocalRight 50 [(0, .ref 137), (1, J x), (2, JL l), (4, J dr), (5, J (W2 (gc Lc rw) (gl lh x + 28))), (6, J l)] [J (W2 (gc Lc rw) (gl lh x + 28)), J z12] σ)) ?_
      refine T.icmp_eq rfl rfl (by omega) (by omega) (fun c8 => ?_) (fun c8 => ?_)
      · refine T.go 2 (fun n9 => (rfl : _ = exe ξ n9 (d + 3) j_M_isLocalRight 58 [(0, .ref 137), (1, J x), (2, JL l), (4, J dr), (5, J (W2 (gc Lc rw) (gl lh x + 28))), (6, J l), (7, J 0)] [] σ)) ?_
        exact loop58 _ 0 σ hM FM.refl (by omega) (by omega) (by omega) (by omega) (by omega) rfl (Nat.lt_succ_self _)
      · refine T.go 1 (fun n9 => (rfl : _ = exe ξ n9 (d + 3) j_M_isLocalRight 54 [(0, .ref 137), (1, J x), (2, JL l), (4, J dr), (5, J (W2 (gc Lc rw) (gl lh x + 28))), (6, J l)] [J 0] σ)) ?_
        exact T.iretz rfl rfl (by omega) ⟨_, ld, rfl, hM, FM.refl, by omega, by omega, (by unfold LRn; rw [if_neg (by omega)]), (fun _ _ _ => rfl), by omega, by omega⟩
    · refine T.go 1 (fun n9 => (rfl : _ = exe ξ n9 (d + 3) j_M_isLocalRight 34 [(0, .ref 137), (1, J x), (2, JL l), (4, J dr), (5, J (W2 (gc Lc rw) (gl lh x + 28)))] [J 0] σ)) ?_
      exact T.iretz rfl rfl (by omega) ⟨_, ld, rfl, hM, FM.refl, by omega, by omega, (by unfold LRn; rw [if_neg (by omega)]), (fun _ _ _ => rfl), by omega, by omega⟩
  · refine T.go 1 (fun n9 => (rfl : _ = exe ξ n9 (d + 3) j_M_isLocalRight 33 [(0, .ref 137), (1, J x), (2, JL l), (4, J dr), (5, J (W2 (gc Lc rw) (gl lh x + 28)))] [] σ)) ?_
    refine T.go 1 (fun n9 => (rfl : _ = exe ξ n9 (d + 3) j_M_isLocalRight 34 [(0, .ref 137), (1, J x), (2, JL l), (4, J dr), (5, J (W2 (gc Lc rw) (gl lh x + 28)))] [J 0] σ)) ?_
    exact T.iretz rfl rfl (by omega) ⟨_, ld, rfl, hM, FM.refl, by omega, by omega, (by unfold LRn; rw [if_neg (by omega)]), (fun _ _ _ => rfl), by omega, by omega⟩

set_option maxHeartbeats 4000000 in
theorem s_M_isFaulty {ξ : Nat → Option (Nat × List Int32)} {c io mo fa pl ns rw en wy wh bi ed sz md bd li wk we : Int} {Lc : List Int64} {la lm ln lh ld lk lt : List Int32} (d : Nat) (x : Int) (σ : qH) (hM : MS σ c io mo fa pl ns rw en wy wh bi ed sz md bd li wk we Lc la lm ln lh ld lk lt) (rx : -2147483648 ≤ x ∧ x ≤ 2147483647) (pre0 : 0 ≤ x) (pre1 : x ≤ 4) : T ξ (d + 6) j_M_isFaulty 0 (lv_args 0 [.ref 137, J x]) [] σ (fun v σ' => ∃ (z : Int) (rw1 : Int) (en1 : Int) (wy1 : Int) (wh1 : Int) (lh1 : List Int32) (ld1 : List Int32), v = some (J z) ∧ MS σ' c io mo fa pl ns rw1 en1 wy1 wh1 bi ed sz md bd li wk we Lc la lm ln lh1 ld1 lk lt ∧ FM σ σ' ∧ 0 ≤ z ∧ z ≤ 1 ∧ z = 1 - FOn (gc Lc x) (gl la x) ∧ (z = 0 → en1 = W2 (gc Lc x) (EN (gc Lc x) (gl la x) + 8)) ∧ (z = 1 → en1 = 0) ∧ rw1 = x ∧ (∀ j : Int, 0 ≤ j → j < en1 → 0 ≤ gl ld1 j ∧ gl ld1 j + W4 (gc Lc x) (gl lh1 j + 20) ≤ 8000) ∧ (∀ j : Int, 0 ≤ j → j < en1 → gl lh1 j ≤ 7932 ∧ gl lh1 j + 46 + W2 (gc Lc x) (gl lh1 j + 28) ≤ 8000) ∧ (∀ j : Int, 0 ≤ j → j < en1 → gl lh1 j = hsf (gc Lc x) (EN (gc Lc x) (gl la x) - W4 (gc Lc x) (EN (gc Lc x) (gl la x) + 12)) j) ∧ (∀ j : Int, 0 ≤ j → j < en1 → gl ld1 j = DT (gc Lc x) (EN (gc Lc x) (gl la x) - W4 (gc Lc x) (EN (gc Lc x) (gl la x) + 12) - W4 (gc Lc x) (EN (gc Lc x) (gl la x) + 16)) (hsf (gc Lc x) (EN (gc Lc x) (gl la x) - W4 (gc Lc x) (EN (gc Lc x) (gl la x) + 12)) j))) := by
  have r0 := hM.rg
  have n0 := hM.len
  have hg := gc_r Lc x
  have hW := W2_r hg
  have hV := W4_r hg
  have loop129 : ∀ (f129 : Nat) (e : Int) (n : Int) (dr : Int) (ba : Int) (h : Int) (k : Int) (lh9 : List Int32) (ld9 : List Int32) (τ : qH), MS τ c io mo fa pl ns x 0 wy wh bi ed sz md bd li wk we Lc la lm ln lh9 ld9 lk lt → FM σ τ → e = EN (gc Lc x) (gl la x) → n = W2 (gc Lc x) (e + 8) → dr = e - W4 (gc Lc x) (e + 12) → ba = dr - W4 (gc Lc x) (e + 16) → 0 ≤ e ∧ e ≤ 7978 → W2 (gc Lc x) (e + 4) = 0 ∧ W2 (gc Lc x) (e + 6) = 0 ∧ W2 (gc Lc x) (e + 8) = W2 (gc Lc x) (e + 10) ∧ n ≤ 64 → 0 ≤ dr ∧ 0 ≤ ba ∧ dr ≤ 7978 ∧ ba ≤ 7978 → 0 ≤ k ∧ k ≤ n → h = hsf (gc Lc x) dr k → 0 ≤ h ∧ h ≤ 7978 → AVn (gc Lc x) e dr ba k.toNat = 1 → (∀ j : Int, 0 ≤ j → j < k → gl lh9 j = hsf (gc Lc x) dr j) → (∀ j : Int, 0 ≤ j → j < k → gl lh9 j ≤ 7932 ∧ gl lh9 j + 46 + W2 (gc Lc x) (gl lh9 j + 28) ≤ 8000) → (∀ j : Int, 0 ≤ j → j < k → 0 ≤ gl ld9 j ∧ gl ld9 j + W4 (gc Lc x) (gl lh9 j + 20) ≤ 8000) → (∀ j : Int, 0 ≤ j → j < k → gl ld9 j = DT (gc Lc x) ba (hsf (gc Lc x) dr j)) → (n - k).toNat < f129 → T ξ (d + 6) j_M_isFaulty 129 [(0, .ref 137), (1, J x), (2, J e), (3, J n), (4, JL dr), (6, JL ba), (8, J h), (9, J k)] [] τ (fun v σ' => ∃ (z : Int) (rw1 : Int) (en1 : Int) (wy1 : Int) (wh1 : Int) (lh1 : List Int32) (ld1 : List Int32), v = some (J z) ∧ MS σ' c io mo fa pl ns rw1 en1 wy1 wh1 bi ed sz md bd li wk we Lc la lm ln lh1 ld1 lk lt ∧ FM σ σ' ∧ 0 ≤ z ∧ z ≤ 1 ∧ z = 1 - FOn (gc Lc x) (gl la x) ∧ (z = 0 → en1 = W2 (gc Lc x) (EN (gc Lc x) (gl la x) + 8)) ∧ (z = 1 → en1 = 0) ∧ rw1 = x ∧ (∀ j : Int, 0 ≤ j → j < en1 → 0 ≤ gl ld1 j ∧ gl ld1 j + W4 (gc Lc x) (gl lh1 j + 20) ≤ 8000) ∧ (∀ j : Int, 0 ≤ j → j < en1 → gl lh1 j ≤ 7932 ∧ gl lh1 j + 46 + W2 (gc Lc x) (gl lh1 j + 28) ≤ 8000) ∧ (∀ j : Int, 0 ≤ j → j < en1 → gl lh1 j = hsf (gc Lc x) (EN (gc Lc x) (gl la x) - W4 (gc Lc x) (EN (gc Lc x) (gl la x) + 12)) j) ∧ (∀ j : Int, 0 ≤ j → j < en1 → gl ld1 j = DT (gc Lc x) (EN (gc Lc x) (gl la x) - W4 (gc Lc x) (EN (gc Lc x) (gl la x) + 12) - W4 (gc Lc x) (EN (gc Lc x) (gl la x) + 16)) (hsf (gc Lc x) (EN (gc Lc x) (gl la x) - W4 (gc Lc x) (EN (gc Lc x) (gl la x) + 12)) j))) := by
    intro f129
    induction f129 with
    | zero => intro e n dr ba h k lh9 ld9 τ mτ fτ i0 i1 i2 i3 i4 i5 i6 i7 i8 i9 i10 i11 i12 i13 i14 hm129; omega
    | succ f129 ih129 =>
      intro e n dr ba h k lh9 ld9 τ mτ fτ i0 i1 i2 i3 i4 i5 i6 i7 i8 i9 i10 i11 i12 i13 i14 hm129
      have rτ := mτ.rg
      have nτ := mτ.len
      refine T.go 2 (fun n9 => (rfl : _ = exe ξ n9 (d + 6) j_M_isFaulty 132 [(0, .ref 137), (1, J x), (2, J e), (3, J n), (4, JL dr), (6, JL ba), (8, J h), (9, J k)] [J n, J k] τ)) ?_
      refine T.icmp_ge rfl rfl (by omega) (by omega) (fun c1 => ?_) (fun c1 => ?_)
      · refine T.go 2 (fun n9 => (rfl : _ = exe ξ n9 (d + 6) j_M_isFaulty 298 [(0, .ref 137), (1, J x), (2, J e), (3, J n), (4, JL dr), (6, JL ba), (8, J h), (9, J k)] [J e, J h] τ)) ?_
        refine T.icmp_eq rfl rfl (by omega) (by omega) (fun c2 => ?_) (fun c2 => ?_)
        · refine T.go 2 (fun n9 => (rfl : _ = exe ξ n9 (d + 6) j_M_isFaulty 310 [(0, .ref 137), (1, J x), (2, J e), (3, J n), (4, JL dr), (6, JL ba), (8, J h), (9, J k)] [J n, .ref 137] τ)) ?_
          refine T.mput (c' := c) (io' := io) (mo' := mo) (fa' := fa) (pl' := pl) (ns' := ns) (rw' := x) (en' := n) (wy' := wy) (wh' := wh) (bi' := bi) (ed' := ed) (sz' := sz) (md' := md) (bd' := bd) (li' := li) (wk' := wk) (we' := we) mτ rfl rfl rfl rfl rfl rfl (by omega) (fun s1 ms1 fs1 => ?_)
          have gs1 := fτ.trans fs1
          refine T.go 1 (fun n9 => (rfl : _ = exe ξ n9 (d + 6) j_M_isFaulty 314 [(0, .ref 137), (1, J x), (2, J e), (3, J n), (4, JL dr), (6, JL ba), (8, J h), (9, J k)] [J 0] s1)) ?_
          have hF : FOn (gc Lc x) (gl la x) = 1 := by have kn : k = n := (by omega); unfold FOn; rw [← i0, ← i2, ← i3, ← i1, ← kn]; exact if_pos ⟨by omega, by omega, by omega, by omega, by omega, by omega, by omega, i10, by omega⟩
          exact T.iretz rfl rfl (by omega) ⟨_, x, n, wy, wh, lh9, ld9, rfl, ms1, gs1, by omega, by omega, (by omega), (fun _ => by rw [← i0]; omega), by omega, rfl, (fun j a b => by have := i13 j a (by omega); omega), (fun j a b => i12 j a (by omega)), (fun j a b => by rw [← i0, ← i2]; exact i11 j a (by omega)), (fun j a b => by rw [← i0, ← i2, ← i3]; exact i14 j a (by omega))⟩
        · refine T.go 3 (fun n9 => (rfl : _ = exe ξ n9 (d + 6) j_M_isFaulty 304 [(0, .ref 137), (1, J x), (2, J e), (3, J n), (4, JL dr), (6, JL ba), (8, J h), (9, J k)] [J n, J 3, .ref 137] τ)) ?_
          refine T.callv (as := [J 3, J n]) (r := []) rfl rfl rfl rfl mτ.ob rfl (s_M_isWrong (d + 5) 3 n τ mτ (by omega) (by omega)) (fun v1 s2 hqs2 => ?_)
          obtain ⟨z1, wy_1, wh_1, rfl, ms2, fs2, hzz1, hyz1⟩ := hqs2
          have ns2 := ms2.len
          have rs2 := ms2.rg
          have gs2 := fτ.trans fs2
          have hF : FOn (gc Lc x) (gl la x) = 0 := by have kn : k = n := (by omega); unfold FOn; rw [← i0, ← i2, ← i3, ← i1, ← kn]; exact if_neg (by omega)
          exact T.iretz rfl rfl (by omega) ⟨_, x, 0, wy_1, wh_1, lh9, ld9, rfl, ms2, gs2, by omega, by omega, (by omega), (fun q => by omega), by omega, rfl, (fun j a b => absurd b (by omega)), (fun j a b => absurd b (by omega)), (fun j a b => absurd b (by omega)), (fun j a b => absurd b (by omega))⟩
      · refine T.go 2 (fun n9 => (rfl : _ = exe ξ n9 (d + 6) j_M_isFaulty 139 [(0, .ref 137), (1, J x), (2, J e), (3, J n), (4, JL dr), (6, JL ba), (8, J h), (9, J k)] [J 46, J h] τ)) ?_
        refine T.iadd rfl ?_
        refine T.go 1 (fun n9 => (rfl : _ = exe ξ n9 (d + 6) j_M_isFaulty 141 [(0, .ref 137), (1, J x), (2, J e), (3, J n), (4, JL dr), (6, JL ba), (8, J h), (9, J k)] [J e, J (h + 46)] τ)) ?_
        refine T.icmp_gt rfl rfl (by omega) (by omega) (fun c3 => ?_) (fun c3 => ?_)
        · refine T.go 3 (fun n9 => (rfl : _ = exe ξ n9 (d + 6) j_M_isFaulty 172 [(0, .ref 137), (1, J x), (2, J e), (3, J n), (4, JL dr), (6, JL ba), (8, J h), (9, J k)] [J k, J 3, .ref 137] τ)) ?_
          refine T.callv (as := [J 3, J k]) (r := []) rfl rfl rfl rfl mτ.ob rfl (s_M_isWrong (d + 5) 3 k τ mτ (by omega) (by omega)) (fun v2 s3 hqs3 => ?_)
          obtain ⟨z2, wy_2, wh_2, rfl, ms3, fs3, hzz2, hyz2⟩ := hqs3
          have ns3 := ms3.len
          have rs3 := ms3.rg
          have gs3 := fτ.trans fs3
          have hA : AVn (gc Lc x) e dr ba (k + 1).toNat = 0 := by rw [AVn_step (by omega), if_neg (fun u => by have u2 := u.2; unfold VKn at u2; rw [← i8] at u2; unfold NXn at u2; split at u2 <;> omega)]
          have hA2 := AVn_no (n := n.toNat) hA (by omega)
          have hF : FOn (gc Lc x) (gl la x) = 0 := by unfold FOn; rw [← i0, ← i2, ← i3, ← i1]; exact if_neg (by omega)
          exact T.iretz rfl rfl (by omega) ⟨_, x, 0, wy_2, wh_2, lh9, ld9, rfl, ms3, gs3, by omega, by omega, (by omega), (fun q => by omega), by omega, rfl, (fun j a b => absurd b (by omega)), (fun j a b => absurd b (by omega)), (fun j a b => absurd b (by omega)), (fun j a b => absurd b (by omega))⟩
        · refine T.go 2 (fun n9 => (rfl : _ = exe ξ n9 (d + 6) j_M_isFaulty 147 [(0, .ref 137), (1, J x), (2, J e), (3, J n), (4, JL dr), (6, JL ba), (8, J h), (9, J k)] [J h, .ref 137] τ)) ?_
          refine T.i2l rfl (by omega) ?_
          refine T.go 2 (fun n9 => (rfl : _ = exe ξ n9 (d + 6) j_M_isFaulty 150 [(0, .ref 137), (1, J x), (2, J e), (3, J n), (4, JL dr), (6, JL ba), (8, J h), (9, J k)] [J 2, J 1, JL h, .ref 137] τ)) ?_
          refine T.callv (as := [JL h, J 1, J 2]) (r := []) rfl rfl rfl rfl mτ.ob rfl (s_M_stands (d + 4) h 1 2 τ mτ (by omega) (by omega) (by omega) (by omega) (by omega)) (fun v3 s4 hqs4 => ?_)
          obtain ⟨z3, rfl, esz3, hzz3, hyz3, pz3_0⟩ := hqs4
          rw [esz3]
          refine T.if_eq rfl rfl (by omega) (fun c4 => ?_) (fun c4 => ?_)
          · refine T.go 3 (fun n9 => (rfl : _ = exe ξ n9 (d + 6) j_M_isFaulty 172 [(0, .ref 137), (1, J x), (2, J e), (3, J n), (4, JL dr), (6, JL ba), (8, J h), (9, J k)] [J k, J 3, .ref 137] τ)) ?_
            refine T.callv (as := [J 3, J k]) (r := []) rfl rfl rfl rfl mτ.ob rfl (s_M_isWrong (d + 5) 3 k τ mτ (by omega) (by omega)) (fun v4 s5 hqs5 => ?_)
            obtain ⟨z4, wy_3, wh_3, rfl, ms5, fs5, hzz4, hyz4⟩ := hqs5
            have ns5 := ms5.len
            have rs5 := ms5.rg
            have gs5 := fτ.trans fs5
            have hA : AVn (gc Lc x) e dr ba (k + 1).toNat = 0 := by rw [AVn_step (by omega), if_neg (fun u => by have u2 := u.2; unfold VKn at u2; rw [← i8] at u2; unfold NXn at u2; split at u2 <;> omega)]
            have hA2 := AVn_no (n := n.toNat) hA (by omega)
            have hF : FOn (gc Lc x) (gl la x) = 0 := by unfold FOn; rw [← i0, ← i2, ← i3, ← i1]; exact if_neg (by omega)
            exact T.iretz rfl rfl (by omega) ⟨_, x, 0, wy_3, wh_3, lh9, ld9, rfl, ms5, gs5, by omega, by omega, (by omega), (fun q => by omega), by omega, rfl, (fun j a b => absurd b (by omega)), (fun j a b => absurd b (by omega)), (fun j a b => absurd b (by omega)), (fun j a b => absurd b (by omega))⟩
          · refine T.go 3 (fun n9 => (rfl : _ = exe ξ n9 (d + 6) j_M_isFaulty 161 [(0, .ref 137), (1, J x), (2, J e), (3, J n), (4, JL dr), (6, JL ba), (8, J h), (9, J k)] [J 34, J h, .ref 137] τ)) ?_
            refine T.iadd rfl ?_
            refine T.callv (as := [J (h + 34)]) (r := []) rfl rfl rfl rfl mτ.ob rfl (s_M_two (d + 4) (h + 34) τ mτ (by omega) (by omega) (by omega)) (fun v5 s6 hqs6 => ?_)
            obtain ⟨z5, rfl, esz5, hzz5, hyz5, pz5_0⟩ := hqs6
            rw [esz5]
            refine T.if_eq rfl rfl (by omega) (fun c5 => ?_) (fun c5 => ?_)
            · refine T.go 2 (fun n9 => (rfl : _ = exe ξ n9 (d + 6) j_M_isFaulty 180 [(0, .ref 137), (1, J x), (2, J e), (3, J n), (4, JL dr), (6, JL ba), (8, J h), (9, J k)] [J 46, J h] τ)) ?_
              refine T.iadd rfl ?_
              refine T.go 3 (fun n9 => (rfl : _ = exe ξ n9 (d + 6) j_M_isFaulty 186 [(0, .ref 137), (1, J x), (2, J e), (3, J n), (4, JL dr), (6, JL ba), (8, J h), (9, J k)] [J 28, J h, .ref 137, J (h + 46)] τ)) ?_
              refine T.iadd rfl ?_
              refine T.callv (as := [J (h + 28)]) (r := [J (h + 46)]) rfl rfl rfl rfl mτ.ob rfl (s_M_two (d + 4) (h + 28) τ mτ (by omega) (by omega) (by omega)) (fun v6 s7 hqs7 => ?_)
              obtain ⟨z6, rfl, esz6, hzz6, hyz6, pz6_0⟩ := hqs7
              rw [esz6]
              refine T.iadd rfl ?_
              refine T.go 3 (fun n9 => (rfl : _ = exe ξ n9 (d + 6) j_M_isFaulty 196 [(0, .ref 137), (1, J x), (2, J e), (3, J n), (4, JL dr), (6, JL ba), (8, J h), (9, J k)] [J 30, J h, .ref 137, J ((h + 46) + z6)] τ)) ?_
              refine T.iadd rfl ?_
              refine T.callv (as := [J (h + 30)]) (r := [J ((h + 46) + z6)]) rfl rfl rfl rfl mτ.ob rfl (s_M_two (d + 4) (h + 30) τ mτ (by omega) (by omega) (by omega)) (fun v7 s8 hqs8 => ?_)
              obtain ⟨z7, rfl, esz7, hzz7, hyz7, pz7_0⟩ := hqs8
              rw [esz7]
              refine T.iadd rfl ?_
              refine T.go 3 (fun n9 => (rfl : _ = exe ξ n9 (d + 6) j_M_isFaulty 206 [(0, .ref 137), (1, J x), (2, J e), (3, J n), (4, JL dr), (6, JL ba), (8, J h), (9, J k)] [J 32, J h, .ref 137, J (((h + 46) + z6) + z7)] τ)) ?_
              refine T.iadd rfl ?_
              refine T.callv (as := [J (h + 32)]) (r := [J (((h + 46) + z6) + z7)]) rfl rfl rfl rfl mτ.ob rfl (s_M_two (d + 4) (h + 32) τ mτ (by omega) (by omega) (by omega)) (fun v8 s9 hqs9 => ?_)
              obtain ⟨z8, rfl, esz8, hzz8, hyz8, pz8_0⟩ := hqs9
              rw [esz8]
              refine T.iadd rfl ?_
              refine T.go 3 (fun n9 => (rfl : _ = exe ξ n9 (d + 6) j_M_isFaulty 216 [(0, .ref 137), (1, J x), (2, J e), (3, J n), (4, JL dr), (6, JL ba), (8, J h), (9, J k), (10, J ((((h + 46) + z6) + z7) + z8))] [J e, J ((((h + 46) + z6) + z7) + z8)] τ)) ?_
              refine T.icmp_le rfl rfl (by omega) (by omega) (fun c6 => ?_) (fun c6 => ?_)
              · refine T.go 1 (fun n9 => (rfl : _ = exe ξ n9 (d + 6) j_M_isFaulty 228 [(0, .ref 137), (1, J x), (2, J e), (3, J n), (4, JL dr), (6, JL ba), (8, J h), (9, J k), (10, J ((((h + 46) + z6) + z7) + z8))] [.ref 137] τ)) ?_
                refine T.get rfl rfl rfl mτ.ob rfl ?_
                refine T.go 2 (fun n9 => (rfl : _ = exe ξ n9 (d + 6) j_M_isFaulty 235 [(0, .ref 137), (1, J x), (2, J e), (3, J n), (4, JL dr), (6, JL ba), (8, J h), (9, J k), (10, J ((((h + 46) + z6) + z7) + z8))] [J h, J k, .ref 142] τ)) ?_
                refine T.mast142 mτ rfl (by omega) (by omega) (fun s10 ms10 fs10 => ?_)
                have ns10 := ms10.len
                have gs10 := fτ.trans fs10
                have gss10 : ∀ j : Int, 0 ≤ j → gl (lh9.set (k : Int).toNat (Int32.ofInt h)) j = if j = k then h else gl lh9 j := fun j hj => gl_set ⟨by omega, by omega⟩ ⟨by omega, by omega⟩ hj
                have ges10 : gl (lh9.set (k : Int).toNat (Int32.ofInt h)) k = h := (gss10 k (by omega)).trans (if_pos rfl)
                have k11 : ∀ j : Int, 0 ≤ j → j < k → gl (lh9.set (k : Int).toNat (Int32.ofInt h)) j = hsf (gc Lc x) dr j := fun j a b => ((gss10 j a).trans (if_neg (by omega))).trans (i11 j a b)
                have k12 : ∀ j : Int, 0 ≤ j → j < k → gl (lh9.set (k : Int).toNat (Int32.ofInt h)) j ≤ 7932 ∧ gl (lh9.set (k : Int).toNat (Int32.ofInt h)) j + 46 + W2 (gc Lc x) (gl (lh9.set (k : Int).toNat (Int32.ofInt h)) j + 28) ≤ 8000 := fun j a b => by rw [(gss10 j a).trans (if_neg (by omega))]; exact i12 j a b
                have w28 : W2 (gc Lc x) (gl (lh9.set (k : Int).toNat (Int32.ofInt h)) k + 28) = W2 (gc Lc x) (h + 28) := by rw [ges10]
                have w20 : W4 (gc Lc x) (gl (lh9.set (k : Int).toNat (Int32.ofInt h)) k + 20) = W4 (gc Lc x) (h + 20) := by rw [ges10]
                refine T.go 2 (fun n9 => (rfl : _ = exe ξ n9 (d + 6) j_M_isFaulty 239 [(0, .ref 137), (1, J x), (2, J e), (3, J n), (4, JL dr), (6, JL ba), (8, J h), (9, J k), (10, J ((((h + 46) + z6) + z7) + z8))] [J k, .ref 137] s10)) ?_
                refine T.callv (as := [J k]) (r := []) rfl rfl rfl rfl ms10.ob rfl (s_M_isNameRight (d + 1) k s10 ms10 (by omega) (by omega) (by omega) (by omega) (by omega) k12) (fun v9 s11 hqs11 => ?_)
                obtain ⟨z9, rfl, esz9, hzz9, hyz9, pz9_0⟩ := hqs11
                rw [esz9]
                have hNR : NRn (gc Lc x) (gl (lh9.set (k : Int).toNat (Int32.ofInt h))) k = NRn (gc Lc x) (hsf (gc Lc x) dr) k := NRn_eq (by omega) k11 (ges10.trans i8)
                have n40 := NRn_40 (gc Lc x) (gl (lh9.set (k : Int).toNat (Int32.ofInt h))) k
                refine T.if_ne rfl rfl (by omega) (fun c7 => ?_) (fun c7 => ?_)
                · refine T.go 6 (fun n9 => (rfl : _ = exe ξ n9 (d + 6) j_M_isFaulty 263 [(0, .ref 137), (1, J x), (2, J e), (3, J n), (4, JL dr), (6, JL ba), (8, J h), (9, J k), (10, J ((((h + 46) + z6) + z7) + z8))] [J 42, J h, .ref 137, JL ba, J k, .ref 137] s10)) ?_
                  refine T.iadd rfl ?_
                  refine T.callv (as := [J (h + 42)]) (r := [JL ba, J k, .ref 137]) rfl rfl rfl rfl ms10.ob rfl (s_M_four (d + 3) (h + 42) s10 ms10 (by omega) (by omega) (by omega)) (fun v10 s12 hqs12 => ?_)
                  obtain ⟨z10, rfl, esz10, hzz10, hyz10, pz10_0⟩ := hqs12
                  rw [esz10]
                  have e4 := pz10_0 (by omega)
                  subst e4
                  have hv42 := hV (h + 42)
                  refine T.ladd rfl ?_
                  refine T.go 1 (fun n9 => (rfl : _ = exe ξ n9 (d + 6) j_M_isFaulty 270 [(0, .ref 137), (1, J x), (2, J e), (3, J n), (4, JL dr), (6, JL ba), (8, J h), (9, J k), (10, J ((((h + 46) + z6) + z7) + z8))] [JL dr, JL (ba + (W4 (gc Lc x) (h + 42))), J k, .ref 137] s10)) ?_
                  refine T.l2i rfl ?_
                  refine T.callv (as := [J k, JL (ba + (W4 (gc Lc x) (h + 42))), J dr]) (r := []) rfl rfl rfl rfl ms10.ob rfl (s_M_isLocalRight (d + 2) k (ba + (W4 (gc Lc x) (h + 42))) dr s10 ms10 (by omega) (by omega) (by omega) (by omega) (by omega) (by omega) (by omega) (by omega) (by omega) (by omega) (by omega) (by omega)) (fun v11 s13 hqs13 => ?_)
                  obtain ⟨z11, ld_1, rfl, ms13, fs13, hzz11, hyz11, pz11_0, pz11_1, pz11_2, pz11_3⟩ := hqs13
                  have ns13 := ms13.len
                  have rs13 := ms13.rg
                  have gs13 := gs10.trans fs13
                  have hLR : LRn (gc Lc x) (gl (lh9.set (k : Int).toNat (Int32.ofInt h)) k) (ba + W4 (gc Lc x) (h + 42)) dr = LRn (gc Lc x) h (ba + W4 (gc Lc x) (h + 42)) dr := by rw [ges10]
                  refine T.if_ne rfl rfl (by omega) (fun c8 => ?_) (fun c8 => ?_)
                  · refine T.go 2 (fun n9 => (rfl : _ = exe ξ n9 (d + 6) j_M_isFaulty 289 [(0, .ref 137), (1, J x), (2, J e), (3, J n), (4, JL dr), (6, JL ba), (8, J ((((h + 46) + z6) + z7) + z8)), (9, J k), (10, J ((((h + 46) + z6) + z7) + z8))] [] s13)) ?_
                    refine T.iinc (lv' := [(0, .ref 137), (1, J x), (2, J e), (3, J n), (4, JL dr), (6, JL ba), (8, J ((((h + 46) + z6) + z7) + z8)), (9, J (k + 1)), (10, J ((((h + 46) + z6) + z7) + z8))]) rfl rfl rfl rfl ?_
                    refine T.go 1 (fun n9 => (rfl : _ = exe ξ n9 (d + 6) j_M_isFaulty 129 [(0, .ref 137), (1, J x), (2, J e), (3, J n), (4, JL dr), (6, JL ba), (8, J ((((h + 46) + z6) + z7) + z8)), (9, J (k + 1)), (10, J ((((h + 46) + z6) + z7) + z8))] [] s13)) ?_
                    refine T.drop (lv := [(0, .ref 137), (1, J x), (2, J e), (3, J n), (4, JL dr), (6, JL ba), (8, J ((((h + 46) + z6) + z7) + z8)), (9, J (k + 1))]) [(10, J ((((h + 46) + z6) + z7) + z8))] (by simp) ?_
                    exact ih129  e n dr ba ((((h + 46) + z6) + z7) + z8) (k + 1) (lh9.set (k : Int).toNat (Int32.ofInt h)) ld_1 s13 ms13 gs13 i0 (by omega) (by omega) (by omega) (by omega) (by omega) (by omega) (by omega) (by rw [hsf_step (by omega), ← i8]; unfold NXn; omega) (by omega) (by rw [AVn_step (by omega), if_pos ⟨i10, by unfold VKn; rw [← i8, if_pos ⟨by omega, by omega, by omega, by unfold NXn; omega, by omega, by omega⟩]⟩]) (fun j a b => if q : j = k then (by rw [q]; exact ges10.trans i8) else k11 j a (by omega)) (fun j a b => if q : j = k then (by rw [q]; omega) else k12 j a (by omega)) (fun j a b => if q : j = k then (by rw [q]; omega) else (by rw [pz11_1 j a q, (gss10 j a).trans (if_neg q)]; exact i13 j a (by omega))) (fun j a b => if q : j = k then (by rw [q, ← i8, pz11_3 (by omega), w28]; rfl) else (by rw [pz11_1 j a q]; exact i14 j a (by omega))) (by omega)
                  · refine T.go 3 (fun n9 => (rfl : _ = exe ξ n9 (d + 6) j_M_isFaulty 281 [(0, .ref 137), (1, J x), (2, J e), (3, J n), (4, JL dr), (6, JL ba), (8, J h), (9, J k), (10, J ((((h + 46) + z6) + z7) + z8))] [J k, J 5, .ref 137] s13)) ?_
                    refine T.callv (as := [J 5, J k]) (r := []) rfl rfl rfl rfl ms13.ob rfl (s_M_isWrong (d + 5) 5 k s13 ms13 (by omega) (by omega)) (fun v12 s14 hqs14 => ?_)
                    obtain ⟨z12, wy_4, wh_4, rfl, ms14, fs14, hzz12, hyz12⟩ := hqs14
                    have ns14 := ms14.len
                    have rs14 := ms14.rg
                    have gs14 := gs13.trans fs14
                    have hA : AVn (gc Lc x) e dr ba (k + 1).toNat = 0 := by rw [AVn_step (by omega), if_neg (fun u => by have u2 := u.2; unfold VKn at u2; rw [← i8] at u2; unfold NXn at u2; split at u2 <;> omega)]
                    have hA2 := AVn_no (n := n.toNat) hA (by omega)
                    have hF : FOn (gc Lc x) (gl la x) = 0 := by unfold FOn; rw [← i0, ← i2, ← i3, ← i1]; exact if_neg (by omega)
                    exact T.iretz rfl rfl (by omega) ⟨_, x, 0, wy_4, wh_4, (lh9.set (k : Int).toNat (Int32.ofInt h)), ld_1, rfl, ms14, gs14, by omega, by omega, (by omega), (fun q => by omega), by omega, rfl, (fun j a b => absurd b (by omega)), (fun j a b => absurd b (by omega)), (fun j a b => absurd b (by omega)), (fun j a b => absurd b (by omega))⟩
                · refine T.go 3 (fun n9 => (rfl : _ = exe ξ n9 (d + 6) j_M_isFaulty 249 [(0, .ref 137), (1, J x), (2, J e), (3, J n), (4, JL dr), (6, JL ba), (8, J h), (9, J k), (10, J ((((h + 46) + z6) + z7) + z8))] [J k, J 4, .ref 137] s10)) ?_
                  refine T.callv (as := [J 4, J k]) (r := []) rfl rfl rfl rfl ms10.ob rfl (s_M_isWrong (d + 5) 4 k s10 ms10 (by omega) (by omega)) (fun v13 s15 hqs15 => ?_)
                  obtain ⟨z13, wy_5, wh_5, rfl, ms15, fs15, hzz13, hyz13⟩ := hqs15
                  have ns15 := ms15.len
                  have rs15 := ms15.rg
                  have gs15 := gs10.trans fs15
                  have hA : AVn (gc Lc x) e dr ba (k + 1).toNat = 0 := by rw [AVn_step (by omega), if_neg (fun u => by have u2 := u.2; unfold VKn at u2; rw [← i8] at u2; unfold NXn at u2; split at u2 <;> omega)]
                  have hA2 := AVn_no (n := n.toNat) hA (by omega)
                  have hF : FOn (gc Lc x) (gl la x) = 0 := by unfold FOn; rw [← i0, ← i2, ← i3, ← i1]; exact if_neg (by omega)
                  exact T.iretz rfl rfl (by omega) ⟨_, x, 0, wy_5, wh_5, (lh9.set (k : Int).toNat (Int32.ofInt h)), ld9, rfl, ms15, gs15, by omega, by omega, (by omega), (fun q => by omega), by omega, rfl, (fun j a b => absurd b (by omega)), (fun j a b => absurd b (by omega)), (fun j a b => absurd b (by omega)), (fun j a b => absurd b (by omega))⟩
              · refine T.go 3 (fun n9 => (rfl : _ = exe ξ n9 (d + 6) j_M_isFaulty 223 [(0, .ref 137), (1, J x), (2, J e), (3, J n), (4, JL dr), (6, JL ba), (8, J h), (9, J k), (10, J ((((h + 46) + z6) + z7) + z8))] [J k, J 3, .ref 137] τ)) ?_
                refine T.callv (as := [J 3, J k]) (r := []) rfl rfl rfl rfl mτ.ob rfl (s_M_isWrong (d + 5) 3 k τ mτ (by omega) (by omega)) (fun v14 s16 hqs16 => ?_)
                obtain ⟨z14, wy_6, wh_6, rfl, ms16, fs16, hzz14, hyz14⟩ := hqs16
                have ns16 := ms16.len
                have rs16 := ms16.rg
                have gs16 := fτ.trans fs16
                have hA : AVn (gc Lc x) e dr ba (k + 1).toNat = 0 := by rw [AVn_step (by omega), if_neg (fun u => by have u2 := u.2; unfold VKn at u2; rw [← i8] at u2; unfold NXn at u2; split at u2 <;> omega)]
                have hA2 := AVn_no (n := n.toNat) hA (by omega)
                have hF : FOn (gc Lc x) (gl la x) = 0 := by unfold FOn; rw [← i0, ← i2, ← i3, ← i1]; exact if_neg (by omega)
                exact T.iretz rfl rfl (by omega) ⟨_, x, 0, wy_6, wh_6, lh9, ld9, rfl, ms16, gs16, by omega, by omega, (by omega), (fun q => by omega), by omega, rfl, (fun j a b => absurd b (by omega)), (fun j a b => absurd b (by omega)), (fun j a b => absurd b (by omega)), (fun j a b => absurd b (by omega))⟩
            · refine T.go 3 (fun n9 => (rfl : _ = exe ξ n9 (d + 6) j_M_isFaulty 172 [(0, .ref 137), (1, J x), (2, J e), (3, J n), (4, JL dr), (6, JL ba), (8, J h), (9, J k)] [J k, J 3, .ref 137] τ)) ?_
              refine T.callv (as := [J 3, J k]) (r := []) rfl rfl rfl rfl mτ.ob rfl (s_M_isWrong (d + 5) 3 k τ mτ (by omega) (by omega)) (fun v15 s17 hqs17 => ?_)
              obtain ⟨z15, wy_7, wh_7, rfl, ms17, fs17, hzz15, hyz15⟩ := hqs17
              have ns17 := ms17.len
              have rs17 := ms17.rg
              have gs17 := fτ.trans fs17
              have hA : AVn (gc Lc x) e dr ba (k + 1).toNat = 0 := by rw [AVn_step (by omega), if_neg (fun u => by have u2 := u.2; unfold VKn at u2; rw [← i8] at u2; unfold NXn at u2; split at u2 <;> omega)]
              have hA2 := AVn_no (n := n.toNat) hA (by omega)
              have hF : FOn (gc Lc x) (gl la x) = 0 := by unfold FOn; rw [← i0, ← i2, ← i3, ← i1]; exact if_neg (by omega)
              exact T.iretz rfl rfl (by omega) ⟨_, x, 0, wy_7, wh_7, lh9, ld9, rfl, ms17, gs17, by omega, by omega, (by omega), (fun q => by omega), by omega, rfl, (fun j a b => absurd b (by omega)), (fun j a b => absurd b (by omega)), (fun j a b => absurd b (by omega)), (fun j a b => absurd b (by omega))⟩
  refine T.go 2 (fun n9 => (rfl : _ = exe ξ n9 (d + 6) j_M_isFaulty 2 [(0, .ref 137), (1, J x)] [J x, .ref 137] σ)) ?_
  refine T.mput (c' := c) (io' := io) (mo' := mo) (fa' := fa) (pl' := pl) (ns' := ns) (rw' := x) (en' := en) (wy' := wy) (wh' := wh) (bi' := bi) (ed' := ed) (sz' := sz) (md' := md) (bd' := bd) (li' := li) (wk' := wk) (we' := we) hM rfl rfl rfl rfl rfl rfl (by omega) (fun s18 ms18 fs18 => ?_)
  refine T.go 2 (fun n9 => (rfl : _ = exe ξ n9 (d + 6) j_M_isFaulty 7 [(0, .ref 137), (1, J x)] [J 0, .ref 137] s18)) ?_
  refine T.mput (c' := c) (io' := io) (mo' := mo) (fa' := fa) (pl' := pl) (ns' := ns) (rw' := x) (en' := 0) (wy' := wy) (wh' := wh) (bi' := bi) (ed' := ed) (sz' := sz) (md' := md) (bd' := bd) (li' := li) (wk' := wk) (we' := we) ms18 rfl rfl rfl rfl rfl rfl (by omega) (fun s19 ms19 fs19 => ?_)
  have gs19 := fs18.trans fs19
  refine T.go 1 (fun n9 => (rfl : _ = exe ξ n9 (d + 6) j_M_isFaulty 11 [(0, .ref 137), (1, J x)] [.ref 137] s19)) ?_
  refine T.callv (as := []) (r := []) rfl rfl rfl rfl ms19.ob rfl (s_M_endRecord (d + 3)  s19 ms19 ) (fun v16 s20 hqs20 => ?_)
  obtain ⟨z16, rfl, esz16, hzz16, hyz16, pz16_0⟩ := hqs20
  rw [esz16]
  refine T.go 2 (fun n9 => (rfl : _ = exe ξ n9 (d + 6) j_M_isFaulty 16 [(0, .ref 137), (1, J x), (2, J z16)] [J z16] s19)) ?_
  refine T.if_ge rfl rfl (by omega) (fun c9 => ?_) (fun c9 => ?_)
  · refine T.go 3 (fun n9 => (rfl : _ = exe ξ n9 (d + 6) j_M_isFaulty 30 [(0, .ref 137), (1, J x), (2, J z16)] [J 8, J z16, .ref 137] s19)) ?_
    refine T.iadd rfl ?_
    refine T.callv (as := [J (z16 + 8)]) (r := []) rfl rfl rfl rfl ms19.ob rfl (s_M_two (d + 4) (z16 + 8) s19 ms19 (by omega) (by omega) (by omega)) (fun v17 s21 hqs21 => ?_)
    obtain ⟨z17, rfl, esz17, hzz17, hyz17, pz17_0⟩ := hqs21
    rw [esz17]
    refine T.go 2 (fun n9 => (rfl : _ = exe ξ n9 (d + 6) j_M_isFaulty 36 [(0, .ref 137), (1, J x), (2, J z16), (3, J z17)] [J z16] s19)) ?_
    refine T.i2l rfl (by omega) ?_
    refine T.go 3 (fun n9 => (rfl : _ = exe ξ n9 (d + 6) j_M_isFaulty 41 [(0, .ref 137), (1, J x), (2, J z16), (3, J z17)] [J 12, J z16, .ref 137, JL z16] s19)) ?_
    refine T.iadd rfl ?_
    refine T.callv (as := [J (z16 + 12)]) (r := [JL z16]) rfl rfl rfl rfl ms19.ob rfl (s_M_four (d + 3) (z16 + 12) s19 ms19 (by omega) (by omega) (by omega)) (fun v18 s22 hqs22 => ?_)
    obtain ⟨z18, rfl, esz18, hzz18, hyz18, pz18_0⟩ := hqs22
    rw [esz18]
    refine T.lsub rfl ?_
    refine T.go 5 (fun n9 => (rfl : _ = exe ξ n9 (d + 6) j_M_isFaulty 54 [(0, .ref 137), (1, J x), (2, J z16), (3, J z17), (4, JL (z16 - z18))] [J 16, J z16, .ref 137, JL (z16 - z18)] s19)) ?_
    refine T.iadd rfl ?_
    refine T.callv (as := [J (z16 + 16)]) (r := [JL (z16 - z18)]) rfl rfl rfl rfl ms19.ob rfl (s_M_four (d + 3) (z16 + 16) s19 ms19 (by omega) (by omega) (by omega)) (fun v19 s23 hqs23 => ?_)
    obtain ⟨z19, rfl, esz19, hzz19, hyz19, pz19_0⟩ := hqs23
    rw [esz19]
    refine T.lsub rfl ?_
    refine T.go 4 (fun n9 => (rfl : _ = exe ξ n9 (d + 6) j_M_isFaulty 64 [(0, .ref 137), (1, J x), (2, J z16), (3, J z17), (4, JL (z16 - z18)), (6, JL ((z16 - z18) - z19))] [J 4, J z16, .ref 137] s19)) ?_
    refine T.iadd rfl ?_
    refine T.callv (as := [J (z16 + 4)]) (r := []) rfl rfl rfl rfl ms19.ob rfl (s_M_two (d + 4) (z16 + 4) s19 ms19 (by omega) (by omega) (by omega)) (fun v20 s24 hqs24 => ?_)
    obtain ⟨z20, rfl, esz20, hzz20, hyz20, pz20_0⟩ := hqs24
    rw [esz20]
    refine T.if_ne rfl rfl (by omega) (fun c10 => ?_) (fun c10 => ?_)
    · refine T.go 3 (fun n9 => (rfl : _ = exe ξ n9 (d + 6) j_M_isFaulty 117 [(0, .ref 137), (1, J x), (2, J z16), (3, J z17), (4, JL (z16 - z18)), (6, JL ((z16 - z18) - z19))] [J (-1), J 2, .ref 137] s19)) ?_
      refine T.callv (as := [J 2, J (-1)]) (r := []) rfl rfl rfl rfl ms19.ob rfl (s_M_isWrong (d + 5) 2 (-1) s19 ms19 (by omega) (by omega)) (fun v21 s25 hqs25 => ?_)
      obtain ⟨z21, wy_8, wh_8, rfl, ms25, fs25, hzz21, hyz21⟩ := hqs25
      have ns25 := ms25.len
      have rs25 := ms25.rg
      have gs25 := gs19.trans fs25
      have hF : FOn (gc Lc x) (gl la x) = 0 := by unfold FOn; rw [← pz16_0]; exact if_neg (by omega)
      exact T.iretz rfl rfl (by omega) ⟨_, x, 0, wy_8, wh_8, lh, ld, rfl, ms25, gs25, by omega, by omega, (by omega), (fun q => by omega), by omega, rfl, (fun j a b => absurd b (by omega)), (fun j a b => absurd b (by omega)), (fun j a b => absurd b (by omega)), (fun j a b => absurd b (by omega))⟩
    · refine T.go 3 (fun n9 => (rfl : _ = exe ξ n9 (d + 6) j_M_isFaulty 75 [(0, .ref 137), (1, J x), (2, J z16), (3, J z17), (4, JL (z16 - z18)), (6, JL ((z16 - z18) - z19))] [J 6, J z16, .ref 137] s19)) ?_
      refine T.iadd rfl ?_
      refine T.callv (as := [J (z16 + 6)]) (r := []) rfl rfl rfl rfl ms19.ob rfl (s_M_two (d + 4) (z16 + 6) s19 ms19 (by omega) (by omega) (by omega)) (fun v22 s26 hqs26 => ?_)
      obtain ⟨z22, rfl, esz22, hzz22, hyz22, pz22_0⟩ := hqs26
      rw [esz22]
      refine T.if_ne rfl rfl (by omega) (fun c11 => ?_) (fun c11 => ?_)
      · refine T.go 3 (fun n9 => (rfl : _ = exe ξ n9 (d + 6) j_M_isFaulty 117 [(0, .ref 137), (1, J x), (2, J z16), (3, J z17), (4, JL (z16 - z18)), (6, JL ((z16 - z18) - z19))] [J (-1), J 2, .ref 137] s19)) ?_
        refine T.callv (as := [J 2, J (-1)]) (r := []) rfl rfl rfl rfl ms19.ob rfl (s_M_isWrong (d + 5) 2 (-1) s19 ms19 (by omega) (by omega)) (fun v23 s27 hqs27 => ?_)
        obtain ⟨z23, wy_9, wh_9, rfl, ms27, fs27, hzz23, hyz23⟩ := hqs27
        have ns27 := ms27.len
        have rs27 := ms27.rg
        have gs27 := gs19.trans fs27
        have hF : FOn (gc Lc x) (gl la x) = 0 := by unfold FOn; rw [← pz16_0]; exact if_neg (by omega)
        exact T.iretz rfl rfl (by omega) ⟨_, x, 0, wy_9, wh_9, lh, ld, rfl, ms27, gs27, by omega, by omega, (by omega), (fun q => by omega), by omega, rfl, (fun j a b => absurd b (by omega)), (fun j a b => absurd b (by omega)), (fun j a b => absurd b (by omega)), (fun j a b => absurd b (by omega))⟩
      · refine T.go 4 (fun n9 => (rfl : _ = exe ξ n9 (d + 6) j_M_isFaulty 87 [(0, .ref 137), (1, J x), (2, J z16), (3, J z17), (4, JL (z16 - z18)), (6, JL ((z16 - z18) - z19))] [J 10, J z16, .ref 137, J z17] s19)) ?_
        refine T.iadd rfl ?_
        refine T.callv (as := [J (z16 + 10)]) (r := [J z17]) rfl rfl rfl rfl ms19.ob rfl (s_M_two (d + 4) (z16 + 10) s19 ms19 (by omega) (by omega) (by omega)) (fun v24 s28 hqs28 => ?_)
        obtain ⟨z24, rfl, esz24, hzz24, hyz24, pz24_0⟩ := hqs28
        rw [esz24]
        refine T.icmp_ne rfl rfl (by omega) (by omega) (fun c12 => ?_) (fun c12 => ?_)
        · refine T.go 3 (fun n9 => (rfl : _ = exe ξ n9 (d + 6) j_M_isFaulty 117 [(0, .ref 137), (1, J x), (2, J z16), (3, J z17), (4, JL (z16 - z18)), (6, JL ((z16 - z18) - z19))] [J (-1), J 2, .ref 137] s19)) ?_
          refine T.callv (as := [J 2, J (-1)]) (r := []) rfl rfl rfl rfl ms19.ob rfl (s_M_isWrong (d + 5) 2 (-1) s19 ms19 (by omega) (by omega)) (fun v25 s29 hqs29 => ?_)
          obtain ⟨z25, wy_10, wh_10, rfl, ms29, fs29, hzz25, hyz25⟩ := hqs29
          have ns29 := ms29.len
          have rs29 := ms29.rg
          have gs29 := gs19.trans fs29
          have hF : FOn (gc Lc x) (gl la x) = 0 := by unfold FOn; rw [← pz16_0]; exact if_neg (by omega)
          exact T.iretz rfl rfl (by omega) ⟨_, x, 0, wy_10, wh_10, lh, ld, rfl, ms29, gs29, by omega, by omega, (by omega), (fun q => by omega), by omega, rfl, (fun j a b => absurd b (by omega)), (fun j a b => absurd b (by omega)), (fun j a b => absurd b (by omega)), (fun j a b => absurd b (by omega))⟩
        · refine T.go 2 (fun n9 => (rfl : _ = exe ξ n9 (d + 6) j_M_isFaulty 97 [(0, .ref 137), (1, J x), (2, J z16), (3, J z17), (4, JL (z16 - z18)), (6, JL ((z16 - z18) - z19))] [J 64, J z17] s19)) ?_
          refine T.icmp_gt rfl rfl (by omega) (by omega) (fun c13 => ?_) (fun c13 => ?_)
          · refine T.go 3 (fun n9 => (rfl : _ = exe ξ n9 (d + 6) j_M_isFaulty 117 [(0, .ref 137), (1, J x), (2, J z16), (3, J z17), (4, JL (z16 - z18)), (6, JL ((z16 - z18) - z19))] [J (-1), J 2, .ref 137] s19)) ?_
            refine T.callv (as := [J 2, J (-1)]) (r := []) rfl rfl rfl rfl ms19.ob rfl (s_M_isWrong (d + 5) 2 (-1) s19 ms19 (by omega) (by omega)) (fun v26 s30 hqs30 => ?_)
            obtain ⟨z26, wy_11, wh_11, rfl, ms30, fs30, hzz26, hyz26⟩ := hqs30
            have ns30 := ms30.len
            have rs30 := ms30.rg
            have gs30 := gs19.trans fs30
            have hF : FOn (gc Lc x) (gl la x) = 0 := by unfold FOn; rw [← pz16_0]; exact if_neg (by omega)
            exact T.iretz rfl rfl (by omega) ⟨_, x, 0, wy_11, wh_11, lh, ld, rfl, ms30, gs30, by omega, by omega, (by omega), (fun q => by omega), by omega, rfl, (fun j a b => absurd b (by omega)), (fun j a b => absurd b (by omega)), (fun j a b => absurd b (by omega)), (fun j a b => absurd b (by omega))⟩
          · refine T.go 2 (fun n9 => (rfl : _ = exe ξ n9 (d + 6) j_M_isFaulty 103 [(0, .ref 137), (1, J x), (2, J z16), (3, J z17), (4, JL (z16 - z18)), (6, JL ((z16 - z18) - z19))] [JL 0, JL (z16 - z18)] s19)) ?_
            refine T.lcmp rfl (by omega) (by omega) (fun c14 => ?_) (fun c14 => ?_) (fun c14 => ?_)
            · refine T.go 1 (fun n9 => (rfl : _ = exe ξ n9 (d + 6) j_M_isFaulty 114 [(0, .ref 137), (1, J x), (2, J z16), (3, J z17), (4, JL (z16 - z18)), (6, JL ((z16 - z18) - z19))] [] s19)) ?_
              refine T.go 3 (fun n9 => (rfl : _ = exe ξ n9 (d + 6) j_M_isFaulty 117 [(0, .ref 137), (1, J x), (2, J z16), (3, J z17), (4, JL (z16 - z18)), (6, JL ((z16 - z18) - z19))] [J (-1), J 2, .ref 137] s19)) ?_
              refine T.callv (as := [J 2, J (-1)]) (r := []) rfl rfl rfl rfl ms19.ob rfl (s_M_isWrong (d + 5) 2 (-1) s19 ms19 (by omega) (by omega)) (fun v27 s31 hqs31 => ?_)
              obtain ⟨z27, wy_12, wh_12, rfl, ms31, fs31, hzz27, hyz27⟩ := hqs31
              have ns31 := ms31.len
              have rs31 := ms31.rg
              have gs31 := gs19.trans fs31
              have hF : FOn (gc Lc x) (gl la x) = 0 := by unfold FOn; rw [← pz16_0]; exact if_neg (by omega)
              exact T.iretz rfl rfl (by omega) ⟨_, x, 0, wy_12, wh_12, lh, ld, rfl, ms31, gs31, by omega, by omega, (by omega), (fun q => by omega), by omega, rfl, (fun j a b => absurd b (by omega)), (fun j a b => absurd b (by omega)), (fun j a b => absurd b (by omega)), (fun j a b => absurd b (by omega))⟩
            · refine T.go 1 (fun n9 => (rfl : _ = exe ξ n9 (d + 6) j_M_isFaulty 107 [(0, .ref 137), (1, J x), (2, J z16), (3, J z17), (4, JL (z16 - z18)), (6, JL ((z16 - z18) - z19))] [] s19)) ?_
              refine T.go 2 (fun n9 => (rfl : _ = exe ξ n9 (d + 6) j_M_isFaulty 110 [(0, .ref 137), (1, J x), (2, J z16), (3, J z17), (4, JL (z16 - z18)), (6, JL ((z16 - z18) - z19))] [JL 0, JL ((z16 - z18) - z19)] s19)) ?_
              refine T.lcmp rfl (by omega) (by omega) (fun c15 => ?_) (fun c15 => ?_) (fun c15 => ?_)
              · refine T.go 1 (fun n9 => (rfl : _ = exe ξ n9 (d + 6) j_M_isFaulty 114 [(0, .ref 137), (1, J x), (2, J z16), (3, J z17), (4, JL (z16 - z18)), (6, JL ((z16 - z18) - z19))] [] s19)) ?_
                refine T.go 3 (fun n9 => (rfl : _ = exe ξ n9 (d + 6) j_M_isFaulty 117 [(0, .ref 137), (1, J x), (2, J z16), (3, J z17), (4, JL (z16 - z18)), (6, JL ((z16 - z18) - z19))] [J (-1), J 2, .ref 137] s19)) ?_
                refine T.callv (as := [J 2, J (-1)]) (r := []) rfl rfl rfl rfl ms19.ob rfl (s_M_isWrong (d + 5) 2 (-1) s19 ms19 (by omega) (by omega)) (fun v28 s32 hqs32 => ?_)
                obtain ⟨z28, wy_13, wh_13, rfl, ms32, fs32, hzz28, hyz28⟩ := hqs32
                have ns32 := ms32.len
                have rs32 := ms32.rg
                have gs32 := gs19.trans fs32
                have hF : FOn (gc Lc x) (gl la x) = 0 := by unfold FOn; rw [← pz16_0]; exact if_neg (by omega)
                exact T.iretz rfl rfl (by omega) ⟨_, x, 0, wy_13, wh_13, lh, ld, rfl, ms32, gs32, by omega, by omega, (by omega), (fun q => by omega), by omega, rfl, (fun j a b => absurd b (by omega)), (fun j a b => absurd b (by omega)), (fun j a b => absurd b (by omega)), (fun j a b => absurd b (by omega))⟩
              · refine T.go 1 (fun n9 => (rfl : _ = exe ξ n9 (d + 6) j_M_isFaulty 121 [(0, .ref 137), (1, J x), (2, J z16), (3, J z17), (4, JL (z16 - z18)), (6, JL ((z16 - z18) - z19))] [] s19)) ?_
                refine T.go 1 (fun n9 => (rfl : _ = exe ξ n9 (d + 6) j_M_isFaulty 123 [(0, .ref 137), (1, J x), (2, J z16), (3, J z17), (4, JL (z16 - z18)), (6, JL ((z16 - z18) - z19))] [JL (z16 - z18)] s19)) ?_
                refine T.l2i rfl ?_
                refine T.go 3 (fun n9 => (rfl : _ = exe ξ n9 (d + 6) j_M_isFaulty 129 [(0, .ref 137), (1, J x), (2, J z16), (3, J z17), (4, JL (z16 - z18)), (6, JL ((z16 - z18) - z19)), (8, J (z16 - z18)), (9, J 0)] [] s19)) ?_
                exact loop129 _ z16 z17 (z16 - z18) ((z16 - z18) - z19) (z16 - z18) 0 lh ld s19 ms19 gs19 pz16_0 (by omega) (by omega) (by omega) (by omega) (by omega) (by omega) (by omega) rfl (by omega) rfl (fun j a b => absurd b (by omega)) (fun j a b => absurd b (by omega)) (fun j a b => absurd b (by omega)) (fun j a b => absurd b (by omega)) (Nat.lt_succ_self _)
              · refine T.go 1 (fun n9 => (rfl : _ = exe ξ n9 (d + 6) j_M_isFaulty 121 [(0, .ref 137), (1, J x), (2, J z16), (3, J z17), (4, JL (z16 - z18)), (6, JL ((z16 - z18) - z19))] [] s19)) ?_
                refine T.go 1 (fun n9 => (rfl : _ = exe ξ n9 (d + 6) j_M_isFaulty 123 [(0, .ref 137), (1, J x), (2, J z16), (3, J z17), (4, JL (z16 - z18)), (6, JL ((z16 - z18) - z19))] [JL (z16 - z18)] s19)) ?_
                refine T.l2i rfl ?_
                refine T.go 3 (fun n9 => (rfl : _ = exe ξ n9 (d + 6) j_M_isFaulty 129 [(0, .ref 137), (1, J x), (2, J z16), (3, J z17), (4, JL (z16 - z18)), (6, JL ((z16 - z18) - z19)), (8, J (z16 - z18)), (9, J 0)] [] s19)) ?_
                exact loop129 _ z16 z17 (z16 - z18) ((z16 - z18) - z19) (z16 - z18) 0 lh ld s19 ms19 gs19 pz16_0 (by omega) (by omega) (by omega) (by omega) (by omega) (by omega) (by omega) rfl (by omega) rfl (fun j a b => absurd b (by omega)) (fun j a b => absurd b (by omega)) (fun j a b => absurd b (by omega)) (fun j a b => absurd b (by omega)) (Nat.lt_succ_self _)
            · refine T.go 1 (fun n9 => (rfl : _ = exe ξ n9 (d + 6) j_M_isFaulty 107 [(0, .ref 137), (1, J x), (2, J z16), (3, J z17), (4, JL (z16 - z18)), (6, JL ((z16 - z18) - z19))] [] s19)) ?_
              refine T.go 2 (fun n9 => (rfl : _ = exe ξ n9 (d + 6) j_M_isFaulty 110 [(0, .ref 137), (1, J x), (2, J z16), (3, J z17), (4, JL (z16 - z18)), (6, JL ((z16 - z18) - z19))] [JL 0, JL ((z16 - z18) - z19)] s19)) ?_
              refine T.lcmp rfl (by omega) (by omega) (fun c16 => ?_) (fun c16 => ?_) (fun c16 => ?_)
              · refine T.go 1 (fun n9 => (rfl : _ = exe ξ n9 (d + 6) j_M_isFaulty 114 [(0, .ref 137), (1, J x), (2, J z16), (3, J z17), (4, JL (z16 - z18)), (6, JL ((z16 - z18) - z19))] [] s19)) ?_
                refine T.go 3 (fun n9 => (rfl : _ = exe ξ n9 (d + 6) j_M_isFaulty 117 [(0, .ref 137), (1, J x), (2, J z16), (3, J z17), (4, JL (z16 - z18)), (6, JL ((z16 - z18) - z19))] [J (-1), J 2, .ref 137] s19)) ?_
                refine T.callv (as := [J 2, J (-1)]) (r := []) rfl rfl rfl rfl ms19.ob rfl (s_M_isWrong (d + 5) 2 (-1) s19 ms19 (by omega) (by omega)) (fun v29 s33 hqs33 => ?_)
                obtain ⟨z29, wy_14, wh_14, rfl, ms33, fs33, hzz29, hyz29⟩ := hqs33
                have ns33 := ms33.len
                have rs33 := ms33.rg
                have gs33 := gs19.trans fs33
                have hF : FOn (gc Lc x) (gl la x) = 0 := by unfold FOn; rw [← pz16_0]; exact if_neg (by omega)
                exact T.iretz rfl rfl (by omega) ⟨_, x, 0, wy_14, wh_14, lh, ld, rfl, ms33, gs33, by omega, by omega, (by omega), (fun q => by omega), by omega, rfl, (fun j a b => absurd b (by omega)), (fun j a b => absurd b (by omega)), (fun j a b => absurd b (by omega)), (fun j a b => absurd b (by omega))⟩
              · refine T.go 1 (fun n9 => (rfl : _ = exe ξ n9 (d + 6) j_M_isFaulty 121 [(0, .ref 137), (1, J x), (2, J z16), (3, J z17), (4, JL (z16 - z18)), (6, JL ((z16 - z18) - z19))] [] s19)) ?_
                refine T.go 1 (fun n9 => (rfl : _ = exe ξ n9 (d + 6) j_M_isFaulty 123 [(0, .ref 137), (1, J x), (2, J z16), (3, J z17), (4, JL (z16 - z18)), (6, JL ((z16 - z18) - z19))] [JL (z16 - z18)] s19)) ?_
                refine T.l2i rfl ?_
                refine T.go 3 (fun n9 => (rfl : _ = exe ξ n9 (d + 6) j_M_isFaulty 129 [(0, .ref 137), (1, J x), (2, J z16), (3, J z17), (4, JL (z16 - z18)), (6, JL ((z16 - z18) - z19)), (8, J (z16 - z18)), (9, J 0)] [] s19)) ?_
                exact loop129 _ z16 z17 (z16 - z18) ((z16 - z18) - z19) (z16 - z18) 0 lh ld s19 ms19 gs19 pz16_0 (by omega) (by omega) (by omega) (by omega) (by omega) (by omega) (by omega) rfl (by omega) rfl (fun j a b => absurd b (by omega)) (fun j a b => absurd b (by omega)) (fun j a b => absurd b (by omega)) (fun j a b => absurd b (by omega)) (Nat.lt_succ_self _)
              · refine T.go 1 (fun n9 => (rfl : _ = exe ξ n9 (d + 6) j_M_isFaulty 121 [(0, .ref 137), (1, J x), (2, J z16), (3, J z17), (4, JL (z16 - z18)), (6, JL ((z16 - z18) - z19))] [] s19)) ?_
                refine T.go 1 (fun n9 => (rfl : _ = exe ξ n9 (d + 6) j_M_isFaulty 123 [(0, .ref 137), (1, J x), (2, J z16), (3, J z17), (4, JL (z16 - z18)), (6, JL ((z16 - z18) - z19))] [JL (z16 - z18)] s19)) ?_
                refine T.l2i rfl ?_
                refine T.go 3 (fun n9 => (rfl : _ = exe ξ n9 (d + 6) j_M_isFaulty 129 [(0, .ref 137), (1, J x), (2, J z16), (3, J z17), (4, JL (z16 - z18)), (6, JL ((z16 - z18) - z19)), (8, J (z16 - z18)), (9, J 0)] [] s19)) ?_
                exact loop129 _ z16 z17 (z16 - z18) ((z16 - z18) - z19) (z16 - z18) 0 lh ld s19 ms19 gs19 pz16_0 (by omega) (by omega) (by omega) (by omega) (by omega) (by omega) (by omega) rfl (by omega) rfl (fun j a b => absurd b (by omega)) (fun j a b => absurd b (by omega)) (fun j a b => absurd b (by omega)) (fun j a b => absurd b (by omega)) (Nat.lt_succ_self _)
  · refine T.go 3 (fun n9 => (rfl : _ = exe ξ n9 (d + 6) j_M_isFaulty 22 [(0, .ref 137), (1, J x), (2, J z16)] [J (-1), J 1, .ref 137] s19)) ?_
    refine T.callv (as := [J 1, J (-1)]) (r := []) rfl rfl rfl rfl ms19.ob rfl (s_M_isWrong (d + 5) 1 (-1) s19 ms19 (by omega) (by omega)) (fun v30 s34 hqs34 => ?_)
    obtain ⟨z30, wy_15, wh_15, rfl, ms34, fs34, hzz30, hyz30⟩ := hqs34
    have ns34 := ms34.len
    have rs34 := ms34.rg
    have gs34 := gs19.trans fs34
    have hF : FOn (gc Lc x) (gl la x) = 0 := by unfold FOn; rw [← pz16_0]; exact if_neg (by omega)
    exact T.iretz rfl rfl (by omega) ⟨_, x, 0, wy_15, wh_15, lh, ld, rfl, ms34, gs34, by omega, by omega, (by omega), (fun q => by omega), by omega, rfl, (fun j a b => absurd b (by omega)), (fun j a b => absurd b (by omega)), (fun j a b => absurd b (by omega)), (fun j a b => absurd b (by omega))⟩
