/-! The model: a line of an index. -/
set_option maxHeartbeats 4000000 in
theorem s_M_fisLineWrong {ξ : Nat → Option (Nat × List Int32)} {c io mo fa pl ns rw en wy wh bi ed sz md bd li wk we : Int} {Lc : List Int64} {la lm ln lh ld lk lt : List Int32} (d : Nat) (x : Int) (y : Int) (σ : qH) (hM : MS σ c io mo fa pl ns rw en wy wh bi ed sz md bd li wk we Lc la lm ln lh ld lk lt) (rx : -2147483648 ≤ x ∧ x ≤ 2147483647) (ry : -2147483648 ≤ y ∧ y ≤ 2147483647) (pre0 : FOn (gc Lc 1) (gl la 1) = 1) (pre1 : x ≤ y) (pre2 : 0 ≤ x) (pre3 : y < gl la 5) (pre4 : gl la 5 ≤ 8000) (pre5 : gc Lc 5 y = 10) (pre6 : N10 (gc Lc 5) x y) : T ξ (d + 8) j_M_isLineWrong 0 (lv_args 0 [.ref 137, J x, J y]) [] σ (fun v σ' => ∃ (z : Int) (rw1 : Int) (en1 : Int) (wy1 : Int) (wh1 : Int) (bi1 : Int) (ed1 : Int) (sz1 : Int) (md1 : Int) (bd1 : Int) (Lc1 : List Int64) (la1 : List Int32) (lk1 : List Int32) (lh1 : List Int32) (ld1 : List Int32) (lt1 : List Int32), v = some (J z) ∧ MS σ' c io mo fa pl ns rw1 en1 wy1 wh1 bi1 ed1 sz1 md1 bd1 li wk we Lc1 la1 lm ln lh1 ld1 lk1 lt1 ∧ FM σ σ' ∧ 0 ≤ z ∧ z ≤ 1 ∧ RG [2, 4] Lc Lc1 ∧ LG [2, 4] la la1 ∧ (z = 0 → li ≤ 5 ∧ 0 ≤ gl lt1 li ∧ gl lt1 li < W2 (gc Lc 1) (EN (gc Lc 1) (gl la 1) + 8)) ∧ (∀ j : Int, 0 ≤ j → j < li → gl lt1 j = gl lt j) ∧ (z = 0 → LW0 (gc Lc 1) (gl la 1) (gc Lc 5) (gl la 5) x y (gl lt1 li)) ∧ (z = 1 → LW1 (gc Lc 1) (gl la 1) (gc Lc 5) (gl la 5) x li)) := by
  have r0 := hM.rg
  have n0 := hM.len
  have loop148 : ∀ (f148 : Nat) (n : Int) (g4 : Int) (u5 : Int) (f6 : Int) (k : Int) (rw9 : Int) (en9 : Int) (wy9 : Int) (wh9 : Int) (lh9 : List Int32) (ld9 : List Int32) (τ : qH), MS τ c io mo fa pl ns rw9 en9 wy9 wh9 bi ed sz md bd li wk we Lc la lm ln lh9 ld9 lk lt → FM σ τ → 1 ≤ n → n = y - x - 4 → -1 ≤ f6 → (f6 < en9 ∨ f6 = -1) → 0 ≤ k → k ≤ en9 → rw9 = 1 → li ≤ 5 → en9 = W2 (gc Lc 1) (EN (gc Lc 1) (gl la 1) + 8) → HD (gc Lc rw9) lh9 ld9 en9 → FND (gc Lc 1) (gc Lc 5) (gl lh9) (x + 3) n k f6 → HDJ (gc Lc 1) (gl la 1) lh9 ld9 en9 → LNE (gc Lc 5) (gl la 5) x n → (en9 - k).toNat < f148 → T ξ (d + 8) j_M_isLineWrong 148 [(0, .ref 137), (1, J x), (2, J y), (3, J n), (4, J g4), (5, J u5), (6, J f6), (7, J k)] [] τ (fun v σ' => ∃ (z : Int) (rw1 : Int) (en1 : Int) (wy1 : Int) (wh1 : Int) (bi1 : Int) (ed1 : Int) (sz1 : Int) (md1 : Int) (bd1 : Int) (Lc1 : List Int64) (la1 : List Int32) (lk1 : List Int32) (lh1 : List Int32) (ld1 : List Int32) (lt1 : List Int32), v = some (J z) ∧ MS σ' c io mo fa pl ns rw1 en1 wy1 wh1 bi1 ed1 sz1 md1 bd1 li wk we Lc1 la1 lm ln lh1 ld1 lk1 lt1 ∧ FM σ σ' ∧ 0 ≤ z ∧ z ≤ 1 ∧ RG [2, 4] Lc Lc1 ∧ LG [2, 4] la la1 ∧ (z = 0 → li ≤ 5 ∧ 0 ≤ gl lt1 li ∧ gl lt1 li < W2 (gc Lc 1) (EN (gc Lc 1) (gl la 1) + 8)) ∧ (∀ j : Int, 0 ≤ j → j < li → gl lt1 j = gl lt j) ∧ (z = 0 → LW0 (gc Lc 1) (gl la 1) (gc Lc 5) (gl la 5) x y (gl lt1 li)) ∧ (z = 1 → LW1 (gc Lc 1) (gl la 1) (gc Lc 5) (gl la 5) x li)) := by
    intro f148
    induction f148 with
    | zero => intro n g4 u5 f6 k rw9 en9 wy9 wh9 lh9 ld9 τ mτ fτ i0 i1 i2 i3 i4 i5 i6 i7 i8 i9 i10 i11 i12 hm148; omega
    | succ f148 ih148 =>
      intro n g4 u5 f6 k rw9 en9 wy9 wh9 lh9 ld9 τ mτ fτ i0 i1 i2 i3 i4 i5 i6 i7 i8 i9 i10 i11 i12 hm148
      have rτ := mτ.rg
      have nτ := mτ.len
      have loop177 : ∀ (f177 : Nat) (q8 : Int) (i : Int), 0 ≤ q8 → q8 ≤ 1 → 0 ≤ i → i ≤ n → k < en9 → (q8 = 0 → ¬ (W2 (gc Lc 1) (gl lh9 k + 28) = n ∧ EQ2 (gc Lc 1) (gc Lc 5) (gl lh9 k + 46) (x + 3) n.toNat = 1)) → (q8 = 1 → W2 (gc Lc 1) (gl lh9 k + 28) = n ∧ EQ2 (gc Lc 1) (gc Lc 5) (gl lh9 k + 46) (x + 3) i.toNat = 1) → (n - i).toNat < f177 → T ξ (d + 8) j_M_isLineWrong 177 [(0, .ref 137), (1, J x), (2, J y), (3, J n), (4, J g4), (5, J u5), (6, J f6), (7, J k), (8, J q8), (9, J i)] [] τ (fun v σ' => ∃ (z : Int) (rw1 : Int) (en1 : Int) (wy1 : Int) (wh1 : Int) (bi1 : Int) (ed1 : Int) (sz1 : Int) (md1 : Int) (bd1 : Int) (Lc1 : List Int64) (la1 : List Int32) (lk1 : List Int32) (lh1 : List Int32) (ld1 : List Int32) (lt1 : List Int32), v = some (J z) ∧ MS σ' c io mo fa pl ns rw1 en1 wy1 wh1 bi1 ed1 sz1 md1 bd1 li wk we Lc1 la1 lm ln lh1 ld1 lk1 lt1 ∧ FM σ σ' ∧ 0 ≤ z ∧ z ≤ 1 ∧ RG [2, 4] Lc Lc1 ∧ LG [2, 4] la la1 ∧ (z = 0 → li ≤ 5 ∧ 0 ≤ gl lt1 li ∧ gl lt1 li < W2 (gc Lc 1) (EN (gc Lc 1) (gl la 1) + 8)) ∧ (∀ j : Int, 0 ≤ j → j < li → gl lt1 j = gl lt j) ∧ (z = 0 → LW0 (gc Lc 1) (gl la 1) (gc Lc 5) (gl la 5) x y (gl lt1 li)) ∧ (z = 1 → LW1 (gc Lc 1) (gl la 1) (gc Lc 5) (gl la 5) x li)) := by
        intro f177
        induction f177 with
        | zero => intro q8 i j0 j1 j2 j3 j4 j5 j6 hm177; omega
        | succ f177 ih177 =>
          intro q8 i j0 j1 j2 j3 j4 j5 j6 hm177
          have hdk := i9 k (by omega) (by omega)
          rw [i6] at hdk
          refine T.go 2 (fun n9 => (rfl : _ = exe ξ n9 (d + 8) j_M_isLineWrong 180 [(0, .ref 137), (1, J x), (2, J y), (3, J n), (4, J g4), (5, J u5), (6, J f6), (7, J k), (8, J q8), (9, J i)] [J n, J i] τ)) ?_
          refine T.icmp_ge rfl rfl (by omega) (by omega) (fun c1 => ?_) (fun c1 => ?_)
          · refine T.go 1 (fun n9 => (rfl : _ = exe ξ n9 (d + 8) j_M_isLineWrong 238 [(0, .ref 137), (1, J x), (2, J y), (3, J n), (4, J g4), (5, J u5), (6, J f6), (7, J k), (8, J q8), (9, J i)] [J q8] τ)) ?_
            refine T.if_eq rfl rfl (by omega) (fun c2 => ?_) (fun c2 => ?_)
            · refine T.iinc (lv' := [(0, .ref 137), (1, J x), (2, J y), (3, J n), (4, J g4), (5, J u5), (6, J f6), (7, J (k + 1)), (8, J q8), (9, J i)]) rfl rfl rfl rfl ?_
              refine T.go 1 (fun n9 => (rfl : _ = exe ξ n9 (d + 8) j_M_isLineWrong 148 [(0, .ref 137), (1, J x), (2, J y), (3, J n), (4, J g4), (5, J u5), (6, J f6), (7, J (k + 1)), (8, J q8), (9, J i)] [] τ)) ?_
              refine T.drop (lv := [(0, .ref 137), (1, J x), (2, J y), (3, J n), (4, J g4), (5, J u5), (6, J f6), (7, J (k + 1))]) [(8, J q8), (9, J i)] (by simp) ?_
              exact ih148  n g4 u5 f6 (k + 1) rw9 en9 wy9 wh9 lh9 ld9 τ mτ fτ (by omega) (by omega) (by omega) (by omega) (by omega) (by omega) (by omega) (by omega) (by omega) i9 (FND_no i10 (fun u => j5 (by omega) u)) i11 i12 (by omega)
            · refine T.go 2 (fun n9 => (rfl : _ = exe ξ n9 (d + 8) j_M_isLineWrong 245 [(0, .ref 137), (1, J x), (2, J y), (3, J n), (4, J g4), (5, J u5), (6, J k), (7, J k), (8, J q8), (9, J i)] [] τ)) ?_
              refine T.iinc (lv' := [(0, .ref 137), (1, J x), (2, J y), (3, J n), (4, J g4), (5, J u5), (6, J k), (7, J (k + 1)), (8, J q8), (9, J i)]) rfl rfl rfl rfl ?_
              refine T.go 1 (fun n9 => (rfl : _ = exe ξ n9 (d + 8) j_M_isLineWrong 148 [(0, .ref 137), (1, J x), (2, J y), (3, J n), (4, J g4), (5, J u5), (6, J k), (7, J (k + 1)), (8, J q8), (9, J i)] [] τ)) ?_
              refine T.drop (lv := [(0, .ref 137), (1, J x), (2, J y), (3, J n), (4, J g4), (5, J u5), (6, J k), (7, J (k + 1))]) [(8, J q8), (9, J i)] (by simp) ?_
              exact ih148  n g4 u5 k (k + 1) rw9 en9 wy9 wh9 lh9 ld9 τ mτ fτ (by omega) (by omega) (by omega) (by omega) (by omega) (by omega) (by omega) (by omega) (by omega) i9 (FND_yes (by omega) ⟨by omega, by rw [show n.toNat = i.toNat by omega]; exact (j6 (by omega)).2⟩) i11 i12 (by omega)
          · refine T.go 1 (fun n9 => (rfl : _ = exe ξ n9 (d + 8) j_M_isLineWrong 185 [(0, .ref 137), (1, J x), (2, J y), (3, J n), (4, J g4), (5, J u5), (6, J f6), (7, J k), (8, J q8), (9, J i)] [J q8] τ)) ?_
            refine T.if_eq rfl rfl (by omega) (fun c3 => ?_) (fun c3 => ?_)
            · refine T.go 1 (fun n9 => (rfl : _ = exe ξ n9 (d + 8) j_M_isLineWrong 238 [(0, .ref 137), (1, J x), (2, J y), (3, J n), (4, J g4), (5, J u5), (6, J f6), (7, J k), (8, J q8), (9, J i)] [J q8] τ)) ?_
              refine T.if_eq rfl rfl (by omega) (fun c4 => ?_) (fun c4 => ?_)
              · refine T.iinc (lv' := [(0, .ref 137), (1, J x), (2, J y), (3, J n), (4, J g4), (5, J u5), (6, J f6), (7, J (k + 1)), (8, J q8), (9, J i)]) rfl rfl rfl rfl ?_
                refine T.go 1 (fun n9 => (rfl : _ = exe ξ n9 (d + 8) j_M_isLineWrong 148 [(0, .ref 137), (1, J x), (2, J y), (3, J n), (4, J g4), (5, J u5), (6, J f6), (7, J (k + 1)), (8, J q8), (9, J i)] [] τ)) ?_
                refine T.drop (lv := [(0, .ref 137), (1, J x), (2, J y), (3, J n), (4, J g4), (5, J u5), (6, J f6), (7, J (k + 1))]) [(8, J q8), (9, J i)] (by simp) ?_
                exact ih148  n g4 u5 f6 (k + 1) rw9 en9 wy9 wh9 lh9 ld9 τ mτ fτ (by omega) (by omega) (by omega) (by omega) (by omega) (by omega) (by omega) (by omega) (by omega) i9 (FND_no i10 (fun u => j5 (by omega) u)) i11 i12 (by omega)
              · refine T.go 2 (fun n9 => (rfl : _ = exe ξ n9 (d + 8) j_M_isLineWrong 245 [(0, .ref 137), (1, J x), (2, J y), (3, J n), (4, J g4), (5, J u5), (6, J k), (7, J k), (8, J q8), (9, J i)] [] τ)) ?_
                refine T.iinc (lv' := [(0, .ref 137), (1, J x), (2, J y), (3, J n), (4, J g4), (5, J u5), (6, J k), (7, J (k + 1)), (8, J q8), (9, J i)]) rfl rfl rfl rfl ?_
                refine T.go 1 (fun n9 => (rfl : _ = exe ξ n9 (d + 8) j_M_isLineWrong 148 [(0, .ref 137), (1, J x), (2, J y), (3, J n), (4, J g4), (5, J u5), (6, J k), (7, J (k + 1)), (8, J q8), (9, J i)] [] τ)) ?_
                refine T.drop (lv := [(0, .ref 137), (1, J x), (2, J y), (3, J n), (4, J g4), (5, J u5), (6, J k), (7, J (k + 1))]) [(8, J q8), (9, J i)] (by simp) ?_
                exact ih148  n g4 u5 k (k + 1) rw9 en9 wy9 wh9 lh9 ld9 τ mτ fτ (by omega) (by omega) (by omega) (by omega) (by omega) (by omega) (by omega) (by omega) (by omega) i9 (FND_yes (by omega) ⟨by omega, by rw [show n.toNat = i.toNat by omega]; exact (j6 (by omega)).2⟩) i11 i12 (by omega)
            · refine T.go 2 (fun n9 => (rfl : _ = exe ξ n9 (d + 8) j_M_isLineWrong 190 [(0, .ref 137), (1, J x), (2, J y), (3, J n), (4, J g4), (5, J u5), (6, J f6), (7, J k), (8, J q8), (9, J i)] [.ref 137, .ref 137] τ)) ?_
              refine T.get rfl rfl rfl mτ.ob rfl ?_
              refine T.go 1 (fun n9 => (rfl : _ = exe ξ n9 (d + 8) j_M_isLineWrong 194 [(0, .ref 137), (1, J x), (2, J y), (3, J n), (4, J g4), (5, J u5), (6, J f6), (7, J k), (8, J q8), (9, J i)] [.ref 137, J rw9, .ref 137] τ)) ?_
              refine T.get rfl rfl rfl mτ.ob rfl ?_
              refine T.go 1 (fun n9 => (rfl : _ = exe ξ n9 (d + 8) j_M_isLineWrong 199 [(0, .ref 137), (1, J x), (2, J y), (3, J n), (4, J g4), (5, J u5), (6, J f6), (7, J k), (8, J q8), (9, J i)] [J k, .ref 142, J rw9, .ref 137] τ)) ?_
              refine T.iald rfl rfl mτ.c142 (by omega) (fun z1 hzz1 hyz1 hez1 => ?_)
              have hbz1 := mτ.b142.at hez1 ⟨hzz1, hyz1⟩
              have gzz1 := gl_of hez1 ⟨hzz1, hyz1⟩
              subst gzz1
              refine T.go 1 (fun n9 => (rfl : _ = exe ξ n9 (d + 8) j_M_isLineWrong 202 [(0, .ref 137), (1, J x), (2, J y), (3, J n), (4, J g4), (5, J u5), (6, J f6), (7, J k), (8, J q8), (9, J i)] [J 46, J (gl lh9 k), J rw9, .ref 137] τ)) ?_
              refine T.iadd rfl ?_
              refine T.go 1 (fun n9 => (rfl : _ = exe ξ n9 (d + 8) j_M_isLineWrong 205 [(0, .ref 137), (1, J x), (2, J y), (3, J n), (4, J g4), (5, J u5), (6, J f6), (7, J k), (8, J q8), (9, J i)] [J i, J ((gl lh9 k) + 46), J rw9, .ref 137] τ)) ?_
              refine T.iadd rfl ?_
              refine T.callv (as := [J rw9, J (((gl lh9 k) + 46) + i)]) (r := []) rfl rfl rfl rfl mτ.ob rfl (s_M_get (d + 7) rw9 (((gl lh9 k) + 46) + i) τ mτ (by omega)) (fun v1 s1 hqs1 => ?_)
              obtain ⟨z2, rfl, esz2, hzz2, hyz2, pz2_0⟩ := hqs1
              rw [esz2]
              have ggz2 := gc_at (Lc := Lc) (r := rw9) (k := (((gl lh9 k) + 46) + i)) (by omega)
              rw [← pz2_0, i6] at ggz2
              refine T.go 4 (fun n9 => (rfl : _ = exe ξ n9 (d + 8) j_M_isLineWrong 213 [(0, .ref 137), (1, J x), (2, J y), (3, J n), (4, J g4), (5, J u5), (6, J f6), (7, J k), (8, J q8), (9, J i)] [J 3, J x, J 5, .ref 137, J z2] τ)) ?_
              refine T.iadd rfl ?_
              refine T.go 1 (fun n9 => (rfl : _ = exe ξ n9 (d + 8) j_M_isLineWrong 216 [(0, .ref 137), (1, J x), (2, J y), (3, J n), (4, J g4), (5, J u5), (6, J f6), (7, J k), (8, J q8), (9, J i)] [J i, J (x + 3), J 5, .ref 137, J z2] τ)) ?_
              refine T.iadd rfl ?_
              refine T.callv (as := [J 5, J ((x + 3) + i)]) (r := [J z2]) rfl rfl rfl rfl mτ.ob rfl (s_M_get (d + 7) 5 ((x + 3) + i) τ mτ (by omega)) (fun v2 s2 hqs2 => ?_)
              obtain ⟨z3, rfl, esz3, hzz3, hyz3, pz3_0⟩ := hqs2
              rw [esz3]
              have ggz3 := gc_at (Lc := Lc) (r := 5) (k := ((x + 3) + i)) (by omega)
              rw [← pz3_0] at ggz3
              refine T.icmp_ne rfl rfl (by omega) (by omega) (fun c5 => ?_) (fun c5 => ?_)
              · refine T.go 2 (fun n9 => (rfl : _ = exe ξ n9 (d + 8) j_M_isLineWrong 230 [(0, .ref 137), (1, J x), (2, J y), (3, J n), (4, J g4), (5, J u5), (6, J f6), (7, J k), (8, J 0), (9, J i)] [] τ)) ?_
                refine T.iinc (lv' := [(0, .ref 137), (1, J x), (2, J y), (3, J n), (4, J g4), (5, J u5), (6, J f6), (7, J k), (8, J 0), (9, J (i + 1))]) rfl rfl rfl rfl ?_
                refine T.go 1 (fun n9 => (rfl : _ = exe ξ n9 (d + 8) j_M_isLineWrong 177 [(0, .ref 137), (1, J x), (2, J y), (3, J n), (4, J g4), (5, J u5), (6, J f6), (7, J k), (8, J 0), (9, J (i + 1))] [] τ)) ?_
                exact ih177  0 (i + 1)  (by omega) (by omega) (by omega) (by omega) (by omega) (fun q u => by have := EQ2_no (m := (i + 1).toNat) (n := n.toNat) (by rw [EQ2_step (by omega), if_neg (by omega)] : EQ2 (gc Lc 1) (gc Lc 5) (gl lh9 k + 46) (x + 3) (i + 1).toNat = 0) (by omega); omega) (fun q => absurd q (by omega)) (by omega)
              · refine T.go 3 (fun n9 => (rfl : _ = exe ξ n9 (d + 8) j_M_isLineWrong 230 [(0, .ref 137), (1, J x), (2, J y), (3, J n), (4, J g4), (5, J u5), (6, J f6), (7, J k), (8, J 1), (9, J i)] [] τ)) ?_
                refine T.iinc (lv' := [(0, .ref 137), (1, J x), (2, J y), (3, J n), (4, J g4), (5, J u5), (6, J f6), (7, J k), (8, J 1), (9, J (i + 1))]) rfl rfl rfl rfl ?_
                refine T.go 1 (fun n9 => (rfl : _ = exe ξ n9 (d + 8) j_M_isLineWrong 177 [(0, .ref 137), (1, J x), (2, J y), (3, J n), (4, J g4), (5, J u5), (6, J f6), (7, J k), (8, J 1), (9, J (i + 1))] [] τ)) ?_
                exact ih177  1 (i + 1)  (by omega) (by omega) (by omega) (by omega) (by omega) (fun q => absurd q (by omega)) (fun q => ⟨by omega, by rw [EQ2_step (by omega), if_pos ⟨by omega, by omega⟩]⟩) (by omega)
      refine T.go 2 (fun n9 => (rfl : _ = exe ξ n9 (d + 8) j_M_isLineWrong 151 [(0, .ref 137), (1, J x), (2, J y), (3, J n), (4, J g4), (5, J u5), (6, J f6), (7, J k)] [.ref 137, J k] τ)) ?_
      refine T.get rfl rfl rfl mτ.ob rfl ?_
      refine T.icmp_ge rfl rfl (by omega) (by omega) (fun c6 => ?_) (fun c6 => ?_)
      · refine T.go 1 (fun n9 => (rfl : _ = exe ξ n9 (d + 8) j_M_isLineWrong 253 [(0, .ref 137), (1, J x), (2, J y), (3, J n), (4, J g4), (5, J u5), (6, J f6), (7, J k)] [J f6] τ)) ?_
        refine T.if_ge rfl rfl (by omega) (fun c7 => ?_) (fun c7 => ?_)
        · refine T.go 2 (fun n9 => (rfl : _ = exe ξ n9 (d + 8) j_M_isLineWrong 270 [(0, .ref 137), (1, J x), (2, J y), (3, J n), (4, J g4), (5, J u5), (6, J f6), (7, J k)] [J f6, .ref 137] τ)) ?_
          have fr := FND_r i10
          have hx := i9 f6 (by omega) (by omega)
          have hx2 := i11 f6 (by omega) (by omega)
          have nmd := (FND_nmd i11 i8 (show k = en9 by omega) i10).1 (by omega)
          refine T.callv (as := [J f6]) (r := []) rfl rfl rfl rfl mτ.ob rfl (s_M_fisNoMount d f6 τ mτ (by omega) (by omega) (by omega) (by omega) (by omega) (by omega) (by omega)) (fun v3 s3 hqs3 => ?_)
          obtain ⟨z4, rw_1, en_1, wy_1, wh_1, bi_1, ed_1, sz_1, md_1, bd_1, Lc_1, la_1, lk_1, lh_1, ld_1, rfl, ms3, fs3, hzz4, hyz4, pz4_0, pz4_1, pz4_2, pz4_3⟩ := hqs3
          have ns3 := ms3.len
          have rs3 := ms3.rg
          have gs3 := fτ.trans fs3
          have rgs3 := (RG.refl (S := [2, 4])).trans pz4_0 (by decide)
          have lgs3 := (LG.refl (S := [2, 4])).trans pz4_1 (by decide)
          rw [i6, hx2.1, hx2.2] at pz4_2 pz4_3
          have mok9 : z4 = 0 → MOK (gc Lc 1) (gl la 1) f6 := fun h => by obtain ⟨o, h1, h2, -⟩ := pz4_2 h; exact ⟨o, h1, h2⟩
          have nmt9 : z4 = 1 → NMT (gc Lc 1) (gl la 1) f6 := pz4_3
          refine T.if_eq rfl rfl (by omega) (fun c8 => ?_) (fun c8 => ?_)
          · refine T.go 1 (fun n9 => (rfl : _ = exe ξ n9 (d + 8) j_M_isLineWrong 290 [(0, .ref 137), (1, J x), (2, J y), (3, J n), (4, J g4), (5, J u5), (6, J f6), (7, J k)] [.ref 137] s3)) ?_
            refine T.get rfl rfl rfl ms3.ob rfl ?_
            refine T.go 1 (fun n9 => (rfl : _ = exe ξ n9 (d + 8) j_M_isLineWrong 294 [(0, .ref 137), (1, J x), (2, J y), (3, J n), (4, J g4), (5, J u5), (6, J f6), (7, J k)] [.ref 137, .ref 145] s3)) ?_
            refine T.get rfl rfl rfl ms3.ob rfl ?_
            refine T.go 1 (fun n9 => (rfl : _ = exe ξ n9 (d + 8) j_M_isLineWrong 299 [(0, .ref 137), (1, J x), (2, J y), (3, J n), (4, J g4), (5, J u5), (6, J f6), (7, J k)] [J f6, J li, .ref 145] s3)) ?_
            refine T.mast145 ms3 rfl (by omega) (by omega) (fun s4 ms4 fs4 => ?_)
            have ns4 := ms4.len
            have gs4 := gs3.trans fs4
            refine T.go 1 (fun n9 => (rfl : _ = exe ξ n9 (d + 8) j_M_isLineWrong 301 [(0, .ref 137), (1, J x), (2, J y), (3, J n), (4, J g4), (5, J u5), (6, J f6), (7, J k)] [J 0] s4)) ?_
            exact T.iretz rfl rfl (by omega) ⟨_, rw_1, en_1, wy_1, wh_1, bi_1, ed_1, sz_1, md_1, bd_1, Lc_1, la_1, lk_1, lh_1, ld_1, (lt.set (li : Int).toNat (Int32.ofInt f6)), rfl, ms4, gs4, by omega, by omega, rgs3, lgs3, (fun _ => by have e9 := (gl_set (l := lt) (x := li) (y := f6) (j := li) ⟨by omega, by omega⟩ ⟨by omega, by omega⟩ (by omega)).trans (if_pos rfl); omega), (fun j a b => by rw [gl_set (l := lt) (x := li) (y := f6) ⟨by omega, by omega⟩ ⟨by omega, by omega⟩ a, if_neg (by omega)]), (fun _ => by have e9 := (gl_set (l := lt) (x := li) (y := f6) (j := li) ⟨by omega, by omega⟩ ⟨by omega, by omega⟩ (by omega)).trans (if_pos rfl); rw [e9]; exact ⟨n, i12, by omega, nmd, mok9 (by omega)⟩), (fun q => absurd q (by omega))⟩
          · refine T.go 2 (fun n9 => (rfl : _ = exe ξ n9 (d + 8) j_M_isLineWrong 278 [(0, .ref 137), (1, J x), (2, J y), (3, J n), (4, J g4), (5, J u5), (6, J f6), (7, J k)] [.ref 137, .ref 137] s3)) ?_
            refine T.get rfl rfl rfl ms3.ob rfl ?_
            refine T.go 1 (fun n9 => (rfl : _ = exe ξ n9 (d + 8) j_M_isLineWrong 282 [(0, .ref 137), (1, J x), (2, J y), (3, J n), (4, J g4), (5, J u5), (6, J f6), (7, J k)] [.ref 137, J wy_1, .ref 137] s3)) ?_
            refine T.get rfl rfl rfl ms3.ob rfl ?_
            refine T.callv (as := [J wy_1, J li]) (r := []) rfl rfl rfl rfl ms3.ob rfl (s_M_isWrong (d + 7) wy_1 li s3 ms3 (by omega) (by omega)) (fun v4 s5 hqs5 => ?_)
            obtain ⟨z5, wy_2, wh_2, rfl, ms5, fs5, hzz5, hyz5⟩ := hqs5
            have ns5 := ms5.len
            have rs5 := ms5.rg
            have gs5 := gs3.trans fs5
            exact T.iretz rfl rfl (by omega) ⟨_, rw_1, en_1, wy_2, wh_2, bi_1, ed_1, sz_1, md_1, bd_1, Lc_1, la_1, lk_1, lh_1, ld_1, lt, rfl, ms5, gs5, by omega, by omega, rgs3, lgs3, (fun q => by omega), (fun _ _ _ => rfl), (fun q => absurd q (by omega)), (fun _ => Or.inr (Or.inr (Or.inr ⟨n, f6, i12, nmd, nmt9 (by omega)⟩)))⟩
        · refine T.go 3 (fun n9 => (rfl : _ = exe ξ n9 (d + 8) j_M_isLineWrong 260 [(0, .ref 137), (1, J x), (2, J y), (3, J n), (4, J g4), (5, J u5), (6, J f6), (7, J k)] [.ref 137, J 12, .ref 137] τ)) ?_
          refine T.get rfl rfl rfl mτ.ob rfl ?_
          refine T.callv (as := [J 12, J li]) (r := []) rfl rfl rfl rfl mτ.ob rfl (s_M_isWrong (d + 7) 12 li τ mτ (by omega) (by omega)) (fun v5 s6 hqs6 => ?_)
          obtain ⟨z6, wy_3, wh_3, rfl, ms6, fs6, hzz6, hyz6⟩ := hqs6
          have ns6 := ms6.len
          have rs6 := ms6.rg
          have gs6 := fτ.trans fs6
          exact T.iretz rfl rfl (by omega) ⟨_, rw9, en9, wy_3, wh_3, bi, ed, sz, md, bd, Lc, la, lk, lh9, ld9, lt, rfl, ms6, gs6, by omega, by omega, RG.refl, LG.refl, (fun q => by omega), (fun _ _ _ => rfl), (fun q => absurd q (by omega)), (fun _ => Or.inr (Or.inr (Or.inl ⟨n, i12, (FND_nmd i11 i8 (show k = en9 by omega) i10).2 (by omega)⟩)))⟩
      · refine T.go 2 (fun n9 => (rfl : _ = exe ξ n9 (d + 8) j_M_isLineWrong 160 [(0, .ref 137), (1, J x), (2, J y), (3, J n), (4, J g4), (5, J u5), (6, J f6), (7, J k)] [J k, .ref 137] τ)) ?_
        refine T.callv (as := [J k]) (r := []) rfl rfl rfl rfl mτ.ob rfl (s_M_nameLength (d + 5) k τ mτ (by omega) (by omega) (by omega)) (fun v6 s7 hqs7 => ?_)
        obtain ⟨z7, rfl, esz7, hzz7, hyz7, pz7_0⟩ := hqs7
        rw [esz7]
        have hdk := i9 k (by omega) (by omega)
        rw [i6] at hdk
        have e5 := pz7_0 (by omega)
        rw [i6] at e5
        subst e5
        refine T.go 1 (fun n9 => (rfl : _ = exe ξ n9 (d + 8) j_M_isLineWrong 164 [(0, .ref 137), (1, J x), (2, J y), (3, J n), (4, J g4), (5, J u5), (6, J f6), (7, J k)] [J n, J (W2 (gc Lc 1) (gl lh9 k + 28))] τ)) ?_
        refine T.icmp_ne rfl rfl (by omega) (by omega) (fun c9 => ?_) (fun c9 => ?_)
        · refine T.go 4 (fun n9 => (rfl : _ = exe ξ n9 (d + 8) j_M_isLineWrong 177 [(0, .ref 137), (1, J x), (2, J y), (3, J n), (4, J g4), (5, J u5), (6, J f6), (7, J k), (8, J 0), (9, J 0)] [] τ)) ?_
          exact loop177 _ 0 0  (by omega) (by omega) (by omega) (by omega) (by omega) (fun q u => by omega) (fun q => absurd q (by omega)) (Nat.lt_succ_self _)
        · refine T.go 5 (fun n9 => (rfl : _ = exe ξ n9 (d + 8) j_M_isLineWrong 177 [(0, .ref 137), (1, J x), (2, J y), (3, J n), (4, J g4), (5, J u5), (6, J f6), (7, J k), (8, J 1), (9, J 0)] [] τ)) ?_
          exact loop177 _ 1 0  (by omega) (by omega) (by omega) (by omega) (by omega) (fun q => absurd q (by omega)) (fun q => ⟨by omega, rfl⟩) (Nat.lt_succ_self _)
  have loop70 : ∀ (f70 : Nat) (n : Int) (g4 : Int) (k : Int), n = y - x - 4 → 0 ≤ g4 → g4 ≤ 1 → 0 ≤ k → (k = 0 ∨ k ≤ n) → (g4 = 1 → 1 ≤ n ∧ gc Lc 5 x = 45 ∧ gc Lc 5 (x + 1) = 32 ∧ gc Lc 5 (x + 2) = 34 ∧ gc Lc 5 (y - 1) = 34) → (g4 = 1 → N34 (gc Lc 5) (x + 3) k) → (g4 = 0 → NLN (gc Lc 5) (gl la 5) x) → (n - k).toNat < f70 → T ξ (d + 8) j_M_isLineWrong 70 [(0, .ref 137), (1, J x), (2, J y), (3, J n), (4, J g4), (5, J k)] [] σ (fun v σ' => ∃ (z : Int) (rw1 : Int) (en1 : Int) (wy1 : Int) (wh1 : Int) (bi1 : Int) (ed1 : Int) (sz1 : Int) (md1 : Int) (bd1 : Int) (Lc1 : List Int64) (la1 : List Int32) (lk1 : List Int32) (lh1 : List Int32) (ld1 : List Int32) (lt1 : List Int32), v = some (J z) ∧ MS σ' c io mo fa pl ns rw1 en1 wy1 wh1 bi1 ed1 sz1 md1 bd1 li wk we Lc1 la1 lm ln lh1 ld1 lk1 lt1 ∧ FM σ σ' ∧ 0 ≤ z ∧ z ≤ 1 ∧ RG [2, 4] Lc Lc1 ∧ LG [2, 4] la la1 ∧ (z = 0 → li ≤ 5 ∧ 0 ≤ gl lt1 li ∧ gl lt1 li < W2 (gc Lc 1) (EN (gc Lc 1) (gl la 1) + 8)) ∧ (∀ j : Int, 0 ≤ j → j < li → gl lt1 j = gl lt j) ∧ (z = 0 → LW0 (gc Lc 1) (gl la 1) (gc Lc 5) (gl la 5) x y (gl lt1 li)) ∧ (z = 1 → LW1 (gc Lc 1) (gl la 1) (gc Lc 5) (gl la 5) x li)) := by
    intro f70
    induction f70 with
    | zero => intro n g4 k i0 i1 i2 i3 i4 i5 i6 i7 hm70; omega
    | succ f70 ih70 =>
      intro n g4 k i0 i1 i2 i3 i4 i5 i6 i7 hm70
      refine T.go 2 (fun n9 => (rfl : _ = exe ξ n9 (d + 8) j_M_isLineWrong 73 [(0, .ref 137), (1, J x), (2, J y), (3, J n), (4, J g4), (5, J k)] [J n, J k] σ)) ?_
      refine T.icmp_ge rfl rfl (by omega) (by omega) (fun c10 => ?_) (fun c10 => ?_)
      · refine T.go 1 (fun n9 => (rfl : _ = exe ξ n9 (d + 8) j_M_isLineWrong 112 [(0, .ref 137), (1, J x), (2, J y), (3, J n), (4, J g4), (5, J k)] [J g4] σ)) ?_
        refine T.if_eq rfl rfl (by omega) (fun c11 => ?_) (fun c11 => ?_)
        · refine T.go 3 (fun n9 => (rfl : _ = exe ξ n9 (d + 8) j_M_isLineWrong 128 [(0, .ref 137), (1, J x), (2, J y), (3, J n), (4, J g4), (5, J k)] [.ref 137, J 11, .ref 137] σ)) ?_
          refine T.get rfl rfl rfl hM.ob rfl ?_
          refine T.callv (as := [J 11, J li]) (r := []) rfl rfl rfl rfl hM.ob rfl (s_M_isWrong (d + 7) 11 li σ hM (by omega) (by omega)) (fun v7 s8 hqs8 => ?_)
          obtain ⟨z8, wy_4, wh_4, rfl, ms8, fs8, hzz8, hyz8⟩ := hqs8
          have ns8 := ms8.len
          have rs8 := ms8.rg
          exact T.iretz rfl rfl (by omega) ⟨_, rw, en, wy_4, wh_4, bi, ed, sz, md, bd, Lc, la, lk, lh, ld, lt, rfl, ms8, fs8, by omega, by omega, RG.refl, LG.refl, (fun q => by omega), (fun _ _ _ => rfl), (fun q => absurd q (by omega)), (fun _ => by first | exact Or.inr (Or.inl (i7 (by omega))) | exact Or.inl (by omega))⟩
        · refine T.go 1 (fun n9 => (rfl : _ = exe ξ n9 (d + 8) j_M_isLineWrong 116 [(0, .ref 137), (1, J x), (2, J y), (3, J n), (4, J g4), (5, J k)] [.ref 137] σ)) ?_
          refine T.get rfl rfl rfl hM.ob rfl ?_
          refine T.go 1 (fun n9 => (rfl : _ = exe ξ n9 (d + 8) j_M_isLineWrong 121 [(0, .ref 137), (1, J x), (2, J y), (3, J n), (4, J g4), (5, J k)] [J 6, J li] σ)) ?_
          refine T.icmp_ne rfl rfl (by omega) (by omega) (fun c12 => ?_) (fun c12 => ?_)
          · refine T.go 2 (fun n9 => (rfl : _ = exe ξ n9 (d + 8) j_M_isLineWrong 137 [(0, .ref 137), (1, J x), (2, J y), (3, J n), (4, J g4), (5, J k)] [J 1, .ref 137] σ)) ?_
            refine T.callv (as := [J 1]) (r := []) rfl rfl rfl rfl hM.ob rfl (s_M_isFaulty (d + 1) 1 σ hM (by omega) (by omega) (by omega)) (fun v8 s9 hqs9 => ?_)
            obtain ⟨z9, rw_2, en_2, wy_5, wh_5, lh_2, ld_2, rfl, ms9, fs9, hzz9, hyz9, pz9_0, pz9_1, pz9_2, pz9_3, pz9_4, pz9_5, pz9_6, pz9_7⟩ := hqs9
            have ns9 := ms9.len
            have rs9 := ms9.rg
            have hdz9 : HD (gc Lc rw_2) lh_2 ld_2 en_2 := by rw [pz9_3]; exact fun j a b => ⟨(pz9_5 j a b).1, (pz9_5 j a b).2, (pz9_4 j a b).1, (pz9_4 j a b).2⟩
            refine T.go 5 (fun n9 => (rfl : _ = exe ξ n9 (d + 8) j_M_isLineWrong 148 [(0, .ref 137), (1, J x), (2, J y), (3, J n), (4, J g4), (5, J z9), (6, J (-1)), (7, J 0)] [] s9)) ?_
            exact loop148 _ n g4 z9 (-1) 0 rw_2 en_2 wy_5 wh_5 lh_2 ld_2 s9 ms9 fs9 (by omega) (by omega) (by omega) (by omega) (by omega) (by omega) (by omega) (by omega) (by omega) hdz9 FND_0 (fun j a b => ⟨pz9_6 j a b, pz9_7 j a b⟩) (LNE_of pre5 pre6 i0 (by omega) (by omega) (i5 (by omega)).2.1 (i5 (by omega)).2.2.1 (i5 (by omega)).2.2.2.1 (i5 (by omega)).2.2.2.2 (by rw [show n = k by omega]; exact i6 (by omega))) (Nat.lt_succ_self _)
          · refine T.go 3 (fun n9 => (rfl : _ = exe ξ n9 (d + 8) j_M_isLineWrong 128 [(0, .ref 137), (1, J x), (2, J y), (3, J n), (4, J g4), (5, J k)] [.ref 137, J 11, .ref 137] σ)) ?_
            refine T.get rfl rfl rfl hM.ob rfl ?_
            refine T.callv (as := [J 11, J li]) (r := []) rfl rfl rfl rfl hM.ob rfl (s_M_isWrong (d + 7) 11 li σ hM (by omega) (by omega)) (fun v9 s10 hqs10 => ?_)
            obtain ⟨z10, wy_6, wh_6, rfl, ms10, fs10, hzz10, hyz10⟩ := hqs10
            have ns10 := ms10.len
            have rs10 := ms10.rg
            exact T.iretz rfl rfl (by omega) ⟨_, rw, en, wy_6, wh_6, bi, ed, sz, md, bd, Lc, la, lk, lh, ld, lt, rfl, ms10, fs10, by omega, by omega, RG.refl, LG.refl, (fun q => by omega), (fun _ _ _ => rfl), (fun q => absurd q (by omega)), (fun _ => by first | exact Or.inr (Or.inl (i7 (by omega))) | exact Or.inl (by omega))⟩
      · refine T.go 1 (fun n9 => (rfl : _ = exe ξ n9 (d + 8) j_M_isLineWrong 78 [(0, .ref 137), (1, J x), (2, J y), (3, J n), (4, J g4), (5, J k)] [J g4] σ)) ?_
        refine T.if_eq rfl rfl (by omega) (fun c13 => ?_) (fun c13 => ?_)
        · refine T.go 1 (fun n9 => (rfl : _ = exe ξ n9 (d + 8) j_M_isLineWrong 112 [(0, .ref 137), (1, J x), (2, J y), (3, J n), (4, J g4), (5, J k)] [J g4] σ)) ?_
          refine T.if_eq rfl rfl (by omega) (fun c14 => ?_) (fun c14 => ?_)
          · refine T.go 3 (fun n9 => (rfl : _ = exe ξ n9 (d + 8) j_M_isLineWrong 128 [(0, .ref 137), (1, J x), (2, J y), (3, J n), (4, J g4), (5, J k)] [.ref 137, J 11, .ref 137] σ)) ?_
            refine T.get rfl rfl rfl hM.ob rfl ?_
            refine T.callv (as := [J 11, J li]) (r := []) rfl rfl rfl rfl hM.ob rfl (s_M_isWrong (d + 7) 11 li σ hM (by omega) (by omega)) (fun v10 s11 hqs11 => ?_)
            obtain ⟨z11, wy_7, wh_7, rfl, ms11, fs11, hzz11, hyz11⟩ := hqs11
            have ns11 := ms11.len
            have rs11 := ms11.rg
            exact T.iretz rfl rfl (by omega) ⟨_, rw, en, wy_7, wh_7, bi, ed, sz, md, bd, Lc, la, lk, lh, ld, lt, rfl, ms11, fs11, by omega, by omega, RG.refl, LG.refl, (fun q => by omega), (fun _ _ _ => rfl), (fun q => absurd q (by omega)), (fun _ => by first | exact Or.inr (Or.inl (i7 (by omega))) | exact Or.inl (by omega))⟩
          · refine T.go 1 (fun n9 => (rfl : _ = exe ξ n9 (d + 8) j_M_isLineWrong 116 [(0, .ref 137), (1, J x), (2, J y), (3, J n), (4, J g4), (5, J k)] [.ref 137] σ)) ?_
            refine T.get rfl rfl rfl hM.ob rfl ?_
            refine T.go 1 (fun n9 => (rfl : _ = exe ξ n9 (d + 8) j_M_isLineWrong 121 [(0, .ref 137), (1, J x), (2, J y), (3, J n), (4, J g4), (5, J k)] [J 6, J li] σ)) ?_
            refine T.icmp_ne rfl rfl (by omega) (by omega) (fun c15 => ?_) (fun c15 => ?_)
            · refine T.go 2 (fun n9 => (rfl : _ = exe ξ n9 (d + 8) j_M_isLineWrong 137 [(0, .ref 137), (1, J x), (2, J y), (3, J n), (4, J g4), (5, J k)] [J 1, .ref 137] σ)) ?_
              refine T.callv (as := [J 1]) (r := []) rfl rfl rfl rfl hM.ob rfl (s_M_isFaulty (d + 1) 1 σ hM (by omega) (by omega) (by omega)) (fun v11 s12 hqs12 => ?_)
              obtain ⟨z12, rw_3, en_3, wy_8, wh_8, lh_3, ld_3, rfl, ms12, fs12, hzz12, hyz12, pz12_0, pz12_1, pz12_2, pz12_3, pz12_4, pz12_5, pz12_6, pz12_7⟩ := hqs12
              have ns12 := ms12.len
              have rs12 := ms12.rg
              have hdz12 : HD (gc Lc rw_3) lh_3 ld_3 en_3 := by rw [pz12_3]; exact fun j a b => ⟨(pz12_5 j a b).1, (pz12_5 j a b).2, (pz12_4 j a b).1, (pz12_4 j a b).2⟩
              refine T.go 5 (fun n9 => (rfl : _ = exe ξ n9 (d + 8) j_M_isLineWrong 148 [(0, .ref 137), (1, J x), (2, J y), (3, J n), (4, J g4), (5, J z12), (6, J (-1)), (7, J 0)] [] s12)) ?_
              exact loop148 _ n g4 z12 (-1) 0 rw_3 en_3 wy_8 wh_8 lh_3 ld_3 s12 ms12 fs12 (by omega) (by omega) (by omega) (by omega) (by omega) (by omega) (by omega) (by omega) (by omega) hdz12 FND_0 (fun j a b => ⟨pz12_6 j a b, pz12_7 j a b⟩) (LNE_of pre5 pre6 i0 (by omega) (by omega) (i5 (by omega)).2.1 (i5 (by omega)).2.2.1 (i5 (by omega)).2.2.2.1 (i5 (by omega)).2.2.2.2 (by rw [show n = k by omega]; exact i6 (by omega))) (Nat.lt_succ_self _)
            · refine T.go 3 (fun n9 => (rfl : _ = exe ξ n9 (d + 8) j_M_isLineWrong 128 [(0, .ref 137), (1, J x), (2, J y), (3, J n), (4, J g4), (5, J k)] [.ref 137, J 11, .ref 137] σ)) ?_
              refine T.get rfl rfl rfl hM.ob rfl ?_
              refine T.callv (as := [J 11, J li]) (r := []) rfl rfl rfl rfl hM.ob rfl (s_M_isWrong (d + 7) 11 li σ hM (by omega) (by omega)) (fun v12 s13 hqs13 => ?_)
              obtain ⟨z13, wy_9, wh_9, rfl, ms13, fs13, hzz13, hyz13⟩ := hqs13
              have ns13 := ms13.len
              have rs13 := ms13.rg
              exact T.iretz rfl rfl (by omega) ⟨_, rw, en, wy_9, wh_9, bi, ed, sz, md, bd, Lc, la, lk, lh, ld, lt, rfl, ms13, fs13, by omega, by omega, RG.refl, LG.refl, (fun q => by omega), (fun _ _ _ => rfl), (fun q => absurd q (by omega)), (fun _ => by first | exact Or.inr (Or.inl (i7 (by omega))) | exact Or.inl (by omega))⟩
        · refine T.go 4 (fun n9 => (rfl : _ = exe ξ n9 (d + 8) j_M_isLineWrong 85 [(0, .ref 137), (1, J x), (2, J y), (3, J n), (4, J g4), (5, J k)] [J 3, J x, J 5, .ref 137] σ)) ?_
          refine T.iadd rfl ?_
          refine T.go 1 (fun n9 => (rfl : _ = exe ξ n9 (d + 8) j_M_isLineWrong 88 [(0, .ref 137), (1, J x), (2, J y), (3, J n), (4, J g4), (5, J k)] [J k, J (x + 3), J 5, .ref 137] σ)) ?_
          refine T.iadd rfl ?_
          refine T.callv (as := [J 5, J ((x + 3) + k)]) (r := []) rfl rfl rfl rfl hM.ob rfl (s_M_get (d + 7) 5 ((x + 3) + k) σ hM (by omega)) (fun v13 s14 hqs14 => ?_)
          obtain ⟨z14, rfl, esz14, hzz14, hyz14, pz14_0⟩ := hqs14
          rw [esz14]
          have ggz14 := gc_at (Lc := Lc) (r := 5) (k := ((x + 3) + k)) (by omega)
          rw [← pz14_0] at ggz14
          refine T.go 1 (fun n9 => (rfl : _ = exe ξ n9 (d + 8) j_M_isLineWrong 94 [(0, .ref 137), (1, J x), (2, J y), (3, J n), (4, J g4), (5, J k)] [J 34, J z14] σ)) ?_
          refine T.icmp_eq rfl rfl (by omega) (by omega) (fun c16 => ?_) (fun c16 => ?_)
          · refine T.go 2 (fun n9 => (rfl : _ = exe ξ n9 (d + 8) j_M_isLineWrong 104 [(0, .ref 137), (1, J x), (2, J y), (3, J n), (4, J 0), (5, J k)] [] σ)) ?_
            refine T.iinc (lv' := [(0, .ref 137), (1, J x), (2, J y), (3, J n), (4, J 0), (5, J (k + 1))]) rfl rfl rfl rfl ?_
            refine T.go 1 (fun n9 => (rfl : _ = exe ξ n9 (d + 8) j_M_isLineWrong 70 [(0, .ref 137), (1, J x), (2, J y), (3, J n), (4, J 0), (5, J (k + 1))] [] σ)) ?_
            exact ih70  n 0 (k + 1)  (by omega) (by omega) (by omega) (by omega) (by omega) (fun h => absurd h (by omega)) (fun h => absurd h (by omega)) (fun _ m q => by have t9 := (LNE_to pre5 pre6 pre1 q).2 k (by omega) (by omega); omega) (by omega)
          · refine T.go 3 (fun n9 => (rfl : _ = exe ξ n9 (d + 8) j_M_isLineWrong 104 [(0, .ref 137), (1, J x), (2, J y), (3, J n), (4, J 1), (5, J k)] [] σ)) ?_
            refine T.iinc (lv' := [(0, .ref 137), (1, J x), (2, J y), (3, J n), (4, J 1), (5, J (k + 1))]) rfl rfl rfl rfl ?_
            refine T.go 1 (fun n9 => (rfl : _ = exe ξ n9 (d + 8) j_M_isLineWrong 70 [(0, .ref 137), (1, J x), (2, J y), (3, J n), (4, J 1), (5, J (k + 1))] [] σ)) ?_
            exact ih70  n 1 (k + 1)  (by omega) (by omega) (by omega) (by omega) (by omega) (fun _ => i5 (by omega)) (fun _ => N34_s (i6 (by omega)) (by omega)) (fun h => absurd h (by omega)) (by omega)
  refine T.go 2 (fun n9 => (rfl : _ = exe ξ n9 (d + 8) j_M_isLineWrong 2 [(0, .ref 137), (1, J x), (2, J y)] [J x, J y] σ)) ?_
  refine T.isub rfl ?_
  refine T.go 1 (fun n9 => (rfl : _ = exe ξ n9 (d + 8) j_M_isLineWrong 4 [(0, .ref 137), (1, J x), (2, J y)] [J 4, J (y - x)] σ)) ?_
  refine T.isub rfl ?_
  refine T.go 2 (fun n9 => (rfl : _ = exe ξ n9 (d + 8) j_M_isLineWrong 7 [(0, .ref 137), (1, J x), (2, J y), (3, J ((y - x) - 4))] [J ((y - x) - 4)] σ)) ?_
  refine T.if_le rfl rfl (by omega) (fun c17 => ?_) (fun c17 => ?_)
  · refine T.go 4 (fun n9 => (rfl : _ = exe ξ n9 (d + 8) j_M_isLineWrong 70 [(0, .ref 137), (1, J x), (2, J y), (3, J ((y - x) - 4)), (4, J 0), (5, J 0)] [] σ)) ?_
    exact loop70 _ ((y - x) - 4) 0 0  (by omega) (by omega) (by omega) (by omega) (by omega) (fun h => absurd h (by omega)) (fun h => absurd h (by omega)) (fun _ m q => by have t9 := (LNE_to pre5 pre6 pre1 q).1; omega) (Nat.lt_succ_self _)
  · refine T.go 3 (fun n9 => (rfl : _ = exe ξ n9 (d + 8) j_M_isLineWrong 13 [(0, .ref 137), (1, J x), (2, J y), (3, J ((y - x) - 4))] [J x, J 5, .ref 137] σ)) ?_
    refine T.callv (as := [J 5, J x]) (r := []) rfl rfl rfl rfl hM.ob rfl (s_M_get (d + 7) 5 x σ hM (by omega)) (fun v14 s15 hqs15 => ?_)
    obtain ⟨z15, rfl, esz15, hzz15, hyz15, pz15_0⟩ := hqs15
    rw [esz15]
    have ggz15 := gc_at (Lc := Lc) (r := 5) (k := x) (by omega)
    rw [← pz15_0] at ggz15
    refine T.go 1 (fun n9 => (rfl : _ = exe ξ n9 (d + 8) j_M_isLineWrong 18 [(0, .ref 137), (1, J x), (2, J y), (3, J ((y - x) - 4))] [J 45, J z15] σ)) ?_
    refine T.icmp_ne rfl rfl (by omega) (by omega) (fun c18 => ?_) (fun c18 => ?_)
    · refine T.go 4 (fun n9 => (rfl : _ = exe ξ n9 (d + 8) j_M_isLineWrong 70 [(0, .ref 137), (1, J x), (2, J y), (3, J ((y - x) - 4)), (4, J 0), (5, J 0)] [] σ)) ?_
      exact loop70 _ ((y - x) - 4) 0 0  (by omega) (by omega) (by omega) (by omega) (by omega) (fun h => absurd h (by omega)) (fun h => absurd h (by omega)) (fun _ m q => by have t9 := (LNE_to pre5 pre6 pre1 q).1; omega) (Nat.lt_succ_self _)
    · refine T.go 4 (fun n9 => (rfl : _ = exe ξ n9 (d + 8) j_M_isLineWrong 25 [(0, .ref 137), (1, J x), (2, J y), (3, J ((y - x) - 4))] [J 1, J x, J 5, .ref 137] σ)) ?_
      refine T.iadd rfl ?_
      refine T.callv (as := [J 5, J (x + 1)]) (r := []) rfl rfl rfl rfl hM.ob rfl (s_M_get (d + 7) 5 (x + 1) σ hM (by omega)) (fun v15 s16 hqs16 => ?_)
      obtain ⟨z16, rfl, esz16, hzz16, hyz16, pz16_0⟩ := hqs16
      rw [esz16]
      have ggz16 := gc_at (Lc := Lc) (r := 5) (k := (x + 1)) (by omega)
      rw [← pz16_0] at ggz16
      refine T.go 1 (fun n9 => (rfl : _ = exe ξ n9 (d + 8) j_M_isLineWrong 31 [(0, .ref 137), (1, J x), (2, J y), (3, J ((y - x) - 4))] [J 32, J z16] σ)) ?_
      refine T.icmp_ne rfl rfl (by omega) (by omega) (fun c19 => ?_) (fun c19 => ?_)
      · refine T.go 4 (fun n9 => (rfl : _ = exe ξ n9 (d + 8) j_M_isLineWrong 70 [(0, .ref 137), (1, J x), (2, J y), (3, J ((y - x) - 4)), (4, J 0), (5, J 0)] [] σ)) ?_
        exact loop70 _ ((y - x) - 4) 0 0  (by omega) (by omega) (by omega) (by omega) (by omega) (fun h => absurd h (by omega)) (fun h => absurd h (by omega)) (fun _ m q => by have t9 := (LNE_to pre5 pre6 pre1 q).1; omega) (Nat.lt_succ_self _)
      · refine T.go 4 (fun n9 => (rfl : _ = exe ξ n9 (d + 8) j_M_isLineWrong 38 [(0, .ref 137), (1, J x), (2, J y), (3, J ((y - x) - 4))] [J 2, J x, J 5, .ref 137] σ)) ?_
        refine T.iadd rfl ?_
        refine T.callv (as := [J 5, J (x + 2)]) (r := []) rfl rfl rfl rfl hM.ob rfl (s_M_get (d + 7) 5 (x + 2) σ hM (by omega)) (fun v16 s17 hqs17 => ?_)
        obtain ⟨z17, rfl, esz17, hzz17, hyz17, pz17_0⟩ := hqs17
        rw [esz17]
        have ggz17 := gc_at (Lc := Lc) (r := 5) (k := (x + 2)) (by omega)
        rw [← pz17_0] at ggz17
        refine T.go 1 (fun n9 => (rfl : _ = exe ξ n9 (d + 8) j_M_isLineWrong 44 [(0, .ref 137), (1, J x), (2, J y), (3, J ((y - x) - 4))] [J 34, J z17] σ)) ?_
        refine T.icmp_ne rfl rfl (by omega) (by omega) (fun c20 => ?_) (fun c20 => ?_)
        · refine T.go 4 (fun n9 => (rfl : _ = exe ξ n9 (d + 8) j_M_isLineWrong 70 [(0, .ref 137), (1, J x), (2, J y), (3, J ((y - x) - 4)), (4, J 0), (5, J 0)] [] σ)) ?_
          exact loop70 _ ((y - x) - 4) 0 0  (by omega) (by omega) (by omega) (by omega) (by omega) (fun h => absurd h (by omega)) (fun h => absurd h (by omega)) (fun _ m q => by have t9 := (LNE_to pre5 pre6 pre1 q).1; omega) (Nat.lt_succ_self _)
        · refine T.go 4 (fun n9 => (rfl : _ = exe ξ n9 (d + 8) j_M_isLineWrong 51 [(0, .ref 137), (1, J x), (2, J y), (3, J ((y - x) - 4))] [J 1, J y, J 5, .ref 137] σ)) ?_
          refine T.isub rfl ?_
          refine T.callv (as := [J 5, J (y - 1)]) (r := []) rfl rfl rfl rfl hM.ob rfl (s_M_get (d + 7) 5 (y - 1) σ hM (by omega)) (fun v17 s18 hqs18 => ?_)
          obtain ⟨z18, rfl, esz18, hzz18, hyz18, pz18_0⟩ := hqs18
          rw [esz18]
          have ggz18 := gc_at (Lc := Lc) (r := 5) (k := (y - 1)) (by omega)
          rw [← pz18_0] at ggz18
          refine T.go 1 (fun n9 => (rfl : _ = exe ξ n9 (d + 8) j_M_isLineWrong 57 [(0, .ref 137), (1, J x), (2, J y), (3, J ((y - x) - 4))] [J 34, J z18] σ)) ?_
          refine T.icmp_ne rfl rfl (by omega) (by omega) (fun c21 => ?_) (fun c21 => ?_)
          · refine T.go 4 (fun n9 => (rfl : _ = exe ξ n9 (d + 8) j_M_isLineWrong 70 [(0, .ref 137), (1, J x), (2, J y), (3, J ((y - x) - 4)), (4, J 0), (5, J 0)] [] σ)) ?_
            exact loop70 _ ((y - x) - 4) 0 0  (by omega) (by omega) (by omega) (by omega) (by omega) (fun h => absurd h (by omega)) (fun h => absurd h (by omega)) (fun _ m q => by have t9 := (LNE_to pre5 pre6 pre1 q).1; omega) (Nat.lt_succ_self _)
          · refine T.go 5 (fun n9 => (rfl : _ = exe ξ n9 (d + 8) j_M_isLineWrong 70 [(0, .ref 137), (1, J x), (2, J y), (3, J ((y - x) - 4)), (4, J 1), (5, J 0)] [] σ)) ?_
            exact loop70 _ ((y - x) - 4) 1 0  (by omega) (by omega) (by omega) (by omega) (by omega) (fun _ => ⟨by omega, by omega, by omega, by omega, by omega⟩) (fun _ => N34_0) (fun h => absurd h (by omega)) (Nat.lt_succ_self _)
