/-! The model: the tape, byte by byte; open. -/
set_option maxHeartbeats 4000000 in
theorem s_M_ffeed {ξ : Nat → Option (Nat × List Int32)} {c io mo fa pl ns rw en wy wh bi ed sz md bd li wk we : Int} {Lc : List Int64} {la lm ln lh ld lk lt : List Int32} (d : Nat) (x : Int) (y : Int) (u : Int) (o : Int) (q : Int) (σ : qH) (hM : MS σ c io mo fa pl ns rw en wy wh bi ed sz md bd li wk we Lc la lm ln lh ld lk lt) (rx : -2147483648 ≤ x ∧ x ≤ 2147483647) (ry : -2147483648 ≤ y ∧ y ≤ 2147483647) (ru : -2147483648 ≤ u ∧ u ≤ 2147483647) (ro : -2147483648 ≤ o ∧ o ≤ 2147483647) (rq : -2147483648 ≤ q ∧ q ≤ 2147483647) : T ξ (d + 10) j_M_feed 0 (lv_args 0 [.ref 137, J x, J y, J u, J o, J q]) [] σ (fun v σ' => ∃ (z : Int) (c1 : Int) (Lc1 : List Int64) (la1 : List Int32), v = some (J z) ∧ MS σ' c1 io mo fa pl ns rw en wy wh bi ed sz md bd li wk we Lc1 la1 lm ln lh ld lk lt ∧ FM σ σ' ∧ 0 ≤ z ∧ z ≤ 1 ∧ RG [0] Lc Lc1 ∧ (gl la 0 ≤ 7980 → z = 1 ∧ gl la1 0 = gl la 0 + 20) ∧ (7980 < gl la 0 → z = 0 ∧ gl la1 0 = gl la 0) ∧ gl la1 1 = gl la 1 ∧ (gl la 0 ≤ 7980 → gc Lc1 0 = up20 (gc Lc 0) (gl la 0) x y u o q) ∧ (7980 < gl la 0 → gc Lc1 0 = gc Lc 0)) := by
  have r0 := hM.rg
  have n0 := hM.len
  have loop25 : ∀ (f25 : Nat) (k : Int) (Lc9 : List Int64) (τ : qH), MS τ 0 io mo fa pl ns rw en wy wh bi ed sz md bd li wk we Lc9 la lm ln lh ld lk lt → FM σ τ → RG [0] Lc Lc9 → 0 ≤ k → k ≤ 20 → gl la 0 ≤ 7980 → gc Lc9 0 = fd (gc Lc 0) (gl la 0) x y u o q k.toNat → (20 - k).toNat < f25 → T ξ (d + 10) j_M_feed 25 [(0, .ref 137), (1, J x), (2, J y), (3, J u), (4, J o), (5, J q), (6, J k)] [] τ (fun v σ' => ∃ (z : Int) (c1 : Int) (Lc1 : List Int64) (la1 : List Int32), v = some (J z) ∧ MS σ' c1 io mo fa pl ns rw en wy wh bi ed sz md bd li wk we Lc1 la1 lm ln lh ld lk lt ∧ FM σ σ' ∧ 0 ≤ z ∧ z ≤ 1 ∧ RG [0] Lc Lc1 ∧ (gl la 0 ≤ 7980 → z = 1 ∧ gl la1 0 = gl la 0 + 20) ∧ (7980 < gl la 0 → z = 0 ∧ gl la1 0 = gl la 0) ∧ gl la1 1 = gl la 1 ∧ (gl la 0 ≤ 7980 → gc Lc1 0 = up20 (gc Lc 0) (gl la 0) x y u o q) ∧ (7980 < gl la 0 → gc Lc1 0 = gc Lc 0)) := by
    intro f25
    induction f25 with
    | zero => intro k Lc9 τ mτ fτ gτ i0 i1 i2 i3 hm25; omega
    | succ f25 ih25 =>
      intro k Lc9 τ mτ fτ gτ i0 i1 i2 i3 hm25
      have rτ := mτ.rg
      have nτ := mτ.len
      refine T.go 2 (fun n9 => (rfl : _ = exe ξ n9 (d + 10) j_M_feed 29 [(0, .ref 137), (1, J x), (2, J y), (3, J u), (4, J o), (5, J q), (6, J k)] [J 20, J k] τ)) ?_
      refine T.icmp_ge rfl rfl (by omega) (by omega) (fun c1 => ?_) (fun c1 => ?_)
      · refine T.go 1 (fun n9 => (rfl : _ = exe ξ n9 (d + 10) j_M_feed 114 [(0, .ref 137), (1, J x), (2, J y), (3, J u), (4, J o), (5, J q), (6, J k)] [.ref 137] τ)) ?_
        refine T.get rfl rfl rfl mτ.ob rfl ?_
        refine T.go 2 (fun n9 => (rfl : _ = exe ξ n9 (d + 10) j_M_feed 119 [(0, .ref 137), (1, J x), (2, J y), (3, J u), (4, J o), (5, J q), (6, J k)] [J 0, .ref 139, J 0, .ref 139] τ)) ?_
        refine T.iald rfl rfl mτ.c139 (by omega) (fun z1 hzz1 hyz1 hez1 => ?_)
        have hbz1 := mτ.b139.at hez1 ⟨hzz1, hyz1⟩
        have gzz1 := gl_of hez1 ⟨hzz1, hyz1⟩
        subst gzz1
        refine T.go 1 (fun n9 => (rfl : _ = exe ξ n9 (d + 10) j_M_feed 122 [(0, .ref 137), (1, J x), (2, J y), (3, J u), (4, J o), (5, J q), (6, J k)] [J 20, J (gl la 0), J 0, .ref 139] τ)) ?_
        refine T.iadd rfl ?_
        refine T.mast139 mτ rfl (by omega) (by omega) (fun s1 ms1 fs1 => ?_)
        have ns1 := ms1.len
        have gs1 := fτ.trans fs1
        have lgs1 := (LG.refl (S := [0])).trans (LG.set (S := [0]) (A := la) (x := 0) (v := Int32.ofInt ((gl la 0) + 20)) (by decide) (by decide)) (fun _ z => z)
        have gss1 : ∀ j : Int, 0 ≤ j → gl (la.set (0 : Int).toNat (Int32.ofInt ((gl la 0) + 20))) j = if j = 0 then (gl la 0) + 20 else gl la j := fun j hj => gl_set ⟨by omega, by omega⟩ ⟨by omega, by omega⟩ hj
        have ges1 : gl (la.set (0 : Int).toNat (Int32.ofInt ((gl la 0) + 20))) 0 = (gl la 0) + 20 := (gss1 0 (by omega)).trans (if_pos rfl)
        refine T.go 1 (fun n9 => (rfl : _ = exe ξ n9 (d + 10) j_M_feed 125 [(0, .ref 137), (1, J x), (2, J y), (3, J u), (4, J o), (5, J q), (6, J k)] [J 1] s1)) ?_
        exact T.iretz rfl rfl (by omega) ⟨_, 0, Lc9, (la.set (0 : Int).toNat (Int32.ofInt ((gl la 0) + 20))), rfl, ms1, gs1, by omega, by omega, gτ, by omega, by omega, ((gss1 1 (by decide)).trans (if_neg (by decide))), (fun h => by rw [← fd_20, show (20 : Nat) = k.toNat by omega]; exact i3), (fun h => absurd h (by omega))⟩
      · refine T.go 2 (fun n9 => (rfl : _ = exe ξ n9 (d + 10) j_M_feed 35 [(0, .ref 137), (1, J x), (2, J y), (3, J u), (4, J o), (5, J q), (6, J k)] [J 4, J k] τ)) ?_
        refine T.icmp_ge rfl rfl (by omega) (by omega) (fun c2 => ?_) (fun c2 => ?_)
        · refine T.go 2 (fun n9 => (rfl : _ = exe ξ n9 (d + 10) j_M_feed 46 [(0, .ref 137), (1, J x), (2, J y), (3, J u), (4, J o), (5, J q), (6, J k)] [J 8, J k] τ)) ?_
          refine T.icmp_ge rfl rfl (by omega) (by omega) (fun c3 => ?_) (fun c3 => ?_)
          · refine T.go 2 (fun n9 => (rfl : _ = exe ξ n9 (d + 10) j_M_feed 57 [(0, .ref 137), (1, J x), (2, J y), (3, J u), (4, J o), (5, J q), (6, J k)] [J 12, J k] τ)) ?_
            refine T.icmp_ge rfl rfl (by omega) (by omega) (fun c4 => ?_) (fun c4 => ?_)
            · refine T.go 2 (fun n9 => (rfl : _ = exe ξ n9 (d + 10) j_M_feed 68 [(0, .ref 137), (1, J x), (2, J y), (3, J u), (4, J o), (5, J q), (6, J k)] [J 16, J k] τ)) ?_
              refine T.icmp_ge rfl rfl (by omega) (by omega) (fun c5 => ?_) (fun c5 => ?_)
              · refine T.go 5 (fun n9 => (rfl : _ = exe ξ n9 (d + 10) j_M_feed 83 [(0, .ref 137), (1, J x), (2, J y), (3, J u), (4, J o), (5, J q), (6, J k), (7, J q)] [.ref 137, J 0, .ref 137] τ)) ?_
                refine T.get rfl rfl rfl mτ.ob rfl ?_
                refine T.go 1 (fun n9 => (rfl : _ = exe ξ n9 (d + 10) j_M_feed 87 [(0, .ref 137), (1, J x), (2, J y), (3, J u), (4, J o), (5, J q), (6, J k), (7, J q)] [J 0, .ref 139, J 0, .ref 137] τ)) ?_
                refine T.iald rfl rfl mτ.c139 (by omega) (fun z2 hzz2 hyz2 hez2 => ?_)
                have hbz2 := mτ.b139.at hez2 ⟨hzz2, hyz2⟩
                have gzz2 := gl_of hez2 ⟨hzz2, hyz2⟩
                subst gzz2
                refine T.go 1 (fun n9 => (rfl : _ = exe ξ n9 (d + 10) j_M_feed 90 [(0, .ref 137), (1, J x), (2, J y), (3, J u), (4, J o), (5, J q), (6, J k), (7, J q)] [J k, J (gl la 0), J 0, .ref 137] τ)) ?_
                refine T.iadd rfl ?_
                refine T.go 5 (fun n9 => (rfl : _ = exe ξ n9 (d + 10) j_M_feed 100 [(0, .ref 137), (1, J x), (2, J y), (3, J u), (4, J o), (5, J q), (6, J k), (7, J q)] [J 4, J k, J 8, J 24, J q, J ((gl la 0) + k), J 0, .ref 137] τ)) ?_
                refine T.iremc (c := 4) rfl (by decide) (by omega) ?_
                refine T.imul rfl ?_
                refine T.isub rfl ?_
                refine T.ishrv rfl (by omega) (by omega) ?_
                have dz4 := dP2_r (q := q) (n := 24 - (8 * (k % 4))) (by omega)
                refine T.callv (as := [J 0, J ((gl la 0) + k), J (q / P2 (24 - (8 * (k % 4))))]) (r := []) rfl rfl rfl rfl mτ.ob rfl (s_M_fput (d + 9) 0 ((gl la 0) + k) (q / P2 (24 - (8 * (k % 4)))) τ mτ (by omega) (by omega) (by omega) (by omega) (by omega) (by omega) (by omega)) (fun v1 s2 hqs2 => ?_)
                obtain ⟨Lc_1, rfl, ms2, fs2, pz5_0, pz5_1⟩ := hqs2
                have ns2 := ms2.len
                have rs2 := ms2.rg
                have gs2 := fτ.trans fs2
                have rgs2 := gτ.trans pz5_0 (by decide)
                refine T.iinc (lv' := [(0, .ref 137), (1, J x), (2, J y), (3, J u), (4, J o), (5, J q), (6, J (k + 1)), (7, J q)]) rfl rfl rfl rfl ?_
                refine T.go 1 (fun n9 => (rfl : _ = exe ξ n9 (d + 10) j_M_feed 25 [(0, .ref 137), (1, J x), (2, J y), (3, J u), (4, J o), (5, J q), (6, J (k + 1)), (7, J q)] [] s2)) ?_
                refine T.drop (lv := [(0, .ref 137), (1, J x), (2, J y), (3, J u), (4, J o), (5, J q), (6, J (k + 1))]) [(7, J q)] (by simp) ?_
                exact ih25  (k + 1) Lc_1 s2 ms2 gs2 rgs2 (by omega) (by omega) (by omega) (by rw [pz5_1, i3, fd_step (by omega)]; congr 1; unfold fb; first | (rw [if_pos (by omega)]) | (rw [if_neg (by omega), if_pos (by omega)]) | (rw [if_neg (by omega), if_neg (by omega), if_pos (by omega)]) | (rw [if_neg (by omega), if_neg (by omega), if_neg (by omega), if_pos (by omega)]) | (rw [if_neg (by omega), if_neg (by omega), if_neg (by omega), if_neg (by omega)])) (by omega)
              · refine T.go 6 (fun n9 => (rfl : _ = exe ξ n9 (d + 10) j_M_feed 83 [(0, .ref 137), (1, J x), (2, J y), (3, J u), (4, J o), (5, J q), (6, J k), (7, J o)] [.ref 137, J 0, .ref 137] τ)) ?_
                refine T.get rfl rfl rfl mτ.ob rfl ?_
                refine T.go 1 (fun n9 => (rfl : _ = exe ξ n9 (d + 10) j_M_feed 87 [(0, .ref 137), (1, J x), (2, J y), (3, J u), (4, J o), (5, J q), (6, J k), (7, J o)] [J 0, .ref 139, J 0, .ref 137] τ)) ?_
                refine T.iald rfl rfl mτ.c139 (by omega) (fun z6 hzz6 hyz6 hez6 => ?_)
                have hbz6 := mτ.b139.at hez6 ⟨hzz6, hyz6⟩
                have gzz6 := gl_of hez6 ⟨hzz6, hyz6⟩
                subst gzz6
                refine T.go 1 (fun n9 => (rfl : _ = exe ξ n9 (d + 10) j_M_feed 90 [(0, .ref 137), (1, J x), (2, J y), (3, J u), (4, J o), (5, J q), (6, J k), (7, J o)] [J k, J (gl la 0), J 0, .ref 137] τ)) ?_
                refine T.iadd rfl ?_
                refine T.go 5 (fun n9 => (rfl : _ = exe ξ n9 (d + 10) j_M_feed 100 [(0, .ref 137), (1, J x), (2, J y), (3, J u), (4, J o), (5, J q), (6, J k), (7, J o)] [J 4, J k, J 8, J 24, J o, J ((gl la 0) + k), J 0, .ref 137] τ)) ?_
                refine T.iremc (c := 4) rfl (by decide) (by omega) ?_
                refine T.imul rfl ?_
                refine T.isub rfl ?_
                refine T.ishrv rfl (by omega) (by omega) ?_
                have dz8 := dP2_r (q := o) (n := 24 - (8 * (k % 4))) (by omega)
                refine T.callv (as := [J 0, J ((gl la 0) + k), J (o / P2 (24 - (8 * (k % 4))))]) (r := []) rfl rfl rfl rfl mτ.ob rfl (s_M_fput (d + 9) 0 ((gl la 0) + k) (o / P2 (24 - (8 * (k % 4)))) τ mτ (by omega) (by omega) (by omega) (by omega) (by omega) (by omega) (by omega)) (fun v2 s3 hqs3 => ?_)
                obtain ⟨Lc_2, rfl, ms3, fs3, pz9_0, pz9_1⟩ := hqs3
                have ns3 := ms3.len
                have rs3 := ms3.rg
                have gs3 := fτ.trans fs3
                have rgs3 := gτ.trans pz9_0 (by decide)
                refine T.iinc (lv' := [(0, .ref 137), (1, J x), (2, J y), (3, J u), (4, J o), (5, J q), (6, J (k + 1)), (7, J o)]) rfl rfl rfl rfl ?_
                refine T.go 1 (fun n9 => (rfl : _ = exe ξ n9 (d + 10) j_M_feed 25 [(0, .ref 137), (1, J x), (2, J y), (3, J u), (4, J o), (5, J q), (6, J (k + 1)), (7, J o)] [] s3)) ?_
                refine T.drop (lv := [(0, .ref 137), (1, J x), (2, J y), (3, J u), (4, J o), (5, J q), (6, J (k + 1))]) [(7, J o)] (by simp) ?_
                exact ih25  (k + 1) Lc_2 s3 ms3 gs3 rgs3 (by omega) (by omega) (by omega) (by rw [pz9_1, i3, fd_step (by omega)]; congr 1; unfold fb; first | (rw [if_pos (by omega)]) | (rw [if_neg (by omega), if_pos (by omega)]) | (rw [if_neg (by omega), if_neg (by omega), if_pos (by omega)]) | (rw [if_neg (by omega), if_neg (by omega), if_neg (by omega), if_pos (by omega)]) | (rw [if_neg (by omega), if_neg (by omega), if_neg (by omega), if_neg (by omega)])) (by omega)
            · refine T.go 6 (fun n9 => (rfl : _ = exe ξ n9 (d + 10) j_M_feed 83 [(0, .ref 137), (1, J x), (2, J y), (3, J u), (4, J o), (5, J q), (6, J k), (7, J u)] [.ref 137, J 0, .ref 137] τ)) ?_
              refine T.get rfl rfl rfl mτ.ob rfl ?_
              refine T.go 1 (fun n9 => (rfl : _ = exe ξ n9 (d + 10) j_M_feed 87 [(0, .ref 137), (1, J x), (2, J y), (3, J u), (4, J o), (5, J q), (6, J k), (7, J u)] [J 0, .ref 139, J 0, .ref 137] τ)) ?_
              refine T.iald rfl rfl mτ.c139 (by omega) (fun z10 hzz10 hyz10 hez10 => ?_)
              have hbz10 := mτ.b139.at hez10 ⟨hzz10, hyz10⟩
              have gzz10 := gl_of hez10 ⟨hzz10, hyz10⟩
              subst gzz10
              refine T.go 1 (fun n9 => (rfl : _ = exe ξ n9 (d + 10) j_M_feed 90 [(0, .ref 137), (1, J x), (2, J y), (3, J u), (4, J o), (5, J q), (6, J k), (7, J u)] [J k, J (gl la 0), J 0, .ref 137] τ)) ?_
              refine T.iadd rfl ?_
              refine T.go 5 (fun n9 => (rfl : _ = exe ξ n9 (d + 10) j_M_feed 100 [(0, .ref 137), (1, J x), (2, J y), (3, J u), (4, J o), (5, J q), (6, J k), (7, J u)] [J 4, J k, J 8, J 24, J u, J ((gl la 0) + k), J 0, .ref 137] τ)) ?_
              refine T.iremc (c := 4) rfl (by decide) (by omega) ?_
              refine T.imul rfl ?_
              refine T.isub rfl ?_
              refine T.ishrv rfl (by omega) (by omega) ?_
              have dz12 := dP2_r (q := u) (n := 24 - (8 * (k % 4))) (by omega)
              refine T.callv (as := [J 0, J ((gl la 0) + k), J (u / P2 (24 - (8 * (k % 4))))]) (r := []) rfl rfl rfl rfl mτ.ob rfl (s_M_fput (d + 9) 0 ((gl la 0) + k) (u / P2 (24 - (8 * (k % 4)))) τ mτ (by omega) (by omega) (by omega) (by omega) (by omega) (by omega) (by omega)) (fun v3 s4 hqs4 => ?_)
              obtain ⟨Lc_3, rfl, ms4, fs4, pz13_0, pz13_1⟩ := hqs4
              have ns4 := ms4.len
              have rs4 := ms4.rg
              have gs4 := fτ.trans fs4
              have rgs4 := gτ.trans pz13_0 (by decide)
              refine T.iinc (lv' := [(0, .ref 137), (1, J x), (2, J y), (3, J u), (4, J o), (5, J q), (6, J (k + 1)), (7, J u)]) rfl rfl rfl rfl ?_
              refine T.go 1 (fun n9 => (rfl : _ = exe ξ n9 (d + 10) j_M_feed 25 [(0, .ref 137), (1, J x), (2, J y), (3, J u), (4, J o), (5, J q), (6, J (k + 1)), (7, J u)] [] s4)) ?_
              refine T.drop (lv := [(0, .ref 137), (1, J x), (2, J y), (3, J u), (4, J o), (5, J q), (6, J (k + 1))]) [(7, J u)] (by simp) ?_
              exact ih25  (k + 1) Lc_3 s4 ms4 gs4 rgs4 (by omega) (by omega) (by omega) (by rw [pz13_1, i3, fd_step (by omega)]; congr 1; unfold fb; first | (rw [if_pos (by omega)]) | (rw [if_neg (by omega), if_pos (by omega)]) | (rw [if_neg (by omega), if_neg (by omega), if_pos (by omega)]) | (rw [if_neg (by omega), if_neg (by omega), if_neg (by omega), if_pos (by omega)]) | (rw [if_neg (by omega), if_neg (by omega), if_neg (by omega), if_neg (by omega)])) (by omega)
          · refine T.go 6 (fun n9 => (rfl : _ = exe ξ n9 (d + 10) j_M_feed 83 [(0, .ref 137), (1, J x), (2, J y), (3, J u), (4, J o), (5, J q), (6, J k), (7, J y)] [.ref 137, J 0, .ref 137] τ)) ?_
            refine T.get rfl rfl rfl mτ.ob rfl ?_
            refine T.go 1 (fun n9 => (rfl : _ = exe ξ n9 (d + 10) j_M_feed 87 [(0, .ref 137), (1, J x), (2, J y), (3, J u), (4, J o), (5, J q), (6, J k), (7, J y)] [J 0, .ref 139, J 0, .ref 137] τ)) ?_
            refine T.iald rfl rfl mτ.c139 (by omega) (fun z14 hzz14 hyz14 hez14 => ?_)
            have hbz14 := mτ.b139.at hez14 ⟨hzz14, hyz14⟩
            have gzz14 := gl_of hez14 ⟨hzz14, hyz14⟩
            subst gzz14
            refine T.go 1 (fun n9 => (rfl : _ = exe ξ n9 (d + 10) j_M_feed 90 [(0, .ref 137), (1, J x), (2, J y), (3, J u), (4, J o), (5, J q), (6, J k), (7, J y)] [J k, J (gl la 0), J 0, .ref 137] τ)) ?_
            refine T.iadd rfl ?_
            refine T.go 5 (fun n9 => (rfl : _ = exe ξ n9 (d + 10) j_M_feed 100 [(0, .ref 137), (1, J x), (2, J y), (3, J u), (4, J o), (5, J q), (6, J k), (7, J y)] [J 4, J k, J 8, J 24, J y, J ((gl la 0) + k), J 0, .ref 137] τ)) ?_
            refine T.iremc (c := 4) rfl (by decide) (by omega) ?_
            refine T.imul rfl ?_
            refine T.isub rfl ?_
            refine T.ishrv rfl (by omega) (by omega) ?_
            have dz16 := dP2_r (q := y) (n := 24 - (8 * (k % 4))) (by omega)
            refine T.callv (as := [J 0, J ((gl la 0) + k), J (y / P2 (24 - (8 * (k % 4))))]) (r := []) rfl rfl rfl rfl mτ.ob rfl (s_M_fput (d + 9) 0 ((gl la 0) + k) (y / P2 (24 - (8 * (k % 4)))) τ mτ (by omega) (by omega) (by omega) (by omega) (by omega) (by omega) (by omega)) (fun v4 s5 hqs5 => ?_)
            obtain ⟨Lc_4, rfl, ms5, fs5, pz17_0, pz17_1⟩ := hqs5
            have ns5 := ms5.len
            have rs5 := ms5.rg
            have gs5 := fτ.trans fs5
            have rgs5 := gτ.trans pz17_0 (by decide)
            refine T.iinc (lv' := [(0, .ref 137), (1, J x), (2, J y), (3, J u), (4, J o), (5, J q), (6, J (k + 1)), (7, J y)]) rfl rfl rfl rfl ?_
            refine T.go 1 (fun n9 => (rfl : _ = exe ξ n9 (d + 10) j_M_feed 25 [(0, .ref 137), (1, J x), (2, J y), (3, J u), (4, J o), (5, J q), (6, J (k + 1)), (7, J y)] [] s5)) ?_
            refine T.drop (lv := [(0, .ref 137), (1, J x), (2, J y), (3, J u), (4, J o), (5, J q), (6, J (k + 1))]) [(7, J y)] (by simp) ?_
            exact ih25  (k + 1) Lc_4 s5 ms5 gs5 rgs5 (by omega) (by omega) (by omega) (by rw [pz17_1, i3, fd_step (by omega)]; congr 1; unfold fb; first | (rw [if_pos (by omega)]) | (rw [if_neg (by omega), if_pos (by omega)]) | (rw [if_neg (by omega), if_neg (by omega), if_pos (by omega)]) | (rw [if_neg (by omega), if_neg (by omega), if_neg (by omega), if_pos (by omega)]) | (rw [if_neg (by omega), if_neg (by omega), if_neg (by omega), if_neg (by omega)])) (by omega)
        · refine T.go 6 (fun n9 => (rfl : _ = exe ξ n9 (d + 10) j_M_feed 83 [(0, .ref 137), (1, J x), (2, J y), (3, J u), (4, J o), (5, J q), (6, J k), (7, J x)] [.ref 137, J 0, .ref 137] τ)) ?_
          refine T.get rfl rfl rfl mτ.ob rfl ?_
          refine T.go 1 (fun n9 => (rfl : _ = exe ξ n9 (d + 10) j_M_feed 87 [(0, .ref 137), (1, J x), (2, J y), (3, J u), (4, J o), (5, J q), (6, J k), (7, J x)] [J 0, .ref 139, J 0, .ref 137] τ)) ?_
          refine T.iald rfl rfl mτ.c139 (by omega) (fun z18 hzz18 hyz18 hez18 => ?_)
          have hbz18 := mτ.b139.at hez18 ⟨hzz18, hyz18⟩
          have gzz18 := gl_of hez18 ⟨hzz18, hyz18⟩
          subst gzz18
          refine T.go 1 (fun n9 => (rfl : _ = exe ξ n9 (d + 10) j_M_feed 90 [(0, .ref 137), (1, J x), (2, J y), (3, J u), (4, J o), (5, J q), (6, J k), (7, J x)] [J k, J (gl la 0), J 0, .ref 137] τ)) ?_
          refine T.iadd rfl ?_
          refine T.go 5 (fun n9 => (rfl : _ = exe ξ n9 (d + 10) j_M_feed 100 [(0, .ref 137), (1, J x), (2, J y), (3, J u), (4, J o), (5, J q), (6, J k), (7, J x)] [J 4, J k, J 8, J 24, J x, J ((gl la 0) + k), J 0, .ref 137] τ)) ?_
          refine T.iremc (c := 4) rfl (by decide) (by omega) ?_
          refine T.imul rfl ?_
          refine T.isub rfl ?_
          refine T.ishrv rfl (by omega) (by omega) ?_
          have dz20 := dP2_r (q := x) (n := 24 - (8 * (k % 4))) (by omega)
          refine T.callv (as := [J 0, J ((gl la 0) + k), J (x / P2 (24 - (8 * (k % 4))))]) (r := []) rfl rfl rfl rfl mτ.ob rfl (s_M_fput (d + 9) 0 ((gl la 0) + k) (x / P2 (24 - (8 * (k % 4)))) τ mτ (by omega) (by omega) (by omega) (by omega) (by omega) (by omega) (by omega)) (fun v5 s6 hqs6 => ?_)
          obtain ⟨Lc_5, rfl, ms6, fs6, pz21_0, pz21_1⟩ := hqs6
          have ns6 := ms6.len
          have rs6 := ms6.rg
          have gs6 := fτ.trans fs6
          have rgs6 := gτ.trans pz21_0 (by decide)
          refine T.iinc (lv' := [(0, .ref 137), (1, J x), (2, J y), (3, J u), (4, J o), (5, J q), (6, J (k + 1)), (7, J x)]) rfl rfl rfl rfl ?_
          refine T.go 1 (fun n9 => (rfl : _ = exe ξ n9 (d + 10) j_M_feed 25 [(0, .ref 137), (1, J x), (2, J y), (3, J u), (4, J o), (5, J q), (6, J (k + 1)), (7, J x)] [] s6)) ?_
          refine T.drop (lv := [(0, .ref 137), (1, J x), (2, J y), (3, J u), (4, J o), (5, J q), (6, J (k + 1))]) [(7, J x)] (by simp) ?_
          exact ih25  (k + 1) Lc_5 s6 ms6 gs6 rgs6 (by omega) (by omega) (by omega) (by rw [pz21_1, i3, fd_step (by omega)]; congr 1; unfold fb; first | (rw [if_pos (by omega)]) | (rw [if_neg (by omega), if_pos (by omega)]) | (rw [if_neg (by omega), if_neg (by omega), if_pos (by omega)]) | (rw [if_neg (by omega), if_neg (by omega), if_neg (by omega), if_pos (by omega)]) | (rw [if_neg (by omega), if_neg (by omega), if_neg (by omega), if_neg (by omega)])) (by omega)
  refine T.go 2 (fun n9 => (rfl : _ = exe ξ n9 (d + 10) j_M_feed 2 [(0, .ref 137), (1, J x), (2, J y), (3, J u), (4, J o), (5, J q)] [J 0, .ref 137] σ)) ?_
  refine T.mput (c' := 0) (io' := io) (mo' := mo) (fa' := fa) (pl' := pl) (ns' := ns) (rw' := rw) (en' := en) (wy' := wy) (wh' := wh) (bi' := bi) (ed' := ed) (sz' := sz) (md' := md) (bd' := bd) (li' := li) (wk' := wk) (we' := we) hM rfl rfl rfl rfl rfl rfl (by omega) (fun s7 ms7 fs7 => ?_)
  refine T.go 1 (fun n9 => (rfl : _ = exe ξ n9 (d + 10) j_M_feed 6 [(0, .ref 137), (1, J x), (2, J y), (3, J u), (4, J o), (5, J q)] [.ref 137] s7)) ?_
  refine T.get rfl rfl rfl ms7.ob rfl ?_
  refine T.go 1 (fun n9 => (rfl : _ = exe ξ n9 (d + 10) j_M_feed 10 [(0, .ref 137), (1, J x), (2, J y), (3, J u), (4, J o), (5, J q)] [J 0, .ref 139] s7)) ?_
  refine T.iald rfl rfl ms7.c139 (by omega) (fun z22 hzz22 hyz22 hez22 => ?_)
  have hbz22 := ms7.b139.at hez22 ⟨hzz22, hyz22⟩
  have gzz22 := gl_of hez22 ⟨hzz22, hyz22⟩
  subst gzz22
  refine T.go 1 (fun n9 => (rfl : _ = exe ξ n9 (d + 10) j_M_feed 13 [(0, .ref 137), (1, J x), (2, J y), (3, J u), (4, J o), (5, J q)] [J 20, J (gl la 0)] s7)) ?_
  refine T.iadd rfl ?_
  refine T.go 1 (fun n9 => (rfl : _ = exe ξ n9 (d + 10) j_M_feed 17 [(0, .ref 137), (1, J x), (2, J y), (3, J u), (4, J o), (5, J q)] [J 8000, J ((gl la 0) + 20)] s7)) ?_
  refine T.icmp_le rfl rfl (by omega) (by omega) (fun c6 => ?_) (fun c6 => ?_)
  · refine T.go 2 (fun n9 => (rfl : _ = exe ξ n9 (d + 10) j_M_feed 25 [(0, .ref 137), (1, J x), (2, J y), (3, J u), (4, J o), (5, J q), (6, J 0)] [] s7)) ?_
    exact loop25 _ 0 Lc s7 ms7 fs7 RG.refl (by omega) (by omega) (by omega) rfl (Nat.lt_succ_self _)
  · refine T.go 1 (fun n9 => (rfl : _ = exe ξ n9 (d + 10) j_M_feed 21 [(0, .ref 137), (1, J x), (2, J y), (3, J u), (4, J o), (5, J q)] [J 0] s7)) ?_
    exact T.iretz rfl rfl (by omega) ⟨_, 0, Lc, la, rfl, ms7, fs7, by omega, by omega, RG.refl, by omega, by omega, rfl, (fun h => absurd h (by omega)), (fun _ => rfl)⟩

set_option maxHeartbeats 4000000 in
theorem s_M_frefuse {ξ : Nat → Option (Nat × List Int32)} {c io mo fa pl ns rw en wy wh bi ed sz md bd li wk we : Int} {Lc : List Int64} {la lm ln lh ld lk lt : List Int32} (d : Nat) (x : Int) (σ : qH) (hM : MS σ c io mo fa pl ns rw en wy wh bi ed sz md bd li wk we Lc la lm ln lh ld lk lt) (rx : -2147483648 ≤ x ∧ x ≤ 2147483647) : T ξ d j_M_refuse 0 (lv_args 0 [.ref 137, J x]) [] σ (fun v σ' => ∃ (z : Int) (c1 : Int), v = some (J z) ∧ MS σ' c1 io mo fa pl ns rw en wy wh bi ed sz md bd li wk we Lc la lm ln lh ld lk lt ∧ FM σ σ' ∧ -2147483648 ≤ z ∧ z ≤ 2147483647 ∧ c1 = x) := by
  have r0 := hM.rg
  have n0 := hM.len
  refine T.go 2 (fun n9 => (rfl : _ = exe ξ n9 d j_M_refuse 2 [(0, .ref 137), (1, J x)] [J x, .ref 137] σ)) ?_
  refine T.mput (c' := x) (io' := io) (mo' := mo) (fa' := fa) (pl' := pl) (ns' := ns) (rw' := rw) (en' := en) (wy' := wy) (wh' := wh) (bi' := bi) (ed' := ed) (sz' := sz) (md' := md) (bd' := bd) (li' := li) (wk' := wk) (we' := we) hM rfl rfl rfl rfl rfl rfl (by omega) (fun s1 ms1 fs1 => ?_)
  refine T.go 1 (fun n9 => (rfl : _ = exe ξ n9 d j_M_refuse 6 [(0, .ref 137), (1, J x)] [J 0] s1)) ?_
  exact T.ireti rfl rfl ⟨_, x, rfl, ms1, fs1, by omega, by omega, by omega⟩

set_option maxHeartbeats 4000000 in
theorem s_M_frefuseFault {ξ : Nat → Option (Nat × List Int32)} {c io mo fa pl ns rw en wy wh bi ed sz md bd li wk we : Int} {Lc : List Int64} {la lm ln lh ld lk lt : List Int32} (d : Nat) (x : Int) (σ : qH) (hM : MS σ c io mo fa pl ns rw en wy wh bi ed sz md bd li wk we Lc la lm ln lh ld lk lt) (rx : -2147483648 ≤ x ∧ x ≤ 2147483647) : T ξ (d + 1) j_M_refuseFault 0 (lv_args 0 [.ref 137, J x]) [] σ (fun v σ' => ∃ (z : Int) (c1 : Int) (fa1 : Int) (pl1 : Int), v = some (J z) ∧ MS σ' c1 io mo fa1 pl1 ns rw en wy wh bi ed sz md bd li wk we Lc la lm ln lh ld lk lt ∧ FM σ σ' ∧ -2147483648 ≤ z ∧ z ≤ 2147483647 ∧ c1 = x) := by
  have r0 := hM.rg
  have n0 := hM.len
  refine T.go 2 (fun n9 => (rfl : _ = exe ξ n9 (d + 1) j_M_refuseFault 2 [(0, .ref 137), (1, J x)] [.ref 137, .ref 137] σ)) ?_
  refine T.get rfl rfl rfl hM.ob rfl ?_
  refine T.mput (c' := c) (io' := io) (mo' := mo) (fa' := wy) (pl' := pl) (ns' := ns) (rw' := rw) (en' := en) (wy' := wy) (wh' := wh) (bi' := bi) (ed' := ed) (sz' := sz) (md' := md) (bd' := bd) (li' := li) (wk' := wk) (we' := we) hM rfl rfl rfl rfl rfl rfl (by omega) (fun s1 ms1 fs1 => ?_)
  refine T.go 2 (fun n9 => (rfl : _ = exe ξ n9 (d + 1) j_M_refuseFault 10 [(0, .ref 137), (1, J x)] [.ref 137, .ref 137] s1)) ?_
  refine T.get rfl rfl rfl ms1.ob rfl ?_
  refine T.mput (c' := c) (io' := io) (mo' := mo) (fa' := wy) (pl' := wh) (ns' := ns) (rw' := rw) (en' := en) (wy' := wy) (wh' := wh) (bi' := bi) (ed' := ed) (sz' := sz) (md' := md) (bd' := bd) (li' := li) (wk' := wk) (we' := we) ms1 rfl rfl rfl rfl rfl rfl (by omega) (fun s2 ms2 fs2 => ?_)
  have gs2 := fs1.trans fs2
  refine T.go 2 (fun n9 => (rfl : _ = exe ξ n9 (d + 1) j_M_refuseFault 18 [(0, .ref 137), (1, J x)] [J x, .ref 137] s2)) ?_
  refine T.callv (as := [J x]) (r := []) rfl rfl rfl rfl ms2.ob rfl (s_M_frefuse d x s2 ms2 (by omega)) (fun v1 s3 hqs3 => ?_)
  obtain ⟨z1, c_1, rfl, ms3, fs3, hzz1, hyz1, pz1_0⟩ := hqs3
  have ns3 := ms3.len
  have rs3 := ms3.rg
  have gs3 := gs2.trans fs3
  exact T.ireti rfl rfl ⟨_, c_1, wy, wh, rfl, ms3, gs3, by omega, by omega, by omega⟩

set_option maxHeartbeats 4000000 in
theorem s_M_fopen {ξ : Nat → Option (Nat × List Int32)} {c io mo fa pl ns rw en wy wh bi ed sz md bd li wk we : Int} {Lc : List Int64} {la lm ln lh ld lk lt : List Int32} (d : Nat)  (σ : qH) (hM : MS σ c io mo fa pl ns rw en wy wh bi ed sz md bd li wk we Lc la lm ln lh ld lk lt) (pre0 : OKM Lc la lm io mo) : T ξ (d + 10) j_M_open 0 (lv_args 0 [.ref 137]) [] σ (fun v σ' => ∃ (z : Int) (c1 : Int) (io1 : Int) (mo1 : Int) (fa1 : Int) (pl1 : Int) (rw1 : Int) (en1 : Int) (wy1 : Int) (wh1 : Int) (Lc1 : List Int64) (la1 : List Int32) (lh1 : List Int32) (ld1 : List Int32), v = some (J z) ∧ MS σ' c1 io1 mo1 fa1 pl1 ns rw1 en1 wy1 wh1 bi ed sz md bd li wk we Lc1 la1 lm ln lh1 ld1 lk lt ∧ FM σ σ' ∧ -2147483648 ≤ z ∧ z ≤ 2147483647 ∧ OKM Lc1 la1 lm io1 mo1 ∧ gl la1 0 = 0 ∧ (FOn (gc Lc 0) (gl la 0) = 1 → c1 = 0 ∧ z = W2 (gc Lc 0) (EN (gc Lc 0) (gl la 0) + 8)) ∧ (FOn (gc Lc 0) (gl la 0) = 0 → c1 = 1) ∧ gc Lc1 0 = gc Lc 0) := by
  have r0 := hM.rg
  have n0 := hM.len
  refine T.go 2 (fun n9 => (rfl : _ = exe ξ n9 (d + 10) j_M_open 2 [(0, .ref 137)] [J 0, .ref 137] σ)) ?_
  refine T.mput (c' := 0) (io' := io) (mo' := mo) (fa' := fa) (pl' := pl) (ns' := ns) (rw' := rw) (en' := en) (wy' := wy) (wh' := wh) (bi' := bi) (ed' := ed) (sz' := sz) (md' := md) (bd' := bd) (li' := li) (wk' := wk) (we' := we) hM rfl rfl rfl rfl rfl rfl (by omega) (fun s1 ms1 fs1 => ?_)
  refine T.go 1 (fun n9 => (rfl : _ = exe ξ n9 (d + 10) j_M_open 6 [(0, .ref 137)] [.ref 137] s1)) ?_
  refine T.get rfl rfl rfl ms1.ob rfl ?_
  refine T.go 1 (fun n9 => (rfl : _ = exe ξ n9 (d + 10) j_M_open 10 [(0, .ref 137)] [J 0, .ref 139] s1)) ?_
  refine T.iald rfl rfl ms1.c139 (by omega) (fun z1 hzz1 hyz1 hez1 => ?_)
  have hbz1 := ms1.b139.at hez1 ⟨hzz1, hyz1⟩
  have gzz1 := gl_of hez1 ⟨hzz1, hyz1⟩
  subst gzz1
  refine T.go 2 (fun n9 => (rfl : _ = exe ξ n9 (d + 10) j_M_open 13 [(0, .ref 137), (1, J (gl la 0))] [.ref 137] s1)) ?_
  refine T.get rfl rfl rfl ms1.ob rfl ?_
  refine T.go 2 (fun n9 => (rfl : _ = exe ξ n9 (d + 10) j_M_open 18 [(0, .ref 137), (1, J (gl la 0))] [J 0, J 0, .ref 139] s1)) ?_
  refine T.mast139 ms1 rfl (by omega) (by omega) (fun s2 ms2 fs2 => ?_)
  have ns2 := ms2.len
  have gs2 := fs1.trans fs2
  have gss2 : ∀ j : Int, 0 ≤ j → gl (la.set (0 : Int).toNat (Int32.ofInt 0)) j = if j = 0 then 0 else gl la j := fun j hj => gl_set ⟨by omega, by omega⟩ ⟨by omega, by omega⟩ hj
  have ges2 : gl (la.set (0 : Int).toNat (Int32.ofInt 0)) 0 = 0 := (gss2 0 (by omega)).trans (if_pos rfl)
  refine T.go 3 (fun n9 => (rfl : _ = exe ξ n9 (d + 10) j_M_open 22 [(0, .ref 137), (1, J (gl la 0))] [J 4, J 0, .ref 137] s2)) ?_
  refine T.callv (as := [J 0, J 4]) (r := []) rfl rfl rfl rfl ms2.ob rfl (s_M_copyRow (d + 9) 0 4 s2 ms2 (by omega) (by omega) (by omega) (by omega) (by omega) (by omega) (by omega)) (fun v1 s3 hqs3 => ?_)
  obtain ⟨Lc_1, la_1, rfl, ms3, fs3, pz2_0, pz2_1, pz2_2, pz2_3⟩ := hqs3
  have ns3 := ms3.len
  have rs3 := ms3.rg
  have gs3 := gs2.trans fs3
  refine T.go 1 (fun n9 => (rfl : _ = exe ξ n9 (d + 10) j_M_open 26 [(0, .ref 137), (1, J (gl la 0))] [.ref 137] s3)) ?_
  refine T.get rfl rfl rfl ms3.ob rfl ?_
  refine T.go 2 (fun n9 => (rfl : _ = exe ξ n9 (d + 10) j_M_open 31 [(0, .ref 137), (1, J (gl la 0))] [J (gl la 0), J 4, .ref 139] s3)) ?_
  refine T.mast139 ms3 rfl (by omega) (by omega) (fun s4 ms4 fs4 => ?_)
  have ns4 := ms4.len
  have gs4 := gs3.trans fs4
  have gss4 : ∀ j : Int, 0 ≤ j → gl (la_1.set (4 : Int).toNat (Int32.ofInt (gl la 0))) j = if j = 4 then gl la 0 else gl la_1 j := fun j hj => gl_set ⟨by omega, by omega⟩ ⟨by omega, by omega⟩ hj
  have ges4 : gl (la_1.set (4 : Int).toNat (Int32.ofInt (gl la 0))) 4 = gl la 0 := (gss4 4 (by omega)).trans (if_pos rfl)
  refine T.go 2 (fun n9 => (rfl : _ = exe ξ n9 (d + 10) j_M_open 34 [(0, .ref 137), (1, J (gl la 0))] [J 4, .ref 137] s4)) ?_
  refine T.callv (as := [J 4]) (r := []) rfl rfl rfl rfl ms4.ob rfl (s_M_isFaulty (d + 3) 4 s4 ms4 (by omega) (by omega) (by omega)) (fun v2 s5 hqs5 => ?_)
  obtain ⟨z3, rw_1, en_1, wy_1, wh_1, lh_1, ld_1, rfl, ms5, fs5, hzz3, hyz3, pz3_0, pz3_1, pz3_2, pz3_3, pz3_4, pz3_5, pz3_6, pz3_7⟩ := hqs5
  have ns5 := ms5.len
  have rs5 := ms5.rg
  have gs5 := gs4.trans fs5
  refine T.if_eq rfl rfl (by omega) (fun c1 => ?_) (fun c1 => ?_)
  · refine T.go 3 (fun n9 => (rfl : _ = exe ξ n9 (d + 10) j_M_open 49 [(0, .ref 137), (1, J (gl la 0))] [J 1, J 4, .ref 137] s5)) ?_
    refine T.callv (as := [J 4, J 1]) (r := []) rfl rfl rfl rfl ms5.ob rfl (s_M_copyRow (d + 9) 4 1 s5 ms5 (by omega) (by omega) (by omega) (by omega) (by omega) (by omega) (by omega)) (fun v3 s6 hqs6 => ?_)
    obtain ⟨Lc_2, la_2, rfl, ms6, fs6, pz4_0, pz4_1, pz4_2, pz4_3⟩ := hqs6
    have ns6 := ms6.len
    have rs6 := ms6.rg
    have gs6 := gs5.trans fs6
    refine T.go 2 (fun n9 => (rfl : _ = exe ξ n9 (d + 10) j_M_open 54 [(0, .ref 137), (1, J (gl la 0))] [J 1, .ref 137] s6)) ?_
    refine T.mput (c' := 0) (io' := 1) (mo' := mo) (fa' := fa) (pl' := pl) (ns' := ns) (rw' := rw_1) (en' := en_1) (wy' := wy_1) (wh' := wh_1) (bi' := bi) (ed' := ed) (sz' := sz) (md' := md) (bd' := bd) (li' := li) (wk' := wk) (we' := we) ms6 rfl rfl rfl rfl rfl rfl (by omega) (fun s7 ms7 fs7 => ?_)
    have gs7 := gs6.trans fs7
    refine T.go 2 (fun n9 => (rfl : _ = exe ξ n9 (d + 10) j_M_open 59 [(0, .ref 137), (1, J (gl la 0))] [J 0, .ref 137] s7)) ?_
    refine T.mput (c' := 0) (io' := 1) (mo' := 0) (fa' := fa) (pl' := pl) (ns' := ns) (rw' := rw_1) (en' := en_1) (wy' := wy_1) (wh' := wh_1) (bi' := bi) (ed' := ed) (sz' := sz) (md' := md) (bd' := bd) (li' := li) (wk' := wk) (we' := we) ms7 rfl rfl rfl rfl rfl rfl (by omega) (fun s8 ms8 fs8 => ?_)
    have gs8 := gs7.trans fs8
    refine T.go 1 (fun n9 => (rfl : _ = exe ξ n9 (d + 10) j_M_open 63 [(0, .ref 137), (1, J (gl la 0))] [.ref 137] s8)) ?_
    refine T.get rfl rfl rfl ms8.ob rfl ?_
    refine T.go 2 (fun n9 => (rfl : _ = exe ξ n9 (d + 10) j_M_open 68 [(0, .ref 137), (1, J (gl la 0))] [J 0, J 3, .ref 139] s8)) ?_
    refine T.mast139 ms8 rfl (by omega) (by omega) (fun s9 ms9 fs9 => ?_)
    have ns9 := ms9.len
    have gs9 := gs8.trans fs9
    have gss9 : ∀ j : Int, 0 ≤ j → gl (la_2.set (3 : Int).toNat (Int32.ofInt 0)) j = if j = 3 then 0 else gl la_2 j := fun j hj => gl_set ⟨by omega, by omega⟩ ⟨by omega, by omega⟩ hj
    have ges9 : gl (la_2.set (3 : Int).toNat (Int32.ofInt 0)) 3 = 0 := (gss9 3 (by omega)).trans (if_pos rfl)
    refine T.go 1 (fun n9 => (rfl : _ = exe ξ n9 (d + 10) j_M_open 70 [(0, .ref 137), (1, J (gl la 0))] [.ref 137] s9)) ?_
    refine T.get rfl rfl rfl ms9.ob rfl ?_
    have fo := pz3_0
    rw [pz2_2, ges4] at fo
    have f1 := pz3_1
    rw [pz2_2, ges4] at f1
    exact T.ireti rfl rfl ⟨_, 0, 1, 0, fa, pl, rw_1, en_1, wy_1, wh_1, Lc_2, (la_2.set (3 : Int).toNat (Int32.ofInt 0)), lh_1, ld_1, rfl, ms9, gs9, by omega, by omega, (fun _ => ⟨by rw [(gss9 1 (by decide)).trans (if_neg (by decide)), pz4_2, pz4_3]; omega, fun j a b => absurd b (by omega)⟩), (((gss9 0 (by decide)).trans (if_neg (by decide))).trans ((pz4_1 0 (by decide) (by decide)).trans (((gss4 0 (by decide)).trans (if_neg (by decide))).trans ((pz2_1 0 (by decide) (by decide)).trans ges2)))), (fun h => ⟨by omega, by omega⟩), (fun h => by omega), ((pz4_0 0 (by decide) (by decide)).trans (pz2_0 0 (by decide) (by decide)))⟩
  · refine T.go 2 (fun n9 => (rfl : _ = exe ξ n9 (d + 10) j_M_open 42 [(0, .ref 137), (1, J (gl la 0))] [J 1, .ref 137] s5)) ?_
    refine T.callv (as := [J 1]) (r := []) rfl rfl rfl rfl ms5.ob rfl (s_M_frefuseFault (d + 8) 1 s5 ms5 (by omega)) (fun v4 s10 hqs10 => ?_)
    obtain ⟨z5, c_1, fa_1, pl_1, rfl, ms10, fs10, hzz5, hyz5, pz5_0⟩ := hqs10
    have ns10 := ms10.len
    have rs10 := ms10.rg
    have gs10 := gs5.trans fs10
    have fo := pz3_0
    rw [pz2_2, ges4] at fo
    have f1 := pz3_1
    rw [pz2_2, ges4] at f1
    exact T.ireti rfl rfl ⟨_, c_1, io, mo, fa_1, pl_1, rw_1, en_1, wy_1, wh_1, Lc_1, (la_1.set (4 : Int).toNat (Int32.ofInt (gl la 0))), lh_1, ld_1, rfl, ms10, gs10, by omega, by omega, (by have c8 := pz2_0 1 (by decide) (by decide); have l8 := pz2_1 1 (by decide) (by decide); unfold OKM; rw [c8, (gss4 1 (by decide)).trans (if_neg (by decide)), l8, (gss2 1 (by decide)).trans (if_neg (by decide))]; exact pre0), (((gss4 0 (by decide)).trans (if_neg (by decide))).trans ((pz2_1 0 (by decide) (by decide)).trans ges2)), (fun h => ⟨by omega, by omega⟩), (fun h => by omega), (pz2_0 0 (by decide) (by decide))⟩
