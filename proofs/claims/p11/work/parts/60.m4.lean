/-! The model: entries, mounts, lists. -/
theorem gl_b {l : List Int32} {a b : Int} (h : BT l a b) (r : Int) : a ≤ gl l r ∧ gl l r ≤ b := h r.toNat
set_option maxHeartbeats 4000000 in
theorem s_M_isUnread {ξ : Nat → Option (Nat × List Int32)} {c io mo fa pl ns rw en wy wh bi ed sz md bd li wk we : Int} {Lc : List Int64} {la lm ln lh ld lk lt : List Int32} (d : Nat) (x : Int) (σ : qH) (hM : MS σ c io mo fa pl ns rw en wy wh bi ed sz md bd li wk we Lc la lm ln lh ld lk lt) (rx : -2147483648 ≤ x ∧ x ≤ 2147483647) (pre0 : 0 ≤ x) (pre1 : x ≤ 63) (pre2 : gl lh x ≤ 7932) (pre3 : 0 ≤ gl ld x) (pre4 : gl ld x + W4 (gc Lc rw) (gl lh x + 20) ≤ 8000) : T ξ (d + 6) j_M_isUnread 0 (lv_args 0 [.ref 137, J x]) [] σ (fun v σ' => ∃ (z : Int) (wy1 : Int) (wh1 : Int) (bi1 : Int) (ed1 : Int) (sz1 : Int) (md1 : Int) (bd1 : Int) (Lc1 : List Int64) (la1 : List Int32) (lk1 : List Int32), v = some (J z) ∧ MS σ' c io mo fa pl ns rw en wy1 wh1 bi1 ed1 sz1 md1 bd1 li wk we Lc1 la1 lm ln lh ld lk1 lt ∧ FM σ σ' ∧ 0 ≤ z ∧ z ≤ 1 ∧ RG [4] Lc Lc1 ∧ LG [4] la la1) := by
  have r0 := hM.rg
  have n0 := hM.len
  have hV := W4_r (gc_r Lc rw) (gl lh x + 20)
  have loop159 : ∀ (f159 : Nat) (h2 : Int) (m3 : Int) (p4 : Int) (q6 : Int) (k : Int) (bi9 : Int) (ed9 : Int) (sz9 : Int) (md9 : Int) (bd9 : Int) (Lc9 : List Int64) (lk9 : List Int32) (τ : qH), MS τ c io mo fa pl ns rw en wy wh bi9 ed9 sz9 md9 bd9 li wk we Lc9 la lm ln lh ld lk9 lt → FM σ τ → RG [4] Lc Lc9 → 0 ≤ h2 → h2 ≤ 7932 → 0 ≤ p4 → gl ld x + p4 ≤ 8000 → 0 ≤ q6 → q6 ≤ 8000 → sz9 = q6 → 0 ≤ md9 → md9 ≤ sz9 → 0 ≤ k → k ≤ 8000 → -2147483648 ≤ m3 → m3 ≤ 2147483647 → (m3 = 0 → bd9 = 0 → p4 = q6) → (8000 - k).toNat < f159 → T ξ (d + 6) j_M_isUnread 159 [(0, .ref 137), (1, J x), (2, J h2), (3, J m3), (4, JL p4), (6, JL q6), (8, J k)] [] τ (fun v σ' => ∃ (z : Int) (wy1 : Int) (wh1 : Int) (bi1 : Int) (ed1 : Int) (sz1 : Int) (md1 : Int) (bd1 : Int) (Lc1 : List Int64) (la1 : List Int32) (lk1 : List Int32), v = some (J z) ∧ MS σ' c io mo fa pl ns rw en wy1 wh1 bi1 ed1 sz1 md1 bd1 li wk we Lc1 la1 lm ln lh ld lk1 lt ∧ FM σ σ' ∧ 0 ≤ z ∧ z ≤ 1 ∧ RG [4] Lc Lc1 ∧ LG [4] la la1) := by
    intro f159
    induction f159 with
    | zero => intro h2 m3 p4 q6 k bi9 ed9 sz9 md9 bd9 Lc9 lk9 τ mτ fτ gτ i0 i1 i2 i3 i4 i5 i6 i7 i8 i9 i10 i11 i12 i13 hm159; omega
    | succ f159 ih159 =>
      intro h2 m3 p4 q6 k bi9 ed9 sz9 md9 bd9 Lc9 lk9 τ mτ fτ gτ i0 i1 i2 i3 i4 i5 i6 i7 i8 i9 i10 i11 i12 i13 hm159
      have rτ := mτ.rg
      have nτ := mτ.len
      refine T.go 2 (fun n9 => (rfl : _ = exe ξ n9 (d + 6) j_M_isUnread 162 [(0, .ref 137), (1, J x), (2, J h2), (3, J m3), (4, JL p4), (6, JL q6), (8, J k)] [.ref 137, J k] τ)) ?_
      refine T.get rfl rfl rfl mτ.ob rfl ?_
      refine T.icmp_ge rfl rfl (by omega) (by omega) (fun c1 => ?_) (fun c1 => ?_)
      · refine T.go 1 (fun n9 => (rfl : _ = exe ξ n9 (d + 6) j_M_isUnread 207 [(0, .ref 137), (1, J x), (2, J h2), (3, J m3), (4, JL p4), (6, JL q6), (8, J k)] [.ref 137] τ)) ?_
        refine T.get rfl rfl rfl mτ.ob rfl ?_
        refine T.if_eq rfl rfl (by omega) (fun c2 => ?_) (fun c2 => ?_)
        · refine T.go 1 (fun n9 => (rfl : _ = exe ξ n9 (d + 6) j_M_isUnread 222 [(0, .ref 137), (1, J x), (2, J h2), (3, J m3), (4, JL p4), (6, JL q6), (8, J k)] [.ref 137] τ)) ?_
          refine T.get rfl rfl rfl mτ.ob rfl ?_
          refine T.go 2 (fun n9 => (rfl : _ = exe ξ n9 (d + 6) j_M_isUnread 227 [(0, .ref 137), (1, J x), (2, J h2), (3, J m3), (4, JL p4), (6, JL q6), (8, J k)] [.ref 137, J 4, .ref 139] τ)) ?_
          refine T.get rfl rfl rfl mτ.ob rfl ?_
          refine T.mast139 mτ rfl (by omega) (by omega) (fun s1 ms1 fs1 => ?_)
          have ns1 := ms1.len
          have gs1 := fτ.trans fs1
          have lgs1 := (LG.refl (S := [4])).trans (LG.set (S := [4]) (A := la) (x := 4) (v := Int32.ofInt md9) (by decide) (by decide)) (fun _ z => z)
          refine T.go 1 (fun n9 => (rfl : _ = exe ξ n9 (d + 6) j_M_isUnread 232 [(0, .ref 137), (1, J x), (2, J h2), (3, J m3), (4, JL p4), (6, JL q6), (8, J k)] [.ref 137] s1)) ?_
          refine T.callv (as := []) (r := []) rfl rfl rfl rfl ms1.ob rfl (s_M_sumOfMade (d + 4)  s1 ms1 (by omega) (by omega)) (fun v1 s2 hqs2 => ?_)
          obtain ⟨z1, rfl, esz1, hzz1, hyz1⟩ := hqs2
          rw [esz1]
          refine T.go 3 (fun n9 => (rfl : _ = exe ξ n9 (d + 6) j_M_isUnread 239 [(0, .ref 137), (1, J x), (2, J h2), (3, J m3), (4, JL p4), (6, JL q6), (8, J k)] [J 16, J h2, .ref 137, JL z1] s1)) ?_
          refine T.iadd rfl ?_
          refine T.callv (as := [J (h2 + 16)]) (r := [JL z1]) rfl rfl rfl rfl ms1.ob rfl (s_M_four (d + 3) (h2 + 16) s1 ms1 (by omega) (by omega) (by omega)) (fun v2 s3 hqs3 => ?_)
          obtain ⟨z2, rfl, esz2, hzz2, hyz2, pz2_0⟩ := hqs3
          rw [esz2]
          refine T.lcmp rfl (by omega) (by omega) (fun c3 => ?_) (fun c3 => ?_) (fun c3 => ?_)
          · refine T.go 1 (fun n9 => (rfl : _ = exe ξ n9 (d + 6) j_M_isUnread 247 [(0, .ref 137), (1, J x), (2, J h2), (3, J m3), (4, JL p4), (6, JL q6), (8, J k)] [] s1)) ?_
            refine T.go 3 (fun n9 => (rfl : _ = exe ξ n9 (d + 6) j_M_isUnread 251 [(0, .ref 137), (1, J x), (2, J h2), (3, J m3), (4, JL p4), (6, JL q6), (8, J k)] [J x, J 9, .ref 137] s1)) ?_
            refine T.callv (as := [J 9, J x]) (r := []) rfl rfl rfl rfl ms1.ob rfl (s_M_isWrong (d + 5) 9 x s1 ms1 (by omega) (by omega)) (fun v3 s4 hqs4 => ?_)
            obtain ⟨z3, wy_1, wh_1, rfl, ms4, fs4, hzz3, hyz3⟩ := hqs4
            have ns4 := ms4.len
            have rs4 := ms4.rg
            have gs4 := gs1.trans fs4
            refine T.if_eq rfl rfl (by omega) (fun c4 => ?_) (fun c4 => ?_)
            · refine T.go 1 (fun n9 => (rfl : _ = exe ξ n9 (d + 6) j_M_isUnread 262 [(0, .ref 137), (1, J x), (2, J h2), (3, J m3), (4, JL p4), (6, JL q6), (8, J k)] [J 0] s4)) ?_
              exact T.iretz rfl rfl (by omega) ⟨_, wy_1, wh_1, bi9, ed9, sz9, md9, bd9, Lc9, (la.set (4 : Int).toNat (Int32.ofInt md9)), lk9, rfl, ms4, gs4, by omega, by omega, gτ, lgs1⟩
            · refine T.go 2 (fun n9 => (rfl : _ = exe ξ n9 (d + 6) j_M_isUnread 262 [(0, .ref 137), (1, J x), (2, J h2), (3, J m3), (4, JL p4), (6, JL q6), (8, J k)] [J 1] s4)) ?_
              exact T.iretz rfl rfl (by omega) ⟨_, wy_1, wh_1, bi9, ed9, sz9, md9, bd9, Lc9, (la.set (4 : Int).toNat (Int32.ofInt md9)), lk9, rfl, ms4, gs4, by omega, by omega, gτ, lgs1⟩
          · refine T.go 1 (fun n9 => (rfl : _ = exe ξ n9 (d + 6) j_M_isUnread 261 [(0, .ref 137), (1, J x), (2, J h2), (3, J m3), (4, JL p4), (6, JL q6), (8, J k)] [] s1)) ?_
            refine T.go 1 (fun n9 => (rfl : _ = exe ξ n9 (d + 6) j_M_isUnread 262 [(0, .ref 137), (1, J x), (2, J h2), (3, J m3), (4, JL p4), (6, JL q6), (8, J k)] [J 0] s1)) ?_
            exact T.iretz rfl rfl (by omega) ⟨_, wy, wh, bi9, ed9, sz9, md9, bd9, Lc9, (la.set (4 : Int).toNat (Int32.ofInt md9)), lk9, rfl, ms1, gs1, by omega, by omega, gτ, lgs1⟩
          · refine T.go 1 (fun n9 => (rfl : _ = exe ξ n9 (d + 6) j_M_isUnread 247 [(0, .ref 137), (1, J x), (2, J h2), (3, J m3), (4, JL p4), (6, JL q6), (8, J k)] [] s1)) ?_
            refine T.go 3 (fun n9 => (rfl : _ = exe ξ n9 (d + 6) j_M_isUnread 251 [(0, .ref 137), (1, J x), (2, J h2), (3, J m3), (4, JL p4), (6, JL q6), (8, J k)] [J x, J 9, .ref 137] s1)) ?_
            refine T.callv (as := [J 9, J x]) (r := []) rfl rfl rfl rfl ms1.ob rfl (s_M_isWrong (d + 5) 9 x s1 ms1 (by omega) (by omega)) (fun v4 s5 hqs5 => ?_)
            obtain ⟨z4, wy_2, wh_2, rfl, ms5, fs5, hzz4, hyz4⟩ := hqs5
            have ns5 := ms5.len
            have rs5 := ms5.rg
            have gs5 := gs1.trans fs5
            refine T.if_eq rfl rfl (by omega) (fun c5 => ?_) (fun c5 => ?_)
            · refine T.go 1 (fun n9 => (rfl : _ = exe ξ n9 (d + 6) j_M_isUnread 262 [(0, .ref 137), (1, J x), (2, J h2), (3, J m3), (4, JL p4), (6, JL q6), (8, J k)] [J 0] s5)) ?_
              exact T.iretz rfl rfl (by omega) ⟨_, wy_2, wh_2, bi9, ed9, sz9, md9, bd9, Lc9, (la.set (4 : Int).toNat (Int32.ofInt md9)), lk9, rfl, ms5, gs5, by omega, by omega, gτ, lgs1⟩
            · refine T.go 2 (fun n9 => (rfl : _ = exe ξ n9 (d + 6) j_M_isUnread 262 [(0, .ref 137), (1, J x), (2, J h2), (3, J m3), (4, JL p4), (6, JL q6), (8, J k)] [J 1] s5)) ?_
              exact T.iretz rfl rfl (by omega) ⟨_, wy_2, wh_2, bi9, ed9, sz9, md9, bd9, Lc9, (la.set (4 : Int).toNat (Int32.ofInt md9)), lk9, rfl, ms5, gs5, by omega, by omega, gτ, lgs1⟩
        · refine T.go 3 (fun n9 => (rfl : _ = exe ξ n9 (d + 6) j_M_isUnread 217 [(0, .ref 137), (1, J x), (2, J h2), (3, J m3), (4, JL p4), (6, JL q6), (8, J k)] [J x, J 8, .ref 137] τ)) ?_
          refine T.callv (as := [J 8, J x]) (r := []) rfl rfl rfl rfl mτ.ob rfl (s_M_isWrong (d + 5) 8 x τ mτ (by omega) (by omega)) (fun v5 s6 hqs6 => ?_)
          obtain ⟨z5, wy_3, wh_3, rfl, ms6, fs6, hzz5, hyz5⟩ := hqs6
          have ns6 := ms6.len
          have rs6 := ms6.rg
          have gs6 := fτ.trans fs6
          exact T.iretz rfl rfl (by omega) ⟨_, wy_3, wh_3, bi9, ed9, sz9, md9, bd9, Lc9, la, lk9, rfl, ms6, gs6, by omega, by omega, gτ, LG.refl⟩
      · refine T.go 1 (fun n9 => (rfl : _ = exe ξ n9 (d + 6) j_M_isUnread 169 [(0, .ref 137), (1, J x), (2, J h2), (3, J m3), (4, JL p4), (6, JL q6), (8, J k)] [J m3] τ)) ?_
        refine T.if_ne rfl rfl (by omega) (fun c6 => ?_) (fun c6 => ?_)
        · refine T.go 1 (fun n9 => (rfl : _ = exe ξ n9 (d + 6) j_M_isUnread 207 [(0, .ref 137), (1, J x), (2, J h2), (3, J m3), (4, JL p4), (6, JL q6), (8, J k)] [.ref 137] τ)) ?_
          refine T.get rfl rfl rfl mτ.ob rfl ?_
          refine T.if_eq rfl rfl (by omega) (fun c7 => ?_) (fun c7 => ?_)
          · refine T.go 1 (fun n9 => (rfl : _ = exe ξ n9 (d + 6) j_M_isUnread 222 [(0, .ref 137), (1, J x), (2, J h2), (3, J m3), (4, JL p4), (6, JL q6), (8, J k)] [.ref 137] τ)) ?_
            refine T.get rfl rfl rfl mτ.ob rfl ?_
            refine T.go 2 (fun n9 => (rfl : _ = exe ξ n9 (d + 6) j_M_isUnread 227 [(0, .ref 137), (1, J x), (2, J h2), (3, J m3), (4, JL p4), (6, JL q6), (8, J k)] [.ref 137, J 4, .ref 139] τ)) ?_
            refine T.get rfl rfl rfl mτ.ob rfl ?_
            refine T.mast139 mτ rfl (by omega) (by omega) (fun s7 ms7 fs7 => ?_)
            have ns7 := ms7.len
            have gs7 := fτ.trans fs7
            have lgs7 := (LG.refl (S := [4])).trans (LG.set (S := [4]) (A := la) (x := 4) (v := Int32.ofInt md9) (by decide) (by decide)) (fun _ z => z)
            refine T.go 1 (fun n9 => (rfl : _ = exe ξ n9 (d + 6) j_M_isUnread 232 [(0, .ref 137), (1, J x), (2, J h2), (3, J m3), (4, JL p4), (6, JL q6), (8, J k)] [.ref 137] s7)) ?_
            refine T.callv (as := []) (r := []) rfl rfl rfl rfl ms7.ob rfl (s_M_sumOfMade (d + 4)  s7 ms7 (by omega) (by omega)) (fun v6 s8 hqs8 => ?_)
            obtain ⟨z6, rfl, esz6, hzz6, hyz6⟩ := hqs8
            rw [esz6]
            refine T.go 3 (fun n9 => (rfl : _ = exe ξ n9 (d + 6) j_M_isUnread 239 [(0, .ref 137), (1, J x), (2, J h2), (3, J m3), (4, JL p4), (6, JL q6), (8, J k)] [J 16, J h2, .ref 137, JL z6] s7)) ?_
            refine T.iadd rfl ?_
            refine T.callv (as := [J (h2 + 16)]) (r := [JL z6]) rfl rfl rfl rfl ms7.ob rfl (s_M_four (d + 3) (h2 + 16) s7 ms7 (by omega) (by omega) (by omega)) (fun v7 s9 hqs9 => ?_)
            obtain ⟨z7, rfl, esz7, hzz7, hyz7, pz7_0⟩ := hqs9
            rw [esz7]
            refine T.lcmp rfl (by omega) (by omega) (fun c8 => ?_) (fun c8 => ?_) (fun c8 => ?_)
            · refine T.go 1 (fun n9 => (rfl : _ = exe ξ n9 (d + 6) j_M_isUnread 247 [(0, .ref 137), (1, J x), (2, J h2), (3, J m3), (4, JL p4), (6, JL q6), (8, J k)] [] s7)) ?_
              refine T.go 3 (fun n9 => (rfl : _ = exe ξ n9 (d + 6) j_M_isUnread 251 [(0, .ref 137), (1, J x), (2, J h2), (3, J m3), (4, JL p4), (6, JL q6), (8, J k)] [J x, J 9, .ref 137] s7)) ?_
              refine T.callv (as := [J 9, J x]) (r := []) rfl rfl rfl rfl ms7.ob rfl (s_M_isWrong (d + 5) 9 x s7 ms7 (by omega) (by omega)) (fun v8 s10 hqs10 => ?_)
              obtain ⟨z8, wy_4, wh_4, rfl, ms10, fs10, hzz8, hyz8⟩ := hqs10
              have ns10 := ms10.len
              have rs10 := ms10.rg
              have gs10 := gs7.trans fs10
              refine T.if_eq rfl rfl (by omega) (fun c9 => ?_) (fun c9 => ?_)
              · refine T.go 1 (fun n9 => (rfl : _ = exe ξ n9 (d + 6) j_M_isUnread 262 [(0, .ref 137), (1, J x), (2, J h2), (3, J m3), (4, JL p4), (6, JL q6), (8, J k)] [J 0] s10)) ?_
                exact T.iretz rfl rfl (by omega) ⟨_, wy_4, wh_4, bi9, ed9, sz9, md9, bd9, Lc9, (la.set (4 : Int).toNat (Int32.ofInt md9)), lk9, rfl, ms10, gs10, by omega, by omega, gτ, lgs7⟩
              · refine T.go 2 (fun n9 => (rfl : _ = exe ξ n9 (d + 6) j_M_isUnread 262 [(0, .ref 137), (1, J x), (2, J h2), (3, J m3), (4, JL p4), (6, JL q6), (8, J k)] [J 1] s10)) ?_
                exact T.iretz rfl rfl (by omega) ⟨_, wy_4, wh_4, bi9, ed9, sz9, md9, bd9, Lc9, (la.set (4 : Int).toNat (Int32.ofInt md9)), lk9, rfl, ms10, gs10, by omega, by omega, gτ, lgs7⟩
            · refine T.go 1 (fun n9 => (rfl : _ = exe ξ n9 (d + 6) j_M_isUnread 261 [(0, .ref 137), (1, J x), (2, J h2), (3, J m3), (4, JL p4), (6, JL q6), (8, J k)] [] s7)) ?_
              refine T.go 1 (fun n9 => (rfl : _ = exe ξ n9 (d + 6) j_M_isUnread 262 [(0, .ref 137), (1, J x), (2, J h2), (3, J m3), (4, JL p4), (6, JL q6), (8, J k)] [J 0] s7)) ?_
              exact T.iretz rfl rfl (by omega) ⟨_, wy, wh, bi9, ed9, sz9, md9, bd9, Lc9, (la.set (4 : Int).toNat (Int32.ofInt md9)), lk9, rfl, ms7, gs7, by omega, by omega, gτ, lgs7⟩
            · refine T.go 1 (fun n9 => (rfl : _ = exe ξ n9 (d + 6) j_M_isUnread 247 [(0, .ref 137), (1, J x), (2, J h2), (3, J m3), (4, JL p4), (6, JL q6), (8, J k)] [] s7)) ?_
              refine T.go 3 (fun n9 => (rfl : _ = exe ξ n9 (d + 6) j_M_isUnread 251 [(0, .ref 137), (1, J x), (2, J h2), (3, J m3), (4, JL p4), (6, JL q6), (8, J k)] [J x, J 9, .ref 137] s7)) ?_
              refine T.callv (as := [J 9, J x]) (r := []) rfl rfl rfl rfl ms7.ob rfl (s_M_isWrong (d + 5) 9 x s7 ms7 (by omega) (by omega)) (fun v9 s11 hqs11 => ?_)
              obtain ⟨z9, wy_5, wh_5, rfl, ms11, fs11, hzz9, hyz9⟩ := hqs11
              have ns11 := ms11.len
              have rs11 := ms11.rg
              have gs11 := gs7.trans fs11
              refine T.if_eq rfl rfl (by omega) (fun c10 => ?_) (fun c10 => ?_)
              · refine T.go 1 (fun n9 => (rfl : _ = exe ξ n9 (d + 6) j_M_isUnread 262 [(0, .ref 137), (1, J x), (2, J h2), (3, J m3), (4, JL p4), (6, JL q6), (8, J k)] [J 0] s11)) ?_
                exact T.iretz rfl rfl (by omega) ⟨_, wy_5, wh_5, bi9, ed9, sz9, md9, bd9, Lc9, (la.set (4 : Int).toNat (Int32.ofInt md9)), lk9, rfl, ms11, gs11, by omega, by omega, gτ, lgs7⟩
              · refine T.go 2 (fun n9 => (rfl : _ = exe ξ n9 (d + 6) j_M_isUnread 262 [(0, .ref 137), (1, J x), (2, J h2), (3, J m3), (4, JL p4), (6, JL q6), (8, J k)] [J 1] s11)) ?_
                exact T.iretz rfl rfl (by omega) ⟨_, wy_5, wh_5, bi9, ed9, sz9, md9, bd9, Lc9, (la.set (4 : Int).toNat (Int32.ofInt md9)), lk9, rfl, ms11, gs11, by omega, by omega, gτ, lgs7⟩
          · refine T.go 3 (fun n9 => (rfl : _ = exe ξ n9 (d + 6) j_M_isUnread 217 [(0, .ref 137), (1, J x), (2, J h2), (3, J m3), (4, JL p4), (6, JL q6), (8, J k)] [J x, J 8, .ref 137] τ)) ?_
            refine T.callv (as := [J 8, J x]) (r := []) rfl rfl rfl rfl mτ.ob rfl (s_M_isWrong (d + 5) 8 x τ mτ (by omega) (by omega)) (fun v10 s12 hqs12 => ?_)
            obtain ⟨z10, wy_6, wh_6, rfl, ms12, fs12, hzz10, hyz10⟩ := hqs12
            have ns12 := ms12.len
            have rs12 := ms12.rg
            have gs12 := fτ.trans fs12
            exact T.iretz rfl rfl (by omega) ⟨_, wy_6, wh_6, bi9, ed9, sz9, md9, bd9, Lc9, la, lk9, rfl, ms12, gs12, by omega, by omega, gτ, LG.refl⟩
        · refine T.go 1 (fun n9 => (rfl : _ = exe ξ n9 (d + 6) j_M_isUnread 173 [(0, .ref 137), (1, J x), (2, J h2), (3, J m3), (4, JL p4), (6, JL q6), (8, J k)] [.ref 137] τ)) ?_
          refine T.get rfl rfl rfl mτ.ob rfl ?_
          refine T.if_ne rfl rfl (by omega) (fun c11 => ?_) (fun c11 => ?_)
          · refine T.go 1 (fun n9 => (rfl : _ = exe ξ n9 (d + 6) j_M_isUnread 207 [(0, .ref 137), (1, J x), (2, J h2), (3, J m3), (4, JL p4), (6, JL q6), (8, J k)] [.ref 137] τ)) ?_
            refine T.get rfl rfl rfl mτ.ob rfl ?_
            refine T.if_eq rfl rfl (by omega) (fun c12 => ?_) (fun c12 => ?_)
            · refine T.go 1 (fun n9 => (rfl : _ = exe ξ n9 (d + 6) j_M_isUnread 222 [(0, .ref 137), (1, J x), (2, J h2), (3, J m3), (4, JL p4), (6, JL q6), (8, J k)] [.ref 137] τ)) ?_
              refine T.get rfl rfl rfl mτ.ob rfl ?_
              refine T.go 2 (fun n9 => (rfl : _ = exe ξ n9 (d + 6) j_M_isUnread 227 [(0, .ref 137), (1, J x), (2, J h2), (3, J m3), (4, JL p4), (6, JL q6), (8, J k)] [.ref 137, J 4, .ref 139] τ)) ?_
              refine T.get rfl rfl rfl mτ.ob rfl ?_
              refine T.mast139 mτ rfl (by omega) (by omega) (fun s13 ms13 fs13 => ?_)
              have ns13 := ms13.len
              have gs13 := fτ.trans fs13
              have lgs13 := (LG.refl (S := [4])).trans (LG.set (S := [4]) (A := la) (x := 4) (v := Int32.ofInt md9) (by decide) (by decide)) (fun _ z => z)
              refine T.go 1 (fun n9 => (rfl : _ = exe ξ n9 (d + 6) j_M_isUnread 232 [(0, .ref 137), (1, J x), (2, J h2), (3, J m3), (4, JL p4), (6, JL q6), (8, J k)] [.ref 137] s13)) ?_
              refine T.callv (as := []) (r := []) rfl rfl rfl rfl ms13.ob rfl (s_M_sumOfMade (d + 4)  s13 ms13 (by omega) (by omega)) (fun v11 s14 hqs14 => ?_)
              obtain ⟨z11, rfl, esz11, hzz11, hyz11⟩ := hqs14
              rw [esz11]
              refine T.go 3 (fun n9 => (rfl : _ = exe ξ n9 (d + 6) j_M_isUnread 239 [(0, .ref 137), (1, J x), (2, J h2), (3, J m3), (4, JL p4), (6, JL q6), (8, J k)] [J 16, J h2, .ref 137, JL z11] s13)) ?_
              refine T.iadd rfl ?_
              refine T.callv (as := [J (h2 + 16)]) (r := [JL z11]) rfl rfl rfl rfl ms13.ob rfl (s_M_four (d + 3) (h2 + 16) s13 ms13 (by omega) (by omega) (by omega)) (fun v12 s15 hqs15 => ?_)
              obtain ⟨z12, rfl, esz12, hzz12, hyz12, pz12_0⟩ := hqs15
              rw [esz12]
              refine T.lcmp rfl (by omega) (by omega) (fun c13 => ?_) (fun c13 => ?_) (fun c13 => ?_)
              · refine T.go 1 (fun n9 => (rfl : _ = exe ξ n9 (d + 6) j_M_isUnread 247 [(0, .ref 137), (1, J x), (2, J h2), (3, J m3), (4, JL p4), (6, JL q6), (8, J k)] [] s13)) ?_
                refine T.go 3 (fun n9 => (rfl : _ = exe ξ n9 (d + 6) j_M_isUnread 251 [(0, .ref 137), (1, J x), (2, J h2), (3, J m3), (4, JL p4), (6, JL q6), (8, J k)] [J x, J 9, .ref 137] s13)) ?_
                refine T.callv (as := [J 9, J x]) (r := []) rfl rfl rfl rfl ms13.ob rfl (s_M_isWrong (d + 5) 9 x s13 ms13 (by omega) (by omega)) (fun v13 s16 hqs16 => ?_)
                obtain ⟨z13, wy_7, wh_7, rfl, ms16, fs16, hzz13, hyz13⟩ := hqs16
                have ns16 := ms16.len
                have rs16 := ms16.rg
                have gs16 := gs13.trans fs16
                refine T.if_eq rfl rfl (by omega) (fun c14 => ?_) (fun c14 => ?_)
                · refine T.go 1 (fun n9 => (rfl : _ = exe ξ n9 (d + 6) j_M_isUnread 262 [(0, .ref 137), (1, J x), (2, J h2), (3, J m3), (4, JL p4), (6, JL q6), (8, J k)] [J 0] s16)) ?_
                  exact T.iretz rfl rfl (by omega) ⟨_, wy_7, wh_7, bi9, ed9, sz9, md9, bd9, Lc9, (la.set (4 : Int).toNat (Int32.ofInt md9)), lk9, rfl, ms16, gs16, by omega, by omega, gτ, lgs13⟩
                · refine T.go 2 (fun n9 => (rfl : _ = exe ξ n9 (d + 6) j_M_isUnread 262 [(0, .ref 137), (1, J x), (2, J h2), (3, J m3), (4, JL p4), (6, JL q6), (8, J k)] [J 1] s16)) ?_
                  exact T.iretz rfl rfl (by omega) ⟨_, wy_7, wh_7, bi9, ed9, sz9, md9, bd9, Lc9, (la.set (4 : Int).toNat (Int32.ofInt md9)), lk9, rfl, ms16, gs16, by omega, by omega, gτ, lgs13⟩
              · refine T.go 1 (fun n9 => (rfl : _ = exe ξ n9 (d + 6) j_M_isUnread 261 [(0, .ref 137), (1, J x), (2, J h2), (3, J m3), (4, JL p4), (6, JL q6), (8, J k)] [] s13)) ?_
                refine T.go 1 (fun n9 => (rfl : _ = exe ξ n9 (d + 6) j_M_isUnread 262 [(0, .ref 137), (1, J x), (2, J h2), (3, J m3), (4, JL p4), (6, JL q6), (8, J k)] [J 0] s13)) ?_
                exact T.iretz rfl rfl (by omega) ⟨_, wy, wh, bi9, ed9, sz9, md9, bd9, Lc9, (la.set (4 : Int).toNat (Int32.ofInt md9)), lk9, rfl, ms13, gs13, by omega, by omega, gτ, lgs13⟩
              · refine T.go 1 (fun n9 => (rfl : _ = exe ξ n9 (d + 6) j_M_isUnread 247 [(0, .ref 137), (1, J x), (2, J h2), (3, J m3), (4, JL p4), (6, JL q6), (8, J k)] [] s13)) ?_
                refine T.go 3 (fun n9 => (rfl : _ = exe ξ n9 (d + 6) j_M_isUnread 251 [(0, .ref 137), (1, J x), (2, J h2), (3, J m3), (4, JL p4), (6, JL q6), (8, J k)] [J x, J 9, .ref 137] s13)) ?_
                refine T.callv (as := [J 9, J x]) (r := []) rfl rfl rfl rfl ms13.ob rfl (s_M_isWrong (d + 5) 9 x s13 ms13 (by omega) (by omega)) (fun v14 s17 hqs17 => ?_)
                obtain ⟨z14, wy_8, wh_8, rfl, ms17, fs17, hzz14, hyz14⟩ := hqs17
                have ns17 := ms17.len
                have rs17 := ms17.rg
                have gs17 := gs13.trans fs17
                refine T.if_eq rfl rfl (by omega) (fun c15 => ?_) (fun c15 => ?_)
                · refine T.go 1 (fun n9 => (rfl : _ = exe ξ n9 (d + 6) j_M_isUnread 262 [(0, .ref 137), (1, J x), (2, J h2), (3, J m3), (4, JL p4), (6, JL q6), (8, J k)] [J 0] s17)) ?_
                  exact T.iretz rfl rfl (by omega) ⟨_, wy_8, wh_8, bi9, ed9, sz9, md9, bd9, Lc9, (la.set (4 : Int).toNat (Int32.ofInt md9)), lk9, rfl, ms17, gs17, by omega, by omega, gτ, lgs13⟩
                · refine T.go 2 (fun n9 => (rfl : _ = exe ξ n9 (d + 6) j_M_isUnread 262 [(0, .ref 137), (1, J x), (2, J h2), (3, J m3), (4, JL p4), (6, JL q6), (8, J k)] [J 1] s17)) ?_
                  exact T.iretz rfl rfl (by omega) ⟨_, wy_8, wh_8, bi9, ed9, sz9, md9, bd9, Lc9, (la.set (4 : Int).toNat (Int32.ofInt md9)), lk9, rfl, ms17, gs17, by omega, by omega, gτ, lgs13⟩
            · refine T.go 3 (fun n9 => (rfl : _ = exe ξ n9 (d + 6) j_M_isUnread 217 [(0, .ref 137), (1, J x), (2, J h2), (3, J m3), (4, JL p4), (6, JL q6), (8, J k)] [J x, J 8, .ref 137] τ)) ?_
              refine T.callv (as := [J 8, J x]) (r := []) rfl rfl rfl rfl mτ.ob rfl (s_M_isWrong (d + 5) 8 x τ mτ (by omega) (by omega)) (fun v15 s18 hqs18 => ?_)
              obtain ⟨z15, wy_9, wh_9, rfl, ms18, fs18, hzz15, hyz15⟩ := hqs18
              have ns18 := ms18.len
              have rs18 := ms18.rg
              have gs18 := fτ.trans fs18
              exact T.iretz rfl rfl (by omega) ⟨_, wy_9, wh_9, bi9, ed9, sz9, md9, bd9, Lc9, la, lk9, rfl, ms18, gs18, by omega, by omega, gτ, LG.refl⟩
          · refine T.go 3 (fun n9 => (rfl : _ = exe ξ n9 (d + 6) j_M_isUnread 182 [(0, .ref 137), (1, J x), (2, J h2), (3, J m3), (4, JL p4), (6, JL q6), (8, J k)] [.ref 137, .ref 137, .ref 137] τ)) ?_
            refine T.get rfl rfl rfl mτ.ob rfl ?_
            refine T.go 1 (fun n9 => (rfl : _ = exe ξ n9 (d + 6) j_M_isUnread 186 [(0, .ref 137), (1, J x), (2, J h2), (3, J m3), (4, JL p4), (6, JL q6), (8, J k)] [.ref 137, J rw, .ref 137, .ref 137] τ)) ?_
            refine T.get rfl rfl rfl mτ.ob rfl ?_
            refine T.go 1 (fun n9 => (rfl : _ = exe ξ n9 (d + 6) j_M_isUnread 190 [(0, .ref 137), (1, J x), (2, J h2), (3, J m3), (4, JL p4), (6, JL q6), (8, J k)] [J x, .ref 143, J rw, .ref 137, .ref 137] τ)) ?_
            refine T.iald rfl rfl mτ.c143 (by omega) (fun z16 hzz16 hyz16 hez16 => ?_)
            have gzz16 := gl_of hez16 ⟨hzz16, hyz16⟩
            subst gzz16
            refine T.go 1 (fun n9 => (rfl : _ = exe ξ n9 (d + 6) j_M_isUnread 193 [(0, .ref 137), (1, J x), (2, J h2), (3, J m3), (4, JL p4), (6, JL q6), (8, J k)] [J k, J (gl ld x), J rw, .ref 137, .ref 137] τ)) ?_
            refine T.iadd rfl ?_
            refine T.callv (as := [J rw, J ((gl ld x) + k)]) (r := [.ref 137]) rfl rfl rfl rfl mτ.ob rfl (s_M_get (d + 5) rw ((gl ld x) + k) τ mτ (by omega)) (fun v16 s19 hqs19 => ?_)
            obtain ⟨z17, rfl, esz17, hzz17, hyz17, pz17_0⟩ := hqs19
            rw [esz17]
            refine T.callv (as := [J z17]) (r := []) rfl rfl rfl rfl mτ.ob rfl (s_M_out (d + 4) z17 τ mτ (by omega) (by omega) (by omega) (by omega)) (fun v17 s20 hqs20 => ?_)
            obtain ⟨md_1, bd_1, Lc_1, rfl, ms20, fs20, pz18_0, pz18_1, pz18_2, pz18_3⟩ := hqs20
            have ns20 := ms20.len
            have rs20 := ms20.rg
            have gs20 := fτ.trans fs20
            have rgs20 := gτ.trans pz18_0 (by decide)
            refine T.iinc (lv' := [(0, .ref 137), (1, J x), (2, J h2), (3, J m3), (4, JL p4), (6, JL q6), (8, J (k + 1))]) rfl rfl rfl rfl ?_
            refine T.go 1 (fun n9 => (rfl : _ = exe ξ n9 (d + 6) j_M_isUnread 159 [(0, .ref 137), (1, J x), (2, J h2), (3, J m3), (4, JL p4), (6, JL q6), (8, J (k + 1))] [] s20)) ?_
            exact ih159  h2 m3 p4 q6 (k + 1) bi9 ed9 sz9 md_1 bd_1 Lc_1 lk9 s20 ms20 gs20 rgs20 (by omega) (by omega) (by omega) (by omega) (by omega) (by omega) (by omega) (by omega) (by omega) (by omega) (by omega) (by omega) (by omega) (by omega) (by omega)
  refine T.go 1 (fun n9 => (rfl : _ = exe ξ n9 (d + 6) j_M_isUnread 1 [(0, .ref 137), (1, J x)] [.ref 137] σ)) ?_
  refine T.get rfl rfl rfl hM.ob rfl ?_
  refine T.go 1 (fun n9 => (rfl : _ = exe ξ n9 (d + 6) j_M_isUnread 5 [(0, .ref 137), (1, J x)] [J x, .ref 142] σ)) ?_
  refine T.iald rfl rfl hM.c142 (by omega) (fun z19 hzz19 hyz19 hez19 => ?_)
  have hbz19 := hM.b142.at hez19 ⟨hzz19, hyz19⟩
  have gzz19 := gl_of hez19 ⟨hzz19, hyz19⟩
  subst gzz19
  refine T.go 4 (fun n9 => (rfl : _ = exe ξ n9 (d + 6) j_M_isUnread 11 [(0, .ref 137), (1, J x), (2, J (gl lh x))] [J 10, J (gl lh x), .ref 137] σ)) ?_
  refine T.iadd rfl ?_
  refine T.callv (as := [J ((gl lh x) + 10)]) (r := []) rfl rfl rfl rfl hM.ob rfl (s_M_two (d + 4) ((gl lh x) + 10) σ hM (by omega) (by omega) (by omega)) (fun v18 s21 hqs21 => ?_)
  obtain ⟨z20, rfl, esz20, hzz20, hyz20, pz20_0⟩ := hqs21
  rw [esz20]
  refine T.go 4 (fun n9 => (rfl : _ = exe ξ n9 (d + 6) j_M_isUnread 20 [(0, .ref 137), (1, J x), (2, J (gl lh x)), (3, J z20)] [J 20, J (gl lh x), .ref 137] σ)) ?_
  refine T.iadd rfl ?_
  refine T.callv (as := [J ((gl lh x) + 20)]) (r := []) rfl rfl rfl rfl hM.ob rfl (s_M_four (d + 3) ((gl lh x) + 20) σ hM (by omega) (by omega) (by omega)) (fun v19 s22 hqs22 => ?_)
  obtain ⟨z21, rfl, esz21, hzz21, hyz21, pz21_0⟩ := hqs22
  rw [esz21]
  refine T.go 4 (fun n9 => (rfl : _ = exe ξ n9 (d + 6) j_M_isUnread 30 [(0, .ref 137), (1, J x), (2, J (gl lh x)), (3, J z20), (4, JL z21)] [J 24, J (gl lh x), .ref 137] σ)) ?_
  refine T.iadd rfl ?_
  refine T.callv (as := [J ((gl lh x) + 24)]) (r := []) rfl rfl rfl rfl hM.ob rfl (s_M_four (d + 3) ((gl lh x) + 24) σ hM (by omega) (by omega) (by omega)) (fun v20 s23 hqs23 => ?_)
  obtain ⟨z22, rfl, esz22, hzz22, hyz22, pz22_0⟩ := hqs23
  rw [esz22]
  refine T.go 4 (fun n9 => (rfl : _ = exe ξ n9 (d + 6) j_M_isUnread 40 [(0, .ref 137), (1, J x), (2, J (gl lh x)), (3, J z20), (4, JL z21), (6, JL z22)] [J 8, J (gl lh x), .ref 137] σ)) ?_
  refine T.iadd rfl ?_
  refine T.callv (as := [J ((gl lh x) + 8)]) (r := []) rfl rfl rfl rfl hM.ob rfl (s_M_two (d + 4) ((gl lh x) + 8) σ hM (by omega) (by omega) (by omega)) (fun v21 s24 hqs24 => ?_)
  obtain ⟨z23, rfl, esz23, hzz23, hyz23, pz23_0⟩ := hqs24
  rw [esz23]
  refine T.go 1 (fun n9 => (rfl : _ = exe ξ n9 (d + 6) j_M_isUnread 45 [(0, .ref 137), (1, J x), (2, J (gl lh x)), (3, J z20), (4, JL z21), (6, JL z22)] [J 2, J z23] σ)) ?_
  refine T.iremc (c := 2) rfl (by decide) (by omega) ?_
  refine T.go 1 (fun n9 => (rfl : _ = exe ξ n9 (d + 6) j_M_isUnread 47 [(0, .ref 137), (1, J x), (2, J (gl lh x)), (3, J z20), (4, JL z21), (6, JL z22)] [J 1, J (z23 % 2)] σ)) ?_
  refine T.icmp_eq rfl rfl (by omega) (by omega) (fun c16 => ?_) (fun c16 => ?_)
  · refine T.go 3 (fun n9 => (rfl : _ = exe ξ n9 (d + 6) j_M_isUnread 64 [(0, .ref 137), (1, J x), (2, J (gl lh x)), (3, J z20), (4, JL z21), (6, JL z22)] [J x, J 6, .ref 137] σ)) ?_
    refine T.callv (as := [J 6, J x]) (r := []) rfl rfl rfl rfl hM.ob rfl (s_M_isWrong (d + 5) 6 x σ hM (by omega) (by omega)) (fun v22 s25 hqs25 => ?_)
    obtain ⟨z25, wy_10, wh_10, rfl, ms25, fs25, hzz25, hyz25⟩ := hqs25
    have ns25 := ms25.len
    have rs25 := ms25.rg
    exact T.iretz rfl rfl (by omega) ⟨_, wy_10, wh_10, bi, ed, sz, md, bd, Lc, la, lk, rfl, ms25, fs25, by omega, by omega, RG.refl, LG.refl⟩
  · refine T.go 1 (fun n9 => (rfl : _ = exe ξ n9 (d + 6) j_M_isUnread 51 [(0, .ref 137), (1, J x), (2, J (gl lh x)), (3, J z20), (4, JL z21), (6, JL z22)] [J z20] σ)) ?_
    refine T.if_eq rfl rfl (by omega) (fun c17 => ?_) (fun c17 => ?_)
    · refine T.go 1 (fun n9 => (rfl : _ = exe ξ n9 (d + 6) j_M_isUnread 70 [(0, .ref 137), (1, J x), (2, J (gl lh x)), (3, J z20), (4, JL z21), (6, JL z22)] [JL z22] σ)) ?_
      refine T.go 1 (fun n9 => (rfl : _ = exe ξ n9 (d + 6) j_M_isUnread 73 [(0, .ref 137), (1, J x), (2, J (gl lh x)), (3, J z20), (4, JL z21), (6, JL z22)] [JL 8000, JL z22] σ)) ?_
      refine T.lcmp rfl (by omega) (by omega) (fun c18 => ?_) (fun c18 => ?_) (fun c18 => ?_)
      · refine T.go 1 (fun n9 => (rfl : _ = exe ξ n9 (d + 6) j_M_isUnread 85 [(0, .ref 137), (1, J x), (2, J (gl lh x)), (3, J z20), (4, JL z21), (6, JL z22)] [] σ)) ?_
        refine T.go 2 (fun n9 => (rfl : _ = exe ξ n9 (d + 6) j_M_isUnread 88 [(0, .ref 137), (1, J x), (2, J (gl lh x)), (3, J z20), (4, JL z21), (6, JL z22)] [JL z22, .ref 137] σ)) ?_
        refine T.l2i rfl ?_
        refine T.mput (c' := c) (io' := io) (mo' := mo) (fa' := fa) (pl' := pl) (ns' := ns) (rw' := rw) (en' := en) (wy' := wy) (wh' := wh) (bi' := bi) (ed' := ed) (sz' := z22) (md' := md) (bd' := bd) (li' := li) (wk' := wk) (we' := we) hM rfl rfl rfl rfl rfl rfl (by omega) (fun s26 ms26 fs26 => ?_)
        refine T.go 2 (fun n9 => (rfl : _ = exe ξ n9 (d + 6) j_M_isUnread 94 [(0, .ref 137), (1, J x), (2, J (gl lh x)), (3, J z20), (4, JL z21), (6, JL z22)] [J 0, .ref 137] s26)) ?_
        refine T.mput (c' := c) (io' := io) (mo' := mo) (fa' := fa) (pl' := pl) (ns' := ns) (rw' := rw) (en' := en) (wy' := wy) (wh' := wh) (bi' := bi) (ed' := ed) (sz' := z22) (md' := 0) (bd' := bd) (li' := li) (wk' := wk) (we' := we) ms26 rfl rfl rfl rfl rfl rfl (by omega) (fun s27 ms27 fs27 => ?_)
        have gs27 := fs26.trans fs27
        refine T.go 2 (fun n9 => (rfl : _ = exe ξ n9 (d + 6) j_M_isUnread 99 [(0, .ref 137), (1, J x), (2, J (gl lh x)), (3, J z20), (4, JL z21), (6, JL z22)] [J z20, .ref 137] s27)) ?_
        refine T.if_ne rfl rfl (by omega) (fun c19 => ?_) (fun c19 => ?_)
        · refine T.go 1 (fun n9 => (rfl : _ = exe ξ n9 (d + 6) j_M_isUnread 115 [(0, .ref 137), (1, J x), (2, J (gl lh x)), (3, J z20), (4, JL z21), (6, JL z22)] [J 0, .ref 137] s27)) ?_
          refine T.mput (c' := c) (io' := io) (mo' := mo) (fa' := fa) (pl' := pl) (ns' := ns) (rw' := rw) (en' := en) (wy' := wy) (wh' := wh) (bi' := bi) (ed' := ed) (sz' := z22) (md' := 0) (bd' := 0) (li' := li) (wk' := wk) (we' := we) ms27 rfl rfl rfl rfl rfl rfl (by omega) (fun s28 ms28 fs28 => ?_)
          have gs28 := gs27.trans fs28
          refine T.go 3 (fun n9 => (rfl : _ = exe ξ n9 (d + 6) j_M_isUnread 122 [(0, .ref 137), (1, J x), (2, J (gl lh x)), (3, J z20), (4, JL z21), (6, JL z22)] [.ref 137, J 8, .ref 137] s28)) ?_
          refine T.get rfl rfl rfl ms28.ob rfl ?_
          refine T.go 1 (fun n9 => (rfl : _ = exe ξ n9 (d + 6) j_M_isUnread 126 [(0, .ref 137), (1, J x), (2, J (gl lh x)), (3, J z20), (4, JL z21), (6, JL z22)] [J x, .ref 143, J 8, .ref 137] s28)) ?_
          refine T.iald rfl rfl ms28.c143 (by omega) (fun z26 hzz26 hyz26 hez26 => ?_)
          have gzz26 := gl_of hez26 ⟨hzz26, hyz26⟩
          subst gzz26
          refine T.imul rfl ?_
          refine T.mput (c' := c) (io' := io) (mo' := mo) (fa' := fa) (pl' := pl) (ns' := ns) (rw' := rw) (en' := en) (wy' := wy) (wh' := wh) (bi' := 8 * (gl ld x)) (ed' := ed) (sz' := z22) (md' := 0) (bd' := 0) (li' := li) (wk' := wk) (we' := we) ms28 rfl rfl rfl rfl rfl rfl (by omega) (fun s29 ms29 fs29 => ?_)
          have gs29 := gs28.trans fs29
          refine T.go 2 (fun n9 => (rfl : _ = exe ξ n9 (d + 6) j_M_isUnread 133 [(0, .ref 137), (1, J x), (2, J (gl lh x)), (3, J z20), (4, JL z21), (6, JL z22)] [.ref 137, .ref 137] s29)) ?_
          refine T.get rfl rfl rfl ms29.ob rfl ?_
          refine T.go 2 (fun n9 => (rfl : _ = exe ξ n9 (d + 6) j_M_isUnread 140 [(0, .ref 137), (1, J x), (2, J (gl lh x)), (3, J z20), (4, JL z21), (6, JL z22)] [JL z21, J 8, J (8 * (gl ld x)), .ref 137] s29)) ?_
          refine T.l2i rfl ?_
          refine T.imul rfl ?_
          refine T.iadd rfl ?_
          refine T.mput (c' := c) (io' := io) (mo' := mo) (fa' := fa) (pl' := pl) (ns' := ns) (rw' := rw) (en' := en) (wy' := wy) (wh' := wh) (bi' := 8 * (gl ld x)) (ed' := (8 * (gl ld x)) + (8 * z21)) (sz' := z22) (md' := 0) (bd' := 0) (li' := li) (wk' := wk) (we' := we) ms29 rfl rfl rfl rfl rfl rfl (by omega) (fun s30 ms30 fs30 => ?_)
          have gs30 := gs29.trans fs30
          refine T.go 2 (fun n9 => (rfl : _ = exe ξ n9 (d + 6) j_M_isUnread 149 [(0, .ref 137), (1, J x), (2, J (gl lh x)), (3, J z20), (4, JL z21), (6, JL z22)] [J 8, J z20] s30)) ?_
          refine T.icmp_ne rfl rfl (by omega) (by omega) (fun c20 => ?_) (fun c20 => ?_)
          · refine T.go 2 (fun n9 => (rfl : _ = exe ξ n9 (d + 6) j_M_isUnread 159 [(0, .ref 137), (1, J x), (2, J (gl lh x)), (3, J z20), (4, JL z21), (6, JL z22), (8, J 0)] [] s30)) ?_
            exact loop159 _ (gl lh x) z20 z21 z22 0 (8 * (gl ld x)) ((8 * (gl ld x)) + (8 * z21)) z22 0 0 Lc lk s30 ms30 gs30 RG.refl (by omega) (by omega) (by omega) (by omega) (by omega) (by omega) (by omega) (by omega) (by omega) (by omega) (by omega) (by omega) (by omega) (by omega) (Nat.lt_succ_self _)
          · refine T.go 1 (fun n9 => (rfl : _ = exe ξ n9 (d + 6) j_M_isUnread 153 [(0, .ref 137), (1, J x), (2, J (gl lh x)), (3, J z20), (4, JL z21), (6, JL z22)] [.ref 137] s30)) ?_
            refine T.callv (as := []) (r := []) rfl rfl rfl rfl ms30.ob rfl (s_M_inflate d  s30 ms30 (by omega) (by omega) (by omega) (by omega) (by omega) (by omega) (by omega)) (fun v23 s31 hqs31 => ?_)
            obtain ⟨bi_1, md_2, bd_2, Lc_2, lk_1, rfl, ms31, fs31, pz27_0, pz27_1, pz27_2⟩ := hqs31
            have ns31 := ms31.len
            have rs31 := ms31.rg
            have gs31 := gs30.trans fs31
            have rgs31 := (RG.refl (S := [4])).trans pz27_0 (by decide)
            refine T.go 2 (fun n9 => (rfl : _ = exe ξ n9 (d + 6) j_M_isUnread 159 [(0, .ref 137), (1, J x), (2, J (gl lh x)), (3, J z20), (4, JL z21), (6, JL z22), (8, J 0)] [] s31)) ?_
            exact loop159 _ (gl lh x) z20 z21 z22 0 bi_1 ((8 * (gl ld x)) + (8 * z21)) z22 md_2 bd_2 Lc_2 lk_1 s31 ms31 gs31 rgs31 (by omega) (by omega) (by omega) (by omega) (by omega) (by omega) (by omega) (by omega) (by omega) (by omega) (by omega) (by omega) (by omega) (by omega) (Nat.lt_succ_self _)
        · refine T.go 2 (fun n9 => (rfl : _ = exe ξ n9 (d + 6) j_M_isUnread 106 [(0, .ref 137), (1, J x), (2, J (gl lh x)), (3, J z20), (4, JL z21), (6, JL z22)] [JL z22, JL z21, .ref 137] s27)) ?_
          refine T.lcmp rfl (by omega) (by omega) (fun c21 => ?_) (fun c21 => ?_) (fun c21 => ?_)
          · refine T.go 1 (fun n9 => (rfl : _ = exe ξ n9 (d + 6) j_M_isUnread 110 [(0, .ref 137), (1, J x), (2, J (gl lh x)), (3, J z20), (4, JL z21), (6, JL z22)] [.ref 137] s27)) ?_
            refine T.go 2 (fun n9 => (rfl : _ = exe ξ n9 (d + 6) j_M_isUnread 115 [(0, .ref 137), (1, J x), (2, J (gl lh x)), (3, J z20), (4, JL z21), (6, JL z22)] [J 1, .ref 137] s27)) ?_
            refine T.mput (c' := c) (io' := io) (mo' := mo) (fa' := fa) (pl' := pl) (ns' := ns) (rw' := rw) (en' := en) (wy' := wy) (wh' := wh) (bi' := bi) (ed' := ed) (sz' := z22) (md' := 0) (bd' := 1) (li' := li) (wk' := wk) (we' := we) ms27 rfl rfl rfl rfl rfl rfl (by omega) (fun s32 ms32 fs32 => ?_)
            have gs32 := gs27.trans fs32
            refine T.go 3 (fun n9 => (rfl : _ = exe ξ n9 (d + 6) j_M_isUnread 122 [(0, .ref 137), (1, J x), (2, J (gl lh x)), (3, J z20), (4, JL z21), (6, JL z22)] [.ref 137, J 8, .ref 137] s32)) ?_
            refine T.get rfl rfl rfl ms32.ob rfl ?_
            refine T.go 1 (fun n9 => (rfl : _ = exe ξ n9 (d + 6) j_M_isUnread 126 [(0, .ref 137), (1, J x), (2, J (gl lh x)), (3, J z20), (4, JL z21), (6, JL z22)] [J x, .ref 143, J 8, .ref 137] s32)) ?_
            refine T.iald rfl rfl ms32.c143 (by omega) (fun z28 hzz28 hyz28 hez28 => ?_)
            have gzz28 := gl_of hez28 ⟨hzz28, hyz28⟩
            subst gzz28
            refine T.imul rfl ?_
            refine T.mput (c' := c) (io' := io) (mo' := mo) (fa' := fa) (pl' := pl) (ns' := ns) (rw' := rw) (en' := en) (wy' := wy) (wh' := wh) (bi' := 8 * (gl ld x)) (ed' := ed) (sz' := z22) (md' := 0) (bd' := 1) (li' := li) (wk' := wk) (we' := we) ms32 rfl rfl rfl rfl rfl rfl (by omega) (fun s33 ms33 fs33 => ?_)
            have gs33 := gs32.trans fs33
            refine T.go 2 (fun n9 => (rfl : _ = exe ξ n9 (d + 6) j_M_isUnread 133 [(0, .ref 137), (1, J x), (2, J (gl lh x)), (3, J z20), (4, JL z21), (6, JL z22)] [.ref 137, .ref 137] s33)) ?_
            refine T.get rfl rfl rfl ms33.ob rfl ?_
            refine T.go 2 (fun n9 => (rfl : _ = exe ξ n9 (d + 6) j_M_isUnread 140 [(0, .ref 137), (1, J x), (2, J (gl lh x)), (3, J z20), (4, JL z21), (6, JL z22)] [JL z21, J 8, J (8 * (gl ld x)), .ref 137] s33)) ?_
            refine T.l2i rfl ?_
            refine T.imul rfl ?_
            refine T.iadd rfl ?_
            refine T.mput (c' := c) (io' := io) (mo' := mo) (fa' := fa) (pl' := pl) (ns' := ns) (rw' := rw) (en' := en) (wy' := wy) (wh' := wh) (bi' := 8 * (gl ld x)) (ed' := (8 * (gl ld x)) + (8 * z21)) (sz' := z22) (md' := 0) (bd' := 1) (li' := li) (wk' := wk) (we' := we) ms33 rfl rfl rfl rfl rfl rfl (by omega) (fun s34 ms34 fs34 => ?_)
            have gs34 := gs33.trans fs34
            refine T.go 2 (fun n9 => (rfl : _ = exe ξ n9 (d + 6) j_M_isUnread 149 [(0, .ref 137), (1, J x), (2, J (gl lh x)), (3, J z20), (4, JL z21), (6, JL z22)] [J 8, J z20] s34)) ?_
            refine T.icmp_ne rfl rfl (by omega) (by omega) (fun c22 => ?_) (fun c22 => ?_)
            · refine T.go 2 (fun n9 => (rfl : _ = exe ξ n9 (d + 6) j_M_isUnread 159 [(0, .ref 137), (1, J x), (2, J (gl lh x)), (3, J z20), (4, JL z21), (6, JL z22), (8, J 0)] [] s34)) ?_
              exact loop159 _ (gl lh x) z20 z21 z22 0 (8 * (gl ld x)) ((8 * (gl ld x)) + (8 * z21)) z22 0 1 Lc lk s34 ms34 gs34 RG.refl (by omega) (by omega) (by omega) (by omega) (by omega) (by omega) (by omega) (by omega) (by omega) (by omega) (by omega) (by omega) (by omega) (by omega) (Nat.lt_succ_self _)
            · refine T.go 1 (fun n9 => (rfl : _ = exe ξ n9 (d + 6) j_M_isUnread 153 [(0, .ref 137), (1, J x), (2, J (gl lh x)), (3, J z20), (4, JL z21), (6, JL z22)] [.ref 137] s34)) ?_
              refine T.callv (as := []) (r := []) rfl rfl rfl rfl ms34.ob rfl (s_M_inflate d  s34 ms34 (by omega) (by omega) (by omega) (by omega) (by omega) (by omega) (by omega)) (fun v24 s35 hqs35 => ?_)
              obtain ⟨bi_2, md_3, bd_3, Lc_3, lk_2, rfl, ms35, fs35, pz29_0, pz29_1, pz29_2⟩ := hqs35
              have ns35 := ms35.len
              have rs35 := ms35.rg
              have gs35 := gs34.trans fs35
              have rgs35 := (RG.refl (S := [4])).trans pz29_0 (by decide)
              refine T.go 2 (fun n9 => (rfl : _ = exe ξ n9 (d + 6) j_M_isUnread 159 [(0, .ref 137), (1, J x), (2, J (gl lh x)), (3, J z20), (4, JL z21), (6, JL z22), (8, J 0)] [] s35)) ?_
              exact loop159 _ (gl lh x) z20 z21 z22 0 bi_2 ((8 * (gl ld x)) + (8 * z21)) z22 md_3 bd_3 Lc_3 lk_2 s35 ms35 gs35 rgs35 (by omega) (by omega) (by omega) (by omega) (by omega) (by omega) (by omega) (by omega) (by omega) (by omega) (by omega) (by omega) (by omega) (by omega) (Nat.lt_succ_self _)
          · refine T.go 1 (fun n9 => (rfl : _ = exe ξ n9 (d + 6) j_M_isUnread 114 [(0, .ref 137), (1, J x), (2, J (gl lh x)), (3, J z20), (4, JL z21), (6, JL z22)] [.ref 137] s27)) ?_
            refine T.go 1 (fun n9 => (rfl : _ = exe ξ n9 (d + 6) j_M_isUnread 115 [(0, .ref 137), (1, J x), (2, J (gl lh x)), (3, J z20), (4, JL z21), (6, JL z22)] [J 0, .ref 137] s27)) ?_
            refine T.mput (c' := c) (io' := io) (mo' := mo) (fa' := fa) (pl' := pl) (ns' := ns) (rw' := rw) (en' := en) (wy' := wy) (wh' := wh) (bi' := bi) (ed' := ed) (sz' := z22) (md' := 0) (bd' := 0) (li' := li) (wk' := wk) (we' := we) ms27 rfl rfl rfl rfl rfl rfl (by omega) (fun s36 ms36 fs36 => ?_)
            have gs36 := gs27.trans fs36
            refine T.go 3 (fun n9 => (rfl : _ = exe ξ n9 (d + 6) j_M_isUnread 122 [(0, .ref 137), (1, J x), (2, J (gl lh x)), (3, J z20), (4, JL z21), (6, JL z22)] [.ref 137, J 8, .ref 137] s36)) ?_
            refine T.get rfl rfl rfl ms36.ob rfl ?_
            refine T.go 1 (fun n9 => (rfl : _ = exe ξ n9 (d + 6) j_M_isUnread 126 [(0, .ref 137), (1, J x), (2, J (gl lh x)), (3, J z20), (4, JL z21), (6, JL z22)] [J x, .ref 143, J 8, .ref 137] s36)) ?_
            refine T.iald rfl rfl ms36.c143 (by omega) (fun z30 hzz30 hyz30 hez30 => ?_)
            have gzz30 := gl_of hez30 ⟨hzz30, hyz30⟩
            subst gzz30
            refine T.imul rfl ?_
            refine T.mput (c' := c) (io' := io) (mo' := mo) (fa' := fa) (pl' := pl) (ns' := ns) (rw' := rw) (en' := en) (wy' := wy) (wh' := wh) (bi' := 8 * (gl ld x)) (ed' := ed) (sz' := z22) (md' := 0) (bd' := 0) (li' := li) (wk' := wk) (we' := we) ms36 rfl rfl rfl rfl rfl rfl (by omega) (fun s37 ms37 fs37 => ?_)
            have gs37 := gs36.trans fs37
            refine T.go 2 (fun n9 => (rfl : _ = exe ξ n9 (d + 6) j_M_isUnread 133 [(0, .ref 137), (1, J x), (2, J (gl lh x)), (3, J z20), (4, JL z21), (6, JL z22)] [.ref 137, .ref 137] s37)) ?_
            refine T.get rfl rfl rfl ms37.ob rfl ?_
            refine T.go 2 (fun n9 => (rfl : _ = exe ξ n9 (d + 6) j_M_isUnread 140 [(0, .ref 137), (1, J x), (2, J (gl lh x)), (3, J z20), (4, JL z21), (6, JL z22)] [JL z21, J 8, J (8 * (gl ld x)), .ref 137] s37)) ?_
            refine T.l2i rfl ?_
            refine T.imul rfl ?_
            refine T.iadd rfl ?_
            refine T.mput (c' := c) (io' := io) (mo' := mo) (fa' := fa) (pl' := pl) (ns' := ns) (rw' := rw) (en' := en) (wy' := wy) (wh' := wh) (bi' := 8 * (gl ld x)) (ed' := (8 * (gl ld x)) + (8 * z21)) (sz' := z22) (md' := 0) (bd' := 0) (li' := li) (wk' := wk) (we' := we) ms37 rfl rfl rfl rfl rfl rfl (by omega) (fun s38 ms38 fs38 => ?_)
            have gs38 := gs37.trans fs38
            refine T.go 2 (fun n9 => (rfl : _ = exe ξ n9 (d + 6) j_M_isUnread 149 [(0, .ref 137), (1, J x), (2, J (gl lh x)), (3, J z20), (4, JL z21), (6, JL z22)] [J 8, J z20] s38)) ?_
            refine T.icmp_ne rfl rfl (by omega) (by omega) (fun c23 => ?_) (fun c23 => ?_)
            · refine T.go 2 (fun n9 => (rfl : _ = exe ξ n9 (d + 6) j_M_isUnread 159 [(0, .ref 137), (1, J x), (2, J (gl lh x)), (3, J z20), (4, JL z21), (6, JL z22), (8, J 0)] [] s38)) ?_
              exact loop159 _ (gl lh x) z20 z21 z22 0 (8 * (gl ld x)) ((8 * (gl ld x)) + (8 * z21)) z22 0 0 Lc lk s38 ms38 gs38 RG.refl (by omega) (by omega) (by omega) (by omega) (by omega) (by omega) (by omega) (by omega) (by omega) (by omega) (by omega) (by omega) (by omega) (by omega) (Nat.lt_succ_self _)
            · refine T.go 1 (fun n9 => (rfl : _ = exe ξ n9 (d + 6) j_M_isUnread 153 [(0, .ref 137), (1, J x), (2, J (gl lh x)), (3, J z20), (4, JL z21), (6, JL z22)] [.ref 137] s38)) ?_
              refine T.callv (as := []) (r := []) rfl rfl rfl rfl ms38.ob rfl (s_M_inflate d  s38 ms38 (by omega) (by omega) (by omega) (by omega) (by omega) (by omega) (by omega)) (fun v25 s39 hqs39 => ?_)
              obtain ⟨bi_3, md_4, bd_4, Lc_4, lk_3, rfl, ms39, fs39, pz31_0, pz31_1, pz31_2⟩ := hqs39
              have ns39 := ms39.len
              have rs39 := ms39.rg
              have gs39 := gs38.trans fs39
              have rgs39 := (RG.refl (S := [4])).trans pz31_0 (by decide)
              refine T.go 2 (fun n9 => (rfl : _ = exe ξ n9 (d + 6) j_M_isUnread 159 [(0, .ref 137), (1, J x), (2, J (gl lh x)), (3, J z20), (4, JL z21), (6, JL z22), (8, J 0)] [] s39)) ?_
              exact loop159 _ (gl lh x) z20 z21 z22 0 bi_3 ((8 * (gl ld x)) + (8 * z21)) z22 md_4 bd_4 Lc_4 lk_3 s39 ms39 gs39 rgs39 (by omega) (by omega) (by omega) (by omega) (by omega) (by omega) (by omega) (by omega) (by omega) (by omega) (by omega) (by omega) (by omega) (by omega) (Nat.lt_succ_self _)
          · refine T.go 1 (fun n9 => (rfl : _ = exe ξ n9 (d + 6) j_M_isUnread 110 [(0, .ref 137), (1, J x), (2, J (gl lh x)), (3, J z20), (4, JL z21), (6, JL z22)] [.ref 137] s27)) ?_
            refine T.go 2 (fun n9 => (rfl : _ = exe ξ n9 (d + 6) j_M_isUnread 115 [(0, .ref 137), (1, J x), (2, J (gl lh x)), (3, J z20), (4, JL z21), (6, JL z22)] [J 1, .ref 137] s27)) ?_
            refine T.mput (c' := c) (io' := io) (mo' := mo) (fa' := fa) (pl' := pl) (ns' := ns) (rw' := rw) (en' := en) (wy' := wy) (wh' := wh) (bi' := bi) (ed' := ed) (sz' := z22) (md' := 0) (bd' := 1) (li' := li) (wk' := wk) (we' := we) ms27 rfl rfl rfl rfl rfl rfl (by omega) (fun s40 ms40 fs40 => ?_)
            have gs40 := gs27.trans fs40
            refine T.go 3 (fun n9 => (rfl : _ = exe ξ n9 (d + 6) j_M_isUnread 122 [(0, .ref 137), (1, J x), (2, J (gl lh x)), (3, J z20), (4, JL z21), (6, JL z22)] [.ref 137, J 8, .ref 137] s40)) ?_
            refine T.get rfl rfl rfl ms40.ob rfl ?_
            refine T.go 1 (fun n9 => (rfl : _ = exe ξ n9 (d + 6) j_M_isUnread 126 [(0, .ref 137), (1, J x), (2, J (gl lh x)), (3, J z20), (4, JL z21), (6, JL z22)] [J x, .ref 143, J 8, .ref 137] s40)) ?_
            refine T.iald rfl rfl ms40.c143 (by omega) (fun z32 hzz32 hyz32 hez32 => ?_)
            have gzz32 := gl_of hez32 ⟨hzz32, hyz32⟩
            subst gzz32
            refine T.imul rfl ?_
            refine T.mput (c' := c) (io' := io) (mo' := mo) (fa' := fa) (pl' := pl) (ns' := ns) (rw' := rw) (en' := en) (wy' := wy) (wh' := wh) (bi' := 8 * (gl ld x)) (ed' := ed) (sz' := z22) (md' := 0) (bd' := 1) (li' := li) (wk' := wk) (we' := we) ms40 rfl rfl rfl rfl rfl rfl (by omega) (fun s41 ms41 fs41 => ?_)
            have gs41 := gs40.trans fs41
            refine T.go 2 (fun n9 => (rfl : _ = exe ξ n9 (d + 6) j_M_isUnread 133 [(0, .ref 137), (1, J x), (2, J (gl lh x)), (3, J z20), (4, JL z21), (6, JL z22)] [.ref 137, .ref 137] s41)) ?_
            refine T.get rfl rfl rfl ms41.ob rfl ?_
            refine T.go 2 (fun n9 => (rfl : _ = exe ξ n9 (d + 6) j_M_isUnread 140 [(0, .ref 137), (1, J x), (2, J (gl lh x)), (3, J z20), (4, JL z21), (6, JL z22)] [JL z21, J 8, J (8 * (gl ld x)), .ref 137] s41)) ?_
            refine T.l2i rfl ?_
            refine T.imul rfl ?_
            refine T.iadd rfl ?_
            refine T.mput (c' := c) (io' := io) (mo' := mo) (fa' := fa) (pl' := pl) (ns' := ns) (rw' := rw) (en' := en) (wy' := wy) (wh' := wh) (bi' := 8 * (gl ld x)) (ed' := (8 * (gl ld x)) + (8 * z21)) (sz' := z22) (md' := 0) (bd' := 1) (li' := li) (wk' := wk) (we' := we) ms41 rfl rfl rfl rfl rfl rfl (by omega) (fun s42 ms42 fs42 => ?_)
            have gs42 := gs41.trans fs42
            refine T.go 2 (fun n9 => (rfl : _ = exe ξ n9 (d + 6) j_M_isUnread 149 [(0, .ref 137), (1, J x), (2, J (gl lh x)), (3, J z20), (4, JL z21), (6, JL z22)] [J 8, J z20] s42)) ?_
            refine T.icmp_ne rfl rfl (by omega) (by omega) (fun c24 => ?_) (fun c24 => ?_)
            · refine T.go 2 (fun n9 => (rfl : _ = exe ξ n9 (d + 6) j_M_isUnread 159 [(0, .ref 137), (1, J x), (2, J (gl lh x)), (3, J z20), (4, JL z21), (6, JL z22), (8, J 0)] [] s42)) ?_
              exact loop159 _ (gl lh x) z20 z21 z22 0 (8 * (gl ld x)) ((8 * (gl ld x)) + (8 * z21)) z22 0 1 Lc lk s42 ms42 gs42 RG.refl (by omega) (by omega) (by omega) (by omega) (by omega) (by omega) (by omega) (by omega) (by omega) (by omega) (by omega) (by omega) (by omega) (by omega) (Nat.lt_succ_self _)
            · refine T.go 1 (fun n9 => (rfl : _ = exe ξ n9 (d + 6) j_M_isUnread 153 [(0, .ref 137), (1, J x), (2, J (gl lh x)), (3, J z20), (4, JL z21), (6, JL z22)] [.ref 137] s42)) ?_
              refine T.callv (as := []) (r := []) rfl rfl rfl rfl ms42.ob rfl (s_M_inflate d  s42 ms42 (by omega) (by omega) (by omega) (by omega) (by omega) (by omega) (by omega)) (fun v26 s43 hqs43 => ?_)
              obtain ⟨bi_4, md_5, bd_5, Lc_5, lk_4, rfl, ms43, fs43, pz33_0, pz33_1, pz33_2⟩ := hqs43
              have ns43 := ms43.len
              have rs43 := ms43.rg
              have gs43 := gs42.trans fs43
              have rgs43 := (RG.refl (S := [4])).trans pz33_0 (by decide)
              refine T.go 2 (fun n9 => (rfl : _ = exe ξ n9 (d + 6) j_M_isUnread 159 [(0, .ref 137), (1, J x), (2, J (gl lh x)), (3, J z20), (4, JL z21), (6, JL z22), (8, J 0)] [] s43)) ?_
              exact loop159 _ (gl lh x) z20 z21 z22 0 bi_4 ((8 * (gl ld x)) + (8 * z21)) z22 md_5 bd_5 Lc_5 lk_4 s43 ms43 gs43 rgs43 (by omega) (by omega) (by omega) (by omega) (by omega) (by omega) (by omega) (by omega) (by omega) (by omega) (by omega) (by omega) (by omega) (by omega) (Nat.lt_succ_self _)
      · refine T.go 1 (fun n9 => (rfl : _ = exe ξ n9 (d + 6) j_M_isUnread 85 [(0, .ref 137), (1, J x), (2, J (gl lh x)), (3, J z20), (4, JL z21), (6, JL z22)] [] σ)) ?_
        refine T.go 2 (fun n9 => (rfl : _ = exe ξ n9 (d + 6) j_M_isUnread 88 [(0, .ref 137), (1, J x), (2, J (gl lh x)), (3, J z20), (4, JL z21), (6, JL z22)] [JL z22, .ref 137] σ)) ?_
        refine T.l2i rfl ?_
        refine T.mput (c' := c) (io' := io) (mo' := mo) (fa' := fa) (pl' := pl) (ns' := ns) (rw' := rw) (en' := en) (wy' := wy) (wh' := wh) (bi' := bi) (ed' := ed) (sz' := z22) (md' := md) (bd' := bd) (li' := li) (wk' := wk) (we' := we) hM rfl rfl rfl rfl rfl rfl (by omega) (fun s44 ms44 fs44 => ?_)
        refine T.go 2 (fun n9 => (rfl : _ = exe ξ n9 (d + 6) j_M_isUnread 94 [(0, .ref 137), (1, J x), (2, J (gl lh x)), (3, J z20), (4, JL z21), (6, JL z22)] [J 0, .ref 137] s44)) ?_
        refine T.mput (c' := c) (io' := io) (mo' := mo) (fa' := fa) (pl' := pl) (ns' := ns) (rw' := rw) (en' := en) (wy' := wy) (wh' := wh) (bi' := bi) (ed' := ed) (sz' := z22) (md' := 0) (bd' := bd) (li' := li) (wk' := wk) (we' := we) ms44 rfl rfl rfl rfl rfl rfl (by omega) (fun s45 ms45 fs45 => ?_)
        have gs45 := fs44.trans fs45
        refine T.go 2 (fun n9 => (rfl : _ = exe ξ n9 (d + 6) j_M_isUnread 99 [(0, .ref 137), (1, J x), (2, J (gl lh x)), (3, J z20), (4, JL z21), (6, JL z22)] [J z20, .ref 137] s45)) ?_
        refine T.if_ne rfl rfl (by omega) (fun c25 => ?_) (fun c25 => ?_)
        · refine T.go 1 (fun n9 => (rfl : _ = exe ξ n9 (d + 6) j_M_isUnread 115 [(0, .ref 137), (1, J x), (2, J (gl lh x)), (3, J z20), (4, JL z21), (6, JL z22)] [J 0, .ref 137] s45)) ?_
          refine T.mput (c' := c) (io' := io) (mo' := mo) (fa' := fa) (pl' := pl) (ns' := ns) (rw' := rw) (en' := en) (wy' := wy) (wh' := wh) (bi' := bi) (ed' := ed) (sz' := z22) (md' := 0) (bd' := 0) (li' := li) (wk' := wk) (we' := we) ms45 rfl rfl rfl rfl rfl rfl (by omega) (fun s46 ms46 fs46 => ?_)
          have gs46 := gs45.trans fs46
          refine T.go 3 (fun n9 => (rfl : _ = exe ξ n9 (d + 6) j_M_isUnread 122 [(0, .ref 137), (1, J x), (2, J (gl lh x)), (3, J z20), (4, JL z21), (6, JL z22)] [.ref 137, J 8, .ref 137] s46)) ?_
          refine T.get rfl rfl rfl ms46.ob rfl ?_
          refine T.go 1 (fun n9 => (rfl : _ = exe ξ n9 (d + 6) j_M_isUnread 126 [(0, .ref 137), (1, J x), (2, J (gl lh x)), (3, J z20), (4, JL z21), (6, JL z22)] [J x, .ref 143, J 8, .ref 137] s46)) ?_
          refine T.iald rfl rfl ms46.c143 (by omega) (fun z34 hzz34 hyz34 hez34 => ?_)
          have gzz34 := gl_of hez34 ⟨hzz34, hyz34⟩
          subst gzz34
          refine T.imul rfl ?_
          refine T.mput (c' := c) (io' := io) (mo' := mo) (fa' := fa) (pl' := pl) (ns' := ns) (rw' := rw) (en' := en) (wy' := wy) (wh' := wh) (bi' := 8 * (gl ld x)) (ed' := ed) (sz' := z22) (md' := 0) (bd' := 0) (li' := li) (wk' := wk) (we' := we) ms46 rfl rfl rfl rfl rfl rfl (by omega) (fun s47 ms47 fs47 => ?_)
          have gs47 := gs46.trans fs47
          refine T.go 2 (fun n9 => (rfl : _ = exe ξ n9 (d + 6) j_M_isUnread 133 [(0, .ref 137), (1, J x), (2, J (gl lh x)), (3, J z20), (4, JL z21), (6, JL z22)] [.ref 137, .ref 137] s47)) ?_
          refine T.get rfl rfl rfl ms47.ob rfl ?_
          refine T.go 2 (fun n9 => (rfl : _ = exe ξ n9 (d + 6) j_M_isUnread 140 [(0, .ref 137), (1, J x), (2, J (gl lh x)), (3, J z20), (4, JL z21), (6, JL z22)] [JL z21, J 8, J (8 * (gl ld x)), .ref 137] s47)) ?_
          refine T.l2i rfl ?_
          refine T.imul rfl ?_
          refine T.iadd rfl ?_
          refine T.mput (c' := c) (io' := io) (mo' := mo) (fa' := fa) (pl' := pl) (ns' := ns) (rw' := rw) (en' := en) (wy' := wy) (wh' := wh) (bi' := 8 * (gl ld x)) (ed' := (8 * (gl ld x)) + (8 * z21)) (sz' := z22) (md' := 0) (bd' := 0) (li' := li) (wk' := wk) (we' := we) ms47 rfl rfl rfl rfl rfl rfl (by omega) (fun s48 ms48 fs48 => ?_)
          have gs48 := gs47.trans fs48
          refine T.go 2 (fun n9 => (rfl : _ = exe ξ n9 (d + 6) j_M_isUnread 149 [(0, .ref 137), (1, J x), (2, J (gl lh x)), (3, J z20), (4, JL z21), (6, JL z22)] [J 8, J z20] s48)) ?_
          refine T.icmp_ne rfl rfl (by omega) (by omega) (fun c26 => ?_) (fun c26 => ?_)
          · refine T.go 2 (fun n9 => (rfl : _ = exe ξ n9 (d + 6) j_M_isUnread 159 [(0, .ref 137), (1, J x), (2, J (gl lh x)), (3, J z20), (4, JL z21), (6, JL z22), (8, J 0)] [] s48)) ?_
            exact loop159 _ (gl lh x) z20 z21 z22 0 (8 * (gl ld x)) ((8 * (gl ld x)) + (8 * z21)) z22 0 0 Lc lk s48 ms48 gs48 RG.refl (by omega) (by omega) (by omega) (by omega) (by omega) (by omega) (by omega) (by omega) (by omega) (by omega) (by omega) (by omega) (by omega) (by omega) (Nat.lt_succ_self _)
          · refine T.go 1 (fun n9 => (rfl : _ = exe ξ n9 (d + 6) j_M_isUnread 153 [(0, .ref 137), (1, J x), (2, J (gl lh x)), (3, J z20), (4, JL z21), (6, JL z22)] [.ref 137] s48)) ?_
            refine T.callv (as := []) (r := []) rfl rfl rfl rfl ms48.ob rfl (s_M_inflate d  s48 ms48 (by omega) (by omega) (by omega) (by omega) (by omega) (by omega) (by omega)) (fun v27 s49 hqs49 => ?_)
            obtain ⟨bi_5, md_6, bd_6, Lc_6, lk_5, rfl, ms49, fs49, pz35_0, pz35_1, pz35_2⟩ := hqs49
            have ns49 := ms49.len
            have rs49 := ms49.rg
            have gs49 := gs48.trans fs49
            have rgs49 := (RG.refl (S := [4])).trans pz35_0 (by decide)
            refine T.go 2 (fun n9 => (rfl : _ = exe ξ n9 (d + 6) j_M_isUnread 159 [(0, .ref 137), (1, J x), (2, J (gl lh x)), (3, J z20), (4, JL z21), (6, JL z22), (8, J 0)] [] s49)) ?_
            exact loop159 _ (gl lh x) z20 z21 z22 0 bi_5 ((8 * (gl ld x)) + (8 * z21)) z22 md_6 bd_6 Lc_6 lk_5 s49 ms49 gs49 rgs49 (by omega) (by omega) (by omega) (by omega) (by omega) (by omega) (by omega) (by omega) (by omega) (by omega) (by omega) (by omega) (by omega) (by omega) (Nat.lt_succ_self _)
        · refine T.go 2 (fun n9 => (rfl : _ = exe ξ n9 (d + 6) j_M_isUnread 106 [(0, .ref 137), (1, J x), (2, J (gl lh x)), (3, J z20), (4, JL z21), (6, JL z22)] [JL z22, JL z21, .ref 137] s45)) ?_
          refine T.lcmp rfl (by omega) (by omega) (fun c27 => ?_) (fun c27 => ?_) (fun c27 => ?_)
          · refine T.go 1 (fun n9 => (rfl : _ = exe ξ n9 (d + 6) j_M_isUnread 110 [(0, .ref 137), (1, J x), (2, J (gl lh x)), (3, J z20), (4, JL z21), (6, JL z22)] [.ref 137] s45)) ?_
            refine T.go 2 (fun n9 => (rfl : _ = exe ξ n9 (d + 6) j_M_isUnread 115 [(0, .ref 137), (1, J x), (2, J (gl lh x)), (3, J z20), (4, JL z21), (6, JL z22)] [J 1, .ref 137] s45)) ?_
            refine T.mput (c' := c) (io' := io) (mo' := mo) (fa' := fa) (pl' := pl) (ns' := ns) (rw' := rw) (en' := en) (wy' := wy) (wh' := wh) (bi' := bi) (ed' := ed) (sz' := z22) (md' := 0) (bd' := 1) (li' := li) (wk' := wk) (we' := we) ms45 rfl rfl rfl rfl rfl rfl (by omega) (fun s50 ms50 fs50 => ?_)
            have gs50 := gs45.trans fs50
            refine T.go 3 (fun n9 => (rfl : _ = exe ξ n9 (d + 6) j_M_isUnread 122 [(0, .ref 137), (1, J x), (2, J (gl lh x)), (3, J z20), (4, JL z21), (6, JL z22)] [.ref 137, J 8, .ref 137] s50)) ?_
            refine T.get rfl rfl rfl ms50.ob rfl ?_
            refine T.go 1 (fun n9 => (rfl : _ = exe ξ n9 (d + 6) j_M_isUnread 126 [(0, .ref 137), (1, J x), (2, J (gl lh x)), (3, J z20), (4, JL z21), (6, JL z22)] [J x, .ref 143, J 8, .ref 137] s50)) ?_
            refine T.iald rfl rfl ms50.c143 (by omega) (fun z36 hzz36 hyz36 hez36 => ?_)
            have gzz36 := gl_of hez36 ⟨hzz36, hyz36⟩
            subst gzz36
            refine T.imul rfl ?_
            refine T.mput (c' := c) (io' := io) (mo' := mo) (fa' := fa) (pl' := pl) (ns' := ns) (rw' := rw) (en' := en) (wy' := wy) (wh' := wh) (bi' := 8 * (gl ld x)) (ed' := ed) (sz' := z22) (md' := 0) (bd' := 1) (li' := li) (wk' := wk) (we' := we) ms50 rfl rfl rfl rfl rfl rfl (by omega) (fun s51 ms51 fs51 => ?_)
            have gs51 := gs50.trans fs51
            refine T.go 2 (fun n9 => (rfl : _ = exe ξ n9 (d + 6) j_M_isUnread 133 [(0, .ref 137), (1, J x), (2, J (gl lh x)), (3, J z20), (4, JL z21), (6, JL z22)] [.ref 137, .ref 137] s51)) ?_
            refine T.get rfl rfl rfl ms51.ob rfl ?_
            refine T.go 2 (fun n9 => (rfl : _ = exe ξ n9 (d + 6) j_M_isUnread 140 [(0, .ref 137), (1, J x), (2, J (gl lh x)), (3, J z20), (4, JL z21), (6, JL z22)] [JL z21, J 8, J (8 * (gl ld x)), .ref 137] s51)) ?_
            refine T.l2i rfl ?_
            refine T.imul rfl ?_
            refine T.iadd rfl ?_
            refine T.mput (c' := c) (io' := io) (mo' := mo) (fa' := fa) (pl' := pl) (ns' := ns) (rw' := rw) (en' := en) (wy' := wy) (wh' := wh) (bi' := 8 * (gl ld x)) (ed' := (8 * (gl ld x)) + (8 * z21)) (sz' := z22) (md' := 0) (bd' := 1) (li' := li) (wk' := wk) (we' := we) ms51 rfl rfl rfl rfl rfl rfl (by omega) (fun s52 ms52 fs52 => ?_)
            have gs52 := gs51.trans fs52
            refine T.go 2 (fun n9 => (rfl : _ = exe ξ n9 (d + 6) j_M_isUnread 149 [(0, .ref 137), (1, J x), (2, J (gl lh x)), (3, J z20), (4, JL z21), (6, JL z22)] [J 8, J z20] s52)) ?_
            refine T.icmp_ne rfl rfl (by omega) (by omega) (fun c28 => ?_) (fun c28 => ?_)
            · refine T.go 2 (fun n9 => (rfl : _ = exe ξ n9 (d + 6) j_M_isUnread 159 [(0, .ref 137), (1, J x), (2, J (gl lh x)), (3, J z20), (4, JL z21), (6, JL z22), (8, J 0)] [] s52)) ?_
              exact loop159 _ (gl lh x) z20 z21 z22 0 (8 * (gl ld x)) ((8 * (gl ld x)) + (8 * z21)) z22 0 1 Lc lk s52 ms52 gs52 RG.refl (by omega) (by omega) (by omega) (by omega) (by omega) (by omega) (by omega) (by omega) (by omega) (by omega) (by omega) (by omega) (by omega) (by omega) (Nat.lt_succ_self _)
            · refine T.go 1 (fun n9 => (rfl : _ = exe ξ n9 (d + 6) j_M_isUnread 153 [(0, .ref 137), (1, J x), (2, J (gl lh x)), (3, J z20), (4, JL z21), (6, JL z22)] [.ref 137] s52)) ?_
              refine T.callv (as := []) (r := []) rfl rfl rfl rfl ms52.ob rfl (s_M_inflate d  s52 ms52 (by omega) (by omega) (by omega) (by omega) (by omega) (by omega) (by omega)) (fun v28 s53 hqs53 => ?_)
              obtain ⟨bi_6, md_7, bd_7, Lc_7, lk_6, rfl, ms53, fs53, pz37_0, pz37_1, pz37_2⟩ := hqs53
              have ns53 := ms53.len
              have rs53 := ms53.rg
              have gs53 := gs52.trans fs53
              have rgs53 := (RG.refl (S := [4])).trans pz37_0 (by decide)
              refine T.go 2 (fun n9 => (rfl : _ = exe ξ n9 (d + 6) j_M_isUnread 159 [(0, .ref 137), (1, J x), (2, J (gl lh x)), (3, J z20), (4, JL z21), (6, JL z22), (8, J 0)] [] s53)) ?_
              exact loop159 _ (gl lh x) z20 z21 z22 0 bi_6 ((8 * (gl ld x)) + (8 * z21)) z22 md_7 bd_7 Lc_7 lk_6 s53 ms53 gs53 rgs53 (by omega) (by omega) (by omega) (by omega) (by omega) (by omega) (by omega) (by omega) (by omega) (by omega) (by omega) (by omega) (by omega) (by omega) (Nat.lt_succ_self _)
          · refine T.go 1 (fun n9 => (rfl : _ = exe ξ n9 (d + 6) j_M_isUnread 114 [(0, .ref 137), (1, J x), (2, J (gl lh x)), (3, J z20), (4, JL z21), (6, JL z22)] [.ref 137] s45)) ?_
            refine T.go 1 (fun n9 => (rfl : _ = exe ξ n9 (d + 6) j_M_isUnread 115 [(0, .ref 137), (1, J x), (2, J (gl lh x)), (3, J z20), (4, JL z21), (6, JL z22)] [J 0, .ref 137] s45)) ?_
            refine T.mput (c' := c) (io' := io) (mo' := mo) (fa' := fa) (pl' := pl) (ns' := ns) (rw' := rw) (en' := en) (wy' := wy) (wh' := wh) (bi' := bi) (ed' := ed) (sz' := z22) (md' := 0) (bd' := 0) (li' := li) (wk' := wk) (we' := we) ms45 rfl rfl rfl rfl rfl rfl (by omega) (fun s54 ms54 fs54 => ?_)
            have gs54 := gs45.trans fs54
            refine T.go 3 (fun n9 => (rfl : _ = exe ξ n9 (d + 6) j_M_isUnread 122 [(0, .ref 137), (1, J x), (2, J (gl lh x)), (3, J z20), (4, JL z21), (6, JL z22)] [.ref 137, J 8, .ref 137] s54)) ?_
            refine T.get rfl rfl rfl ms54.ob rfl ?_
            refine T.go 1 (fun n9 => (rfl : _ = exe ξ n9 (d + 6) j_M_isUnread 126 [(0, .ref 137), (1, J x), (2, J (gl lh x)), (3, J z20), (4, JL z21), (6, JL z22)] [J x, .ref 143, J 8, .ref 137] s54)) ?_
            refine T.iald rfl rfl ms54.c143 (by omega) (fun z38 hzz38 hyz38 hez38 => ?_)
            have gzz38 := gl_of hez38 ⟨hzz38, hyz38⟩
            subst gzz38
            refine T.imul rfl ?_
            refine T.mput (c' := c) (io' := io) (mo' := mo) (fa' := fa) (pl' := pl) (ns' := ns) (rw' := rw) (en' := en) (wy' := wy) (wh' := wh) (bi' := 8 * (gl ld x)) (ed' := ed) (sz' := z22) (md' := 0) (bd' := 0) (li' := li) (wk' := wk) (we' := we) ms54 rfl rfl rfl rfl rfl rfl (by omega) (fun s55 ms55 fs55 => ?_)
            have gs55 := gs54.trans fs55
            refine T.go 2 (fun n9 => (rfl : _ = exe ξ n9 (d + 6) j_M_isUnread 133 [(0, .ref 137), (1, J x), (2, J (gl lh x)), (3, J z20), (4, JL z21), (6, JL z22)] [.ref 137, .ref 137] s55)) ?_
            refine T.get rfl rfl rfl ms55.ob rfl ?_
            refine T.go 2 (fun n9 => (rfl : _ = exe ξ n9 (d + 6) j_M_isUnread 140 [(0, .ref 137), (1, J x), (2, J (gl lh x)), (3, J z20), (4, JL z21), (6, JL z22)] [JL z21, J 8, J (8 * (gl ld x)), .ref 137] s55)) ?_
            refine T.l2i rfl ?_
            refine T.imul rfl ?_
            refine T.iadd rfl ?_
            refine T.mput (c' := c) (io' := io) (mo' := mo) (fa' := fa) (pl' := pl) (ns' := ns) (rw' := rw) (en' := en) (wy' := wy) (wh' := wh) (bi' := 8 * (gl ld x)) (ed' := (8 * (gl ld x)) + (8 * z21)) (sz' := z22) (md' := 0) (bd' := 0) (li' := li) (wk' := wk) (we' := we) ms55 rfl rfl rfl rfl rfl rfl (by omega) (fun s56 ms56 fs56 => ?_)
            have gs56 := gs55.trans fs56
            refine T.go 2 (fun n9 => (rfl : _ = exe ξ n9 (d + 6) j_M_isUnread 149 [(0, .ref 137), (1, J x), (2, J (gl lh x)), (3, J z20), (4, JL z21), (6, JL z22)] [J 8, J z20] s56)) ?_
            refine T.icmp_ne rfl rfl (by omega) (by omega) (fun c29 => ?_) (fun c29 => ?_)
            · refine T.go 2 (fun n9 => (rfl : _ = exe ξ n9 (d + 6) j_M_isUnread 159 [(0, .ref 137), (1, J x), (2, J (gl lh x)), (3, J z20), (4, JL z21), (6, JL z22), (8, J 0)] [] s56)) ?_
              exact loop159 _ (gl lh x) z20 z21 z22 0 (8 * (gl ld x)) ((8 * (gl ld x)) + (8 * z21)) z22 0 0 Lc lk s56 ms56 gs56 RG.refl (by omega) (by omega) (by omega) (by omega) (by omega) (by omega) (by omega) (by omega) (by omega) (by omega) (by omega) (by omega) (by omega) (by omega) (Nat.lt_succ_self _)
            · refine T.go 1 (fun n9 => (rfl : _ = exe ξ n9 (d + 6) j_M_isUnread 153 [(0, .ref 137), (1, J x), (2, J (gl lh x)), (3, J z20), (4, JL z21), (6, JL z22)] [.ref 137] s56)) ?_
              refine T.callv (as := []) (r := []) rfl rfl rfl rfl ms56.ob rfl (s_M_inflate d  s56 ms56 (by omega) (by omega) (by omega) (by omega) (by omega) (by omega) (by omega)) (fun v29 s57 hqs57 => ?_)
              obtain ⟨bi_7, md_8, bd_8, Lc_8, lk_7, rfl, ms57, fs57, pz39_0, pz39_1, pz39_2⟩ := hqs57
              have ns57 := ms57.len
              have rs57 := ms57.rg
              have gs57 := gs56.trans fs57
              have rgs57 := (RG.refl (S := [4])).trans pz39_0 (by decide)
              refine T.go 2 (fun n9 => (rfl : _ = exe ξ n9 (d + 6) j_M_isUnread 159 [(0, .ref 137), (1, J x), (2, J (gl lh x)), (3, J z20), (4, JL z21), (6, JL z22), (8, J 0)] [] s57)) ?_
              exact loop159 _ (gl lh x) z20 z21 z22 0 bi_7 ((8 * (gl ld x)) + (8 * z21)) z22 md_8 bd_8 Lc_8 lk_7 s57 ms57 gs57 rgs57 (by omega) (by omega) (by omega) (by omega) (by omega) (by omega) (by omega) (by omega) (by omega) (by omega) (by omega) (by omega) (by omega) (by omega) (Nat.lt_succ_self _)
          · refine T.go 1 (fun n9 => (rfl : _ = exe ξ n9 (d + 6) j_M_isUnread 110 [(0, .ref 137), (1, J x), (2, J (gl lh x)), (3, J z20), (4, JL z21), (6, JL z22)] [.ref 137] s45)) ?_
            refine T.go 2 (fun n9 => (rfl : _ = exe ξ n9 (d + 6) j_M_isUnread 115 [(0, .ref 137), (1, J x), (2, J (gl lh x)), (3, J z20), (4, JL z21), (6, JL z22)] [J 1, .ref 137] s45)) ?_
            refine T.mput (c' := c) (io' := io) (mo' := mo) (fa' := fa) (pl' := pl) (ns' := ns) (rw' := rw) (en' := en) (wy' := wy) (wh' := wh) (bi' := bi) (ed' := ed) (sz' := z22) (md' := 0) (bd' := 1) (li' := li) (wk' := wk) (we' := we) ms45 rfl rfl rfl rfl rfl rfl (by omega) (fun s58 ms58 fs58 => ?_)
            have gs58 := gs45.trans fs58
            refine T.go 3 (fun n9 => (rfl : _ = exe ξ n9 (d + 6) j_M_isUnread 122 [(0, .ref 137), (1, J x), (2, J (gl lh x)), (3, J z20), (4, JL z21), (6, JL z22)] [.ref 137, J 8, .ref 137] s58)) ?_
            refine T.get rfl rfl rfl ms58.ob rfl ?_
            refine T.go 1 (fun n9 => (rfl : _ = exe ξ n9 (d + 6) j_M_isUnread 126 [(0, .ref 137), (1, J x), (2, J (gl lh x)), (3, J z20), (4, JL z21), (6, JL z22)] [J x, .ref 143, J 8, .ref 137] s58)) ?_
            refine T.iald rfl rfl ms58.c143 (by omega) (fun z40 hzz40 hyz40 hez40 => ?_)
            have gzz40 := gl_of hez40 ⟨hzz40, hyz40⟩
            subst gzz40
            refine T.imul rfl ?_
            refine T.mput (c' := c) (io' := io) (mo' := mo) (fa' := fa) (pl' := pl) (ns' := ns) (rw' := rw) (en' := en) (wy' := wy) (wh' := wh) (bi' := 8 * (gl ld x)) (ed' := ed) (sz' := z22) (md' := 0) (bd' := 1) (li' := li) (wk' := wk) (we' := we) ms58 rfl rfl rfl rfl rfl rfl (by omega) (fun s59 ms59 fs59 => ?_)
            have gs59 := gs58.trans fs59
            refine T.go 2 (fun n9 => (rfl : _ = exe ξ n9 (d + 6) j_M_isUnread 133 [(0, .ref 137), (1, J x), (2, J (gl lh x)), (3, J z20), (4, JL z21), (6, JL z22)] [.ref 137, .ref 137] s59)) ?_
            refine T.get rfl rfl rfl ms59.ob rfl ?_
            refine T.go 2 (fun n9 => (rfl : _ = exe ξ n9 (d + 6) j_M_isUnread 140 [(0, .ref 137), (1, J x), (2, J (gl lh x)), (3, J z20), (4, JL z21), (6, JL z22)] [JL z21, J 8, J (8 * (gl ld x)), .ref 137] s59)) ?_
            refine T.l2i rfl ?_
            refine T.imul rfl ?_
            refine T.iadd rfl ?_
            refine T.mput (c' := c) (io' := io) (mo' := mo) (fa' := fa) (pl' := pl) (ns' := ns) (rw' := rw) (en' := en) (wy' := wy) (wh' := wh) (bi' := 8 * (gl ld x)) (ed' := (8 * (gl ld x)) + (8 * z21)) (sz' := z22) (md' := 0) (bd' := 1) (li' := li) (wk' := wk) (we' := we) ms59 rfl rfl rfl rfl rfl rfl (by omega) (fun s60 ms60 fs60 => ?_)
            have gs60 := gs59.trans fs60
            refine T.go 2 (fun n9 => (rfl : _ = exe ξ n9 (d + 6) j_M_isUnread 149 [(0, .ref 137), (1, J x), (2, J (gl lh x)), (3, J z20), (4, JL z21), (6, JL z22)] [J 8, J z20] s60)) ?_
            refine T.icmp_ne rfl rfl (by omega) (by omega) (fun c30 => ?_) (fun c30 => ?_)
            · refine T.go 2 (fun n9 => (rfl : _ = exe ξ n9 (d + 6) j_M_isUnread 159 [(0, .ref 137), (1, J x), (2, J (gl lh x)), (3, J z20), (4, JL z21), (6, JL z22), (8, J 0)] [] s60)) ?_
              exact loop159 _ (gl lh x) z20 z21 z22 0 (8 * (gl ld x)) ((8 * (gl ld x)) + (8 * z21)) z22 0 1 Lc lk s60 ms60 gs60 RG.refl (by omega) (by omega) (by omega) (by omega) (by omega) (by omega) (by omega) (by omega) (by omega) (by omega) (by omega) (by omega) (by omega) (by omega) (Nat.lt_succ_self _)
            · refine T.go 1 (fun n9 => (rfl : _ = exe ξ n9 (d + 6) j_M_isUnread 153 [(0, .ref 137), (1, J x), (2, J (gl lh x)), (3, J z20), (4, JL z21), (6, JL z22)] [.ref 137] s60)) ?_
              refine T.callv (as := []) (r := []) rfl rfl rfl rfl ms60.ob rfl (s_M_inflate d  s60 ms60 (by omega) (by omega) (by omega) (by omega) (by omega) (by omega) (by omega)) (fun v30 s61 hqs61 => ?_)
              obtain ⟨bi_8, md_9, bd_9, Lc_9, lk_8, rfl, ms61, fs61, pz41_0, pz41_1, pz41_2⟩ := hqs61
              have ns61 := ms61.len
              have rs61 := ms61.rg
              have gs61 := gs60.trans fs61
              have rgs61 := (RG.refl (S := [4])).trans pz41_0 (by decide)
              refine T.go 2 (fun n9 => (rfl : _ = exe ξ n9 (d + 6) j_M_isUnread 159 [(0, .ref 137), (1, J x), (2, J (gl lh x)), (3, J z20), (4, JL z21), (6, JL z22), (8, J 0)] [] s61)) ?_
              exact loop159 _ (gl lh x) z20 z21 z22 0 bi_8 ((8 * (gl ld x)) + (8 * z21)) z22 md_9 bd_9 Lc_9 lk_8 s61 ms61 gs61 rgs61 (by omega) (by omega) (by omega) (by omega) (by omega) (by omega) (by omega) (by omega) (by omega) (by omega) (by omega) (by omega) (by omega) (by omega) (Nat.lt_succ_self _)
      · refine T.go 1 (fun n9 => (rfl : _ = exe ξ n9 (d + 6) j_M_isUnread 77 [(0, .ref 137), (1, J x), (2, J (gl lh x)), (3, J z20), (4, JL z21), (6, JL z22)] [] σ)) ?_
        refine T.go 3 (fun n9 => (rfl : _ = exe ξ n9 (d + 6) j_M_isUnread 81 [(0, .ref 137), (1, J x), (2, J (gl lh x)), (3, J z20), (4, JL z21), (6, JL z22)] [J x, J 7, .ref 137] σ)) ?_
        refine T.callv (as := [J 7, J x]) (r := []) rfl rfl rfl rfl hM.ob rfl (s_M_isWrong (d + 5) 7 x σ hM (by omega) (by omega)) (fun v31 s62 hqs62 => ?_)
        obtain ⟨z42, wy_11, wh_11, rfl, ms62, fs62, hzz42, hyz42⟩ := hqs62
        have ns62 := ms62.len
        have rs62 := ms62.rg
        exact T.iretz rfl rfl (by omega) ⟨_, wy_11, wh_11, bi, ed, sz, md, bd, Lc, la, lk, rfl, ms62, fs62, by omega, by omega, RG.refl, LG.refl⟩
    · refine T.go 2 (fun n9 => (rfl : _ = exe ξ n9 (d + 6) j_M_isUnread 57 [(0, .ref 137), (1, J x), (2, J (gl lh x)), (3, J z20), (4, JL z21), (6, JL z22)] [J 8, J z20] σ)) ?_
      refine T.icmp_eq rfl rfl (by omega) (by omega) (fun c31 => ?_) (fun c31 => ?_)
      · refine T.go 1 (fun n9 => (rfl : _ = exe ξ n9 (d + 6) j_M_isUnread 70 [(0, .ref 137), (1, J x), (2, J (gl lh x)), (3, J z20), (4, JL z21), (6, JL z22)] [JL z22] σ)) ?_
        refine T.go 1 (fun n9 => (rfl : _ = exe ξ n9 (d + 6) j_M_isUnread 73 [(0, .ref 137), (1, J x), (2, J (gl lh x)), (3, J z20), (4, JL z21), (6, JL z22)] [JL 8000, JL z22] σ)) ?_
        refine T.lcmp rfl (by omega) (by omega) (fun c32 => ?_) (fun c32 => ?_) (fun c32 => ?_)
        · refine T.go 1 (fun n9 => (rfl : _ = exe ξ n9 (d + 6) j_M_isUnread 85 [(0, .ref 137), (1, J x), (2, J (gl lh x)), (3, J z20), (4, JL z21), (6, JL z22)] [] σ)) ?_
          refine T.go 2 (fun n9 => (rfl : _ = exe ξ n9 (d + 6) j_M_isUnread 88 [(0, .ref 137), (1, J x), (2, J (gl lh x)), (3, J z20), (4, JL z21), (6, JL z22)] [JL z22, .ref 137] σ)) ?_
          refine T.l2i rfl ?_
          refine T.mput (c' := c) (io' := io) (mo' := mo) (fa' := fa) (pl' := pl) (ns' := ns) (rw' := rw) (en' := en) (wy' := wy) (wh' := wh) (bi' := bi) (ed' := ed) (sz' := z22) (md' := md) (bd' := bd) (li' := li) (wk' := wk) (we' := we) hM rfl rfl rfl rfl rfl rfl (by omega) (fun s63 ms63 fs63 => ?_)
          refine T.go 2 (fun n9 => (rfl : _ = exe ξ n9 (d + 6) j_M_isUnread 94 [(0, .ref 137), (1, J x), (2, J (gl lh x)), (3, J z20), (4, JL z21), (6, JL z22)] [J 0, .ref 137] s63)) ?_
          refine T.mput (c' := c) (io' := io) (mo' := mo) (fa' := fa) (pl' := pl) (ns' := ns) (rw' := rw) (en' := en) (wy' := wy) (wh' := wh) (bi' := bi) (ed' := ed) (sz' := z22) (md' := 0) (bd' := bd) (li' := li) (wk' := wk) (we' := we) ms63 rfl rfl rfl rfl rfl rfl (by omega) (fun s64 ms64 fs64 => ?_)
          have gs64 := fs63.trans fs64
          refine T.go 2 (fun n9 => (rfl : _ = exe ξ n9 (d + 6) j_M_isUnread 99 [(0, .ref 137), (1, J x), (2, J (gl lh x)), (3, J z20), (4, JL z21), (6, JL z22)] [J z20, .ref 137] s64)) ?_
          refine T.if_ne rfl rfl (by omega) (fun c33 => ?_) (fun c33 => ?_)
          · refine T.go 1 (fun n9 => (rfl : _ = exe ξ n9 (d + 6) j_M_isUnread 115 [(0, .ref 137), (1, J x), (2, J (gl lh x)), (3, J z20), (4, JL z21), (6, JL z22)] [J 0, .ref 137] s64)) ?_
            refine T.mput (c' := c) (io' := io) (mo' := mo) (fa' := fa) (pl' := pl) (ns' := ns) (rw' := rw) (en' := en) (wy' := wy) (wh' := wh) (bi' := bi) (ed' := ed) (sz' := z22) (md' := 0) (bd' := 0) (li' := li) (wk' := wk) (we' := we) ms64 rfl rfl rfl rfl rfl rfl (by omega) (fun s65 ms65 fs65 => ?_)
            have gs65 := gs64.trans fs65
            refine T.go 3 (fun n9 => (rfl : _ = exe ξ n9 (d + 6) j_M_isUnread 122 [(0, .ref 137), (1, J x), (2, J (gl lh x)), (3, J z20), (4, JL z21), (6, JL z22)] [.ref 137, J 8, .ref 137] s65)) ?_
            refine T.get rfl rfl rfl ms65.ob rfl ?_
            refine T.go 1 (fun n9 => (rfl : _ = exe ξ n9 (d + 6) j_M_isUnread 126 [(0, .ref 137), (1, J x), (2, J (gl lh x)), (3, J z20), (4, JL z21), (6, JL z22)] [J x, .ref 143, J 8, .ref 137] s65)) ?_
            refine T.iald rfl rfl ms65.c143 (by omega) (fun z43 hzz43 hyz43 hez43 => ?_)
            have gzz43 := gl_of hez43 ⟨hzz43, hyz43⟩
            subst gzz43
            refine T.imul rfl ?_
            refine T.mput (c' := c) (io' := io) (mo' := mo) (fa' := fa) (pl' := pl) (ns' := ns) (rw' := rw) (en' := en) (wy' := wy) (wh' := wh) (bi' := 8 * (gl ld x)) (ed' := ed) (sz' := z22) (md' := 0) (bd' := 0) (li' := li) (wk' := wk) (we' := we) ms65 rfl rfl rfl rfl rfl rfl (by omega) (fun s66 ms66 fs66 => ?_)
            have gs66 := gs65.trans fs66
            refine T.go 2 (fun n9 => (rfl : _ = exe ξ n9 (d + 6) j_M_isUnread 133 [(0, .ref 137), (1, J x), (2, J (gl lh x)), (3, J z20), (4, JL z21), (6, JL z22)] [.ref 137, .ref 137] s66)) ?_
            refine T.get rfl rfl rfl ms66.ob rfl ?_
            refine T.go 2 (fun n9 => (rfl : _ = exe ξ n9 (d + 6) j_M_isUnread 140 [(0, .ref 137), (1, J x), (2, J (gl lh x)), (3, J z20), (4, JL z21), (6, JL z22)] [JL z21, J 8, J (8 * (gl ld x)), .ref 137] s66)) ?_
            refine T.l2i rfl ?_
            refine T.imul rfl ?_
            refine T.iadd rfl ?_
            refine T.mput (c' := c) (io' := io) (mo' := mo) (fa' := fa) (pl' := pl) (ns' := ns) (rw' := rw) (en' := en) (wy' := wy) (wh' := wh) (bi' := 8 * (gl ld x)) (ed' := (8 * (gl ld x)) + (8 * z21)) (sz' := z22) (md' := 0) (bd' := 0) (li' := li) (wk' := wk) (we' := we) ms66 rfl rfl rfl rfl rfl rfl (by omega) (fun s67 ms67 fs67 => ?_)
            have gs67 := gs66.trans fs67
            refine T.go 2 (fun n9 => (rfl : _ = exe ξ n9 (d + 6) j_M_isUnread 149 [(0, .ref 137), (1, J x), (2, J (gl lh x)), (3, J z20), (4, JL z21), (6, JL z22)] [J 8, J z20] s67)) ?_
            refine T.icmp_ne rfl rfl (by omega) (by omega) (fun c34 => ?_) (fun c34 => ?_)
            · refine T.go 2 (fun n9 => (rfl : _ = exe ξ n9 (d + 6) j_M_isUnread 159 [(0, .ref 137), (1, J x), (2, J (gl lh x)), (3, J z20), (4, JL z21), (6, JL z22), (8, J 0)] [] s67)) ?_
              exact loop159 _ (gl lh x) z20 z21 z22 0 (8 * (gl ld x)) ((8 * (gl ld x)) + (8 * z21)) z22 0 0 Lc lk s67 ms67 gs67 RG.refl (by omega) (by omega) (by omega) (by omega) (by omega) (by omega) (by omega) (by omega) (by omega) (by omega) (by omega) (by omega) (by omega) (by omega) (Nat.lt_succ_self _)
            · refine T.go 1 (fun n9 => (rfl : _ = exe ξ n9 (d + 6) j_M_isUnread 153 [(0, .ref 137), (1, J x), (2, J (gl lh x)), (3, J z20), (4, JL z21), (6, JL z22)] [.ref 137] s67)) ?_
              refine T.callv (as := []) (r := []) rfl rfl rfl rfl ms67.ob rfl (s_M_inflate d  s67 ms67 (by omega) (by omega) (by omega) (by omega) (by omega) (by omega) (by omega)) (fun v32 s68 hqs68 => ?_)
              obtain ⟨bi_9, md_10, bd_10, Lc_10, lk_9, rfl, ms68, fs68, pz44_0, pz44_1, pz44_2⟩ := hqs68
              have ns68 := ms68.len
              have rs68 := ms68.rg
              have gs68 := gs67.trans fs68
              have rgs68 := (RG.refl (S := [4])).trans pz44_0 (by decide)
              refine T.go 2 (fun n9 => (rfl : _ = exe ξ n9 (d + 6) j_M_isUnread 159 [(0, .ref 137), (1, J x), (2, J (gl lh x)), (3, J z20), (4, JL z21), (6, JL z22), (8, J 0)] [] s68)) ?_
              exact loop159 _ (gl lh x) z20 z21 z22 0 bi_9 ((8 * (gl ld x)) + (8 * z21)) z22 md_10 bd_10 Lc_10 lk_9 s68 ms68 gs68 rgs68 (by omega) (by omega) (by omega) (by omega) (by omega) (by omega) (by omega) (by omega) (by omega) (by omega) (by omega) (by omega) (by omega) (by omega) (Nat.lt_succ_self _)
          · refine T.go 2 (fun n9 => (rfl : _ = exe ξ n9 (d + 6) j_M_isUnread 106 [(0, .ref 137), (1, J x), (2, J (gl lh x)), (3, J z20), (4, JL z21), (6, JL z22)] [JL z22, JL z21, .ref 137] s64)) ?_
            refine T.lcmp rfl (by omega) (by omega) (fun c35 => ?_) (fun c35 => ?_) (fun c35 => ?_)
            · refine T.go 1 (fun n9 => (rfl : _ = exe ξ n9 (d + 6) j_M_isUnread 110 [(0, .ref 137), (1, J x), (2, J (gl lh x)), (3, J z20), (4, JL z21), (6, JL z22)] [.ref 137] s64)) ?_
              refine T.go 2 (fun n9 => (rfl : _ = exe ξ n9 (d + 6) j_M_isUnread 115 [(0, .ref 137), (1, J x), (2, J (gl lh x)), (3, J z20), (4, JL z21), (6, JL z22)] [J 1, .ref 137] s64)) ?_
              refine T.mput (c' := c) (io' := io) (mo' := mo) (fa' := fa) (pl' := pl) (ns' := ns) (rw' := rw) (en' := en) (wy' := wy) (wh' := wh) (bi' := bi) (ed' := ed) (sz' := z22) (md' := 0) (bd' := 1) (li' := li) (wk' := wk) (we' := we) ms64 rfl rfl rfl rfl rfl rfl (by omega) (fun s69 ms69 fs69 => ?_)
              have gs69 := gs64.trans fs69
              refine T.go 3 (fun n9 => (rfl : _ = exe ξ n9 (d + 6) j_M_isUnread 122 [(0, .ref 137), (1, J x), (2, J (gl lh x)), (3, J z20), (4, JL z21), (6, JL z22)] [.ref 137, J 8, .ref 137] s69)) ?_
              refine T.get rfl rfl rfl ms69.ob rfl ?_
              refine T.go 1 (fun n9 => (rfl : _ = exe ξ n9 (d + 6) j_M_isUnread 126 [(0, .ref 137), (1, J x), (2, J (gl lh x)), (3, J z20), (4, JL z21), (6, JL z22)] [J x, .ref 143, J 8, .ref 137] s69)) ?_
              refine T.iald rfl rfl ms69.c143 (by omega) (fun z45 hzz45 hyz45 hez45 => ?_)
              have gzz45 := gl_of hez45 ⟨hzz45, hyz45⟩
              subst gzz45
              refine T.imul rfl ?_
              refine T.mput (c' := c) (io' := io) (mo' := mo) (fa' := fa) (pl' := pl) (ns' := ns) (rw' := rw) (en' := en) (wy' := wy) (wh' := wh) (bi' := 8 * (gl ld x)) (ed' := ed) (sz' := z22) (md' := 0) (bd' := 1) (li' := li) (wk' := wk) (we' := we) ms69 rfl rfl rfl rfl rfl rfl (by omega) (fun s70 ms70 fs70 => ?_)
              have gs70 := gs69.trans fs70
              refine T.go 2 (fun n9 => (rfl : _ = exe ξ n9 (d + 6) j_M_isUnread 133 [(0, .ref 137), (1, J x), (2, J (gl lh x)), (3, J z20), (4, JL z21), (6, JL z22)] [.ref 137, .ref 137] s70)) ?_
              refine T.get rfl rfl rfl ms70.ob rfl ?_
              refine T.go 2 (fun n9 => (rfl : _ = exe ξ n9 (d + 6) j_M_isUnread 140 [(0, .ref 137), (1, J x), (2, J (gl lh x)), (3, J z20), (4, JL z21), (6, JL z22)] [JL z21, J 8, J (8 * (gl ld x)), .ref 137] s70)) ?_
              refine T.l2i rfl ?_
              refine T.imul rfl ?_
              refine T.iadd rfl ?_
              refine T.mput (c' := c) (io' := io) (mo' := mo) (fa' := fa) (pl' := pl) (ns' := ns) (rw' := rw) (en' := en) (wy' := wy) (wh' := wh) (bi' := 8 * (gl ld x)) (ed' := (8 * (gl ld x)) + (8 * z21)) (sz' := z22) (md' := 0) (bd' := 1) (li' := li) (wk' := wk) (we' := we) ms70 rfl rfl rfl rfl rfl rfl (by omega) (fun s71 ms71 fs71 => ?_)
              have gs71 := gs70.trans fs71
              refine T.go 2 (fun n9 => (rfl : _ = exe ξ n9 (d + 6) j_M_isUnread 149 [(0, .ref 137), (1, J x), (2, J (gl lh x)), (3, J z20), (4, JL z21), (6, JL z22)] [J 8, J z20] s71)) ?_
              refine T.icmp_ne rfl rfl (by omega) (by omega) (fun c36 => ?_) (fun c36 => ?_)
              · refine T.go 2 (fun n9 => (rfl : _ = exe ξ n9 (d + 6) j_M_isUnread 159 [(0, .ref 137), (1, J x), (2, J (gl lh x)), (3, J z20), (4, JL z21), (6, JL z22), (8, J 0)] [] s71)) ?_
                exact loop159 _ (gl lh x) z20 z21 z22 0 (8 * (gl ld x)) ((8 * (gl ld x)) + (8 * z21)) z22 0 1 Lc lk s71 ms71 gs71 RG.refl (by omega) (by omega) (by omega) (by omega) (by omega) (by omega) (by omega) (by omega) (by omega) (by omega) (by omega) (by omega) (by omega) (by omega) (Nat.lt_succ_self _)
              · refine T.go 1 (fun n9 => (rfl : _ = exe ξ n9 (d + 6) j_M_isUnread 153 [(0, .ref 137), (1, J x), (2, J (gl lh x)), (3, J z20), (4, JL z21), (6, JL z22)] [.ref 137] s71)) ?_
                refine T.callv (as := []) (r := []) rfl rfl rfl rfl ms71.ob rfl (s_M_inflate d  s71 ms71 (by omega) (by omega) (by omega) (by omega) (by omega) (by omega) (by omega)) (fun v33 s72 hqs72 => ?_)
                obtain ⟨bi_10, md_11, bd_11, Lc_11, lk_10, rfl, ms72, fs72, pz46_0, pz46_1, pz46_2⟩ := hqs72
                have ns72 := ms72.len
                have rs72 := ms72.rg
                have gs72 := gs71.trans fs72
                have rgs72 := (RG.refl (S := [4])).trans pz46_0 (by decide)
                refine T.go 2 (fun n9 => (rfl : _ = exe ξ n9 (d + 6) j_M_isUnread 159 [(0, .ref 137), (1, J x), (2, J (gl lh x)), (3, J z20), (4, JL z21), (6, JL z22), (8, J 0)] [] s72)) ?_
                exact loop159 _ (gl lh x) z20 z21 z22 0 bi_10 ((8 * (gl ld x)) + (8 * z21)) z22 md_11 bd_11 Lc_11 lk_10 s72 ms72 gs72 rgs72 (by omega) (by omega) (by omega) (by omega) (by omega) (by omega) (by omega) (by omega) (by omega) (by omega) (by omega) (by omega) (by omega) (by omega) (Nat.lt_succ_self _)
            · refine T.go 1 (fun n9 => (rfl : _ = exe ξ n9 (d + 6) j_M_isUnread 114 [(0, .ref 137), (1, J x), (2, J (gl lh x)), (3, J z20), (4, JL z21), (6, JL z22)] [.ref 137] s64)) ?_
              refine T.go 1 (fun n9 => (rfl : _ = exe ξ n9 (d + 6) j_M_isUnread 115 [(0, .ref 137), (1, J x), (2, J (gl lh x)), (3, J z20), (4, JL z21), (6, JL z22)] [J 0, .ref 137] s64)) ?_
              refine T.mput (c' := c) (io' := io) (mo' := mo) (fa' := fa) (pl' := pl) (ns' := ns) (rw' := rw) (en' := en) (wy' := wy) (wh' := wh) (bi' := bi) (ed' := ed) (sz' := z22) (md' := 0) (bd' := 0) (li' := li) (wk' := wk) (we' := we) ms64 rfl rfl rfl rfl rfl rfl (by omega) (fun s73 ms73 fs73 => ?_)
              have gs73 := gs64.trans fs73
              refine T.go 3 (fun n9 => (rfl : _ = exe ξ n9 (d + 6) j_M_isUnread 122 [(0, .ref 137), (1, J x), (2, J (gl lh x)), (3, J z20), (4, JL z21), (6, JL z22)] [.ref 137, J 8, .ref 137] s73)) ?_
              refine T.get rfl rfl rfl ms73.ob rfl ?_
              refine T.go 1 (fun n9 => (rfl : _ = exe ξ n9 (d + 6) j_M_isUnread 126 [(0, .ref 137), (1, J x), (2, J (gl lh x)), (3, J z20), (4, JL z21), (6, JL z22)] [J x, .ref 143, J 8, .ref 137] s73)) ?_
              refine T.iald rfl rfl ms73.c143 (by omega) (fun z47 hzz47 hyz47 hez47 => ?_)
              have gzz47 := gl_of hez47 ⟨hzz47, hyz47⟩
              subst gzz47
              refine T.imul rfl ?_
              refine T.mput (c' := c) (io' := io) (mo' := mo) (fa' := fa) (pl' := pl) (ns' := ns) (rw' := rw) (en' := en) (wy' := wy) (wh' := wh) (bi' := 8 * (gl ld x)) (ed' := ed) (sz' := z22) (md' := 0) (bd' := 0) (li' := li) (wk' := wk) (we' := we) ms73 rfl rfl rfl rfl rfl rfl (by omega) (fun s74 ms74 fs74 => ?_)
              have gs74 := gs73.trans fs74
              refine T.go 2 (fun n9 => (rfl : _ = exe ξ n9 (d + 6) j_M_isUnread 133 [(0, .ref 137), (1, J x), (2, J (gl lh x)), (3, J z20), (4, JL z21), (6, JL z22)] [.ref 137, .ref 137] s74)) ?_
              refine T.get rfl rfl rfl ms74.ob rfl ?_
              refine T.go 2 (fun n9 => (rfl : _ = exe ξ n9 (d + 6) j_M_isUnread 140 [(0, .ref 137), (1, J x), (2, J (gl lh x)), (3, J z20), (4, JL z21), (6, JL z22)] [JL z21, J 8, J (8 * (gl ld x)), .ref 137] s74)) ?_
              refine T.l2i rfl ?_
              refine T.imul rfl ?_
              refine T.iadd rfl ?_
              refine T.mput (c' := c) (io' := io) (mo' := mo) (fa' := fa) (pl' := pl) (ns' := ns) (rw' := rw) (en' := en) (wy' := wy) (wh' := wh) (bi' := 8 * (gl ld x)) (ed' := (8 * (gl ld x)) + (8 * z21)) (sz' := z22) (md' := 0) (bd' := 0) (li' := li) (wk' := wk) (we' := we) ms74 rfl rfl rfl rfl rfl rfl (by omega) (fun s75 ms75 fs75 => ?_)
              have gs75 := gs74.trans fs75
              refine T.go 2 (fun n9 => (rfl : _ = exe ξ n9 (d + 6) j_M_isUnread 149 [(0, .ref 137), (1, J x), (2, J (gl lh x)), (3, J z20), (4, JL z21), (6, JL z22)] [J 8, J z20] s75)) ?_
              refine T.icmp_ne rfl rfl (by omega) (by omega) (fun c37 => ?_) (fun c37 => ?_)
              · refine T.go 2 (fun n9 => (rfl : _ = exe ξ n9 (d + 6) j_M_isUnread 159 [(0, .ref 137), (1, J x), (2, J (gl lh x)), (3, J z20), (4, JL z21), (6, JL z22), (8, J 0)] [] s75)) ?_
                exact loop159 _ (gl lh x) z20 z21 z22 0 (8 * (gl ld x)) ((8 * (gl ld x)) + (8 * z21)) z22 0 0 Lc lk s75 ms75 gs75 RG.refl (by omega) (by omega) (by omega) (by omega) (by omega) (by omega) (by omega) (by omega) (by omega) (by omega) (by omega) (by omega) (by omega) (by omega) (Nat.lt_succ_self _)
              · refine T.go 1 (fun n9 => (rfl : _ = exe ξ n9 (d + 6) j_M_isUnread 153 [(0, .ref 137), (1, J x), (2, J (gl lh x)), (3, J z20), (4, JL z21), (6, JL z22)] [.ref 137] s75)) ?_
                refine T.callv (as := []) (r := []) rfl rfl rfl rfl ms75.ob rfl (s_M_inflate d  s75 ms75 (by omega) (by omega) (by omega) (by omega) (by omega) (by omega) (by omega)) (fun v34 s76 hqs76 => ?_)
                obtain ⟨bi_11, md_12, bd_12, Lc_12, lk_11, rfl, ms76, fs76, pz48_0, pz48_1, pz48_2⟩ := hqs76
                have ns76 := ms76.len
                have rs76 := ms76.rg
                have gs76 := gs75.trans fs76
                have rgs76 := (RG.refl (S := [4])).trans pz48_0 (by decide)
                refine T.go 2 (fun n9 => (rfl : _ = exe ξ n9 (d + 6) j_M_isUnread 159 [(0, .ref 137), (1, J x), (2, J (gl lh x)), (3, J z20), (4, JL z21), (6, JL z22), (8, J 0)] [] s76)) ?_
                exact loop159 _ (gl lh x) z20 z21 z22 0 bi_11 ((8 * (gl ld x)) + (8 * z21)) z22 md_12 bd_12 Lc_12 lk_11 s76 ms76 gs76 rgs76 (by omega) (by omega) (by omega) (by omega) (by omega) (by omega) (by omega) (by omega) (by omega) (by omega) (by omega) (by omega) (by omega) (by omega) (Nat.lt_succ_self _)
            · refine T.go 1 (fun n9 => (rfl : _ = exe ξ n9 (d + 6) j_M_isUnread 110 [(0, .ref 137), (1, J x), (2, J (gl lh x)), (3, J z20), (4, JL z21), (6, JL z22)] [.ref 137] s64)) ?_
              refine T.go 2 (fun n9 => (rfl : _ = exe ξ n9 (d + 6) j_M_isUnread 115 [(0, .ref 137), (1, J x), (2, J (gl lh x)), (3, J z20), (4, JL z21), (6, JL z22)] [J 1, .ref 137] s64)) ?_
              refine T.mput (c' := c) (io' := io) (mo' := mo) (fa' := fa) (pl' := pl) (ns' := ns) (rw' := rw) (en' := en) (wy' := wy) (wh' := wh) (bi' := bi) (ed' := ed) (sz' := z22) (md' := 0) (bd' := 1) (li' := li) (wk' := wk) (we' := we) ms64 rfl rfl rfl rfl rfl rfl (by omega) (fun s77 ms77 fs77 => ?_)
              have gs77 := gs64.trans fs77
              refine T.go 3 (fun n9 => (rfl : _ = exe ξ n9 (d + 6) j_M_isUnread 122 [(0, .ref 137), (1, J x), (2, J (gl lh x)), (3, J z20), (4, JL z21), (6, JL z22)] [.ref 137, J 8, .ref 137] s77)) ?_
              refine T.get rfl rfl rfl ms77.ob rfl ?_
              refine T.go 1 (fun n9 => (rfl : _ = exe ξ n9 (d + 6) j_M_isUnread 126 [(0, .ref 137), (1, J x), (2, J (gl lh x)), (3, J z20), (4, JL z21), (6, JL z22)] [J x, .ref 143, J 8, .ref 137] s77)) ?_
              refine T.iald rfl rfl ms77.c143 (by omega) (fun z49 hzz49 hyz49 hez49 => ?_)
              have gzz49 := gl_of hez49 ⟨hzz49, hyz49⟩
              subst gzz49
              refine T.imul rfl ?_
              refine T.mput (c' := c) (io' := io) (mo' := mo) (fa' := fa) (pl' := pl) (ns' := ns) (rw' := rw) (en' := en) (wy' := wy) (wh' := wh) (bi' := 8 * (gl ld x)) (ed' := ed) (sz' := z22) (md' := 0) (bd' := 1) (li' := li) (wk' := wk) (we' := we) ms77 rfl rfl rfl rfl rfl rfl (by omega) (fun s78 ms78 fs78 => ?_)
              have gs78 := gs77.trans fs78
              refine T.go 2 (fun n9 => (rfl : _ = exe ξ n9 (d + 6) j_M_isUnread 133 [(0, .ref 137), (1, J x), (2, J (gl lh x)), (3, J z20), (4, JL z21), (6, JL z22)] [.ref 137, .ref 137] s78)) ?_
              refine T.get rfl rfl rfl ms78.ob rfl ?_
              refine T.go 2 (fun n9 => (rfl : _ = exe ξ n9 (d + 6) j_M_isUnread 140 [(0, .ref 137), (1, J x), (2, J (gl lh x)), (3, J z20), (4, JL z21), (6, JL z22)] [JL z21, J 8, J (8 * (gl ld x)), .ref 137] s78)) ?_
              refine T.l2i rfl ?_
              refine T.imul rfl ?_
              refine T.iadd rfl ?_
              refine T.mput (c' := c) (io' := io) (mo' := mo) (fa' := fa) (pl' := pl) (ns' := ns) (rw' := rw) (en' := en) (wy' := wy) (wh' := wh) (bi' := 8 * (gl ld x)) (ed' := (8 * (gl ld x)) + (8 * z21)) (sz' := z22) (md' := 0) (bd' := 1) (li' := li) (wk' := wk) (we' := we) ms78 rfl rfl rfl rfl rfl rfl (by omega) (fun s79 ms79 fs79 => ?_)
              have gs79 := gs78.trans fs79
              refine T.go 2 (fun n9 => (rfl : _ = exe ξ n9 (d + 6) j_M_isUnread 149 [(0, .ref 137), (1, J x), (2, J (gl lh x)), (3, J z20), (4, JL z21), (6, JL z22)] [J 8, J z20] s79)) ?_
              refine T.icmp_ne rfl rfl (by omega) (by omega) (fun c38 => ?_) (fun c38 => ?_)
              · refine T.go 2 (fun n9 => (rfl : _ = exe ξ n9 (d + 6) j_M_isUnread 159 [(0, .ref 137), (1, J x), (2, J (gl lh x)), (3, J z20), (4, JL z21), (6, JL z22), (8, J 0)] [] s79)) ?_
                exact loop159 _ (gl lh x) z20 z21 z22 0 (8 * (gl ld x)) ((8 * (gl ld x)) + (8 * z21)) z22 0 1 Lc lk s79 ms79 gs79 RG.refl (by omega) (by omega) (by omega) (by omega) (by omega) (by omega) (by omega) (by omega) (by omega) (by omega) (by omega) (by omega) (by omega) (by omega) (Nat.lt_succ_self _)
              · refine T.go 1 (fun n9 => (rfl : _ = exe ξ n9 (d + 6) j_M_isUnread 153 [(0, .ref 137), (1, J x), (2, J (gl lh x)), (3, J z20), (4, JL z21), (6, JL z22)] [.ref 137] s79)) ?_
                refine T.callv (as := []) (r := []) rfl rfl rfl rfl ms79.ob rfl (s_M_inflate d  s79 ms79 (by omega) (by omega) (by omega) (by omega) (by omega) (by omega) (by omega)) (fun v35 s80 hqs80 => ?_)
                obtain ⟨bi_12, md_13, bd_13, Lc_13, lk_12, rfl, ms80, fs80, pz50_0, pz50_1, pz50_2⟩ := hqs80
                have ns80 := ms80.len
                have rs80 := ms80.rg
                have gs80 := gs79.trans fs80
                have rgs80 := (RG.refl (S := [4])).trans pz50_0 (by decide)
                refine T.go 2 (fun n9 => (rfl : _ = exe ξ n9 (d + 6) j_M_isUnread 159 [(0, .ref 137), (1, J x), (2, J (gl lh x)), (3, J z20), (4, JL z21), (6, JL z22), (8, J 0)] [] s80)) ?_
                exact loop159 _ (gl lh x) z20 z21 z22 0 bi_12 ((8 * (gl ld x)) + (8 * z21)) z22 md_13 bd_13 Lc_13 lk_12 s80 ms80 gs80 rgs80 (by omega) (by omega) (by omega) (by omega) (by omega) (by omega) (by omega) (by omega) (by omega) (by omega) (by omega) (by omega) (by omega) (by omega) (Nat.lt_succ_self _)
        · refine T.go 1 (fun n9 => (rfl : _ = exe ξ n9 (d + 6) j_M_isUnread 85 [(0, .ref 137), (1, J x), (2, J (gl lh x)), (3, J z20), (4, JL z21), (6, JL z22)] [] σ)) ?_
          refine T.go 2 (fun n9 => (rfl : _ = exe ξ n9 (d + 6) j_M_isUnread 88 [(0, .ref 137), (1, J x), (2, J (gl lh x)), (3, J z20), (4, JL z21), (6, JL z22)] [JL z22, .ref 137] σ)) ?_
          refine T.l2i rfl ?_
          refine T.mput (c' := c) (io' := io) (mo' := mo) (fa' := fa) (pl' := pl) (ns' := ns) (rw' := rw) (en' := en) (wy' := wy) (wh' := wh) (bi' := bi) (ed' := ed) (sz' := z22) (md' := md) (bd' := bd) (li' := li) (wk' := wk) (we' := we) hM rfl rfl rfl rfl rfl rfl (by omega) (fun s81 ms81 fs81 => ?_)
          refine T.go 2 (fun n9 => (rfl : _ = exe ξ n9 (d + 6) j_M_isUnread 94 [(0, .ref 137), (1, J x), (2, J (gl lh x)), (3, J z20), (4, JL z21), (6, JL z22)] [J 0, .ref 137] s81)) ?_
          refine T.mput (c' := c) (io' := io) (mo' := mo) (fa' := fa) (pl' := pl) (ns' := ns) (rw' := rw) (en' := en) (wy' := wy) (wh' := wh) (bi' := bi) (ed' := ed) (sz' := z22) (md' := 0) (bd' := bd) (li' := li) (wk' := wk) (we' := we) ms81 rfl rfl rfl rfl rfl rfl (by omega) (fun s82 ms82 fs82 => ?_)
          have gs82 := fs81.trans fs82
          refine T.go 2 (fun n9 => (rfl : _ = exe ξ n9 (d + 6) j_M_isUnread 99 [(0, .ref 137), (1, J x), (2, J (gl lh x)), (3, J z20), (4, JL z21), (6, JL z22)] [J z20, .ref 137] s82)) ?_
          refine T.if_ne rfl rfl (by omega) (fun c39 => ?_) (fun c39 => ?_)
          · refine T.go 1 (fun n9 => (rfl : _ = exe ξ n9 (d + 6) j_M_isUnread 115 [(0, .ref 137), (1, J x), (2, J (gl lh x)), (3, J z20), (4, JL z21), (6, JL z22)] [J 0, .ref 137] s82)) ?_
            refine T.mput (c' := c) (io' := io) (mo' := mo) (fa' := fa) (pl' := pl) (ns' := ns) (rw' := rw) (en' := en) (wy' := wy) (wh' := wh) (bi' := bi) (ed' := ed) (sz' := z22) (md' := 0) (bd' := 0) (li' := li) (wk' := wk) (we' := we) ms82 rfl rfl rfl rfl rfl rfl (by omega) (fun s83 ms83 fs83 => ?_)
            have gs83 := gs82.trans fs83
            refine T.go 3 (fun n9 => (rfl : _ = exe ξ n9 (d + 6) j_M_isUnread 122 [(0, .ref 137), (1, J x), (2, J (gl lh x)), (3, J z20), (4, JL z21), (6, JL z22)] [.ref 137, J 8, .ref 137] s83)) ?_
            refine T.get rfl rfl rfl ms83.ob rfl ?_
            refine T.go 1 (fun n9 => (rfl : _ = exe ξ n9 (d + 6) j_M_isUnread 126 [(0, .ref 137), (1, J x), (2, J (gl lh x)), (3, J z20), (4, JL z21), (6, JL z22)] [J x, .ref 143, J 8, .ref 137] s83)) ?_
            refine T.iald rfl rfl ms83.c143 (by omega) (fun z51 hzz51 hyz51 hez51 => ?_)
            have gzz51 := gl_of hez51 ⟨hzz51, hyz51⟩
            subst gzz51
            refine T.imul rfl ?_
            refine T.mput (c' := c) (io' := io) (mo' := mo) (fa' := fa) (pl' := pl) (ns' := ns) (rw' := rw) (en' := en) (wy' := wy) (wh' := wh) (bi' := 8 * (gl ld x)) (ed' := ed) (sz' := z22) (md' := 0) (bd' := 0) (li' := li) (wk' := wk) (we' := we) ms83 rfl rfl rfl rfl rfl rfl (by omega) (fun s84 ms84 fs84 => ?_)
            have gs84 := gs83.trans fs84
            refine T.go 2 (fun n9 => (rfl : _ = exe ξ n9 (d + 6) j_M_isUnread 133 [(0, .ref 137), (1, J x), (2, J (gl lh x)), (3, J z20), (4, JL z21), (6, JL z22)] [.ref 137, .ref 137] s84)) ?_
            refine T.get rfl rfl rfl ms84.ob rfl ?_
            refine T.go 2 (fun n9 => (rfl : _ = exe ξ n9 (d + 6) j_M_isUnread 140 [(0, .ref 137), (1, J x), (2, J (gl lh x)), (3, J z20), (4, JL z21), (6, JL z22)] [JL z21, J 8, J (8 * (gl ld x)), .ref 137] s84)) ?_
            refine T.l2i rfl ?_
            refine T.imul rfl ?_
            refine T.iadd rfl ?_
            refine T.mput (c' := c) (io' := io) (mo' := mo) (fa' := fa) (pl' := pl) (ns' := ns) (rw' := rw) (en' := en) (wy' := wy) (wh' := wh) (bi' := 8 * (gl ld x)) (ed' := (8 * (gl ld x)) + (8 * z21)) (sz' := z22) (md' := 0) (bd' := 0) (li' := li) (wk' := wk) (we' := we) ms84 rfl rfl rfl rfl rfl rfl (by omega) (fun s85 ms85 fs85 => ?_)
            have gs85 := gs84.trans fs85
            refine T.go 2 (fun n9 => (rfl : _ = exe ξ n9 (d + 6) j_M_isUnread 149 [(0, .ref 137), (1, J x), (2, J (gl lh x)), (3, J z20), (4, JL z21), (6, JL z22)] [J 8, J z20] s85)) ?_
            refine T.icmp_ne rfl rfl (by omega) (by omega) (fun c40 => ?_) (fun c40 => ?_)
            · refine T.go 2 (fun n9 => (rfl : _ = exe ξ n9 (d + 6) j_M_isUnread 159 [(0, .ref 137), (1, J x), (2, J (gl lh x)), (3, J z20), (4, JL z21), (6, JL z22), (8, J 0)] [] s85)) ?_
              exact loop159 _ (gl lh x) z20 z21 z22 0 (8 * (gl ld x)) ((8 * (gl ld x)) + (8 * z21)) z22 0 0 Lc lk s85 ms85 gs85 RG.refl (by omega) (by omega) (by omega) (by omega) (by omega) (by omega) (by omega) (by omega) (by omega) (by omega) (by omega) (by omega) (by omega) (by omega) (Nat.lt_succ_self _)
            · refine T.go 1 (fun n9 => (rfl : _ = exe ξ n9 (d + 6) j_M_isUnread 153 [(0, .ref 137), (1, J x), (2, J (gl lh x)), (3, J z20), (4, JL z21), (6, JL z22)] [.ref 137] s85)) ?_
              refine T.callv (as := []) (r := []) rfl rfl rfl rfl ms85.ob rfl (s_M_inflate d  s85 ms85 (by omega) (by omega) (by omega) (by omega) (by omega) (by omega) (by omega)) (fun v36 s86 hqs86 => ?_)
              obtain ⟨bi_13, md_14, bd_14, Lc_14, lk_13, rfl, ms86, fs86, pz52_0, pz52_1, pz52_2⟩ := hqs86
              have ns86 := ms86.len
              have rs86 := ms86.rg
              have gs86 := gs85.trans fs86
              have rgs86 := (RG.refl (S := [4])).trans pz52_0 (by decide)
              refine T.go 2 (fun n9 => (rfl : _ = exe ξ n9 (d + 6) j_M_isUnread 159 [(0, .ref 137), (1, J x), (2, J (gl lh x)), (3, J z20), (4, JL z21), (6, JL z22), (8, J 0)] [] s86)) ?_
              exact loop159 _ (gl lh x) z20 z21 z22 0 bi_13 ((8 * (gl ld x)) + (8 * z21)) z22 md_14 bd_14 Lc_14 lk_13 s86 ms86 gs86 rgs86 (by omega) (by omega) (by omega) (by omega) (by omega) (by omega) (by omega) (by omega) (by omega) (by omega) (by omega) (by omega) (by omega) (by omega) (Nat.lt_succ_self _)
          · refine T.go 2 (fun n9 => (rfl : _ = exe ξ n9 (d + 6) j_M_isUnread 106 [(0, .ref 137), (1, J x), (2, J (gl lh x)), (3, J z20), (4, JL z21), (6, JL z22)] [JL z22, JL z21, .ref 137] s82)) ?_
            refine T.lcmp rfl (by omega) (by omega) (fun c41 => ?_) (fun c41 => ?_) (fun c41 => ?_)
            · refine T.go 1 (fun n9 => (rfl : _ = exe ξ n9 (d + 6) j_M_isUnread 110 [(0, .ref 137), (1, J x), (2, J (gl lh x)), (3, J z20), (4, JL z21), (6, JL z22)] [.ref 137] s82)) ?_
              refine T.go 2 (fun n9 => (rfl : _ = exe ξ n9 (d + 6) j_M_isUnread 115 [(0, .ref 137), (1, J x), (2, J (gl lh x)), (3, J z20), (4, JL z21), (6, JL z22)] [J 1, .ref 137] s82)) ?_
              refine T.mput (c' := c) (io' := io) (mo' := mo) (fa' := fa) (pl' := pl) (ns' := ns) (rw' := rw) (en' := en) (wy' := wy) (wh' := wh) (bi' := bi) (ed' := ed) (sz' := z22) (md' := 0) (bd' := 1) (li' := li) (wk' := wk) (we' := we) ms82 rfl rfl rfl rfl rfl rfl (by omega) (fun s87 ms87 fs87 => ?_)
              have gs87 := gs82.trans fs87
              refine T.go 3 (fun n9 => (rfl : _ = exe ξ n9 (d + 6) j_M_isUnread 122 [(0, .ref 137), (1, J x), (2, J (gl lh x)), (3, J z20), (4, JL z21), (6, JL z22)] [.ref 137, J 8, .ref 137] s87)) ?_
              refine T.get rfl rfl rfl ms87.ob rfl ?_
              refine T.go 1 (fun n9 => (rfl : _ = exe ξ n9 (d + 6) j_M_isUnread 126 [(0, .ref 137), (1, J x), (2, J (gl lh x)), (3, J z20), (4, JL z21), (6, JL z22)] [J x, .ref 143, J 8, .ref 137] s87)) ?_
              refine T.iald rfl rfl ms87.c143 (by omega) (fun z53 hzz53 hyz53 hez53 => ?_)
              have gzz53 := gl_of hez53 ⟨hzz53, hyz53⟩
              subst gzz53
              refine T.imul rfl ?_
              refine T.mput (c' := c) (io' := io) (mo' := mo) (fa' := fa) (pl' := pl) (ns' := ns) (rw' := rw) (en' := en) (wy' := wy) (wh' := wh) (bi' := 8 * (gl ld x)) (ed' := ed) (sz' := z22) (md' := 0) (bd' := 1) (li' := li) (wk' := wk) (we' := we) ms87 rfl rfl rfl rfl rfl rfl (by omega) (fun s88 ms88 fs88 => ?_)
              have gs88 := gs87.trans fs88
              refine T.go 2 (fun n9 => (rfl : _ = exe ξ n9 (d + 6) j_M_isUnread 133 [(0, .ref 137), (1, J x), (2, J (gl lh x)), (3, J z20), (4, JL z21), (6, JL z22)] [.ref 137, .ref 137] s88)) ?_
              refine T.get rfl rfl rfl ms88.ob rfl ?_
              refine T.go 2 (fun n9 => (rfl : _ = exe ξ n9 (d + 6) j_M_isUnread 140 [(0, .ref 137), (1, J x), (2, J (gl lh x)), (3, J z20), (4, JL z21), (6, JL z22)] [JL z21, J 8, J (8 * (gl ld x)), .ref 137] s88)) ?_
              refine T.l2i rfl ?_
              refine T.imul rfl ?_
              refine T.iadd rfl ?_
              refine T.mput (c' := c) (io' := io) (mo' := mo) (fa' := fa) (pl' := pl) (ns' := ns) (rw' := rw) (en' := en) (wy' := wy) (wh' := wh) (bi' := 8 * (gl ld x)) (ed' := (8 * (gl ld x)) + (8 * z21)) (sz' := z22) (md' := 0) (bd' := 1) (li' := li) (wk' := wk) (we' := we) ms88 rfl rfl rfl rfl rfl rfl (by omega) (fun s89 ms89 fs89 => ?_)
              have gs89 := gs88.trans fs89
              refine T.go 2 (fun n9 => (rfl : _ = exe ξ n9 (d + 6) j_M_isUnread 149 [(0, .ref 137), (1, J x), (2, J (gl lh x)), (3, J z20), (4, JL z21), (6, JL z22)] [J 8, J z20] s89)) ?_
              refine T.icmp_ne rfl rfl (by omega) (by omega) (fun c42 => ?_) (fun c42 => ?_)
              · refine T.go 2 (fun n9 => (rfl : _ = exe ξ n9 (d + 6) j_M_isUnread 159 [(0, .ref 137), (1, J x), (2, J (gl lh x)), (3, J z20), (4, JL z21), (6, JL z22), (8, J 0)] [] s89)) ?_
                exact loop159 _ (gl lh x) z20 z21 z22 0 (8 * (gl ld x)) ((8 * (gl ld x)) + (8 * z21)) z22 0 1 Lc lk s89 ms89 gs89 RG.refl (by omega) (by omega) (by omega) (by omega) (by omega) (by omega) (by omega) (by omega) (by omega) (by omega) (by omega) (by omega) (by omega) (by omega) (Nat.lt_succ_self _)
              · refine T.go 1 (fun n9 => (rfl : _ = exe ξ n9 (d + 6) j_M_isUnread 153 [(0, .ref 137), (1, J x), (2, J (gl lh x)), (3, J z20), (4, JL z21), (6, JL z22)] [.ref 137] s89)) ?_
                refine T.callv (as := []) (r := []) rfl rfl rfl rfl ms89.ob rfl (s_M_inflate d  s89 ms89 (by omega) (by omega) (by omega) (by omega) (by omega) (by omega) (by omega)) (fun v37 s90 hqs90 => ?_)
                obtain ⟨bi_14, md_15, bd_15, Lc_15, lk_14, rfl, ms90, fs90, pz54_0, pz54_1, pz54_2⟩ := hqs90
                have ns90 := ms90.len
                have rs90 := ms90.rg
                have gs90 := gs89.trans fs90
                have rgs90 := (RG.refl (S := [4])).trans pz54_0 (by decide)
                refine T.go 2 (fun n9 => (rfl : _ = exe ξ n9 (d + 6) j_M_isUnread 159 [(0, .ref 137), (1, J x), (2, J (gl lh x)), (3, J z20), (4, JL z21), (6, JL z22), (8, J 0)] [] s90)) ?_
                exact loop159 _ (gl lh x) z20 z21 z22 0 bi_14 ((8 * (gl ld x)) + (8 * z21)) z22 md_15 bd_15 Lc_15 lk_14 s90 ms90 gs90 rgs90 (by omega) (by omega) (by omega) (by omega) (by omega) (by omega) (by omega) (by omega) (by omega) (by omega) (by omega) (by omega) (by omega) (by omega) (Nat.lt_succ_self _)
            · refine T.go 1 (fun n9 => (rfl : _ = exe ξ n9 (d + 6) j_M_isUnread 114 [(0, .ref 137), (1, J x), (2, J (gl lh x)), (3, J z20), (4, JL z21), (6, JL z22)] [.ref 137] s82)) ?_
              refine T.go 1 (fun n9 => (rfl : _ = exe ξ n9 (d + 6) j_M_isUnread 115 [(0, .ref 137), (1, J x), (2, J (gl lh x)), (3, J z20), (4, JL z21), (6, JL z22)] [J 0, .ref 137] s82)) ?_
              refine T.mput (c' := c) (io' := io) (mo' := mo) (fa' := fa) (pl' := pl) (ns' := ns) (rw' := rw) (en' := en) (wy' := wy) (wh' := wh) (bi' := bi) (ed' := ed) (sz' := z22) (md' := 0) (bd' := 0) (li' := li) (wk' := wk) (we' := we) ms82 rfl rfl rfl rfl rfl rfl (by omega) (fun s91 ms91 fs91 => ?_)
              have gs91 := gs82.trans fs91
              refine T.go 3 (fun n9 => (rfl : _ = exe ξ n9 (d + 6) j_M_isUnread 122 [(0, .ref 137), (1, J x), (2, J (gl lh x)), (3, J z20), (4, JL z21), (6, JL z22)] [.ref 137, J 8, .ref 137] s91)) ?_
              refine T.get rfl rfl rfl ms91.ob rfl ?_
              refine T.go 1 (fun n9 => (rfl : _ = exe ξ n9 (d + 6) j_M_isUnread 126 [(0, .ref 137), (1, J x), (2, J (gl lh x)), (3, J z20), (4, JL z21), (6, JL z22)] [J x, .ref 143, J 8, .ref 137] s91)) ?_
              refine T.iald rfl rfl ms91.c143 (by omega) (fun z55 hzz55 hyz55 hez55 => ?_)
              have gzz55 := gl_of hez55 ⟨hzz55, hyz55⟩
              subst gzz55
              refine T.imul rfl ?_
              refine T.mput (c' := c) (io' := io) (mo' := mo) (fa' := fa) (pl' := pl) (ns' := ns) (rw' := rw) (en' := en) (wy' := wy) (wh' := wh) (bi' := 8 * (gl ld x)) (ed' := ed) (sz' := z22) (md' := 0) (bd' := 0) (li' := li) (wk' := wk) (we' := we) ms91 rfl rfl rfl rfl rfl rfl (by omega) (fun s92 ms92 fs92 => ?_)
              have gs92 := gs91.trans fs92
              refine T.go 2 (fun n9 => (rfl : _ = exe ξ n9 (d + 6) j_M_isUnread 133 [(0, .ref 137), (1, J x), (2, J (gl lh x)), (3, J z20), (4, JL z21), (6, JL z22)] [.ref 137, .ref 137] s92)) ?_
              refine T.get rfl rfl rfl ms92.ob rfl ?_
              refine T.go 2 (fun n9 => (rfl : _ = exe ξ n9 (d + 6) j_M_isUnread 140 [(0, .ref 137), (1, J x), (2, J (gl lh x)), (3, J z20), (4, JL z21), (6, JL z22)] [JL z21, J 8, J (8 * (gl ld x)), .ref 137] s92)) ?_
              refine T.l2i rfl ?_
              refine T.imul rfl ?_
              refine T.iadd rfl ?_
              refine T.mput (c' := c) (io' := io) (mo' := mo) (fa' := fa) (pl' := pl) (ns' := ns) (rw' := rw) (en' := en) (wy' := wy) (wh' := wh) (bi' := 8 * (gl ld x)) (ed' := (8 * (gl ld x)) + (8 * z21)) (sz' := z22) (md' := 0) (bd' := 0) (li' := li) (wk' := wk) (we' := we) ms92 rfl rfl rfl rfl rfl rfl (by omega) (fun s93 ms93 fs93 => ?_)
              have gs93 := gs92.trans fs93
              refine T.go 2 (fun n9 => (rfl : _ = exe ξ n9 (d + 6) j_M_isUnread 149 [(0, .ref 137), (1, J x), (2, J (gl lh x)), (3, J z20), (4, JL z21), (6, JL z22)] [J 8, J z20] s93)) ?_
              refine T.icmp_ne rfl rfl (by omega) (by omega) (fun c43 => ?_) (fun c43 => ?_)
              · refine T.go 2 (fun n9 => (rfl : _ = exe ξ n9 (d + 6) j_M_isUnread 159 [(0, .ref 137), (1, J x), (2, J (gl lh x)), (3, J z20), (4, JL z21), (6, JL z22), (8, J 0)] [] s93)) ?_
                exact loop159 _ (gl lh x) z20 z21 z22 0 (8 * (gl ld x)) ((8 * (gl ld x)) + (8 * z21)) z22 0 0 Lc lk s93 ms93 gs93 RG.refl (by omega) (by omega) (by omega) (by omega) (by omega) (by omega) (by omega) (by omega) (by omega) (by omega) (by omega) (by omega) (by omega) (by omega) (Nat.lt_succ_self _)
              · refine T.go 1 (fun n9 => (rfl : _ = exe ξ n9 (d + 6) j_M_isUnread 153 [(0, .ref 137), (1, J x), (2, J (gl lh x)), (3, J z20), (4, JL z21), (6, JL z22)] [.ref 137] s93)) ?_
                refine T.callv (as := []) (r := []) rfl rfl rfl rfl ms93.ob rfl (s_M_inflate d  s93 ms93 (by omega) (by omega) (by omega) (by omega) (by omega) (by omega) (by omega)) (fun v38 s94 hqs94 => ?_)
                obtain ⟨bi_15, md_16, bd_16, Lc_16, lk_15, rfl, ms94, fs94, pz56_0, pz56_1, pz56_2⟩ := hqs94
                have ns94 := ms94.len
                have rs94 := ms94.rg
                have gs94 := gs93.trans fs94
                have rgs94 := (RG.refl (S := [4])).trans pz56_0 (by decide)
                refine T.go 2 (fun n9 => (rfl : _ = exe ξ n9 (d + 6) j_M_isUnread 159 [(0, .ref 137), (1, J x), (2, J (gl lh x)), (3, J z20), (4, JL z21), (6, JL z22), (8, J 0)] [] s94)) ?_
                exact loop159 _ (gl lh x) z20 z21 z22 0 bi_15 ((8 * (gl ld x)) + (8 * z21)) z22 md_16 bd_16 Lc_16 lk_15 s94 ms94 gs94 rgs94 (by omega) (by omega) (by omega) (by omega) (by omega) (by omega) (by omega) (by omega) (by omega) (by omega) (by omega) (by omega) (by omega) (by omega) (Nat.lt_succ_self _)
            · refine T.go 1 (fun n9 => (rfl : _ = exe ξ n9 (d + 6) j_M_isUnread 110 [(0, .ref 137), (1, J x), (2, J (gl lh x)), (3, J z20), (4, JL z21), (6, JL z22)] [.ref 137] s82)) ?_
              refine T.go 2 (fun n9 => (rfl : _ = exe ξ n9 (d + 6) j_M_isUnread 115 [(0, .ref 137), (1, J x), (2, J (gl lh x)), (3, J z20), (4, JL z21), (6, JL z22)] [J 1, .ref 137] s82)) ?_
              refine T.mput (c' := c) (io' := io) (mo' := mo) (fa' := fa) (pl' := pl) (ns' := ns) (rw' := rw) (en' := en) (wy' := wy) (wh' := wh) (bi' := bi) (ed' := ed) (sz' := z22) (md' := 0) (bd' := 1) (li' := li) (wk' := wk) (we' := we) ms82 rfl rfl rfl rfl rfl rfl (by omega) (fun s95 ms95 fs95 => ?_)
              have gs95 := gs82.trans fs95
              refine T.go 3 (fun n9 => (rfl : _ = exe ξ n9 (d + 6) j_M_isUnread 122 [(0, .ref 137), (1, J x), (2, J (gl lh x)), (3, J z20), (4, JL z21), (6, JL z22)] [.ref 137, J 8, .ref 137] s95)) ?_
              refine T.get rfl rfl rfl ms95.ob rfl ?_
              refine T.go 1 (fun n9 => (rfl : _ = exe ξ n9 (d + 6) j_M_isUnread 126 [(0, .ref 137), (1, J x), (2, J (gl lh x)), (3, J z20), (4, JL z21), (6, JL z22)] [J x, .ref 143, J 8, .ref 137] s95)) ?_
              refine T.iald rfl rfl ms95.c143 (by omega) (fun z57 hzz57 hyz57 hez57 => ?_)
              have gzz57 := gl_of hez57 ⟨hzz57, hyz57⟩
              subst gzz57
              refine T.imul rfl ?_
              refine T.mput (c' := c) (io' := io) (mo' := mo) (fa' := fa) (pl' := pl) (ns' := ns) (rw' := rw) (en' := en) (wy' := wy) (wh' := wh) (bi' := 8 * (gl ld x)) (ed' := ed) (sz' := z22) (md' := 0) (bd' := 1) (li' := li) (wk' := wk) (we' := we) ms95 rfl rfl rfl rfl rfl rfl (by omega) (fun s96 ms96 fs96 => ?_)
              have gs96 := gs95.trans fs96
              refine T.go 2 (fun n9 => (rfl : _ = exe ξ n9 (d + 6) j_M_isUnread 133 [(0, .ref 137), (1, J x), (2, J (gl lh x)), (3, J z20), (4, JL z21), (6, JL z22)] [.ref 137, .ref 137] s96)) ?_
              refine T.get rfl rfl rfl ms96.ob rfl ?_
              refine T.go 2 (fun n9 => (rfl : _ = exe ξ n9 (d + 6) j_M_isUnread 140 [(0, .ref 137), (1, J x), (2, J (gl lh x)), (3, J z20), (4, JL z21), (6, JL z22)] [JL z21, J 8, J (8 * (gl ld x)), .ref 137] s96)) ?_
              refine T.l2i rfl ?_
              refine T.imul rfl ?_
              refine T.iadd rfl ?_
              refine T.mput (c' := c) (io' := io) (mo' := mo) (fa' := fa) (pl' := pl) (ns' := ns) (rw' := rw) (en' := en) (wy' := wy) (wh' := wh) (bi' := 8 * (gl ld x)) (ed' := (8 * (gl ld x)) + (8 * z21)) (sz' := z22) (md' := 0) (bd' := 1) (li' := li) (wk' := wk) (we' := we) ms96 rfl rfl rfl rfl rfl rfl (by omega) (fun s97 ms97 fs97 => ?_)
              have gs97 := gs96.trans fs97
              refine T.go 2 (fun n9 => (rfl : _ = exe ξ n9 (d + 6) j_M_isUnread 149 [(0, .ref 137), (1, J x), (2, J (gl lh x)), (3, J z20), (4, JL z21), (6, JL z22)] [J 8, J z20] s97)) ?_
              refine T.icmp_ne rfl rfl (by omega) (by omega) (fun c44 => ?_) (fun c44 => ?_)
              · refine T.go 2 (fun n9 => (rfl : _ = exe ξ n9 (d + 6) j_M_isUnread 159 [(0, .ref 137), (1, J x), (2, J (gl lh x)), (3, J z20), (4, JL z21), (6, JL z22), (8, J 0)] [] s97)) ?_
                exact loop159 _ (gl lh x) z20 z21 z22 0 (8 * (gl ld x)) ((8 * (gl ld x)) + (8 * z21)) z22 0 1 Lc lk s97 ms97 gs97 RG.refl (by omega) (by omega) (by omega) (by omega) (by omega) (by omega) (by omega) (by omega) (by omega) (by omega) (by omega) (by omega) (by omega) (by omega) (Nat.lt_succ_self _)
              · refine T.go 1 (fun n9 => (rfl : _ = exe ξ n9 (d + 6) j_M_isUnread 153 [(0, .ref 137), (1, J x), (2, J (gl lh x)), (3, J z20), (4, JL z21), (6, JL z22)] [.ref 137] s97)) ?_
                refine T.callv (as := []) (r := []) rfl rfl rfl rfl ms97.ob rfl (s_M_inflate d  s97 ms97 (by omega) (by omega) (by omega) (by omega) (by omega) (by omega) (by omega)) (fun v39 s98 hqs98 => ?_)
                obtain ⟨bi_16, md_17, bd_17, Lc_17, lk_16, rfl, ms98, fs98, pz58_0, pz58_1, pz58_2⟩ := hqs98
                have ns98 := ms98.len
                have rs98 := ms98.rg
                have gs98 := gs97.trans fs98
                have rgs98 := (RG.refl (S := [4])).trans pz58_0 (by decide)
                refine T.go 2 (fun n9 => (rfl : _ = exe ξ n9 (d + 6) j_M_isUnread 159 [(0, .ref 137), (1, J x), (2, J (gl lh x)), (3, J z20), (4, JL z21), (6, JL z22), (8, J 0)] [] s98)) ?_
                exact loop159 _ (gl lh x) z20 z21 z22 0 bi_16 ((8 * (gl ld x)) + (8 * z21)) z22 md_17 bd_17 Lc_17 lk_16 s98 ms98 gs98 rgs98 (by omega) (by omega) (by omega) (by omega) (by omega) (by omega) (by omega) (by omega) (by omega) (by omega) (by omega) (by omega) (by omega) (by omega) (Nat.lt_succ_self _)
        · refine T.go 1 (fun n9 => (rfl : _ = exe ξ n9 (d + 6) j_M_isUnread 77 [(0, .ref 137), (1, J x), (2, J (gl lh x)), (3, J z20), (4, JL z21), (6, JL z22)] [] σ)) ?_
          refine T.go 3 (fun n9 => (rfl : _ = exe ξ n9 (d + 6) j_M_isUnread 81 [(0, .ref 137), (1, J x), (2, J (gl lh x)), (3, J z20), (4, JL z21), (6, JL z22)] [J x, J 7, .ref 137] σ)) ?_
          refine T.callv (as := [J 7, J x]) (r := []) rfl rfl rfl rfl hM.ob rfl (s_M_isWrong (d + 5) 7 x σ hM (by omega) (by omega)) (fun v40 s99 hqs99 => ?_)
          obtain ⟨z59, wy_12, wh_12, rfl, ms99, fs99, hzz59, hyz59⟩ := hqs99
          have ns99 := ms99.len
          have rs99 := ms99.rg
          exact T.iretz rfl rfl (by omega) ⟨_, wy_12, wh_12, bi, ed, sz, md, bd, Lc, la, lk, rfl, ms99, fs99, by omega, by omega, RG.refl, LG.refl⟩
      · refine T.go 3 (fun n9 => (rfl : _ = exe ξ n9 (d + 6) j_M_isUnread 64 [(0, .ref 137), (1, J x), (2, J (gl lh x)), (3, J z20), (4, JL z21), (6, JL z22)] [J x, J 6, .ref 137] σ)) ?_
        refine T.callv (as := [J 6, J x]) (r := []) rfl rfl rfl rfl hM.ob rfl (s_M_isWrong (d + 5) 6 x σ hM (by omega) (by omega)) (fun v41 s100 hqs100 => ?_)
        obtain ⟨z60, wy_13, wh_13, rfl, ms100, fs100, hzz60, hyz60⟩ := hqs100
        have ns100 := ms100.len
        have rs100 := ms100.rg
        exact T.iretz rfl rfl (by omega) ⟨_, wy_13, wh_13, bi, ed, sz, md, bd, Lc, la, lk, rfl, ms100, fs100, by omega, by omega, RG.refl, LG.refl⟩

set_option maxHeartbeats 4000000 in
theorem s_M_use {ξ : Nat → Option (Nat × List Int32)} {c io mo fa pl ns rw en wy wh bi ed sz md bd li wk we : Int} {Lc : List Int64} {la lm ln lh ld lk lt : List Int32} (d : Nat) (x : Int) (σ : qH) (hM : MS σ c io mo fa pl ns rw en wy wh bi ed sz md bd li wk we Lc la lm ln lh ld lk lt) (rx : -2147483648 ≤ x ∧ x ≤ 2147483647) (pre0 : FOn (gc Lc 1) (gl la 1) = 1) (pre1 : 0 ≤ x) (pre2 : x ≤ mo) (pre3 : ∀ j : Int, 0 ≤ j → j < mo → gl lm j < W2 (gc Lc 1) (EN (gc Lc 1) (gl la 1) + 8)) : T ξ (d + 7) j_M_use 0 (lv_args 0 [.ref 137, J x]) [] σ (fun v σ' => ∃ (rw1 : Int) (en1 : Int) (wy1 : Int) (wh1 : Int) (bi1 : Int) (ed1 : Int) (sz1 : Int) (md1 : Int) (bd1 : Int) (Lc1 : List Int64) (la1 : List Int32) (lk1 : List Int32) (lh1 : List Int32) (ld1 : List Int32), v = none ∧ MS σ' c io mo fa pl ns rw1 en1 wy1 wh1 bi1 ed1 sz1 md1 bd1 li wk we Lc1 la1 lm ln lh1 ld1 lk1 lt ∧ FM σ σ' ∧ RG [2, 4] Lc Lc1 ∧ LG [2, 4] la la1 ∧ HD (gc Lc1 rw1) lh1 ld1 en1 ∧ (x = 0 → rw1 = 1 ∧ en1 = W2 (gc Lc 1) (EN (gc Lc 1) (gl la 1) + 8)) ∧ 1 ≤ rw1 ∧ rw1 ≤ 2) := by
  have r0 := hM.rg
  have n0 := hM.len
  refine T.go 2 (fun n9 => (rfl : _ = exe ξ n9 (d + 7) j_M_use 2 [(0, .ref 137), (1, J x)] [J 1, .ref 137] σ)) ?_
  refine T.callv (as := [J 1]) (r := []) rfl rfl rfl rfl hM.ob rfl (s_M_isFaulty d 1 σ hM (by omega) (by omega) (by omega)) (fun v1 s1 hqs1 => ?_)
  obtain ⟨z1, rw_1, en_1, wy_1, wh_1, lh_1, ld_1, rfl, ms1, fs1, hzz1, hyz1, pz1_0, pz1_1, pz1_2, pz1_3, pz1_4, pz1_5, pz1_6, pz1_7⟩ := hqs1
  have ns1 := ms1.len
  have rs1 := ms1.rg
  have hdz1 : HD (gc Lc rw_1) lh_1 ld_1 en_1 := by rw [pz1_3]; exact fun j a b => ⟨(pz1_5 j a b).1, (pz1_5 j a b).2, (pz1_4 j a b).1, (pz1_4 j a b).2⟩
  refine T.go 2 (fun n9 => (rfl : _ = exe ξ n9 (d + 7) j_M_use 7 [(0, .ref 137), (1, J x), (2, J z1)] [J x] s1)) ?_
  refine T.if_ne rfl rfl (by omega) (fun c1 => ?_) (fun c1 => ?_)
  · refine T.go 2 (fun n9 => (rfl : _ = exe ξ n9 (d + 7) j_M_use 13 [(0, .ref 137), (1, J x), (2, J z1)] [.ref 137, .ref 137] s1)) ?_
    refine T.get rfl rfl rfl ms1.ob rfl ?_
    refine T.go 2 (fun n9 => (rfl : _ = exe ξ n9 (d + 7) j_M_use 18 [(0, .ref 137), (1, J x), (2, J z1)] [J 1, J x, .ref 140, .ref 137] s1)) ?_
    refine T.isub rfl ?_
    refine T.iald rfl rfl ms1.c140 (by omega) (fun z2 hzz2 hyz2 hez2 => ?_)
    have hbz2 := ms1.b140.at hez2 ⟨hzz2, hyz2⟩
    have gzz2 := gl_of hez2 ⟨hzz2, hyz2⟩
    subst gzz2
    have hj := pre3 (x - 1) (by omega) (by omega)
    have hx := hdz1 (gl lm (x - 1)) (by omega) (by omega)
    refine T.callv (as := [J (gl lm (x - 1))]) (r := []) rfl rfl rfl rfl ms1.ob rfl (s_M_isUnread d (gl lm (x - 1)) s1 ms1 (by omega) (by omega) (by omega) (by omega) (by omega) (by omega)) (fun v2 s2 hqs2 => ?_)
    obtain ⟨z3, wy_2, wh_2, bi_1, ed_1, sz_1, md_1, bd_1, Lc_1, la_1, lk_1, rfl, ms2, fs2, hzz3, hyz3, pz3_0, pz3_1⟩ := hqs2
    have ns2 := ms2.len
    have rs2 := ms2.rg
    have gs2 := fs1.trans fs2
    have rgs2 := (RG.refl (S := [2, 4])).trans pz3_0 (by decide)
    have lgs2 := (LG.refl (S := [2, 4])).trans pz3_1 (by decide)
    refine T.go 4 (fun n9 => (rfl : _ = exe ξ n9 (d + 7) j_M_use 27 [(0, .ref 137), (1, J x), (2, J z3)] [J 2, J 4, .ref 137] s2)) ?_
    refine T.callv (as := [J 4, J 2]) (r := []) rfl rfl rfl rfl ms2.ob rfl (s_M_copyRow (d + 6) 4 2 s2 ms2 (by omega) (by omega) (by omega) (by omega) (by omega) (by omega) (by omega)) (fun v3 s3 hqs3 => ?_)
    obtain ⟨Lc_2, la_2, rfl, ms3, fs3, pz4_0, pz4_1, pz4_2, pz4_3⟩ := hqs3
    have ns3 := ms3.len
    have rs3 := ms3.rg
    have gs3 := gs2.trans fs3
    have rgs3 := rgs2.trans pz4_0 (by decide)
    have lgs3 := lgs2.trans pz4_1 (by decide)
    refine T.go 2 (fun n9 => (rfl : _ = exe ξ n9 (d + 7) j_M_use 32 [(0, .ref 137), (1, J x), (2, J z3)] [J 2, .ref 137] s3)) ?_
    refine T.callv (as := [J 2]) (r := []) rfl rfl rfl rfl ms3.ob rfl (s_M_isFaulty d 2 s3 ms3 (by omega) (by omega) (by omega)) (fun v4 s4 hqs4 => ?_)
    obtain ⟨z5, rw_2, en_2, wy_3, wh_3, lh_2, ld_2, rfl, ms4, fs4, hzz5, hyz5, pz5_0, pz5_1, pz5_2, pz5_3, pz5_4, pz5_5, pz5_6, pz5_7⟩ := hqs4
    have ns4 := ms4.len
    have rs4 := ms4.rg
    have gs4 := gs3.trans fs4
    have hdz5 : HD (gc Lc_2 rw_2) lh_2 ld_2 en_2 := by rw [pz5_3]; exact fun j a b => ⟨(pz5_5 j a b).1, (pz5_5 j a b).2, (pz5_4 j a b).1, (pz5_4 j a b).2⟩
    refine T.go 1 (fun n9 => (rfl : _ = exe ξ n9 (d + 7) j_M_use 36 [(0, .ref 137), (1, J x), (2, J z5)] [] s4)) ?_
    exact T.vret rfl rfl ⟨rw_2, en_2, wy_3, wh_3, bi_1, ed_1, sz_1, md_1, bd_1, Lc_2, la_2, lk_1, lh_2, ld_2, rfl, ms4, gs4, rgs3, lgs3, hdz5, by omega, by omega, by omega⟩
  · exact T.vret rfl rfl ⟨rw_1, en_1, wy_1, wh_1, bi, ed, sz, md, bd, Lc, la, lk, lh_1, ld_1, rfl, ms1, fs1, RG.refl, LG.refl, hdz1, by omega, by omega, by omega⟩

set_option maxHeartbeats 4000000 in
theorem s_M_isArchive {ξ : Nat → Option (Nat × List Int32)} {c io mo fa pl ns rw en wy wh bi ed sz md bd li wk we : Int} {Lc : List Int64} {la lm ln lh ld lk lt : List Int32} (d : Nat) (x : Int) (σ : qH) (hM : MS σ c io mo fa pl ns rw en wy wh bi ed sz md bd li wk we Lc la lm ln lh ld lk lt) (rx : -2147483648 ≤ x ∧ x ≤ 2147483647) : T ξ (d + 1) j_M_isArchive 0 (lv_args 0 [.ref 137, J x]) [] σ (fun v σ' => ∃ (z : Int), v = some (J z) ∧ σ' = σ ∧ 0 ≤ z ∧ z ≤ 1 ∧ (z = 1 → io = 1 ∧ 0 ≤ x ∧ x ≤ mo)) := by
  have r0 := hM.rg
  have n0 := hM.len
  refine T.go 1 (fun n9 => (rfl : _ = exe ξ n9 (d + 1) j_M_isArchive 1 [(0, .ref 137), (1, J x)] [.ref 137] σ)) ?_
  refine T.get rfl rfl rfl hM.ob rfl ?_
  refine T.if_eq rfl rfl (by omega) (fun c1 => ?_) (fun c1 => ?_)
  · refine T.go 1 (fun n9 => (rfl : _ = exe ξ n9 (d + 1) j_M_isArchive 24 [(0, .ref 137), (1, J x)] [J 0] σ)) ?_
    exact T.iretz rfl rfl (by omega) ⟨_, rfl, rfl, by omega, by omega, by omega⟩
  · refine T.go 3 (fun n9 => (rfl : _ = exe ξ n9 (d + 1) j_M_isArchive 10 [(0, .ref 137), (1, J x)] [.ref 137, J 0, J x] σ)) ?_
    refine T.get rfl rfl rfl hM.ob rfl ?_
    refine T.calls (as := [J x, J 0, J mo]) (r := []) rfl rfl (by decide) rfl rfl (s_M_in d x 0 mo σ (by omega) (by omega) (by omega)) (fun v1 s1 hqs1 => ?_)
    obtain ⟨z1, rfl, esz1, hzz1, hyz1, pz1_0, pz1_1⟩ := hqs1
    rw [esz1]
    refine T.if_eq rfl rfl (by omega) (fun c2 => ?_) (fun c2 => ?_)
    · refine T.go 1 (fun n9 => (rfl : _ = exe ξ n9 (d + 1) j_M_isArchive 24 [(0, .ref 137), (1, J x)] [J 0] σ)) ?_
      exact T.iretz rfl rfl (by omega) ⟨_, rfl, rfl, by omega, by omega, by omega⟩
    · refine T.go 2 (fun n9 => (rfl : _ = exe ξ n9 (d + 1) j_M_isArchive 24 [(0, .ref 137), (1, J x)] [J 1] σ)) ?_
      exact T.iretz rfl rfl (by omega) ⟨_, rfl, rfl, by omega, by omega, by omega⟩

set_option maxHeartbeats 4000000 in
theorem s_M_refuse {ξ : Nat → Option (Nat × List Int32)} {c io mo fa pl ns rw en wy wh bi ed sz md bd li wk we : Int} {Lc : List Int64} {la lm ln lh ld lk lt : List Int32} (d : Nat) (x : Int) (σ : qH) (hM : MS σ c io mo fa pl ns rw en wy wh bi ed sz md bd li wk we Lc la lm ln lh ld lk lt) (rx : -2147483648 ≤ x ∧ x ≤ 2147483647) : T ξ d j_M_refuse 0 (lv_args 0 [.ref 137, J x]) [] σ (fun v σ' => ∃ (z : Int) (c1 : Int), v = some (J z) ∧ MS σ' c1 io mo fa pl ns rw en wy wh bi ed sz md bd li wk we Lc la lm ln lh ld lk lt ∧ FM σ σ' ∧ -2147483648 ≤ z ∧ z ≤ 2147483647) := by
  have r0 := hM.rg
  have n0 := hM.len
  refine T.go 2 (fun n9 => (rfl : _ = exe ξ n9 d j_M_refuse 2 [(0, .ref 137), (1, J x)] [J x, .ref 137] σ)) ?_
  refine T.mput (c' := x) (io' := io) (mo' := mo) (fa' := fa) (pl' := pl) (ns' := ns) (rw' := rw) (en' := en) (wy' := wy) (wh' := wh) (bi' := bi) (ed' := ed) (sz' := sz) (md' := md) (bd' := bd) (li' := li) (wk' := wk) (we' := we) hM rfl rfl rfl rfl rfl rfl (by omega) (fun s1 ms1 fs1 => ?_)
  refine T.go 1 (fun n9 => (rfl : _ = exe ξ n9 d j_M_refuse 6 [(0, .ref 137), (1, J x)] [J 0] s1)) ?_
  exact T.ireti rfl rfl ⟨_, x, rfl, ms1, fs1, by omega, by omega⟩

set_option maxHeartbeats 4000000 in
theorem s_M_refuseFault {ξ : Nat → Option (Nat × List Int32)} {c io mo fa pl ns rw en wy wh bi ed sz md bd li wk we : Int} {Lc : List Int64} {la lm ln lh ld lk lt : List Int32} (d : Nat) (x : Int) (σ : qH) (hM : MS σ c io mo fa pl ns rw en wy wh bi ed sz md bd li wk we Lc la lm ln lh ld lk lt) (rx : -2147483648 ≤ x ∧ x ≤ 2147483647) : T ξ (d + 1) j_M_refuseFault 0 (lv_args 0 [.ref 137, J x]) [] σ (fun v σ' => ∃ (z : Int) (c1 : Int) (fa1 : Int) (pl1 : Int), v = some (J z) ∧ MS σ' c1 io mo fa1 pl1 ns rw en wy wh bi ed sz md bd li wk we Lc la lm ln lh ld lk lt ∧ FM σ σ' ∧ -2147483648 ≤ z ∧ z ≤ 2147483647) := by
  have r0 := hM.rg
  have n0 := hM.len
  refine T.go 2 (fun n9 => (rfl : _ = exe ξ n9 (d + 1) j_M_refuseFault 2 [(0, .ref 137), (1, J x)] [.ref 137, .ref 137] σ)) ?_
  refine T.get rfl rfl rfl hM.ob rfl ?_
  refine T.mput (c' := c) (io' := io) (mo' := mo) (fa' := wy) (pl' := pl) (ns' := ns) (rw' := rw) (en' := en) (wy' := wy) (wh' := wh) (bi' := bi) (ed' := ed) (sz' := sz) (md' := md) (bd' := bd) (li' := li) (wk' := wk) (we' := we) hM rfl rfl rfl rfl rfl rfl (by omega) (fun s1 ms1 fs1 => ?_)
  refine T.go 2 (fun n9 => (rfl : _ = exe ξ n9 (d + 1) j_M_refuseFault 10 [(0, .ref 137), (1, J x)] [.ref 137, .ref 137] s1)) ?_
  refine T.get rfl rfl rfl ms1.ob rfl ?_
  refine T.mput (c' := c) (io' := io) (mo' := mo) (fa' := wy) (pl' := wh) (ns' := ns) (rw' := rw) (en' := en) (wy' := wy) (wh' := wh) (bi' := bi) (ed' := ed) (sz' := sz) (md' := md) (bd' := bd) (li' := li) (wk' := wk) (we' := we) ms1 rfl rfl rfl rfl rfl rfl (by omega) (fun s2 ms2 fs2 => ?_)
  have gs2 := fs1.trans fs2
  refine T.go 2 (fun n9 => (rfl : _ = exe ξ n9 (d + 1) j_M_refuseFault 18 [(0, .ref 137), (1, J x)] [J x, .ref 137] s2)) ?_
  refine T.callv (as := [J x]) (r := []) rfl rfl rfl rfl ms2.ob rfl (s_M_refuse d x s2 ms2 (by omega)) (fun v1 s3 hqs3 => ?_)
  obtain ⟨z1, c_1, rfl, ms3, fs3, hzz1, hyz1⟩ := hqs3
  have ns3 := ms3.len
  have rs3 := ms3.rg
  have gs3 := gs2.trans fs3
  exact T.ireti rfl rfl ⟨_, c_1, wy, wh, rfl, ms3, gs3, by omega, by omega⟩

set_option maxHeartbeats 4000000 in
theorem s_M_usedName {ξ : Nat → Option (Nat × List Int32)} {c io mo fa pl ns rw en wy wh bi ed sz md bd li wk we : Int} {Lc : List Int64} {la lm ln lh ld lk lt : List Int32} (d : Nat)  (σ : qH) (hM : MS σ c io mo fa pl ns rw en wy wh bi ed sz md bd li wk we Lc la lm ln lh ld lk lt)  : T ξ d j_M_usedName 0 (lv_args 0 [.ref 137]) [] σ (fun v σ' => ∃ (z : Int) (ns1 : Int), v = some (J z) ∧ MS σ' c io mo fa pl ns1 rw en wy wh bi ed sz md bd li wk we Lc la lm ln lh ld lk lt ∧ FM σ σ' ∧ 0 ≤ z ∧ z ≤ 40 ∧ ns1 = 0) := by
  have r0 := hM.rg
  have n0 := hM.len
  refine T.go 1 (fun n9 => (rfl : _ = exe ξ n9 d j_M_usedName 1 [(0, .ref 137)] [.ref 137] σ)) ?_
  refine T.get rfl rfl rfl hM.ob rfl ?_
  refine T.go 3 (fun n9 => (rfl : _ = exe ξ n9 d j_M_usedName 7 [(0, .ref 137), (1, J ns)] [J 0, .ref 137] σ)) ?_
  refine T.mput (c' := c) (io' := io) (mo' := mo) (fa' := fa) (pl' := pl) (ns' := 0) (rw' := rw) (en' := en) (wy' := wy) (wh' := wh) (bi' := bi) (ed' := ed) (sz' := sz) (md' := md) (bd' := bd) (li' := li) (wk' := wk) (we' := we) hM rfl rfl rfl rfl rfl rfl (by omega) (fun s1 ms1 fs1 => ?_)
  refine T.go 1 (fun n9 => (rfl : _ = exe ξ n9 d j_M_usedName 11 [(0, .ref 137), (1, J ns)] [J ns] s1)) ?_
  exact T.ireti rfl rfl ⟨_, 0, rfl, ms1, fs1, by omega, by omega, by omega⟩

set_option maxHeartbeats 4000000 in
theorem s_M_wordByte {ξ : Nat → Option (Nat × List Int32)} (d : Nat) (x : Int) (y : Int) (σ : qH) (rx : -2147483648 ≤ x ∧ x ≤ 2147483647) (ry : -2147483648 ≤ y ∧ y ≤ 2147483647) (pre0 : 0 ≤ y) : T ξ d j_M_wordByte 0 (lv_args 0 [J x, J y]) [] σ (fun v σ' => ∃ (z : Int), v = some (J z) ∧ σ' = σ ∧ 0 ≤ z ∧ z ≤ 255) := by
  refine T.go 1 (fun n9 => (rfl : _ = exe ξ n9 d j_M_wordByte 1 [(0, J x), (1, J y)] [J x] σ)) ?_
  refine T.if_ne rfl rfl (by omega) (fun c1 => ?_) (fun c1 => ?_)
  · refine T.go 3 (fun n9 => (rfl : _ = exe ξ n9 d j_M_wordByte 15 [(0, J x), (1, J y), (2, JL 5567949153222872646)] [J x] σ)) ?_
    refine T.if_ne rfl rfl (by omega) (fun c2 => ?_) (fun c2 => ?_)
    · refine T.go 3 (fun n9 => (rfl : _ = exe ξ n9 d j_M_wordByte 30 [(0, J x), (1, J y), (2, JL 5567949153222872646), (4, JL 3408452297481930067)] [J x] σ)) ?_
      refine T.if_ne rfl rfl (by omega) (fun c3 => ?_) (fun c3 => ?_)
      · refine T.go 4 (fun n9 => (rfl : _ = exe ξ n9 d j_M_wordByte 45 [(0, J x), (1, J y), (2, JL 5567949153222872646), (4, JL 3408452297481930067), (6, JL 6065870711157686272)] [J 23, J y] σ)) ?_
        refine T.icmp_le rfl rfl (by omega) (by omega) (fun c4 => ?_) (fun c4 => ?_)
        · refine T.go 2 (fun n9 => (rfl : _ = exe ξ n9 d j_M_wordByte 53 [(0, J x), (1, J y), (2, JL 5567949153222872646), (4, JL 3408452297481930067), (6, JL 6065870711157686272)] [J 8, J y] σ)) ?_
          refine T.icmp_ge rfl rfl (by omega) (by omega) (fun c5 => ?_) (fun c5 => ?_)
          · refine T.go 2 (fun n9 => (rfl : _ = exe ξ n9 d j_M_wordByte 63 [(0, J x), (1, J y), (2, JL 5567949153222872646), (4, JL 3408452297481930067), (6, JL 6065870711157686272)] [J 16, J y] σ)) ?_
            refine T.icmp_ge rfl rfl (by omega) (by omega) (fun c6 => ?_) (fun c6 => ?_)
            · refine T.go 7 (fun n9 => (rfl : _ = exe ξ n9 d j_M_wordByte 84 [(0, J x), (1, J y), (2, JL 5567949153222872646), (4, JL 3408452297481930067), (6, JL 6065870711157686272), (8, JL 6065870711157686272)] [J 8, J y, J 8, J 56, JL 6065870711157686272] σ)) ?_
              refine T.iremc (c := 8) rfl (by decide) (by omega) ?_
              refine T.imul rfl ?_
              refine T.isub rfl ?_
              refine T.some2 rfl rfl (fun z2 hzz2 hyz2 _ => ?_)
              refine T.l2i rfl ?_
              refine T.go 1 (fun n9 => (rfl : _ = exe ξ n9 d j_M_wordByte 92 [(0, J x), (1, J y), (2, JL 5567949153222872646), (4, JL 3408452297481930067), (6, JL 6065870711157686272), (8, JL 6065870711157686272)] [J 255, J z2] σ)) ?_
              refine T.iandw rfl ?_
              exact T.ireti rfl rfl ⟨_, rfl, rfl, by omega, by omega⟩
            · refine T.go 8 (fun n9 => (rfl : _ = exe ξ n9 d j_M_wordByte 84 [(0, J x), (1, J y), (2, JL 5567949153222872646), (4, JL 3408452297481930067), (6, JL 6065870711157686272), (8, JL 3408452297481930067)] [J 8, J y, J 8, J 56, JL 3408452297481930067] σ)) ?_
              refine T.iremc (c := 8) rfl (by decide) (by omega) ?_
              refine T.imul rfl ?_
              refine T.isub rfl ?_
              refine T.some2 rfl rfl (fun z5 hzz5 hyz5 _ => ?_)
              refine T.l2i rfl ?_
              refine T.go 1 (fun n9 => (rfl : _ = exe ξ n9 d j_M_wordByte 92 [(0, J x), (1, J y), (2, JL 5567949153222872646), (4, JL 3408452297481930067), (6, JL 6065870711157686272), (8, JL 3408452297481930067)] [J 255, J z5] σ)) ?_
              refine T.iandw rfl ?_
              exact T.ireti rfl rfl ⟨_, rfl, rfl, by omega, by omega⟩
          · refine T.go 8 (fun n9 => (rfl : _ = exe ξ n9 d j_M_wordByte 84 [(0, J x), (1, J y), (2, JL 5567949153222872646), (4, JL 3408452297481930067), (6, JL 6065870711157686272), (8, JL 5567949153222872646)] [J 8, J y, J 8, J 56, JL 5567949153222872646] σ)) ?_
            refine T.iremc (c := 8) rfl (by decide) (by omega) ?_
            refine T.imul rfl ?_
            refine T.isub rfl ?_
            refine T.some2 rfl rfl (fun z8 hzz8 hyz8 _ => ?_)
            refine T.l2i rfl ?_
            refine T.go 1 (fun n9 => (rfl : _ = exe ξ n9 d j_M_wordByte 92 [(0, J x), (1, J y), (2, JL 5567949153222872646), (4, JL 3408452297481930067), (6, JL 6065870711157686272), (8, JL 5567949153222872646)] [J 255, J z8] σ)) ?_
            refine T.iandw rfl ?_
            exact T.ireti rfl rfl ⟨_, rfl, rfl, by omega, by omega⟩
        · refine T.go 1 (fun n9 => (rfl : _ = exe ξ n9 d j_M_wordByte 49 [(0, J x), (1, J y), (2, JL 5567949153222872646), (4, JL 3408452297481930067), (6, JL 6065870711157686272)] [J 0] σ)) ?_
          exact T.ireti rfl rfl ⟨_, rfl, rfl, by omega, by omega⟩
      · refine T.go 5 (fun n9 => (rfl : _ = exe ξ n9 d j_M_wordByte 45 [(0, J x), (1, J y), (2, JL 5567949153222872646), (4, JL 3408452297481930067), (6, JL 0)] [J 23, J y] σ)) ?_
        refine T.icmp_le rfl rfl (by omega) (by omega) (fun c7 => ?_) (fun c7 => ?_)
        · refine T.go 2 (fun n9 => (rfl : _ = exe ξ n9 d j_M_wordByte 53 [(0, J x), (1, J y), (2, JL 5567949153222872646), (4, JL 3408452297481930067), (6, JL 0)] [J 8, J y] σ)) ?_
          refine T.icmp_ge rfl rfl (by omega) (by omega) (fun c8 => ?_) (fun c8 => ?_)
          · refine T.go 2 (fun n9 => (rfl : _ = exe ξ n9 d j_M_wordByte 63 [(0, J x), (1, J y), (2, JL 5567949153222872646), (4, JL 3408452297481930067), (6, JL 0)] [J 16, J y] σ)) ?_
            refine T.icmp_ge rfl rfl (by omega) (by omega) (fun c9 => ?_) (fun c9 => ?_)
            · refine T.go 7 (fun n9 => (rfl : _ = exe ξ n9 d j_M_wordByte 84 [(0, J x), (1, J y), (2, JL 5567949153222872646), (4, JL 3408452297481930067), (6, JL 0), (8, JL 0)] [J 8, J y, J 8, J 56, JL 0] σ)) ?_
              refine T.iremc (c := 8) rfl (by decide) (by omega) ?_
              refine T.imul rfl ?_
              refine T.isub rfl ?_
              refine T.some2 rfl rfl (fun z11 hzz11 hyz11 _ => ?_)
              refine T.l2i rfl ?_
              refine T.go 1 (fun n9 => (rfl : _ = exe ξ n9 d j_M_wordByte 92 [(0, J x), (1, J y), (2, JL 5567949153222872646), (4, JL 3408452297481930067), (6, JL 0), (8, JL 0)] [J 255, J z11] σ)) ?_
              refine T.iandw rfl ?_
              exact T.ireti rfl rfl ⟨_, rfl, rfl, by omega, by omega⟩
            · refine T.go 8 (fun n9 => (rfl : _ = exe ξ n9 d j_M_wordByte 84 [(0, J x), (1, J y), (2, JL 5567949153222872646), (4, JL 3408452297481930067), (6, JL 0), (8, JL 3408452297481930067)] [J 8, J y, J 8, J 56, JL 3408452297481930067] σ)) ?_
              refine T.iremc (c := 8) rfl (by decide) (by omega) ?_
              refine T.imul rfl ?_
              refine T.isub rfl ?_
              refine T.some2 rfl rfl (fun z14 hzz14 hyz14 _ => ?_)
              refine T.l2i rfl ?_
              refine T.go 1 (fun n9 => (rfl : _ = exe ξ n9 d j_M_wordByte 92 [(0, J x), (1, J y), (2, JL 5567949153222872646), (4, JL 3408452297481930067), (6, JL 0), (8, JL 3408452297481930067)] [J 255, J z14] σ)) ?_
              refine T.iandw rfl ?_
              exact T.ireti rfl rfl ⟨_, rfl, rfl, by omega, by omega⟩
          · refine T.go 8 (fun n9 => (rfl : _ = exe ξ n9 d j_M_wordByte 84 [(0, J x), (1, J y), (2, JL 5567949153222872646), (4, JL 3408452297481930067), (6, JL 0), (8, JL 5567949153222872646)] [J 8, J y, J 8, J 56, JL 5567949153222872646] σ)) ?_
            refine T.iremc (c := 8) rfl (by decide) (by omega) ?_
            refine T.imul rfl ?_
            refine T.isub rfl ?_
            refine T.some2 rfl rfl (fun z17 hzz17 hyz17 _ => ?_)
            refine T.l2i rfl ?_
            refine T.go 1 (fun n9 => (rfl : _ = exe ξ n9 d j_M_wordByte 92 [(0, J x), (1, J y), (2, JL 5567949153222872646), (4, JL 3408452297481930067), (6, JL 0), (8, JL 5567949153222872646)] [J 255, J z17] σ)) ?_
            refine T.iandw rfl ?_
            exact T.ireti rfl rfl ⟨_, rfl, rfl, by omega, by omega⟩
        · refine T.go 1 (fun n9 => (rfl : _ = exe ξ n9 d j_M_wordByte 49 [(0, J x), (1, J y), (2, JL 5567949153222872646), (4, JL 3408452297481930067), (6, JL 0)] [J 0] σ)) ?_
          exact T.ireti rfl rfl ⟨_, rfl, rfl, by omega, by omega⟩
    · refine T.go 4 (fun n9 => (rfl : _ = exe ξ n9 d j_M_wordByte 30 [(0, J x), (1, J y), (2, JL 5567949153222872646), (4, JL 8358680908399640576)] [J x] σ)) ?_
      refine T.if_ne rfl rfl (by omega) (fun c10 => ?_) (fun c10 => ?_)
      · refine T.go 4 (fun n9 => (rfl : _ = exe ξ n9 d j_M_wordByte 45 [(0, J x), (1, J y), (2, JL 5567949153222872646), (4, JL 8358680908399640576), (6, JL 6065870711157686272)] [J 23, J y] σ)) ?_
        refine T.icmp_le rfl rfl (by omega) (by omega) (fun c11 => ?_) (fun c11 => ?_)
        · refine T.go 2 (fun n9 => (rfl : _ = exe ξ n9 d j_M_wordByte 53 [(0, J x), (1, J y), (2, JL 5567949153222872646), (4, JL 8358680908399640576), (6, JL 6065870711157686272)] [J 8, J y] σ)) ?_
          refine T.icmp_ge rfl rfl (by omega) (by omega) (fun c12 => ?_) (fun c12 => ?_)
          · refine T.go 2 (fun n9 => (rfl : _ = exe ξ n9 d j_M_wordByte 63 [(0, J x), (1, J y), (2, JL 5567949153222872646), (4, JL 8358680908399640576), (6, JL 6065870711157686272)] [J 16, J y] σ)) ?_
            refine T.icmp_ge rfl rfl (by omega) (by omega) (fun c13 => ?_) (fun c13 => ?_)
            · refine T.go 7 (fun n9 => (rfl : _ = exe ξ n9 d j_M_wordByte 84 [(0, J x), (1, J y), (2, JL 5567949153222872646), (4, JL 8358680908399640576), (6, JL 6065870711157686272), (8, JL 6065870711157686272)] [J 8, J y, J 8, J 56, JL 6065870711157686272] σ)) ?_
              refine T.iremc (c := 8) rfl (by decide) (by omega) ?_
              refine T.imul rfl ?_
              refine T.isub rfl ?_
              refine T.some2 rfl rfl (fun z20 hzz20 hyz20 _ => ?_)
              refine T.l2i rfl ?_
              refine T.go 1 (fun n9 => (rfl : _ = exe ξ n9 d j_M_wordByte 92 [(0, J x), (1, J y), (2, JL 5567949153222872646), (4, JL 8358680908399640576), (6, JL 6065870711157686272), (8, JL 6065870711157686272)] [J 255, J z20] σ)) ?_
              refine T.iandw rfl ?_
              exact T.ireti rfl rfl ⟨_, rfl, rfl, by omega, by omega⟩
            · refine T.go 8 (fun n9 => (rfl : _ = exe ξ n9 d j_M_wordByte 84 [(0, J x), (1, J y), (2, JL 5567949153222872646), (4, JL 8358680908399640576), (6, JL 6065870711157686272), (8, JL 8358680908399640576)] [J 8, J y, J 8, J 56, JL 8358680908399640576] σ)) ?_
              refine T.iremc (c := 8) rfl (by decide) (by omega) ?_
              refine T.imul rfl ?_
              refine T.isub rfl ?_
              refine T.some2 rfl rfl (fun z23 hzz23 hyz23 _ => ?_)
              refine T.l2i rfl ?_
              refine T.go 1 (fun n9 => (rfl : _ = exe ξ n9 d j_M_wordByte 92 [(0, J x), (1, J y), (2, JL 5567949153222872646), (4, JL 8358680908399640576), (6, JL 6065870711157686272), (8, JL 8358680908399640576)] [J 255, J z23] σ)) ?_
              refine T.iandw rfl ?_
              exact T.ireti rfl rfl ⟨_, rfl, rfl, by omega, by omega⟩
          · refine T.go 8 (fun n9 => (rfl : _ = exe ξ n9 d j_M_wordByte 84 [(0, J x), (1, J y), (2, JL 5567949153222872646), (4, JL 8358680908399640576), (6, JL 6065870711157686272), (8, JL 5567949153222872646)] [J 8, J y, J 8, J 56, JL 5567949153222872646] σ)) ?_
            refine T.iremc (c := 8) rfl (by decide) (by omega) ?_
            refine T.imul rfl ?_
            refine T.isub rfl ?_
            refine T.some2 rfl rfl (fun z26 hzz26 hyz26 _ => ?_)
            refine T.l2i rfl ?_
            refine T.go 1 (fun n9 => (rfl : _ = exe ξ n9 d j_M_wordByte 92 [(0, J x), (1, J y), (2, JL 5567949153222872646), (4, JL 8358680908399640576), (6, JL 6065870711157686272), (8, JL 5567949153222872646)] [J 255, J z26] σ)) ?_
            refine T.iandw rfl ?_
            exact T.ireti rfl rfl ⟨_, rfl, rfl, by omega, by omega⟩
        · refine T.go 1 (fun n9 => (rfl : _ = exe ξ n9 d j_M_wordByte 49 [(0, J x), (1, J y), (2, JL 5567949153222872646), (4, JL 8358680908399640576), (6, JL 6065870711157686272)] [J 0] σ)) ?_
          exact T.ireti rfl rfl ⟨_, rfl, rfl, by omega, by omega⟩
      · refine T.go 5 (fun n9 => (rfl : _ = exe ξ n9 d j_M_wordByte 45 [(0, J x), (1, J y), (2, JL 5567949153222872646), (4, JL 8358680908399640576), (6, JL 0)] [J 23, J y] σ)) ?_
        refine T.icmp_le rfl rfl (by omega) (by omega) (fun c14 => ?_) (fun c14 => ?_)
        · refine T.go 2 (fun n9 => (rfl : _ = exe ξ n9 d j_M_wordByte 53 [(0, J x), (1, J y), (2, JL 5567949153222872646), (4, JL 8358680908399640576), (6, JL 0)] [J 8, J y] σ)) ?_
          refine T.icmp_ge rfl rfl (by omega) (by omega) (fun c15 => ?_) (fun c15 => ?_)
          · refine T.go 2 (fun n9 => (rfl : _ = exe ξ n9 d j_M_wordByte 63 [(0, J x), (1, J y), (2, JL 5567949153222872646), (4, JL 8358680908399640576), (6, JL 0)] [J 16, J y] σ)) ?_
            refine T.icmp_ge rfl rfl (by omega) (by omega) (fun c16 => ?_) (fun c16 => ?_)
            · refine T.go 7 (fun n9 => (rfl : _ = exe ξ n9 d j_M_wordByte 84 [(0, J x), (1, J y), (2, JL 5567949153222872646), (4, JL 8358680908399640576), (6, JL 0), (8, JL 0)] [J 8, J y, J 8, J 56, JL 0] σ)) ?_
              refine T.iremc (c := 8) rfl (by decide) (by omega) ?_
              refine T.imul rfl ?_
              refine T.isub rfl ?_
              refine T.some2 rfl rfl (fun z29 hzz29 hyz29 _ => ?_)
              refine T.l2i rfl ?_
              refine T.go 1 (fun n9 => (rfl : _ = exe ξ n9 d j_M_wordByte 92 [(0, J x), (1, J y), (2, JL 5567949153222872646), (4, JL 8358680908399640576), (6, JL 0), (8, JL 0)] [J 255, J z29] σ)) ?_
              refine T.iandw rfl ?_
              exact T.ireti rfl rfl ⟨_, rfl, rfl, by omega, by omega⟩
            · refine T.go 8 (fun n9 => (rfl : _ = exe ξ n9 d j_M_wordByte 84 [(0, J x), (1, J y), (2, JL 5567949153222872646), (4, JL 8358680908399640576), (6, JL 0), (8, JL 8358680908399640576)] [J 8, J y, J 8, J 56, JL 8358680908399640576] σ)) ?_
              refine T.iremc (c := 8) rfl (by decide) (by omega) ?_
              refine T.imul rfl ?_
              refine T.isub rfl ?_
              refine T.some2 rfl rfl (fun z32 hzz32 hyz32 _ => ?_)
              refine T.l2i rfl ?_
              refine T.go 1 (fun n9 => (rfl : _ = exe ξ n9 d j_M_wordByte 92 [(0, J x), (1, J y), (2, JL 5567949153222872646), (4, JL 8358680908399640576), (6, JL 0), (8, JL 8358680908399640576)] [J 255, J z32] σ)) ?_
              refine T.iandw rfl ?_
              exact T.ireti rfl rfl ⟨_, rfl, rfl, by omega, by omega⟩
          · refine T.go 8 (fun n9 => (rfl : _ = exe ξ n9 d j_M_wordByte 84 [(0, J x), (1, J y), (2, JL 5567949153222872646), (4, JL 8358680908399640576), (6, JL 0), (8, JL 5567949153222872646)] [J 8, J y, J 8, J 56, JL 5567949153222872646] σ)) ?_
            refine T.iremc (c := 8) rfl (by decide) (by omega) ?_
            refine T.imul rfl ?_
            refine T.isub rfl ?_
            refine T.some2 rfl rfl (fun z35 hzz35 hyz35 _ => ?_)
            refine T.l2i rfl ?_
            refine T.go 1 (fun n9 => (rfl : _ = exe ξ n9 d j_M_wordByte 92 [(0, J x), (1, J y), (2, JL 5567949153222872646), (4, JL 8358680908399640576), (6, JL 0), (8, JL 5567949153222872646)] [J 255, J z35] σ)) ?_
            refine T.iandw rfl ?_
            exact T.ireti rfl rfl ⟨_, rfl, rfl, by omega, by omega⟩
        · refine T.go 1 (fun n9 => (rfl : _ = exe ξ n9 d j_M_wordByte 49 [(0, J x), (1, J y), (2, JL 5567949153222872646), (4, JL 8358680908399640576), (6, JL 0)] [J 0] σ)) ?_
          exact T.ireti rfl rfl ⟨_, rfl, rfl, by omega, by omega⟩
  · refine T.go 4 (fun n9 => (rfl : _ = exe ξ n9 d j_M_wordByte 15 [(0, J x), (1, J y), (2, JL 7597120008391390328)] [J x] σ)) ?_
    refine T.if_ne rfl rfl (by omega) (fun c17 => ?_) (fun c17 => ?_)
    · refine T.go 3 (fun n9 => (rfl : _ = exe ξ n9 d j_M_wordByte 30 [(0, J x), (1, J y), (2, JL 7597120008391390328), (4, JL 3408452297481930067)] [J x] σ)) ?_
      refine T.if_ne rfl rfl (by omega) (fun c18 => ?_) (fun c18 => ?_)
      · refine T.go 4 (fun n9 => (rfl : _ = exe ξ n9 d j_M_wordByte 45 [(0, J x), (1, J y), (2, JL 7597120008391390328), (4, JL 3408452297481930067), (6, JL 6065870711157686272)] [J 23, J y] σ)) ?_
        refine T.icmp_le rfl rfl (by omega) (by omega) (fun c19 => ?_) (fun c19 => ?_)
        · refine T.go 2 (fun n9 => (rfl : _ = exe ξ n9 d j_M_wordByte 53 [(0, J x), (1, J y), (2, JL 7597120008391390328), (4, JL 3408452297481930067), (6, JL 6065870711157686272)] [J 8, J y] σ)) ?_
          refine T.icmp_ge rfl rfl (by omega) (by omega) (fun c20 => ?_) (fun c20 => ?_)
          · refine T.go 2 (fun n9 => (rfl : _ = exe ξ n9 d j_M_wordByte 63 [(0, J x), (1, J y), (2, JL 7597120008391390328), (4, JL 3408452297481930067), (6, JL 6065870711157686272)] [J 16, J y] σ)) ?_
            refine T.icmp_ge rfl rfl (by omega) (by omega) (fun c21 => ?_) (fun c21 => ?_)
            · refine T.go 7 (fun n9 => (rfl : _ = exe ξ n9 d j_M_wordByte 84 [(0, J x), (1, J y), (2, JL 7597120008391390328), (4, JL 3408452297481930067), (6, JL 6065870711157686272), (8, JL 6065870711157686272)] [J 8, J y, J 8, J 56, JL 6065870711157686272] σ)) ?_
              refine T.iremc (c := 8) rfl (by decide) (by omega) ?_
              refine T.imul rfl ?_
              refine T.isub rfl ?_
              refine T.some2 rfl rfl (fun z38 hzz38 hyz38 _ => ?_)
              refine T.l2i rfl ?_
              refine T.go 1 (fun n9 => (rfl : _ = exe ξ n9 d j_M_wordByte 92 [(0, J x), (1, J y), (2, JL 7597120008391390328), (4, JL 3408452297481930067), (6, JL 6065870711157686272), (8, JL 6065870711157686272)] [J 255, J z38] σ)) ?_
              refine T.iandw rfl ?_
              exact T.ireti rfl rfl ⟨_, rfl, rfl, by omega, by omega⟩
            · refine T.go 8 (fun n9 => (rfl : _ = exe ξ n9 d j_M_wordByte 84 [(0, J x), (1, J y), (2, JL 7597120008391390328), (4, JL 3408452297481930067), (6, JL 6065870711157686272), (8, JL 3408452297481930067)] [J 8, J y, J 8, J 56, JL 3408452297481930067] σ)) ?_
              refine T.iremc (c := 8) rfl (by decide) (by omega) ?_
              refine T.imul rfl ?_
              refine T.isub rfl ?_
              refine T.some2 rfl rfl (fun z41 hzz41 hyz41 _ => ?_)
              refine T.l2i rfl ?_
              refine T.go 1 (fun n9 => (rfl : _ = exe ξ n9 d j_M_wordByte 92 [(0, J x), (1, J y), (2, JL 7597120008391390328), (4, JL 3408452297481930067), (6, JL 6065870711157686272), (8, JL 3408452297481930067)] [J 255, J z41] σ)) ?_
              refine T.iandw rfl ?_
              exact T.ireti rfl rfl ⟨_, rfl, rfl, by omega, by omega⟩
          · refine T.go 8 (fun n9 => (rfl : _ = exe ξ n9 d j_M_wordByte 84 [(0, J x), (1, J y), (2, JL 7597120008391390328), (4, JL 3408452297481930067), (6, JL 6065870711157686272), (8, JL 7597120008391390328)] [J 8, J y, J 8, J 56, JL 7597120008391390328] σ)) ?_
            refine T.iremc (c := 8) rfl (by decide) (by omega) ?_
            refine T.imul rfl ?_
            refine T.isub rfl ?_
            refine T.some2 rfl rfl (fun z44 hzz44 hyz44 _ => ?_)
            refine T.l2i rfl ?_
            refine T.go 1 (fun n9 => (rfl : _ = exe ξ n9 d j_M_wordByte 92 [(0, J x), (1, J y), (2, JL 7597120008391390328), (4, JL 3408452297481930067), (6, JL 6065870711157686272), (8, JL 7597120008391390328)] [J 255, J z44] σ)) ?_
            refine T.iandw rfl ?_
            exact T.ireti rfl rfl ⟨_, rfl, rfl, by omega, by omega⟩
        · refine T.go 1 (fun n9 => (rfl : _ = exe ξ n9 d j_M_wordByte 49 [(0, J x), (1, J y), (2, JL 7597120008391390328), (4, JL 3408452297481930067), (6, JL 6065870711157686272)] [J 0] σ)) ?_
          exact T.ireti rfl rfl ⟨_, rfl, rfl, by omega, by omega⟩
      · refine T.go 5 (fun n9 => (rfl : _ = exe ξ n9 d j_M_wordByte 45 [(0, J x), (1, J y), (2, JL 7597120008391390328), (4, JL 3408452297481930067), (6, JL 0)] [J 23, J y] σ)) ?_
        refine T.icmp_le rfl rfl (by omega) (by omega) (fun c22 => ?_) (fun c22 => ?_)
        · refine T.go 2 (fun n9 => (rfl : _ = exe ξ n9 d j_M_wordByte 53 [(0, J x), (1, J y), (2, JL 7597120008391390328), (4, JL 3408452297481930067), (6, JL 0)] [J 8, J y] σ)) ?_
          refine T.icmp_ge rfl rfl (by omega) (by omega) (fun c23 => ?_) (fun c23 => ?_)
          · refine T.go 2 (fun n9 => (rfl : _ = exe ξ n9 d j_M_wordByte 63 [(0, J x), (1, J y), (2, JL 7597120008391390328), (4, JL 3408452297481930067), (6, JL 0)] [J 16, J y] σ)) ?_
            refine T.icmp_ge rfl rfl (by omega) (by omega) (fun c24 => ?_) (fun c24 => ?_)
            · refine T.go 7 (fun n9 => (rfl : _ = exe ξ n9 d j_M_wordByte 84 [(0, J x), (1, J y), (2, JL 7597120008391390328), (4, JL 3408452297481930067), (6, JL 0), (8, JL 0)] [J 8, J y, J 8, J 56, JL 0] σ)) ?_
              refine T.iremc (c := 8) rfl (by decide) (by omega) ?_
              refine T.imul rfl ?_
              refine T.isub rfl ?_
              refine T.some2 rfl rfl (fun z47 hzz47 hyz47 _ => ?_)
              refine T.l2i rfl ?_
              refine T.go 1 (fun n9 => (rfl : _ = exe ξ n9 d j_M_wordByte 92 [(0, J x), (1, J y), (2, JL 7597120008391390328), (4, JL 3408452297481930067), (6, JL 0), (8, JL 0)] [J 255, J z47] σ)) ?_
              refine T.iandw rfl ?_
              exact T.ireti rfl rfl ⟨_, rfl, rfl, by omega, by omega⟩
            · refine T.go 8 (fun n9 => (rfl : _ = exe ξ n9 d j_M_wordByte 84 [(0, J x), (1, J y), (2, JL 7597120008391390328), (4, JL 3408452297481930067), (6, JL 0), (8, JL 3408452297481930067)] [J 8, J y, J 8, J 56, JL 3408452297481930067] σ)) ?_
              refine T.iremc (c := 8) rfl (by decide) (by omega) ?_
              refine T.imul rfl ?_
              refine T.isub rfl ?_
              refine T.some2 rfl rfl (fun z50 hzz50 hyz50 _ => ?_)
              refine T.l2i rfl ?_
              refine T.go 1 (fun n9 => (rfl : _ = exe ξ n9 d j_M_wordByte 92 [(0, J x), (1, J y), (2, JL 7597120008391390328), (4, JL 3408452297481930067), (6, JL 0), (8, JL 3408452297481930067)] [J 255, J z50] σ)) ?_
              refine T.iandw rfl ?_
              exact T.ireti rfl rfl ⟨_, rfl, rfl, by omega, by omega⟩
          · refine T.go 8 (fun n9 => (rfl : _ = exe ξ n9 d j_M_wordByte 84 [(0, J x), (1, J y), (2, JL 7597120008391390328), (4, JL 3408452297481930067), (6, JL 0), (8, JL 7597120008391390328)] [J 8, J y, J 8, J 56, JL 7597120008391390328] σ)) ?_
            refine T.iremc (c := 8) rfl (by decide) (by omega) ?_
            refine T.imul rfl ?_
            refine T.isub rfl ?_
            refine T.some2 rfl rfl (fun z53 hzz53 hyz53 _ => ?_)
            refine T.l2i rfl ?_
            refine T.go 1 (fun n9 => (rfl : _ = exe ξ n9 d j_M_wordByte 92 [(0, J x), (1, J y), (2, JL 7597120008391390328), (4, JL 3408452297481930067), (6, JL 0), (8, JL 7597120008391390328)] [J 255, J z53] σ)) ?_
            refine T.iandw rfl ?_
            exact T.ireti rfl rfl ⟨_, rfl, rfl, by omega, by omega⟩
        · refine T.go 1 (fun n9 => (rfl : _ = exe ξ n9 d j_M_wordByte 49 [(0, J x), (1, J y), (2, JL 7597120008391390328), (4, JL 3408452297481930067), (6, JL 0)] [J 0] σ)) ?_
          exact T.ireti rfl rfl ⟨_, rfl, rfl, by omega, by omega⟩
    · refine T.go 4 (fun n9 => (rfl : _ = exe ξ n9 d j_M_wordByte 30 [(0, J x), (1, J y), (2, JL 7597120008391390328), (4, JL 8358680908399640576)] [J x] σ)) ?_
      refine T.if_ne rfl rfl (by omega) (fun c25 => ?_) (fun c25 => ?_)
      · refine T.go 4 (fun n9 => (rfl : _ = exe ξ n9 d j_M_wordByte 45 [(0, J x), (1, J y), (2, JL 7597120008391390328), (4, JL 8358680908399640576), (6, JL 6065870711157686272)] [J 23, J y] σ)) ?_
        refine T.icmp_le rfl rfl (by omega) (by omega) (fun c26 => ?_) (fun c26 => ?_)
        · refine T.go 2 (fun n9 => (rfl : _ = exe ξ n9 d j_M_wordByte 53 [(0, J x), (1, J y), (2, JL 7597120008391390328), (4, JL 8358680908399640576), (6, JL 6065870711157686272)] [J 8, J y] σ)) ?_
          refine T.icmp_ge rfl rfl (by omega) (by omega) (fun c27 => ?_) (fun c27 => ?_)
          · refine T.go 2 (fun n9 => (rfl : _ = exe ξ n9 d j_M_wordByte 63 [(0, J x), (1, J y), (2, JL 7597120008391390328), (4, JL 8358680908399640576), (6, JL 6065870711157686272)] [J 16, J y] σ)) ?_
            refine T.icmp_ge rfl rfl (by omega) (by omega) (fun c28 => ?_) (fun c28 => ?_)
            · refine T.go 7 (fun n9 => (rfl : _ = exe ξ n9 d j_M_wordByte 84 [(0, J x), (1, J y), (2, JL 7597120008391390328), (4, JL 8358680908399640576), (6, JL 6065870711157686272), (8, JL 6065870711157686272)] [J 8, J y, J 8, J 56, JL 6065870711157686272] σ)) ?_
              refine T.iremc (c := 8) rfl (by decide) (by omega) ?_
              refine T.imul rfl ?_
              refine T.isub rfl ?_
              refine T.some2 rfl rfl (fun z56 hzz56 hyz56 _ => ?_)
              refine T.l2i rfl ?_
              refine T.go 1 (fun n9 => (rfl : _ = exe ξ n9 d j_M_wordByte 92 [(0, J x), (1, J y), (2, JL 7597120008391390328), (4, JL 8358680908399640576), (6, JL 6065870711157686272), (8, JL 6065870711157686272)] [J 255, J z56] σ)) ?_
              refine T.iandw rfl ?_
              exact T.ireti rfl rfl ⟨_, rfl, rfl, by omega, by omega⟩
            · refine T.go 8 (fun n9 => (rfl : _ = exe ξ n9 d j_M_wordByte 84 [(0, J x), (1, J y), (2, JL 7597120008391390328), (4, JL 8358680908399640576), (6, JL 6065870711157686272), (8, JL 8358680908399640576)] [J 8, J y, J 8, J 56, JL 8358680908399640576] σ)) ?_
              refine T.iremc (c := 8) rfl (by decide) (by omega) ?_
              refine T.imul rfl ?_
              refine T.isub rfl ?_
              refine T.some2 rfl rfl (fun z59 hzz59 hyz59 _ => ?_)
              refine T.l2i rfl ?_
              refine T.go 1 (fun n9 => (rfl : _ = exe ξ n9 d j_M_wordByte 92 [(0, J x), (1, J y), (2, JL 7597120008391390328), (4, JL 8358680908399640576), (6, JL 6065870711157686272), (8, JL 8358680908399640576)] [J 255, J z59] σ)) ?_
              refine T.iandw rfl ?_
              exact T.ireti rfl rfl ⟨_, rfl, rfl, by omega, by omega⟩
          · refine T.go 8 (fun n9 => (rfl : _ = exe ξ n9 d j_M_wordByte 84 [(0, J x), (1, J y), (2, JL 7597120008391390328), (4, JL 8358680908399640576), (6, JL 6065870711157686272), (8, JL 7597120008391390328)] [J 8, J y, J 8, J 56, JL 7597120008391390328] σ)) ?_
            refine T.iremc (c := 8) rfl (by decide) (by omega) ?_
            refine T.imul rfl ?_
            refine T.isub rfl ?_
            refine T.some2 rfl rfl (fun z62 hzz62 hyz62 _ => ?_)
            refine T.l2i rfl ?_
            refine T.go 1 (fun n9 => (rfl : _ = exe ξ n9 d j_M_wordByte 92 [(0, J x), (1, J y), (2, JL 7597120008391390328), (4, JL 8358680908399640576), (6, JL 6065870711157686272), (8, JL 7597120008391390328)] [J 255, J z62] σ)) ?_
            refine T.iandw rfl ?_
            exact T.ireti rfl rfl ⟨_, rfl, rfl, by omega, by omega⟩
        · refine T.go 1 (fun n9 => (rfl : _ = exe ξ n9 d j_M_wordByte 49 [(0, J x), (1, J y), (2, JL 7597120008391390328), (4, JL 8358680908399640576), (6, JL 6065870711157686272)] [J 0] σ)) ?_
          exact T.ireti rfl rfl ⟨_, rfl, rfl, by omega, by omega⟩
      · refine T.go 5 (fun n9 => (rfl : _ = exe ξ n9 d j_M_wordByte 45 [(0, J x), (1, J y), (2, JL 7597120008391390328), (4, JL 8358680908399640576), (6, JL 0)] [J 23, J y] σ)) ?_
        refine T.icmp_le rfl rfl (by omega) (by omega) (fun c29 => ?_) (fun c29 => ?_)
        · refine T.go 2 (fun n9 => (rfl : _ = exe ξ n9 d j_M_wordByte 53 [(0, J x), (1, J y), (2, JL 7597120008391390328), (4, JL 8358680908399640576), (6, JL 0)] [J 8, J y] σ)) ?_
          refine T.icmp_ge rfl rfl (by omega) (by omega) (fun c30 => ?_) (fun c30 => ?_)
          · refine T.go 2 (fun n9 => (rfl : _ = exe ξ n9 d j_M_wordByte 63 [(0, J x), (1, J y), (2, JL 7597120008391390328), (4, JL 8358680908399640576), (6, JL 0)] [J 16, J y] σ)) ?_
            refine T.icmp_ge rfl rfl (by omega) (by omega) (fun c31 => ?_) (fun c31 => ?_)
            · refine T.go 7 (fun n9 => (rfl : _ = exe ξ n9 d j_M_wordByte 84 [(0, J x), (1, J y), (2, JL 7597120008391390328), (4, JL 8358680908399640576), (6, JL 0), (8, JL 0)] [J 8, J y, J 8, J 56, JL 0] σ)) ?_
              refine T.iremc (c := 8) rfl (by decide) (by omega) ?_
              refine T.imul rfl ?_
              refine T.isub rfl ?_
              refine T.some2 rfl rfl (fun z65 hzz65 hyz65 _ => ?_)
              refine T.l2i rfl ?_
              refine T.go 1 (fun n9 => (rfl : _ = exe ξ n9 d j_M_wordByte 92 [(0, J x), (1, J y), (2, JL 7597120008391390328), (4, JL 8358680908399640576), (6, JL 0), (8, JL 0)] [J 255, J z65] σ)) ?_
              refine T.iandw rfl ?_
              exact T.ireti rfl rfl ⟨_, rfl, rfl, by omega, by omega⟩
            · refine T.go 8 (fun n9 => (rfl : _ = exe ξ n9 d j_M_wordByte 84 [(0, J x), (1, J y), (2, JL 7597120008391390328), (4, JL 8358680908399640576), (6, JL 0), (8, JL 8358680908399640576)] [J 8, J y, J 8, J 56, JL 8358680908399640576] σ)) ?_
              refine T.iremc (c := 8) rfl (by decide) (by omega) ?_
              refine T.imul rfl ?_
              refine T.isub rfl ?_
              refine T.some2 rfl rfl (fun z68 hzz68 hyz68 _ => ?_)
              refine T.l2i rfl ?_
              refine T.go 1 (fun n9 => (rfl : _ = exe ξ n9 d j_M_wordByte 92 [(0, J x), (1, J y), (2, JL 7597120008391390328), (4, JL 8358680908399640576), (6, JL 0), (8, JL 8358680908399640576)] [J 255, J z68] σ)) ?_
              refine T.iandw rfl ?_
              exact T.ireti rfl rfl ⟨_, rfl, rfl, by omega, by omega⟩
          · refine T.go 8 (fun n9 => (rfl : _ = exe ξ n9 d j_M_wordByte 84 [(0, J x), (1, J y), (2, JL 7597120008391390328), (4, JL 8358680908399640576), (6, JL 0), (8, JL 7597120008391390328)] [J 8, J y, J 8, J 56, JL 7597120008391390328] σ)) ?_
            refine T.iremc (c := 8) rfl (by decide) (by omega) ?_
            refine T.imul rfl ?_
            refine T.isub rfl ?_
            refine T.some2 rfl rfl (fun z71 hzz71 hyz71 _ => ?_)
            refine T.l2i rfl ?_
            refine T.go 1 (fun n9 => (rfl : _ = exe ξ n9 d j_M_wordByte 92 [(0, J x), (1, J y), (2, JL 7597120008391390328), (4, JL 8358680908399640576), (6, JL 0), (8, JL 7597120008391390328)] [J 255, J z71] σ)) ?_
            refine T.iandw rfl ?_
            exact T.ireti rfl rfl ⟨_, rfl, rfl, by omega, by omega⟩
        · refine T.go 1 (fun n9 => (rfl : _ = exe ξ n9 d j_M_wordByte 49 [(0, J x), (1, J y), (2, JL 7597120008391390328), (4, JL 8358680908399640576), (6, JL 0)] [J 0] σ)) ?_
          exact T.ireti rfl rfl ⟨_, rfl, rfl, by omega, by omega⟩

set_option maxHeartbeats 4000000 in
theorem s_M_listNamed {ξ : Nat → Option (Nat × List Int32)} {c io mo fa pl ns rw en wy wh bi ed sz md bd li wk we : Int} {Lc : List Int64} {la lm ln lh ld lk lt : List Int32} (d : Nat) (x : Int) (σ : qH) (hM : MS σ c io mo fa pl ns rw en wy wh bi ed sz md bd li wk we Lc la lm ln lh ld lk lt) (rx : -2147483648 ≤ x ∧ x ≤ 2147483647) : T ξ (d + 3) j_M_listNamed 0 (lv_args 0 [.ref 137, J x]) [] σ (fun v σ' => ∃ (z : Int), v = some (J z) ∧ σ' = σ ∧ -1 ≤ z ∧ z ≤ 64 ∧ (z < en ∨ z = -1)) := by
  have r0 := hM.rg
  have n0 := hM.len
  have loop14 : ∀ (f14 : Nat) (n : Int) (k : Int), 0 ≤ n → n ≤ 20 → 0 ≤ k → k ≤ en → (en - k).toNat < f14 → T ξ (d + 3) j_M_listNamed 14 [(0, .ref 137), (1, J x), (2, J n), (3, J k)] [] σ (fun v σ' => ∃ (z : Int), v = some (J z) ∧ σ' = σ ∧ -1 ≤ z ∧ z ≤ 64 ∧ (z < en ∨ z = -1)) := by
    intro f14
    induction f14 with
    | zero => intro n k i0 i1 i2 i3 hm14; omega
    | succ f14 ih14 =>
      intro n k i0 i1 i2 i3 hm14
      have loop41 : ∀ (f41 : Nat) (q4 : Int) (i : Int), 0 ≤ q4 → q4 ≤ 1 → 0 ≤ i → i ≤ n → k < en → (n - i).toNat < f41 → T ξ (d + 3) j_M_listNamed 41 [(0, .ref 137), (1, J x), (2, J n), (3, J k), (4, J q4), (5, J i)] [] σ (fun v σ' => ∃ (z : Int), v = some (J z) ∧ σ' = σ ∧ -1 ≤ z ∧ z ≤ 64 ∧ (z < en ∨ z = -1)) := by
        intro f41
        induction f41 with
        | zero => intro q4 i j0 j1 j2 j3 j4 hm41; omega
        | succ f41 ih41 =>
          intro q4 i j0 j1 j2 j3 j4 hm41
          refine T.go 2 (fun n9 => (rfl : _ = exe ξ n9 (d + 3) j_M_listNamed 44 [(0, .ref 137), (1, J x), (2, J n), (3, J k), (4, J q4), (5, J i)] [J n, J i] σ)) ?_
          refine T.icmp_ge rfl rfl (by omega) (by omega) (fun c1 => ?_) (fun c1 => ?_)
          · refine T.go 1 (fun n9 => (rfl : _ = exe ξ n9 (d + 3) j_M_listNamed 96 [(0, .ref 137), (1, J x), (2, J n), (3, J k), (4, J q4), (5, J i)] [J q4] σ)) ?_
            refine T.if_eq rfl rfl (by omega) (fun c2 => ?_) (fun c2 => ?_)
            · refine T.iinc (lv' := [(0, .ref 137), (1, J x), (2, J n), (3, J (k + 1)), (4, J q4), (5, J i)]) rfl rfl rfl rfl ?_
              refine T.go 1 (fun n9 => (rfl : _ = exe ξ n9 (d + 3) j_M_listNamed 14 [(0, .ref 137), (1, J x), (2, J n), (3, J (k + 1)), (4, J q4), (5, J i)] [] σ)) ?_
              refine T.drop (lv := [(0, .ref 137), (1, J x), (2, J n), (3, J (k + 1))]) [(4, J q4), (5, J i)] (by simp) ?_
              exact ih14  n (k + 1)  (by omega) (by omega) (by omega) (by omega) (by omega)
            · refine T.go 1 (fun n9 => (rfl : _ = exe ξ n9 (d + 3) j_M_listNamed 100 [(0, .ref 137), (1, J x), (2, J n), (3, J k), (4, J q4), (5, J i)] [J k] σ)) ?_
              exact T.ireti rfl rfl ⟨_, rfl, rfl, by omega, by omega, by omega⟩
          · refine T.go 1 (fun n9 => (rfl : _ = exe ξ n9 (d + 3) j_M_listNamed 49 [(0, .ref 137), (1, J x), (2, J n), (3, J k), (4, J q4), (5, J i)] [J q4] σ)) ?_
            refine T.if_eq rfl rfl (by omega) (fun c3 => ?_) (fun c3 => ?_)
            · refine T.go 1 (fun n9 => (rfl : _ = exe ξ n9 (d + 3) j_M_listNamed 96 [(0, .ref 137), (1, J x), (2, J n), (3, J k), (4, J q4), (5, J i)] [J q4] σ)) ?_
              refine T.if_eq rfl rfl (by omega) (fun c4 => ?_) (fun c4 => ?_)
              · refine T.iinc (lv' := [(0, .ref 137), (1, J x), (2, J n), (3, J (k + 1)), (4, J q4), (5, J i)]) rfl rfl rfl rfl ?_
                refine T.go 1 (fun n9 => (rfl : _ = exe ξ n9 (d + 3) j_M_listNamed 14 [(0, .ref 137), (1, J x), (2, J n), (3, J (k + 1)), (4, J q4), (5, J i)] [] σ)) ?_
                refine T.drop (lv := [(0, .ref 137), (1, J x), (2, J n), (3, J (k + 1))]) [(4, J q4), (5, J i)] (by simp) ?_
                exact ih14  n (k + 1)  (by omega) (by omega) (by omega) (by omega) (by omega)
              · refine T.go 1 (fun n9 => (rfl : _ = exe ξ n9 (d + 3) j_M_listNamed 100 [(0, .ref 137), (1, J x), (2, J n), (3, J k), (4, J q4), (5, J i)] [J k] σ)) ?_
                exact T.ireti rfl rfl ⟨_, rfl, rfl, by omega, by omega, by omega⟩
            · refine T.go 2 (fun n9 => (rfl : _ = exe ξ n9 (d + 3) j_M_listNamed 54 [(0, .ref 137), (1, J x), (2, J n), (3, J k), (4, J q4), (5, J i)] [.ref 137, .ref 137] σ)) ?_
              refine T.get rfl rfl rfl hM.ob rfl ?_
              refine T.go 1 (fun n9 => (rfl : _ = exe ξ n9 (d + 3) j_M_listNamed 58 [(0, .ref 137), (1, J x), (2, J n), (3, J k), (4, J q4), (5, J i)] [.ref 137, J rw, .ref 137] σ)) ?_
              refine T.get rfl rfl rfl hM.ob rfl ?_
              refine T.go 1 (fun n9 => (rfl : _ = exe ξ n9 (d + 3) j_M_listNamed 62 [(0, .ref 137), (1, J x), (2, J n), (3, J k), (4, J q4), (5, J i)] [J k, .ref 142, J rw, .ref 137] σ)) ?_
              refine T.iald rfl rfl hM.c142 (by omega) (fun z1 hzz1 hyz1 hez1 => ?_)
              have hbz1 := hM.b142.at hez1 ⟨hzz1, hyz1⟩
              have gzz1 := gl_of hez1 ⟨hzz1, hyz1⟩
              subst gzz1
              refine T.go 1 (fun n9 => (rfl : _ = exe ξ n9 (d + 3) j_M_listNamed 65 [(0, .ref 137), (1, J x), (2, J n), (3, J k), (4, J q4), (5, J i)] [J 46, J (gl lh k), J rw, .ref 137] σ)) ?_
              refine T.iadd rfl ?_
              refine T.go 1 (fun n9 => (rfl : _ = exe ξ n9 (d + 3) j_M_listNamed 68 [(0, .ref 137), (1, J x), (2, J n), (3, J k), (4, J q4), (5, J i)] [J i, J ((gl lh k) + 46), J rw, .ref 137] σ)) ?_
              refine T.iadd rfl ?_
              refine T.callv (as := [J rw, J (((gl lh k) + 46) + i)]) (r := []) rfl rfl rfl rfl hM.ob rfl (s_M_get (d + 2) rw (((gl lh k) + 46) + i) σ hM (by omega)) (fun v1 s1 hqs1 => ?_)
              obtain ⟨z2, rfl, esz2, hzz2, hyz2, pz2_0⟩ := hqs1
              rw [esz2]
              refine T.go 2 (fun n9 => (rfl : _ = exe ξ n9 (d + 3) j_M_listNamed 75 [(0, .ref 137), (1, J x), (2, J n), (3, J k), (4, J q4), (5, J i)] [J i, J x, J z2] σ)) ?_
              refine T.calls (as := [J x, J i]) (r := [J z2]) rfl rfl (by decide) rfl rfl (s_M_wordByte (d + 2) x i σ (by omega) (by omega) (by omega)) (fun v2 s2 hqs2 => ?_)
              obtain ⟨z3, rfl, esz3, hzz3, hyz3⟩ := hqs2
              rw [esz3]
              refine T.icmp_ne rfl rfl (by omega) (by omega) (fun c5 => ?_) (fun c5 => ?_)
              · refine T.go 2 (fun n9 => (rfl : _ = exe ξ n9 (d + 3) j_M_listNamed 88 [(0, .ref 137), (1, J x), (2, J n), (3, J k), (4, J 0), (5, J i)] [] σ)) ?_
                refine T.iinc (lv' := [(0, .ref 137), (1, J x), (2, J n), (3, J k), (4, J 0), (5, J (i + 1))]) rfl rfl rfl rfl ?_
                refine T.go 1 (fun n9 => (rfl : _ = exe ξ n9 (d + 3) j_M_listNamed 41 [(0, .ref 137), (1, J x), (2, J n), (3, J k), (4, J 0), (5, J (i + 1))] [] σ)) ?_
                exact ih41  0 (i + 1)  (by omega) (by omega) (by omega) (by omega) (by omega) (by omega)
              · refine T.go 3 (fun n9 => (rfl : _ = exe ξ n9 (d + 3) j_M_listNamed 88 [(0, .ref 137), (1, J x), (2, J n), (3, J k), (4, J 1), (5, J i)] [] σ)) ?_
                refine T.iinc (lv' := [(0, .ref 137), (1, J x), (2, J n), (3, J k), (4, J 1), (5, J (i + 1))]) rfl rfl rfl rfl ?_
                refine T.go 1 (fun n9 => (rfl : _ = exe ξ n9 (d + 3) j_M_listNamed 41 [(0, .ref 137), (1, J x), (2, J n), (3, J k), (4, J 1), (5, J (i + 1))] [] σ)) ?_
                exact ih41  1 (i + 1)  (by omega) (by omega) (by omega) (by omega) (by omega) (by omega)
      refine T.go 2 (fun n9 => (rfl : _ = exe ξ n9 (d + 3) j_M_listNamed 16 [(0, .ref 137), (1, J x), (2, J n), (3, J k)] [.ref 137, J k] σ)) ?_
      refine T.get rfl rfl rfl hM.ob rfl ?_
      refine T.icmp_ge rfl rfl (by omega) (by omega) (fun c6 => ?_) (fun c6 => ?_)
      · refine T.go 1 (fun n9 => (rfl : _ = exe ξ n9 (d + 3) j_M_listNamed 108 [(0, .ref 137), (1, J x), (2, J n), (3, J k)] [J (-1)] σ)) ?_
        exact T.ireti rfl rfl ⟨_, rfl, rfl, by omega, by omega, by omega⟩
      · refine T.go 2 (fun n9 => (rfl : _ = exe ξ n9 (d + 3) j_M_listNamed 24 [(0, .ref 137), (1, J x), (2, J n), (3, J k)] [J k, .ref 137] σ)) ?_
        refine T.callv (as := [J k]) (r := []) rfl rfl rfl rfl hM.ob rfl (s_M_nameLength d k σ hM (by omega) (by omega) (by omega)) (fun v3 s3 hqs3 => ?_)
        obtain ⟨z4, rfl, esz4, hzz4, hyz4, pz4_0⟩ := hqs3
        rw [esz4]
        refine T.go 1 (fun n9 => (rfl : _ = exe ξ n9 (d + 3) j_M_listNamed 28 [(0, .ref 137), (1, J x), (2, J n), (3, J k)] [J n, J z4] σ)) ?_
        refine T.icmp_ne rfl rfl (by omega) (by omega) (fun c7 => ?_) (fun c7 => ?_)
        · refine T.go 4 (fun n9 => (rfl : _ = exe ξ n9 (d + 3) j_M_listNamed 41 [(0, .ref 137), (1, J x), (2, J n), (3, J k), (4, J 0), (5, J 0)] [] σ)) ?_
          exact loop41 _ 0 0  (by omega) (by omega) (by omega) (by omega) (by omega) (Nat.lt_succ_self _)
        · refine T.go 5 (fun n9 => (rfl : _ = exe ξ n9 (d + 3) j_M_listNamed 41 [(0, .ref 137), (1, J x), (2, J n), (3, J k), (4, J 1), (5, J 0)] [] σ)) ?_
          exact loop41 _ 1 0  (by omega) (by omega) (by omega) (by omega) (by omega) (Nat.lt_succ_self _)
  refine T.go 1 (fun n9 => (rfl : _ = exe ξ n9 (d + 3) j_M_listNamed 1 [(0, .ref 137), (1, J x)] [J x] σ)) ?_
  refine T.if_ne rfl rfl (by omega) (fun c8 => ?_) (fun c8 => ?_)
  · refine T.go 4 (fun n9 => (rfl : _ = exe ξ n9 (d + 3) j_M_listNamed 14 [(0, .ref 137), (1, J x), (2, J 20), (3, J 0)] [] σ)) ?_
    exact loop14 _ 20 0  (by omega) (by omega) (by omega) (by omega) (Nat.lt_succ_self _)
  · refine T.go 5 (fun n9 => (rfl : _ = exe ξ n9 (d + 3) j_M_listNamed 14 [(0, .ref 137), (1, J x), (2, J 9), (3, J 0)] [] σ)) ?_
    exact loop14 _ 9 0  (by omega) (by omega) (by omega) (by omega) (Nat.lt_succ_self _)

set_option maxHeartbeats 4000000 in
theorem s_M_small2 {ξ : Nat → Option (Nat × List Int32)} (d : Nat) (x : Int) (σ : qH) (rx : -2147483648 ≤ x ∧ x ≤ 2147483647) : T ξ (d + 1) j_M_small 0 (lv_args 0 [J x]) [] σ (fun v σ' => ∃ (z : Int), v = some (J z) ∧ σ' = σ ∧ -2147483648 ≤ z ∧ z ≤ 2147483647) := by
  refine T.go 3 (fun n9 => (rfl : _ = exe ξ n9 (d + 1) j_M_small 5 [(0, J x)] [J 90, J 65, J x] σ)) ?_
  refine T.calls (as := [J x, J 65, J 90]) (r := []) rfl rfl (by decide) rfl rfl (s_M_in d x 65 90 σ (by omega) (by omega) (by omega)) (fun v1 s1 hqs1 => ?_)
  obtain ⟨z1, rfl, esz1, hzz1, hyz1, pz1_0, pz1_1⟩ := hqs1
  rw [esz1]
  refine T.if_eq rfl rfl (by omega) (fun c1 => ?_) (fun c1 => ?_)
  · refine T.go 1 (fun n9 => (rfl : _ = exe ξ n9 (d + 1) j_M_small 19 [(0, J x)] [J x] σ)) ?_
    exact T.ireti rfl rfl ⟨_, rfl, rfl, by omega, by omega⟩
  · refine T.go 2 (fun n9 => (rfl : _ = exe ξ n9 (d + 1) j_M_small 14 [(0, J x)] [J 32, J x] σ)) ?_
    refine T.iadd rfl ?_
    refine T.go 1 (fun n9 => (rfl : _ = exe ξ n9 (d + 1) j_M_small 19 [(0, J x)] [J (x + 32)] σ)) ?_
    exact T.ireti rfl rfl ⟨_, rfl, rfl, by omega, by omega⟩

set_option maxHeartbeats 4000000 in
theorem s_M_lineEnd {ξ : Nat → Option (Nat × List Int32)} {c io mo fa pl ns rw en wy wh bi ed sz md bd li wk we : Int} {Lc : List Int64} {la lm ln lh ld lk lt : List Int32} (d : Nat) (x : Int) (σ : qH) (hM : MS σ c io mo fa pl ns rw en wy wh bi ed sz md bd li wk we Lc la lm ln lh ld lk lt) (rx : -2147483648 ≤ x ∧ x ≤ 2147483647) (pre0 : 0 ≤ x) (pre1 : x ≤ 8001) : T ξ (d + 1) j_M_lineEnd 0 (lv_args 0 [.ref 137, J x]) [] σ (fun v σ' => ∃ (z : Int), v = some (J z) ∧ σ' = σ ∧ 0 ≤ z ∧ z ≤ 8001 ∧ x ≤ z ∧ (z ≤ x ∨ z ≤ gl la 5)) := by
  have r0 := hM.rg
  have n0 := hM.len
  have loop2 : ∀ (f2 : Nat) (k : Int), x ≤ k → (k ≤ x ∨ k ≤ gl la 5) → (gl la 5 - k).toNat < f2 → T ξ (d + 1) j_M_lineEnd 2 [(0, .ref 137), (1, J x), (2, J k)] [] σ (fun v σ' => ∃ (z : Int), v = some (J z) ∧ σ' = σ ∧ 0 ≤ z ∧ z ≤ 8001 ∧ x ≤ z ∧ (z ≤ x ∨ z ≤ gl la 5)) := by
    intro f2
    induction f2 with
    | zero => intro k i0 i1 hm2; omega
    | succ f2 ih2 =>
      intro k i0 i1 hm2
      refine T.go 2 (fun n9 => (rfl : _ = exe ξ n9 (d + 1) j_M_lineEnd 4 [(0, .ref 137), (1, J x), (2, J k)] [.ref 137, J k] σ)) ?_
      refine T.get rfl rfl rfl hM.ob rfl ?_
      refine T.go 1 (fun n9 => (rfl : _ = exe ξ n9 (d + 1) j_M_lineEnd 8 [(0, .ref 137), (1, J x), (2, J k)] [J 5, .ref 139, J k] σ)) ?_
      refine T.iald rfl rfl hM.c139 (by omega) (fun z1 hzz1 hyz1 hez1 => ?_)
      have hbz1 := hM.b139.at hez1 ⟨hzz1, hyz1⟩
      have gzz1 := gl_of hez1 ⟨hzz1, hyz1⟩
      subst gzz1
      refine T.icmp_ge rfl rfl (by omega) (by omega) (fun c1 => ?_) (fun c1 => ?_)
      · refine T.go 2 (fun n9 => (rfl : _ = exe ξ n9 (d + 1) j_M_lineEnd 31 [(0, .ref 137), (1, J x), (2, J k)] [.ref 137, J k] σ)) ?_
        refine T.get rfl rfl rfl hM.ob rfl ?_
        refine T.go 1 (fun n9 => (rfl : _ = exe ξ n9 (d + 1) j_M_lineEnd 35 [(0, .ref 137), (1, J x), (2, J k)] [J 5, .ref 139, J k] σ)) ?_
        refine T.iald rfl rfl hM.c139 (by omega) (fun z2 hzz2 hyz2 hez2 => ?_)
        have hbz2 := hM.b139.at hez2 ⟨hzz2, hyz2⟩
        have gzz2 := gl_of hez2 ⟨hzz2, hyz2⟩
        subst gzz2
        refine T.icmp_ge rfl rfl (by omega) (by omega) (fun c2 => ?_) (fun c2 => ?_)
        · refine T.go 1 (fun n9 => (rfl : _ = exe ξ n9 (d + 1) j_M_lineEnd 64 [(0, .ref 137), (1, J x), (2, J k)] [J k] σ)) ?_
          exact T.ireti rfl rfl ⟨_, rfl, rfl, by omega, by omega, by omega, by omega⟩
        · refine T.go 2 (fun n9 => (rfl : _ = exe ξ n9 (d + 1) j_M_lineEnd 41 [(0, .ref 137), (1, J x), (2, J k)] [J x, J k] σ)) ?_
          refine T.icmp_le rfl rfl (by omega) (by omega) (fun c3 => ?_) (fun c3 => ?_)
          · refine T.go 1 (fun n9 => (rfl : _ = exe ξ n9 (d + 1) j_M_lineEnd 64 [(0, .ref 137), (1, J x), (2, J k)] [J k] σ)) ?_
            exact T.ireti rfl rfl ⟨_, rfl, rfl, by omega, by omega, by omega, by omega⟩
          · refine T.go 4 (fun n9 => (rfl : _ = exe ξ n9 (d + 1) j_M_lineEnd 48 [(0, .ref 137), (1, J x), (2, J k)] [J 1, J k, J 5, .ref 137] σ)) ?_
            refine T.isub rfl ?_
            refine T.callv (as := [J 5, J (k - 1)]) (r := []) rfl rfl rfl rfl hM.ob rfl (s_M_get d 5 (k - 1) σ hM (by omega)) (fun v1 s1 hqs1 => ?_)
            obtain ⟨z3, rfl, esz3, hzz3, hyz3, pz3_0⟩ := hqs1
            rw [esz3]
            refine T.go 1 (fun n9 => (rfl : _ = exe ξ n9 (d + 1) j_M_lineEnd 54 [(0, .ref 137), (1, J x), (2, J k)] [J 13, J z3] σ)) ?_
            refine T.icmp_ne rfl rfl (by omega) (by omega) (fun c4 => ?_) (fun c4 => ?_)
            · refine T.go 1 (fun n9 => (rfl : _ = exe ξ n9 (d + 1) j_M_lineEnd 64 [(0, .ref 137), (1, J x), (2, J k)] [J k] σ)) ?_
              exact T.ireti rfl rfl ⟨_, rfl, rfl, by omega, by omega, by omega, by omega⟩
            · refine T.go 2 (fun n9 => (rfl : _ = exe ξ n9 (d + 1) j_M_lineEnd 59 [(0, .ref 137), (1, J x), (2, J k)] [J 1, J k] σ)) ?_
              refine T.isub rfl ?_
              refine T.go 1 (fun n9 => (rfl : _ = exe ξ n9 (d + 1) j_M_lineEnd 64 [(0, .ref 137), (1, J x), (2, J k)] [J (k - 1)] σ)) ?_
              exact T.ireti rfl rfl ⟨_, rfl, rfl, by omega, by omega, by omega, by omega⟩
      · refine T.go 3 (fun n9 => (rfl : _ = exe ξ n9 (d + 1) j_M_lineEnd 15 [(0, .ref 137), (1, J x), (2, J k)] [J k, J 5, .ref 137] σ)) ?_
        refine T.callv (as := [J 5, J k]) (r := []) rfl rfl rfl rfl hM.ob rfl (s_M_get d 5 k σ hM (by omega)) (fun v2 s2 hqs2 => ?_)
        obtain ⟨z4, rfl, esz4, hzz4, hyz4, pz4_0⟩ := hqs2
        rw [esz4]
        refine T.go 1 (fun n9 => (rfl : _ = exe ξ n9 (d + 1) j_M_lineEnd 20 [(0, .ref 137), (1, J x), (2, J k)] [J 10, J z4] σ)) ?_
        refine T.icmp_eq rfl rfl (by omega) (by omega) (fun c5 => ?_) (fun c5 => ?_)
        · refine T.go 2 (fun n9 => (rfl : _ = exe ξ n9 (d + 1) j_M_lineEnd 31 [(0, .ref 137), (1, J x), (2, J k)] [.ref 137, J k] σ)) ?_
          refine T.get rfl rfl rfl hM.ob rfl ?_
          refine T.go 1 (fun n9 => (rfl : _ = exe ξ n9 (d + 1) j_M_lineEnd 35 [(0, .ref 137), (1, J x), (2, J k)] [J 5, .ref 139, J k] σ)) ?_
          refine T.iald rfl rfl hM.c139 (by omega) (fun z5 hzz5 hyz5 hez5 => ?_)
          have hbz5 := hM.b139.at hez5 ⟨hzz5, hyz5⟩
          have gzz5 := gl_of hez5 ⟨hzz5, hyz5⟩
          subst gzz5
          refine T.icmp_ge rfl rfl (by omega) (by omega) (fun c6 => ?_) (fun c6 => ?_)
          · refine T.go 1 (fun n9 => (rfl : _ = exe ξ n9 (d + 1) j_M_lineEnd 64 [(0, .ref 137), (1, J x), (2, J k)] [J k] σ)) ?_
            exact T.ireti rfl rfl ⟨_, rfl, rfl, by omega, by omega, by omega, by omega⟩
          · refine T.go 2 (fun n9 => (rfl : _ = exe ξ n9 (d + 1) j_M_lineEnd 41 [(0, .ref 137), (1, J x), (2, J k)] [J x, J k] σ)) ?_
            refine T.icmp_le rfl rfl (by omega) (by omega) (fun c7 => ?_) (fun c7 => ?_)
            · refine T.go 1 (fun n9 => (rfl : _ = exe ξ n9 (d + 1) j_M_lineEnd 64 [(0, .ref 137), (1, J x), (2, J k)] [J k] σ)) ?_
              exact T.ireti rfl rfl ⟨_, rfl, rfl, by omega, by omega, by omega, by omega⟩
            · refine T.go 4 (fun n9 => (rfl : _ = exe ξ n9 (d + 1) j_M_lineEnd 48 [(0, .ref 137), (1, J x), (2, J k)] [J 1, J k, J 5, .ref 137] σ)) ?_
              refine T.isub rfl ?_
              refine T.callv (as := [J 5, J (k - 1)]) (r := []) rfl rfl rfl rfl hM.ob rfl (s_M_get d 5 (k - 1) σ hM (by omega)) (fun v3 s3 hqs3 => ?_)
              obtain ⟨z6, rfl, esz6, hzz6, hyz6, pz6_0⟩ := hqs3
              rw [esz6]
              refine T.go 1 (fun n9 => (rfl : _ = exe ξ n9 (d + 1) j_M_lineEnd 54 [(0, .ref 137), (1, J x), (2, J k)] [J 13, J z6] σ)) ?_
              refine T.icmp_ne rfl rfl (by omega) (by omega) (fun c8 => ?_) (fun c8 => ?_)
              · refine T.go 1 (fun n9 => (rfl : _ = exe ξ n9 (d + 1) j_M_lineEnd 64 [(0, .ref 137), (1, J x), (2, J k)] [J k] σ)) ?_
                exact T.ireti rfl rfl ⟨_, rfl, rfl, by omega, by omega, by omega, by omega⟩
              · refine T.go 2 (fun n9 => (rfl : _ = exe ξ n9 (d + 1) j_M_lineEnd 59 [(0, .ref 137), (1, J x), (2, J k)] [J 1, J k] σ)) ?_
                refine T.isub rfl ?_
                refine T.go 1 (fun n9 => (rfl : _ = exe ξ n9 (d + 1) j_M_lineEnd 64 [(0, .ref 137), (1, J x), (2, J k)] [J (k - 1)] σ)) ?_
                exact T.ireti rfl rfl ⟨_, rfl, rfl, by omega, by omega, by omega, by omega⟩
        · refine T.iinc (lv' := [(0, .ref 137), (1, J x), (2, J (k + 1))]) rfl rfl rfl rfl ?_
          refine T.go 1 (fun n9 => (rfl : _ = exe ξ n9 (d + 1) j_M_lineEnd 2 [(0, .ref 137), (1, J x), (2, J (k + 1))] [] σ)) ?_
          exact ih2  (k + 1)  (by omega) (by omega) (by omega)
  refine T.go 2 (fun n9 => (rfl : _ = exe ξ n9 (d + 1) j_M_lineEnd 2 [(0, .ref 137), (1, J x), (2, J x)] [] σ)) ?_
  exact loop2 _ x  (by omega) (by omega) (Nat.lt_succ_self _)

set_option maxHeartbeats 4000000 in
theorem s_M_nextLine {ξ : Nat → Option (Nat × List Int32)} {c io mo fa pl ns rw en wy wh bi ed sz md bd li wk we : Int} {Lc : List Int64} {la lm ln lh ld lk lt : List Int32} (d : Nat) (x : Int) (σ : qH) (hM : MS σ c io mo fa pl ns rw en wy wh bi ed sz md bd li wk we Lc la lm ln lh ld lk lt) (rx : -2147483648 ≤ x ∧ x ≤ 2147483647) (pre0 : 0 ≤ x) (pre1 : x ≤ 8001) : T ξ (d + 1) j_M_nextLine 0 (lv_args 0 [.ref 137, J x]) [] σ (fun v σ' => ∃ (z : Int), v = some (J z) ∧ σ' = σ ∧ 1 ≤ z ∧ z ≤ 8002 ∧ x + 1 ≤ z ∧ (z ≤ x + 1 ∨ z ≤ gl la 5 + 1)) := by
  have r0 := hM.rg
  have n0 := hM.len
  have loop2 : ∀ (f2 : Nat) (k : Int), x ≤ k → (k ≤ x ∨ k ≤ gl la 5) → (gl la 5 - k).toNat < f2 → T ξ (d + 1) j_M_nextLine 2 [(0, .ref 137), (1, J x), (2, J k)] [] σ (fun v σ' => ∃ (z : Int), v = some (J z) ∧ σ' = σ ∧ 1 ≤ z ∧ z ≤ 8002 ∧ x + 1 ≤ z ∧ (z ≤ x + 1 ∨ z ≤ gl la 5 + 1)) := by
    intro f2
    induction f2 with
    | zero => intro k i0 i1 hm2; omega
    | succ f2 ih2 =>
      intro k i0 i1 hm2
      refine T.go 2 (fun n9 => (rfl : _ = exe ξ n9 (d + 1) j_M_nextLine 4 [(0, .ref 137), (1, J x), (2, J k)] [.ref 137, J k] σ)) ?_
      refine T.get rfl rfl rfl hM.ob rfl ?_
      refine T.go 1 (fun n9 => (rfl : _ = exe ξ n9 (d + 1) j_M_nextLine 8 [(0, .ref 137), (1, J x), (2, J k)] [J 5, .ref 139, J k] σ)) ?_
      refine T.iald rfl rfl hM.c139 (by omega) (fun z1 hzz1 hyz1 hez1 => ?_)
      have hbz1 := hM.b139.at hez1 ⟨hzz1, hyz1⟩
      have gzz1 := gl_of hez1 ⟨hzz1, hyz1⟩
      subst gzz1
      refine T.icmp_ge rfl rfl (by omega) (by omega) (fun c1 => ?_) (fun c1 => ?_)
      · refine T.go 2 (fun n9 => (rfl : _ = exe ξ n9 (d + 1) j_M_nextLine 31 [(0, .ref 137), (1, J x), (2, J k)] [J 1, J k] σ)) ?_
        refine T.iadd rfl ?_
        exact T.ireti rfl rfl ⟨_, rfl, rfl, by omega, by omega, by omega, by omega⟩
      · refine T.go 3 (fun n9 => (rfl : _ = exe ξ n9 (d + 1) j_M_nextLine 15 [(0, .ref 137), (1, J x), (2, J k)] [J k, J 5, .ref 137] σ)) ?_
        refine T.callv (as := [J 5, J k]) (r := []) rfl rfl rfl rfl hM.ob rfl (s_M_get d 5 k σ hM (by omega)) (fun v1 s1 hqs1 => ?_)
        obtain ⟨z2, rfl, esz2, hzz2, hyz2, pz2_0⟩ := hqs1
        rw [esz2]
        refine T.go 1 (fun n9 => (rfl : _ = exe ξ n9 (d + 1) j_M_nextLine 20 [(0, .ref 137), (1, J x), (2, J k)] [J 10, J z2] σ)) ?_
        refine T.icmp_eq rfl rfl (by omega) (by omega) (fun c2 => ?_) (fun c2 => ?_)
        · refine T.go 2 (fun n9 => (rfl : _ = exe ξ n9 (d + 1) j_M_nextLine 31 [(0, .ref 137), (1, J x), (2, J k)] [J 1, J k] σ)) ?_
          refine T.iadd rfl ?_
          exact T.ireti rfl rfl ⟨_, rfl, rfl, by omega, by omega, by omega, by omega⟩
        · refine T.iinc (lv' := [(0, .ref 137), (1, J x), (2, J (k + 1))]) rfl rfl rfl rfl ?_
          refine T.go 1 (fun n9 => (rfl : _ = exe ξ n9 (d + 1) j_M_nextLine 2 [(0, .ref 137), (1, J x), (2, J (k + 1))] [] σ)) ?_
          exact ih2  (k + 1)  (by omega) (by omega) (by omega)
  refine T.go 2 (fun n9 => (rfl : _ = exe ξ n9 (d + 1) j_M_nextLine 2 [(0, .ref 137), (1, J x), (2, J x)] [] σ)) ?_
  exact loop2 _ x  (by omega) (by omega) (Nat.lt_succ_self _)

set_option maxHeartbeats 4000000 in
theorem s_M_isLong {ξ : Nat → Option (Nat × List Int32)} {c io mo fa pl ns rw en wy wh bi ed sz md bd li wk we : Int} {Lc : List Int64} {la lm ln lh ld lk lt : List Int32} (d : Nat)  (σ : qH) (hM : MS σ c io mo fa pl ns rw en wy wh bi ed sz md bd li wk we Lc la lm ln lh ld lk lt)  : T ξ (d + 2) j_M_isLong 0 (lv_args 0 [.ref 137]) [] σ (fun v σ' => ∃ (z : Int), v = some (J z) ∧ σ' = σ ∧ 0 ≤ z ∧ z ≤ 1) := by
  have r0 := hM.rg
  have n0 := hM.len
  have loop2 : ∀ (f2 : Nat) (k : Int), 0 ≤ k → k ≤ 8001 → (gl la 5 - k).toNat < f2 → T ξ (d + 2) j_M_isLong 2 [(0, .ref 137), (1, J k)] [] σ (fun v σ' => ∃ (z : Int), v = some (J z) ∧ σ' = σ ∧ 0 ≤ z ∧ z ≤ 1) := by
    intro f2
    induction f2 with
    | zero => intro k i0 i1 hm2; omega
    | succ f2 ih2 =>
      intro k i0 i1 hm2
      refine T.go 2 (fun n9 => (rfl : _ = exe ξ n9 (d + 2) j_M_isLong 4 [(0, .ref 137), (1, J k)] [.ref 137, J k] σ)) ?_
      refine T.get rfl rfl rfl hM.ob rfl ?_
      refine T.go 1 (fun n9 => (rfl : _ = exe ξ n9 (d + 2) j_M_isLong 8 [(0, .ref 137), (1, J k)] [J 5, .ref 139, J k] σ)) ?_
      refine T.iald rfl rfl hM.c139 (by omega) (fun z1 hzz1 hyz1 hez1 => ?_)
      have hbz1 := hM.b139.at hez1 ⟨hzz1, hyz1⟩
      have gzz1 := gl_of hez1 ⟨hzz1, hyz1⟩
      subst gzz1
      refine T.icmp_ge rfl rfl (by omega) (by omega) (fun c1 => ?_) (fun c1 => ?_)
      · refine T.go 1 (fun n9 => (rfl : _ = exe ξ n9 (d + 2) j_M_isLong 36 [(0, .ref 137), (1, J k)] [J 0] σ)) ?_
        exact T.iretz rfl rfl (by omega) ⟨_, rfl, rfl, by omega, by omega⟩
      · refine T.go 2 (fun n9 => (rfl : _ = exe ξ n9 (d + 2) j_M_isLong 14 [(0, .ref 137), (1, J k)] [J k, .ref 137] σ)) ?_
        refine T.callv (as := [J k]) (r := []) rfl rfl rfl rfl hM.ob rfl (s_M_lineEnd d k σ hM (by omega) (by omega) (by omega)) (fun v1 s1 hqs1 => ?_)
        obtain ⟨z2, rfl, esz2, hzz2, hyz2, pz2_0, pz2_1⟩ := hqs1
        rw [esz2]
        refine T.go 1 (fun n9 => (rfl : _ = exe ξ n9 (d + 2) j_M_isLong 18 [(0, .ref 137), (1, J k)] [J k, J z2] σ)) ?_
        refine T.isub rfl ?_
        refine T.go 1 (fun n9 => (rfl : _ = exe ξ n9 (d + 2) j_M_isLong 21 [(0, .ref 137), (1, J k)] [J 72, J (z2 - k)] σ)) ?_
        refine T.icmp_le rfl rfl (by omega) (by omega) (fun c2 => ?_) (fun c2 => ?_)
        · refine T.go 2 (fun n9 => (rfl : _ = exe ξ n9 (d + 2) j_M_isLong 28 [(0, .ref 137), (1, J k)] [J k, .ref 137] σ)) ?_
          refine T.callv (as := [J k]) (r := []) rfl rfl rfl rfl hM.ob rfl (s_M_nextLine d k σ hM (by omega) (by omega) (by omega)) (fun v2 s2 hqs2 => ?_)
          obtain ⟨z3, rfl, esz3, hzz3, hyz3, pz3_0, pz3_1⟩ := hqs2
          rw [esz3]
          refine T.go 2 (fun n9 => (rfl : _ = exe ξ n9 (d + 2) j_M_isLong 2 [(0, .ref 137), (1, J z3)] [] σ)) ?_
          exact ih2  z3  (by omega) (by omega) (by omega)
        · refine T.go 1 (fun n9 => (rfl : _ = exe ξ n9 (d + 2) j_M_isLong 25 [(0, .ref 137), (1, J k)] [J 1] σ)) ?_
          exact T.iretz rfl rfl (by omega) ⟨_, rfl, rfl, by omega, by omega⟩
  refine T.go 2 (fun n9 => (rfl : _ = exe ξ n9 (d + 2) j_M_isLong 2 [(0, .ref 137), (1, J 0)] [] σ)) ?_
  exact loop2 _ 0  (by omega) (by omega) (Nat.lt_succ_self _)

set_option maxHeartbeats 4000000 in
theorem s_M_mainEnd {ξ : Nat → Option (Nat × List Int32)} {c io mo fa pl ns rw en wy wh bi ed sz md bd li wk we : Int} {Lc : List Int64} {la lm ln lh ld lk lt : List Int32} (d : Nat)  (σ : qH) (hM : MS σ c io mo fa pl ns rw en wy wh bi ed sz md bd li wk we Lc la lm ln lh ld lk lt)  : T ξ (d + 2) j_M_mainEnd 0 (lv_args 0 [.ref 137]) [] σ (fun v σ' => ∃ (z : Int), v = some (J z) ∧ σ' = σ ∧ 0 ≤ z ∧ z ≤ 8000 ∧ z ≤ gl la 5) := by
  have r0 := hM.rg
  have n0 := hM.len
  have loop2 : ∀ (f2 : Nat) (k : Int), 0 ≤ k → k ≤ 8001 → (gl la 5 - k).toNat < f2 → T ξ (d + 2) j_M_mainEnd 2 [(0, .ref 137), (1, J k)] [] σ (fun v σ' => ∃ (z : Int), v = some (J z) ∧ σ' = σ ∧ 0 ≤ z ∧ z ≤ 8000 ∧ z ≤ gl la 5) := by
    intro f2
    induction f2 with
    | zero => intro k i0 i1 hm2; omega
    | succ f2 ih2 =>
      intro k i0 i1 hm2
      refine T.go 2 (fun n9 => (rfl : _ = exe ξ n9 (d + 2) j_M_mainEnd 4 [(0, .ref 137), (1, J k)] [.ref 137, J k] σ)) ?_
      refine T.get rfl rfl rfl hM.ob rfl ?_
      refine T.go 1 (fun n9 => (rfl : _ = exe ξ n9 (d + 2) j_M_mainEnd 8 [(0, .ref 137), (1, J k)] [J 5, .ref 139, J k] σ)) ?_
      refine T.iald rfl rfl hM.c139 (by omega) (fun z1 hzz1 hyz1 hez1 => ?_)
      have hbz1 := hM.b139.at hez1 ⟨hzz1, hyz1⟩
      have gzz1 := gl_of hez1 ⟨hzz1, hyz1⟩
      subst gzz1
      refine T.icmp_ge rfl rfl (by omega) (by omega) (fun c1 => ?_) (fun c1 => ?_)
      · refine T.go 2 (fun n9 => (rfl : _ = exe ξ n9 (d + 2) j_M_mainEnd 32 [(0, .ref 137), (1, J k)] [.ref 137, J k] σ)) ?_
        refine T.get rfl rfl rfl hM.ob rfl ?_
        refine T.go 1 (fun n9 => (rfl : _ = exe ξ n9 (d + 2) j_M_mainEnd 36 [(0, .ref 137), (1, J k)] [J 5, .ref 139, J k] σ)) ?_
        refine T.iald rfl rfl hM.c139 (by omega) (fun z2 hzz2 hyz2 hez2 => ?_)
        have hbz2 := hM.b139.at hez2 ⟨hzz2, hyz2⟩
        have gzz2 := gl_of hez2 ⟨hzz2, hyz2⟩
        subst gzz2
        refine T.icmp_ge rfl rfl (by omega) (by omega) (fun c2 => ?_) (fun c2 => ?_)
        · refine T.go 1 (fun n9 => (rfl : _ = exe ξ n9 (d + 2) j_M_mainEnd 45 [(0, .ref 137), (1, J k)] [.ref 137] σ)) ?_
          refine T.get rfl rfl rfl hM.ob rfl ?_
          refine T.go 1 (fun n9 => (rfl : _ = exe ξ n9 (d + 2) j_M_mainEnd 49 [(0, .ref 137), (1, J k)] [J 5, .ref 139] σ)) ?_
          refine T.iald rfl rfl hM.c139 (by omega) (fun z3 hzz3 hyz3 hez3 => ?_)
          have hbz3 := hM.b139.at hez3 ⟨hzz3, hyz3⟩
          have gzz3 := gl_of hez3 ⟨hzz3, hyz3⟩
          subst gzz3
          exact T.ireti rfl rfl ⟨_, rfl, rfl, by omega, by omega, by omega⟩
        · refine T.go 2 (fun n9 => (rfl : _ = exe ξ n9 (d + 2) j_M_mainEnd 50 [(0, .ref 137), (1, J k)] [J k] σ)) ?_
          exact T.ireti rfl rfl ⟨_, rfl, rfl, by omega, by omega, by omega⟩
      · refine T.go 2 (fun n9 => (rfl : _ = exe ξ n9 (d + 2) j_M_mainEnd 14 [(0, .ref 137), (1, J k)] [J k, .ref 137] σ)) ?_
        refine T.callv (as := [J k]) (r := []) rfl rfl rfl rfl hM.ob rfl (s_M_lineEnd d k σ hM (by omega) (by omega) (by omega)) (fun v1 s1 hqs1 => ?_)
        obtain ⟨z4, rfl, esz4, hzz4, hyz4, pz4_0, pz4_1⟩ := hqs1
        rw [esz4]
        refine T.go 1 (fun n9 => (rfl : _ = exe ξ n9 (d + 2) j_M_mainEnd 18 [(0, .ref 137), (1, J k)] [J k, J z4] σ)) ?_
        refine T.icmp_le rfl rfl (by omega) (by omega) (fun c3 => ?_) (fun c3 => ?_)
        · refine T.go 2 (fun n9 => (rfl : _ = exe ξ n9 (d + 2) j_M_mainEnd 32 [(0, .ref 137), (1, J k)] [.ref 137, J k] σ)) ?_
          refine T.get rfl rfl rfl hM.ob rfl ?_
          refine T.go 1 (fun n9 => (rfl : _ = exe ξ n9 (d + 2) j_M_mainEnd 36 [(0, .ref 137), (1, J k)] [J 5, .ref 139, J k] σ)) ?_
          refine T.iald rfl rfl hM.c139 (by omega) (fun z5 hzz5 hyz5 hez5 => ?_)
          have hbz5 := hM.b139.at hez5 ⟨hzz5, hyz5⟩
          have gzz5 := gl_of hez5 ⟨hzz5, hyz5⟩
          subst gzz5
          refine T.icmp_ge rfl rfl (by omega) (by omega) (fun c4 => ?_) (fun c4 => ?_)
          · refine T.go 1 (fun n9 => (rfl : _ = exe ξ n9 (d + 2) j_M_mainEnd 45 [(0, .ref 137), (1, J k)] [.ref 137] σ)) ?_
            refine T.get rfl rfl rfl hM.ob rfl ?_
            refine T.go 1 (fun n9 => (rfl : _ = exe ξ n9 (d + 2) j_M_mainEnd 49 [(0, .ref 137), (1, J k)] [J 5, .ref 139] σ)) ?_
            refine T.iald rfl rfl hM.c139 (by omega) (fun z6 hzz6 hyz6 hez6 => ?_)
            have hbz6 := hM.b139.at hez6 ⟨hzz6, hyz6⟩
            have gzz6 := gl_of hez6 ⟨hzz6, hyz6⟩
            subst gzz6
            exact T.ireti rfl rfl ⟨_, rfl, rfl, by omega, by omega, by omega⟩
          · refine T.go 2 (fun n9 => (rfl : _ = exe ξ n9 (d + 2) j_M_mainEnd 50 [(0, .ref 137), (1, J k)] [J k] σ)) ?_
            exact T.ireti rfl rfl ⟨_, rfl, rfl, by omega, by omega, by omega⟩
        · refine T.go 2 (fun n9 => (rfl : _ = exe ξ n9 (d + 2) j_M_mainEnd 23 [(0, .ref 137), (1, J k)] [J k, .ref 137] σ)) ?_
          refine T.callv (as := [J k]) (r := []) rfl rfl rfl rfl hM.ob rfl (s_M_nextLine d k σ hM (by omega) (by omega) (by omega)) (fun v2 s2 hqs2 => ?_)
          obtain ⟨z7, rfl, esz7, hzz7, hyz7, pz7_0, pz7_1⟩ := hqs2
          rw [esz7]
          refine T.go 2 (fun n9 => (rfl : _ = exe ξ n9 (d + 2) j_M_mainEnd 2 [(0, .ref 137), (1, J z7)] [] σ)) ?_
          exact ih2  z7  (by omega) (by omega) (by omega)
  refine T.go 2 (fun n9 => (rfl : _ = exe ξ n9 (d + 2) j_M_mainEnd 2 [(0, .ref 137), (1, J 0)] [] σ)) ?_
  exact loop2 _ 0  (by omega) (by omega) (Nat.lt_succ_self _)

set_option maxHeartbeats 4000000 in
theorem s_M_goesOn {ξ : Nat → Option (Nat × List Int32)} {c io mo fa pl ns rw en wy wh bi ed sz md bd li wk we : Int} {Lc : List Int64} {la lm ln lh ld lk lt : List Int32} (d : Nat) (x : Int) (y : Int) (σ : qH) (hM : MS σ c io mo fa pl ns rw en wy wh bi ed sz md bd li wk we Lc la lm ln lh ld lk lt) (rx : -2147483648 ≤ x ∧ x ≤ 2147483647) (ry : -2147483648 ≤ y ∧ y ≤ 2147483647) (pre0 : 0 ≤ x) (pre1 : y ≤ 8000) : T ξ (d + 1) j_M_goesOn 0 (lv_args 0 [.ref 137, J x, J y]) [] σ (fun v σ' => ∃ (z : Int), v = some (J z) ∧ σ' = σ ∧ 0 ≤ z ∧ z ≤ 1 ∧ (z = 1 → x < y)) := by
  have r0 := hM.rg
  have n0 := hM.len
  refine T.go 2 (fun n9 => (rfl : _ = exe ξ n9 (d + 1) j_M_goesOn 2 [(0, .ref 137), (1, J x), (2, J y)] [J y, J x] σ)) ?_
  refine T.icmp_ge rfl rfl (by omega) (by omega) (fun c1 => ?_) (fun c1 => ?_)
  · refine T.go 1 (fun n9 => (rfl : _ = exe ξ n9 (d + 1) j_M_goesOn 21 [(0, .ref 137), (1, J x), (2, J y)] [J 0] σ)) ?_
    exact T.iretz rfl rfl (by omega) ⟨_, rfl, rfl, by omega, by omega, by omega⟩
  · refine T.go 3 (fun n9 => (rfl : _ = exe ξ n9 (d + 1) j_M_goesOn 8 [(0, .ref 137), (1, J x), (2, J y)] [J x, J 5, .ref 137] σ)) ?_
    refine T.callv (as := [J 5, J x]) (r := []) rfl rfl rfl rfl hM.ob rfl (s_M_get d 5 x σ hM (by omega)) (fun v1 s1 hqs1 => ?_)
    obtain ⟨z1, rfl, esz1, hzz1, hyz1, pz1_0⟩ := hqs1
    rw [esz1]
    refine T.go 1 (fun n9 => (rfl : _ = exe ξ n9 (d + 1) j_M_goesOn 13 [(0, .ref 137), (1, J x), (2, J y)] [J 32, J z1] σ)) ?_
    refine T.icmp_ne rfl rfl (by omega) (by omega) (fun c2 => ?_) (fun c2 => ?_)
    · refine T.go 1 (fun n9 => (rfl : _ = exe ξ n9 (d + 1) j_M_goesOn 21 [(0, .ref 137), (1, J x), (2, J y)] [J 0] σ)) ?_
      exact T.iretz rfl rfl (by omega) ⟨_, rfl, rfl, by omega, by omega, by omega⟩
    · refine T.go 2 (fun n9 => (rfl : _ = exe ξ n9 (d + 1) j_M_goesOn 21 [(0, .ref 137), (1, J x), (2, J y)] [J 1] σ)) ?_
      exact T.iretz rfl rfl (by omega) ⟨_, rfl, rfl, by omega, by omega, by omega⟩

set_option maxHeartbeats 4000000 in
theorem s_M_step {ξ : Nat → Option (Nat × List Int32)} {c io mo fa pl ns rw en wy wh bi ed sz md bd li wk we : Int} {Lc : List Int64} {la lm ln lh ld lk lt : List Int32} (d : Nat) (x : Int) (σ : qH) (hM : MS σ c io mo fa pl ns rw en wy wh bi ed sz md bd li wk we Lc la lm ln lh ld lk lt) (rx : -2147483648 ≤ x ∧ x ≤ 2147483647) (pre0 : 0 ≤ wk) (pre1 : wk ≤ we + 1) (pre2 : 0 ≤ we) (pre3 : we ≤ 8000) (pre4 : x ≤ 8000) : T ξ (d + 2) j_M_step 0 (lv_args 0 [.ref 137, J x]) [] σ (fun v σ' => ∃ (z : Int) (wk1 : Int) (we1 : Int), v = some (J z) ∧ MS σ' c io mo fa pl ns rw en wy wh bi ed sz md bd li wk1 we1 Lc la lm ln lh ld lk lt ∧ FM σ σ' ∧ -1 ≤ z ∧ z ≤ 255 ∧ wk ≤ wk1 ∧ wk1 ≤ we1 + 1 ∧ 0 ≤ we1 ∧ we1 ≤ 8000 ∧ (z = -1 ∨ wk + 1 ≤ wk1 ∧ wk1 ≤ 8000)) := by
  have r0 := hM.rg
  have n0 := hM.len
  have h5 := gl_b hM.b139 5
  have loop0 : ∀ (f0 : Nat) (wk9 : Int) (we9 : Int) (τ : qH), MS τ c io mo fa pl ns rw en wy wh bi ed sz md bd li wk9 we9 Lc la lm ln lh ld lk lt → FM σ τ → wk ≤ wk9 → wk9 ≤ we9 + 1 → 0 ≤ we9 → we9 ≤ 8000 → (8001 - we9).toNat < f0 → T ξ (d + 2) j_M_step 0 [(0, .ref 137), (1, J x)] [] τ (fun v σ' => ∃ (z : Int) (wk1 : Int) (we1 : Int), v = some (J z) ∧ MS σ' c io mo fa pl ns rw en wy wh bi ed sz md bd li wk1 we1 Lc la lm ln lh ld lk lt ∧ FM σ σ' ∧ -1 ≤ z ∧ z ≤ 255 ∧ wk ≤ wk1 ∧ wk1 ≤ we1 + 1 ∧ 0 ≤ we1 ∧ we1 ≤ 8000 ∧ (z = -1 ∨ wk + 1 ≤ wk1 ∧ wk1 ≤ 8000)) := by
    intro f0
    induction f0 with
    | zero => intro wk9 we9 τ mτ fτ i0 i1 i2 i3 hm0; omega
    | succ f0 ih0 =>
      intro wk9 we9 τ mτ fτ i0 i1 i2 i3 hm0
      have rτ := mτ.rg
      have nτ := mτ.len
      refine T.go 1 (fun n9 => (rfl : _ = exe ξ n9 (d + 2) j_M_step 1 [(0, .ref 137), (1, J x)] [.ref 137] τ)) ?_
      refine T.get rfl rfl rfl mτ.ob rfl ?_
      refine T.go 1 (fun n9 => (rfl : _ = exe ξ n9 (d + 2) j_M_step 5 [(0, .ref 137), (1, J x)] [.ref 137, J wk9] τ)) ?_
      refine T.get rfl rfl rfl mτ.ob rfl ?_
      refine T.icmp_lt rfl rfl (by omega) (by omega) (fun c1 => ?_) (fun c1 => ?_)
      · refine T.go 2 (fun n9 => (rfl : _ = exe ξ n9 (d + 2) j_M_step 52 [(0, .ref 137), (1, J x)] [.ref 137, .ref 137] τ)) ?_
        refine T.get rfl rfl rfl mτ.ob rfl ?_
        refine T.go 1 (fun n9 => (rfl : _ = exe ξ n9 (d + 2) j_M_step 56 [(0, .ref 137), (1, J x)] [J 1, J wk9, .ref 137] τ)) ?_
        refine T.iadd rfl ?_
        refine T.mput (c' := c) (io' := io) (mo' := mo) (fa' := fa) (pl' := pl) (ns' := ns) (rw' := rw) (en' := en) (wy' := wy) (wh' := wh) (bi' := bi) (ed' := ed) (sz' := sz) (md' := md) (bd' := bd) (li' := li) (wk' := wk9 + 1) (we' := we9) mτ rfl rfl rfl rfl rfl rfl (by omega) (fun s1 ms1 fs1 => ?_)
        have gs1 := fτ.trans fs1
        refine T.go 3 (fun n9 => (rfl : _ = exe ξ n9 (d + 2) j_M_step 63 [(0, .ref 137), (1, J x)] [.ref 137, J 5, .ref 137] s1)) ?_
        refine T.get rfl rfl rfl ms1.ob rfl ?_
        refine T.go 1 (fun n9 => (rfl : _ = exe ξ n9 (d + 2) j_M_step 67 [(0, .ref 137), (1, J x)] [J 1, J (wk9 + 1), J 5, .ref 137] s1)) ?_
        refine T.isub rfl ?_
        refine T.callv (as := [J 5, J ((wk9 + 1) - 1)]) (r := []) rfl rfl rfl rfl ms1.ob rfl (s_M_get (d + 1) 5 ((wk9 + 1) - 1) s1 ms1 (by omega)) (fun v1 s2 hqs2 => ?_)
        obtain ⟨z1, rfl, esz1, hzz1, hyz1, pz1_0⟩ := hqs2
        rw [esz1]
        exact T.ireti rfl rfl ⟨_, (wk9 + 1), we9, rfl, ms1, gs1, by omega, by omega, by omega, by omega, by omega, by omega, by omega⟩
      · refine T.go 2 (fun n9 => (rfl : _ = exe ξ n9 (d + 2) j_M_step 13 [(0, .ref 137), (1, J x)] [.ref 137, .ref 137] τ)) ?_
        refine T.get rfl rfl rfl mτ.ob rfl ?_
        refine T.callv (as := [J we9]) (r := []) rfl rfl rfl rfl mτ.ob rfl (s_M_nextLine d we9 τ mτ (by omega) (by omega) (by omega)) (fun v2 s3 hqs3 => ?_)
        obtain ⟨z2, rfl, esz2, hzz2, hyz2, pz2_0, pz2_1⟩ := hqs3
        rw [esz2]
        refine T.go 4 (fun n9 => (rfl : _ = exe ξ n9 (d + 2) j_M_step 23 [(0, .ref 137), (1, J x), (2, J z2)] [J x, J z2, .ref 137] τ)) ?_
        refine T.callv (as := [J z2, J x]) (r := []) rfl rfl rfl rfl mτ.ob rfl (s_M_goesOn d z2 x τ mτ (by omega) (by omega) (by omega) (by omega)) (fun v3 s4 hqs4 => ?_)
        obtain ⟨z3, rfl, esz3, hzz3, hyz3, pz3_0⟩ := hqs4
        rw [esz3]
        refine T.if_ne rfl rfl (by omega) (fun c2 => ?_) (fun c2 => ?_)
        · refine T.go 3 (fun n9 => (rfl : _ = exe ξ n9 (d + 2) j_M_step 34 [(0, .ref 137), (1, J x), (2, J z2)] [J 1, J z2, .ref 137] τ)) ?_
          refine T.iadd rfl ?_
          refine T.mput (c' := c) (io' := io) (mo' := mo) (fa' := fa) (pl' := pl) (ns' := ns) (rw' := rw) (en' := en) (wy' := wy) (wh' := wh) (bi' := bi) (ed' := ed) (sz' := sz) (md' := md) (bd' := bd) (li' := li) (wk' := z2 + 1) (we' := we9) mτ rfl rfl rfl rfl rfl rfl (by omega) (fun s5 ms5 fs5 => ?_)
          have gs5 := fτ.trans fs5
          refine T.go 3 (fun n9 => (rfl : _ = exe ξ n9 (d + 2) j_M_step 41 [(0, .ref 137), (1, J x), (2, J z2)] [J z2, .ref 137, .ref 137] s5)) ?_
          refine T.callv (as := [J z2]) (r := [.ref 137]) rfl rfl rfl rfl ms5.ob rfl (s_M_lineEnd d z2 s5 ms5 (by omega) (by omega) (by omega)) (fun v4 s6 hqs6 => ?_)
          obtain ⟨z4, rfl, esz4, hzz4, hyz4, pz4_0, pz4_1⟩ := hqs6
          rw [esz4]
          refine T.mput (c' := c) (io' := io) (mo' := mo) (fa' := fa) (pl' := pl) (ns' := ns) (rw' := rw) (en' := en) (wy' := wy) (wh' := wh) (bi' := bi) (ed' := ed) (sz' := sz) (md' := md) (bd' := bd) (li' := li) (wk' := z2 + 1) (we' := z4) ms5 rfl rfl rfl rfl rfl rfl (by omega) (fun s7 ms7 fs7 => ?_)
          have gs7 := gs5.trans fs7
          refine T.go 1 (fun n9 => (rfl : _ = exe ξ n9 (d + 2) j_M_step 0 [(0, .ref 137), (1, J x), (2, J z2)] [] s7)) ?_
          refine T.drop (lv := [(0, .ref 137), (1, J x)]) [(2, J z2)] (by simp) ?_
          exact ih0   (z2 + 1) z4 s7 ms7 gs7 (by omega) (by omega) (by omega) (by omega) (by omega)
        · refine T.go 1 (fun n9 => (rfl : _ = exe ξ n9 (d + 2) j_M_step 30 [(0, .ref 137), (1, J x), (2, J z2)] [J (-1)] τ)) ?_
          exact T.ireti rfl rfl ⟨_, wk9, we9, rfl, mτ, fτ, by omega, by omega, by omega, by omega, by omega, by omega, by omega⟩
  exact loop0 _  wk we σ hM FM.refl (by omega) (by omega) (by omega) (by omega) (Nat.lt_succ_self _)

set_option maxHeartbeats 4000000 in
theorem s_M_enter {ξ : Nat → Option (Nat × List Int32)} {c io mo fa pl ns rw en wy wh bi ed sz md bd li wk we : Int} {Lc : List Int64} {la lm ln lh ld lk lt : List Int32} (d : Nat) (x : Int) (σ : qH) (hM : MS σ c io mo fa pl ns rw en wy wh bi ed sz md bd li wk we Lc la lm ln lh ld lk lt) (rx : -2147483648 ≤ x ∧ x ≤ 2147483647) (pre0 : 0 ≤ x) (pre1 : x ≤ 8000) : T ξ (d + 2) j_M_enter 0 (lv_args 0 [.ref 137, J x]) [] σ (fun v σ' => ∃ (wk1 : Int) (we1 : Int), v = none ∧ MS σ' c io mo fa pl ns rw en wy wh bi ed sz md bd li wk1 we1 Lc la lm ln lh ld lk lt ∧ FM σ σ' ∧ wk1 = x ∧ x ≤ we1 ∧ we1 ≤ 8000) := by
  have r0 := hM.rg
  have n0 := hM.len
  have h5 := gl_b hM.b139 5
  refine T.go 2 (fun n9 => (rfl : _ = exe ξ n9 (d + 2) j_M_enter 2 [(0, .ref 137), (1, J x)] [J x, .ref 137] σ)) ?_
  refine T.mput (c' := c) (io' := io) (mo' := mo) (fa' := fa) (pl' := pl) (ns' := ns) (rw' := rw) (en' := en) (wy' := wy) (wh' := wh) (bi' := bi) (ed' := ed) (sz' := sz) (md' := md) (bd' := bd) (li' := li) (wk' := x) (we' := we) hM rfl rfl rfl rfl rfl rfl (by omega) (fun s1 ms1 fs1 => ?_)
  refine T.go 3 (fun n9 => (rfl : _ = exe ξ n9 (d + 2) j_M_enter 8 [(0, .ref 137), (1, J x)] [J x, .ref 137, .ref 137] s1)) ?_
  refine T.callv (as := [J x]) (r := [.ref 137]) rfl rfl rfl rfl ms1.ob rfl (s_M_lineEnd d x s1 ms1 (by omega) (by omega) (by omega)) (fun v1 s2 hqs2 => ?_)
  obtain ⟨z1, rfl, esz1, hzz1, hyz1, pz1_0, pz1_1⟩ := hqs2
  rw [esz1]
  refine T.mput (c' := c) (io' := io) (mo' := mo) (fa' := fa) (pl' := pl) (ns' := ns) (rw' := rw) (en' := en) (wy' := wy) (wh' := wh) (bi' := bi) (ed' := ed) (sz' := sz) (md' := md) (bd' := bd) (li' := li) (wk' := x) (we' := z1) ms1 rfl rfl rfl rfl rfl rfl (by omega) (fun s3 ms3 fs3 => ?_)
  have gs3 := fs1.trans fs3
  exact T.vret rfl rfl ⟨x, z1, rfl, ms3, gs3, by omega, by omega, by omega⟩

set_option maxHeartbeats 4000000 in
theorem s_M_behind {ξ : Nat → Option (Nat × List Int32)} {c io mo fa pl ns rw en wy wh bi ed sz md bd li wk we : Int} {Lc : List Int64} {la lm ln lh ld lk lt : List Int32} (d : Nat) (x : Int) (y : Int) (σ : qH) (hM : MS σ c io mo fa pl ns rw en wy wh bi ed sz md bd li wk we Lc la lm ln lh ld lk lt) (rx : -2147483648 ≤ x ∧ x ≤ 2147483647) (ry : -2147483648 ≤ y ∧ y ≤ 2147483647) (pre0 : 0 ≤ x) (pre1 : x ≤ 8000) (pre2 : y ≤ 8000) : T ξ (d + 2) j_M_behind 0 (lv_args 0 [.ref 137, J x, J y]) [] σ (fun v σ' => ∃ (z : Int), v = some (J z) ∧ σ' = σ ∧ 1 ≤ z ∧ z ≤ 8002 ∧ x + 1 ≤ z) := by
  have r0 := hM.rg
  have n0 := hM.len
  have loop6 : ∀ (f6 : Nat) (k : Int), x + 1 ≤ k → k ≤ 8002 → (8002 - k).toNat < f6 → T ξ (d + 2) j_M_behind 6 [(0, .ref 137), (1, J x), (2, J y), (3, J k)] [] σ (fun v σ' => ∃ (z : Int), v = some (J z) ∧ σ' = σ ∧ 1 ≤ z ∧ z ≤ 8002 ∧ x + 1 ≤ z) := by
    intro f6
    induction f6 with
    | zero => intro k i0 i1 hm6; omega
    | succ f6 ih6 =>
      intro k i0 i1 hm6
      refine T.go 3 (fun n9 => (rfl : _ = exe ξ n9 (d + 2) j_M_behind 9 [(0, .ref 137), (1, J x), (2, J y), (3, J k)] [J y, J k, .ref 137] σ)) ?_
      refine T.callv (as := [J k, J y]) (r := []) rfl rfl rfl rfl hM.ob rfl (s_M_goesOn d k y σ hM (by omega) (by omega) (by omega) (by omega)) (fun v1 s1 hqs1 => ?_)
      obtain ⟨z1, rfl, esz1, hzz1, hyz1, pz1_0⟩ := hqs1
      rw [esz1]
      refine T.if_eq rfl rfl (by omega) (fun c1 => ?_) (fun c1 => ?_)
      · refine T.go 1 (fun n9 => (rfl : _ = exe ξ n9 (d + 2) j_M_behind 25 [(0, .ref 137), (1, J x), (2, J y), (3, J k)] [J k] σ)) ?_
        exact T.ireti rfl rfl ⟨_, rfl, rfl, by omega, by omega, by omega⟩
      · refine T.go 2 (fun n9 => (rfl : _ = exe ξ n9 (d + 2) j_M_behind 17 [(0, .ref 137), (1, J x), (2, J y), (3, J k)] [J k, .ref 137] σ)) ?_
        refine T.callv (as := [J k]) (r := []) rfl rfl rfl rfl hM.ob rfl (s_M_nextLine d k σ hM (by omega) (by omega) (by omega)) (fun v2 s2 hqs2 => ?_)
        obtain ⟨z2, rfl, esz2, hzz2, hyz2, pz2_0, pz2_1⟩ := hqs2
        rw [esz2]
        refine T.go 2 (fun n9 => (rfl : _ = exe ξ n9 (d + 2) j_M_behind 6 [(0, .ref 137), (1, J x), (2, J y), (3, J z2)] [] σ)) ?_
        exact ih6  z2  (by omega) (by omega) (by omega)
  refine T.go 2 (fun n9 => (rfl : _ = exe ξ n9 (d + 2) j_M_behind 2 [(0, .ref 137), (1, J x), (2, J y)] [J x, .ref 137] σ)) ?_
  refine T.callv (as := [J x]) (r := []) rfl rfl rfl rfl hM.ob rfl (s_M_nextLine d x σ hM (by omega) (by omega) (by omega)) (fun v3 s3 hqs3 => ?_)
  obtain ⟨z3, rfl, esz3, hzz3, hyz3, pz3_0, pz3_1⟩ := hqs3
  rw [esz3]
  refine T.go 1 (fun n9 => (rfl : _ = exe ξ n9 (d + 2) j_M_behind 6 [(0, .ref 137), (1, J x), (2, J y), (3, J z3)] [] σ)) ?_
  exact loop6 _ z3  (by omega) (by omega) (Nat.lt_succ_self _)

set_option maxHeartbeats 4000000 in
theorem s_M_isNameByte {ξ : Nat → Option (Nat × List Int32)} (d : Nat) (x : Int) (σ : qH) (rx : -2147483648 ≤ x ∧ x ≤ 2147483647) : T ξ (d + 1) j_M_isNameByte 0 (lv_args 0 [J x]) [] σ (fun v σ' => ∃ (z : Int), v = some (J z) ∧ σ' = σ ∧ 0 ≤ z ∧ z ≤ 1 ∧ (z = 1 → 45 ≤ x)) := by
  refine T.go 3 (fun n9 => (rfl : _ = exe ξ n9 (d + 1) j_M_isNameByte 5 [(0, J x)] [J 90, J 65, J x] σ)) ?_
  refine T.calls (as := [J x, J 65, J 90]) (r := []) rfl rfl (by decide) rfl rfl (s_M_in d x 65 90 σ (by omega) (by omega) (by omega)) (fun v1 s1 hqs1 => ?_)
  obtain ⟨z1, rfl, esz1, hzz1, hyz1, pz1_0, pz1_1⟩ := hqs1
  rw [esz1]
  refine T.if_ne rfl rfl (by omega) (fun c1 => ?_) (fun c1 => ?_)
  · refine T.go 2 (fun n9 => (rfl : _ = exe ξ n9 (d + 1) j_M_isNameByte 50 [(0, J x)] [J 1] σ)) ?_
    exact T.iretz rfl rfl (by omega) ⟨_, rfl, rfl, by omega, by omega, by omega⟩
  · refine T.go 3 (fun n9 => (rfl : _ = exe ξ n9 (d + 1) j_M_isNameByte 16 [(0, J x)] [J 122, J 97, J x] σ)) ?_
    refine T.calls (as := [J x, J 97, J 122]) (r := []) rfl rfl (by decide) rfl rfl (s_M_in d x 97 122 σ (by omega) (by omega) (by omega)) (fun v2 s2 hqs2 => ?_)
    obtain ⟨z2, rfl, esz2, hzz2, hyz2, pz2_0, pz2_1⟩ := hqs2
    rw [esz2]
    refine T.if_ne rfl rfl (by omega) (fun c2 => ?_) (fun c2 => ?_)
    · refine T.go 2 (fun n9 => (rfl : _ = exe ξ n9 (d + 1) j_M_isNameByte 50 [(0, J x)] [J 1] σ)) ?_
      exact T.iretz rfl rfl (by omega) ⟨_, rfl, rfl, by omega, by omega, by omega⟩
    · refine T.go 3 (fun n9 => (rfl : _ = exe ξ n9 (d + 1) j_M_isNameByte 27 [(0, J x)] [J 57, J 48, J x] σ)) ?_
      refine T.calls (as := [J x, J 48, J 57]) (r := []) rfl rfl (by decide) rfl rfl (s_M_in d x 48 57 σ (by omega) (by omega) (by omega)) (fun v3 s3 hqs3 => ?_)
      obtain ⟨z3, rfl, esz3, hzz3, hyz3, pz3_0, pz3_1⟩ := hqs3
      rw [esz3]
      refine T.if_ne rfl rfl (by omega) (fun c3 => ?_) (fun c3 => ?_)
      · refine T.go 2 (fun n9 => (rfl : _ = exe ξ n9 (d + 1) j_M_isNameByte 50 [(0, J x)] [J 1] σ)) ?_
        exact T.iretz rfl rfl (by omega) ⟨_, rfl, rfl, by omega, by omega, by omega⟩
      · refine T.go 2 (fun n9 => (rfl : _ = exe ξ n9 (d + 1) j_M_isNameByte 36 [(0, J x)] [J 45, J x] σ)) ?_
        refine T.icmp_eq rfl rfl (by omega) (by omega) (fun c4 => ?_) (fun c4 => ?_)
        · refine T.go 2 (fun n9 => (rfl : _ = exe ξ n9 (d + 1) j_M_isNameByte 50 [(0, J x)] [J 1] σ)) ?_
          exact T.iretz rfl rfl (by omega) ⟨_, rfl, rfl, by omega, by omega, by omega⟩
        · refine T.go 2 (fun n9 => (rfl : _ = exe ξ n9 (d + 1) j_M_isNameByte 42 [(0, J x)] [J 95, J x] σ)) ?_
          refine T.icmp_ne rfl rfl (by omega) (by omega) (fun c5 => ?_) (fun c5 => ?_)
          · refine T.go 1 (fun n9 => (rfl : _ = exe ξ n9 (d + 1) j_M_isNameByte 50 [(0, J x)] [J 0] σ)) ?_
            exact T.iretz rfl rfl (by omega) ⟨_, rfl, rfl, by omega, by omega, by omega⟩
          · refine T.go 2 (fun n9 => (rfl : _ = exe ξ n9 (d + 1) j_M_isNameByte 50 [(0, J x)] [J 1] σ)) ?_
            exact T.iretz rfl rfl (by omega) ⟨_, rfl, rfl, by omega, by omega, by omega⟩

set_option maxHeartbeats 4000000 in
theorem s_M_nameOf {ξ : Nat → Option (Nat × List Int32)} {c io mo fa pl ns rw en wy wh bi ed sz md bd li wk we : Int} {Lc : List Int64} {la lm ln lh ld lk lt : List Int32} (d : Nat) (x : Int) (y : Int) (σ : qH) (hM : MS σ c io mo fa pl ns rw en wy wh bi ed sz md bd li wk we Lc la lm ln lh ld lk lt) (rx : -2147483648 ≤ x ∧ x ≤ 2147483647) (ry : -2147483648 ≤ y ∧ y ≤ 2147483647) (pre0 : 0 ≤ x) (pre1 : x ≤ 8000) (pre2 : y ≤ 8000) : T ξ (d + 3) j_M_nameOf 0 (lv_args 0 [.ref 137, J x, J y]) [] σ (fun v σ' => ∃ (z : Int) (wk1 : Int) (we1 : Int), v = some (J z) ∧ MS σ' c io mo fa pl ns rw en wy wh bi ed sz md bd li wk1 we1 Lc la lm ln lh ld lk lt ∧ FM σ σ' ∧ 0 ≤ z ∧ z ≤ 8001 ∧ 0 ≤ wk1 ∧ wk1 ≤ we1 + 1 ∧ 0 ≤ we1 ∧ we1 ≤ 8000) := by
  have r0 := hM.rg
  have n0 := hM.len
  have loop14 : ∀ (f14 : Nat) (n : Int) (b4 : Int) (wk9 : Int) (we9 : Int) (τ : qH), MS τ c io mo fa pl ns rw en wy wh bi ed sz md bd li wk9 we9 Lc la lm ln lh ld lk lt → FM σ τ → 0 ≤ wk9 → wk9 ≤ we9 + 1 → 0 ≤ we9 → we9 ≤ 8000 → 0 ≤ n → n ≤ wk9 → (b4 = -1 ∨ n + 1 ≤ wk9 ∧ wk9 ≤ 8000) → -1 ≤ b4 → b4 ≤ 255 → (2 * (8001 - wk9) + (b4 + 256) / 256).toNat < f14 → T ξ (d + 3) j_M_nameOf 14 [(0, .ref 137), (1, J x), (2, J y), (3, J n), (4, J b4)] [] τ (fun v σ' => ∃ (z : Int) (wk1 : Int) (we1 : Int), v = some (J z) ∧ MS σ' c io mo fa pl ns rw en wy wh bi ed sz md bd li wk1 we1 Lc la lm ln lh ld lk lt ∧ FM σ σ' ∧ 0 ≤ z ∧ z ≤ 8001 ∧ 0 ≤ wk1 ∧ wk1 ≤ we1 + 1 ∧ 0 ≤ we1 ∧ we1 ≤ 8000) := by
    intro f14
    induction f14 with
    | zero => intro n b4 wk9 we9 τ mτ fτ i0 i1 i2 i3 i4 i5 i6 i7 i8 hm14; omega
    | succ f14 ih14 =>
      intro n b4 wk9 we9 τ mτ fτ i0 i1 i2 i3 i4 i5 i6 i7 i8 hm14
      have rτ := mτ.rg
      have nτ := mτ.len
      refine T.go 1 (fun n9 => (rfl : _ = exe ξ n9 (d + 3) j_M_nameOf 16 [(0, .ref 137), (1, J x), (2, J y), (3, J n), (4, J b4)] [J b4] τ)) ?_
      refine T.calls (as := [J b4]) (r := []) rfl rfl (by decide) rfl rfl (s_M_isNameByte (d + 1) b4 τ (by omega)) (fun v1 s1 hqs1 => ?_)
      obtain ⟨z1, rfl, esz1, hzz1, hyz1, pz1_0⟩ := hqs1
      rw [esz1]
      refine T.if_eq rfl rfl (by omega) (fun c1 => ?_) (fun c1 => ?_)
      · refine T.go 2 (fun n9 => (rfl : _ = exe ξ n9 (d + 3) j_M_nameOf 39 [(0, .ref 137), (1, J x), (2, J y), (3, J n), (4, J b4)] [J 58, J b4] τ)) ?_
        refine T.icmp_ne rfl rfl (by omega) (by omega) (fun c2 => ?_) (fun c2 => ?_)
        · refine T.go 1 (fun n9 => (rfl : _ = exe ξ n9 (d + 3) j_M_nameOf 57 [(0, .ref 137), (1, J x), (2, J y), (3, J n), (4, J b4)] [J 0] τ)) ?_
          exact T.ireti rfl rfl ⟨_, wk9, we9, rfl, mτ, fτ, by omega, by omega, by omega, by omega, by omega, by omega⟩
        · refine T.go 2 (fun n9 => (rfl : _ = exe ξ n9 (d + 3) j_M_nameOf 44 [(0, .ref 137), (1, J x), (2, J y), (3, J n), (4, J b4)] [J y, .ref 137] τ)) ?_
          refine T.callv (as := [J y]) (r := []) rfl rfl rfl rfl mτ.ob rfl (s_M_step d y τ mτ (by omega) (by omega) (by omega) (by omega) (by omega) (by omega)) (fun v2 s2 hqs2 => ?_)
          obtain ⟨z2, wk_1, we_1, rfl, ms2, fs2, hzz2, hyz2, pz2_0, pz2_1, pz2_2, pz2_3, pz2_4⟩ := hqs2
          have ns2 := ms2.len
          have rs2 := ms2.rg
          have gs2 := fτ.trans fs2
          refine T.go 1 (fun n9 => (rfl : _ = exe ξ n9 (d + 3) j_M_nameOf 49 [(0, .ref 137), (1, J x), (2, J y), (3, J n), (4, J b4)] [J 32, J z2] s2)) ?_
          refine T.icmp_ne rfl rfl (by omega) (by omega) (fun c3 => ?_) (fun c3 => ?_)
          · refine T.go 1 (fun n9 => (rfl : _ = exe ξ n9 (d + 3) j_M_nameOf 57 [(0, .ref 137), (1, J x), (2, J y), (3, J n), (4, J b4)] [J 0] s2)) ?_
            exact T.ireti rfl rfl ⟨_, wk_1, we_1, rfl, ms2, gs2, by omega, by omega, by omega, by omega, by omega, by omega⟩
          · refine T.go 2 (fun n9 => (rfl : _ = exe ξ n9 (d + 3) j_M_nameOf 57 [(0, .ref 137), (1, J x), (2, J y), (3, J n), (4, J b4)] [J n] s2)) ?_
            exact T.ireti rfl rfl ⟨_, wk_1, we_1, rfl, ms2, gs2, by omega, by omega, by omega, by omega, by omega, by omega⟩
      · refine T.iinc (lv' := [(0, .ref 137), (1, J x), (2, J y), (3, J (n + 1)), (4, J b4)]) rfl rfl rfl rfl ?_
        refine T.go 2 (fun n9 => (rfl : _ = exe ξ n9 (d + 3) j_M_nameOf 27 [(0, .ref 137), (1, J x), (2, J y), (3, J (n + 1)), (4, J b4)] [J y, .ref 137] τ)) ?_
        refine T.callv (as := [J y]) (r := []) rfl rfl rfl rfl mτ.ob rfl (s_M_step d y τ mτ (by omega) (by omega) (by omega) (by omega) (by omega) (by omega)) (fun v3 s3 hqs3 => ?_)
        obtain ⟨z3, wk_2, we_2, rfl, ms3, fs3, hzz3, hyz3, pz3_0, pz3_1, pz3_2, pz3_3, pz3_4⟩ := hqs3
        have ns3 := ms3.len
        have rs3 := ms3.rg
        have gs3 := fτ.trans fs3
        refine T.go 2 (fun n9 => (rfl : _ = exe ξ n9 (d + 3) j_M_nameOf 14 [(0, .ref 137), (1, J x), (2, J y), (3, J (n + 1)), (4, J z3)] [] s3)) ?_
        exact ih14  (n + 1) z3 wk_2 we_2 s3 ms3 gs3 (by omega) (by omega) (by omega) (by omega) (by omega) (by omega) (by omega) (by omega) (by omega) (by omega)
  refine T.go 2 (fun n9 => (rfl : _ = exe ξ n9 (d + 3) j_M_nameOf 2 [(0, .ref 137), (1, J x), (2, J y)] [J x, .ref 137] σ)) ?_
  refine T.callv (as := [J x]) (r := []) rfl rfl rfl rfl hM.ob rfl (s_M_enter d x σ hM (by omega) (by omega) (by omega)) (fun v4 s4 hqs4 => ?_)
  obtain ⟨wk_3, we_3, rfl, ms4, fs4, pz4_0, pz4_1, pz4_2⟩ := hqs4
  have ns4 := ms4.len
  have rs4 := ms4.rg
  refine T.go 4 (fun n9 => (rfl : _ = exe ξ n9 (d + 3) j_M_nameOf 9 [(0, .ref 137), (1, J x), (2, J y), (3, J 0)] [J y, .ref 137] s4)) ?_
  refine T.callv (as := [J y]) (r := []) rfl rfl rfl rfl ms4.ob rfl (s_M_step d y s4 ms4 (by omega) (by omega) (by omega) (by omega) (by omega) (by omega)) (fun v5 s5 hqs5 => ?_)
  obtain ⟨z5, wk_4, we_4, rfl, ms5, fs5, hzz5, hyz5, pz5_0, pz5_1, pz5_2, pz5_3, pz5_4⟩ := hqs5
  have ns5 := ms5.len
  have rs5 := ms5.rg
  have gs5 := fs4.trans fs5
  refine T.go 1 (fun n9 => (rfl : _ = exe ξ n9 (d + 3) j_M_nameOf 14 [(0, .ref 137), (1, J x), (2, J y), (3, J 0), (4, J z5)] [] s5)) ?_
  exact loop14 _ 0 z5 wk_4 we_4 s5 ms5 gs5 (by omega) (by omega) (by omega) (by omega) (by omega) (by omega) (by omega) (by omega) (by omega) (Nat.lt_succ_self _)

set_option maxHeartbeats 4000000 in
theorem s_M_byteOf {ξ : Nat → Option (Nat × List Int32)} {c io mo fa pl ns rw en wy wh bi ed sz md bd li wk we : Int} {Lc : List Int64} {la lm ln lh ld lk lt : List Int32} (d : Nat) (x : Int) (y : Int) (u : Int) (σ : qH) (hM : MS σ c io mo fa pl ns rw en wy wh bi ed sz md bd li wk we Lc la lm ln lh ld lk lt) (rx : -2147483648 ≤ x ∧ x ≤ 2147483647) (ry : -2147483648 ≤ y ∧ y ≤ 2147483647) (ru : -2147483648 ≤ u ∧ u ≤ 2147483647) (pre0 : 0 ≤ x) (pre1 : x ≤ 8000) (pre2 : y ≤ 8000) (pre3 : u ≤ 10000) : T ξ (d + 3) j_M_byteOf 0 (lv_args 0 [.ref 137, J x, J y, J u]) [] σ (fun v σ' => ∃ (z : Int) (wk1 : Int) (we1 : Int), v = some (J z) ∧ MS σ' c io mo fa pl ns rw en wy wh bi ed sz md bd li wk1 we1 Lc la lm ln lh ld lk lt ∧ FM σ σ' ∧ -1 ≤ z ∧ z ≤ 255) := by
  have r0 := hM.rg
  have n0 := hM.len
  have loop11 : ∀ (f11 : Nat) (b4 : Int) (k : Int) (wk9 : Int) (we9 : Int) (τ : qH), MS τ c io mo fa pl ns rw en wy wh bi ed sz md bd li wk9 we9 Lc la lm ln lh ld lk lt → FM σ τ → 0 ≤ wk9 → wk9 ≤ we9 + 1 → 0 ≤ we9 → we9 ≤ 8000 → 0 ≤ k → k ≤ 10001 → -1 ≤ b4 → b4 ≤ 255 → (u + 1 - k).toNat < f11 → T ξ (d + 3) j_M_byteOf 11 [(0, .ref 137), (1, J x), (2, J y), (3, J u), (4, J b4), (5, J k)] [] τ (fun v σ' => ∃ (z : Int) (wk1 : Int) (we1 : Int), v = some (J z) ∧ MS σ' c io mo fa pl ns rw en wy wh bi ed sz md bd li wk1 we1 Lc la lm ln lh ld lk lt ∧ FM σ σ' ∧ -1 ≤ z ∧ z ≤ 255) := by
    intro f11
    induction f11 with
    | zero => intro b4 k wk9 we9 τ mτ fτ i0 i1 i2 i3 i4 i5 i6 i7 hm11; omega
    | succ f11 ih11 =>
      intro b4 k wk9 we9 τ mτ fτ i0 i1 i2 i3 i4 i5 i6 i7 hm11
      have rτ := mτ.rg
      have nτ := mτ.len
      refine T.go 2 (fun n9 => (rfl : _ = exe ξ n9 (d + 3) j_M_byteOf 14 [(0, .ref 137), (1, J x), (2, J y), (3, J u), (4, J b4), (5, J k)] [J u, J k] τ)) ?_
      refine T.icmp_gt rfl rfl (by omega) (by omega) (fun c1 => ?_) (fun c1 => ?_)
      · refine T.go 1 (fun n9 => (rfl : _ = exe ξ n9 (d + 3) j_M_byteOf 32 [(0, .ref 137), (1, J x), (2, J y), (3, J u), (4, J b4), (5, J k)] [J b4] τ)) ?_
        exact T.ireti rfl rfl ⟨_, wk9, we9, rfl, mτ, fτ, by omega, by omega⟩
      · refine T.go 2 (fun n9 => (rfl : _ = exe ξ n9 (d + 3) j_M_byteOf 19 [(0, .ref 137), (1, J x), (2, J y), (3, J u), (4, J b4), (5, J k)] [J y, .ref 137] τ)) ?_
        refine T.callv (as := [J y]) (r := []) rfl rfl rfl rfl mτ.ob rfl (s_M_step d y τ mτ (by omega) (by omega) (by omega) (by omega) (by omega) (by omega)) (fun v1 s1 hqs1 => ?_)
        obtain ⟨z1, wk_1, we_1, rfl, ms1, fs1, hzz1, hyz1, pz1_0, pz1_1, pz1_2, pz1_3, pz1_4⟩ := hqs1
        have ns1 := ms1.len
        have rs1 := ms1.rg
        have gs1 := fτ.trans fs1
        refine T.go 1 (fun n9 => (rfl : _ = exe ξ n9 (d + 3) j_M_byteOf 24 [(0, .ref 137), (1, J x), (2, J y), (3, J u), (4, J z1), (5, J k)] [] s1)) ?_
        refine T.iinc (lv' := [(0, .ref 137), (1, J x), (2, J y), (3, J u), (4, J z1), (5, J (k + 1))]) rfl rfl rfl rfl ?_
        refine T.go 1 (fun n9 => (rfl : _ = exe ξ n9 (d + 3) j_M_byteOf 11 [(0, .ref 137), (1, J x), (2, J y), (3, J u), (4, J z1), (5, J (k + 1))] [] s1)) ?_
        exact ih11  z1 (k + 1) wk_1 we_1 s1 ms1 gs1 (by omega) (by omega) (by omega) (by omega) (by omega) (by omega) (by omega) (by omega) (by omega)
  refine T.go 2 (fun n9 => (rfl : _ = exe ξ n9 (d + 3) j_M_byteOf 2 [(0, .ref 137), (1, J x), (2, J y), (3, J u)] [J x, .ref 137] σ)) ?_
  refine T.callv (as := [J x]) (r := []) rfl rfl rfl rfl hM.ob rfl (s_M_enter d x σ hM (by omega) (by omega) (by omega)) (fun v2 s2 hqs2 => ?_)
  obtain ⟨wk_2, we_2, rfl, ms2, fs2, pz2_0, pz2_1, pz2_2⟩ := hqs2
  have ns2 := ms2.len
  have rs2 := ms2.rg
  refine T.go 4 (fun n9 => (rfl : _ = exe ξ n9 (d + 3) j_M_byteOf 11 [(0, .ref 137), (1, J x), (2, J y), (3, J u), (4, J 0), (5, J 0)] [] s2)) ?_
  exact loop11 _ 0 0 wk_2 we_2 s2 ms2 fs2 (by omega) (by omega) (by omega) (by omega) (by omega) (by omega) (by omega) (by omega) (Nat.lt_succ_self _)

set_option maxHeartbeats 4000000 in
theorem s_M_sameNames {ξ : Nat → Option (Nat × List Int32)} {c io mo fa pl ns rw en wy wh bi ed sz md bd li wk we : Int} {Lc : List Int64} {la lm ln lh ld lk lt : List Int32} (d : Nat) (x : Int) (y : Int) (u : Int) (σ : qH) (hM : MS σ c io mo fa pl ns rw en wy wh bi ed sz md bd li wk we Lc la lm ln lh ld lk lt) (rx : -2147483648 ≤ x ∧ x ≤ 2147483647) (ry : -2147483648 ≤ y ∧ y ≤ 2147483647) (ru : -2147483648 ≤ u ∧ u ≤ 2147483647) (pre0 : 0 ≤ x) (pre1 : x ≤ 8000) (pre2 : 0 ≤ y) (pre3 : y ≤ 8000) (pre4 : u ≤ 8000) : T ξ (d + 4) j_M_sameNames 0 (lv_args 0 [.ref 137, J x, J y, J u]) [] σ (fun v σ' => ∃ (z : Int) (wk1 : Int) (we1 : Int), v = some (J z) ∧ MS σ' c io mo fa pl ns rw en wy wh bi ed sz md bd li wk1 we1 Lc la lm ln lh ld lk lt ∧ FM σ σ' ∧ 0 ≤ z ∧ z ≤ 1) := by
  have r0 := hM.rg
  have n0 := hM.len
  have loop24 : ∀ (f24 : Nat) (n : Int) (k : Int) (wk9 : Int) (we9 : Int) (τ : qH), MS τ c io mo fa pl ns rw en wy wh bi ed sz md bd li wk9 we9 Lc la lm ln lh ld lk lt → FM σ τ → 0 ≤ n → n ≤ 8001 → 0 ≤ k → k ≤ n → (n - k).toNat < f24 → T ξ (d + 4) j_M_sameNames 24 [(0, .ref 137), (1, J x), (2, J y), (3, J u), (4, J n), (5, J k)] [] τ (fun v σ' => ∃ (z : Int) (wk1 : Int) (we1 : Int), v = some (J z) ∧ MS σ' c io mo fa pl ns rw en wy wh bi ed sz md bd li wk1 we1 Lc la lm ln lh ld lk lt ∧ FM σ σ' ∧ 0 ≤ z ∧ z ≤ 1) := by
    intro f24
    induction f24 with
    | zero => intro n k wk9 we9 τ mτ fτ i0 i1 i2 i3 hm24; omega
    | succ f24 ih24 =>
      intro n k wk9 we9 τ mτ fτ i0 i1 i2 i3 hm24
      have rτ := mτ.rg
      have nτ := mτ.len
      refine T.go 2 (fun n9 => (rfl : _ = exe ξ n9 (d + 4) j_M_sameNames 28 [(0, .ref 137), (1, J x), (2, J y), (3, J u), (4, J n), (5, J k)] [J n, J k] τ)) ?_
      refine T.icmp_ge rfl rfl (by omega) (by omega) (fun c1 => ?_) (fun c1 => ?_)
      · refine T.go 1 (fun n9 => (rfl : _ = exe ξ n9 (d + 4) j_M_sameNames 65 [(0, .ref 137), (1, J x), (2, J y), (3, J u), (4, J n), (5, J k)] [J 1] τ)) ?_
        exact T.iretz rfl rfl (by omega) ⟨_, wk9, we9, rfl, mτ, fτ, by omega, by omega⟩
      · refine T.go 4 (fun n9 => (rfl : _ = exe ξ n9 (d + 4) j_M_sameNames 36 [(0, .ref 137), (1, J x), (2, J y), (3, J u), (4, J n), (5, J k)] [J k, J u, J x, .ref 137] τ)) ?_
        refine T.callv (as := [J x, J u, J k]) (r := []) rfl rfl rfl rfl mτ.ob rfl (s_M_byteOf d x u k τ mτ (by omega) (by omega) (by omega) (by omega) (by omega) (by omega) (by omega)) (fun v1 s1 hqs1 => ?_)
        obtain ⟨z1, wk_1, we_1, rfl, ms1, fs1, hzz1, hyz1⟩ := hqs1
        have ns1 := ms1.len
        have rs1 := ms1.rg
        have gs1 := fτ.trans fs1
        refine T.calls (as := [J z1]) (r := []) rfl rfl (by decide) rfl rfl (s_M_small2 (d + 2) z1 s1 (by omega)) (fun v2 s2 hqs2 => ?_)
        obtain ⟨z2, rfl, esz2, hzz2, hyz2⟩ := hqs2
        rw [esz2]
        refine T.go 4 (fun n9 => (rfl : _ = exe ξ n9 (d + 4) j_M_sameNames 47 [(0, .ref 137), (1, J x), (2, J y), (3, J u), (4, J n), (5, J k)] [J k, J u, J y, .ref 137, J z2] s1)) ?_
        refine T.callv (as := [J y, J u, J k]) (r := [J z2]) rfl rfl rfl rfl ms1.ob rfl (s_M_byteOf d y u k s1 ms1 (by omega) (by omega) (by omega) (by omega) (by omega) (by omega) (by omega)) (fun v3 s3 hqs3 => ?_)
        obtain ⟨z3, wk_2, we_2, rfl, ms3, fs3, hzz3, hyz3⟩ := hqs3
        have ns3 := ms3.len
        have rs3 := ms3.rg
        have gs3 := gs1.trans fs3
        refine T.calls (as := [J z3]) (r := [J z2]) rfl rfl (by decide) rfl rfl (s_M_small2 (d + 2) z3 s3 (by omega)) (fun v4 s4 hqs4 => ?_)
        obtain ⟨z4, rfl, esz4, hzz4, hyz4⟩ := hqs4
        rw [esz4]
        refine T.icmp_eq rfl rfl (by omega) (by omega) (fun c2 => ?_) (fun c2 => ?_)
        · refine T.iinc (lv' := [(0, .ref 137), (1, J x), (2, J y), (3, J u), (4, J n), (5, J (k + 1))]) rfl rfl rfl rfl ?_
          refine T.go 1 (fun n9 => (rfl : _ = exe ξ n9 (d + 4) j_M_sameNames 24 [(0, .ref 137), (1, J x), (2, J y), (3, J u), (4, J n), (5, J (k + 1))] [] s3)) ?_
          exact ih24  n (k + 1) wk_2 we_2 s3 ms3 gs3 (by omega) (by omega) (by omega) (by omega) (by omega)
        · refine T.go 1 (fun n9 => (rfl : _ = exe ξ n9 (d + 4) j_M_sameNames 57 [(0, .ref 137), (1, J x), (2, J y), (3, J u), (4, J n), (5, J k)] [J 0] s3)) ?_
          exact T.iretz rfl rfl (by omega) ⟨_, wk_2, we_2, rfl, ms3, gs3, by omega, by omega⟩
  refine T.go 3 (fun n9 => (rfl : _ = exe ξ n9 (d + 4) j_M_sameNames 3 [(0, .ref 137), (1, J x), (2, J y), (3, J u)] [J u, J x, .ref 137] σ)) ?_
  refine T.callv (as := [J x, J u]) (r := []) rfl rfl rfl rfl hM.ob rfl (s_M_nameOf d x u σ hM (by omega) (by omega) (by omega) (by omega) (by omega)) (fun v5 s5 hqs5 => ?_)
  obtain ⟨z5, wk_3, we_3, rfl, ms5, fs5, hzz5, hyz5, pz5_0, pz5_1, pz5_2, pz5_3⟩ := hqs5
  have ns5 := ms5.len
  have rs5 := ms5.rg
  refine T.go 5 (fun n9 => (rfl : _ = exe ξ n9 (d + 4) j_M_sameNames 13 [(0, .ref 137), (1, J x), (2, J y), (3, J u), (4, J z5)] [J u, J y, .ref 137, J z5] s5)) ?_
  refine T.callv (as := [J y, J u]) (r := [J z5]) rfl rfl rfl rfl ms5.ob rfl (s_M_nameOf d y u s5 ms5 (by omega) (by omega) (by omega) (by omega) (by omega)) (fun v6 s6 hqs6 => ?_)
  obtain ⟨z6, wk_4, we_4, rfl, ms6, fs6, hzz6, hyz6, pz6_0, pz6_1, pz6_2, pz6_3⟩ := hqs6
  have ns6 := ms6.len
  have rs6 := ms6.rg
  have gs6 := fs5.trans fs6
  refine T.icmp_eq rfl rfl (by omega) (by omega) (fun c3 => ?_) (fun c3 => ?_)
  · refine T.go 2 (fun n9 => (rfl : _ = exe ξ n9 (d + 4) j_M_sameNames 24 [(0, .ref 137), (1, J x), (2, J y), (3, J u), (4, J z5), (5, J 0)] [] s6)) ?_
    exact loop24 _ z5 0 wk_4 we_4 s6 ms6 gs6 (by omega) (by omega) (by omega) (by omega) (Nat.lt_succ_self _)
  · refine T.go 1 (fun n9 => (rfl : _ = exe ξ n9 (d + 4) j_M_sameNames 20 [(0, .ref 137), (1, J x), (2, J y), (3, J u), (4, J z5)] [J 0] s6)) ?_
    exact T.iretz rfl rfl (by omega) ⟨_, wk_4, we_4, rfl, ms6, gs6, by omega, by omega⟩

set_option maxHeartbeats 4000000 in
theorem s_M_isManifestWrong {ξ : Nat → Option (Nat × List Int32)} {c io mo fa pl ns rw en wy wh bi ed sz md bd li wk we : Int} {Lc : List Int64} {la lm ln lh ld lk lt : List Int32} (d : Nat) (x : Int) (σ : qH) (hM : MS σ c io mo fa pl ns rw en wy wh bi ed sz md bd li wk we Lc la lm ln lh ld lk lt) (rx : -2147483648 ≤ x ∧ x ≤ 2147483647) (pre0 : 0 ≤ x) (pre1 : x ≤ 8000) : T ξ (d + 5) j_M_isManifestWrong 0 (lv_args 0 [.ref 137, J x]) [] σ (fun v σ' => ∃ (z : Int) (wk1 : Int) (we1 : Int), v = some (J z) ∧ MS σ' c io mo fa pl ns rw en wy wh bi ed sz md bd li wk1 we1 Lc la lm ln lh ld lk lt ∧ FM σ σ' ∧ 0 ≤ z ∧ z ≤ 1) := by
  have r0 := hM.rg
  have n0 := hM.len
  have loop25 : ∀ (f25 : Nat) (a : Int) (wk9 : Int) (we9 : Int) (τ : qH), MS τ c io mo fa pl ns rw en wy wh bi ed sz md bd li wk9 we9 Lc la lm ln lh ld lk lt → FM σ τ → 0 ≤ a → a ≤ 8002 → (x - a).toNat < f25 → T ξ (d + 5) j_M_isManifestWrong 25 [(0, .ref 137), (1, J x), (2, J a)] [] τ (fun v σ' => ∃ (z : Int) (wk1 : Int) (we1 : Int), v = some (J z) ∧ MS σ' c io mo fa pl ns rw en wy wh bi ed sz md bd li wk1 we1 Lc la lm ln lh ld lk lt ∧ FM σ σ' ∧ 0 ≤ z ∧ z ≤ 1) := by
    intro f25
    induction f25 with
    | zero => intro a wk9 we9 τ mτ fτ i0 i1 hm25; omega
    | succ f25 ih25 =>
      intro a wk9 we9 τ mτ fτ i0 i1 hm25
      have rτ := mτ.rg
      have nτ := mτ.len
      have loop43 : ∀ (f43 : Nat) (b : Int) (wk8 : Int) (we8 : Int) (τ1 : qH), MS τ1 c io mo fa pl ns rw en wy wh bi ed sz md bd li wk8 we8 Lc la lm ln lh ld lk lt → FM σ τ1 → 0 ≤ b → b ≤ 8002 → a < x → (a - b).toNat < f43 → T ξ (d + 5) j_M_isManifestWrong 43 [(0, .ref 137), (1, J x), (2, J a), (3, J b)] [] τ1 (fun v σ' => ∃ (z : Int) (wk1 : Int) (we1 : Int), v = some (J z) ∧ MS σ' c io mo fa pl ns rw en wy wh bi ed sz md bd li wk1 we1 Lc la lm ln lh ld lk lt ∧ FM σ σ' ∧ 0 ≤ z ∧ z ≤ 1) := by
        intro f43
        induction f43 with
        | zero => intro b wk8 we8 τ1 mτ1 fτ1 j0 j1 j2 hm43; omega
        | succ f43 ih43 =>
          intro b wk8 we8 τ1 mτ1 fτ1 j0 j1 j2 hm43
          have rτ1 := mτ1.rg
          have nτ1 := mτ1.len
          refine T.go 2 (fun n9 => (rfl : _ = exe ξ n9 (d + 5) j_M_isManifestWrong 45 [(0, .ref 137), (1, J x), (2, J a), (3, J b)] [J a, J b] τ1)) ?_
          refine T.icmp_ge rfl rfl (by omega) (by omega) (fun c1 => ?_) (fun c1 => ?_)
          · refine T.go 3 (fun n9 => (rfl : _ = exe ξ n9 (d + 5) j_M_isManifestWrong 73 [(0, .ref 137), (1, J x), (2, J a), (3, J b)] [J x, J a, .ref 137] τ1)) ?_
            refine T.callv (as := [J a, J x]) (r := []) rfl rfl rfl rfl mτ1.ob rfl (s_M_behind (d + 2) a x τ1 mτ1 (by omega) (by omega) (by omega) (by omega) (by omega)) (fun v1 s1 hqs1 => ?_)
            obtain ⟨z1, rfl, esz1, hzz1, hyz1, pz1_0⟩ := hqs1
            rw [esz1]
            refine T.go 2 (fun n9 => (rfl : _ = exe ξ n9 (d + 5) j_M_isManifestWrong 25 [(0, .ref 137), (1, J x), (2, J z1), (3, J b)] [] τ1)) ?_
            refine T.drop (lv := [(0, .ref 137), (1, J x), (2, J z1)]) [(3, J b)] (by simp) ?_
            exact ih25  z1 wk8 we8 τ1 mτ1 fτ1 (by omega) (by omega) (by omega)
          · refine T.go 4 (fun n9 => (rfl : _ = exe ξ n9 (d + 5) j_M_isManifestWrong 52 [(0, .ref 137), (1, J x), (2, J a), (3, J b)] [J x, J b, J a, .ref 137] τ1)) ?_
            refine T.callv (as := [J a, J b, J x]) (r := []) rfl rfl rfl rfl mτ1.ob rfl (s_M_sameNames d a b x τ1 mτ1 (by omega) (by omega) (by omega) (by omega) (by omega) (by omega) (by omega) (by omega)) (fun v2 s2 hqs2 => ?_)
            obtain ⟨z2, wk_1, we_1, rfl, ms2, fs2, hzz2, hyz2⟩ := hqs2
            have ns2 := ms2.len
            have rs2 := ms2.rg
            have gs2 := fτ1.trans fs2
            refine T.if_eq rfl rfl (by omega) (fun c2 => ?_) (fun c2 => ?_)
            · refine T.go 3 (fun n9 => (rfl : _ = exe ξ n9 (d + 5) j_M_isManifestWrong 63 [(0, .ref 137), (1, J x), (2, J a), (3, J b)] [J x, J b, .ref 137] s2)) ?_
              refine T.callv (as := [J b, J x]) (r := []) rfl rfl rfl rfl ms2.ob rfl (s_M_behind (d + 2) b x s2 ms2 (by omega) (by omega) (by omega) (by omega) (by omega)) (fun v3 s3 hqs3 => ?_)
              obtain ⟨z3, rfl, esz3, hzz3, hyz3, pz3_0⟩ := hqs3
              rw [esz3]
              refine T.go 2 (fun n9 => (rfl : _ = exe ξ n9 (d + 5) j_M_isManifestWrong 43 [(0, .ref 137), (1, J x), (2, J a), (3, J z3)] [] s2)) ?_
              exact ih43  z3 wk_1 we_1 s2 ms2 gs2 (by omega) (by omega) (by omega) (by omega)
            · refine T.go 1 (fun n9 => (rfl : _ = exe ξ n9 (d + 5) j_M_isManifestWrong 59 [(0, .ref 137), (1, J x), (2, J a), (3, J b)] [J 1] s2)) ?_
              exact T.iretz rfl rfl (by omega) ⟨_, wk_1, we_1, rfl, ms2, gs2, by omega, by omega⟩
      refine T.go 2 (fun n9 => (rfl : _ = exe ξ n9 (d + 5) j_M_isManifestWrong 27 [(0, .ref 137), (1, J x), (2, J a)] [J x, J a] τ)) ?_
      refine T.icmp_ge rfl rfl (by omega) (by omega) (fun c3 => ?_) (fun c3 => ?_)
      · refine T.go 1 (fun n9 => (rfl : _ = exe ξ n9 (d + 5) j_M_isManifestWrong 81 [(0, .ref 137), (1, J x), (2, J a)] [J 0] τ)) ?_
        exact T.iretz rfl rfl (by omega) ⟨_, wk9, we9, rfl, mτ, fτ, by omega, by omega⟩
      · refine T.go 3 (fun n9 => (rfl : _ = exe ξ n9 (d + 5) j_M_isManifestWrong 33 [(0, .ref 137), (1, J x), (2, J a)] [J x, J a, .ref 137] τ)) ?_
        refine T.callv (as := [J a, J x]) (r := []) rfl rfl rfl rfl mτ.ob rfl (s_M_nameOf (d + 1) a x τ mτ (by omega) (by omega) (by omega) (by omega) (by omega)) (fun v4 s4 hqs4 => ?_)
        obtain ⟨z4, wk_2, we_2, rfl, ms4, fs4, hzz4, hyz4, pz4_0, pz4_1, pz4_2, pz4_3⟩ := hqs4
        have ns4 := ms4.len
        have rs4 := ms4.rg
        have gs4 := fτ.trans fs4
        refine T.if_ne rfl rfl (by omega) (fun c4 => ?_) (fun c4 => ?_)
        · refine T.go 2 (fun n9 => (rfl : _ = exe ξ n9 (d + 5) j_M_isManifestWrong 43 [(0, .ref 137), (1, J x), (2, J a), (3, J 0)] [] s4)) ?_
          exact loop43 _ 0 wk_2 we_2 s4 ms4 gs4 (by omega) (by omega) (by omega) (Nat.lt_succ_self _)
        · refine T.go 1 (fun n9 => (rfl : _ = exe ξ n9 (d + 5) j_M_isManifestWrong 40 [(0, .ref 137), (1, J x), (2, J a)] [J 1] s4)) ?_
          exact T.iretz rfl rfl (by omega) ⟨_, wk_2, we_2, rfl, ms4, gs4, by omega, by omega⟩
  refine T.go 1 (fun n9 => (rfl : _ = exe ξ n9 (d + 5) j_M_isManifestWrong 1 [(0, .ref 137), (1, J x)] [.ref 137] σ)) ?_
  refine T.callv (as := []) (r := []) rfl rfl rfl rfl hM.ob rfl (s_M_isLong (d + 2)  σ hM ) (fun v5 s5 hqs5 => ?_)
  obtain ⟨z5, rfl, esz5, hzz5, hyz5⟩ := hqs5
  rw [esz5]
  refine T.if_ne rfl rfl (by omega) (fun c5 => ?_) (fun c5 => ?_)
  · refine T.go 1 (fun n9 => (rfl : _ = exe ξ n9 (d + 5) j_M_isManifestWrong 22 [(0, .ref 137), (1, J x)] [J 1] σ)) ?_
    exact T.iretz rfl rfl (by omega) ⟨_, wk, we, rfl, hM, FM.refl, by omega, by omega⟩
  · refine T.go 3 (fun n9 => (rfl : _ = exe ξ n9 (d + 5) j_M_isManifestWrong 10 [(0, .ref 137), (1, J x)] [.ref 137, J 0, .ref 137] σ)) ?_
    refine T.get rfl rfl rfl hM.ob rfl ?_
    refine T.go 1 (fun n9 => (rfl : _ = exe ξ n9 (d + 5) j_M_isManifestWrong 14 [(0, .ref 137), (1, J x)] [J 5, .ref 139, J 0, .ref 137] σ)) ?_
    refine T.iald rfl rfl hM.c139 (by omega) (fun z6 hzz6 hyz6 hez6 => ?_)
    have hbz6 := hM.b139.at hez6 ⟨hzz6, hyz6⟩
    have gzz6 := gl_of hez6 ⟨hzz6, hyz6⟩
    subst gzz6
    refine T.callv (as := [J 0, J (gl la 5)]) (r := []) rfl rfl rfl rfl hM.ob rfl (s_M_goesOn (d + 3) 0 (gl la 5) σ hM (by omega) (by omega) (by omega) (by omega)) (fun v6 s6 hqs6 => ?_)
    obtain ⟨z7, rfl, esz7, hzz7, hyz7, pz7_0⟩ := hqs6
    rw [esz7]
    refine T.if_eq rfl rfl (by omega) (fun c6 => ?_) (fun c6 => ?_)
    · refine T.go 2 (fun n9 => (rfl : _ = exe ξ n9 (d + 5) j_M_isManifestWrong 25 [(0, .ref 137), (1, J x), (2, J 0)] [] σ)) ?_
      exact loop25 _ 0 wk we σ hM FM.refl (by omega) (by omega) (Nat.lt_succ_self _)
    · refine T.go 1 (fun n9 => (rfl : _ = exe ξ n9 (d + 5) j_M_isManifestWrong 22 [(0, .ref 137), (1, J x)] [J 1] σ)) ?_
      exact T.iretz rfl rfl (by omega) ⟨_, wk, we, rfl, hM, FM.refl, by omega, by omega⟩

set_option maxHeartbeats 4000000 in
theorem s_M_isAsked {ξ : Nat → Option (Nat × List Int32)} {c io mo fa pl ns rw en wy wh bi ed sz md bd li wk we : Int} {Lc : List Int64} {la lm ln lh ld lk lt : List Int32} (d : Nat) (x : Int) (y : Int) (u : Int) (σ : qH) (hM : MS σ c io mo fa pl ns rw en wy wh bi ed sz md bd li wk we Lc la lm ln lh ld lk lt) (rx : -2147483648 ≤ x ∧ x ≤ 2147483647) (ry : -2147483648 ≤ y ∧ y ≤ 2147483647) (ru : -2147483648 ≤ u ∧ u ≤ 2147483647) (pre0 : 0 ≤ x) (pre1 : x ≤ 8000) (pre2 : y ≤ 8000) (pre3 : 0 ≤ u) (pre4 : u ≤ 40) : T ξ (d + 4) j_M_isAsked 0 (lv_args 0 [.ref 137, J x, J y, J u]) [] σ (fun v σ' => ∃ (z : Int) (wk1 : Int) (we1 : Int), v = some (J z) ∧ MS σ' c io mo fa pl ns rw en wy wh bi ed sz md bd li wk1 we1 Lc la lm ln lh ld lk lt ∧ FM σ σ' ∧ 0 ≤ z ∧ z ≤ 1) := by
  have r0 := hM.rg
  have n0 := hM.len
  have loop15 : ∀ (f15 : Nat) (k : Int) (wk9 : Int) (we9 : Int) (τ : qH), MS τ c io mo fa pl ns rw en wy wh bi ed sz md bd li wk9 we9 Lc la lm ln lh ld lk lt → FM σ τ → 0 ≤ k → k ≤ u → (u - k).toNat < f15 → T ξ (d + 4) j_M_isAsked 15 [(0, .ref 137), (1, J x), (2, J y), (3, J u), (4, J k)] [] τ (fun v σ' => ∃ (z : Int) (wk1 : Int) (we1 : Int), v = some (J z) ∧ MS σ' c io mo fa pl ns rw en wy wh bi ed sz md bd li wk1 we1 Lc la lm ln lh ld lk lt ∧ FM σ σ' ∧ 0 ≤ z ∧ z ≤ 1) := by
    intro f15
    induction f15 with
    | zero => intro k wk9 we9 τ mτ fτ i0 i1 hm15; omega
    | succ f15 ih15 =>
      intro k wk9 we9 τ mτ fτ i0 i1 hm15
      have rτ := mτ.rg
      have nτ := mτ.len
      refine T.go 2 (fun n9 => (rfl : _ = exe ξ n9 (d + 4) j_M_isAsked 18 [(0, .ref 137), (1, J x), (2, J y), (3, J u), (4, J k)] [J u, J k] τ)) ?_
      refine T.icmp_ge rfl rfl (by omega) (by omega) (fun c1 => ?_) (fun c1 => ?_)
      · refine T.go 1 (fun n9 => (rfl : _ = exe ξ n9 (d + 4) j_M_isAsked 54 [(0, .ref 137), (1, J x), (2, J y), (3, J u), (4, J k)] [J 1] τ)) ?_
        exact T.iretz rfl rfl (by omega) ⟨_, wk9, we9, rfl, mτ, fτ, by omega, by omega⟩
      · refine T.go 4 (fun n9 => (rfl : _ = exe ξ n9 (d + 4) j_M_isAsked 26 [(0, .ref 137), (1, J x), (2, J y), (3, J u), (4, J k)] [J k, J y, J x, .ref 137] τ)) ?_
        refine T.callv (as := [J x, J y, J k]) (r := []) rfl rfl rfl rfl mτ.ob rfl (s_M_byteOf d x y k τ mτ (by omega) (by omega) (by omega) (by omega) (by omega) (by omega) (by omega)) (fun v1 s1 hqs1 => ?_)
        obtain ⟨z1, wk_1, we_1, rfl, ms1, fs1, hzz1, hyz1⟩ := hqs1
        have ns1 := ms1.len
        have rs1 := ms1.rg
        have gs1 := fτ.trans fs1
        refine T.calls (as := [J z1]) (r := []) rfl rfl (by decide) rfl rfl (s_M_small2 (d + 2) z1 s1 (by omega)) (fun v2 s2 hqs2 => ?_)
        obtain ⟨z2, rfl, esz2, hzz2, hyz2⟩ := hqs2
        rw [esz2]
        refine T.go 1 (fun n9 => (rfl : _ = exe ξ n9 (d + 4) j_M_isAsked 33 [(0, .ref 137), (1, J x), (2, J y), (3, J u), (4, J k)] [.ref 137, J z2] s1)) ?_
        refine T.get rfl rfl rfl ms1.ob rfl ?_
        refine T.go 1 (fun n9 => (rfl : _ = exe ξ n9 (d + 4) j_M_isAsked 38 [(0, .ref 137), (1, J x), (2, J y), (3, J u), (4, J k)] [J k, .ref 141, J z2] s1)) ?_
        refine T.iald rfl rfl ms1.c141 (by omega) (fun z3 hzz3 hyz3 hez3 => ?_)
        refine T.calls (as := [J z3]) (r := [J z2]) rfl rfl (by decide) rfl rfl (s_M_small2 (d + 2) z3 s1 (by omega)) (fun v3 s3 hqs3 => ?_)
        obtain ⟨z4, rfl, esz4, hzz4, hyz4⟩ := hqs3
        rw [esz4]
        refine T.icmp_eq rfl rfl (by omega) (by omega) (fun c2 => ?_) (fun c2 => ?_)
        · refine T.iinc (lv' := [(0, .ref 137), (1, J x), (2, J y), (3, J u), (4, J (k + 1))]) rfl rfl rfl rfl ?_
          refine T.go 1 (fun n9 => (rfl : _ = exe ξ n9 (d + 4) j_M_isAsked 15 [(0, .ref 137), (1, J x), (2, J y), (3, J u), (4, J (k + 1))] [] s1)) ?_
          exact ih15  (k + 1) wk_1 we_1 s1 ms1 gs1 (by omega) (by omega) (by omega)
        · refine T.go 1 (fun n9 => (rfl : _ = exe ξ n9 (d + 4) j_M_isAsked 46 [(0, .ref 137), (1, J x), (2, J y), (3, J u), (4, J k)] [J 0] s1)) ?_
          exact T.iretz rfl rfl (by omega) ⟨_, wk_1, we_1, rfl, ms1, gs1, by omega, by omega⟩
  refine T.go 3 (fun n9 => (rfl : _ = exe ξ n9 (d + 4) j_M_isAsked 3 [(0, .ref 137), (1, J x), (2, J y), (3, J u)] [J y, J x, .ref 137] σ)) ?_
  refine T.callv (as := [J x, J y]) (r := []) rfl rfl rfl rfl hM.ob rfl (s_M_nameOf d x y σ hM (by omega) (by omega) (by omega) (by omega) (by omega)) (fun v4 s4 hqs4 => ?_)
  obtain ⟨z5, wk_2, we_2, rfl, ms4, fs4, hzz5, hyz5, pz5_0, pz5_1, pz5_2, pz5_3⟩ := hqs4
  have ns4 := ms4.len
  have rs4 := ms4.rg
  refine T.go 1 (fun n9 => (rfl : _ = exe ξ n9 (d + 4) j_M_isAsked 7 [(0, .ref 137), (1, J x), (2, J y), (3, J u)] [J u, J z5] s4)) ?_
  refine T.icmp_eq rfl rfl (by omega) (by omega) (fun c3 => ?_) (fun c3 => ?_)
  · refine T.go 2 (fun n9 => (rfl : _ = exe ξ n9 (d + 4) j_M_isAsked 15 [(0, .ref 137), (1, J x), (2, J y), (3, J u), (4, J 0)] [] s4)) ?_
    exact loop15 _ 0 wk_2 we_2 s4 ms4 fs4 (by omega) (by omega) (Nat.lt_succ_self _)
  · refine T.go 1 (fun n9 => (rfl : _ = exe ξ n9 (d + 4) j_M_isAsked 11 [(0, .ref 137), (1, J x), (2, J y), (3, J u)] [J 0] s4)) ?_
    exact T.iretz rfl rfl (by omega) ⟨_, wk_2, we_2, rfl, ms4, fs4, by omega, by omega⟩

set_option maxHeartbeats 4000000 in
theorem s_M_keepValue {ξ : Nat → Option (Nat × List Int32)} {c io mo fa pl ns rw en wy wh bi ed sz md bd li wk we : Int} {Lc : List Int64} {la lm ln lh ld lk lt : List Int32} (d : Nat) (x : Int) (y : Int) (σ : qH) (hM : MS σ c io mo fa pl ns rw en wy wh bi ed sz md bd li wk we Lc la lm ln lh ld lk lt) (rx : -2147483648 ≤ x ∧ x ≤ 2147483647) (ry : -2147483648 ≤ y ∧ y ≤ 2147483647) (pre0 : 0 ≤ x) (pre1 : x ≤ 8000) (pre2 : y ≤ 8000) : T ξ (d + 4) j_M_keepValue 0 (lv_args 0 [.ref 137, J x, J y]) [] σ (fun v σ' => ∃ (z : Int) (wk1 : Int) (we1 : Int) (Lc1 : List Int64) (la1 : List Int32), v = some (J z) ∧ MS σ' c io mo fa pl ns rw en wy wh bi ed sz md bd li wk1 we1 Lc1 la1 lm ln lh ld lk lt ∧ FM σ σ' ∧ 0 ≤ z ∧ z ≤ 8000 ∧ RG [6] Lc Lc1 ∧ LG [6] la la1) := by
  have r0 := hM.rg
  have n0 := hM.len
  have loop46 : ∀ (f46 : Nat) (n : Int) (k : Int) (b5 : Int) (wk9 : Int) (we9 : Int) (Lc9 : List Int64) (τ : qH), MS τ c io mo fa pl ns rw en wy wh bi ed sz md bd li wk9 we9 Lc9 la lm ln lh ld lk lt → FM σ τ → RG [6] Lc Lc9 → 0 ≤ wk9 → wk9 ≤ we9 + 1 → 0 ≤ we9 → we9 ≤ 8000 → 0 ≤ k → (b5 = -1 ∨ k + 1 ≤ wk9 ∧ wk9 ≤ 8000) → k ≤ 8000 → k ≤ wk9 → -1 ≤ b5 → b5 ≤ 255 → (2 * (8001 - wk9) + (b5 + 256) / 256).toNat < f46 → T ξ (d + 4) j_M_keepValue 46 [(0, .ref 137), (1, J x), (2, J y), (3, J n), (4, J k), (5, J b5)] [] τ (fun v σ' => ∃ (z : Int) (wk1 : Int) (we1 : Int) (Lc1 : List Int64) (la1 : List Int32), v = some (J z) ∧ MS σ' c io mo fa pl ns rw en wy wh bi ed sz md bd li wk1 we1 Lc1 la1 lm ln lh ld lk lt ∧ FM σ σ' ∧ 0 ≤ z ∧ z ≤ 8000 ∧ RG [6] Lc Lc1 ∧ LG [6] la la1) := by
    intro f46
    induction f46 with
    | zero => intro n k b5 wk9 we9 Lc9 τ mτ fτ gτ i0 i1 i2 i3 i4 i5 i6 i7 i8 i9 hm46; omega
    | succ f46 ih46 =>
      intro n k b5 wk9 we9 Lc9 τ mτ fτ gτ i0 i1 i2 i3 i4 i5 i6 i7 i8 i9 hm46
      have rτ := mτ.rg
      have nτ := mτ.len
      refine T.go 1 (fun n9 => (rfl : _ = exe ξ n9 (d + 4) j_M_keepValue 48 [(0, .ref 137), (1, J x), (2, J y), (3, J n), (4, J k), (5, J b5)] [J b5] τ)) ?_
      refine T.if_lt rfl rfl (by omega) (fun c1 => ?_) (fun c1 => ?_)
      · refine T.go 1 (fun n9 => (rfl : _ = exe ξ n9 (d + 4) j_M_keepValue 75 [(0, .ref 137), (1, J x), (2, J y), (3, J n), (4, J k), (5, J b5)] [.ref 137] τ)) ?_
        refine T.get rfl rfl rfl mτ.ob rfl ?_
        refine T.go 2 (fun n9 => (rfl : _ = exe ξ n9 (d + 4) j_M_keepValue 82 [(0, .ref 137), (1, J x), (2, J y), (3, J n), (4, J k), (5, J b5)] [J k, J 6, .ref 139] τ)) ?_
        refine T.mast139 mτ rfl (by omega) (by omega) (fun s1 ms1 fs1 => ?_)
        have ns1 := ms1.len
        have gs1 := fτ.trans fs1
        have lgs1 := (LG.refl (S := [6])).trans (LG.set (S := [6]) (A := la) (x := 6) (v := Int32.ofInt k) (by decide) (by decide)) (fun _ z => z)
        refine T.go 1 (fun n9 => (rfl : _ = exe ξ n9 (d + 4) j_M_keepValue 85 [(0, .ref 137), (1, J x), (2, J y), (3, J n), (4, J k), (5, J b5)] [J k] s1)) ?_
        exact T.ireti rfl rfl ⟨_, wk9, we9, Lc9, (la.set (6 : Int).toNat (Int32.ofInt k)), rfl, ms1, gs1, by omega, by omega, gτ, lgs1⟩
      · refine T.go 4 (fun n9 => (rfl : _ = exe ξ n9 (d + 4) j_M_keepValue 58 [(0, .ref 137), (1, J x), (2, J y), (3, J n), (4, J k), (5, J b5)] [J b5, J k, J 6, .ref 137] τ)) ?_
        refine T.callv (as := [J 6, J k, J b5]) (r := []) rfl rfl rfl rfl mτ.ob rfl (s_M_put (d + 3) 6 k b5 τ mτ (by omega) (by omega) (by omega) (by omega) (by omega) (by omega) (by omega)) (fun v1 s2 hqs2 => ?_)
        obtain ⟨Lc_1, rfl, ms2, fs2, pz1_0⟩ := hqs2
        have ns2 := ms2.len
        have rs2 := ms2.rg
        have gs2 := fτ.trans fs2
        have rgs2 := gτ.trans pz1_0 (by decide)
        refine T.iinc (lv' := [(0, .ref 137), (1, J x), (2, J y), (3, J n), (4, J (k + 1)), (5, J b5)]) rfl rfl rfl rfl ?_
        refine T.go 2 (fun n9 => (rfl : _ = exe ξ n9 (d + 4) j_M_keepValue 66 [(0, .ref 137), (1, J x), (2, J y), (3, J n), (4, J (k + 1)), (5, J b5)] [J y, .ref 137] s2)) ?_
        refine T.callv (as := [J y]) (r := []) rfl rfl rfl rfl ms2.ob rfl (s_M_step (d + 1) y s2 ms2 (by omega) (by omega) (by omega) (by omega) (by omega) (by omega)) (fun v2 s3 hqs3 => ?_)
        obtain ⟨z2, wk_1, we_1, rfl, ms3, fs3, hzz2, hyz2, pz2_0, pz2_1, pz2_2, pz2_3, pz2_4⟩ := hqs3
        have ns3 := ms3.len
        have rs3 := ms3.rg
        have gs3 := gs2.trans fs3
        refine T.go 2 (fun n9 => (rfl : _ = exe ξ n9 (d + 4) j_M_keepValue 46 [(0, .ref 137), (1, J x), (2, J y), (3, J n), (4, J (k + 1)), (5, J z2)] [] s3)) ?_
        exact ih46  n (k + 1) z2 wk_1 we_1 Lc_1 s3 ms3 gs3 rgs2 (by omega) (by omega) (by omega) (by omega) (by omega) (by omega) (by omega) (by omega) (by omega) (by omega) (by omega)
  have loop15 : ∀ (f15 : Nat) (n : Int) (k : Int) (wk9 : Int) (we9 : Int) (τ : qH), MS τ c io mo fa pl ns rw en wy wh bi ed sz md bd li wk9 we9 Lc la lm ln lh ld lk lt → FM σ τ → 0 ≤ wk9 → wk9 ≤ we9 + 1 → 0 ≤ we9 → we9 ≤ 8000 → 0 ≤ n → n ≤ 8001 → 0 ≤ k → k ≤ n + 2 → (n + 2 - k).toNat < f15 → T ξ (d + 4) j_M_keepValue 15 [(0, .ref 137), (1, J x), (2, J y), (3, J n), (4, J k)] [] τ (fun v σ' => ∃ (z : Int) (wk1 : Int) (we1 : Int) (Lc1 : List Int64) (la1 : List Int32), v = some (J z) ∧ MS σ' c io mo fa pl ns rw en wy wh bi ed sz md bd li wk1 we1 Lc1 la1 lm ln lh ld lk lt ∧ FM σ σ' ∧ 0 ≤ z ∧ z ≤ 8000 ∧ RG [6] Lc Lc1 ∧ LG [6] la la1) := by
    intro f15
    induction f15 with
    | zero => intro n k wk9 we9 τ mτ fτ i0 i1 i2 i3 i4 i5 i6 i7 hm15; omega
    | succ f15 ih15 =>
      intro n k wk9 we9 τ mτ fτ i0 i1 i2 i3 i4 i5 i6 i7 hm15
      have rτ := mτ.rg
      have nτ := mτ.len
      refine T.go 3 (fun n9 => (rfl : _ = exe ξ n9 (d + 4) j_M_keepValue 19 [(0, .ref 137), (1, J x), (2, J y), (3, J n), (4, J k)] [J 2, J n, J k] τ)) ?_
      refine T.iadd rfl ?_
      refine T.icmp_ge rfl rfl (by omega) (by omega) (fun c2 => ?_) (fun c2 => ?_)
      · refine T.go 4 (fun n9 => (rfl : _ = exe ξ n9 (d + 4) j_M_keepValue 41 [(0, .ref 137), (1, J x), (2, J y), (3, J n), (4, J 0)] [J y, .ref 137] τ)) ?_
        refine T.callv (as := [J y]) (r := []) rfl rfl rfl rfl mτ.ob rfl (s_M_step (d + 1) y τ mτ (by omega) (by omega) (by omega) (by omega) (by omega) (by omega)) (fun v3 s4 hqs4 => ?_)
        obtain ⟨z3, wk_2, we_2, rfl, ms4, fs4, hzz3, hyz3, pz3_0, pz3_1, pz3_2, pz3_3, pz3_4⟩ := hqs4
        have ns4 := ms4.len
        have rs4 := ms4.rg
        have gs4 := fτ.trans fs4
        refine T.go 1 (fun n9 => (rfl : _ = exe ξ n9 (d + 4) j_M_keepValue 46 [(0, .ref 137), (1, J x), (2, J y), (3, J n), (4, J 0), (5, J z3)] [] s4)) ?_
        exact loop46 _ n 0 z3 wk_2 we_2 Lc s4 ms4 gs4 RG.refl (by omega) (by omega) (by omega) (by omega) (by omega) (by omega) (by omega) (by omega) (by omega) (by omega) (Nat.lt_succ_self _)
      · refine T.go 2 (fun n9 => (rfl : _ = exe ξ n9 (d + 4) j_M_keepValue 25 [(0, .ref 137), (1, J x), (2, J y), (3, J n), (4, J k)] [J y, .ref 137] τ)) ?_
        refine T.callv (as := [J y]) (r := []) rfl rfl rfl rfl mτ.ob rfl (s_M_step (d + 1) y τ mτ (by omega) (by omega) (by omega) (by omega) (by omega) (by omega)) (fun v4 s5 hqs5 => ?_)
        obtain ⟨z4, wk_3, we_3, rfl, ms5, fs5, hzz4, hyz4, pz4_0, pz4_1, pz4_2, pz4_3, pz4_4⟩ := hqs5
        have ns5 := ms5.len
        have rs5 := ms5.rg
        have gs5 := fτ.trans fs5
        refine T.go 1 (fun n9 => (rfl : _ = exe ξ n9 (d + 4) j_M_keepValue 30 [(0, .ref 137), (1, J x), (2, J y), (3, J n), (4, J k), (5, J z4)] [] s5)) ?_
        refine T.iinc (lv' := [(0, .ref 137), (1, J x), (2, J y), (3, J n), (4, J (k + 1)), (5, J z4)]) rfl rfl rfl rfl ?_
        refine T.go 1 (fun n9 => (rfl : _ = exe ξ n9 (d + 4) j_M_keepValue 15 [(0, .ref 137), (1, J x), (2, J y), (3, J n), (4, J (k + 1)), (5, J z4)] [] s5)) ?_
        refine T.drop (lv := [(0, .ref 137), (1, J x), (2, J y), (3, J n), (4, J (k + 1))]) [(5, J z4)] (by simp) ?_
        exact ih15  n (k + 1) wk_3 we_3 s5 ms5 gs5 (by omega) (by omega) (by omega) (by omega) (by omega) (by omega) (by omega) (by omega) (by omega)
  refine T.go 3 (fun n9 => (rfl : _ = exe ξ n9 (d + 4) j_M_keepValue 3 [(0, .ref 137), (1, J x), (2, J y)] [J y, J x, .ref 137] σ)) ?_
  refine T.callv (as := [J x, J y]) (r := []) rfl rfl rfl rfl hM.ob rfl (s_M_nameOf d x y σ hM (by omega) (by omega) (by omega) (by omega) (by omega)) (fun v5 s6 hqs6 => ?_)
  obtain ⟨z5, wk_4, we_4, rfl, ms6, fs6, hzz5, hyz5, pz5_0, pz5_1, pz5_2, pz5_3⟩ := hqs6
  have ns6 := ms6.len
  have rs6 := ms6.rg
  refine T.go 3 (fun n9 => (rfl : _ = exe ξ n9 (d + 4) j_M_keepValue 9 [(0, .ref 137), (1, J x), (2, J y), (3, J z5)] [J x, .ref 137] s6)) ?_
  refine T.callv (as := [J x]) (r := []) rfl rfl rfl rfl ms6.ob rfl (s_M_enter (d + 1) x s6 ms6 (by omega) (by omega) (by omega)) (fun v6 s7 hqs7 => ?_)
  obtain ⟨wk_5, we_5, rfl, ms7, fs7, pz6_0, pz6_1, pz6_2⟩ := hqs7
  have ns7 := ms7.len
  have rs7 := ms7.rg
  have gs7 := fs6.trans fs7
  refine T.go 2 (fun n9 => (rfl : _ = exe ξ n9 (d + 4) j_M_keepValue 15 [(0, .ref 137), (1, J x), (2, J y), (3, J z5), (4, J 0)] [] s7)) ?_
  exact loop15 _ z5 0 wk_5 we_5 s7 ms7 gs7 (by omega) (by omega) (by omega) (by omega) (by omega) (by omega) (by omega) (by omega) (Nat.lt_succ_self _)
