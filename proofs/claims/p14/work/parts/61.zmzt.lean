/-! The model: an entry is read. -/
set_option maxHeartbeats 4000000 in
theorem s_M_fisUnread {ξ : Nat → Option (Nat × List Int32)} {c io mo fa pl ns rw en wy wh bi ed sz md bd li wk we : Int} {Lc : List Int64} {la lm ln lh ld lk lt : List Int32} (d : Nat) (x : Int) (σ : qH) (hM : MS σ c io mo fa pl ns rw en wy wh bi ed sz md bd li wk we Lc la lm ln lh ld lk lt) (rx : -2147483648 ≤ x ∧ x ≤ 2147483647) (pre0 : 0 ≤ x) (pre1 : x ≤ 63) (pre2 : gl lh x ≤ 7932) (pre3 : 0 ≤ gl ld x) (pre4 : gl ld x + W4 (gc Lc rw) (gl lh x + 20) ≤ 8000) (pre5 : rw ≤ 3) : T ξ (d + 6) j_M_isUnread 0 (lv_args 0 [.ref 137, J x]) [] σ (fun v σ' => ∃ (z : Int) (wy1 : Int) (wh1 : Int) (bi1 : Int) (ed1 : Int) (sz1 : Int) (md1 : Int) (bd1 : Int) (Lc1 : List Int64) (la1 : List Int32) (lk1 : List Int32), v = some (J z) ∧ MS σ' c io mo fa pl ns rw en wy1 wh1 bi1 ed1 sz1 md1 bd1 li wk we Lc1 la1 lm ln lh ld lk1 lt ∧ FM σ σ' ∧ 0 ≤ z ∧ z ≤ 1 ∧ RG [4] Lc Lc1 ∧ LG [4] la la1 ∧ (z = 0 → RD (gc Lc rw) (gl lh x) (gl ld x) (nm Lc1 md1) ∧ md1 = W4 (gc Lc rw) (gl lh x + 24) ∧ gl la1 4 = W4 (gc Lc rw) (gl lh x + 24)) ∧ (z = 1 → ∀ o : Int → Int, ¬ RD (gc Lc rw) (gl lh x) (gl ld x) o)) := by
  have r0 := hM.rg
  have n0 := hM.len
  have hV := W4_r (gc_r Lc rw) (gl lh x + 20)
  have hV4 := W4_r (gc_r Lc rw) (gl lh x + 24)
  have hV6 := W4_r (gc_r Lc rw) (gl lh x + 16)
  have hW8 := W2_r (gc_r Lc rw) (gl lh x + 8)
  have hW0 := W2_r (gc_r Lc rw) (gl lh x + 10)
  have loop159 : ∀ (f159 : Nat) (h2 : Int) (m3 : Int) (p4 : Int) (q6 : Int) (k : Int) (bi9 : Int) (ed9 : Int) (sz9 : Int) (md9 : Int) (bd9 : Int) (Lc9 : List Int64) (lk9 : List Int32) (τ : qH), MS τ c io mo fa pl ns rw en wy wh bi9 ed9 sz9 md9 bd9 li wk we Lc9 la lm ln lh ld lk9 lt → FM σ τ → RG [4] Lc Lc9 → (0 ≤ h2 ∧ h2 = gl lh x ∧ m3 = W2 (gc Lc rw) (gl lh x + 10) ∧ p4 = W4 (gc Lc rw) (gl lh x + 20) ∧ q6 = W4 (gc Lc rw) (gl lh x + 24)) → (W2 (gc Lc rw) (gl lh x + 8) % 2 ≠ 1 ∧ (m3 = 0 ∨ m3 = 8)) → q6 ≤ 8000 → sz9 = q6 → 0 ≤ md9 → md9 ≤ sz9 → (0 ≤ k ∧ k ≤ 8000) → (m3 = 0 → bd9 = 0 → p4 = q6 ∧ md9 = k ∧ k ≤ q6) → (m3 = 0 → bd9 = 0 → nm Lc9 md9 = PLC (gc Lc rw) (fun _ => 0) 0 (gl ld x) k.toNat) → (m3 = 0 → bd9 = 1 → p4 ≠ q6) → (m3 = 8 → IFm (gc Lc rw) (8 * (gl ld x + W4 (gc Lc rw) (gl lh x + 20))) (W4 (gc Lc rw) (gl lh x + 24)) (8 * gl ld x) bd9 md9 (nm Lc9 md9)) → (8000 - k).toNat < f159 → T ξ (d + 6) j_M_isUnread 159 [(0, .ref 137), (1, J x), (2, J h2), (3, J m3), (4, JL p4), (6, JL q6), (8, J k)] [] τ (fun v σ' => ∃ (z : Int) (wy1 : Int) (wh1 : Int) (bi1 : Int) (ed1 : Int) (sz1 : Int) (md1 : Int) (bd1 : Int) (Lc1 : List Int64) (la1 : List Int32) (lk1 : List Int32), v = some (J z) ∧ MS σ' c io mo fa pl ns rw en wy1 wh1 bi1 ed1 sz1 md1 bd1 li wk we Lc1 la1 lm ln lh ld lk1 lt ∧ FM σ σ' ∧ 0 ≤ z ∧ z ≤ 1 ∧ RG [4] Lc Lc1 ∧ LG [4] la la1 ∧ (z = 0 → RD (gc Lc rw) (gl lh x) (gl ld x) (nm Lc1 md1) ∧ md1 = W4 (gc Lc rw) (gl lh x + 24) ∧ gl la1 4 = W4 (gc Lc rw) (gl lh x + 24)) ∧ (z = 1 → ∀ o : Int → Int, ¬ RD (gc Lc rw) (gl lh x) (gl ld x) o)) := by
    intro f159
    induction f159 with
    | zero => intro h2 m3 p4 q6 k bi9 ed9 sz9 md9 bd9 Lc9 lk9 τ mτ fτ gτ i0 i1 i2 i3 i4 i5 i6 i7 i8 i9 i10 hm159; omega
    | succ f159 ih159 =>
      intro h2 m3 p4 q6 k bi9 ed9 sz9 md9 bd9 Lc9 lk9 τ mτ fτ gτ i0 i1 i2 i3 i4 i5 i6 i7 i8 i9 i10 hm159
      have rτ := mτ.rg
      have nτ := mτ.len
      refine T.go 2 (fun n9 => (rfl : _ = exe ξ n9 (d + 6) j_M_isUnread 162 [(0, .ref 137), (1, J x), (2, J h2), (3, J m3), (4, JL p4), (6, JL q6), (8, J k)] [.ref 137, J k] τ)) ?_
      refine T.get rfl rfl rfl mτ.ob rfl ?_
      refine T.icmp_ge rfl rfl (by omega) (by omega) (fun c1 => ?_) (fun c1 => ?_)
      · refine T.go 1 (fun n9 => (rfl : _ = exe ξ n9 (d + 6) j_M_isUnread 207 [(0, .ref 137), (1, J x), (2, J h2), (3, J m3), (4, JL p4), (6, JL q6), (8, J k)] [.ref 137] τ)) ?_
        refine T.get rfl rfl rfl mτ.ob rfl ?_
        refine T.if_eq rfl rfl (by omega) (fun c2 => ?_) (fun c2 => ?_)
        · refine T.go 1 (fun n9 => (rfl : _ = exe ξ n9 (d + 6) j_M_isUnread 222 [(0, .ref 137), (1, J x), (2, J h2), (3, J m3), (4, JL p4), (6, JL q6), (8, J k)] [.ref 137] τ)) ?_
          refine T.get rfl rfl rfl mτ.ob rfl ?_
          refine T.go 2 (fun n9 => (rfl : _ = exe ξ n9 (d + 6) j_M_isUnread 227 [(0, .ref 137), (1, J x), (2, J h2), (3, J m3), (4, JL p4), (6, JL q6), (8, J k)] [.ref 137, J 4, .ref 139] τ)) ?_
          refine T.get rfl rfl rfl mτ.ob rfl ?_
          refine T.mast139 mτ rfl (by omega) (by omega) (fun s1 ms1 fs1 => ?_)
          have ns1 := ms1.len
          have gs1 := fτ.trans fs1
          have lgs1 := (LG.refl (S := [4])).trans (LG.set (S := [4]) (A := la) (x := 4) (v := Int32.ofInt md9) (by decide) (by decide)) (fun _ z => z)
          have gss1 : ∀ j : Int, 0 ≤ j → gl (la.set (4 : Int).toNat (Int32.ofInt md9)) j = if j = 4 then md9 else gl la j := fun j hj => gl_set ⟨by omega, by omega⟩ ⟨by omega, by omega⟩ hj
          have ges1 : gl (la.set (4 : Int).toNat (Int32.ofInt md9)) 4 = md9 := (gss1 4 (by omega)).trans (if_pos rfl)
          refine T.go 1 (fun n9 => (rfl : _ = exe ξ n9 (d + 6) j_M_isUnread 232 [(0, .ref 137), (1, J x), (2, J h2), (3, J m3), (4, JL p4), (6, JL q6), (8, J k)] [.ref 137] s1)) ?_
          refine T.callv (as := []) (r := []) rfl rfl rfl rfl ms1.ob rfl (s_M_fsumOfMade (d + 4)  s1 ms1 (by omega) (by omega)) (fun v1 s2 hqs2 => ?_)
          obtain ⟨z1, rfl, esz1, hzz1, hyz1, pz1_0⟩ := hqs2
          rw [esz1]
          have hRQ : RQ (gc Lc rw) (gl lh x) (gl ld x) (nm Lc9 md9) := by rcases (by omega : m3 = 0 ∨ m3 = 8) with h | h; (· exact RQ_0 (by omega) (by omega) (by omega) (by have := i7 h (by omega); omega) (by rw [i8 h (by omega), show k = W4 (gc Lc rw) (gl lh x + 24) by have := i7 h (by omega); omega])); (rcases i10 h with q | q; (· obtain ⟨v9, n1, n2, n3, n4⟩ := q.2.2; exact RQ_8 (by omega) (by omega) (by omega) n1 n2 n3 n4); (exact absurd q.1 (by omega)))
          have mN : md9 = W4 (gc Lc rw) (gl lh x + 24) := by rcases (by omega : m3 = 0 ∨ m3 = 8) with h | h; (· have := i7 h (by omega); omega); (rcases i10 h with q | q; (· exact q.2.1); (exact absurd q.1 (by omega)))
          rw [show md9.toNat = (W4 (gc Lc rw) (gl lh x + 24)).toNat by rw [mN]] at pz1_0
          have cg9 := gτ rw (by omega) (fun q => by have := List.mem_singleton.mp q; omega)
          refine T.go 3 (fun n9 => (rfl : _ = exe ξ n9 (d + 6) j_M_isUnread 239 [(0, .ref 137), (1, J x), (2, J h2), (3, J m3), (4, JL p4), (6, JL q6), (8, J k)] [J 16, J h2, .ref 137, JL z1] s1)) ?_
          refine T.iadd rfl ?_
          refine T.callv (as := [J (h2 + 16)]) (r := [JL z1]) rfl rfl rfl rfl ms1.ob rfl (s_M_four (d + 3) (h2 + 16) s1 ms1 (by omega) (by omega) (by omega)) (fun v2 s3 hqs3 => ?_)
          obtain ⟨z2, rfl, esz2, hzz2, hyz2, pz2_0⟩ := hqs3
          rw [esz2]
          rw [cg9] at pz2_0
          rw [show h2 + 16 = gl lh x + 16 by omega] at pz2_0
          have ez2 := pz2_0 (by omega)
          subst ez2
          have vz2 := W4_r (gc_r Lc rw) (gl lh x + 16)
          refine T.lcmp rfl (by omega) (by omega) (fun c3 => ?_) (fun c3 => ?_) (fun c3 => ?_)
          · refine T.go 1 (fun n9 => (rfl : _ = exe ξ n9 (d + 6) j_M_isUnread 247 [(0, .ref 137), (1, J x), (2, J h2), (3, J m3), (4, JL p4), (6, JL q6), (8, J k)] [] s1)) ?_
            refine T.go 3 (fun n9 => (rfl : _ = exe ξ n9 (d + 6) j_M_isUnread 251 [(0, .ref 137), (1, J x), (2, J h2), (3, J m3), (4, JL p4), (6, JL q6), (8, J k)] [J x, J 9, .ref 137] s1)) ?_
            refine T.callv (as := [J 9, J x]) (r := []) rfl rfl rfl rfl ms1.ob rfl (s_M_isWrong (d + 5) 9 x s1 ms1 (by omega) (by omega)) (fun v3 s4 hqs4 => ?_)
            obtain ⟨z3, wy_1, wh_1, rfl, ms4, fs4, hzz3, hyz3⟩ := hqs4
            have ns4 := ms4.len
            have rs4 := ms4.rg
            have gs4 := gs1.trans fs4
            refine T.if_eq rfl rfl (by omega) (fun c4 => ?_) (fun c4 => ?_)
            · refine T.go 1 (fun n9 => (rfl : _ = exe ξ n9 (d + 6) j_M_isUnread 262 [(0, .ref 137), (1, J x), (2, J h2), (3, J m3), (4, JL p4), (6, JL q6), (8, J k)] [J 0] s4)) ?_
              exact T.iretz rfl rfl (by omega) ⟨_, wy_1, wh_1, bi9, ed9, sz9, md9, bd9, Lc9, (la.set (4 : Int).toNat (Int32.ofInt md9)), lk9, rfl, ms4, gs4, by omega, by omega, gτ, lgs1, (fun _ => ⟨RD_is hRQ (by omega), mN, by omega⟩), (fun h => absurd h (by omega))⟩
            · refine T.go 2 (fun n9 => (rfl : _ = exe ξ n9 (d + 6) j_M_isUnread 262 [(0, .ref 137), (1, J x), (2, J h2), (3, J m3), (4, JL p4), (6, JL q6), (8, J k)] [J 1] s4)) ?_
              exact T.iretz rfl rfl (by omega) ⟨_, wy_1, wh_1, bi9, ed9, sz9, md9, bd9, Lc9, (la.set (4 : Int).toNat (Int32.ofInt md9)), lk9, rfl, ms4, gs4, by omega, by omega, gτ, lgs1, (fun h => absurd h (by omega)), (fun _ o => RD_9 hRQ (by omega))⟩
          · refine T.go 1 (fun n9 => (rfl : _ = exe ξ n9 (d + 6) j_M_isUnread 261 [(0, .ref 137), (1, J x), (2, J h2), (3, J m3), (4, JL p4), (6, JL q6), (8, J k)] [] s1)) ?_
            refine T.go 1 (fun n9 => (rfl : _ = exe ξ n9 (d + 6) j_M_isUnread 262 [(0, .ref 137), (1, J x), (2, J h2), (3, J m3), (4, JL p4), (6, JL q6), (8, J k)] [J 0] s1)) ?_
            exact T.iretz rfl rfl (by omega) ⟨_, wy, wh, bi9, ed9, sz9, md9, bd9, Lc9, (la.set (4 : Int).toNat (Int32.ofInt md9)), lk9, rfl, ms1, gs1, by omega, by omega, gτ, lgs1, (fun _ => ⟨RD_is hRQ (by omega), mN, by omega⟩), (fun h => absurd h (by omega))⟩
          · refine T.go 1 (fun n9 => (rfl : _ = exe ξ n9 (d + 6) j_M_isUnread 247 [(0, .ref 137), (1, J x), (2, J h2), (3, J m3), (4, JL p4), (6, JL q6), (8, J k)] [] s1)) ?_
            refine T.go 3 (fun n9 => (rfl : _ = exe ξ n9 (d + 6) j_M_isUnread 251 [(0, .ref 137), (1, J x), (2, J h2), (3, J m3), (4, JL p4), (6, JL q6), (8, J k)] [J x, J 9, .ref 137] s1)) ?_
            refine T.callv (as := [J 9, J x]) (r := []) rfl rfl rfl rfl ms1.ob rfl (s_M_isWrong (d + 5) 9 x s1 ms1 (by omega) (by omega)) (fun v4 s5 hqs5 => ?_)
            obtain ⟨z4, wy_2, wh_2, rfl, ms5, fs5, hzz4, hyz4⟩ := hqs5
            have ns5 := ms5.len
            have rs5 := ms5.rg
            have gs5 := gs1.trans fs5
            refine T.if_eq rfl rfl (by omega) (fun c5 => ?_) (fun c5 => ?_)
            · refine T.go 1 (fun n9 => (rfl : _ = exe ξ n9 (d + 6) j_M_isUnread 262 [(0, .ref 137), (1, J x), (2, J h2), (3, J m3), (4, JL p4), (6, JL q6), (8, J k)] [J 0] s5)) ?_
              exact T.iretz rfl rfl (by omega) ⟨_, wy_2, wh_2, bi9, ed9, sz9, md9, bd9, Lc9, (la.set (4 : Int).toNat (Int32.ofInt md9)), lk9, rfl, ms5, gs5, by omega, by omega, gτ, lgs1, (fun _ => ⟨RD_is hRQ (by omega), mN, by omega⟩), (fun h => absurd h (by omega))⟩
            · refine T.go 2 (fun n9 => (rfl : _ = exe ξ n9 (d + 6) j_M_isUnread 262 [(0, .ref 137), (1, J x), (2, J h2), (3, J m3), (4, JL p4), (6, JL q6), (8, J k)] [J 1] s5)) ?_
              exact T.iretz rfl rfl (by omega) ⟨_, wy_2, wh_2, bi9, ed9, sz9, md9, bd9, Lc9, (la.set (4 : Int).toNat (Int32.ofInt md9)), lk9, rfl, ms5, gs5, by omega, by omega, gτ, lgs1, (fun h => absurd h (by omega)), (fun _ o => RD_9 hRQ (by omega))⟩
        · refine T.go 3 (fun n9 => (rfl : _ = exe ξ n9 (d + 6) j_M_isUnread 217 [(0, .ref 137), (1, J x), (2, J h2), (3, J m3), (4, JL p4), (6, JL q6), (8, J k)] [J x, J 8, .ref 137] τ)) ?_
          refine T.callv (as := [J 8, J x]) (r := []) rfl rfl rfl rfl mτ.ob rfl (s_M_isWrong (d + 5) 8 x τ mτ (by omega) (by omega)) (fun v5 s6 hqs6 => ?_)
          obtain ⟨z5, wy_3, wh_3, rfl, ms6, fs6, hzz5, hyz5⟩ := hqs6
          have ns6 := ms6.len
          have rs6 := ms6.rg
          have gs6 := fτ.trans fs6
          exact T.iretz rfl rfl (by omega) ⟨_, wy_3, wh_3, bi9, ed9, sz9, md9, bd9, Lc9, la, lk9, rfl, ms6, gs6, by omega, by omega, gτ, LG.refl, (fun h => absurd h (by omega)), (fun _ o => by rcases (by omega : m3 = 0 ∨ m3 = 8) with h | h; (· exact RD_80 (by omega) (by have := i9 h (by omega); omega)); (exact RD_88 (by omega) (by rcases i10 h with q | q; (· exact absurd q.1 (by omega)); (exact q.2))))⟩
      · refine T.go 1 (fun n9 => (rfl : _ = exe ξ n9 (d + 6) j_M_isUnread 169 [(0, .ref 137), (1, J x), (2, J h2), (3, J m3), (4, JL p4), (6, JL q6), (8, J k)] [J m3] τ)) ?_
        refine T.if_ne rfl rfl (by omega) (fun c6 => ?_) (fun c6 => ?_)
        · refine T.go 1 (fun n9 => (rfl : _ = exe ξ n9 (d + 6) j_M_isUnread 207 [(0, .ref 137), (1, J x), (2, J h2), (3, J m3), (4, JL p4), (6, JL q6), (8, J k)] [.ref 137] τ)) ?_
          refine T.get rfl rfl rfl mτ.ob rfl ?_
          refine T.if_eq rfl rfl (by omega) (fun c7 => ?_) (fun c7 => ?_)
          · refine T.go 1 (fun n9 => (rfl : _ = exe ξ n9 (d + 6) j_M_isUnread 222 [(0, .ref 137), (1, J x), (2, J h2), (3, J m3), (4, JL p4), (6, JL q6), (8, J k)] [.ref 137] τ)) ?_
            refine T.get rfl rfl rfl mτ.ob rfl ?_
            refine T.go 2 (fun n9 => (rfl : _ = exe ξ n9 (d + 6) j_M_isUnread 227 [(0, .ref 137), (1, J x), (2, J h2), (3, J m3), (4, JL p4), (6, JL q6), (8, J k)] [.ref 137, J 4, .ref 139] τ)) ?_
            refine T.get rfl rfl rfl mτ.ob rfl ?_
            refine T.mast139 mτ rfl (by omega) (by omega) (fun s7 ms7 fs7 => ?_)
            have ns7 := ms7.len
            have gs7 := fτ.trans fs7
            have lgs7 := (LG.refl (S := [4])).trans (LG.set (S := [4]) (A := la) (x := 4) (v := Int32.ofInt md9) (by decide) (by decide)) (fun _ z => z)
            have gss7 : ∀ j : Int, 0 ≤ j → gl (la.set (4 : Int).toNat (Int32.ofInt md9)) j = if j = 4 then md9 else gl la j := fun j hj => gl_set ⟨by omega, by omega⟩ ⟨by omega, by omega⟩ hj
            have ges7 : gl (la.set (4 : Int).toNat (Int32.ofInt md9)) 4 = md9 := (gss7 4 (by omega)).trans (if_pos rfl)
            refine T.go 1 (fun n9 => (rfl : _ = exe ξ n9 (d + 6) j_M_isUnread 232 [(0, .ref 137), (1, J x), (2, J h2), (3, J m3), (4, JL p4), (6, JL q6), (8, J k)] [.ref 137] s7)) ?_
            refine T.callv (as := []) (r := []) rfl rfl rfl rfl ms7.ob rfl (s_M_fsumOfMade (d + 4)  s7 ms7 (by omega) (by omega)) (fun v6 s8 hqs8 => ?_)
            obtain ⟨z6, rfl, esz6, hzz6, hyz6, pz6_0⟩ := hqs8
            rw [esz6]
            have hRQ : RQ (gc Lc rw) (gl lh x) (gl ld x) (nm Lc9 md9) := by rcases (by omega : m3 = 0 ∨ m3 = 8) with h | h; (· exact RQ_0 (by omega) (by omega) (by omega) (by have := i7 h (by omega); omega) (by rw [i8 h (by omega), show k = W4 (gc Lc rw) (gl lh x + 24) by have := i7 h (by omega); omega])); (rcases i10 h with q | q; (· obtain ⟨v9, n1, n2, n3, n4⟩ := q.2.2; exact RQ_8 (by omega) (by omega) (by omega) n1 n2 n3 n4); (exact absurd q.1 (by omega)))
            have mN : md9 = W4 (gc Lc rw) (gl lh x + 24) := by rcases (by omega : m3 = 0 ∨ m3 = 8) with h | h; (· have := i7 h (by omega); omega); (rcases i10 h with q | q; (· exact q.2.1); (exact absurd q.1 (by omega)))
            rw [show md9.toNat = (W4 (gc Lc rw) (gl lh x + 24)).toNat by rw [mN]] at pz6_0
            have cg9 := gτ rw (by omega) (fun q => by have := List.mem_singleton.mp q; omega)
            refine T.go 3 (fun n9 => (rfl : _ = exe ξ n9 (d + 6) j_M_isUnread 239 [(0, .ref 137), (1, J x), (2, J h2), (3, J m3), (4, JL p4), (6, JL q6), (8, J k)] [J 16, J h2, .ref 137, JL z6] s7)) ?_
            refine T.iadd rfl ?_
            refine T.callv (as := [J (h2 + 16)]) (r := [JL z6]) rfl rfl rfl rfl ms7.ob rfl (s_M_four (d + 3) (h2 + 16) s7 ms7 (by omega) (by omega) (by omega)) (fun v7 s9 hqs9 => ?_)
            obtain ⟨z7, rfl, esz7, hzz7, hyz7, pz7_0⟩ := hqs9
            rw [esz7]
            rw [cg9] at pz7_0
            rw [show h2 + 16 = gl lh x + 16 by omega] at pz7_0
            have ez7 := pz7_0 (by omega)
            subst ez7
            have vz7 := W4_r (gc_r Lc rw) (gl lh x + 16)
            refine T.lcmp rfl (by omega) (by omega) (fun c8 => ?_) (fun c8 => ?_) (fun c8 => ?_)
            · refine T.go 1 (fun n9 => (rfl : _ = exe ξ n9 (d + 6) j_M_isUnread 247 [(0, .ref 137), (1, J x), (2, J h2), (3, J m3), (4, JL p4), (6, JL q6), (8, J k)] [] s7)) ?_
              refine T.go 3 (fun n9 => (rfl : _ = exe ξ n9 (d + 6) j_M_isUnread 251 [(0, .ref 137), (1, J x), (2, J h2), (3, J m3), (4, JL p4), (6, JL q6), (8, J k)] [J x, J 9, .ref 137] s7)) ?_
              refine T.callv (as := [J 9, J x]) (r := []) rfl rfl rfl rfl ms7.ob rfl (s_M_isWrong (d + 5) 9 x s7 ms7 (by omega) (by omega)) (fun v8 s10 hqs10 => ?_)
              obtain ⟨z8, wy_4, wh_4, rfl, ms10, fs10, hzz8, hyz8⟩ := hqs10
              have ns10 := ms10.len
              have rs10 := ms10.rg
              have gs10 := gs7.trans fs10
              refine T.if_eq rfl rfl (by omega) (fun c9 => ?_) (fun c9 => ?_)
              · refine T.go 1 (fun n9 => (rfl : _ = exe ξ n9 (d + 6) j_M_isUnread 262 [(0, .ref 137), (1, J x), (2, J h2), (3, J m3), (4, JL p4), (6, JL q6), (8, J k)] [J 0] s10)) ?_
                exact T.iretz rfl rfl (by omega) ⟨_, wy_4, wh_4, bi9, ed9, sz9, md9, bd9, Lc9, (la.set (4 : Int).toNat (Int32.ofInt md9)), lk9, rfl, ms10, gs10, by omega, by omega, gτ, lgs7, (fun _ => ⟨RD_is hRQ (by omega), mN, by omega⟩), (fun h => absurd h (by omega))⟩
              · refine T.go 2 (fun n9 => (rfl : _ = exe ξ n9 (d + 6) j_M_isUnread 262 [(0, .ref 137), (1, J x), (2, J h2), (3, J m3), (4, JL p4), (6, JL q6), (8, J k)] [J 1] s10)) ?_
                exact T.iretz rfl rfl (by omega) ⟨_, wy_4, wh_4, bi9, ed9, sz9, md9, bd9, Lc9, (la.set (4 : Int).toNat (Int32.ofInt md9)), lk9, rfl, ms10, gs10, by omega, by omega, gτ, lgs7, (fun h => absurd h (by omega)), (fun _ o => RD_9 hRQ (by omega))⟩
            · refine T.go 1 (fun n9 => (rfl : _ = exe ξ n9 (d + 6) j_M_isUnread 261 [(0, .ref 137), (1, J x), (2, J h2), (3, J m3), (4, JL p4), (6, JL q6), (8, J k)] [] s7)) ?_
              refine T.go 1 (fun n9 => (rfl : _ = exe ξ n9 (d + 6) j_M_isUnread 262 [(0, .ref 137), (1, J x), (2, J h2), (3, J m3), (4, JL p4), (6, JL q6), (8, J k)] [J 0] s7)) ?_
              exact T.iretz rfl rfl (by omega) ⟨_, wy, wh, bi9, ed9, sz9, md9, bd9, Lc9, (la.set (4 : Int).toNat (Int32.ofInt md9)), lk9, rfl, ms7, gs7, by omega, by omega, gτ, lgs7, (fun _ => ⟨RD_is hRQ (by omega), mN, by omega⟩), (fun h => absurd h (by omega))⟩
            · refine T.go 1 (fun n9 => (rfl : _ = exe ξ n9 (d + 6) j_M_isUnread 247 [(0, .ref 137), (1, J x), (2, J h2), (3, J m3), (4, JL p4), (6, JL q6), (8, J k)] [] s7)) ?_
              refine T.go 3 (fun n9 => (rfl : _ = exe ξ n9 (d + 6) j_M_isUnread 251 [(0, .ref 137), (1, J x), (2, J h2), (3, J m3), (4, JL p4), (6, JL q6), (8, J k)] [J x, J 9, .ref 137] s7)) ?_
              refine T.callv (as := [J 9, J x]) (r := []) rfl rfl rfl rfl ms7.ob rfl (s_M_isWrong (d + 5) 9 x s7 ms7 (by omega) (by omega)) (fun v9 s11 hqs11 => ?_)
              obtain ⟨z9, wy_5, wh_5, rfl, ms11, fs11, hzz9, hyz9⟩ := hqs11
              have ns11 := ms11.len
              have rs11 := ms11.rg
              have gs11 := gs7.trans fs11
              refine T.if_eq rfl rfl (by omega) (fun c10 => ?_) (fun c10 => ?_)
              · refine T.go 1 (fun n9 => (rfl : _ = exe ξ n9 (d + 6) j_M_isUnread 262 [(0, .ref 137), (1, J x), (2, J h2), (3, J m3), (4, JL p4), (6, JL q6), (8, J k)] [J 0] s11)) ?_
                exact T.iretz rfl rfl (by omega) ⟨_, wy_5, wh_5, bi9, ed9, sz9, md9, bd9, Lc9, (la.set (4 : Int).toNat (Int32.ofInt md9)), lk9, rfl, ms11, gs11, by omega, by omega, gτ, lgs7, (fun _ => ⟨RD_is hRQ (by omega), mN, by omega⟩), (fun h => absurd h (by omega))⟩
              · refine T.go 2 (fun n9 => (rfl : _ = exe ξ n9 (d + 6) j_M_isUnread 262 [(0, .ref 137), (1, J x), (2, J h2), (3, J m3), (4, JL p4), (6, JL q6), (8, J k)] [J 1] s11)) ?_
                exact T.iretz rfl rfl (by omega) ⟨_, wy_5, wh_5, bi9, ed9, sz9, md9, bd9, Lc9, (la.set (4 : Int).toNat (Int32.ofInt md9)), lk9, rfl, ms11, gs11, by omega, by omega, gτ, lgs7, (fun h => absurd h (by omega)), (fun _ o => RD_9 hRQ (by omega))⟩
          · refine T.go 3 (fun n9 => (rfl : _ = exe ξ n9 (d + 6) j_M_isUnread 217 [(0, .ref 137), (1, J x), (2, J h2), (3, J m3), (4, JL p4), (6, JL q6), (8, J k)] [J x, J 8, .ref 137] τ)) ?_
            refine T.callv (as := [J 8, J x]) (r := []) rfl rfl rfl rfl mτ.ob rfl (s_M_isWrong (d + 5) 8 x τ mτ (by omega) (by omega)) (fun v10 s12 hqs12 => ?_)
            obtain ⟨z10, wy_6, wh_6, rfl, ms12, fs12, hzz10, hyz10⟩ := hqs12
            have ns12 := ms12.len
            have rs12 := ms12.rg
            have gs12 := fτ.trans fs12
            exact T.iretz rfl rfl (by omega) ⟨_, wy_6, wh_6, bi9, ed9, sz9, md9, bd9, Lc9, la, lk9, rfl, ms12, gs12, by omega, by omega, gτ, LG.refl, (fun h => absurd h (by omega)), (fun _ o => by rcases (by omega : m3 = 0 ∨ m3 = 8) with h | h; (· exact RD_80 (by omega) (by have := i9 h (by omega); omega)); (exact RD_88 (by omega) (by rcases i10 h with q | q; (· exact absurd q.1 (by omega)); (exact q.2))))⟩
        · refine T.go 1 (fun n9 => (rfl : _ = exe ξ n9 (d + 6) j_M_isUnread 173 [(0, .ref 137), (1, J x), (2, J h2), (3, J m3), (4, JL p4), (6, JL q6), (8, J k)] [.ref 137] τ)) ?_
          refine T.get rfl rfl rfl mτ.ob rfl ?_
          refine T.if_ne rfl rfl (by omega) (fun c11 => ?_) (fun c11 => ?_)
          · refine T.go 1 (fun n9 => (rfl : _ = exe ξ n9 (d + 6) j_M_isUnread 207 [(0, .ref 137), (1, J x), (2, J h2), (3, J m3), (4, JL p4), (6, JL q6), (8, J k)] [.ref 137] τ)) ?_
            refine T.get rfl rfl rfl mτ.ob rfl ?_
            refine T.if_eq rfl rfl (by omega) (fun c12 => ?_) (fun c12 => ?_)
            · refine T.go 1 (fun n9 => (rfl : _ = exe ξ n9 (d + 6) j_M_isUnread 222 [(0, .ref 137), (1, J x), (2, J h2), (3, J m3), (4, JL p4), (6, JL q6), (8, J k)] [.ref 137] τ)) ?_
              refine T.get rfl rfl rfl mτ.ob rfl ?_
              refine T.go 2 (fun n9 => (rfl : _ = exe ξ n9 (d + 6) j_M_isUnread 227 [(0, .ref 137), (1, J x), (2, J h2), (3, J m3), (4, JL p4), (6, JL q6), (8, J k)] [.ref 137, J 4, .ref 139] τ)) ?_
              refine T.get rfl rfl rfl mτ.ob rfl ?_
              refine T.mast139 mτ rfl (by omega) (by omega) (fun s13 ms13 fs13 => ?_)
              have ns13 := ms13.len
              have gs13 := fτ.trans fs13
              have lgs13 := (LG.refl (S := [4])).trans (LG.set (S := [4]) (A := la) (x := 4) (v := Int32.ofInt md9) (by decide) (by decide)) (fun _ z => z)
              have gss13 : ∀ j : Int, 0 ≤ j → gl (la.set (4 : Int).toNat (Int32.ofInt md9)) j = if j = 4 then md9 else gl la j := fun j hj => gl_set ⟨by omega, by omega⟩ ⟨by omega, by omega⟩ hj
              have ges13 : gl (la.set (4 : Int).toNat (Int32.ofInt md9)) 4 = md9 := (gss13 4 (by omega)).trans (if_pos rfl)
              refine T.go 1 (fun n9 => (rfl : _ = exe ξ n9 (d + 6) j_M_isUnread 232 [(0, .ref 137), (1, J x), (2, J h2), (3, J m3), (4, JL p4), (6, JL q6), (8, J k)] [.ref 137] s13)) ?_
              refine T.callv (as := []) (r := []) rfl rfl rfl rfl ms13.ob rfl (s_M_fsumOfMade (d + 4)  s13 ms13 (by omega) (by omega)) (fun v11 s14 hqs14 => ?_)
              obtain ⟨z11, rfl, esz11, hzz11, hyz11, pz11_0⟩ := hqs14
              rw [esz11]
              have hRQ : RQ (gc Lc rw) (gl lh x) (gl ld x) (nm Lc9 md9) := by rcases (by omega : m3 = 0 ∨ m3 = 8) with h | h; (· exact RQ_0 (by omega) (by omega) (by omega) (by have := i7 h (by omega); omega) (by rw [i8 h (by omega), show k = W4 (gc Lc rw) (gl lh x + 24) by have := i7 h (by omega); omega])); (rcases i10 h with q | q; (· obtain ⟨v9, n1, n2, n3, n4⟩ := q.2.2; exact RQ_8 (by omega) (by omega) (by omega) n1 n2 n3 n4); (exact absurd q.1 (by omega)))
              have mN : md9 = W4 (gc Lc rw) (gl lh x + 24) := by rcases (by omega : m3 = 0 ∨ m3 = 8) with h | h; (· have := i7 h (by omega); omega); (rcases i10 h with q | q; (· exact q.2.1); (exact absurd q.1 (by omega)))
              rw [show md9.toNat = (W4 (gc Lc rw) (gl lh x + 24)).toNat by rw [mN]] at pz11_0
              have cg9 := gτ rw (by omega) (fun q => by have := List.mem_singleton.mp q; omega)
              refine T.go 3 (fun n9 => (rfl : _ = exe ξ n9 (d + 6) j_M_isUnread 239 [(0, .ref 137), (1, J x), (2, J h2), (3, J m3), (4, JL p4), (6, JL q6), (8, J k)] [J 16, J h2, .ref 137, JL z11] s13)) ?_
              refine T.iadd rfl ?_
              refine T.callv (as := [J (h2 + 16)]) (r := [JL z11]) rfl rfl rfl rfl ms13.ob rfl (s_M_four (d + 3) (h2 + 16) s13 ms13 (by omega) (by omega) (by omega)) (fun v12 s15 hqs15 => ?_)
              obtain ⟨z12, rfl, esz12, hzz12, hyz12, pz12_0⟩ := hqs15
              rw [esz12]
              rw [cg9] at pz12_0
              rw [show h2 + 16 = gl lh x + 16 by omega] at pz12_0
              have ez12 := pz12_0 (by omega)
              subst ez12
              have vz12 := W4_r (gc_r Lc rw) (gl lh x + 16)
              refine T.lcmp rfl (by omega) (by omega) (fun c13 => ?_) (fun c13 => ?_) (fun c13 => ?_)
              · refine T.go 1 (fun n9 => (rfl : _ = exe ξ n9 (d + 6) j_M_isUnread 247 [(0, .ref 137), (1, J x), (2, J h2), (3, J m3), (4, JL p4), (6, JL q6), (8, J k)] [] s13)) ?_
                refine T.go 3 (fun n9 => (rfl : _ = exe ξ n9 (d + 6) j_M_isUnread 251 [(0, .ref 137), (1, J x), (2, J h2), (3, J m3), (4, JL p4), (6, JL q6), (8, J k)] [J x, J 9, .ref 137] s13)) ?_
                refine T.callv (as := [J 9, J x]) (r := []) rfl rfl rfl rfl ms13.ob rfl (s_M_isWrong (d + 5) 9 x s13 ms13 (by omega) (by omega)) (fun v13 s16 hqs16 => ?_)
                obtain ⟨z13, wy_7, wh_7, rfl, ms16, fs16, hzz13, hyz13⟩ := hqs16
                have ns16 := ms16.len
                have rs16 := ms16.rg
                have gs16 := gs13.trans fs16
                refine T.if_eq rfl rfl (by omega) (fun c14 => ?_) (fun c14 => ?_)
                · refine T.go 1 (fun n9 => (rfl : _ = exe ξ n9 (d + 6) j_M_isUnread 262 [(0, .ref 137), (1, J x), (2, J h2), (3, J m3), (4, JL p4), (6, JL q6), (8, J k)] [J 0] s16)) ?_
                  exact T.iretz rfl rfl (by omega) ⟨_, wy_7, wh_7, bi9, ed9, sz9, md9, bd9, Lc9, (la.set (4 : Int).toNat (Int32.ofInt md9)), lk9, rfl, ms16, gs16, by omega, by omega, gτ, lgs13, (fun _ => ⟨RD_is hRQ (by omega), mN, by omega⟩), (fun h => absurd h (by omega))⟩
                · refine T.go 2 (fun n9 => (rfl : _ = exe ξ n9 (d + 6) j_M_isUnread 262 [(0, .ref 137), (1, J x), (2, J h2), (3, J m3), (4, JL p4), (6, JL q6), (8, J k)] [J 1] s16)) ?_
                  exact T.iretz rfl rfl (by omega) ⟨_, wy_7, wh_7, bi9, ed9, sz9, md9, bd9, Lc9, (la.set (4 : Int).toNat (Int32.ofInt md9)), lk9, rfl, ms16, gs16, by omega, by omega, gτ, lgs13, (fun h => absurd h (by omega)), (fun _ o => RD_9 hRQ (by omega))⟩
              · refine T.go 1 (fun n9 => (rfl : _ = exe ξ n9 (d + 6) j_M_isUnread 261 [(0, .ref 137), (1, J x), (2, J h2), (3, J m3), (4, JL p4), (6, JL q6), (8, J k)] [] s13)) ?_
                refine T.go 1 (fun n9 => (rfl : _ = exe ξ n9 (d + 6) j_M_isUnread 262 [(0, .ref 137), (1, J x), (2, J h2), (3, J m3), (4, JL p4), (6, JL q6), (8, J k)] [J 0] s13)) ?_
                exact T.iretz rfl rfl (by omega) ⟨_, wy, wh, bi9, ed9, sz9, md9, bd9, Lc9, (la.set (4 : Int).toNat (Int32.ofInt md9)), lk9, rfl, ms13, gs13, by omega, by omega, gτ, lgs13, (fun _ => ⟨RD_is hRQ (by omega), mN, by omega⟩), (fun h => absurd h (by omega))⟩
              · refine T.go 1 (fun n9 => (rfl : _ = exe ξ n9 (d + 6) j_M_isUnread 247 [(0, .ref 137), (1, J x), (2, J h2), (3, J m3), (4, JL p4), (6, JL q6), (8, J k)] [] s13)) ?_
                refine T.go 3 (fun n9 => (rfl : _ = exe ξ n9 (d + 6) j_M_isUnread 251 [(0, .ref 137), (1, J x), (2, J h2), (3, J m3), (4, JL p4), (6, JL q6), (8, J k)] [J x, J 9, .ref 137] s13)) ?_
                refine T.callv (as := [J 9, J x]) (r := []) rfl rfl rfl rfl ms13.ob rfl (s_M_isWrong (d + 5) 9 x s13 ms13 (by omega) (by omega)) (fun v14 s17 hqs17 => ?_)
                obtain ⟨z14, wy_8, wh_8, rfl, ms17, fs17, hzz14, hyz14⟩ := hqs17
                have ns17 := ms17.len
                have rs17 := ms17.rg
                have gs17 := gs13.trans fs17
                refine T.if_eq rfl rfl (by omega) (fun c15 => ?_) (fun c15 => ?_)
                · refine T.go 1 (fun n9 => (rfl : _ = exe ξ n9 (d + 6) j_M_isUnread 262 [(0, .ref 137), (1, J x), (2, J h2), (3, J m3), (4, JL p4), (6, JL q6), (8, J k)] [J 0] s17)) ?_
                  exact T.iretz rfl rfl (by omega) ⟨_, wy_8, wh_8, bi9, ed9, sz9, md9, bd9, Lc9, (la.set (4 : Int).toNat (Int32.ofInt md9)), lk9, rfl, ms17, gs17, by omega, by omega, gτ, lgs13, (fun _ => ⟨RD_is hRQ (by omega), mN, by omega⟩), (fun h => absurd h (by omega))⟩
                · refine T.go 2 (fun n9 => (rfl : _ = exe ξ n9 (d + 6) j_M_isUnread 262 [(0, .ref 137), (1, J x), (2, J h2), (3, J m3), (4, JL p4), (6, JL q6), (8, J k)] [J 1] s17)) ?_
                  exact T.iretz rfl rfl (by omega) ⟨_, wy_8, wh_8, bi9, ed9, sz9, md9, bd9, Lc9, (la.set (4 : Int).toNat (Int32.ofInt md9)), lk9, rfl, ms17, gs17, by omega, by omega, gτ, lgs13, (fun h => absurd h (by omega)), (fun _ o => RD_9 hRQ (by omega))⟩
            · refine T.go 3 (fun n9 => (rfl : _ = exe ξ n9 (d + 6) j_M_isUnread 217 [(0, .ref 137), (1, J x), (2, J h2), (3, J m3), (4, JL p4), (6, JL q6), (8, J k)] [J x, J 8, .ref 137] τ)) ?_
              refine T.callv (as := [J 8, J x]) (r := []) rfl rfl rfl rfl mτ.ob rfl (s_M_isWrong (d + 5) 8 x τ mτ (by omega) (by omega)) (fun v15 s18 hqs18 => ?_)
              obtain ⟨z15, wy_9, wh_9, rfl, ms18, fs18, hzz15, hyz15⟩ := hqs18
              have ns18 := ms18.len
              have rs18 := ms18.rg
              have gs18 := fτ.trans fs18
              exact T.iretz rfl rfl (by omega) ⟨_, wy_9, wh_9, bi9, ed9, sz9, md9, bd9, Lc9, la, lk9, rfl, ms18, gs18, by omega, by omega, gτ, LG.refl, (fun h => absurd h (by omega)), (fun _ o => by rcases (by omega : m3 = 0 ∨ m3 = 8) with h | h; (· exact RD_80 (by omega) (by have := i9 h (by omega); omega)); (exact RD_88 (by omega) (by rcases i10 h with q | q; (· exact absurd q.1 (by omega)); (exact q.2))))⟩
          · refine T.go 3 (fun n9 => (rfl : _ = exe ξ n9 (d + 6) j_M_isUnread 182 [(0, .ref 137), (1, J x), (2, J h2), (3, J m3), (4, JL p4), (6, JL q6), (8, J k)] [.ref 137, .ref 137, .ref 137] τ)) ?_
            refine T.get rfl rfl rfl mτ.ob rfl ?_
            refine T.go 1 (fun n9 => (rfl : _ = exe ξ n9 (d + 6) j_M_isUnread 186 [(0, .ref 137), (1, J x), (2, J h2), (3, J m3), (4, JL p4), (6, JL q6), (8, J k)] [.ref 137, J rw, .ref 137, .ref 137] τ)) ?_
            refine T.get rfl rfl rfl mτ.ob rfl ?_
            refine T.go 1 (fun n9 => (rfl : _ = exe ξ n9 (d + 6) j_M_isUnread 190 [(0, .ref 137), (1, J x), (2, J h2), (3, J m3), (4, JL p4), (6, JL q6), (8, J k)] [J x, .ref 143, J rw, .ref 137, .ref 137] τ)) ?_
            refine T.iald rfl rfl mτ.c143 (by omega) (fun z16 hzz16 hyz16 hez16 => ?_)
            have gzz16 := gl_of hez16 ⟨hzz16, hyz16⟩
            subst gzz16
            refine T.go 1 (fun n9 => (rfl : _ = exe ξ n9 (d + 6) j_M_isUnread 193 [(0, .ref 137), (1, J x), (2, J h2), (3, J m3), (4, JL p4), (6, JL q6), (8, J k)] [J k, J (gl ld x), J rw, .ref 137, .ref 137] τ)) ?_
            refine T.iadd rfl ?_
            refine T.callv (as := [J rw, J ((gl ld x) + k)]) (r := [.ref 137]) rfl rfl rfl rfl mτ.ob rfl (s_M_get (d + 5) rw ((gl ld x) + k) τ mτ (by omega)) (fun v16 s19 hqs19 => ?_)
            obtain ⟨z17, rfl, esz17, hzz17, hyz17, pz17_0⟩ := hqs19
            rw [esz17]
            refine T.callv (as := [J z17]) (r := []) rfl rfl rfl rfl mτ.ob rfl (s_M_fout (d + 4) z17 τ mτ (by omega) (by omega) (by omega) (by omega)) (fun v17 s20 hqs20 => ?_)
            obtain ⟨md_1, bd_1, Lc_1, rfl, ms20, fs20, pz18_0, pz18_1, pz18_2, pz18_3, pz18_4, pz18_5⟩ := hqs20
            have ns20 := ms20.len
            have rs20 := ms20.rg
            have gs20 := fτ.trans fs20
            have rgs20 := gτ.trans pz18_0 (by decide)
            refine T.iinc (lv' := [(0, .ref 137), (1, J x), (2, J h2), (3, J m3), (4, JL p4), (6, JL q6), (8, J (k + 1))]) rfl rfl rfl rfl ?_
            refine T.go 1 (fun n9 => (rfl : _ = exe ξ n9 (d + 6) j_M_isUnread 159 [(0, .ref 137), (1, J x), (2, J h2), (3, J m3), (4, JL p4), (6, JL q6), (8, J (k + 1))] [] s20)) ?_
            have cg := gτ rw (by omega) (fun q => by have := List.mem_singleton.mp q; omega)
            have gg := gc_at (Lc := Lc9) (r := rw) (k := gl ld x + k) (by omega)
            have cr := gc_r Lc9 rw (gl ld x + k)
            rw [cg] at gg cr
            exact ih159  h2 m3 p4 q6 (k + 1) bi9 ed9 sz9 md_1 bd_1 Lc_1 lk9 s20 ms20 gs20 rgs20 (by omega) (by omega) (by omega) (by omega) (by omega) (by omega) (by omega) (by omega) (fun _ _ => by rw [show md_1 = md9 + 1 by omega, pz18_1 (by omega), PLC_step (by omega), ← i8 (by omega) (by omega), show 0 + k = md9 by omega, show z17 % 256 = gc Lc rw (gl ld x + k) by omega]) (by omega) (fun h => absurd h (by omega)) (by omega)
  refine T.go 1 (fun n9 => (rfl : _ = exe ξ n9 (d + 6) j_M_isUnread 1 [(0, .ref 137), (1, J x)] [.ref 137] σ)) ?_
  refine T.get rfl rfl rfl hM.ob rfl ?_
  refine T.go 1 (fun n9 => (rfl : _ = exe ξ n9 (d + 6) j_M_isUnread 5 [(0, .ref 137), (1, J x)] [J x, .ref 142] σ)) ?_
  refine T.iald rfl rfl hM.c142 (by omega) (fun z19 hzz19 hyz19 hez19 => ?_)
  have hbz19 := hM.b142.at hez19 ⟨hzz19, hyz19⟩
  have gzz19 := gl_of hez19 ⟨hzz19, hyz19⟩
  subst gzz19
  refine T.go 4 (fun n9 => (rfl : _ = exe ξ n9 (d + 6) j_M_isUnread 11 [(0, .ref 137), (1, J x), (2, J (gl lh x))] [J 10, J (gl lh x), .ref 137] σ)) ?_
  refine T.iadd rfl ?_
  refine T.callv (as := [J ((gl lh x) + 10)]) (r := []) rfl rfl rfl rfl hM.ob rfl (s_M_two (d + 4) ((gl lh x) + 10) σ hM (by omega) (by omega) (by omega)) (fun v18 s21 hqs21 => ?_)
  obtain ⟨z20, rfl, esz20, hzz20, hyz20, pz20_0⟩ := hqs21
  rw [esz20]
  have ez20 := pz20_0 (by omega)
  subst ez20
  have vz20 := W2_r (gc_r Lc rw) ((gl lh x) + 10)
  refine T.go 4 (fun n9 => (rfl : _ = exe ξ n9 (d + 6) j_M_isUnread 20 [(0, .ref 137), (1, J x), (2, J (gl lh x)), (3, J (W2 (gc Lc rw) ((gl lh x) + 10)))] [J 20, J (gl lh x), .ref 137] σ)) ?_
  refine T.iadd rfl ?_
  refine T.callv (as := [J ((gl lh x) + 20)]) (r := []) rfl rfl rfl rfl hM.ob rfl (s_M_four (d + 3) ((gl lh x) + 20) σ hM (by omega) (by omega) (by omega)) (fun v19 s22 hqs22 => ?_)
  obtain ⟨z21, rfl, esz21, hzz21, hyz21, pz21_0⟩ := hqs22
  rw [esz21]
  have ez21 := pz21_0 (by omega)
  subst ez21
  have vz21 := W4_r (gc_r Lc rw) ((gl lh x) + 20)
  refine T.go 4 (fun n9 => (rfl : _ = exe ξ n9 (d + 6) j_M_isUnread 30 [(0, .ref 137), (1, J x), (2, J (gl lh x)), (3, J (W2 (gc Lc rw) ((gl lh x) + 10))), (4, JL (W4 (gc Lc rw) ((gl lh x) + 20)))] [J 24, J (gl lh x), .ref 137] σ)) ?_
  refine T.iadd rfl ?_
  refine T.callv (as := [J ((gl lh x) + 24)]) (r := []) rfl rfl rfl rfl hM.ob rfl (s_M_four (d + 3) ((gl lh x) + 24) σ hM (by omega) (by omega) (by omega)) (fun v20 s23 hqs23 => ?_)
  obtain ⟨z22, rfl, esz22, hzz22, hyz22, pz22_0⟩ := hqs23
  rw [esz22]
  have ez22 := pz22_0 (by omega)
  subst ez22
  have vz22 := W4_r (gc_r Lc rw) ((gl lh x) + 24)
  refine T.go 4 (fun n9 => (rfl : _ = exe ξ n9 (d + 6) j_M_isUnread 40 [(0, .ref 137), (1, J x), (2, J (gl lh x)), (3, J (W2 (gc Lc rw) ((gl lh x) + 10))), (4, JL (W4 (gc Lc rw) ((gl lh x) + 20))), (6, JL (W4 (gc Lc rw) ((gl lh x) + 24)))] [J 8, J (gl lh x), .ref 137] σ)) ?_
  refine T.iadd rfl ?_
  refine T.callv (as := [J ((gl lh x) + 8)]) (r := []) rfl rfl rfl rfl hM.ob rfl (s_M_two (d + 4) ((gl lh x) + 8) σ hM (by omega) (by omega) (by omega)) (fun v21 s24 hqs24 => ?_)
  obtain ⟨z23, rfl, esz23, hzz23, hyz23, pz23_0⟩ := hqs24
  rw [esz23]
  have ez23 := pz23_0 (by omega)
  subst ez23
  have vz23 := W2_r (gc_r Lc rw) ((gl lh x) + 8)
  refine T.go 1 (fun n9 => (rfl : _ = exe ξ n9 (d + 6) j_M_isUnread 45 [(0, .ref 137), (1, J x), (2, J (gl lh x)), (3, J (W2 (gc Lc rw) ((gl lh x) + 10))), (4, JL (W4 (gc Lc rw) ((gl lh x) + 20))), (6, JL (W4 (gc Lc rw) ((gl lh x) + 24)))] [J 2, J (W2 (gc Lc rw) ((gl lh x) + 8))] σ)) ?_
  refine T.iremc (c := 2) rfl (by decide) (by omega) ?_
  refine T.go 1 (fun n9 => (rfl : _ = exe ξ n9 (d + 6) j_M_isUnread 47 [(0, .ref 137), (1, J x), (2, J (gl lh x)), (3, J (W2 (gc Lc rw) ((gl lh x) + 10))), (4, JL (W4 (gc Lc rw) ((gl lh x) + 20))), (6, JL (W4 (gc Lc rw) ((gl lh x) + 24)))] [J 1, J ((W2 (gc Lc rw) ((gl lh x) + 8)) % 2)] σ)) ?_
  refine T.icmp_eq rfl rfl (by omega) (by omega) (fun c16 => ?_) (fun c16 => ?_)
  · refine T.go 3 (fun n9 => (rfl : _ = exe ξ n9 (d + 6) j_M_isUnread 64 [(0, .ref 137), (1, J x), (2, J (gl lh x)), (3, J (W2 (gc Lc rw) ((gl lh x) + 10))), (4, JL (W4 (gc Lc rw) ((gl lh x) + 20))), (6, JL (W4 (gc Lc rw) ((gl lh x) + 24)))] [J x, J 6, .ref 137] σ)) ?_
    refine T.callv (as := [J 6, J x]) (r := []) rfl rfl rfl rfl hM.ob rfl (s_M_isWrong (d + 5) 6 x σ hM (by omega) (by omega)) (fun v22 s25 hqs25 => ?_)
    obtain ⟨z25, wy_10, wh_10, rfl, ms25, fs25, hzz25, hyz25⟩ := hqs25
    have ns25 := ms25.len
    have rs25 := ms25.rg
    exact T.iretz rfl rfl (by omega) ⟨_, wy_10, wh_10, bi, ed, sz, md, bd, Lc, la, lk, rfl, ms25, fs25, by omega, by omega, RG.refl, LG.refl, (fun h => absurd h (by omega)), (fun _ o => RD_6 (by omega))⟩
  · refine T.go 1 (fun n9 => (rfl : _ = exe ξ n9 (d + 6) j_M_isUnread 51 [(0, .ref 137), (1, J x), (2, J (gl lh x)), (3, J (W2 (gc Lc rw) ((gl lh x) + 10))), (4, JL (W4 (gc Lc rw) ((gl lh x) + 20))), (6, JL (W4 (gc Lc rw) ((gl lh x) + 24)))] [J (W2 (gc Lc rw) ((gl lh x) + 10))] σ)) ?_
    refine T.if_eq rfl rfl (by omega) (fun c17 => ?_) (fun c17 => ?_)
    · refine T.go 1 (fun n9 => (rfl : _ = exe ξ n9 (d + 6) j_M_isUnread 70 [(0, .ref 137), (1, J x), (2, J (gl lh x)), (3, J (W2 (gc Lc rw) ((gl lh x) + 10))), (4, JL (W4 (gc Lc rw) ((gl lh x) + 20))), (6, JL (W4 (gc Lc rw) ((gl lh x) + 24)))] [JL (W4 (gc Lc rw) ((gl lh x) + 24))] σ)) ?_
      refine T.go 1 (fun n9 => (rfl : _ = exe ξ n9 (d + 6) j_M_isUnread 73 [(0, .ref 137), (1, J x), (2, J (gl lh x)), (3, J (W2 (gc Lc rw) ((gl lh x) + 10))), (4, JL (W4 (gc Lc rw) ((gl lh x) + 20))), (6, JL (W4 (gc Lc rw) ((gl lh x) + 24)))] [JL 8000, JL (W4 (gc Lc rw) ((gl lh x) + 24))] σ)) ?_
      refine T.lcmp rfl (by omega) (by omega) (fun c18 => ?_) (fun c18 => ?_) (fun c18 => ?_)
      · refine T.go 1 (fun n9 => (rfl : _ = exe ξ n9 (d + 6) j_M_isUnread 85 [(0, .ref 137), (1, J x), (2, J (gl lh x)), (3, J (W2 (gc Lc rw) ((gl lh x) + 10))), (4, JL (W4 (gc Lc rw) ((gl lh x) + 20))), (6, JL (W4 (gc Lc rw) ((gl lh x) + 24)))] [] σ)) ?_
        refine T.go 2 (fun n9 => (rfl : _ = exe ξ n9 (d + 6) j_M_isUnread 88 [(0, .ref 137), (1, J x), (2, J (gl lh x)), (3, J (W2 (gc Lc rw) ((gl lh x) + 10))), (4, JL (W4 (gc Lc rw) ((gl lh x) + 20))), (6, JL (W4 (gc Lc rw) ((gl lh x) + 24)))] [JL (W4 (gc Lc rw) ((gl lh x) + 24)), .ref 137] σ)) ?_
        refine T.l2i rfl ?_
        refine T.mput (c' := c) (io' := io) (mo' := mo) (fa' := fa) (pl' := pl) (ns' := ns) (rw' := rw) (en' := en) (wy' := wy) (wh' := wh) (bi' := bi) (ed' := ed) (sz' := W4 (gc Lc rw) ((gl lh x) + 24)) (md' := md) (bd' := bd) (li' := li) (wk' := wk) (we' := we) hM rfl rfl rfl rfl rfl rfl (by omega) (fun s26 ms26 fs26 => ?_)
        refine T.go 2 (fun n9 => (rfl : _ = exe ξ n9 (d + 6) j_M_isUnread 94 [(0, .ref 137), (1, J x), (2, J (gl lh x)), (3, J (W2 (gc Lc rw) ((gl lh x) + 10))), (4, JL (W4 (gc Lc rw) ((gl lh x) + 20))), (6, JL (W4 (gc Lc rw) ((gl lh x) + 24)))] [J 0, .ref 137] s26)) ?_
        refine T.mput (c' := c) (io' := io) (mo' := mo) (fa' := fa) (pl' := pl) (ns' := ns) (rw' := rw) (en' := en) (wy' := wy) (wh' := wh) (bi' := bi) (ed' := ed) (sz' := W4 (gc Lc rw) ((gl lh x) + 24)) (md' := 0) (bd' := bd) (li' := li) (wk' := wk) (we' := we) ms26 rfl rfl rfl rfl rfl rfl (by omega) (fun s27 ms27 fs27 => ?_)
        have gs27 := fs26.trans fs27
        refine T.go 2 (fun n9 => (rfl : _ = exe ξ n9 (d + 6) j_M_isUnread 99 [(0, .ref 137), (1, J x), (2, J (gl lh x)), (3, J (W2 (gc Lc rw) ((gl lh x) + 10))), (4, JL (W4 (gc Lc rw) ((gl lh x) + 20))), (6, JL (W4 (gc Lc rw) ((gl lh x) + 24)))] [J (W2 (gc Lc rw) ((gl lh x) + 10)), .ref 137] s27)) ?_
        refine T.if_ne rfl rfl (by omega) (fun c19 => ?_) (fun c19 => ?_)
        · refine T.go 1 (fun n9 => (rfl : _ = exe ξ n9 (d + 6) j_M_isUnread 115 [(0, .ref 137), (1, J x), (2, J (gl lh x)), (3, J (W2 (gc Lc rw) ((gl lh x) + 10))), (4, JL (W4 (gc Lc rw) ((gl lh x) + 20))), (6, JL (W4 (gc Lc rw) ((gl lh x) + 24)))] [J 0, .ref 137] s27)) ?_
          refine T.mput (c' := c) (io' := io) (mo' := mo) (fa' := fa) (pl' := pl) (ns' := ns) (rw' := rw) (en' := en) (wy' := wy) (wh' := wh) (bi' := bi) (ed' := ed) (sz' := W4 (gc Lc rw) ((gl lh x) + 24)) (md' := 0) (bd' := 0) (li' := li) (wk' := wk) (we' := we) ms27 rfl rfl rfl rfl rfl rfl (by omega) (fun s28 ms28 fs28 => ?_)
          have gs28 := gs27.trans fs28
          refine T.go 3 (fun n9 => (rfl : _ = exe ξ n9 (d + 6) j_M_isUnread 122 [(0, .ref 137), (1, J x), (2, J (gl lh x)), (3, J (W2 (gc Lc rw) ((gl lh x) + 10))), (4, JL (W4 (gc Lc rw) ((gl lh x) + 20))), (6, JL (W4 (gc Lc rw) ((gl lh x) + 24)))] [.ref 137, J 8, .ref 137] s28)) ?_
          refine T.get rfl rfl rfl ms28.ob rfl ?_
          refine T.go 1 (fun n9 => (rfl : _ = exe ξ n9 (d + 6) j_M_isUnread 126 [(0, .ref 137), (1, J x), (2, J (gl lh x)), (3, J (W2 (gc Lc rw) ((gl lh x) + 10))), (4, JL (W4 (gc Lc rw) ((gl lh x) + 20))), (6, JL (W4 (gc Lc rw) ((gl lh x) + 24)))] [J x, .ref 143, J 8, .ref 137] s28)) ?_
          refine T.iald rfl rfl ms28.c143 (by omega) (fun z26 hzz26 hyz26 hez26 => ?_)
          have gzz26 := gl_of hez26 ⟨hzz26, hyz26⟩
          subst gzz26
          refine T.imul rfl ?_
          refine T.mput (c' := c) (io' := io) (mo' := mo) (fa' := fa) (pl' := pl) (ns' := ns) (rw' := rw) (en' := en) (wy' := wy) (wh' := wh) (bi' := 8 * (gl ld x)) (ed' := ed) (sz' := W4 (gc Lc rw) ((gl lh x) + 24)) (md' := 0) (bd' := 0) (li' := li) (wk' := wk) (we' := we) ms28 rfl rfl rfl rfl rfl rfl (by omega) (fun s29 ms29 fs29 => ?_)
          have gs29 := gs28.trans fs29
          refine T.go 2 (fun n9 => (rfl : _ = exe ξ n9 (d + 6) j_M_isUnread 133 [(0, .ref 137), (1, J x), (2, J (gl lh x)), (3, J (W2 (gc Lc rw) ((gl lh x) + 10))), (4, JL (W4 (gc Lc rw) ((gl lh x) + 20))), (6, JL (W4 (gc Lc rw) ((gl lh x) + 24)))] [.ref 137, .ref 137] s29)) ?_
          refine T.get rfl rfl rfl ms29.ob rfl ?_
          refine T.go 2 (fun n9 => (rfl : _ = exe ξ n9 (d + 6) j_M_isUnread 140 [(0, .ref 137), (1, J x), (2, J (gl lh x)), (3, J (W2 (gc Lc rw) ((gl lh x) + 10))), (4, JL (W4 (gc Lc rw) ((gl lh x) + 20))), (6, JL (W4 (gc Lc rw) ((gl lh x) + 24)))] [JL (W4 (gc Lc rw) ((gl lh x) + 20)), J 8, J (8 * (gl ld x)), .ref 137] s29)) ?_
          refine T.l2i rfl ?_
          refine T.imul rfl ?_
          refine T.iadd rfl ?_
          refine T.mput (c' := c) (io' := io) (mo' := mo) (fa' := fa) (pl' := pl) (ns' := ns) (rw' := rw) (en' := en) (wy' := wy) (wh' := wh) (bi' := 8 * (gl ld x)) (ed' := (8 * (gl ld x)) + (8 * (W4 (gc Lc rw) ((gl lh x) + 20)))) (sz' := W4 (gc Lc rw) ((gl lh x) + 24)) (md' := 0) (bd' := 0) (li' := li) (wk' := wk) (we' := we) ms29 rfl rfl rfl rfl rfl rfl (by omega) (fun s30 ms30 fs30 => ?_)
          have gs30 := gs29.trans fs30
          refine T.go 2 (fun n9 => (rfl : _ = exe ξ n9 (d + 6) j_M_isUnread 149 [(0, .ref 137), (1, J x), (2, J (gl lh x)), (3, J (W2 (gc Lc rw) ((gl lh x) + 10))), (4, JL (W4 (gc Lc rw) ((gl lh x) + 20))), (6, JL (W4 (gc Lc rw) ((gl lh x) + 24)))] [J 8, J (W2 (gc Lc rw) ((gl lh x) + 10))] s30)) ?_
          refine T.icmp_ne rfl rfl (by omega) (by omega) (fun c20 => ?_) (fun c20 => ?_)
          · refine T.go 2 (fun n9 => (rfl : _ = exe ξ n9 (d + 6) j_M_isUnread 159 [(0, .ref 137), (1, J x), (2, J (gl lh x)), (3, J (W2 (gc Lc rw) ((gl lh x) + 10))), (4, JL (W4 (gc Lc rw) ((gl lh x) + 20))), (6, JL (W4 (gc Lc rw) ((gl lh x) + 24))), (8, J 0)] [] s30)) ?_
            exact loop159 _ (gl lh x) (W2 (gc Lc rw) ((gl lh x) + 10)) (W4 (gc Lc rw) ((gl lh x) + 20)) (W4 (gc Lc rw) ((gl lh x) + 24)) 0 (8 * (gl ld x)) ((8 * (gl ld x)) + (8 * (W4 (gc Lc rw) ((gl lh x) + 20)))) (W4 (gc Lc rw) ((gl lh x) + 24)) 0 0 Lc lk s30 ms30 gs30 RG.refl (by omega) (by omega) (by omega) (by omega) (by omega) (by omega) (by omega) (by omega) (fun _ h => by rw [nmB_0]; rfl) (by omega) (fun h => absurd h (by omega)) (Nat.lt_succ_self _)
          · refine T.go 1 (fun n9 => (rfl : _ = exe ξ n9 (d + 6) j_M_isUnread 153 [(0, .ref 137), (1, J x), (2, J (gl lh x)), (3, J (W2 (gc Lc rw) ((gl lh x) + 10))), (4, JL (W4 (gc Lc rw) ((gl lh x) + 20))), (6, JL (W4 (gc Lc rw) ((gl lh x) + 24)))] [.ref 137] s30)) ?_
            refine T.callv (as := []) (r := []) rfl rfl rfl rfl ms30.ob rfl (s_M_finflate d  s30 ms30 (by omega) (by omega) (by omega) (by omega) (by omega) (by omega) (by omega) (by omega) (by omega)) (fun v23 s31 hqs31 => ?_)
            obtain ⟨bi_1, md_2, bd_2, Lc_2, lk_1, rfl, ms31, fs31, pz27_0, pz27_1, pz27_2, pz27_3⟩ := hqs31
            have ns31 := ms31.len
            have rs31 := ms31.rg
            have gs31 := gs30.trans fs31
            have rgs31 := (RG.refl (S := [4])).trans pz27_0 (by decide)
            rw [nmB_0, show 8 * gl ld x + 8 * W4 (gc Lc rw) (gl lh x + 20) = 8 * (gl ld x + W4 (gc Lc rw) (gl lh x + 20)) by omega] at pz27_3
            have ifmz27 : IFm (gc Lc rw) (8 * (gl ld x + W4 (gc Lc rw) (gl lh x + 20))) (W4 (gc Lc rw) (gl lh x + 24)) (8 * gl ld x) bd_2 md_2 (nm Lc_2 md_2) := pz27_3
            clear pz27_3
            refine T.go 2 (fun n9 => (rfl : _ = exe ξ n9 (d + 6) j_M_isUnread 159 [(0, .ref 137), (1, J x), (2, J (gl lh x)), (3, J (W2 (gc Lc rw) ((gl lh x) + 10))), (4, JL (W4 (gc Lc rw) ((gl lh x) + 20))), (6, JL (W4 (gc Lc rw) ((gl lh x) + 24))), (8, J 0)] [] s31)) ?_
            exact loop159 _ (gl lh x) (W2 (gc Lc rw) ((gl lh x) + 10)) (W4 (gc Lc rw) ((gl lh x) + 20)) (W4 (gc Lc rw) ((gl lh x) + 24)) 0 bi_1 ((8 * (gl ld x)) + (8 * (W4 (gc Lc rw) ((gl lh x) + 20)))) (W4 (gc Lc rw) ((gl lh x) + 24)) md_2 bd_2 Lc_2 lk_1 s31 ms31 gs31 rgs31 (by omega) (by omega) (by omega) (by omega) (by omega) (by omega) (by omega) (by omega) (fun h => absurd h (by omega)) (by omega) (fun _ => ifmz27) (Nat.lt_succ_self _)
        · refine T.go 2 (fun n9 => (rfl : _ = exe ξ n9 (d + 6) j_M_isUnread 106 [(0, .ref 137), (1, J x), (2, J (gl lh x)), (3, J (W2 (gc Lc rw) ((gl lh x) + 10))), (4, JL (W4 (gc Lc rw) ((gl lh x) + 20))), (6, JL (W4 (gc Lc rw) ((gl lh x) + 24)))] [JL (W4 (gc Lc rw) ((gl lh x) + 24)), JL (W4 (gc Lc rw) ((gl lh x) + 20)), .ref 137] s27)) ?_
          refine T.lcmp rfl (by omega) (by omega) (fun c21 => ?_) (fun c21 => ?_) (fun c21 => ?_)
          · refine T.go 1 (fun n9 => (rfl : _ = exe ξ n9 (d + 6) j_M_isUnread 110 [(0, .ref 137), (1, J x), (2, J (gl lh x)), (3, J (W2 (gc Lc rw) ((gl lh x) + 10))), (4, JL (W4 (gc Lc rw) ((gl lh x) + 20))), (6, JL (W4 (gc Lc rw) ((gl lh x) + 24)))] [.ref 137] s27)) ?_
            refine T.go 2 (fun n9 => (rfl : _ = exe ξ n9 (d + 6) j_M_isUnread 115 [(0, .ref 137), (1, J x), (2, J (gl lh x)), (3, J (W2 (gc Lc rw) ((gl lh x) + 10))), (4, JL (W4 (gc Lc rw) ((gl lh x) + 20))), (6, JL (W4 (gc Lc rw) ((gl lh x) + 24)))] [J 1, .ref 137] s27)) ?_
            refine T.mput (c' := c) (io' := io) (mo' := mo) (fa' := fa) (pl' := pl) (ns' := ns) (rw' := rw) (en' := en) (wy' := wy) (wh' := wh) (bi' := bi) (ed' := ed) (sz' := W4 (gc Lc rw) ((gl lh x) + 24)) (md' := 0) (bd' := 1) (li' := li) (wk' := wk) (we' := we) ms27 rfl rfl rfl rfl rfl rfl (by omega) (fun s32 ms32 fs32 => ?_)
            have gs32 := gs27.trans fs32
            refine T.go 3 (fun n9 => (rfl : _ = exe ξ n9 (d + 6) j_M_isUnread 122 [(0, .ref 137), (1, J x), (2, J (gl lh x)), (3, J (W2 (gc Lc rw) ((gl lh x) + 10))), (4, JL (W4 (gc Lc rw) ((gl lh x) + 20))), (6, JL (W4 (gc Lc rw) ((gl lh x) + 24)))] [.ref 137, J 8, .ref 137] s32)) ?_
            refine T.get rfl rfl rfl ms32.ob rfl ?_
            refine T.go 1 (fun n9 => (rfl : _ = exe ξ n9 (d + 6) j_M_isUnread 126 [(0, .ref 137), (1, J x), (2, J (gl lh x)), (3, J (W2 (gc Lc rw) ((gl lh x) + 10))), (4, JL (W4 (gc Lc rw) ((gl lh x) + 20))), (6, JL (W4 (gc Lc rw) ((gl lh x) + 24)))] [J x, .ref 143, J 8, .ref 137] s32)) ?_
            refine T.iald rfl rfl ms32.c143 (by omega) (fun z28 hzz28 hyz28 hez28 => ?_)
            have gzz28 := gl_of hez28 ⟨hzz28, hyz28⟩
            subst gzz28
            refine T.imul rfl ?_
            refine T.mput (c' := c) (io' := io) (mo' := mo) (fa' := fa) (pl' := pl) (ns' := ns) (rw' := rw) (en' := en) (wy' := wy) (wh' := wh) (bi' := 8 * (gl ld x)) (ed' := ed) (sz' := W4 (gc Lc rw) ((gl lh x) + 24)) (md' := 0) (bd' := 1) (li' := li) (wk' := wk) (we' := we) ms32 rfl rfl rfl rfl rfl rfl (by omega) (fun s33 ms33 fs33 => ?_)
            have gs33 := gs32.trans fs33
            refine T.go 2 (fun n9 => (rfl : _ = exe ξ n9 (d + 6) j_M_isUnread 133 [(0, .ref 137), (1, J x), (2, J (gl lh x)), (3, J (W2 (gc Lc rw) ((gl lh x) + 10))), (4, JL (W4 (gc Lc rw) ((gl lh x) + 20))), (6, JL (W4 (gc Lc rw) ((gl lh x) + 24)))] [.ref 137, .ref 137] s33)) ?_
            refine T.get rfl rfl rfl ms33.ob rfl ?_
            refine T.go 2 (fun n9 => (rfl : _ = exe ξ n9 (d + 6) j_M_isUnread 140 [(0, .ref 137), (1, J x), (2, J (gl lh x)), (3, J (W2 (gc Lc rw) ((gl lh x) + 10))), (4, JL (W4 (gc Lc rw) ((gl lh x) + 20))), (6, JL (W4 (gc Lc rw) ((gl lh x) + 24)))] [JL (W4 (gc Lc rw) ((gl lh x) + 20)), J 8, J (8 * (gl ld x)), .ref 137] s33)) ?_
            refine T.l2i rfl ?_
            refine T.imul rfl ?_
            refine T.iadd rfl ?_
            refine T.mput (c' := c) (io' := io) (mo' := mo) (fa' := fa) (pl' := pl) (ns' := ns) (rw' := rw) (en' := en) (wy' := wy) (wh' := wh) (bi' := 8 * (gl ld x)) (ed' := (8 * (gl ld x)) + (8 * (W4 (gc Lc rw) ((gl lh x) + 20)))) (sz' := W4 (gc Lc rw) ((gl lh x) + 24)) (md' := 0) (bd' := 1) (li' := li) (wk' := wk) (we' := we) ms33 rfl rfl rfl rfl rfl rfl (by omega) (fun s34 ms34 fs34 => ?_)
            have gs34 := gs33.trans fs34
            refine T.go 2 (fun n9 => (rfl : _ = exe ξ n9 (d + 6) j_M_isUnread 149 [(0, .ref 137), (1, J x), (2, J (gl lh x)), (3, J (W2 (gc Lc rw) ((gl lh x) + 10))), (4, JL (W4 (gc Lc rw) ((gl lh x) + 20))), (6, JL (W4 (gc Lc rw) ((gl lh x) + 24)))] [J 8, J (W2 (gc Lc rw) ((gl lh x) + 10))] s34)) ?_
            refine T.icmp_ne rfl rfl (by omega) (by omega) (fun c22 => ?_) (fun c22 => ?_)
            · refine T.go 2 (fun n9 => (rfl : _ = exe ξ n9 (d + 6) j_M_isUnread 159 [(0, .ref 137), (1, J x), (2, J (gl lh x)), (3, J (W2 (gc Lc rw) ((gl lh x) + 10))), (4, JL (W4 (gc Lc rw) ((gl lh x) + 20))), (6, JL (W4 (gc Lc rw) ((gl lh x) + 24))), (8, J 0)] [] s34)) ?_
              exact loop159 _ (gl lh x) (W2 (gc Lc rw) ((gl lh x) + 10)) (W4 (gc Lc rw) ((gl lh x) + 20)) (W4 (gc Lc rw) ((gl lh x) + 24)) 0 (8 * (gl ld x)) ((8 * (gl ld x)) + (8 * (W4 (gc Lc rw) ((gl lh x) + 20)))) (W4 (gc Lc rw) ((gl lh x) + 24)) 0 1 Lc lk s34 ms34 gs34 RG.refl (by omega) (by omega) (by omega) (by omega) (by omega) (by omega) (by omega) (by omega) (fun _ h => by rw [nmB_0]; rfl) (by omega) (fun h => absurd h (by omega)) (Nat.lt_succ_self _)
            · refine T.go 1 (fun n9 => (rfl : _ = exe ξ n9 (d + 6) j_M_isUnread 153 [(0, .ref 137), (1, J x), (2, J (gl lh x)), (3, J (W2 (gc Lc rw) ((gl lh x) + 10))), (4, JL (W4 (gc Lc rw) ((gl lh x) + 20))), (6, JL (W4 (gc Lc rw) ((gl lh x) + 24)))] [.ref 137] s34)) ?_
              refine T.callv (as := []) (r := []) rfl rfl rfl rfl ms34.ob rfl (s_M_finflate d  s34 ms34 (by omega) (by omega) (by omega) (by omega) (by omega) (by omega) (by omega) (by omega) (by omega)) (fun v24 s35 hqs35 => ?_)
              obtain ⟨bi_2, md_3, bd_3, Lc_3, lk_2, rfl, ms35, fs35, pz29_0, pz29_1, pz29_2, pz29_3⟩ := hqs35
              have ns35 := ms35.len
              have rs35 := ms35.rg
              have gs35 := gs34.trans fs35
              have rgs35 := (RG.refl (S := [4])).trans pz29_0 (by decide)
              rw [nmB_0, show 8 * gl ld x + 8 * W4 (gc Lc rw) (gl lh x + 20) = 8 * (gl ld x + W4 (gc Lc rw) (gl lh x + 20)) by omega] at pz29_3
              have ifmz29 : IFm (gc Lc rw) (8 * (gl ld x + W4 (gc Lc rw) (gl lh x + 20))) (W4 (gc Lc rw) (gl lh x + 24)) (8 * gl ld x) bd_3 md_3 (nm Lc_3 md_3) := pz29_3
              clear pz29_3
              refine T.go 2 (fun n9 => (rfl : _ = exe ξ n9 (d + 6) j_M_isUnread 159 [(0, .ref 137), (1, J x), (2, J (gl lh x)), (3, J (W2 (gc Lc rw) ((gl lh x) + 10))), (4, JL (W4 (gc Lc rw) ((gl lh x) + 20))), (6, JL (W4 (gc Lc rw) ((gl lh x) + 24))), (8, J 0)] [] s35)) ?_
              exact loop159 _ (gl lh x) (W2 (gc Lc rw) ((gl lh x) + 10)) (W4 (gc Lc rw) ((gl lh x) + 20)) (W4 (gc Lc rw) ((gl lh x) + 24)) 0 bi_2 ((8 * (gl ld x)) + (8 * (W4 (gc Lc rw) ((gl lh x) + 20)))) (W4 (gc Lc rw) ((gl lh x) + 24)) md_3 bd_3 Lc_3 lk_2 s35 ms35 gs35 rgs35 (by omega) (by omega) (by omega) (by omega) (by omega) (by omega) (by omega) (by omega) (fun h => absurd h (by omega)) (by omega) (fun _ => ifmz29) (Nat.lt_succ_self _)
          · refine T.go 1 (fun n9 => (rfl : _ = exe ξ n9 (d + 6) j_M_isUnread 114 [(0, .ref 137), (1, J x), (2, J (gl lh x)), (3, J (W2 (gc Lc rw) ((gl lh x) + 10))), (4, JL (W4 (gc Lc rw) ((gl lh x) + 20))), (6, JL (W4 (gc Lc rw) ((gl lh x) + 24)))] [.ref 137] s27)) ?_
            refine T.go 1 (fun n9 => (rfl : _ = exe ξ n9 (d + 6) j_M_isUnread 115 [(0, .ref 137), (1, J x), (2, J (gl lh x)), (3, J (W2 (gc Lc rw) ((gl lh x) + 10))), (4, JL (W4 (gc Lc rw) ((gl lh x) + 20))), (6, JL (W4 (gc Lc rw) ((gl lh x) + 24)))] [J 0, .ref 137] s27)) ?_
            refine T.mput (c' := c) (io' := io) (mo' := mo) (fa' := fa) (pl' := pl) (ns' := ns) (rw' := rw) (en' := en) (wy' := wy) (wh' := wh) (bi' := bi) (ed' := ed) (sz' := W4 (gc Lc rw) ((gl lh x) + 24)) (md' := 0) (bd' := 0) (li' := li) (wk' := wk) (we' := we) ms27 rfl rfl rfl rfl rfl rfl (by omega) (fun s36 ms36 fs36 => ?_)
            have gs36 := gs27.trans fs36
            refine T.go 3 (fun n9 => (rfl : _ = exe ξ n9 (d + 6) j_M_isUnread 122 [(0, .ref 137), (1, J x), (2, J (gl lh x)), (3, J (W2 (gc Lc rw) ((gl lh x) + 10))), (4, JL (W4 (gc Lc rw) ((gl lh x) + 20))), (6, JL (W4 (gc Lc rw) ((gl lh x) + 24)))] [.ref 137, J 8, .ref 137] s36)) ?_
            refine T.get rfl rfl rfl ms36.ob rfl ?_
            refine T.go 1 (fun n9 => (rfl : _ = exe ξ n9 (d + 6) j_M_isUnread 126 [(0, .ref 137), (1, J x), (2, J (gl lh x)), (3, J (W2 (gc Lc rw) ((gl lh x) + 10))), (4, JL (W4 (gc Lc rw) ((gl lh x) + 20))), (6, JL (W4 (gc Lc rw) ((gl lh x) + 24)))] [J x, .ref 143, J 8, .ref 137] s36)) ?_
            refine T.iald rfl rfl ms36.c143 (by omega) (fun z30 hzz30 hyz30 hez30 => ?_)
            have gzz30 := gl_of hez30 ⟨hzz30, hyz30⟩
            subst gzz30
            refine T.imul rfl ?_
            refine T.mput (c' := c) (io' := io) (mo' := mo) (fa' := fa) (pl' := pl) (ns' := ns) (rw' := rw) (en' := en) (wy' := wy) (wh' := wh) (bi' := 8 * (gl ld x)) (ed' := ed) (sz' := W4 (gc Lc rw) ((gl lh x) + 24)) (md' := 0) (bd' := 0) (li' := li) (wk' := wk) (we' := we) ms36 rfl rfl rfl rfl rfl rfl (by omega) (fun s37 ms37 fs37 => ?_)
            have gs37 := gs36.trans fs37
            refine T.go 2 (fun n9 => (rfl : _ = exe ξ n9 (d + 6) j_M_isUnread 133 [(0, .ref 137), (1, J x), (2, J (gl lh x)), (3, J (W2 (gc Lc rw) ((gl lh x) + 10))), (4, JL (W4 (gc Lc rw) ((gl lh x) + 20))), (6, JL (W4 (gc Lc rw) ((gl lh x) + 24)))] [.ref 137, .ref 137] s37)) ?_
            refine T.get rfl rfl rfl ms37.ob rfl ?_
            refine T.go 2 (fun n9 => (rfl : _ = exe ξ n9 (d + 6) j_M_isUnread 140 [(0, .ref 137), (1, J x), (2, J (gl lh x)), (3, J (W2 (gc Lc rw) ((gl lh x) + 10))), (4, JL (W4 (gc Lc rw) ((gl lh x) + 20))), (6, JL (W4 (gc Lc rw) ((gl lh x) + 24)))] [JL (W4 (gc Lc rw) ((gl lh x) + 20)), J 8, J (8 * (gl ld x)), .ref 137] s37)) ?_
            refine T.l2i rfl ?_
            refine T.imul rfl ?_
            refine T.iadd rfl ?_
            refine T.mput (c' := c) (io' := io) (mo' := mo) (fa' := fa) (pl' := pl) (ns' := ns) (rw' := rw) (en' := en) (wy' := wy) (wh' := wh) (bi' := 8 * (gl ld x)) (ed' := (8 * (gl ld x)) + (8 * (W4 (gc Lc rw) ((gl lh x) + 20)))) (sz' := W4 (gc Lc rw) ((gl lh x) + 24)) (md' := 0) (bd' := 0) (li' := li) (wk' := wk) (we' := we) ms37 rfl rfl rfl rfl rfl rfl (by omega) (fun s38 ms38 fs38 => ?_)
            have gs38 := gs37.trans fs38
            refine T.go 2 (fun n9 => (rfl : _ = exe ξ n9 (d + 6) j_M_isUnread 149 [(0, .ref 137), (1, J x), (2, J (gl lh x)), (3, J (W2 (gc Lc rw) ((gl lh x) + 10))), (4, JL (W4 (gc Lc rw) ((gl lh x) + 20))), (6, JL (W4 (gc Lc rw) ((gl lh x) + 24)))] [J 8, J (W2 (gc Lc rw) ((gl lh x) + 10))] s38)) ?_
            refine T.icmp_ne rfl rfl (by omega) (by omega) (fun c23 => ?_) (fun c23 => ?_)
            · refine T.go 2 (fun n9 => (rfl : _ = exe ξ n9 (d + 6) j_M_isUnread 159 [(0, .ref 137), (1, J x), (2, J (gl lh x)), (3, J (W2 (gc Lc rw) ((gl lh x) + 10))), (4, JL (W4 (gc Lc rw) ((gl lh x) + 20))), (6, JL (W4 (gc Lc rw) ((gl lh x) + 24))), (8, J 0)] [] s38)) ?_
              exact loop159 _ (gl lh x) (W2 (gc Lc rw) ((gl lh x) + 10)) (W4 (gc Lc rw) ((gl lh x) + 20)) (W4 (gc Lc rw) ((gl lh x) + 24)) 0 (8 * (gl ld x)) ((8 * (gl ld x)) + (8 * (W4 (gc Lc rw) ((gl lh x) + 20)))) (W4 (gc Lc rw) ((gl lh x) + 24)) 0 0 Lc lk s38 ms38 gs38 RG.refl (by omega) (by omega) (by omega) (by omega) (by omega) (by omega) (by omega) (by omega) (fun _ h => by rw [nmB_0]; rfl) (by omega) (fun h => absurd h (by omega)) (Nat.lt_succ_self _)
            · refine T.go 1 (fun n9 => (rfl : _ = exe ξ n9 (d + 6) j_M_isUnread 153 [(0, .ref 137), (1, J x), (2, J (gl lh x)), (3, J (W2 (gc Lc rw) ((gl lh x) + 10))), (4, JL (W4 (gc Lc rw) ((gl lh x) + 20))), (6, JL (W4 (gc Lc rw) ((gl lh x) + 24)))] [.ref 137] s38)) ?_
              refine T.callv (as := []) (r := []) rfl rfl rfl rfl ms38.ob rfl (s_M_finflate d  s38 ms38 (by omega) (by omega) (by omega) (by omega) (by omega) (by omega) (by omega) (by omega) (by omega)) (fun v25 s39 hqs39 => ?_)
              obtain ⟨bi_3, md_4, bd_4, Lc_4, lk_3, rfl, ms39, fs39, pz31_0, pz31_1, pz31_2, pz31_3⟩ := hqs39
              have ns39 := ms39.len
              have rs39 := ms39.rg
              have gs39 := gs38.trans fs39
              have rgs39 := (RG.refl (S := [4])).trans pz31_0 (by decide)
              rw [nmB_0, show 8 * gl ld x + 8 * W4 (gc Lc rw) (gl lh x + 20) = 8 * (gl ld x + W4 (gc Lc rw) (gl lh x + 20)) by omega] at pz31_3
              have ifmz31 : IFm (gc Lc rw) (8 * (gl ld x + W4 (gc Lc rw) (gl lh x + 20))) (W4 (gc Lc rw) (gl lh x + 24)) (8 * gl ld x) bd_4 md_4 (nm Lc_4 md_4) := pz31_3
              clear pz31_3
              refine T.go 2 (fun n9 => (rfl : _ = exe ξ n9 (d + 6) j_M_isUnread 159 [(0, .ref 137), (1, J x), (2, J (gl lh x)), (3, J (W2 (gc Lc rw) ((gl lh x) + 10))), (4, JL (W4 (gc Lc rw) ((gl lh x) + 20))), (6, JL (W4 (gc Lc rw) ((gl lh x) + 24))), (8, J 0)] [] s39)) ?_
              exact loop159 _ (gl lh x) (W2 (gc Lc rw) ((gl lh x) + 10)) (W4 (gc Lc rw) ((gl lh x) + 20)) (W4 (gc Lc rw) ((gl lh x) + 24)) 0 bi_3 ((8 * (gl ld x)) + (8 * (W4 (gc Lc rw) ((gl lh x) + 20)))) (W4 (gc Lc rw) ((gl lh x) + 24)) md_4 bd_4 Lc_4 lk_3 s39 ms39 gs39 rgs39 (by omega) (by omega) (by omega) (by omega) (by omega) (by omega) (by omega) (by omega) (fun h => absurd h (by omega)) (by omega) (fun _ => ifmz31) (Nat.lt_succ_self _)
          · refine T.go 1 (fun n9 => (rfl : _ = exe ξ n9 (d + 6) j_M_isUnread 110 [(0, .ref 137), (1, J x), (2, J (gl lh x)), (3, J (W2 (gc Lc rw) ((gl lh x) + 10))), (4, JL (W4 (gc Lc rw) ((gl lh x) + 20))), (6, JL (W4 (gc Lc rw) ((gl lh x) + 24)))] [.ref 137] s27)) ?_
            refine T.go 2 (fun n9 => (rfl : _ = exe ξ n9 (d + 6) j_M_isUnread 115 [(0, .ref 137), (1, J x), (2, J (gl lh x)), (3, J (W2 (gc Lc rw) ((gl lh x) + 10))), (4, JL (W4 (gc Lc rw) ((gl lh x) + 20))), (6, JL (W4 (gc Lc rw) ((gl lh x) + 24)))] [J 1, .ref 137] s27)) ?_
            refine T.mput (c' := c) (io' := io) (mo' := mo) (fa' := fa) (pl' := pl) (ns' := ns) (rw' := rw) (en' := en) (wy' := wy) (wh' := wh) (bi' := bi) (ed' := ed) (sz' := W4 (gc Lc rw) ((gl lh x) + 24)) (md' := 0) (bd' := 1) (li' := li) (wk' := wk) (we' := we) ms27 rfl rfl rfl rfl rfl rfl (by omega) (fun s40 ms40 fs40 => ?_)
            have gs40 := gs27.trans fs40
            refine T.go 3 (fun n9 => (rfl : _ = exe ξ n9 (d + 6) j_M_isUnread 122 [(0, .ref 137), (1, J x), (2, J (gl lh x)), (3, J (W2 (gc Lc rw) ((gl lh x) + 10))), (4, JL (W4 (gc Lc rw) ((gl lh x) + 20))), (6, JL (W4 (gc Lc rw) ((gl lh x) + 24)))] [.ref 137, J 8, .ref 137] s40)) ?_
            refine T.get rfl rfl rfl ms40.ob rfl ?_
            refine T.go 1 (fun n9 => (rfl : _ = exe ξ n9 (d + 6) j_M_isUnread 126 [(0, .ref 137), (1, J x), (2, J (gl lh x)), (3, J (W2 (gc Lc rw) ((gl lh x) + 10))), (4, JL (W4 (gc Lc rw) ((gl lh x) + 20))), (6, JL (W4 (gc Lc rw) ((gl lh x) + 24)))] [J x, .ref 143, J 8, .ref 137] s40)) ?_
            refine T.iald rfl rfl ms40.c143 (by omega) (fun z32 hzz32 hyz32 hez32 => ?_)
            have gzz32 := gl_of hez32 ⟨hzz32, hyz32⟩
            subst gzz32
            refine T.imul rfl ?_
            refine T.mput (c' := c) (io' := io) (mo' := mo) (fa' := fa) (pl' := pl) (ns' := ns) (rw' := rw) (en' := en) (wy' := wy) (wh' := wh) (bi' := 8 * (gl ld x)) (ed' := ed) (sz' := W4 (gc Lc rw) ((gl lh x) + 24)) (md' := 0) (bd' := 1) (li' := li) (wk' := wk) (we' := we) ms40 rfl rfl rfl rfl rfl rfl (by omega) (fun s41 ms41 fs41 => ?_)
            have gs41 := gs40.trans fs41
            refine T.go 2 (fun n9 => (rfl : _ = exe ξ n9 (d + 6) j_M_isUnread 133 [(0, .ref 137), (1, J x), (2, J (gl lh x)), (3, J (W2 (gc Lc rw) ((gl lh x) + 10))), (4, JL (W4 (gc Lc rw) ((gl lh x) + 20))), (6, JL (W4 (gc Lc rw) ((gl lh x) + 24)))] [.ref 137, .ref 137] s41)) ?_
            refine T.get rfl rfl rfl ms41.ob rfl ?_
            refine T.go 2 (fun n9 => (rfl : _ = exe ξ n9 (d + 6) j_M_isUnread 140 [(0, .ref 137), (1, J x), (2, J (gl lh x)), (3, J (W2 (gc Lc rw) ((gl lh x) + 10))), (4, JL (W4 (gc Lc rw) ((gl lh x) + 20))), (6, JL (W4 (gc Lc rw) ((gl lh x) + 24)))] [JL (W4 (gc Lc rw) ((gl lh x) + 20)), J 8, J (8 * (gl ld x)), .ref 137] s41)) ?_
            refine T.l2i rfl ?_
            refine T.imul rfl ?_
            refine T.iadd rfl ?_
            refine T.mput (c' := c) (io' := io) (mo' := mo) (fa' := fa) (pl' := pl) (ns' := ns) (rw' := rw) (en' := en) (wy' := wy) (wh' := wh) (bi' := 8 * (gl ld x)) (ed' := (8 * (gl ld x)) + (8 * (W4 (gc Lc rw) ((gl lh x) + 20)))) (sz' := W4 (gc Lc rw) ((gl lh x) + 24)) (md' := 0) (bd' := 1) (li' := li) (wk' := wk) (we' := we) ms41 rfl rfl rfl rfl rfl rfl (by omega) (fun s42 ms42 fs42 => ?_)
            have gs42 := gs41.trans fs42
            refine T.go 2 (fun n9 => (rfl : _ = exe ξ n9 (d + 6) j_M_isUnread 149 [(0, .ref 137), (1, J x), (2, J (gl lh x)), (3, J (W2 (gc Lc rw) ((gl lh x) + 10))), (4, JL (W4 (gc Lc rw) ((gl lh x) + 20))), (6, JL (W4 (gc Lc rw) ((gl lh x) + 24)))] [J 8, J (W2 (gc Lc rw) ((gl lh x) + 10))] s42)) ?_
            refine T.icmp_ne rfl rfl (by omega) (by omega) (fun c24 => ?_) (fun c24 => ?_)
            · refine T.go 2 (fun n9 => (rfl : _ = exe ξ n9 (d + 6) j_M_isUnread 159 [(0, .ref 137), (1, J x), (2, J (gl lh x)), (3, J (W2 (gc Lc rw) ((gl lh x) + 10))), (4, JL (W4 (gc Lc rw) ((gl lh x) + 20))), (6, JL (W4 (gc Lc rw) ((gl lh x) + 24))), (8, J 0)] [] s42)) ?_
              exact loop159 _ (gl lh x) (W2 (gc Lc rw) ((gl lh x) + 10)) (W4 (gc Lc rw) ((gl lh x) + 20)) (W4 (gc Lc rw) ((gl lh x) + 24)) 0 (8 * (gl ld x)) ((8 * (gl ld x)) + (8 * (W4 (gc Lc rw) ((gl lh x) + 20)))) (W4 (gc Lc rw) ((gl lh x) + 24)) 0 1 Lc lk s42 ms42 gs42 RG.refl (by omega) (by omega) (by omega) (by omega) (by omega) (by omega) (by omega) (by omega) (fun _ h => by rw [nmB_0]; rfl) (by omega) (fun h => absurd h (by omega)) (Nat.lt_succ_self _)
            · refine T.go 1 (fun n9 => (rfl : _ = exe ξ n9 (d + 6) j_M_isUnread 153 [(0, .ref 137), (1, J x), (2, J (gl lh x)), (3, J (W2 (gc Lc rw) ((gl lh x) + 10))), (4, JL (W4 (gc Lc rw) ((gl lh x) + 20))), (6, JL (W4 (gc Lc rw) ((gl lh x) + 24)))] [.ref 137] s42)) ?_
              refine T.callv (as := []) (r := []) rfl rfl rfl rfl ms42.ob rfl (s_M_finflate d  s42 ms42 (by omega) (by omega) (by omega) (by omega) (by omega) (by omega) (by omega) (by omega) (by omega)) (fun v26 s43 hqs43 => ?_)
              obtain ⟨bi_4, md_5, bd_5, Lc_5, lk_4, rfl, ms43, fs43, pz33_0, pz33_1, pz33_2, pz33_3⟩ := hqs43
              have ns43 := ms43.len
              have rs43 := ms43.rg
              have gs43 := gs42.trans fs43
              have rgs43 := (RG.refl (S := [4])).trans pz33_0 (by decide)
              rw [nmB_0, show 8 * gl ld x + 8 * W4 (gc Lc rw) (gl lh x + 20) = 8 * (gl ld x + W4 (gc Lc rw) (gl lh x + 20)) by omega] at pz33_3
              have ifmz33 : IFm (gc Lc rw) (8 * (gl ld x + W4 (gc Lc rw) (gl lh x + 20))) (W4 (gc Lc rw) (gl lh x + 24)) (8 * gl ld x) bd_5 md_5 (nm Lc_5 md_5) := pz33_3
              clear pz33_3
              refine T.go 2 (fun n9 => (rfl : _ = exe ξ n9 (d + 6) j_M_isUnread 159 [(0, .ref 137), (1, J x), (2, J (gl lh x)), (3, J (W2 (gc Lc rw) ((gl lh x) + 10))), (4, JL (W4 (gc Lc rw) ((gl lh x) + 20))), (6, JL (W4 (gc Lc rw) ((gl lh x) + 24))), (8, J 0)] [] s43)) ?_
              exact loop159 _ (gl lh x) (W2 (gc Lc rw) ((gl lh x) + 10)) (W4 (gc Lc rw) ((gl lh x) + 20)) (W4 (gc Lc rw) ((gl lh x) + 24)) 0 bi_4 ((8 * (gl ld x)) + (8 * (W4 (gc Lc rw) ((gl lh x) + 20)))) (W4 (gc Lc rw) ((gl lh x) + 24)) md_5 bd_5 Lc_5 lk_4 s43 ms43 gs43 rgs43 (by omega) (by omega) (by omega) (by omega) (by omega) (by omega) (by omega) (by omega) (fun h => absurd h (by omega)) (by omega) (fun _ => ifmz33) (Nat.lt_succ_self _)
      · refine T.go 1 (fun n9 => (rfl : _ = exe ξ n9 (d + 6) j_M_isUnread 85 [(0, .ref 137), (1, J x), (2, J (gl lh x)), (3, J (W2 (gc Lc rw) ((gl lh x) + 10))), (4, JL (W4 (gc Lc rw) ((gl lh x) + 20))), (6, JL (W4 (gc Lc rw) ((gl lh x) + 24)))] [] σ)) ?_
        refine T.go 2 (fun n9 => (rfl : _ = exe ξ n9 (d + 6) j_M_isUnread 88 [(0, .ref 137), (1, J x), (2, J (gl lh x)), (3, J (W2 (gc Lc rw) ((gl lh x) + 10))), (4, JL (W4 (gc Lc rw) ((gl lh x) + 20))), (6, JL (W4 (gc Lc rw) ((gl lh x) + 24)))] [JL (W4 (gc Lc rw) ((gl lh x) + 24)), .ref 137] σ)) ?_
        refine T.l2i rfl ?_
        refine T.mput (c' := c) (io' := io) (mo' := mo) (fa' := fa) (pl' := pl) (ns' := ns) (rw' := rw) (en' := en) (wy' := wy) (wh' := wh) (bi' := bi) (ed' := ed) (sz' := W4 (gc Lc rw) ((gl lh x) + 24)) (md' := md) (bd' := bd) (li' := li) (wk' := wk) (we' := we) hM rfl rfl rfl rfl rfl rfl (by omega) (fun s44 ms44 fs44 => ?_)
        refine T.go 2 (fun n9 => (rfl : _ = exe ξ n9 (d + 6) j_M_isUnread 94 [(0, .ref 137), (1, J x), (2, J (gl lh x)), (3, J (W2 (gc Lc rw) ((gl lh x) + 10))), (4, JL (W4 (gc Lc rw) ((gl lh x) + 20))), (6, JL (W4 (gc Lc rw) ((gl lh x) + 24)))] [J 0, .ref 137] s44)) ?_
        refine T.mput (c' := c) (io' := io) (mo' := mo) (fa' := fa) (pl' := pl) (ns' := ns) (rw' := rw) (en' := en) (wy' := wy) (wh' := wh) (bi' := bi) (ed' := ed) (sz' := W4 (gc Lc rw) ((gl lh x) + 24)) (md' := 0) (bd' := bd) (li' := li) (wk' := wk) (we' := we) ms44 rfl rfl rfl rfl rfl rfl (by omega) (fun s45 ms45 fs45 => ?_)
        have gs45 := fs44.trans fs45
        refine T.go 2 (fun n9 => (rfl : _ = exe ξ n9 (d + 6) j_M_isUnread 99 [(0, .ref 137), (1, J x), (2, J (gl lh x)), (3, J (W2 (gc Lc rw) ((gl lh x) + 10))), (4, JL (W4 (gc Lc rw) ((gl lh x) + 20))), (6, JL (W4 (gc Lc rw) ((gl lh x) + 24)))] [J (W2 (gc Lc rw) ((gl lh x) + 10)), .ref 137] s45)) ?_
        refine T.if_ne rfl rfl (by omega) (fun c25 => ?_) (fun c25 => ?_)
        · refine T.go 1 (fun n9 => (rfl : _ = exe ξ n9 (d + 6) j_M_isUnread 115 [(0, .ref 137), (1, J x), (2, J (gl lh x)), (3, J (W2 (gc Lc rw) ((gl lh x) + 10))), (4, JL (W4 (gc Lc rw) ((gl lh x) + 20))), (6, JL (W4 (gc Lc rw) ((gl lh x) + 24)))] [J 0, .ref 137] s45)) ?_
          refine T.mput (c' := c) (io' := io) (mo' := mo) (fa' := fa) (pl' := pl) (ns' := ns) (rw' := rw) (en' := en) (wy' := wy) (wh' := wh) (bi' := bi) (ed' := ed) (sz' := W4 (gc Lc rw) ((gl lh x) + 24)) (md' := 0) (bd' := 0) (li' := li) (wk' := wk) (we' := we) ms45 rfl rfl rfl rfl rfl rfl (by omega) (fun s46 ms46 fs46 => ?_)
          have gs46 := gs45.trans fs46
          refine T.go 3 (fun n9 => (rfl : _ = exe ξ n9 (d + 6) j_M_isUnread 122 [(0, .ref 137), (1, J x), (2, J (gl lh x)), (3, J (W2 (gc Lc rw) ((gl lh x) + 10))), (4, JL (W4 (gc Lc rw) ((gl lh x) + 20))), (6, JL (W4 (gc Lc rw) ((gl lh x) + 24)))] [.ref 137, J 8, .ref 137] s46)) ?_
          refine T.get rfl rfl rfl ms46.ob rfl ?_
          refine T.go 1 (fun n9 => (rfl : _ = exe ξ n9 (d + 6) j_M_isUnread 126 [(0, .ref 137), (1, J x), (2, J (gl lh x)), (3, J (W2 (gc Lc rw) ((gl lh x) + 10))), (4, JL (W4 (gc Lc rw) ((gl lh x) + 20))), (6, JL (W4 (gc Lc rw) ((gl lh x) + 24)))] [J x, .ref 143, J 8, .ref 137] s46)) ?_
          refine T.iald rfl rfl ms46.c143 (by omega) (fun z34 hzz34 hyz34 hez34 => ?_)
          have gzz34 := gl_of hez34 ⟨hzz34, hyz34⟩
          subst gzz34
          refine T.imul rfl ?_
          refine T.mput (c' := c) (io' := io) (mo' := mo) (fa' := fa) (pl' := pl) (ns' := ns) (rw' := rw) (en' := en) (wy' := wy) (wh' := wh) (bi' := 8 * (gl ld x)) (ed' := ed) (sz' := W4 (gc Lc rw) ((gl lh x) + 24)) (md' := 0) (bd' := 0) (li' := li) (wk' := wk) (we' := we) ms46 rfl rfl rfl rfl rfl rfl (by omega) (fun s47 ms47 fs47 => ?_)
          have gs47 := gs46.trans fs47
          refine T.go 2 (fun n9 => (rfl : _ = exe ξ n9 (d + 6) j_M_isUnread 133 [(0, .ref 137), (1, J x), (2, J (gl lh x)), (3, J (W2 (gc Lc rw) ((gl lh x) + 10))), (4, JL (W4 (gc Lc rw) ((gl lh x) + 20))), (6, JL (W4 (gc Lc rw) ((gl lh x) + 24)))] [.ref 137, .ref 137] s47)) ?_
          refine T.get rfl rfl rfl ms47.ob rfl ?_
          refine T.go 2 (fun n9 => (rfl : _ = exe ξ n9 (d + 6) j_M_isUnread 140 [(0, .ref 137), (1, J x), (2, J (gl lh x)), (3, J (W2 (gc Lc rw) ((gl lh x) + 10))), (4, JL (W4 (gc Lc rw) ((gl lh x) + 20))), (6, JL (W4 (gc Lc rw) ((gl lh x) + 24)))] [JL (W4 (gc Lc rw) ((gl lh x) + 20)), J 8, J (8 * (gl ld x)), .ref 137] s47)) ?_
          refine T.l2i rfl ?_
          refine T.imul rfl ?_
          refine T.iadd rfl ?_
          refine T.mput (c' := c) (io' := io) (mo' := mo) (fa' := fa) (pl' := pl) (ns' := ns) (rw' := rw) (en' := en) (wy' := wy) (wh' := wh) (bi' := 8 * (gl ld x)) (ed' := (8 * (gl ld x)) + (8 * (W4 (gc Lc rw) ((gl lh x) + 20)))) (sz' := W4 (gc Lc rw) ((gl lh x) + 24)) (md' := 0) (bd' := 0) (li' := li) (wk' := wk) (we' := we) ms47 rfl rfl rfl rfl rfl rfl (by omega) (fun s48 ms48 fs48 => ?_)
          have gs48 := gs47.trans fs48
          refine T.go 2 (fun n9 => (rfl : _ = exe ξ n9 (d + 6) j_M_isUnread 149 [(0, .ref 137), (1, J x), (2, J (gl lh x)), (3, J (W2 (gc Lc rw) ((gl lh x) + 10))), (4, JL (W4 (gc Lc rw) ((gl lh x) + 20))), (6, JL (W4 (gc Lc rw) ((gl lh x) + 24)))] [J 8, J (W2 (gc Lc rw) ((gl lh x) + 10))] s48)) ?_
          refine T.icmp_ne rfl rfl (by omega) (by omega) (fun c26 => ?_) (fun c26 => ?_)
          · refine T.go 2 (fun n9 => (rfl : _ = exe ξ n9 (d + 6) j_M_isUnread 159 [(0, .ref 137), (1, J x), (2, J (gl lh x)), (3, J (W2 (gc Lc rw) ((gl lh x) + 10))), (4, JL (W4 (gc Lc rw) ((gl lh x) + 20))), (6, JL (W4 (gc Lc rw) ((gl lh x) + 24))), (8, J 0)] [] s48)) ?_
            exact loop159 _ (gl lh x) (W2 (gc Lc rw) ((gl lh x) + 10)) (W4 (gc Lc rw) ((gl lh x) + 20)) (W4 (gc Lc rw) ((gl lh x) + 24)) 0 (8 * (gl ld x)) ((8 * (gl ld x)) + (8 * (W4 (gc Lc rw) ((gl lh x) + 20)))) (W4 (gc Lc rw) ((gl lh x) + 24)) 0 0 Lc lk s48 ms48 gs48 RG.refl (by omega) (by omega) (by omega) (by omega) (by omega) (by omega) (by omega) (by omega) (fun _ h => by rw [nmB_0]; rfl) (by omega) (fun h => absurd h (by omega)) (Nat.lt_succ_self _)
          · refine T.go 1 (fun n9 => (rfl : _ = exe ξ n9 (d + 6) j_M_isUnread 153 [(0, .ref 137), (1, J x), (2, J (gl lh x)), (3, J (W2 (gc Lc rw) ((gl lh x) + 10))), (4, JL (W4 (gc Lc rw) ((gl lh x) + 20))), (6, JL (W4 (gc Lc rw) ((gl lh x) + 24)))] [.ref 137] s48)) ?_
            refine T.callv (as := []) (r := []) rfl rfl rfl rfl ms48.ob rfl (s_M_finflate d  s48 ms48 (by omega) (by omega) (by omega) (by omega) (by omega) (by omega) (by omega) (by omega) (by omega)) (fun v27 s49 hqs49 => ?_)
            obtain ⟨bi_5, md_6, bd_6, Lc_6, lk_5, rfl, ms49, fs49, pz35_0, pz35_1, pz35_2, pz35_3⟩ := hqs49
            have ns49 := ms49.len
            have rs49 := ms49.rg
            have gs49 := gs48.trans fs49
            have rgs49 := (RG.refl (S := [4])).trans pz35_0 (by decide)
            rw [nmB_0, show 8 * gl ld x + 8 * W4 (gc Lc rw) (gl lh x + 20) = 8 * (gl ld x + W4 (gc Lc rw) (gl lh x + 20)) by omega] at pz35_3
            have ifmz35 : IFm (gc Lc rw) (8 * (gl ld x + W4 (gc Lc rw) (gl lh x + 20))) (W4 (gc Lc rw) (gl lh x + 24)) (8 * gl ld x) bd_6 md_6 (nm Lc_6 md_6) := pz35_3
            clear pz35_3
            refine T.go 2 (fun n9 => (rfl : _ = exe ξ n9 (d + 6) j_M_isUnread 159 [(0, .ref 137), (1, J x), (2, J (gl lh x)), (3, J (W2 (gc Lc rw) ((gl lh x) + 10))), (4, JL (W4 (gc Lc rw) ((gl lh x) + 20))), (6, JL (W4 (gc Lc rw) ((gl lh x) + 24))), (8, J 0)] [] s49)) ?_
            exact loop159 _ (gl lh x) (W2 (gc Lc rw) ((gl lh x) + 10)) (W4 (gc Lc rw) ((gl lh x) + 20)) (W4 (gc Lc rw) ((gl lh x) + 24)) 0 bi_5 ((8 * (gl ld x)) + (8 * (W4 (gc Lc rw) ((gl lh x) + 20)))) (W4 (gc Lc rw) ((gl lh x) + 24)) md_6 bd_6 Lc_6 lk_5 s49 ms49 gs49 rgs49 (by omega) (by omega) (by omega) (by omega) (by omega) (by omega) (by omega) (by omega) (fun h => absurd h (by omega)) (by omega) (fun _ => ifmz35) (Nat.lt_succ_self _)
        · refine T.go 2 (fun n9 => (rfl : _ = exe ξ n9 (d + 6) j_M_isUnread 106 [(0, .ref 137), (1, J x), (2, J (gl lh x)), (3, J (W2 (gc Lc rw) ((gl lh x) + 10))), (4, JL (W4 (gc Lc rw) ((gl lh x) + 20))), (6, JL (W4 (gc Lc rw) ((gl lh x) + 24)))] [JL (W4 (gc Lc rw) ((gl lh x) + 24)), JL (W4 (gc Lc rw) ((gl lh x) + 20)), .ref 137] s45)) ?_
          refine T.lcmp rfl (by omega) (by omega) (fun c27 => ?_) (fun c27 => ?_) (fun c27 => ?_)
          · refine T.go 1 (fun n9 => (rfl : _ = exe ξ n9 (d + 6) j_M_isUnread 110 [(0, .ref 137), (1, J x), (2, J (gl lh x)), (3, J (W2 (gc Lc rw) ((gl lh x) + 10))), (4, JL (W4 (gc Lc rw) ((gl lh x) + 20))), (6, JL (W4 (gc Lc rw) ((gl lh x) + 24)))] [.ref 137] s45)) ?_
            refine T.go 2 (fun n9 => (rfl : _ = exe ξ n9 (d + 6) j_M_isUnread 115 [(0, .ref 137), (1, J x), (2, J (gl lh x)), (3, J (W2 (gc Lc rw) ((gl lh x) + 10))), (4, JL (W4 (gc Lc rw) ((gl lh x) + 20))), (6, JL (W4 (gc Lc rw) ((gl lh x) + 24)))] [J 1, .ref 137] s45)) ?_
            refine T.mput (c' := c) (io' := io) (mo' := mo) (fa' := fa) (pl' := pl) (ns' := ns) (rw' := rw) (en' := en) (wy' := wy) (wh' := wh) (bi' := bi) (ed' := ed) (sz' := W4 (gc Lc rw) ((gl lh x) + 24)) (md' := 0) (bd' := 1) (li' := li) (wk' := wk) (we' := we) ms45 rfl rfl rfl rfl rfl rfl (by omega) (fun s50 ms50 fs50 => ?_)
            have gs50 := gs45.trans fs50
            refine T.go 3 (fun n9 => (rfl : _ = exe ξ n9 (d + 6) j_M_isUnread 122 [(0, .ref 137), (1, J x), (2, J (gl lh x)), (3, J (W2 (gc Lc rw) ((gl lh x) + 10))), (4, JL (W4 (gc Lc rw) ((gl lh x) + 20))), (6, JL (W4 (gc Lc rw) ((gl lh x) + 24)))] [.ref 137, J 8, .ref 137] s50)) ?_
            refine T.get rfl rfl rfl ms50.ob rfl ?_
            refine T.go 1 (fun n9 => (rfl : _ = exe ξ n9 (d + 6) j_M_isUnread 126 [(0, .ref 137), (1, J x), (2, J (gl lh x)), (3, J (W2 (gc Lc rw) ((gl lh x) + 10))), (4, JL (W4 (gc Lc rw) ((gl lh x) + 20))), (6, JL (W4 (gc Lc rw) ((gl lh x) + 24)))] [J x, .ref 143, J 8, .ref 137] s50)) ?_
            refine T.iald rfl rfl ms50.c143 (by omega) (fun z36 hzz36 hyz36 hez36 => ?_)
            have gzz36 := gl_of hez36 ⟨hzz36, hyz36⟩
            subst gzz36
            refine T.imul rfl ?_
            refine T.mput (c' := c) (io' := io) (mo' := mo) (fa' := fa) (pl' := pl) (ns' := ns) (rw' := rw) (en' := en) (wy' := wy) (wh' := wh) (bi' := 8 * (gl ld x)) (ed' := ed) (sz' := W4 (gc Lc rw) ((gl lh x) + 24)) (md' := 0) (bd' := 1) (li' := li) (wk' := wk) (we' := we) ms50 rfl rfl rfl rfl rfl rfl (by omega) (fun s51 ms51 fs51 => ?_)
            have gs51 := gs50.trans fs51
            refine T.go 2 (fun n9 => (rfl : _ = exe ξ n9 (d + 6) j_M_isUnread 133 [(0, .ref 137), (1, J x), (2, J (gl lh x)), (3, J (W2 (gc Lc rw) ((gl lh x) + 10))), (4, JL (W4 (gc Lc rw) ((gl lh x) + 20))), (6, JL (W4 (gc Lc rw) ((gl lh x) + 24)))] [.ref 137, .ref 137] s51)) ?_
            refine T.get rfl rfl rfl ms51.ob rfl ?_
            refine T.go 2 (fun n9 => (rfl : _ = exe ξ n9 (d + 6) j_M_isUnread 140 [(0, .ref 137), (1, J x), (2, J (gl lh x)), (3, J (W2 (gc Lc rw) ((gl lh x) + 10))), (4, JL (W4 (gc Lc rw) ((gl lh x) + 20))), (6, JL (W4 (gc Lc rw) ((gl lh x) + 24)))] [JL (W4 (gc Lc rw) ((gl lh x) + 20)), J 8, J (8 * (gl ld x)), .ref 137] s51)) ?_
            refine T.l2i rfl ?_
            refine T.imul rfl ?_
            refine T.iadd rfl ?_
            refine T.mput (c' := c) (io' := io) (mo' := mo) (fa' := fa) (pl' := pl) (ns' := ns) (rw' := rw) (en' := en) (wy' := wy) (wh' := wh) (bi' := 8 * (gl ld x)) (ed' := (8 * (gl ld x)) + (8 * (W4 (gc Lc rw) ((gl lh x) + 20)))) (sz' := W4 (gc Lc rw) ((gl lh x) + 24)) (md' := 0) (bd' := 1) (li' := li) (wk' := wk) (we' := we) ms51 rfl rfl rfl rfl rfl rfl (by omega) (fun s52 ms52 fs52 => ?_)
            have gs52 := gs51.trans fs52
            refine T.go 2 (fun n9 => (rfl : _ = exe ξ n9 (d + 6) j_M_isUnread 149 [(0, .ref 137), (1, J x), (2, J (gl lh x)), (3, J (W2 (gc Lc rw) ((gl lh x) + 10))), (4, JL (W4 (gc Lc rw) ((gl lh x) + 20))), (6, JL (W4 (gc Lc rw) ((gl lh x) + 24)))] [J 8, J (W2 (gc Lc rw) ((gl lh x) + 10))] s52)) ?_
            refine T.icmp_ne rfl rfl (by omega) (by omega) (fun c28 => ?_) (fun c28 => ?_)
            · refine T.go 2 (fun n9 => (rfl : _ = exe ξ n9 (d + 6) j_M_isUnread 159 [(0, .ref 137), (1, J x), (2, J (gl lh x)), (3, J (W2 (gc Lc rw) ((gl lh x) + 10))), (4, JL (W4 (gc Lc rw) ((gl lh x) + 20))), (6, JL (W4 (gc Lc rw) ((gl lh x) + 24))), (8, J 0)] [] s52)) ?_
              exact loop159 _ (gl lh x) (W2 (gc Lc rw) ((gl lh x) + 10)) (W4 (gc Lc rw) ((gl lh x) + 20)) (W4 (gc Lc rw) ((gl lh x) + 24)) 0 (8 * (gl ld x)) ((8 * (gl ld x)) + (8 * (W4 (gc Lc rw) ((gl lh x) + 20)))) (W4 (gc Lc rw) ((gl lh x) + 24)) 0 1 Lc lk s52 ms52 gs52 RG.refl (by omega) (by omega) (by omega) (by omega) (by omega) (by omega) (by omega) (by omega) (fun _ h => by rw [nmB_0]; rfl) (by omega) (fun h => absurd h (by omega)) (Nat.lt_succ_self _)
            · refine T.go 1 (fun n9 => (rfl : _ = exe ξ n9 (d + 6) j_M_isUnread 153 [(0, .ref 137), (1, J x), (2, J (gl lh x)), (3, J (W2 (gc Lc rw) ((gl lh x) + 10))), (4, JL (W4 (gc Lc rw) ((gl lh x) + 20))), (6, JL (W4 (gc Lc rw) ((gl lh x) + 24)))] [.ref 137] s52)) ?_
              refine T.callv (as := []) (r := []) rfl rfl rfl rfl ms52.ob rfl (s_M_finflate d  s52 ms52 (by omega) (by omega) (by omega) (by omega) (by omega) (by omega) (by omega) (by omega) (by omega)) (fun v28 s53 hqs53 => ?_)
              obtain ⟨bi_6, md_7, bd_7, Lc_7, lk_6, rfl, ms53, fs53, pz37_0, pz37_1, pz37_2, pz37_3⟩ := hqs53
              have ns53 := ms53.len
              have rs53 := ms53.rg
              have gs53 := gs52.trans fs53
              have rgs53 := (RG.refl (S := [4])).trans pz37_0 (by decide)
              rw [nmB_0, show 8 * gl ld x + 8 * W4 (gc Lc rw) (gl lh x + 20) = 8 * (gl ld x + W4 (gc Lc rw) (gl lh x + 20)) by omega] at pz37_3
              have ifmz37 : IFm (gc Lc rw) (8 * (gl ld x + W4 (gc Lc rw) (gl lh x + 20))) (W4 (gc Lc rw) (gl lh x + 24)) (8 * gl ld x) bd_7 md_7 (nm Lc_7 md_7) := pz37_3
              clear pz37_3
              refine T.go 2 (fun n9 => (rfl : _ = exe ξ n9 (d + 6) j_M_isUnread 159 [(0, .ref 137), (1, J x), (2, J (gl lh x)), (3, J (W2 (gc Lc rw) ((gl lh x) + 10))), (4, JL (W4 (gc Lc rw) ((gl lh x) + 20))), (6, JL (W4 (gc Lc rw) ((gl lh x) + 24))), (8, J 0)] [] s53)) ?_
              exact loop159 _ (gl lh x) (W2 (gc Lc rw) ((gl lh x) + 10)) (W4 (gc Lc rw) ((gl lh x) + 20)) (W4 (gc Lc rw) ((gl lh x) + 24)) 0 bi_6 ((8 * (gl ld x)) + (8 * (W4 (gc Lc rw) ((gl lh x) + 20)))) (W4 (gc Lc rw) ((gl lh x) + 24)) md_7 bd_7 Lc_7 lk_6 s53 ms53 gs53 rgs53 (by omega) (by omega) (by omega) (by omega) (by omega) (by omega) (by omega) (by omega) (fun h => absurd h (by omega)) (by omega) (fun _ => ifmz37) (Nat.lt_succ_self _)
          · refine T.go 1 (fun n9 => (rfl : _ = exe ξ n9 (d + 6) j_M_isUnread 114 [(0, .ref 137), (1, J x), (2, J (gl lh x)), (3, J (W2 (gc Lc rw) ((gl lh x) + 10))), (4, JL (W4 (gc Lc rw) ((gl lh x) + 20))), (6, JL (W4 (gc Lc rw) ((gl lh x) + 24)))] [.ref 137] s45)) ?_
            refine T.go 1 (fun n9 => (rfl : _ = exe ξ n9 (d + 6) j_M_isUnread 115 [(0, .ref 137), (1, J x), (2, J (gl lh x)), (3, J (W2 (gc Lc rw) ((gl lh x) + 10))), (4, JL (W4 (gc Lc rw) ((gl lh x) + 20))), (6, JL (W4 (gc Lc rw) ((gl lh x) + 24)))] [J 0, .ref 137] s45)) ?_
            refine T.mput (c' := c) (io' := io) (mo' := mo) (fa' := fa) (pl' := pl) (ns' := ns) (rw' := rw) (en' := en) (wy' := wy) (wh' := wh) (bi' := bi) (ed' := ed) (sz' := W4 (gc Lc rw) ((gl lh x) + 24)) (md' := 0) (bd' := 0) (li' := li) (wk' := wk) (we' := we) ms45 rfl rfl rfl rfl rfl rfl (by omega) (fun s54 ms54 fs54 => ?_)
            have gs54 := gs45.trans fs54
            refine T.go 3 (fun n9 => (rfl : _ = exe ξ n9 (d + 6) j_M_isUnread 122 [(0, .ref 137), (1, J x), (2, J (gl lh x)), (3, J (W2 (gc Lc rw) ((gl lh x) + 10))), (4, JL (W4 (gc Lc rw) ((gl lh x) + 20))), (6, JL (W4 (gc Lc rw) ((gl lh x) + 24)))] [.ref 137, J 8, .ref 137] s54)) ?_
            refine T.get rfl rfl rfl ms54.ob rfl ?_
            refine T.go 1 (fun n9 => (rfl : _ = exe ξ n9 (d + 6) j_M_isUnread 126 [(0, .ref 137), (1, J x), (2, J (gl lh x)), (3, J (W2 (gc Lc rw) ((gl lh x) + 10))), (4, JL (W4 (gc Lc rw) ((gl lh x) + 20))), (6, JL (W4 (gc Lc rw) ((gl lh x) + 24)))] [J x, .ref 143, J 8, .ref 137] s54)) ?_
            refine T.iald rfl rfl ms54.c143 (by omega) (fun z38 hzz38 hyz38 hez38 => ?_)
            have gzz38 := gl_of hez38 ⟨hzz38, hyz38⟩
            subst gzz38
            refine T.imul rfl ?_
            refine T.mput (c' := c) (io' := io) (mo' := mo) (fa' := fa) (pl' := pl) (ns' := ns) (rw' := rw) (en' := en) (wy' := wy) (wh' := wh) (bi' := 8 * (gl ld x)) (ed' := ed) (sz' := W4 (gc Lc rw) ((gl lh x) + 24)) (md' := 0) (bd' := 0) (li' := li) (wk' := wk) (we' := we) ms54 rfl rfl rfl rfl rfl rfl (by omega) (fun s55 ms55 fs55 => ?_)
            have gs55 := gs54.trans fs55
            refine T.go 2 (fun n9 => (rfl : _ = exe ξ n9 (d + 6) j_M_isUnread 133 [(0, .ref 137), (1, J x), (2, J (gl lh x)), (3, J (W2 (gc Lc rw) ((gl lh x) + 10))), (4, JL (W4 (gc Lc rw) ((gl lh x) + 20))), (6, JL (W4 (gc Lc rw) ((gl lh x) + 24)))] [.ref 137, .ref 137] s55)) ?_
            refine T.get rfl rfl rfl ms55.ob rfl ?_
            refine T.go 2 (fun n9 => (rfl : _ = exe ξ n9 (d + 6) j_M_isUnread 140 [(0, .ref 137), (1, J x), (2, J (gl lh x)), (3, J (W2 (gc Lc rw) ((gl lh x) + 10))), (4, JL (W4 (gc Lc rw) ((gl lh x) + 20))), (6, JL (W4 (gc Lc rw) ((gl lh x) + 24)))] [JL (W4 (gc Lc rw) ((gl lh x) + 20)), J 8, J (8 * (gl ld x)), .ref 137] s55)) ?_
            refine T.l2i rfl ?_
            refine T.imul rfl ?_
            refine T.iadd rfl ?_
            refine T.mput (c' := c) (io' := io) (mo' := mo) (fa' := fa) (pl' := pl) (ns' := ns) (rw' := rw) (en' := en) (wy' := wy) (wh' := wh) (bi' := 8 * (gl ld x)) (ed' := (8 * (gl ld x)) + (8 * (W4 (gc Lc rw) ((gl lh x) + 20)))) (sz' := W4 (gc Lc rw) ((gl lh x) + 24)) (md' := 0) (bd' := 0) (li' := li) (wk' := wk) (we' := we) ms55 rfl rfl rfl rfl rfl rfl (by omega) (fun s56 ms56 fs56 => ?_)
            have gs56 := gs55.trans fs56
            refine T.go 2 (fun n9 => (rfl : _ = exe ξ n9 (d + 6) j_M_isUnread 149 [(0, .ref 137), (1, J x), (2, J (gl lh x)), (3, J (W2 (gc Lc rw) ((gl lh x) + 10))), (4, JL (W4 (gc Lc rw) ((gl lh x) + 20))), (6, JL (W4 (gc Lc rw) ((gl lh x) + 24)))] [J 8, J (W2 (gc Lc rw) ((gl lh x) + 10))] s56)) ?_
            refine T.icmp_ne rfl rfl (by omega) (by omega) (fun c29 => ?_) (fun c29 => ?_)
            · refine T.go 2 (fun n9 => (rfl : _ = exe ξ n9 (d + 6) j_M_isUnread 159 [(0, .ref 137), (1, J x), (2, J (gl lh x)), (3, J (W2 (gc Lc rw) ((gl lh x) + 10))), (4, JL (W4 (gc Lc rw) ((gl lh x) + 20))), (6, JL (W4 (gc Lc rw) ((gl lh x) + 24))), (8, J 0)] [] s56)) ?_
              exact loop159 _ (gl lh x) (W2 (gc Lc rw) ((gl lh x) + 10)) (W4 (gc Lc rw) ((gl lh x) + 20)) (W4 (gc Lc rw) ((gl lh x) + 24)) 0 (8 * (gl ld x)) ((8 * (gl ld x)) + (8 * (W4 (gc Lc rw) ((gl lh x) + 20)))) (W4 (gc Lc rw) ((gl lh x) + 24)) 0 0 Lc lk s56 ms56 gs56 RG.refl (by omega) (by omega) (by omega) (by omega) (by omega) (by omega) (by omega) (by omega) (fun _ h => by rw [nmB_0]; rfl) (by omega) (fun h => absurd h (by omega)) (Nat.lt_succ_self _)
            · refine T.go 1 (fun n9 => (rfl : _ = exe ξ n9 (d + 6) j_M_isUnread 153 [(0, .ref 137), (1, J x), (2, J (gl lh x)), (3, J (W2 (gc Lc rw) ((gl lh x) + 10))), (4, JL (W4 (gc Lc rw) ((gl lh x) + 20))), (6, JL (W4 (gc Lc rw) ((gl lh x) + 24)))] [.ref 137] s56)) ?_
              refine T.callv (as := []) (r := []) rfl rfl rfl rfl ms56.ob rfl (s_M_finflate d  s56 ms56 (by omega) (by omega) (by omega) (by omega) (by omega) (by omega) (by omega) (by omega) (by omega)) (fun v29 s57 hqs57 => ?_)
              obtain ⟨bi_7, md_8, bd_8, Lc_8, lk_7, rfl, ms57, fs57, pz39_0, pz39_1, pz39_2, pz39_3⟩ := hqs57
              have ns57 := ms57.len
              have rs57 := ms57.rg
              have gs57 := gs56.trans fs57
              have rgs57 := (RG.refl (S := [4])).trans pz39_0 (by decide)
              rw [nmB_0, show 8 * gl ld x + 8 * W4 (gc Lc rw) (gl lh x + 20) = 8 * (gl ld x + W4 (gc Lc rw) (gl lh x + 20)) by omega] at pz39_3
              have ifmz39 : IFm (gc Lc rw) (8 * (gl ld x + W4 (gc Lc rw) (gl lh x + 20))) (W4 (gc Lc rw) (gl lh x + 24)) (8 * gl ld x) bd_8 md_8 (nm Lc_8 md_8) := pz39_3
              clear pz39_3
              refine T.go 2 (fun n9 => (rfl : _ = exe ξ n9 (d + 6) j_M_isUnread 159 [(0, .ref 137), (1, J x), (2, J (gl lh x)), (3, J (W2 (gc Lc rw) ((gl lh x) + 10))), (4, JL (W4 (gc Lc rw) ((gl lh x) + 20))), (6, JL (W4 (gc Lc rw) ((gl lh x) + 24))), (8, J 0)] [] s57)) ?_
              exact loop159 _ (gl lh x) (W2 (gc Lc rw) ((gl lh x) + 10)) (W4 (gc Lc rw) ((gl lh x) + 20)) (W4 (gc Lc rw) ((gl lh x) + 24)) 0 bi_7 ((8 * (gl ld x)) + (8 * (W4 (gc Lc rw) ((gl lh x) + 20)))) (W4 (gc Lc rw) ((gl lh x) + 24)) md_8 bd_8 Lc_8 lk_7 s57 ms57 gs57 rgs57 (by omega) (by omega) (by omega) (by omega) (by omega) (by omega) (by omega) (by omega) (fun h => absurd h (by omega)) (by omega) (fun _ => ifmz39) (Nat.lt_succ_self _)
          · refine T.go 1 (fun n9 => (rfl : _ = exe ξ n9 (d + 6) j_M_isUnread 110 [(0, .ref 137), (1, J x), (2, J (gl lh x)), (3, J (W2 (gc Lc rw) ((gl lh x) + 10))), (4, JL (W4 (gc Lc rw) ((gl lh x) + 20))), (6, JL (W4 (gc Lc rw) ((gl lh x) + 24)))] [.ref 137] s45)) ?_
            refine T.go 2 (fun n9 => (rfl : _ = exe ξ n9 (d + 6) j_M_isUnread 115 [(0, .ref 137), (1, J x), (2, J (gl lh x)), (3, J (W2 (gc Lc rw) ((gl lh x) + 10))), (4, JL (W4 (gc Lc rw) ((gl lh x) + 20))), (6, JL (W4 (gc Lc rw) ((gl lh x) + 24)))] [J 1, .ref 137] s45)) ?_
            refine T.mput (c' := c) (io' := io) (mo' := mo) (fa' := fa) (pl' := pl) (ns' := ns) (rw' := rw) (en' := en) (wy' := wy) (wh' := wh) (bi' := bi) (ed' := ed) (sz' := W4 (gc Lc rw) ((gl lh x) + 24)) (md' := 0) (bd' := 1) (li' := li) (wk' := wk) (we' := we) ms45 rfl rfl rfl rfl rfl rfl (by omega) (fun s58 ms58 fs58 => ?_)
            have gs58 := gs45.trans fs58
            refine T.go 3 (fun n9 => (rfl : _ = exe ξ n9 (d + 6) j_M_isUnread 122 [(0, .ref 137), (1, J x), (2, J (gl lh x)), (3, J (W2 (gc Lc rw) ((gl lh x) + 10))), (4, JL (W4 (gc Lc rw) ((gl lh x) + 20))), (6, JL (W4 (gc Lc rw) ((gl lh x) + 24)))] [.ref 137, J 8, .ref 137] s58)) ?_
            refine T.get rfl rfl rfl ms58.ob rfl ?_
            refine T.go 1 (fun n9 => (rfl : _ = exe ξ n9 (d + 6) j_M_isUnread 126 [(0, .ref 137), (1, J x), (2, J (gl lh x)), (3, J (W2 (gc Lc rw) ((gl lh x) + 10))), (4, JL (W4 (gc Lc rw) ((gl lh x) + 20))), (6, JL (W4 (gc Lc rw) ((gl lh x) + 24)))] [J x, .ref 143, J 8, .ref 137] s58)) ?_
            refine T.iald rfl rfl ms58.c143 (by omega) (fun z40 hzz40 hyz40 hez40 => ?_)
            have gzz40 := gl_of hez40 ⟨hzz40, hyz40⟩
            subst gzz40
            refine T.imul rfl ?_
            refine T.mput (c' := c) (io' := io) (mo' := mo) (fa' := fa) (pl' := pl) (ns' := ns) (rw' := rw) (en' := en) (wy' := wy) (wh' := wh) (bi' := 8 * (gl ld x)) (ed' := ed) (sz' := W4 (gc Lc rw) ((gl lh x) + 24)) (md' := 0) (bd' := 1) (li' := li) (wk' := wk) (we' := we) ms58 rfl rfl rfl rfl rfl rfl (by omega) (fun s59 ms59 fs59 => ?_)
            have gs59 := gs58.trans fs59
            refine T.go 2 (fun n9 => (rfl : _ = exe ξ n9 (d + 6) j_M_isUnread 133 [(0, .ref 137), (1, J x), (2, J (gl lh x)), (3, J (W2 (gc Lc rw) ((gl lh x) + 10))), (4, JL (W4 (gc Lc rw) ((gl lh x) + 20))), (6, JL (W4 (gc Lc rw) ((gl lh x) + 24)))] [.ref 137, .ref 137] s59)) ?_
            refine T.get rfl rfl rfl ms59.ob rfl ?_
            refine T.go 2 (fun n9 => (rfl : _ = exe ξ n9 (d + 6) j_M_isUnread 140 [(0, .ref 137), (1, J x), (2, J (gl lh x)), (3, J (W2 (gc Lc rw) ((gl lh x) + 10))), (4, JL (W4 (gc Lc rw) ((gl lh x) + 20))), (6, JL (W4 (gc Lc rw) ((gl lh x) + 24)))] [JL (W4 (gc Lc rw) ((gl lh x) + 20)), J 8, J (8 * (gl ld x)), .ref 137] s59)) ?_
            refine T.l2i rfl ?_
            refine T.imul rfl ?_
            refine T.iadd rfl ?_
            refine T.mput (c' := c) (io' := io) (mo' := mo) (fa' := fa) (pl' := pl) (ns' := ns) (rw' := rw) (en' := en) (wy' := wy) (wh' := wh) (bi' := 8 * (gl ld x)) (ed' := (8 * (gl ld x)) + (8 * (W4 (gc Lc rw) ((gl lh x) + 20)))) (sz' := W4 (gc Lc rw) ((gl lh x) + 24)) (md' := 0) (bd' := 1) (li' := li) (wk' := wk) (we' := we) ms59 rfl rfl rfl rfl rfl rfl (by omega) (fun s60 ms60 fs60 => ?_)
            have gs60 := gs59.trans fs60
            refine T.go 2 (fun n9 => (rfl : _ = exe ξ n9 (d + 6) j_M_isUnread 149 [(0, .ref 137), (1, J x), (2, J (gl lh x)), (3, J (W2 (gc Lc rw) ((gl lh x) + 10))), (4, JL (W4 (gc Lc rw) ((gl lh x) + 20))), (6, JL (W4 (gc Lc rw) ((gl lh x) + 24)))] [J 8, J (W2 (gc Lc rw) ((gl lh x) + 10))] s60)) ?_
            refine T.icmp_ne rfl rfl (by omega) (by omega) (fun c30 => ?_) (fun c30 => ?_)
            · refine T.go 2 (fun n9 => (rfl : _ = exe ξ n9 (d + 6) j_M_isUnread 159 [(0, .ref 137), (1, J x), (2, J (gl lh x)), (3, J (W2 (gc Lc rw) ((gl lh x) + 10))), (4, JL (W4 (gc Lc rw) ((gl lh x) + 20))), (6, JL (W4 (gc Lc rw) ((gl lh x) + 24))), (8, J 0)] [] s60)) ?_
              exact loop159 _ (gl lh x) (W2 (gc Lc rw) ((gl lh x) + 10)) (W4 (gc Lc rw) ((gl lh x) + 20)) (W4 (gc Lc rw) ((gl lh x) + 24)) 0 (8 * (gl ld x)) ((8 * (gl ld x)) + (8 * (W4 (gc Lc rw) ((gl lh x) + 20)))) (W4 (gc Lc rw) ((gl lh x) + 24)) 0 1 Lc lk s60 ms60 gs60 RG.refl (by omega) (by omega) (by omega) (by omega) (by omega) (by omega) (by omega) (by omega) (fun _ h => by rw [nmB_0]; rfl) (by omega) (fun h => absurd h (by omega)) (Nat.lt_succ_self _)
            · refine T.go 1 (fun n9 => (rfl : _ = exe ξ n9 (d + 6) j_M_isUnread 153 [(0, .ref 137), (1, J x), (2, J (gl lh x)), (3, J (W2 (gc Lc rw) ((gl lh x) + 10))), (4, JL (W4 (gc Lc rw) ((gl lh x) + 20))), (6, JL (W4 (gc Lc rw) ((gl lh x) + 24)))] [.ref 137] s60)) ?_
              refine T.callv (as := []) (r := []) rfl rfl rfl rfl ms60.ob rfl (s_M_finflate d  s60 ms60 (by omega) (by omega) (by omega) (by omega) (by omega) (by omega) (by omega) (by omega) (by omega)) (fun v30 s61 hqs61 => ?_)
              obtain ⟨bi_8, md_9, bd_9, Lc_9, lk_8, rfl, ms61, fs61, pz41_0, pz41_1, pz41_2, pz41_3⟩ := hqs61
              have ns61 := ms61.len
              have rs61 := ms61.rg
              have gs61 := gs60.trans fs61
              have rgs61 := (RG.refl (S := [4])).trans pz41_0 (by decide)
              rw [nmB_0, show 8 * gl ld x + 8 * W4 (gc Lc rw) (gl lh x + 20) = 8 * (gl ld x + W4 (gc Lc rw) (gl lh x + 20)) by omega] at pz41_3
              have ifmz41 : IFm (gc Lc rw) (8 * (gl ld x + W4 (gc Lc rw) (gl lh x + 20))) (W4 (gc Lc rw) (gl lh x + 24)) (8 * gl ld x) bd_9 md_9 (nm Lc_9 md_9) := pz41_3
              clear pz41_3
              refine T.go 2 (fun n9 => (rfl : _ = exe ξ n9 (d + 6) j_M_isUnread 159 [(0, .ref 137), (1, J x), (2, J (gl lh x)), (3, J (W2 (gc Lc rw) ((gl lh x) + 10))), (4, JL (W4 (gc Lc rw) ((gl lh x) + 20))), (6, JL (W4 (gc Lc rw) ((gl lh x) + 24))), (8, J 0)] [] s61)) ?_
              exact loop159 _ (gl lh x) (W2 (gc Lc rw) ((gl lh x) + 10)) (W4 (gc Lc rw) ((gl lh x) + 20)) (W4 (gc Lc rw) ((gl lh x) + 24)) 0 bi_8 ((8 * (gl ld x)) + (8 * (W4 (gc Lc rw) ((gl lh x) + 20)))) (W4 (gc Lc rw) ((gl lh x) + 24)) md_9 bd_9 Lc_9 lk_8 s61 ms61 gs61 rgs61 (by omega) (by omega) (by omega) (by omega) (by omega) (by omega) (by omega) (by omega) (fun h => absurd h (by omega)) (by omega) (fun _ => ifmz41) (Nat.lt_succ_self _)
      · refine T.go 1 (fun n9 => (rfl : _ = exe ξ n9 (d + 6) j_M_isUnread 77 [(0, .ref 137), (1, J x), (2, J (gl lh x)), (3, J (W2 (gc Lc rw) ((gl lh x) + 10))), (4, JL (W4 (gc Lc rw) ((gl lh x) + 20))), (6, JL (W4 (gc Lc rw) ((gl lh x) + 24)))] [] σ)) ?_
        refine T.go 3 (fun n9 => (rfl : _ = exe ξ n9 (d + 6) j_M_isUnread 81 [(0, .ref 137), (1, J x), (2, J (gl lh x)), (3, J (W2 (gc Lc rw) ((gl lh x) + 10))), (4, JL (W4 (gc Lc rw) ((gl lh x) + 20))), (6, JL (W4 (gc Lc rw) ((gl lh x) + 24)))] [J x, J 7, .ref 137] σ)) ?_
        refine T.callv (as := [J 7, J x]) (r := []) rfl rfl rfl rfl hM.ob rfl (s_M_isWrong (d + 5) 7 x σ hM (by omega) (by omega)) (fun v31 s62 hqs62 => ?_)
        obtain ⟨z42, wy_11, wh_11, rfl, ms62, fs62, hzz42, hyz42⟩ := hqs62
        have ns62 := ms62.len
        have rs62 := ms62.rg
        exact T.iretz rfl rfl (by omega) ⟨_, wy_11, wh_11, bi, ed, sz, md, bd, Lc, la, lk, rfl, ms62, fs62, by omega, by omega, RG.refl, LG.refl, (fun h => absurd h (by omega)), (fun _ o => RD_7 (by omega))⟩
    · refine T.go 2 (fun n9 => (rfl : _ = exe ξ n9 (d + 6) j_M_isUnread 57 [(0, .ref 137), (1, J x), (2, J (gl lh x)), (3, J (W2 (gc Lc rw) ((gl lh x) + 10))), (4, JL (W4 (gc Lc rw) ((gl lh x) + 20))), (6, JL (W4 (gc Lc rw) ((gl lh x) + 24)))] [J 8, J (W2 (gc Lc rw) ((gl lh x) + 10))] σ)) ?_
      refine T.icmp_eq rfl rfl (by omega) (by omega) (fun c31 => ?_) (fun c31 => ?_)
      · refine T.go 1 (fun n9 => (rfl : _ = exe ξ n9 (d + 6) j_M_isUnread 70 [(0, .ref 137), (1, J x), (2, J (gl lh x)), (3, J (W2 (gc Lc rw) ((gl lh x) + 10))), (4, JL (W4 (gc Lc rw) ((gl lh x) + 20))), (6, JL (W4 (gc Lc rw) ((gl lh x) + 24)))] [JL (W4 (gc Lc rw) ((gl lh x) + 24))] σ)) ?_
        refine T.go 1 (fun n9 => (rfl : _ = exe ξ n9 (d + 6) j_M_isUnread 73 [(0, .ref 137), (1, J x), (2, J (gl lh x)), (3, J (W2 (gc Lc rw) ((gl lh x) + 10))), (4, JL (W4 (gc Lc rw) ((gl lh x) + 20))), (6, JL (W4 (gc Lc rw) ((gl lh x) + 24)))] [JL 8000, JL (W4 (gc Lc rw) ((gl lh x) + 24))] σ)) ?_
        refine T.lcmp rfl (by omega) (by omega) (fun c32 => ?_) (fun c32 => ?_) (fun c32 => ?_)
        · refine T.go 1 (fun n9 => (rfl : _ = exe ξ n9 (d + 6) j_M_isUnread 85 [(0, .ref 137), (1, J x), (2, J (gl lh x)), (3, J (W2 (gc Lc rw) ((gl lh x) + 10))), (4, JL (W4 (gc Lc rw) ((gl lh x) + 20))), (6, JL (W4 (gc Lc rw) ((gl lh x) + 24)))] [] σ)) ?_
          refine T.go 2 (fun n9 => (rfl : _ = exe ξ n9 (d + 6) j_M_isUnread 88 [(0, .ref 137), (1, J x), (2, J (gl lh x)), (3, J (W2 (gc Lc rw) ((gl lh x) + 10))), (4, JL (W4 (gc Lc rw) ((gl lh x) + 20))), (6, JL (W4 (gc Lc rw) ((gl lh x) + 24)))] [JL (W4 (gc Lc rw) ((gl lh x) + 24)), .ref 137] σ)) ?_
          refine T.l2i rfl ?_
          refine T.mput (c' := c) (io' := io) (mo' := mo) (fa' := fa) (pl' := pl) (ns' := ns) (rw' := rw) (en' := en) (wy' := wy) (wh' := wh) (bi' := bi) (ed' := ed) (sz' := W4 (gc Lc rw) ((gl lh x) + 24)) (md' := md) (bd' := bd) (li' := li) (wk' := wk) (we' := we) hM rfl rfl rfl rfl rfl rfl (by omega) (fun s63 ms63 fs63 => ?_)
          refine T.go 2 (fun n9 => (rfl : _ = exe ξ n9 (d + 6) j_M_isUnread 94 [(0, .ref 137), (1, J x), (2, J (gl lh x)), (3, J (W2 (gc Lc rw) ((gl lh x) + 10))), (4, JL (W4 (gc Lc rw) ((gl lh x) + 20))), (6, JL (W4 (gc Lc rw) ((gl lh x) + 24)))] [J 0, .ref 137] s63)) ?_
          refine T.mput (c' := c) (io' := io) (mo' := mo) (fa' := fa) (pl' := pl) (ns' := ns) (rw' := rw) (en' := en) (wy' := wy) (wh' := wh) (bi' := bi) (ed' := ed) (sz' := W4 (gc Lc rw) ((gl lh x) + 24)) (md' := 0) (bd' := bd) (li' := li) (wk' := wk) (we' := we) ms63 rfl rfl rfl rfl rfl rfl (by omega) (fun s64 ms64 fs64 => ?_)
          have gs64 := fs63.trans fs64
          refine T.go 2 (fun n9 => (rfl : _ = exe ξ n9 (d + 6) j_M_isUnread 99 [(0, .ref 137), (1, J x), (2, J (gl lh x)), (3, J (W2 (gc Lc rw) ((gl lh x) + 10))), (4, JL (W4 (gc Lc rw) ((gl lh x) + 20))), (6, JL (W4 (gc Lc rw) ((gl lh x) + 24)))] [J (W2 (gc Lc rw) ((gl lh x) + 10)), .ref 137] s64)) ?_
          refine T.if_ne rfl rfl (by omega) (fun c33 => ?_) (fun c33 => ?_)
          · refine T.go 1 (fun n9 => (rfl : _ = exe ξ n9 (d + 6) j_M_isUnread 115 [(0, .ref 137), (1, J x), (2, J (gl lh x)), (3, J (W2 (gc Lc rw) ((gl lh x) + 10))), (4, JL (W4 (gc Lc rw) ((gl lh x) + 20))), (6, JL (W4 (gc Lc rw) ((gl lh x) + 24)))] [J 0, .ref 137] s64)) ?_
            refine T.mput (c' := c) (io' := io) (mo' := mo) (fa' := fa) (pl' := pl) (ns' := ns) (rw' := rw) (en' := en) (wy' := wy) (wh' := wh) (bi' := bi) (ed' := ed) (sz' := W4 (gc Lc rw) ((gl lh x) + 24)) (md' := 0) (bd' := 0) (li' := li) (wk' := wk) (we' := we) ms64 rfl rfl rfl rfl rfl rfl (by omega) (fun s65 ms65 fs65 => ?_)
            have gs65 := gs64.trans fs65
            refine T.go 3 (fun n9 => (rfl : _ = exe ξ n9 (d + 6) j_M_isUnread 122 [(0, .ref 137), (1, J x), (2, J (gl lh x)), (3, J (W2 (gc Lc rw) ((gl lh x) + 10))), (4, JL (W4 (gc Lc rw) ((gl lh x) + 20))), (6, JL (W4 (gc Lc rw) ((gl lh x) + 24)))] [.ref 137, J 8, .ref 137] s65)) ?_
            refine T.get rfl rfl rfl ms65.ob rfl ?_
            refine T.go 1 (fun n9 => (rfl : _ = exe ξ n9 (d + 6) j_M_isUnread 126 [(0, .ref 137), (1, J x), (2, J (gl lh x)), (3, J (W2 (gc Lc rw) ((gl lh x) + 10))), (4, JL (W4 (gc Lc rw) ((gl lh x) + 20))), (6, JL (W4 (gc Lc rw) ((gl lh x) + 24)))] [J x, .ref 143, J 8, .ref 137] s65)) ?_
            refine T.iald rfl rfl ms65.c143 (by omega) (fun z43 hzz43 hyz43 hez43 => ?_)
            have gzz43 := gl_of hez43 ⟨hzz43, hyz43⟩
            subst gzz43
            refine T.imul rfl ?_
            refine T.mput (c' := c) (io' := io) (mo' := mo) (fa' := fa) (pl' := pl) (ns' := ns) (rw' := rw) (en' := en) (wy' := wy) (wh' := wh) (bi' := 8 * (gl ld x)) (ed' := ed) (sz' := W4 (gc Lc rw) ((gl lh x) + 24)) (md' := 0) (bd' := 0) (li' := li) (wk' := wk) (we' := we) ms65 rfl rfl rfl rfl rfl rfl (by omega) (fun s66 ms66 fs66 => ?_)
            have gs66 := gs65.trans fs66
            refine T.go 2 (fun n9 => (rfl : _ = exe ξ n9 (d + 6) j_M_isUnread 133 [(0, .ref 137), (1, J x), (2, J (gl lh x)), (3, J (W2 (gc Lc rw) ((gl lh x) + 10))), (4, JL (W4 (gc Lc rw) ((gl lh x) + 20))), (6, JL (W4 (gc Lc rw) ((gl lh x) + 24)))] [.ref 137, .ref 137] s66)) ?_
            refine T.get rfl rfl rfl ms66.ob rfl ?_
            refine T.go 2 (fun n9 => (rfl : _ = exe ξ n9 (d + 6) j_M_isUnread 140 [(0, .ref 137), (1, J x), (2, J (gl lh x)), (3, J (W2 (gc Lc rw) ((gl lh x) + 10))), (4, JL (W4 (gc Lc rw) ((gl lh x) + 20))), (6, JL (W4 (gc Lc rw) ((gl lh x) + 24)))] [JL (W4 (gc Lc rw) ((gl lh x) + 20)), J 8, J (8 * (gl ld x)), .ref 137] s66)) ?_
            refine T.l2i rfl ?_
            refine T.imul rfl ?_
            refine T.iadd rfl ?_
            refine T.mput (c' := c) (io' := io) (mo' := mo) (fa' := fa) (pl' := pl) (ns' := ns) (rw' := rw) (en' := en) (wy' := wy) (wh' := wh) (bi' := 8 * (gl ld x)) (ed' := (8 * (gl ld x)) + (8 * (W4 (gc Lc rw) ((gl lh x) + 20)))) (sz' := W4 (gc Lc rw) ((gl lh x) + 24)) (md' := 0) (bd' := 0) (li' := li) (wk' := wk) (we' := we) ms66 rfl rfl rfl rfl rfl rfl (by omega) (fun s67 ms67 fs67 => ?_)
            have gs67 := gs66.trans fs67
            refine T.go 2 (fun n9 => (rfl : _ = exe ξ n9 (d + 6) j_M_isUnread 149 [(0, .ref 137), (1, J x), (2, J (gl lh x)), (3, J (W2 (gc Lc rw) ((gl lh x) + 10))), (4, JL (W4 (gc Lc rw) ((gl lh x) + 20))), (6, JL (W4 (gc Lc rw) ((gl lh x) + 24)))] [J 8, J (W2 (gc Lc rw) ((gl lh x) + 10))] s67)) ?_
            refine T.icmp_ne rfl rfl (by omega) (by omega) (fun c34 => ?_) (fun c34 => ?_)
            · refine T.go 2 (fun n9 => (rfl : _ = exe ξ n9 (d + 6) j_M_isUnread 159 [(0, .ref 137), (1, J x), (2, J (gl lh x)), (3, J (W2 (gc Lc rw) ((gl lh x) + 10))), (4, JL (W4 (gc Lc rw) ((gl lh x) + 20))), (6, JL (W4 (gc Lc rw) ((gl lh x) + 24))), (8, J 0)] [] s67)) ?_
              exact loop159 _ (gl lh x) (W2 (gc Lc rw) ((gl lh x) + 10)) (W4 (gc Lc rw) ((gl lh x) + 20)) (W4 (gc Lc rw) ((gl lh x) + 24)) 0 (8 * (gl ld x)) ((8 * (gl ld x)) + (8 * (W4 (gc Lc rw) ((gl lh x) + 20)))) (W4 (gc Lc rw) ((gl lh x) + 24)) 0 0 Lc lk s67 ms67 gs67 RG.refl (by omega) (by omega) (by omega) (by omega) (by omega) (by omega) (by omega) (by omega) (fun _ h => by rw [nmB_0]; rfl) (by omega) (fun h => absurd h (by omega)) (Nat.lt_succ_self _)
            · refine T.go 1 (fun n9 => (rfl : _ = exe ξ n9 (d + 6) j_M_isUnread 153 [(0, .ref 137), (1, J x), (2, J (gl lh x)), (3, J (W2 (gc Lc rw) ((gl lh x) + 10))), (4, JL (W4 (gc Lc rw) ((gl lh x) + 20))), (6, JL (W4 (gc Lc rw) ((gl lh x) + 24)))] [.ref 137] s67)) ?_
              refine T.callv (as := []) (r := []) rfl rfl rfl rfl ms67.ob rfl (s_M_finflate d  s67 ms67 (by omega) (by omega) (by omega) (by omega) (by omega) (by omega) (by omega) (by omega) (by omega)) (fun v32 s68 hqs68 => ?_)
              obtain ⟨bi_9, md_10, bd_10, Lc_10, lk_9, rfl, ms68, fs68, pz44_0, pz44_1, pz44_2, pz44_3⟩ := hqs68
              have ns68 := ms68.len
              have rs68 := ms68.rg
              have gs68 := gs67.trans fs68
              have rgs68 := (RG.refl (S := [4])).trans pz44_0 (by decide)
              rw [nmB_0, show 8 * gl ld x + 8 * W4 (gc Lc rw) (gl lh x + 20) = 8 * (gl ld x + W4 (gc Lc rw) (gl lh x + 20)) by omega] at pz44_3
              have ifmz44 : IFm (gc Lc rw) (8 * (gl ld x + W4 (gc Lc rw) (gl lh x + 20))) (W4 (gc Lc rw) (gl lh x + 24)) (8 * gl ld x) bd_10 md_10 (nm Lc_10 md_10) := pz44_3
              clear pz44_3
              refine T.go 2 (fun n9 => (rfl : _ = exe ξ n9 (d + 6) j_M_isUnread 159 [(0, .ref 137), (1, J x), (2, J (gl lh x)), (3, J (W2 (gc Lc rw) ((gl lh x) + 10))), (4, JL (W4 (gc Lc rw) ((gl lh x) + 20))), (6, JL (W4 (gc Lc rw) ((gl lh x) + 24))), (8, J 0)] [] s68)) ?_
              exact loop159 _ (gl lh x) (W2 (gc Lc rw) ((gl lh x) + 10)) (W4 (gc Lc rw) ((gl lh x) + 20)) (W4 (gc Lc rw) ((gl lh x) + 24)) 0 bi_9 ((8 * (gl ld x)) + (8 * (W4 (gc Lc rw) ((gl lh x) + 20)))) (W4 (gc Lc rw) ((gl lh x) + 24)) md_10 bd_10 Lc_10 lk_9 s68 ms68 gs68 rgs68 (by omega) (by omega) (by omega) (by omega) (by omega) (by omega) (by omega) (by omega) (fun h => absurd h (by omega)) (by omega) (fun _ => ifmz44) (Nat.lt_succ_self _)
          · refine T.go 2 (fun n9 => (rfl : _ = exe ξ n9 (d + 6) j_M_isUnread 106 [(0, .ref 137), (1, J x), (2, J (gl lh x)), (3, J (W2 (gc Lc rw) ((gl lh x) + 10))), (4, JL (W4 (gc Lc rw) ((gl lh x) + 20))), (6, JL (W4 (gc Lc rw) ((gl lh x) + 24)))] [JL (W4 (gc Lc rw) ((gl lh x) + 24)), JL (W4 (gc Lc rw) ((gl lh x) + 20)), .ref 137] s64)) ?_
            refine T.lcmp rfl (by omega) (by omega) (fun c35 => ?_) (fun c35 => ?_) (fun c35 => ?_)
            · refine T.go 1 (fun n9 => (rfl : _ = exe ξ n9 (d + 6) j_M_isUnread 110 [(0, .ref 137), (1, J x), (2, J (gl lh x)), (3, J (W2 (gc Lc rw) ((gl lh x) + 10))), (4, JL (W4 (gc Lc rw) ((gl lh x) + 20))), (6, JL (W4 (gc Lc rw) ((gl lh x) + 24)))] [.ref 137] s64)) ?_
              refine T.go 2 (fun n9 => (rfl : _ = exe ξ n9 (d + 6) j_M_isUnread 115 [(0, .ref 137), (1, J x), (2, J (gl lh x)), (3, J (W2 (gc Lc rw) ((gl lh x) + 10))), (4, JL (W4 (gc Lc rw) ((gl lh x) + 20))), (6, JL (W4 (gc Lc rw) ((gl lh x) + 24)))] [J 1, .ref 137] s64)) ?_
              refine T.mput (c' := c) (io' := io) (mo' := mo) (fa' := fa) (pl' := pl) (ns' := ns) (rw' := rw) (en' := en) (wy' := wy) (wh' := wh) (bi' := bi) (ed' := ed) (sz' := W4 (gc Lc rw) ((gl lh x) + 24)) (md' := 0) (bd' := 1) (li' := li) (wk' := wk) (we' := we) ms64 rfl rfl rfl rfl rfl rfl (by omega) (fun s69 ms69 fs69 => ?_)
              have gs69 := gs64.trans fs69
              refine T.go 3 (fun n9 => (rfl : _ = exe ξ n9 (d + 6) j_M_isUnread 122 [(0, .ref 137), (1, J x), (2, J (gl lh x)), (3, J (W2 (gc Lc rw) ((gl lh x) + 10))), (4, JL (W4 (gc Lc rw) ((gl lh x) + 20))), (6, JL (W4 (gc Lc rw) ((gl lh x) + 24)))] [.ref 137, J 8, .ref 137] s69)) ?_
              refine T.get rfl rfl rfl ms69.ob rfl ?_
              refine T.go 1 (fun n9 => (rfl : _ = exe ξ n9 (d + 6) j_M_isUnread 126 [(0, .ref 137), (1, J x), (2, J (gl lh x)), (3, J (W2 (gc Lc rw) ((gl lh x) + 10))), (4, JL (W4 (gc Lc rw) ((gl lh x) + 20))), (6, JL (W4 (gc Lc rw) ((gl lh x) + 24)))] [J x, .ref 143, J 8, .ref 137] s69)) ?_
              refine T.iald rfl rfl ms69.c143 (by omega) (fun z45 hzz45 hyz45 hez45 => ?_)
              have gzz45 := gl_of hez45 ⟨hzz45, hyz45⟩
              subst gzz45
              refine T.imul rfl ?_
              refine T.mput (c' := c) (io' := io) (mo' := mo) (fa' := fa) (pl' := pl) (ns' := ns) (rw' := rw) (en' := en) (wy' := wy) (wh' := wh) (bi' := 8 * (gl ld x)) (ed' := ed) (sz' := W4 (gc Lc rw) ((gl lh x) + 24)) (md' := 0) (bd' := 1) (li' := li) (wk' := wk) (we' := we) ms69 rfl rfl rfl rfl rfl rfl (by omega) (fun s70 ms70 fs70 => ?_)
              have gs70 := gs69.trans fs70
              refine T.go 2 (fun n9 => (rfl : _ = exe ξ n9 (d + 6) j_M_isUnread 133 [(0, .ref 137), (1, J x), (2, J (gl lh x)), (3, J (W2 (gc Lc rw) ((gl lh x) + 10))), (4, JL (W4 (gc Lc rw) ((gl lh x) + 20))), (6, JL (W4 (gc Lc rw) ((gl lh x) + 24)))] [.ref 137, .ref 137] s70)) ?_
              refine T.get rfl rfl rfl ms70.ob rfl ?_
              refine T.go 2 (fun n9 => (rfl : _ = exe ξ n9 (d + 6) j_M_isUnread 140 [(0, .ref 137), (1, J x), (2, J (gl lh x)), (3, J (W2 (gc Lc rw) ((gl lh x) + 10))), (4, JL (W4 (gc Lc rw) ((gl lh x) + 20))), (6, JL (W4 (gc Lc rw) ((gl lh x) + 24)))] [JL (W4 (gc Lc rw) ((gl lh x) + 20)), J 8, J (8 * (gl ld x)), .ref 137] s70)) ?_
              refine T.l2i rfl ?_
              refine T.imul rfl ?_
              refine T.iadd rfl ?_
              refine T.mput (c' := c) (io' := io) (mo' := mo) (fa' := fa) (pl' := pl) (ns' := ns) (rw' := rw) (en' := en) (wy' := wy) (wh' := wh) (bi' := 8 * (gl ld x)) (ed' := (8 * (gl ld x)) + (8 * (W4 (gc Lc rw) ((gl lh x) + 20)))) (sz' := W4 (gc Lc rw) ((gl lh x) + 24)) (md' := 0) (bd' := 1) (li' := li) (wk' := wk) (we' := we) ms70 rfl rfl rfl rfl rfl rfl (by omega) (fun s71 ms71 fs71 => ?_)
              have gs71 := gs70.trans fs71
              refine T.go 2 (fun n9 => (rfl : _ = exe ξ n9 (d + 6) j_M_isUnread 149 [(0, .ref 137), (1, J x), (2, J (gl lh x)), (3, J (W2 (gc Lc rw) ((gl lh x) + 10))), (4, JL (W4 (gc Lc rw) ((gl lh x) + 20))), (6, JL (W4 (gc Lc rw) ((gl lh x) + 24)))] [J 8, J (W2 (gc Lc rw) ((gl lh x) + 10))] s71)) ?_
              refine T.icmp_ne rfl rfl (by omega) (by omega) (fun c36 => ?_) (fun c36 => ?_)
              · refine T.go 2 (fun n9 => (rfl : _ = exe ξ n9 (d + 6) j_M_isUnread 159 [(0, .ref 137), (1, J x), (2, J (gl lh x)), (3, J (W2 (gc Lc rw) ((gl lh x) + 10))), (4, JL (W4 (gc Lc rw) ((gl lh x) + 20))), (6, JL (W4 (gc Lc rw) ((gl lh x) + 24))), (8, J 0)] [] s71)) ?_
                exact loop159 _ (gl lh x) (W2 (gc Lc rw) ((gl lh x) + 10)) (W4 (gc Lc rw) ((gl lh x) + 20)) (W4 (gc Lc rw) ((gl lh x) + 24)) 0 (8 * (gl ld x)) ((8 * (gl ld x)) + (8 * (W4 (gc Lc rw) ((gl lh x) + 20)))) (W4 (gc Lc rw) ((gl lh x) + 24)) 0 1 Lc lk s71 ms71 gs71 RG.refl (by omega) (by omega) (by omega) (by omega) (by omega) (by omega) (by omega) (by omega) (fun _ h => by rw [nmB_0]; rfl) (by omega) (fun h => absurd h (by omega)) (Nat.lt_succ_self _)
              · refine T.go 1 (fun n9 => (rfl : _ = exe ξ n9 (d + 6) j_M_isUnread 153 [(0, .ref 137), (1, J x), (2, J (gl lh x)), (3, J (W2 (gc Lc rw) ((gl lh x) + 10))), (4, JL (W4 (gc Lc rw) ((gl lh x) + 20))), (6, JL (W4 (gc Lc rw) ((gl lh x) + 24)))] [.ref 137] s71)) ?_
                refine T.callv (as := []) (r := []) rfl rfl rfl rfl ms71.ob rfl (s_M_finflate d  s71 ms71 (by omega) (by omega) (by omega) (by omega) (by omega) (by omega) (by omega) (by omega) (by omega)) (fun v33 s72 hqs72 => ?_)
                obtain ⟨bi_10, md_11, bd_11, Lc_11, lk_10, rfl, ms72, fs72, pz46_0, pz46_1, pz46_2, pz46_3⟩ := hqs72
                have ns72 := ms72.len
                have rs72 := ms72.rg
                have gs72 := gs71.trans fs72
                have rgs72 := (RG.refl (S := [4])).trans pz46_0 (by decide)
                rw [nmB_0, show 8 * gl ld x + 8 * W4 (gc Lc rw) (gl lh x + 20) = 8 * (gl ld x + W4 (gc Lc rw) (gl lh x + 20)) by omega] at pz46_3
                have ifmz46 : IFm (gc Lc rw) (8 * (gl ld x + W4 (gc Lc rw) (gl lh x + 20))) (W4 (gc Lc rw) (gl lh x + 24)) (8 * gl ld x) bd_11 md_11 (nm Lc_11 md_11) := pz46_3
                clear pz46_3
                refine T.go 2 (fun n9 => (rfl : _ = exe ξ n9 (d + 6) j_M_isUnread 159 [(0, .ref 137), (1, J x), (2, J (gl lh x)), (3, J (W2 (gc Lc rw) ((gl lh x) + 10))), (4, JL (W4 (gc Lc rw) ((gl lh x) + 20))), (6, JL (W4 (gc Lc rw) ((gl lh x) + 24))), (8, J 0)] [] s72)) ?_
                exact loop159 _ (gl lh x) (W2 (gc Lc rw) ((gl lh x) + 10)) (W4 (gc Lc rw) ((gl lh x) + 20)) (W4 (gc Lc rw) ((gl lh x) + 24)) 0 bi_10 ((8 * (gl ld x)) + (8 * (W4 (gc Lc rw) ((gl lh x) + 20)))) (W4 (gc Lc rw) ((gl lh x) + 24)) md_11 bd_11 Lc_11 lk_10 s72 ms72 gs72 rgs72 (by omega) (by omega) (by omega) (by omega) (by omega) (by omega) (by omega) (by omega) (fun h => absurd h (by omega)) (by omega) (fun _ => ifmz46) (Nat.lt_succ_self _)
            · refine T.go 1 (fun n9 => (rfl : _ = exe ξ n9 (d + 6) j_M_isUnread 114 [(0, .ref 137), (1, J x), (2, J (gl lh x)), (3, J (W2 (gc Lc rw) ((gl lh x) + 10))), (4, JL (W4 (gc Lc rw) ((gl lh x) + 20))), (6, JL (W4 (gc Lc rw) ((gl lh x) + 24)))] [.ref 137] s64)) ?_
              refine T.go 1 (fun n9 => (rfl : _ = exe ξ n9 (d + 6) j_M_isUnread 115 [(0, .ref 137), (1, J x), (2, J (gl lh x)), (3, J (W2 (gc Lc rw) ((gl lh x) + 10))), (4, JL (W4 (gc Lc rw) ((gl lh x) + 20))), (6, JL (W4 (gc Lc rw) ((gl lh x) + 24)))] [J 0, .ref 137] s64)) ?_
              refine T.mput (c' := c) (io' := io) (mo' := mo) (fa' := fa) (pl' := pl) (ns' := ns) (rw' := rw) (en' := en) (wy' := wy) (wh' := wh) (bi' := bi) (ed' := ed) (sz' := W4 (gc Lc rw) ((gl lh x) + 24)) (md' := 0) (bd' := 0) (li' := li) (wk' := wk) (we' := we) ms64 rfl rfl rfl rfl rfl rfl (by omega) (fun s73 ms73 fs73 => ?_)
              have gs73 := gs64.trans fs73
              refine T.go 3 (fun n9 => (rfl : _ = exe ξ n9 (d + 6) j_M_isUnread 122 [(0, .ref 137), (1, J x), (2, J (gl lh x)), (3, J (W2 (gc Lc rw) ((gl lh x) + 10))), (4, JL (W4 (gc Lc rw) ((gl lh x) + 20))), (6, JL (W4 (gc Lc rw) ((gl lh x) + 24)))] [.ref 137, J 8, .ref 137] s73)) ?_
              refine T.get rfl rfl rfl ms73.ob rfl ?_
              refine T.go 1 (fun n9 => (rfl : _ = exe ξ n9 (d + 6) j_M_isUnread 126 [(0, .ref 137), (1, J x), (2, J (gl lh x)), (3, J (W2 (gc Lc rw) ((gl lh x) + 10))), (4, JL (W4 (gc Lc rw) ((gl lh x) + 20))), (6, JL (W4 (gc Lc rw) ((gl lh x) + 24)))] [J x, .ref 143, J 8, .ref 137] s73)) ?_
              refine T.iald rfl rfl ms73.c143 (by omega) (fun z47 hzz47 hyz47 hez47 => ?_)
              have gzz47 := gl_of hez47 ⟨hzz47, hyz47⟩
              subst gzz47
              refine T.imul rfl ?_
              refine T.mput (c' := c) (io' := io) (mo' := mo) (fa' := fa) (pl' := pl) (ns' := ns) (rw' := rw) (en' := en) (wy' := wy) (wh' := wh) (bi' := 8 * (gl ld x)) (ed' := ed) (sz' := W4 (gc Lc rw) ((gl lh x) + 24)) (md' := 0) (bd' := 0) (li' := li) (wk' := wk) (we' := we) ms73 rfl rfl rfl rfl rfl rfl (by omega) (fun s74 ms74 fs74 => ?_)
              have gs74 := gs73.trans fs74
              refine T.go 2 (fun n9 => (rfl : _ = exe ξ n9 (d + 6) j_M_isUnread 133 [(0, .ref 137), (1, J x), (2, J (gl lh x)), (3, J (W2 (gc Lc rw) ((gl lh x) + 10))), (4, JL (W4 (gc Lc rw) ((gl lh x) + 20))), (6, JL (W4 (gc Lc rw) ((gl lh x) + 24)))] [.ref 137, .ref 137] s74)) ?_
              refine T.get rfl rfl rfl ms74.ob rfl ?_
              refine T.go 2 (fun n9 => (rfl : _ = exe ξ n9 (d + 6) j_M_isUnread 140 [(0, .ref 137), (1, J x), (2, J (gl lh x)), (3, J (W2 (gc Lc rw) ((gl lh x) + 10))), (4, JL (W4 (gc Lc rw) ((gl lh x) + 20))), (6, JL (W4 (gc Lc rw) ((gl lh x) + 24)))] [JL (W4 (gc Lc rw) ((gl lh x) + 20)), J 8, J (8 * (gl ld x)), .ref 137] s74)) ?_
              refine T.l2i rfl ?_
              refine T.imul rfl ?_
              refine T.iadd rfl ?_
              refine T.mput (c' := c) (io' := io) (mo' := mo) (fa' := fa) (pl' := pl) (ns' := ns) (rw' := rw) (en' := en) (wy' := wy) (wh' := wh) (bi' := 8 * (gl ld x)) (ed' := (8 * (gl ld x)) + (8 * (W4 (gc Lc rw) ((gl lh x) + 20)))) (sz' := W4 (gc Lc rw) ((gl lh x) + 24)) (md' := 0) (bd' := 0) (li' := li) (wk' := wk) (we' := we) ms74 rfl rfl rfl rfl rfl rfl (by omega) (fun s75 ms75 fs75 => ?_)
              have gs75 := gs74.trans fs75
              refine T.go 2 (fun n9 => (rfl : _ = exe ξ n9 (d + 6) j_M_isUnread 149 [(0, .ref 137), (1, J x), (2, J (gl lh x)), (3, J (W2 (gc Lc rw) ((gl lh x) + 10))), (4, JL (W4 (gc Lc rw) ((gl lh x) + 20))), (6, JL (W4 (gc Lc rw) ((gl lh x) + 24)))] [J 8, J (W2 (gc Lc rw) ((gl lh x) + 10))] s75)) ?_
              refine T.icmp_ne rfl rfl (by omega) (by omega) (fun c37 => ?_) (fun c37 => ?_)
              · refine T.go 2 (fun n9 => (rfl : _ = exe ξ n9 (d + 6) j_M_isUnread 159 [(0, .ref 137), (1, J x), (2, J (gl lh x)), (3, J (W2 (gc Lc rw) ((gl lh x) + 10))), (4, JL (W4 (gc Lc rw) ((gl lh x) + 20))), (6, JL (W4 (gc Lc rw) ((gl lh x) + 24))), (8, J 0)] [] s75)) ?_
                exact loop159 _ (gl lh x) (W2 (gc Lc rw) ((gl lh x) + 10)) (W4 (gc Lc rw) ((gl lh x) + 20)) (W4 (gc Lc rw) ((gl lh x) + 24)) 0 (8 * (gl ld x)) ((8 * (gl ld x)) + (8 * (W4 (gc Lc rw) ((gl lh x) + 20)))) (W4 (gc Lc rw) ((gl lh x) + 24)) 0 0 Lc lk s75 ms75 gs75 RG.refl (by omega) (by omega) (by omega) (by omega) (by omega) (by omega) (by omega) (by omega) (fun _ h => by rw [nmB_0]; rfl) (by omega) (fun h => absurd h (by omega)) (Nat.lt_succ_self _)
              · refine T.go 1 (fun n9 => (rfl : _ = exe ξ n9 (d + 6) j_M_isUnread 153 [(0, .ref 137), (1, J x), (2, J (gl lh x)), (3, J (W2 (gc Lc rw) ((gl lh x) + 10))), (4, JL (W4 (gc Lc rw) ((gl lh x) + 20))), (6, JL (W4 (gc Lc rw) ((gl lh x) + 24)))] [.ref 137] s75)) ?_
                refine T.callv (as := []) (r := []) rfl rfl rfl rfl ms75.ob rfl (s_M_finflate d  s75 ms75 (by omega) (by omega) (by omega) (by omega) (by omega) (by omega) (by omega) (by omega) (by omega)) (fun v34 s76 hqs76 => ?_)
                obtain ⟨bi_11, md_12, bd_12, Lc_12, lk_11, rfl, ms76, fs76, pz48_0, pz48_1, pz48_2, pz48_3⟩ := hqs76
                have ns76 := ms76.len
                have rs76 := ms76.rg
                have gs76 := gs75.trans fs76
                have rgs76 := (RG.refl (S := [4])).trans pz48_0 (by decide)
                rw [nmB_0, show 8 * gl ld x + 8 * W4 (gc Lc rw) (gl lh x + 20) = 8 * (gl ld x + W4 (gc Lc rw) (gl lh x + 20)) by omega] at pz48_3
                have ifmz48 : IFm (gc Lc rw) (8 * (gl ld x + W4 (gc Lc rw) (gl lh x + 20))) (W4 (gc Lc rw) (gl lh x + 24)) (8 * gl ld x) bd_12 md_12 (nm Lc_12 md_12) := pz48_3
                clear pz48_3
                refine T.go 2 (fun n9 => (rfl : _ = exe ξ n9 (d + 6) j_M_isUnread 159 [(0, .ref 137), (1, J x), (2, J (gl lh x)), (3, J (W2 (gc Lc rw) ((gl lh x) + 10))), (4, JL (W4 (gc Lc rw) ((gl lh x) + 20))), (6, JL (W4 (gc Lc rw) ((gl lh x) + 24))), (8, J 0)] [] s76)) ?_
                exact loop159 _ (gl lh x) (W2 (gc Lc rw) ((gl lh x) + 10)) (W4 (gc Lc rw) ((gl lh x) + 20)) (W4 (gc Lc rw) ((gl lh x) + 24)) 0 bi_11 ((8 * (gl ld x)) + (8 * (W4 (gc Lc rw) ((gl lh x) + 20)))) (W4 (gc Lc rw) ((gl lh x) + 24)) md_12 bd_12 Lc_12 lk_11 s76 ms76 gs76 rgs76 (by omega) (by omega) (by omega) (by omega) (by omega) (by omega) (by omega) (by omega) (fun h => absurd h (by omega)) (by omega) (fun _ => ifmz48) (Nat.lt_succ_self _)
            · refine T.go 1 (fun n9 => (rfl : _ = exe ξ n9 (d + 6) j_M_isUnread 110 [(0, .ref 137), (1, J x), (2, J (gl lh x)), (3, J (W2 (gc Lc rw) ((gl lh x) + 10))), (4, JL (W4 (gc Lc rw) ((gl lh x) + 20))), (6, JL (W4 (gc Lc rw) ((gl lh x) + 24)))] [.ref 137] s64)) ?_
              refine T.go 2 (fun n9 => (rfl : _ = exe ξ n9 (d + 6) j_M_isUnread 115 [(0, .ref 137), (1, J x), (2, J (gl lh x)), (3, J (W2 (gc Lc rw) ((gl lh x) + 10))), (4, JL (W4 (gc Lc rw) ((gl lh x) + 20))), (6, JL (W4 (gc Lc rw) ((gl lh x) + 24)))] [J 1, .ref 137] s64)) ?_
              refine T.mput (c' := c) (io' := io) (mo' := mo) (fa' := fa) (pl' := pl) (ns' := ns) (rw' := rw) (en' := en) (wy' := wy) (wh' := wh) (bi' := bi) (ed' := ed) (sz' := W4 (gc Lc rw) ((gl lh x) + 24)) (md' := 0) (bd' := 1) (li' := li) (wk' := wk) (we' := we) ms64 rfl rfl rfl rfl rfl rfl (by omega) (fun s77 ms77 fs77 => ?_)
              have gs77 := gs64.trans fs77
              refine T.go 3 (fun n9 => (rfl : _ = exe ξ n9 (d + 6) j_M_isUnread 122 [(0, .ref 137), (1, J x), (2, J (gl lh x)), (3, J (W2 (gc Lc rw) ((gl lh x) + 10))), (4, JL (W4 (gc Lc rw) ((gl lh x) + 20))), (6, JL (W4 (gc Lc rw) ((gl lh x) + 24)))] [.ref 137, J 8, .ref 137] s77)) ?_
              refine T.get rfl rfl rfl ms77.ob rfl ?_
              refine T.go 1 (fun n9 => (rfl : _ = exe ξ n9 (d + 6) j_M_isUnread 126 [(0, .ref 137), (1, J x), (2, J (gl lh x)), (3, J (W2 (gc Lc rw) ((gl lh x) + 10))), (4, JL (W4 (gc Lc rw) ((gl lh x) + 20))), (6, JL (W4 (gc Lc rw) ((gl lh x) + 24)))] [J x, .ref 143, J 8, .ref 137] s77)) ?_
              refine T.iald rfl rfl ms77.c143 (by omega) (fun z49 hzz49 hyz49 hez49 => ?_)
              have gzz49 := gl_of hez49 ⟨hzz49, hyz49⟩
              subst gzz49
              refine T.imul rfl ?_
              refine T.mput (c' := c) (io' := io) (mo' := mo) (fa' := fa) (pl' := pl) (ns' := ns) (rw' := rw) (en' := en) (wy' := wy) (wh' := wh) (bi' := 8 * (gl ld x)) (ed' := ed) (sz' := W4 (gc Lc rw) ((gl lh x) + 24)) (md' := 0) (bd' := 1) (li' := li) (wk' := wk) (we' := we) ms77 rfl rfl rfl rfl rfl rfl (by omega) (fun s78 ms78 fs78 => ?_)
              have gs78 := gs77.trans fs78
              refine T.go 2 (fun n9 => (rfl : _ = exe ξ n9 (d + 6) j_M_isUnread 133 [(0, .ref 137), (1, J x), (2, J (gl lh x)), (3, J (W2 (gc Lc rw) ((gl lh x) + 10))), (4, JL (W4 (gc Lc rw) ((gl lh x) + 20))), (6, JL (W4 (gc Lc rw) ((gl lh x) + 24)))] [.ref 137, .ref 137] s78)) ?_
              refine T.get rfl rfl rfl ms78.ob rfl ?_
              refine T.go 2 (fun n9 => (rfl : _ = exe ξ n9 (d + 6) j_M_isUnread 140 [(0, .ref 137), (1, J x), (2, J (gl lh x)), (3, J (W2 (gc Lc rw) ((gl lh x) + 10))), (4, JL (W4 (gc Lc rw) ((gl lh x) + 20))), (6, JL (W4 (gc Lc rw) ((gl lh x) + 24)))] [JL (W4 (gc Lc rw) ((gl lh x) + 20)), J 8, J (8 * (gl ld x)), .ref 137] s78)) ?_
              refine T.l2i rfl ?_
              refine T.imul rfl ?_
              refine T.iadd rfl ?_
              refine T.mput (c' := c) (io' := io) (mo' := mo) (fa' := fa) (pl' := pl) (ns' := ns) (rw' := rw) (en' := en) (wy' := wy) (wh' := wh) (bi' := 8 * (gl ld x)) (ed' := (8 * (gl ld x)) + (8 * (W4 (gc Lc rw) ((gl lh x) + 20)))) (sz' := W4 (gc Lc rw) ((gl lh x) + 24)) (md' := 0) (bd' := 1) (li' := li) (wk' := wk) (we' := we) ms78 rfl rfl rfl rfl rfl rfl (by omega) (fun s79 ms79 fs79 => ?_)
              have gs79 := gs78.trans fs79
              refine T.go 2 (fun n9 => (rfl : _ = exe ξ n9 (d + 6) j_M_isUnread 149 [(0, .ref 137), (1, J x), (2, J (gl lh x)), (3, J (W2 (gc Lc rw) ((gl lh x) + 10))), (4, JL (W4 (gc Lc rw) ((gl lh x) + 20))), (6, JL (W4 (gc Lc rw) ((gl lh x) + 24)))] [J 8, J (W2 (gc Lc rw) ((gl lh x) + 10))] s79)) ?_
              refine T.icmp_ne rfl rfl (by omega) (by omega) (fun c38 => ?_) (fun c38 => ?_)
              · refine T.go 2 (fun n9 => (rfl : _ = exe ξ n9 (d + 6) j_M_isUnread 159 [(0, .ref 137), (1, J x), (2, J (gl lh x)), (3, J (W2 (gc Lc rw) ((gl lh x) + 10))), (4, JL (W4 (gc Lc rw) ((gl lh x) + 20))), (6, JL (W4 (gc Lc rw) ((gl lh x) + 24))), (8, J 0)] [] s79)) ?_
                exact loop159 _ (gl lh x) (W2 (gc Lc rw) ((gl lh x) + 10)) (W4 (gc Lc rw) ((gl lh x) + 20)) (W4 (gc Lc rw) ((gl lh x) + 24)) 0 (8 * (gl ld x)) ((8 * (gl ld x)) + (8 * (W4 (gc Lc rw) ((gl lh x) + 20)))) (W4 (gc Lc rw) ((gl lh x) + 24)) 0 1 Lc lk s79 ms79 gs79 RG.refl (by omega) (by omega) (by omega) (by omega) (by omega) (by omega) (by omega) (by omega) (fun _ h => by rw [nmB_0]; rfl) (by omega) (fun h => absurd h (by omega)) (Nat.lt_succ_self _)
              · refine T.go 1 (fun n9 => (rfl : _ = exe ξ n9 (d + 6) j_M_isUnread 153 [(0, .ref 137), (1, J x), (2, J (gl lh x)), (3, J (W2 (gc Lc rw) ((gl lh x) + 10))), (4, JL (W4 (gc Lc rw) ((gl lh x) + 20))), (6, JL (W4 (gc Lc rw) ((gl lh x) + 24)))] [.ref 137] s79)) ?_
                refine T.callv (as := []) (r := []) rfl rfl rfl rfl ms79.ob rfl (s_M_finflate d  s79 ms79 (by omega) (by omega) (by omega) (by omega) (by omega) (by omega) (by omega) (by omega) (by omega)) (fun v35 s80 hqs80 => ?_)
                obtain ⟨bi_12, md_13, bd_13, Lc_13, lk_12, rfl, ms80, fs80, pz50_0, pz50_1, pz50_2, pz50_3⟩ := hqs80
                have ns80 := ms80.len
                have rs80 := ms80.rg
                have gs80 := gs79.trans fs80
                have rgs80 := (RG.refl (S := [4])).trans pz50_0 (by decide)
                rw [nmB_0, show 8 * gl ld x + 8 * W4 (gc Lc rw) (gl lh x + 20) = 8 * (gl ld x + W4 (gc Lc rw) (gl lh x + 20)) by omega] at pz50_3
                have ifmz50 : IFm (gc Lc rw) (8 * (gl ld x + W4 (gc Lc rw) (gl lh x + 20))) (W4 (gc Lc rw) (gl lh x + 24)) (8 * gl ld x) bd_13 md_13 (nm Lc_13 md_13) := pz50_3
                clear pz50_3
                refine T.go 2 (fun n9 => (rfl : _ = exe ξ n9 (d + 6) j_M_isUnread 159 [(0, .ref 137), (1, J x), (2, J (gl lh x)), (3, J (W2 (gc Lc rw) ((gl lh x) + 10))), (4, JL (W4 (gc Lc rw) ((gl lh x) + 20))), (6, JL (W4 (gc Lc rw) ((gl lh x) + 24))), (8, J 0)] [] s80)) ?_
                exact loop159 _ (gl lh x) (W2 (gc Lc rw) ((gl lh x) + 10)) (W4 (gc Lc rw) ((gl lh x) + 20)) (W4 (gc Lc rw) ((gl lh x) + 24)) 0 bi_12 ((8 * (gl ld x)) + (8 * (W4 (gc Lc rw) ((gl lh x) + 20)))) (W4 (gc Lc rw) ((gl lh x) + 24)) md_13 bd_13 Lc_13 lk_12 s80 ms80 gs80 rgs80 (by omega) (by omega) (by omega) (by omega) (by omega) (by omega) (by omega) (by omega) (fun h => absurd h (by omega)) (by omega) (fun _ => ifmz50) (Nat.lt_succ_self _)
        · refine T.go 1 (fun n9 => (rfl : _ = exe ξ n9 (d + 6) j_M_isUnread 85 [(0, .ref 137), (1, J x), (2, J (gl lh x)), (3, J (W2 (gc Lc rw) ((gl lh x) + 10))), (4, JL (W4 (gc Lc rw) ((gl lh x) + 20))), (6, JL (W4 (gc Lc rw) ((gl lh x) + 24)))] [] σ)) ?_
          refine T.go 2 (fun n9 => (rfl : _ = exe ξ n9 (d + 6) j_M_isUnread 88 [(0, .ref 137), (1, J x), (2, J (gl lh x)), (3, J (W2 (gc Lc rw) ((gl lh x) + 10))), (4, JL (W4 (gc Lc rw) ((gl lh x) + 20))), (6, JL (W4 (gc Lc rw) ((gl lh x) + 24)))] [JL (W4 (gc Lc rw) ((gl lh x) + 24)), .ref 137] σ)) ?_
          refine T.l2i rfl ?_
          refine T.mput (c' := c) (io' := io) (mo' := mo) (fa' := fa) (pl' := pl) (ns' := ns) (rw' := rw) (en' := en) (wy' := wy) (wh' := wh) (bi' := bi) (ed' := ed) (sz' := W4 (gc Lc rw) ((gl lh x) + 24)) (md' := md) (bd' := bd) (li' := li) (wk' := wk) (we' := we) hM rfl rfl rfl rfl rfl rfl (by omega) (fun s81 ms81 fs81 => ?_)
          refine T.go 2 (fun n9 => (rfl : _ = exe ξ n9 (d + 6) j_M_isUnread 94 [(0, .ref 137), (1, J x), (2, J (gl lh x)), (3, J (W2 (gc Lc rw) ((gl lh x) + 10))), (4, JL (W4 (gc Lc rw) ((gl lh x) + 20))), (6, JL (W4 (gc Lc rw) ((gl lh x) + 24)))] [J 0, .ref 137] s81)) ?_
          refine T.mput (c' := c) (io' := io) (mo' := mo) (fa' := fa) (pl' := pl) (ns' := ns) (rw' := rw) (en' := en) (wy' := wy) (wh' := wh) (bi' := bi) (ed' := ed) (sz' := W4 (gc Lc rw) ((gl lh x) + 24)) (md' := 0) (bd' := bd) (li' := li) (wk' := wk) (we' := we) ms81 rfl rfl rfl rfl rfl rfl (by omega) (fun s82 ms82 fs82 => ?_)
          have gs82 := fs81.trans fs82
          refine T.go 2 (fun n9 => (rfl : _ = exe ξ n9 (d + 6) j_M_isUnread 99 [(0, .ref 137), (1, J x), (2, J (gl lh x)), (3, J (W2 (gc Lc rw) ((gl lh x) + 10))), (4, JL (W4 (gc Lc rw) ((gl lh x) + 20))), (6, JL (W4 (gc Lc rw) ((gl lh x) + 24)))] [J (W2 (gc Lc rw) ((gl lh x) + 10)), .ref 137] s82)) ?_
          refine T.if_ne rfl rfl (by omega) (fun c39 => ?_) (fun c39 => ?_)
          · refine T.go 1 (fun n9 => (rfl : _ = exe ξ n9 (d + 6) j_M_isUnread 115 [(0, .ref 137), (1, J x), (2, J (gl lh x)), (3, J (W2 (gc Lc rw) ((gl lh x) + 10))), (4, JL (W4 (gc Lc rw) ((gl lh x) + 20))), (6, JL (W4 (gc Lc rw) ((gl lh x) + 24)))] [J 0, .ref 137] s82)) ?_
            refine T.mput (c' := c) (io' := io) (mo' := mo) (fa' := fa) (pl' := pl) (ns' := ns) (rw' := rw) (en' := en) (wy' := wy) (wh' := wh) (bi' := bi) (ed' := ed) (sz' := W4 (gc Lc rw) ((gl lh x) + 24)) (md' := 0) (bd' := 0) (li' := li) (wk' := wk) (we' := we) ms82 rfl rfl rfl rfl rfl rfl (by omega) (fun s83 ms83 fs83 => ?_)
            have gs83 := gs82.trans fs83
            refine T.go 3 (fun n9 => (rfl : _ = exe ξ n9 (d + 6) j_M_isUnread 122 [(0, .ref 137), (1, J x), (2, J (gl lh x)), (3, J (W2 (gc Lc rw) ((gl lh x) + 10))), (4, JL (W4 (gc Lc rw) ((gl lh x) + 20))), (6, JL (W4 (gc Lc rw) ((gl lh x) + 24)))] [.ref 137, J 8, .ref 137] s83)) ?_
            refine T.get rfl rfl rfl ms83.ob rfl ?_
            refine T.go 1 (fun n9 => (rfl : _ = exe ξ n9 (d + 6) j_M_isUnread 126 [(0, .ref 137), (1, J x), (2, J (gl lh x)), (3, J (W2 (gc Lc rw) ((gl lh x) + 10))), (4, JL (W4 (gc Lc rw) ((gl lh x) + 20))), (6, JL (W4 (gc Lc rw) ((gl lh x) + 24)))] [J x, .ref 143, J 8, .ref 137] s83)) ?_
            refine T.iald rfl rfl ms83.c143 (by omega) (fun z51 hzz51 hyz51 hez51 => ?_)
            have gzz51 := gl_of hez51 ⟨hzz51, hyz51⟩
            subst gzz51
            refine T.imul rfl ?_
            refine T.mput (c' := c) (io' := io) (mo' := mo) (fa' := fa) (pl' := pl) (ns' := ns) (rw' := rw) (en' := en) (wy' := wy) (wh' := wh) (bi' := 8 * (gl ld x)) (ed' := ed) (sz' := W4 (gc Lc rw) ((gl lh x) + 24)) (md' := 0) (bd' := 0) (li' := li) (wk' := wk) (we' := we) ms83 rfl rfl rfl rfl rfl rfl (by omega) (fun s84 ms84 fs84 => ?_)
            have gs84 := gs83.trans fs84
            refine T.go 2 (fun n9 => (rfl : _ = exe ξ n9 (d + 6) j_M_isUnread 133 [(0, .ref 137), (1, J x), (2, J (gl lh x)), (3, J (W2 (gc Lc rw) ((gl lh x) + 10))), (4, JL (W4 (gc Lc rw) ((gl lh x) + 20))), (6, JL (W4 (gc Lc rw) ((gl lh x) + 24)))] [.ref 137, .ref 137] s84)) ?_
            refine T.get rfl rfl rfl ms84.ob rfl ?_
            refine T.go 2 (fun n9 => (rfl : _ = exe ξ n9 (d + 6) j_M_isUnread 140 [(0, .ref 137), (1, J x), (2, J (gl lh x)), (3, J (W2 (gc Lc rw) ((gl lh x) + 10))), (4, JL (W4 (gc Lc rw) ((gl lh x) + 20))), (6, JL (W4 (gc Lc rw) ((gl lh x) + 24)))] [JL (W4 (gc Lc rw) ((gl lh x) + 20)), J 8, J (8 * (gl ld x)), .ref 137] s84)) ?_
            refine T.l2i rfl ?_
            refine T.imul rfl ?_
            refine T.iadd rfl ?_
            refine T.mput (c' := c) (io' := io) (mo' := mo) (fa' := fa) (pl' := pl) (ns' := ns) (rw' := rw) (en' := en) (wy' := wy) (wh' := wh) (bi' := 8 * (gl ld x)) (ed' := (8 * (gl ld x)) + (8 * (W4 (gc Lc rw) ((gl lh x) + 20)))) (sz' := W4 (gc Lc rw) ((gl lh x) + 24)) (md' := 0) (bd' := 0) (li' := li) (wk' := wk) (we' := we) ms84 rfl rfl rfl rfl rfl rfl (by omega) (fun s85 ms85 fs85 => ?_)
            have gs85 := gs84.trans fs85
            refine T.go 2 (fun n9 => (rfl : _ = exe ξ n9 (d + 6) j_M_isUnread 149 [(0, .ref 137), (1, J x), (2, J (gl lh x)), (3, J (W2 (gc Lc rw) ((gl lh x) + 10))), (4, JL (W4 (gc Lc rw) ((gl lh x) + 20))), (6, JL (W4 (gc Lc rw) ((gl lh x) + 24)))] [J 8, J (W2 (gc Lc rw) ((gl lh x) + 10))] s85)) ?_
            refine T.icmp_ne rfl rfl (by omega) (by omega) (fun c40 => ?_) (fun c40 => ?_)
            · refine T.go 2 (fun n9 => (rfl : _ = exe ξ n9 (d + 6) j_M_isUnread 159 [(0, .ref 137), (1, J x), (2, J (gl lh x)), (3, J (W2 (gc Lc rw) ((gl lh x) + 10))), (4, JL (W4 (gc Lc rw) ((gl lh x) + 20))), (6, JL (W4 (gc Lc rw) ((gl lh x) + 24))), (8, J 0)] [] s85)) ?_
              exact loop159 _ (gl lh x) (W2 (gc Lc rw) ((gl lh x) + 10)) (W4 (gc Lc rw) ((gl lh x) + 20)) (W4 (gc Lc rw) ((gl lh x) + 24)) 0 (8 * (gl ld x)) ((8 * (gl ld x)) + (8 * (W4 (gc Lc rw) ((gl lh x) + 20)))) (W4 (gc Lc rw) ((gl lh x) + 24)) 0 0 Lc lk s85 ms85 gs85 RG.refl (by omega) (by omega) (by omega) (by omega) (by omega) (by omega) (by omega) (by omega) (fun _ h => by rw [nmB_0]; rfl) (by omega) (fun h => absurd h (by omega)) (Nat.lt_succ_self _)
            · refine T.go 1 (fun n9 => (rfl : _ = exe ξ n9 (d + 6) j_M_isUnread 153 [(0, .ref 137), (1, J x), (2, J (gl lh x)), (3, J (W2 (gc Lc rw) ((gl lh x) + 10))), (4, JL (W4 (gc Lc rw) ((gl lh x) + 20))), (6, JL (W4 (gc Lc rw) ((gl lh x) + 24)))] [.ref 137] s85)) ?_
              refine T.callv (as := []) (r := []) rfl rfl rfl rfl ms85.ob rfl (s_M_finflate d  s85 ms85 (by omega) (by omega) (by omega) (by omega) (by omega) (by omega) (by omega) (by omega) (by omega)) (fun v36 s86 hqs86 => ?_)
              obtain ⟨bi_13, md_14, bd_14, Lc_14, lk_13, rfl, ms86, fs86, pz52_0, pz52_1, pz52_2, pz52_3⟩ := hqs86
              have ns86 := ms86.len
              have rs86 := ms86.rg
              have gs86 := gs85.trans fs86
              have rgs86 := (RG.refl (S := [4])).trans pz52_0 (by decide)
              rw [nmB_0, show 8 * gl ld x + 8 * W4 (gc Lc rw) (gl lh x + 20) = 8 * (gl ld x + W4 (gc Lc rw) (gl lh x + 20)) by omega] at pz52_3
              have ifmz52 : IFm (gc Lc rw) (8 * (gl ld x + W4 (gc Lc rw) (gl lh x + 20))) (W4 (gc Lc rw) (gl lh x + 24)) (8 * gl ld x) bd_14 md_14 (nm Lc_14 md_14) := pz52_3
              clear pz52_3
              refine T.go 2 (fun n9 => (rfl : _ = exe ξ n9 (d + 6) j_M_isUnread 159 [(0, .ref 137), (1, J x), (2, J (gl lh x)), (3, J (W2 (gc Lc rw) ((gl lh x) + 10))), (4, JL (W4 (gc Lc rw) ((gl lh x) + 20))), (6, JL (W4 (gc Lc rw) ((gl lh x) + 24))), (8, J 0)] [] s86)) ?_
              exact loop159 _ (gl lh x) (W2 (gc Lc rw) ((gl lh x) + 10)) (W4 (gc Lc rw) ((gl lh x) + 20)) (W4 (gc Lc rw) ((gl lh x) + 24)) 0 bi_13 ((8 * (gl ld x)) + (8 * (W4 (gc Lc rw) ((gl lh x) + 20)))) (W4 (gc Lc rw) ((gl lh x) + 24)) md_14 bd_14 Lc_14 lk_13 s86 ms86 gs86 rgs86 (by omega) (by omega) (by omega) (by omega) (by omega) (by omega) (by omega) (by omega) (fun h => absurd h (by omega)) (by omega) (fun _ => ifmz52) (Nat.lt_succ_self _)
          · refine T.go 2 (fun n9 => (rfl : _ = exe ξ n9 (d + 6) j_M_isUnread 106 [(0, .ref 137), (1, J x), (2, J (gl lh x)), (3, J (W2 (gc Lc rw) ((gl lh x) + 10))), (4, JL (W4 (gc Lc rw) ((gl lh x) + 20))), (6, JL (W4 (gc Lc rw) ((gl lh x) + 24)))] [JL (W4 (gc Lc rw) ((gl lh x) + 24)), JL (W4 (gc Lc rw) ((gl lh x) + 20)), .ref 137] s82)) ?_
            refine T.lcmp rfl (by omega) (by omega) (fun c41 => ?_) (fun c41 => ?_) (fun c41 => ?_)
            · refine T.go 1 (fun n9 => (rfl : _ = exe ξ n9 (d + 6) j_M_isUnread 110 [(0, .ref 137), (1, J x), (2, J (gl lh x)), (3, J (W2 (gc Lc rw) ((gl lh x) + 10))), (4, JL (W4 (gc Lc rw) ((gl lh x) + 20))), (6, JL (W4 (gc Lc rw) ((gl lh x) + 24)))] [.ref 137] s82)) ?_
              refine T.go 2 (fun n9 => (rfl : _ = exe ξ n9 (d + 6) j_M_isUnread 115 [(0, .ref 137), (1, J x), (2, J (gl lh x)), (3, J (W2 (gc Lc rw) ((gl lh x) + 10))), (4, JL (W4 (gc Lc rw) ((gl lh x) + 20))), (6, JL (W4 (gc Lc rw) ((gl lh x) + 24)))] [J 1, .ref 137] s82)) ?_
              refine T.mput (c' := c) (io' := io) (mo' := mo) (fa' := fa) (pl' := pl) (ns' := ns) (rw' := rw) (en' := en) (wy' := wy) (wh' := wh) (bi' := bi) (ed' := ed) (sz' := W4 (gc Lc rw) ((gl lh x) + 24)) (md' := 0) (bd' := 1) (li' := li) (wk' := wk) (we' := we) ms82 rfl rfl rfl rfl rfl rfl (by omega) (fun s87 ms87 fs87 => ?_)
              have gs87 := gs82.trans fs87
              refine T.go 3 (fun n9 => (rfl : _ = exe ξ n9 (d + 6) j_M_isUnread 122 [(0, .ref 137), (1, J x), (2, J (gl lh x)), (3, J (W2 (gc Lc rw) ((gl lh x) + 10))), (4, JL (W4 (gc Lc rw) ((gl lh x) + 20))), (6, JL (W4 (gc Lc rw) ((gl lh x) + 24)))] [.ref 137, J 8, .ref 137] s87)) ?_
              refine T.get rfl rfl rfl ms87.ob rfl ?_
              refine T.go 1 (fun n9 => (rfl : _ = exe ξ n9 (d + 6) j_M_isUnread 126 [(0, .ref 137), (1, J x), (2, J (gl lh x)), (3, J (W2 (gc Lc rw) ((gl lh x) + 10))), (4, JL (W4 (gc Lc rw) ((gl lh x) + 20))), (6, JL (W4 (gc Lc rw) ((gl lh x) + 24)))] [J x, .ref 143, J 8, .ref 137] s87)) ?_
              refine T.iald rfl rfl ms87.c143 (by omega) (fun z53 hzz53 hyz53 hez53 => ?_)
              have gzz53 := gl_of hez53 ⟨hzz53, hyz53⟩
              subst gzz53
              refine T.imul rfl ?_
              refine T.mput (c' := c) (io' := io) (mo' := mo) (fa' := fa) (pl' := pl) (ns' := ns) (rw' := rw) (en' := en) (wy' := wy) (wh' := wh) (bi' := 8 * (gl ld x)) (ed' := ed) (sz' := W4 (gc Lc rw) ((gl lh x) + 24)) (md' := 0) (bd' := 1) (li' := li) (wk' := wk) (we' := we) ms87 rfl rfl rfl rfl rfl rfl (by omega) (fun s88 ms88 fs88 => ?_)
              have gs88 := gs87.trans fs88
              refine T.go 2 (fun n9 => (rfl : _ = exe ξ n9 (d + 6) j_M_isUnread 133 [(0, .ref 137), (1, J x), (2, J (gl lh x)), (3, J (W2 (gc Lc rw) ((gl lh x) + 10))), (4, JL (W4 (gc Lc rw) ((gl lh x) + 20))), (6, JL (W4 (gc Lc rw) ((gl lh x) + 24)))] [.ref 137, .ref 137] s88)) ?_
              refine T.get rfl rfl rfl ms88.ob rfl ?_
              refine T.go 2 (fun n9 => (rfl : _ = exe ξ n9 (d + 6) j_M_isUnread 140 [(0, .ref 137), (1, J x), (2, J (gl lh x)), (3, J (W2 (gc Lc rw) ((gl lh x) + 10))), (4, JL (W4 (gc Lc rw) ((gl lh x) + 20))), (6, JL (W4 (gc Lc rw) ((gl lh x) + 24)))] [JL (W4 (gc Lc rw) ((gl lh x) + 20)), J 8, J (8 * (gl ld x)), .ref 137] s88)) ?_
              refine T.l2i rfl ?_
              refine T.imul rfl ?_
              refine T.iadd rfl ?_
              refine T.mput (c' := c) (io' := io) (mo' := mo) (fa' := fa) (pl' := pl) (ns' := ns) (rw' := rw) (en' := en) (wy' := wy) (wh' := wh) (bi' := 8 * (gl ld x)) (ed' := (8 * (gl ld x)) + (8 * (W4 (gc Lc rw) ((gl lh x) + 20)))) (sz' := W4 (gc Lc rw) ((gl lh x) + 24)) (md' := 0) (bd' := 1) (li' := li) (wk' := wk) (we' := we) ms88 rfl rfl rfl rfl rfl rfl (by omega) (fun s89 ms89 fs89 => ?_)
              have gs89 := gs88.trans fs89
              refine T.go 2 (fun n9 => (rfl : _ = exe ξ n9 (d + 6) j_M_isUnread 149 [(0, .ref 137), (1, J x), (2, J (gl lh x)), (3, J (W2 (gc Lc rw) ((gl lh x) + 10))), (4, JL (W4 (gc Lc rw) ((gl lh x) + 20))), (6, JL (W4 (gc Lc rw) ((gl lh x) + 24)))] [J 8, J (W2 (gc Lc rw) ((gl lh x) + 10))] s89)) ?_
              refine T.icmp_ne rfl rfl (by omega) (by omega) (fun c42 => ?_) (fun c42 => ?_)
              · refine T.go 2 (fun n9 => (rfl : _ = exe ξ n9 (d + 6) j_M_isUnread 159 [(0, .ref 137), (1, J x), (2, J (gl lh x)), (3, J (W2 (gc Lc rw) ((gl lh x) + 10))), (4, JL (W4 (gc Lc rw) ((gl lh x) + 20))), (6, JL (W4 (gc Lc rw) ((gl lh x) + 24))), (8, J 0)] [] s89)) ?_
                exact loop159 _ (gl lh x) (W2 (gc Lc rw) ((gl lh x) + 10)) (W4 (gc Lc rw) ((gl lh x) + 20)) (W4 (gc Lc rw) ((gl lh x) + 24)) 0 (8 * (gl ld x)) ((8 * (gl ld x)) + (8 * (W4 (gc Lc rw) ((gl lh x) + 20)))) (W4 (gc Lc rw) ((gl lh x) + 24)) 0 1 Lc lk s89 ms89 gs89 RG.refl (by omega) (by omega) (by omega) (by omega) (by omega) (by omega) (by omega) (by omega) (fun _ h => by rw [nmB_0]; rfl) (by omega) (fun h => absurd h (by omega)) (Nat.lt_succ_self _)
              · refine T.go 1 (fun n9 => (rfl : _ = exe ξ n9 (d + 6) j_M_isUnread 153 [(0, .ref 137), (1, J x), (2, J (gl lh x)), (3, J (W2 (gc Lc rw) ((gl lh x) + 10))), (4, JL (W4 (gc Lc rw) ((gl lh x) + 20))), (6, JL (W4 (gc Lc rw) ((gl lh x) + 24)))] [.ref 137] s89)) ?_
                refine T.callv (as := []) (r := []) rfl rfl rfl rfl ms89.ob rfl (s_M_finflate d  s89 ms89 (by omega) (by omega) (by omega) (by omega) (by omega) (by omega) (by omega) (by omega) (by omega)) (fun v37 s90 hqs90 => ?_)
                obtain ⟨bi_14, md_15, bd_15, Lc_15, lk_14, rfl, ms90, fs90, pz54_0, pz54_1, pz54_2, pz54_3⟩ := hqs90
                have ns90 := ms90.len
                have rs90 := ms90.rg
                have gs90 := gs89.trans fs90
                have rgs90 := (RG.refl (S := [4])).trans pz54_0 (by decide)
                rw [nmB_0, show 8 * gl ld x + 8 * W4 (gc Lc rw) (gl lh x + 20) = 8 * (gl ld x + W4 (gc Lc rw) (gl lh x + 20)) by omega] at pz54_3
                have ifmz54 : IFm (gc Lc rw) (8 * (gl ld x + W4 (gc Lc rw) (gl lh x + 20))) (W4 (gc Lc rw) (gl lh x + 24)) (8 * gl ld x) bd_15 md_15 (nm Lc_15 md_15) := pz54_3
                clear pz54_3
                refine T.go 2 (fun n9 => (rfl : _ = exe ξ n9 (d + 6) j_M_isUnread 159 [(0, .ref 137), (1, J x), (2, J (gl lh x)), (3, J (W2 (gc Lc rw) ((gl lh x) + 10))), (4, JL (W4 (gc Lc rw) ((gl lh x) + 20))), (6, JL (W4 (gc Lc rw) ((gl lh x) + 24))), (8, J 0)] [] s90)) ?_
                exact loop159 _ (gl lh x) (W2 (gc Lc rw) ((gl lh x) + 10)) (W4 (gc Lc rw) ((gl lh x) + 20)) (W4 (gc Lc rw) ((gl lh x) + 24)) 0 bi_14 ((8 * (gl ld x)) + (8 * (W4 (gc Lc rw) ((gl lh x) + 20)))) (W4 (gc Lc rw) ((gl lh x) + 24)) md_15 bd_15 Lc_15 lk_14 s90 ms90 gs90 rgs90 (by omega) (by omega) (by omega) (by omega) (by omega) (by omega) (by omega) (by omega) (fun h => absurd h (by omega)) (by omega) (fun _ => ifmz54) (Nat.lt_succ_self _)
            · refine T.go 1 (fun n9 => (rfl : _ = exe ξ n9 (d + 6) j_M_isUnread 114 [(0, .ref 137), (1, J x), (2, J (gl lh x)), (3, J (W2 (gc Lc rw) ((gl lh x) + 10))), (4, JL (W4 (gc Lc rw) ((gl lh x) + 20))), (6, JL (W4 (gc Lc rw) ((gl lh x) + 24)))] [.ref 137] s82)) ?_
              refine T.go 1 (fun n9 => (rfl : _ = exe ξ n9 (d + 6) j_M_isUnread 115 [(0, .ref 137), (1, J x), (2, J (gl lh x)), (3, J (W2 (gc Lc rw) ((gl lh x) + 10))), (4, JL (W4 (gc Lc rw) ((gl lh x) + 20))), (6, JL (W4 (gc Lc rw) ((gl lh x) + 24)))] [J 0, .ref 137] s82)) ?_
              refine T.mput (c' := c) (io' := io) (mo' := mo) (fa' := fa) (pl' := pl) (ns' := ns) (rw' := rw) (en' := en) (wy' := wy) (wh' := wh) (bi' := bi) (ed' := ed) (sz' := W4 (gc Lc rw) ((gl lh x) + 24)) (md' := 0) (bd' := 0) (li' := li) (wk' := wk) (we' := we) ms82 rfl rfl rfl rfl rfl rfl (by omega) (fun s91 ms91 fs91 => ?_)
              have gs91 := gs82.trans fs91
              refine T.go 3 (fun n9 => (rfl : _ = exe ξ n9 (d + 6) j_M_isUnread 122 [(0, .ref 137), (1, J x), (2, J (gl lh x)), (3, J (W2 (gc Lc rw) ((gl lh x) + 10))), (4, JL (W4 (gc Lc rw) ((gl lh x) + 20))), (6, JL (W4 (gc Lc rw) ((gl lh x) + 24)))] [.ref 137, J 8, .ref 137] s91)) ?_
              refine T.get rfl rfl rfl ms91.ob rfl ?_
              refine T.go 1 (fun n9 => (rfl : _ = exe ξ n9 (d + 6) j_M_isUnread 126 [(0, .ref 137), (1, J x), (2, J (gl lh x)), (3, J (W2 (gc Lc rw) ((gl lh x) + 10))), (4, JL (W4 (gc Lc rw) ((gl lh x) + 20))), (6, JL (W4 (gc Lc rw) ((gl lh x) + 24)))] [J x, .ref 143, J 8, .ref 137] s91)) ?_
              refine T.iald rfl rfl ms91.c143 (by omega) (fun z55 hzz55 hyz55 hez55 => ?_)
              have gzz55 := gl_of hez55 ⟨hzz55, hyz55⟩
              subst gzz55
              refine T.imul rfl ?_
              refine T.mput (c' := c) (io' := io) (mo' := mo) (fa' := fa) (pl' := pl) (ns' := ns) (rw' := rw) (en' := en) (wy' := wy) (wh' := wh) (bi' := 8 * (gl ld x)) (ed' := ed) (sz' := W4 (gc Lc rw) ((gl lh x) + 24)) (md' := 0) (bd' := 0) (li' := li) (wk' := wk) (we' := we) ms91 rfl rfl rfl rfl rfl rfl (by omega) (fun s92 ms92 fs92 => ?_)
              have gs92 := gs91.trans fs92
              refine T.go 2 (fun n9 => (rfl : _ = exe ξ n9 (d + 6) j_M_isUnread 133 [(0, .ref 137), (1, J x), (2, J (gl lh x)), (3, J (W2 (gc Lc rw) ((gl lh x) + 10))), (4, JL (W4 (gc Lc rw) ((gl lh x) + 20))), (6, JL (W4 (gc Lc rw) ((gl lh x) + 24)))] [.ref 137, .ref 137] s92)) ?_
              refine T.get rfl rfl rfl ms92.ob rfl ?_
              refine T.go 2 (fun n9 => (rfl : _ = exe ξ n9 (d + 6) j_M_isUnread 140 [(0, .ref 137), (1, J x), (2, J (gl lh x)), (3, J (W2 (gc Lc rw) ((gl lh x) + 10))), (4, JL (W4 (gc Lc rw) ((gl lh x) + 20))), (6, JL (W4 (gc Lc rw) ((gl lh x) + 24)))] [JL (W4 (gc Lc rw) ((gl lh x) + 20)), J 8, J (8 * (gl ld x)), .ref 137] s92)) ?_
              refine T.l2i rfl ?_
              refine T.imul rfl ?_
              refine T.iadd rfl ?_
              refine T.mput (c' := c) (io' := io) (mo' := mo) (fa' := fa) (pl' := pl) (ns' := ns) (rw' := rw) (en' := en) (wy' := wy) (wh' := wh) (bi' := 8 * (gl ld x)) (ed' := (8 * (gl ld x)) + (8 * (W4 (gc Lc rw) ((gl lh x) + 20)))) (sz' := W4 (gc Lc rw) ((gl lh x) + 24)) (md' := 0) (bd' := 0) (li' := li) (wk' := wk) (we' := we) ms92 rfl rfl rfl rfl rfl rfl (by omega) (fun s93 ms93 fs93 => ?_)
              have gs93 := gs92.trans fs93
              refine T.go 2 (fun n9 => (rfl : _ = exe ξ n9 (d + 6) j_M_isUnread 149 [(0, .ref 137), (1, J x), (2, J (gl lh x)), (3, J (W2 (gc Lc rw) ((gl lh x) + 10))), (4, JL (W4 (gc Lc rw) ((gl lh x) + 20))), (6, JL (W4 (gc Lc rw) ((gl lh x) + 24)))] [J 8, J (W2 (gc Lc rw) ((gl lh x) + 10))] s93)) ?_
              refine T.icmp_ne rfl rfl (by omega) (by omega) (fun c43 => ?_) (fun c43 => ?_)
              · refine T.go 2 (fun n9 => (rfl : _ = exe ξ n9 (d + 6) j_M_isUnread 159 [(0, .ref 137), (1, J x), (2, J (gl lh x)), (3, J (W2 (gc Lc rw) ((gl lh x) + 10))), (4, JL (W4 (gc Lc rw) ((gl lh x) + 20))), (6, JL (W4 (gc Lc rw) ((gl lh x) + 24))), (8, J 0)] [] s93)) ?_
                exact loop159 _ (gl lh x) (W2 (gc Lc rw) ((gl lh x) + 10)) (W4 (gc Lc rw) ((gl lh x) + 20)) (W4 (gc Lc rw) ((gl lh x) + 24)) 0 (8 * (gl ld x)) ((8 * (gl ld x)) + (8 * (W4 (gc Lc rw) ((gl lh x) + 20)))) (W4 (gc Lc rw) ((gl lh x) + 24)) 0 0 Lc lk s93 ms93 gs93 RG.refl (by omega) (by omega) (by omega) (by omega) (by omega) (by omega) (by omega) (by omega) (fun _ h => by rw [nmB_0]; rfl) (by omega) (fun h => absurd h (by omega)) (Nat.lt_succ_self _)
              · refine T.go 1 (fun n9 => (rfl : _ = exe ξ n9 (d + 6) j_M_isUnread 153 [(0, .ref 137), (1, J x), (2, J (gl lh x)), (3, J (W2 (gc Lc rw) ((gl lh x) + 10))), (4, JL (W4 (gc Lc rw) ((gl lh x) + 20))), (6, JL (W4 (gc Lc rw) ((gl lh x) + 24)))] [.ref 137] s93)) ?_
                refine T.callv (as := []) (r := []) rfl rfl rfl rfl ms93.ob rfl (s_M_finflate d  s93 ms93 (by omega) (by omega) (by omega) (by omega) (by omega) (by omega) (by omega) (by omega) (by omega)) (fun v38 s94 hqs94 => ?_)
                obtain ⟨bi_15, md_16, bd_16, Lc_16, lk_15, rfl, ms94, fs94, pz56_0, pz56_1, pz56_2, pz56_3⟩ := hqs94
                have ns94 := ms94.len
                have rs94 := ms94.rg
                have gs94 := gs93.trans fs94
                have rgs94 := (RG.refl (S := [4])).trans pz56_0 (by decide)
                rw [nmB_0, show 8 * gl ld x + 8 * W4 (gc Lc rw) (gl lh x + 20) = 8 * (gl ld x + W4 (gc Lc rw) (gl lh x + 20)) by omega] at pz56_3
                have ifmz56 : IFm (gc Lc rw) (8 * (gl ld x + W4 (gc Lc rw) (gl lh x + 20))) (W4 (gc Lc rw) (gl lh x + 24)) (8 * gl ld x) bd_16 md_16 (nm Lc_16 md_16) := pz56_3
                clear pz56_3
                refine T.go 2 (fun n9 => (rfl : _ = exe ξ n9 (d + 6) j_M_isUnread 159 [(0, .ref 137), (1, J x), (2, J (gl lh x)), (3, J (W2 (gc Lc rw) ((gl lh x) + 10))), (4, JL (W4 (gc Lc rw) ((gl lh x) + 20))), (6, JL (W4 (gc Lc rw) ((gl lh x) + 24))), (8, J 0)] [] s94)) ?_
                exact loop159 _ (gl lh x) (W2 (gc Lc rw) ((gl lh x) + 10)) (W4 (gc Lc rw) ((gl lh x) + 20)) (W4 (gc Lc rw) ((gl lh x) + 24)) 0 bi_15 ((8 * (gl ld x)) + (8 * (W4 (gc Lc rw) ((gl lh x) + 20)))) (W4 (gc Lc rw) ((gl lh x) + 24)) md_16 bd_16 Lc_16 lk_15 s94 ms94 gs94 rgs94 (by omega) (by omega) (by omega) (by omega) (by omega) (by omega) (by omega) (by omega) (fun h => absurd h (by omega)) (by omega) (fun _ => ifmz56) (Nat.lt_succ_self _)
            · refine T.go 1 (fun n9 => (rfl : _ = exe ξ n9 (d + 6) j_M_isUnread 110 [(0, .ref 137), (1, J x), (2, J (gl lh x)), (3, J (W2 (gc Lc rw) ((gl lh x) + 10))), (4, JL (W4 (gc Lc rw) ((gl lh x) + 20))), (6, JL (W4 (gc Lc rw) ((gl lh x) + 24)))] [.ref 137] s82)) ?_
              refine T.go 2 (fun n9 => (rfl : _ = exe ξ n9 (d + 6) j_M_isUnread 115 [(0, .ref 137), (1, J x), (2, J (gl lh x)), (3, J (W2 (gc Lc rw) ((gl lh x) + 10))), (4, JL (W4 (gc Lc rw) ((gl lh x) + 20))), (6, JL (W4 (gc Lc rw) ((gl lh x) + 24)))] [J 1, .ref 137] s82)) ?_
              refine T.mput (c' := c) (io' := io) (mo' := mo) (fa' := fa) (pl' := pl) (ns' := ns) (rw' := rw) (en' := en) (wy' := wy) (wh' := wh) (bi' := bi) (ed' := ed) (sz' := W4 (gc Lc rw) ((gl lh x) + 24)) (md' := 0) (bd' := 1) (li' := li) (wk' := wk) (we' := we) ms82 rfl rfl rfl rfl rfl rfl (by omega) (fun s95 ms95 fs95 => ?_)
              have gs95 := gs82.trans fs95
              refine T.go 3 (fun n9 => (rfl : _ = exe ξ n9 (d + 6) j_M_isUnread 122 [(0, .ref 137), (1, J x), (2, J (gl lh x)), (3, J (W2 (gc Lc rw) ((gl lh x) + 10))), (4, JL (W4 (gc Lc rw) ((gl lh x) + 20))), (6, JL (W4 (gc Lc rw) ((gl lh x) + 24)))] [.ref 137, J 8, .ref 137] s95)) ?_
              refine T.get rfl rfl rfl ms95.ob rfl ?_
              refine T.go 1 (fun n9 => (rfl : _ = exe ξ n9 (d + 6) j_M_isUnread 126 [(0, .ref 137), (1, J x), (2, J (gl lh x)), (3, J (W2 (gc Lc rw) ((gl lh x) + 10))), (4, JL (W4 (gc Lc rw) ((gl lh x) + 20))), (6, JL (W4 (gc Lc rw) ((gl lh x) + 24)))] [J x, .ref 143, J 8, .ref 137] s95)) ?_
              refine T.iald rfl rfl ms95.c143 (by omega) (fun z57 hzz57 hyz57 hez57 => ?_)
              have gzz57 := gl_of hez57 ⟨hzz57, hyz57⟩
              subst gzz57
              refine T.imul rfl ?_
              refine T.mput (c' := c) (io' := io) (mo' := mo) (fa' := fa) (pl' := pl) (ns' := ns) (rw' := rw) (en' := en) (wy' := wy) (wh' := wh) (bi' := 8 * (gl ld x)) (ed' := ed) (sz' := W4 (gc Lc rw) ((gl lh x) + 24)) (md' := 0) (bd' := 1) (li' := li) (wk' := wk) (we' := we) ms95 rfl rfl rfl rfl rfl rfl (by omega) (fun s96 ms96 fs96 => ?_)
              have gs96 := gs95.trans fs96
              refine T.go 2 (fun n9 => (rfl : _ = exe ξ n9 (d + 6) j_M_isUnread 133 [(0, .ref 137), (1, J x), (2, J (gl lh x)), (3, J (W2 (gc Lc rw) ((gl lh x) + 10))), (4, JL (W4 (gc Lc rw) ((gl lh x) + 20))), (6, JL (W4 (gc Lc rw) ((gl lh x) + 24)))] [.ref 137, .ref 137] s96)) ?_
              refine T.get rfl rfl rfl ms96.ob rfl ?_
              refine T.go 2 (fun n9 => (rfl : _ = exe ξ n9 (d + 6) j_M_isUnread 140 [(0, .ref 137), (1, J x), (2, J (gl lh x)), (3, J (W2 (gc Lc rw) ((gl lh x) + 10))), (4, JL (W4 (gc Lc rw) ((gl lh x) + 20))), (6, JL (W4 (gc Lc rw) ((gl lh x) + 24)))] [JL (W4 (gc Lc rw) ((gl lh x) + 20)), J 8, J (8 * (gl ld x)), .ref 137] s96)) ?_
              refine T.l2i rfl ?_
              refine T.imul rfl ?_
              refine T.iadd rfl ?_
              refine T.mput (c' := c) (io' := io) (mo' := mo) (fa' := fa) (pl' := pl) (ns' := ns) (rw' := rw) (en' := en) (wy' := wy) (wh' := wh) (bi' := 8 * (gl ld x)) (ed' := (8 * (gl ld x)) + (8 * (W4 (gc Lc rw) ((gl lh x) + 20)))) (sz' := W4 (gc Lc rw) ((gl lh x) + 24)) (md' := 0) (bd' := 1) (li' := li) (wk' := wk) (we' := we) ms96 rfl rfl rfl rfl rfl rfl (by omega) (fun s97 ms97 fs97 => ?_)
              have gs97 := gs96.trans fs97
              refine T.go 2 (fun n9 => (rfl : _ = exe ξ n9 (d + 6) j_M_isUnread 149 [(0, .ref 137), (1, J x), (2, J (gl lh x)), (3, J (W2 (gc Lc rw) ((gl lh x) + 10))), (4, JL (W4 (gc Lc rw) ((gl lh x) + 20))), (6, JL (W4 (gc Lc rw) ((gl lh x) + 24)))] [J 8, J (W2 (gc Lc rw) ((gl lh x) + 10))] s97)) ?_
              refine T.icmp_ne rfl rfl (by omega) (by omega) (fun c44 => ?_) (fun c44 => ?_)
              · refine T.go 2 (fun n9 => (rfl : _ = exe ξ n9 (d + 6) j_M_isUnread 159 [(0, .ref 137), (1, J x), (2, J (gl lh x)), (3, J (W2 (gc Lc rw) ((gl lh x) + 10))), (4, JL (W4 (gc Lc rw) ((gl lh x) + 20))), (6, JL (W4 (gc Lc rw) ((gl lh x) + 24))), (8, J 0)] [] s97)) ?_
                exact loop159 _ (gl lh x) (W2 (gc Lc rw) ((gl lh x) + 10)) (W4 (gc Lc rw) ((gl lh x) + 20)) (W4 (gc Lc rw) ((gl lh x) + 24)) 0 (8 * (gl ld x)) ((8 * (gl ld x)) + (8 * (W4 (gc Lc rw) ((gl lh x) + 20)))) (W4 (gc Lc rw) ((gl lh x) + 24)) 0 1 Lc lk s97 ms97 gs97 RG.refl (by omega) (by omega) (by omega) (by omega) (by omega) (by omega) (by omega) (by omega) (fun _ h => by rw [nmB_0]; rfl) (by omega) (fun h => absurd h (by omega)) (Nat.lt_succ_self _)
              · refine T.go 1 (fun n9 => (rfl : _ = exe ξ n9 (d + 6) j_M_isUnread 153 [(0, .ref 137), (1, J x), (2, J (gl lh x)), (3, J (W2 (gc Lc rw) ((gl lh x) + 10))), (4, JL (W4 (gc Lc rw) ((gl lh x) + 20))), (6, JL (W4 (gc Lc rw) ((gl lh x) + 24)))] [.ref 137] s97)) ?_
                refine T.callv (as := []) (r := []) rfl rfl rfl rfl ms97.ob rfl (s_M_finflate d  s97 ms97 (by omega) (by omega) (by omega) (by omega) (by omega) (by omega) (by omega) (by omega) (by omega)) (fun v39 s98 hqs98 => ?_)
                obtain ⟨bi_16, md_17, bd_17, Lc_17, lk_16, rfl, ms98, fs98, pz58_0, pz58_1, pz58_2, pz58_3⟩ := hqs98
                have ns98 := ms98.len
                have rs98 := ms98.rg
                have gs98 := gs97.trans fs98
                have rgs98 := (RG.refl (S := [4])).trans pz58_0 (by decide)
                rw [nmB_0, show 8 * gl ld x + 8 * W4 (gc Lc rw) (gl lh x + 20) = 8 * (gl ld x + W4 (gc Lc rw) (gl lh x + 20)) by omega] at pz58_3
                have ifmz58 : IFm (gc Lc rw) (8 * (gl ld x + W4 (gc Lc rw) (gl lh x + 20))) (W4 (gc Lc rw) (gl lh x + 24)) (8 * gl ld x) bd_17 md_17 (nm Lc_17 md_17) := pz58_3
                clear pz58_3
                refine T.go 2 (fun n9 => (rfl : _ = exe ξ n9 (d + 6) j_M_isUnread 159 [(0, .ref 137), (1, J x), (2, J (gl lh x)), (3, J (W2 (gc Lc rw) ((gl lh x) + 10))), (4, JL (W4 (gc Lc rw) ((gl lh x) + 20))), (6, JL (W4 (gc Lc rw) ((gl lh x) + 24))), (8, J 0)] [] s98)) ?_
                exact loop159 _ (gl lh x) (W2 (gc Lc rw) ((gl lh x) + 10)) (W4 (gc Lc rw) ((gl lh x) + 20)) (W4 (gc Lc rw) ((gl lh x) + 24)) 0 bi_16 ((8 * (gl ld x)) + (8 * (W4 (gc Lc rw) ((gl lh x) + 20)))) (W4 (gc Lc rw) ((gl lh x) + 24)) md_17 bd_17 Lc_17 lk_16 s98 ms98 gs98 rgs98 (by omega) (by omega) (by omega) (by omega) (by omega) (by omega) (by omega) (by omega) (fun h => absurd h (by omega)) (by omega) (fun _ => ifmz58) (Nat.lt_succ_self _)
        · refine T.go 1 (fun n9 => (rfl : _ = exe ξ n9 (d + 6) j_M_isUnread 77 [(0, .ref 137), (1, J x), (2, J (gl lh x)), (3, J (W2 (gc Lc rw) ((gl lh x) + 10))), (4, JL (W4 (gc Lc rw) ((gl lh x) + 20))), (6, JL (W4 (gc Lc rw) ((gl lh x) + 24)))] [] σ)) ?_
          refine T.go 3 (fun n9 => (rfl : _ = exe ξ n9 (d + 6) j_M_isUnread 81 [(0, .ref 137), (1, J x), (2, J (gl lh x)), (3, J (W2 (gc Lc rw) ((gl lh x) + 10))), (4, JL (W4 (gc Lc rw) ((gl lh x) + 20))), (6, JL (W4 (gc Lc rw) ((gl lh x) + 24)))] [J x, J 7, .ref 137] σ)) ?_
          refine T.callv (as := [J 7, J x]) (r := []) rfl rfl rfl rfl hM.ob rfl (s_M_isWrong (d + 5) 7 x σ hM (by omega) (by omega)) (fun v40 s99 hqs99 => ?_)
          obtain ⟨z59, wy_12, wh_12, rfl, ms99, fs99, hzz59, hyz59⟩ := hqs99
          have ns99 := ms99.len
          have rs99 := ms99.rg
          exact T.iretz rfl rfl (by omega) ⟨_, wy_12, wh_12, bi, ed, sz, md, bd, Lc, la, lk, rfl, ms99, fs99, by omega, by omega, RG.refl, LG.refl, (fun h => absurd h (by omega)), (fun _ o => RD_7 (by omega))⟩
      · refine T.go 3 (fun n9 => (rfl : _ = exe ξ n9 (d + 6) j_M_isUnread 64 [(0, .ref 137), (1, J x), (2, J (gl lh x)), (3, J (W2 (gc Lc rw) ((gl lh x) + 10))), (4, JL (W4 (gc Lc rw) ((gl lh x) + 20))), (6, JL (W4 (gc Lc rw) ((gl lh x) + 24)))] [J x, J 6, .ref 137] σ)) ?_
        refine T.callv (as := [J 6, J x]) (r := []) rfl rfl rfl rfl hM.ob rfl (s_M_isWrong (d + 5) 6 x σ hM (by omega) (by omega)) (fun v41 s100 hqs100 => ?_)
        obtain ⟨z60, wy_13, wh_13, rfl, ms100, fs100, hzz60, hyz60⟩ := hqs100
        have ns100 := ms100.len
        have rs100 := ms100.rg
        exact T.iretz rfl rfl (by omega) ⟨_, wy_13, wh_13, bi, ed, sz, md, bd, Lc, la, lk, rfl, ms100, fs100, by omega, by omega, RG.refl, LG.refl, (fun h => absurd h (by omega)), (fun _ o => RD_6 (by omega))⟩
