set_option maxHeartbeats 4000000 in
theorem s_M_copyRow {ξ : Nat → Option (Nat × List Int32)} {c io mo fa pl ns rw en wy wh bi ed sz md bd li wk we : Int} {Lc : List Int64} {la lm ln lh ld lk lt : List Int32} (d : Nat) (x : Int) (y : Int) (σ : qH) (hM : MS σ c io mo fa pl ns rw en wy wh bi ed sz md bd li wk we Lc la lm ln lh ld lk lt) (rx : -2147483648 ≤ x ∧ x ≤ 2147483647) (ry : -2147483648 ≤ y ∧ y ≤ 2147483647) (pre0 : 0 ≤ x) (pre1 : x ≤ 6) (pre2 : 0 ≤ y) (pre3 : y ≤ 6) (pre4 : x ≠ y) : T ξ d j_M_copyRow 0 (lv_args 0 [.ref 137, J x, J y]) [] σ (fun v σ' => ∃ (Lc1 : List Int64) (la1 : List Int32), v = none ∧ MS σ' c io mo fa pl ns rw en wy wh bi ed sz md bd li wk we Lc1 la1 lm ln lh ld lk lt ∧ FM σ σ' ∧ RG [y] Lc Lc1 ∧ LG [y] la la1 ∧ gc Lc1 y = gc Lc x ∧ gl la1 y = gl la x) := by
  have r0 := hM.rg
  have n0 := hM.len
  have loop2 : ∀ (f2 : Nat) (k : Int) (Lc9 : List Int64) (τ : qH), MS τ c io mo fa pl ns rw en wy wh bi ed sz md bd li wk we Lc9 la lm ln lh ld lk lt → FM σ τ → 0 ≤ k → k ≤ 1000 → CP x y k Lc Lc9 → (1000 - k).toNat < f2 → T ξ d j_M_copyRow 2 [(0, .ref 137), (1, J x), (2, J y), (3, J k)] [] τ (fun v σ' => ∃ (Lc1 : List Int64) (la1 : List Int32), v = none ∧ MS σ' c io mo fa pl ns rw en wy wh bi ed sz md bd li wk we Lc1 la1 lm ln lh ld lk lt ∧ FM σ σ' ∧ RG [y] Lc Lc1 ∧ LG [y] la la1 ∧ gc Lc1 y = gc Lc x ∧ gl la1 y = gl la x) := by
    intro f2
    induction f2 with
    | zero => intro k Lc9 τ mτ fτ i0 i1 i2 hm2; omega
    | succ f2 ih2 =>
      intro k Lc9 τ mτ fτ i0 i1 i2 hm2
      have rτ := mτ.rg
      have nτ := mτ.len
      refine T.go 2 (fun n9 => (rfl : _ = exe ξ n9 d j_M_copyRow 6 [(0, .ref 137), (1, J x), (2, J y), (3, J k)] [J 1000, J k] τ)) ?_
      refine T.icmp_ge rfl rfl (by omega) (by omega) (fun c1 => ?_) (fun c1 => ?_)
      · refine T.go 1 (fun n9 => (rfl : _ = exe ξ n9 d j_M_copyRow 40 [(0, .ref 137), (1, J x), (2, J y), (3, J k)] [.ref 137] τ)) ?_
        refine T.get rfl rfl rfl mτ.ob rfl ?_
        refine T.go 2 (fun n9 => (rfl : _ = exe ξ n9 d j_M_copyRow 45 [(0, .ref 137), (1, J x), (2, J y), (3, J k)] [.ref 137, J y, .ref 139] τ)) ?_
        refine T.get rfl rfl rfl mτ.ob rfl ?_
        refine T.go 1 (fun n9 => (rfl : _ = exe ξ n9 d j_M_copyRow 49 [(0, .ref 137), (1, J x), (2, J y), (3, J k)] [J x, .ref 139, J y, .ref 139] τ)) ?_
        refine T.iald rfl rfl mτ.c139 (by omega) (fun z1 hzz1 hyz1 hez1 => ?_)
        have hbz1 := mτ.b139.at hez1 ⟨hzz1, hyz1⟩
        have gzz1 := gl_of hez1 ⟨hzz1, hyz1⟩
        subst gzz1
        refine T.mast139 mτ rfl (by omega) (by omega) (fun s1 ms1 fs1 => ?_)
        have ns1 := ms1.len
        have gs1 := fτ.trans fs1
        have gss1 : ∀ j : Int, 0 ≤ j → gl (la.set (y : Int).toNat (Int32.ofInt (gl la x))) j = if j = y then gl la x else gl la j := fun j hj => gl_set ⟨by omega, by omega⟩ ⟨by omega, by omega⟩ hj
        have ges1 : gl (la.set (y : Int).toNat (Int32.ofInt (gl la x))) y = gl la x := (gss1 y (by omega)).trans (if_pos rfl)
        exact T.vret rfl rfl ⟨Lc9, (la.set (y : Int).toNat (Int32.ofInt (gl la x))), rfl, ms1, gs1, i2.1.rg, (LG.set List.mem_cons_self (by omega)), (i2.gc (by omega)), ges1⟩
      · refine T.go 1 (fun n9 => (rfl : _ = exe ξ n9 d j_M_copyRow 10 [(0, .ref 137), (1, J x), (2, J y), (3, J k)] [.ref 137] τ)) ?_
        refine T.get rfl rfl rfl mτ.ob rfl ?_
        refine T.go 2 (fun n9 => (rfl : _ = exe ξ n9 d j_M_copyRow 17 [(0, .ref 137), (1, J x), (2, J y), (3, J k)] [J y, J 1000, .ref 138] τ)) ?_
        refine T.imul rfl ?_
        refine T.go 1 (fun n9 => (rfl : _ = exe ξ n9 d j_M_copyRow 19 [(0, .ref 137), (1, J x), (2, J y), (3, J k)] [J k, J (1000 * y), .ref 138] τ)) ?_
        refine T.iadd rfl ?_
        refine T.go 1 (fun n9 => (rfl : _ = exe ξ n9 d j_M_copyRow 21 [(0, .ref 137), (1, J x), (2, J y), (3, J k)] [.ref 137, J ((1000 * y) + k), .ref 138] τ)) ?_
        refine T.get rfl rfl rfl mτ.ob rfl ?_
        refine T.go 2 (fun n9 => (rfl : _ = exe ξ n9 d j_M_copyRow 28 [(0, .ref 137), (1, J x), (2, J y), (3, J k)] [J x, J 1000, .ref 138, J ((1000 * y) + k), .ref 138] τ)) ?_
        refine T.imul rfl ?_
        refine T.go 1 (fun n9 => (rfl : _ = exe ξ n9 d j_M_copyRow 30 [(0, .ref 137), (1, J x), (2, J y), (3, J k)] [J k, J (1000 * x), .ref 138, J ((1000 * y) + k), .ref 138] τ)) ?_
        refine T.iadd rfl ?_
        refine T.lald rfl mτ.c138 (by omega) (fun z2 hzz2 hyz2 hez2 => ?_)
        refine T.mlast mτ rfl (by omega) (fun s2 ms2 fs2 => ?_)
        have ns2 := ms2.len
        have gs2 := fτ.trans fs2
        refine T.iinc (lv' := [(0, .ref 137), (1, J x), (2, J y), (3, J (k + 1))]) rfl rfl rfl rfl ?_
        refine T.go 1 (fun n9 => (rfl : _ = exe ξ n9 d j_M_copyRow 2 [(0, .ref 137), (1, J x), (2, J y), (3, J (k + 1))] [] s2)) ?_
        exact ih2  (k + 1) (Lc9.set ((1000 * y) + k : Int).toNat (Int64.ofInt z2)) s2 ms2 gs2 (by omega) (by omega) (CP.step i2 (by omega) (by omega) (by omega) (by omega) (by omega) hez2) (by omega)
  refine T.go 2 (fun n9 => (rfl : _ = exe ξ n9 d j_M_copyRow 2 [(0, .ref 137), (1, J x), (2, J y), (3, J 0)] [] σ)) ?_
  exact loop2 _ 0 Lc σ hM FM.refl (by omega) (by omega) CP.zero (Nat.lt_succ_self _)

set_option maxHeartbeats 4000000 in
theorem s_M_take {ξ : Nat → Option (Nat × List Int32)} {c io mo fa pl ns rw en wy wh bi ed sz md bd li wk we : Int} {Lc : List Int64} {la lm ln lh ld lk lt : List Int32} (d : Nat) (x : Int) (σ : qH) (hM : MS σ c io mo fa pl ns rw en wy wh bi ed sz md bd li wk we Lc la lm ln lh ld lk lt) (rx : -2147483648 ≤ x ∧ x ≤ 2147483647) (pre0 : 0 ≤ x) (pre1 : x ≤ 16) (pre2 : 0 ≤ bi) (pre3 : bi ≤ ed) (pre4 : ed ≤ 64000) (pre5 : ed % 8 = 0) : T ξ (d + 1) j_M_take 0 (lv_args 0 [.ref 137, J x]) [] σ (fun v σ' => ∃ (z : Int) (bi1 : Int) (bd1 : Int), v = some (J z) ∧ MS σ' c io mo fa pl ns rw en wy wh bi1 ed sz md bd1 li wk we Lc la lm ln lh ld lk lt ∧ FM σ σ' ∧ 0 ≤ z ∧ z ≤ 65535 ∧ bi ≤ bi1 ∧ bi1 ≤ ed ∧ bd ≤ bd1 ∧ z < P2 x ∧ (1 ≤ x → (bi + 1 ≤ bi1 ∨ bd1 = 1))) := by
  have r0 := hM.rg
  have n0 := hM.len
  have e2_0 : P2 0 = 1 := by decide
  have ex := P2_le (k := x) (by omega)
  have loop4 : ∀ (f4 : Nat) (v : Int) (k : Int) (bi9 : Int) (bd9 : Int) (τ : qH), MS τ c io mo fa pl ns rw en wy wh bi9 ed sz md bd9 li wk we Lc la lm ln lh ld lk lt → FM σ τ → 0 ≤ k → k ≤ x → 0 ≤ v → v < P2 k → bi ≤ bi9 → bi9 ≤ ed → bd ≤ bd9 → (1 ≤ k → bi + 1 ≤ bi9) → (x - k).toNat < f4 → T ξ (d + 1) j_M_take 4 [(0, .ref 137), (1, J x), (2, J v), (3, J k)] [] τ (fun v σ' => ∃ (z : Int) (bi1 : Int) (bd1 : Int), v = some (J z) ∧ MS σ' c io mo fa pl ns rw en wy wh bi1 ed sz md bd1 li wk we Lc la lm ln lh ld lk lt ∧ FM σ σ' ∧ 0 ≤ z ∧ z ≤ 65535 ∧ bi ≤ bi1 ∧ bi1 ≤ ed ∧ bd ≤ bd1 ∧ z < P2 x ∧ (1 ≤ x → (bi + 1 ≤ bi1 ∨ bd1 = 1))) := by
    intro f4
    induction f4 with
    | zero => intro v k bi9 bd9 τ mτ fτ i0 i1 i2 i3 i4 i5 i6 i7 hm4; omega
    | succ f4 ih4 =>
      intro v k bi9 bd9 τ mτ fτ i0 i1 i2 i3 i4 i5 i6 i7 hm4
      have rτ := mτ.rg
      have nτ := mτ.len
      have ek := P2_le (k := k) (by omega)
      have es := P2_s (k := k) (by omega)
      refine T.go 2 (fun n9 => (rfl : _ = exe ξ n9 (d + 1) j_M_take 6 [(0, .ref 137), (1, J x), (2, J v), (3, J k)] [J x, J k] τ)) ?_
      refine T.icmp_ge rfl rfl (by omega) (by omega) (fun c1 => ?_) (fun c1 => ?_)
      · refine T.go 1 (fun n9 => (rfl : _ = exe ξ n9 (d + 1) j_M_take 92 [(0, .ref 137), (1, J x), (2, J v), (3, J k)] [J v] τ)) ?_
        exact T.ireti rfl rfl ⟨_, bi9, bd9, rfl, mτ, fτ, by omega, by omega, by omega, by omega, by omega, (by first | omega | (have e9 : k = x := (by omega); rw [← e9]; omega)), by omega⟩
      · refine T.go 2 (fun n9 => (rfl : _ = exe ξ n9 (d + 1) j_M_take 11 [(0, .ref 137), (1, J x), (2, J v), (3, J k)] [.ref 137, .ref 137] τ)) ?_
        refine T.get rfl rfl rfl mτ.ob rfl ?_
        refine T.if_ne rfl rfl (by omega) (fun c2 => ?_) (fun c2 => ?_)
        · refine T.go 2 (fun n9 => (rfl : _ = exe ξ n9 (d + 1) j_M_take 33 [(0, .ref 137), (1, J x), (2, J v), (3, J k)] [J 1, .ref 137] τ)) ?_
          refine T.mput (c' := c) (io' := io) (mo' := mo) (fa' := fa) (pl' := pl) (ns' := ns) (rw' := rw) (en' := en) (wy' := wy) (wh' := wh) (bi' := bi9) (ed' := ed) (sz' := sz) (md' := md) (bd' := 1) (li' := li) (wk' := wk) (we' := we) mτ rfl rfl rfl rfl rfl rfl (by omega) (fun s1 ms1 fs1 => ?_)
          have gs1 := fτ.trans fs1
          refine T.go 1 (fun n9 => (rfl : _ = exe ξ n9 (d + 1) j_M_take 37 [(0, .ref 137), (1, J x), (2, J v), (3, J k)] [.ref 137] s1)) ?_
          refine T.get rfl rfl rfl ms1.ob rfl ?_
          refine T.go 2 (fun n9 => (rfl : _ = exe ξ n9 (d + 1) j_M_take 44 [(0, .ref 137), (1, J x), (2, J v), (3, J k)] [J 0] s1)) ?_
          exact T.ireti rfl rfl ⟨_, bi9, 1, rfl, ms1, gs1, by omega, by omega, by omega, by omega, by omega, (by first | omega | (have e9 : k = x := (by omega); rw [← e9]; omega)), by omega⟩
        · refine T.go 1 (fun n9 => (rfl : _ = exe ξ n9 (d + 1) j_M_take 18 [(0, .ref 137), (1, J x), (2, J v), (3, J k)] [.ref 137, .ref 137] τ)) ?_
          refine T.get rfl rfl rfl mτ.ob rfl ?_
          refine T.go 1 (fun n9 => (rfl : _ = exe ξ n9 (d + 1) j_M_take 22 [(0, .ref 137), (1, J x), (2, J v), (3, J k)] [.ref 137, J bi9, .ref 137] τ)) ?_
          refine T.get rfl rfl rfl mτ.ob rfl ?_
          refine T.icmp_lt rfl rfl (by omega) (by omega) (fun c3 => ?_) (fun c3 => ?_)
          · refine T.go 1 (fun n9 => (rfl : _ = exe ξ n9 (d + 1) j_M_take 33 [(0, .ref 137), (1, J x), (2, J v), (3, J k)] [J 0, .ref 137] τ)) ?_
            refine T.mput (c' := c) (io' := io) (mo' := mo) (fa' := fa) (pl' := pl) (ns' := ns) (rw' := rw) (en' := en) (wy' := wy) (wh' := wh) (bi' := bi9) (ed' := ed) (sz' := sz) (md' := md) (bd' := 0) (li' := li) (wk' := wk) (we' := we) mτ rfl rfl rfl rfl rfl rfl (by omega) (fun s2 ms2 fs2 => ?_)
            have gs2 := fτ.trans fs2
            refine T.go 1 (fun n9 => (rfl : _ = exe ξ n9 (d + 1) j_M_take 37 [(0, .ref 137), (1, J x), (2, J v), (3, J k)] [.ref 137] s2)) ?_
            refine T.get rfl rfl rfl ms2.ob rfl ?_
            refine T.go 4 (fun n9 => (rfl : _ = exe ξ n9 (d + 1) j_M_take 48 [(0, .ref 137), (1, J x), (2, J v), (3, J k)] [.ref 137, .ref 137, J v] s2)) ?_
            refine T.get rfl rfl rfl ms2.ob rfl ?_
            refine T.go 1 (fun n9 => (rfl : _ = exe ξ n9 (d + 1) j_M_take 52 [(0, .ref 137), (1, J x), (2, J v), (3, J k)] [.ref 137, J rw, .ref 137, J v] s2)) ?_
            refine T.get rfl rfl rfl ms2.ob rfl ?_
            refine T.go 1 (fun n9 => (rfl : _ = exe ξ n9 (d + 1) j_M_take 57 [(0, .ref 137), (1, J x), (2, J v), (3, J k)] [J 8, J bi9, J rw, .ref 137, J v] s2)) ?_
            refine T.idivc (c := 8) rfl (by decide) (by omega) ?_
            refine T.callv (as := [J rw, J (bi9 / 8)]) (r := [J v]) rfl rfl rfl rfl ms2.ob rfl (s_M_get d rw (bi9 / 8) s2 ms2 (by omega)) (fun v1 s3 hqs3 => ?_)
            obtain ⟨z2, rfl, esz2, hzz2, hyz2, pz2_0⟩ := hqs3
            rw [esz2]
            refine T.go 1 (fun n9 => (rfl : _ = exe ξ n9 (d + 1) j_M_take 62 [(0, .ref 137), (1, J x), (2, J v), (3, J k)] [.ref 137, J z2, J v] s2)) ?_
            refine T.get rfl rfl rfl ms2.ob rfl ?_
            refine T.go 1 (fun n9 => (rfl : _ = exe ξ n9 (d + 1) j_M_take 67 [(0, .ref 137), (1, J x), (2, J v), (3, J k)] [J 8, J bi9, J z2, J v] s2)) ?_
            refine T.iremc (c := 8) rfl (by decide) (by omega) ?_
            refine T.some1 rfl rfl (fun z4 hzz4 hyz4 _ => ?_)
            refine T.go 1 (fun n9 => (rfl : _ = exe ξ n9 (d + 1) j_M_take 70 [(0, .ref 137), (1, J x), (2, J v), (3, J k)] [J 1, J z4, J v] s2)) ?_
            refine T.iandm (p := 2) 1 rfl (by decide) (by decide) (by decide) (by omega) ?_
            refine T.go 1 (fun n9 => (rfl : _ = exe ξ n9 (d + 1) j_M_take 72 [(0, .ref 137), (1, J x), (2, J v), (3, J k)] [J k, J (z4 % 2), J v] s2)) ?_
            refine T.ishlq rfl (by omega) (by omega) (fun z6 hzz6 hyz6 hvz6 hwz6 huz6 => ?_)
            refine T.iorp (k := k) rfl (by omega) (by omega) (by omega) ?_
            refine T.go 3 (fun n9 => (rfl : _ = exe ξ n9 (d + 1) j_M_take 77 [(0, .ref 137), (1, J x), (2, J (v + z6)), (3, J k)] [.ref 137, .ref 137] s2)) ?_
            refine T.get rfl rfl rfl ms2.ob rfl ?_
            refine T.go 1 (fun n9 => (rfl : _ = exe ξ n9 (d + 1) j_M_take 81 [(0, .ref 137), (1, J x), (2, J (v + z6)), (3, J k)] [J 1, J bi9, .ref 137] s2)) ?_
            refine T.iadd rfl ?_
            refine T.mput (c' := c) (io' := io) (mo' := mo) (fa' := fa) (pl' := pl) (ns' := ns) (rw' := rw) (en' := en) (wy' := wy) (wh' := wh) (bi' := bi9 + 1) (ed' := ed) (sz' := sz) (md' := md) (bd' := 0) (li' := li) (wk' := wk) (we' := we) ms2 rfl rfl rfl rfl rfl rfl (by omega) (fun s4 ms4 fs4 => ?_)
            have gs4 := gs2.trans fs4
            refine T.iinc (lv' := [(0, .ref 137), (1, J x), (2, J (v + z6)), (3, J (k + 1))]) rfl rfl rfl rfl ?_
            refine T.go 1 (fun n9 => (rfl : _ = exe ξ n9 (d + 1) j_M_take 4 [(0, .ref 137), (1, J x), (2, J (v + z6)), (3, J (k + 1))] [] s4)) ?_
            exact ih4  (v + z6) (k + 1) (bi9 + 1) 0 s4 ms4 gs4 (by omega) (by omega) (by omega) (by omega) (by omega) (by omega) (by omega) (by omega) (by omega)
          · refine T.go 2 (fun n9 => (rfl : _ = exe ξ n9 (d + 1) j_M_take 33 [(0, .ref 137), (1, J x), (2, J v), (3, J k)] [J 1, .ref 137] τ)) ?_
            refine T.mput (c' := c) (io' := io) (mo' := mo) (fa' := fa) (pl' := pl) (ns' := ns) (rw' := rw) (en' := en) (wy' := wy) (wh' := wh) (bi' := bi9) (ed' := ed) (sz' := sz) (md' := md) (bd' := 1) (li' := li) (wk' := wk) (we' := we) mτ rfl rfl rfl rfl rfl rfl (by omega) (fun s5 ms5 fs5 => ?_)
            have gs5 := fτ.trans fs5
            refine T.go 1 (fun n9 => (rfl : _ = exe ξ n9 (d + 1) j_M_take 37 [(0, .ref 137), (1, J x), (2, J v), (3, J k)] [.ref 137] s5)) ?_
            refine T.get rfl rfl rfl ms5.ob rfl ?_
            refine T.go 2 (fun n9 => (rfl : _ = exe ξ n9 (d + 1) j_M_take 44 [(0, .ref 137), (1, J x), (2, J v), (3, J k)] [J 0] s5)) ?_
            exact T.ireti rfl rfl ⟨_, bi9, 1, rfl, ms5, gs5, by omega, by omega, by omega, by omega, by omega, (by first | omega | (have e9 : k = x := (by omega); rw [← e9]; omega)), by omega⟩
  refine T.go 4 (fun n9 => (rfl : _ = exe ξ n9 (d + 1) j_M_take 4 [(0, .ref 137), (1, J x), (2, J 0), (3, J 0)] [] σ)) ?_
  exact loop4 _ 0 0 bi bd σ hM FM.refl (by omega) (by omega) (by omega) (by omega) (by omega) (by omega) (by omega) (by omega) (Nat.lt_succ_self _)

set_option maxHeartbeats 4000000 in
theorem s_M_many {ξ : Nat → Option (Nat × List Int32)} {c io mo fa pl ns rw en wy wh bi ed sz md bd li wk we : Int} {Lc : List Int64} {la lm ln lh ld lk lt : List Int32} (d : Nat) (x : Int) (y : Int) (u : Int) (σ : qH) (hM : MS σ c io mo fa pl ns rw en wy wh bi ed sz md bd li wk we Lc la lm ln lh ld lk lt) (rx : -2147483648 ≤ x ∧ x ≤ 2147483647) (ry : -2147483648 ≤ y ∧ y ≤ 2147483647) (ru : -2147483648 ≤ u ∧ u ≤ 2147483647) (pre0 : 0 ≤ x) (pre1 : 0 ≤ y) (pre2 : x + y ≤ 360) : T ξ d j_M_many 0 (lv_args 0 [.ref 137, J x, J y, J u]) [] σ (fun v σ' => ∃ (z : Int), v = some (J z) ∧ σ' = σ ∧ 0 ≤ z ∧ z ≤ 360 ∧ z ≤ y) := by
  have r0 := hM.rg
  have n0 := hM.len
  have loop6 : ∀ (f6 : Nat) (n : Int) (k : Int), 0 ≤ n → n ≤ k → 0 ≤ k → k ≤ y → (y - k).toNat < f6 → T ξ d j_M_many 6 [(0, .ref 137), (1, J x), (2, J y), (3, J u), (4, J n), (5, J k)] [] σ (fun v σ' => ∃ (z : Int), v = some (J z) ∧ σ' = σ ∧ 0 ≤ z ∧ z ≤ 360 ∧ z ≤ y) := by
    intro f6
    induction f6 with
    | zero => intro n k i0 i1 i2 i3 hm6; omega
    | succ f6 ih6 =>
      intro n k i0 i1 i2 i3 hm6
      refine T.go 2 (fun n9 => (rfl : _ = exe ξ n9 d j_M_many 9 [(0, .ref 137), (1, J x), (2, J y), (3, J u), (4, J n), (5, J k)] [J y, J k] σ)) ?_
      refine T.icmp_ge rfl rfl (by omega) (by omega) (fun c1 => ?_) (fun c1 => ?_)
      · refine T.go 1 (fun n9 => (rfl : _ = exe ξ n9 d j_M_many 43 [(0, .ref 137), (1, J x), (2, J y), (3, J u), (4, J n), (5, J k)] [J n] σ)) ?_
        exact T.ireti rfl rfl ⟨_, rfl, rfl, by omega, by omega, by omega⟩
      · refine T.go 2 (fun n9 => (rfl : _ = exe ξ n9 d j_M_many 15 [(0, .ref 137), (1, J x), (2, J y), (3, J u), (4, J n), (5, J k)] [.ref 137, J n] σ)) ?_
        refine T.get rfl rfl rfl hM.ob rfl ?_
        refine T.go 2 (fun n9 => (rfl : _ = exe ξ n9 d j_M_many 21 [(0, .ref 137), (1, J x), (2, J y), (3, J u), (4, J n), (5, J k)] [J k, J x, .ref 144, J n] σ)) ?_
        refine T.iadd rfl ?_
        refine T.iald rfl rfl hM.c144 (by omega) (fun z1 hzz1 hyz1 hez1 => ?_)
        refine T.go 1 (fun n9 => (rfl : _ = exe ξ n9 d j_M_many 24 [(0, .ref 137), (1, J x), (2, J y), (3, J u), (4, J n), (5, J k)] [J u, J z1, J n] σ)) ?_
        refine T.icmp_ne rfl rfl (by omega) (by omega) (fun c2 => ?_) (fun c2 => ?_)
        · refine T.go 1 (fun n9 => (rfl : _ = exe ξ n9 d j_M_many 32 [(0, .ref 137), (1, J x), (2, J y), (3, J u), (4, J n), (5, J k)] [J 0, J n] σ)) ?_
          refine T.iadd rfl ?_
          refine T.go 1 (fun n9 => (rfl : _ = exe ξ n9 d j_M_many 35 [(0, .ref 137), (1, J x), (2, J y), (3, J u), (4, J (n + 0)), (5, J k)] [] σ)) ?_
          refine T.iinc (lv' := [(0, .ref 137), (1, J x), (2, J y), (3, J u), (4, J (n + 0)), (5, J (k + 1))]) rfl rfl rfl rfl ?_
          refine T.go 1 (fun n9 => (rfl : _ = exe ξ n9 d j_M_many 6 [(0, .ref 137), (1, J x), (2, J y), (3, J u), (4, J (n + 0)), (5, J (k + 1))] [] σ)) ?_
          exact ih6  (n + 0) (k + 1)  (by omega) (by omega) (by omega) (by omega) (by omega)
        · refine T.go 2 (fun n9 => (rfl : _ = exe ξ n9 d j_M_many 32 [(0, .ref 137), (1, J x), (2, J y), (3, J u), (4, J n), (5, J k)] [J 1, J n] σ)) ?_
          refine T.iadd rfl ?_
          refine T.go 1 (fun n9 => (rfl : _ = exe ξ n9 d j_M_many 35 [(0, .ref 137), (1, J x), (2, J y), (3, J u), (4, J (n + 1)), (5, J k)] [] σ)) ?_
          refine T.iinc (lv' := [(0, .ref 137), (1, J x), (2, J y), (3, J u), (4, J (n + 1)), (5, J (k + 1))]) rfl rfl rfl rfl ?_
          refine T.go 1 (fun n9 => (rfl : _ = exe ξ n9 d j_M_many 6 [(0, .ref 137), (1, J x), (2, J y), (3, J u), (4, J (n + 1)), (5, J (k + 1))] [] σ)) ?_
          exact ih6  (n + 1) (k + 1)  (by omega) (by omega) (by omega) (by omega) (by omega)
  refine T.go 4 (fun n9 => (rfl : _ = exe ξ n9 d j_M_many 6 [(0, .ref 137), (1, J x), (2, J y), (3, J u), (4, J 0), (5, J 0)] [] σ)) ?_
  exact loop6 _ 0 0  (by omega) (by omega) (by omega) (by omega) (Nat.lt_succ_self _)

set_option maxHeartbeats 4000000 in
theorem s_M_pick {ξ : Nat → Option (Nat × List Int32)} {c io mo fa pl ns rw en wy wh bi ed sz md bd li wk we : Int} {Lc : List Int64} {la lm ln lh ld lk lt : List Int32} (d : Nat) (x : Int) (y : Int) (u : Int) (q : Int) (σ : qH) (hM : MS σ c io mo fa pl ns rw en wy wh bi ed sz md bd li wk we Lc la lm ln lh ld lk lt) (rx : -2147483648 ≤ x ∧ x ≤ 2147483647) (ry : -2147483648 ≤ y ∧ y ≤ 2147483647) (ru : -2147483648 ≤ u ∧ u ≤ 2147483647) (rq : -2147483648 ≤ q ∧ q ≤ 2147483647) (pre0 : 0 ≤ x) (pre1 : 0 ≤ y) (pre2 : x + y ≤ 360) (pre3 : 0 ≤ q) (pre4 : q ≤ 100000) : T ξ d j_M_pick 0 (lv_args 0 [.ref 137, J x, J y, J u, J q]) [] σ (fun v σ' => ∃ (z : Int), v = some (J z) ∧ σ' = σ ∧ -1 ≤ z ∧ z ≤ 360 ∧ z < y) := by
  have r0 := hM.rg
  have n0 := hM.len
  have loop7 : ∀ (f7 : Nat) (l5 : Int) (k : Int), l5 ≤ q → q - k ≤ l5 → 0 ≤ k → k ≤ y → (y - k).toNat < f7 → T ξ d j_M_pick 7 [(0, .ref 137), (1, J x), (2, J y), (3, J u), (4, J q), (5, J l5), (6, J k)] [] σ (fun v σ' => ∃ (z : Int), v = some (J z) ∧ σ' = σ ∧ -1 ≤ z ∧ z ≤ 360 ∧ z < y) := by
    intro f7
    induction f7 with
    | zero => intro l5 k i0 i1 i2 i3 hm7; omega
    | succ f7 ih7 =>
      intro l5 k i0 i1 i2 i3 hm7
      refine T.go 2 (fun n9 => (rfl : _ = exe ξ n9 d j_M_pick 10 [(0, .ref 137), (1, J x), (2, J y), (3, J u), (4, J q), (5, J l5), (6, J k)] [J y, J k] σ)) ?_
      refine T.icmp_ge rfl rfl (by omega) (by omega) (fun c1 => ?_) (fun c1 => ?_)
      · refine T.go 1 (fun n9 => (rfl : _ = exe ξ n9 d j_M_pick 47 [(0, .ref 137), (1, J x), (2, J y), (3, J u), (4, J q), (5, J l5), (6, J k)] [J (-1)] σ)) ?_
        exact T.ireti rfl rfl ⟨_, rfl, rfl, by omega, by omega, by omega⟩
      · refine T.go 1 (fun n9 => (rfl : _ = exe ξ n9 d j_M_pick 14 [(0, .ref 137), (1, J x), (2, J y), (3, J u), (4, J q), (5, J l5), (6, J k)] [.ref 137] σ)) ?_
        refine T.get rfl rfl rfl hM.ob rfl ?_
        refine T.go 2 (fun n9 => (rfl : _ = exe ξ n9 d j_M_pick 20 [(0, .ref 137), (1, J x), (2, J y), (3, J u), (4, J q), (5, J l5), (6, J k)] [J k, J x, .ref 144] σ)) ?_
        refine T.iadd rfl ?_
        refine T.iald rfl rfl hM.c144 (by omega) (fun z1 hzz1 hyz1 hez1 => ?_)
        refine T.go 1 (fun n9 => (rfl : _ = exe ξ n9 d j_M_pick 23 [(0, .ref 137), (1, J x), (2, J y), (3, J u), (4, J q), (5, J l5), (6, J k)] [J u, J z1] σ)) ?_
        refine T.icmp_eq rfl rfl (by omega) (by omega) (fun c2 => ?_) (fun c2 => ?_)
        · refine T.go 1 (fun n9 => (rfl : _ = exe ξ n9 d j_M_pick 31 [(0, .ref 137), (1, J x), (2, J y), (3, J u), (4, J q), (5, J l5), (6, J k)] [J l5] σ)) ?_
          refine T.if_ne rfl rfl (by omega) (fun c3 => ?_) (fun c3 => ?_)
          · refine T.iinc (lv' := [(0, .ref 137), (1, J x), (2, J y), (3, J u), (4, J q), (5, J (l5 + (-1))), (6, J k)]) rfl rfl rfl rfl ?_
            refine T.iinc (lv' := [(0, .ref 137), (1, J x), (2, J y), (3, J u), (4, J q), (5, J (l5 + (-1))), (6, J (k + 1))]) rfl rfl rfl rfl ?_
            refine T.go 1 (fun n9 => (rfl : _ = exe ξ n9 d j_M_pick 7 [(0, .ref 137), (1, J x), (2, J y), (3, J u), (4, J q), (5, J (l5 + (-1))), (6, J (k + 1))] [] σ)) ?_
            exact ih7  (l5 + (-1)) (k + 1)  (by omega) (by omega) (by omega) (by omega) (by omega)
          · refine T.go 1 (fun n9 => (rfl : _ = exe ξ n9 d j_M_pick 36 [(0, .ref 137), (1, J x), (2, J y), (3, J u), (4, J q), (5, J l5), (6, J k)] [J k] σ)) ?_
            exact T.ireti rfl rfl ⟨_, rfl, rfl, by omega, by omega, by omega⟩
        · refine T.go 1 (fun n9 => (rfl : _ = exe ξ n9 d j_M_pick 40 [(0, .ref 137), (1, J x), (2, J y), (3, J u), (4, J q), (5, J l5), (6, J k)] [] σ)) ?_
          refine T.iinc (lv' := [(0, .ref 137), (1, J x), (2, J y), (3, J u), (4, J q), (5, J l5), (6, J (k + 1))]) rfl rfl rfl rfl ?_
          refine T.go 1 (fun n9 => (rfl : _ = exe ξ n9 d j_M_pick 7 [(0, .ref 137), (1, J x), (2, J y), (3, J u), (4, J q), (5, J l5), (6, J (k + 1))] [] σ)) ?_
          exact ih7  l5 (k + 1)  (by omega) (by omega) (by omega) (by omega) (by omega)
  refine T.go 4 (fun n9 => (rfl : _ = exe ξ n9 d j_M_pick 7 [(0, .ref 137), (1, J x), (2, J y), (3, J u), (4, J q), (5, J q), (6, J 0)] [] σ)) ?_
  exact loop7 _ q 0  (by omega) (by omega) (by omega) (by omega) (Nat.lt_succ_self _)

set_option maxHeartbeats 4000000 in
theorem s_M_sign {ξ : Nat → Option (Nat × List Int32)} {c io mo fa pl ns rw en wy wh bi ed sz md bd li wk we : Int} {Lc : List Int64} {la lm ln lh ld lk lt : List Int32} (d : Nat) (x : Int) (y : Int) (σ : qH) (hM : MS σ c io mo fa pl ns rw en wy wh bi ed sz md bd li wk we Lc la lm ln lh ld lk lt) (rx : -2147483648 ≤ x ∧ x ≤ 2147483647) (ry : -2147483648 ≤ y ∧ y ≤ 2147483647) (pre0 : 0 ≤ bi) (pre1 : bi ≤ ed) (pre2 : ed ≤ 64000) (pre3 : ed % 8 = 0) (pre4 : 0 ≤ x) (pre5 : 0 ≤ y) (pre6 : x + y ≤ 360) : T ξ (d + 2) j_M_sign 0 (lv_args 0 [.ref 137, J x, J y]) [] σ (fun v σ' => ∃ (z : Int) (bi1 : Int) (bd1 : Int), v = some (J z) ∧ MS σ' c io mo fa pl ns rw en wy wh bi1 ed sz md bd1 li wk we Lc la lm ln lh ld lk lt ∧ FM σ σ' ∧ -1 ≤ z ∧ z ≤ 360 ∧ bi ≤ bi1 ∧ bi1 ≤ ed ∧ bd ≤ bd1 ∧ z < y ∧ (bi + 1 ≤ bi1 ∨ bd1 = 1)) := by
  have r0 := hM.rg
  have n0 := hM.len
  have e2_0 : P2 0 = 1 := by decide
  have e2_1 : P2 1 = 2 := by decide
  have e2_15 : P2 15 = 32768 := by decide
  have loop8 : ∀ (f8 : Nat) (w3 : Int) (f4 : Int) (k : Int) (bi9 : Int) (bd9 : Int) (τ : qH), MS τ c io mo fa pl ns rw en wy wh bi9 ed sz md bd9 li wk we Lc la lm ln lh ld lk lt → FM σ τ → bi ≤ bi9 → bi9 ≤ ed → bd ≤ bd9 → 0 ≤ f4 → f4 ≤ w3 → w3 < P2 (k - 1) → 1 ≤ k → k ≤ 16 → (16 - k).toNat < f8 → T ξ (d + 2) j_M_sign 8 [(0, .ref 137), (1, J x), (2, J y), (3, J w3), (4, J f4), (5, J k)] [] τ (fun v σ' => ∃ (z : Int) (bi1 : Int) (bd1 : Int), v = some (J z) ∧ MS σ' c io mo fa pl ns rw en wy wh bi1 ed sz md bd1 li wk we Lc la lm ln lh ld lk lt ∧ FM σ σ' ∧ -1 ≤ z ∧ z ≤ 360 ∧ bi ≤ bi1 ∧ bi1 ≤ ed ∧ bd ≤ bd1 ∧ z < y ∧ (bi + 1 ≤ bi1 ∨ bd1 = 1)) := by
    intro f8
    induction f8 with
    | zero => intro w3 f4 k bi9 bd9 τ mτ fτ i0 i1 i2 i3 i4 i5 i6 i7 hm8; omega
    | succ f8 ih8 =>
      intro w3 f4 k bi9 bd9 τ mτ fτ i0 i1 i2 i3 i4 i5 i6 i7 hm8
      have rτ := mτ.rg
      have nτ := mτ.len
      have ek := P2_le15 (k := k - 1) (by omega)
      have es := P2_s (k := k - 1) (by omega)
      rw [show k - 1 + 1 = k by omega] at es
      have eq : k + 1 - 1 = k := by omega
      refine T.go 2 (fun n9 => (rfl : _ = exe ξ n9 (d + 2) j_M_sign 12 [(0, .ref 137), (1, J x), (2, J y), (3, J w3), (4, J f4), (5, J k)] [J 16, J k] τ)) ?_
      refine T.icmp_ge rfl rfl (by omega) (by omega) (fun c1 => ?_) (fun c1 => ?_)
      · refine T.go 2 (fun n9 => (rfl : _ = exe ξ n9 (d + 2) j_M_sign 85 [(0, .ref 137), (1, J x), (2, J y), (3, J w3), (4, J f4), (5, J k)] [J 1, .ref 137] τ)) ?_
        refine T.mput (c' := c) (io' := io) (mo' := mo) (fa' := fa) (pl' := pl) (ns' := ns) (rw' := rw) (en' := en) (wy' := wy) (wh' := wh) (bi' := bi9) (ed' := ed) (sz' := sz) (md' := md) (bd' := 1) (li' := li) (wk' := wk) (we' := we) mτ rfl rfl rfl rfl rfl rfl (by omega) (fun s1 ms1 fs1 => ?_)
        have gs1 := fτ.trans fs1
        refine T.go 1 (fun n9 => (rfl : _ = exe ξ n9 (d + 2) j_M_sign 89 [(0, .ref 137), (1, J x), (2, J y), (3, J w3), (4, J f4), (5, J k)] [J (-1)] s1)) ?_
        exact T.ireti rfl rfl ⟨_, bi9, 1, rfl, ms1, gs1, by omega, by omega, by omega, by omega, by omega, by omega, by omega⟩
      · refine T.go 1 (fun n9 => (rfl : _ = exe ξ n9 (d + 2) j_M_sign 16 [(0, .ref 137), (1, J x), (2, J y), (3, J w3), (4, J f4), (5, J k)] [.ref 137] τ)) ?_
        refine T.get rfl rfl rfl mτ.ob rfl ?_
        refine T.if_ne rfl rfl (by omega) (fun c2 => ?_) (fun c2 => ?_)
        · refine T.go 2 (fun n9 => (rfl : _ = exe ξ n9 (d + 2) j_M_sign 85 [(0, .ref 137), (1, J x), (2, J y), (3, J w3), (4, J f4), (5, J k)] [J 1, .ref 137] τ)) ?_
          refine T.mput (c' := c) (io' := io) (mo' := mo) (fa' := fa) (pl' := pl) (ns' := ns) (rw' := rw) (en' := en) (wy' := wy) (wh' := wh) (bi' := bi9) (ed' := ed) (sz' := sz) (md' := md) (bd' := 1) (li' := li) (wk' := wk) (we' := we) mτ rfl rfl rfl rfl rfl rfl (by omega) (fun s2 ms2 fs2 => ?_)
          have gs2 := fτ.trans fs2
          refine T.go 1 (fun n9 => (rfl : _ = exe ξ n9 (d + 2) j_M_sign 89 [(0, .ref 137), (1, J x), (2, J y), (3, J w3), (4, J f4), (5, J k)] [J (-1)] s2)) ?_
          exact T.ireti rfl rfl ⟨_, bi9, 1, rfl, ms2, gs2, by omega, by omega, by omega, by omega, by omega, by omega, by omega⟩
        · refine T.go 2 (fun n9 => (rfl : _ = exe ξ n9 (d + 2) j_M_sign 24 [(0, .ref 137), (1, J x), (2, J y), (3, J w3), (4, J f4), (5, J k)] [J w3, J 2] τ)) ?_
          refine T.imul rfl ?_
          refine T.go 2 (fun n9 => (rfl : _ = exe ξ n9 (d + 2) j_M_sign 27 [(0, .ref 137), (1, J x), (2, J y), (3, J w3), (4, J f4), (5, J k)] [J 1, .ref 137, J (2 * w3)] τ)) ?_
          refine T.callv (as := [J 1]) (r := [J (2 * w3)]) rfl rfl rfl rfl mτ.ob rfl (s_M_take d 1 τ mτ (by omega) (by omega) (by omega) (by omega) (by omega) (by omega) (by omega)) (fun v1 s3 hqs3 => ?_)
          obtain ⟨z1, bi_1, bd_1, rfl, ms3, fs3, hzz1, hyz1, pz1_0, pz1_1, pz1_2, pz1_3, pz1_4⟩ := hqs3
          have ns3 := ms3.len
          have rs3 := ms3.rg
          have gs3 := fτ.trans fs3
          refine T.iadd rfl ?_
          refine T.go 3 (fun n9 => (rfl : _ = exe ξ n9 (d + 2) j_M_sign 35 [(0, .ref 137), (1, J x), (2, J y), (3, J ((2 * w3) + z1)), (4, J f4), (5, J k)] [J f4, J 2] s3)) ?_
          refine T.imul rfl ?_
          refine T.go 5 (fun n9 => (rfl : _ = exe ξ n9 (d + 2) j_M_sign 43 [(0, .ref 137), (1, J x), (2, J y), (3, J ((2 * w3) + z1)), (4, J (2 * f4)), (5, J k)] [J k, J y, J x, .ref 137] s3)) ?_
          refine T.callv (as := [J x, J y, J k]) (r := []) rfl rfl rfl rfl ms3.ob rfl (s_M_many (d + 1) x y k s3 ms3 (by omega) (by omega) (by omega) (by omega) (by omega) (by omega)) (fun v2 s4 hqs4 => ?_)
          obtain ⟨z2, rfl, esz2, hzz2, hyz2, pz2_0⟩ := hqs4
          rw [esz2]
          refine T.go 3 (fun n9 => (rfl : _ = exe ξ n9 (d + 2) j_M_sign 51 [(0, .ref 137), (1, J x), (2, J y), (3, J ((2 * w3) + z1)), (4, J (2 * f4)), (5, J k), (6, J z2)] [J (2 * f4), J ((2 * w3) + z1)] s3)) ?_
          refine T.isub rfl ?_
          refine T.go 1 (fun n9 => (rfl : _ = exe ξ n9 (d + 2) j_M_sign 54 [(0, .ref 137), (1, J x), (2, J y), (3, J ((2 * w3) + z1)), (4, J (2 * f4)), (5, J k), (6, J z2)] [J z2, J (((2 * w3) + z1) - (2 * f4))] s3)) ?_
          refine T.icmp_ge rfl rfl (by omega) (by omega) (fun c3 => ?_) (fun c3 => ?_)
          · refine T.go 2 (fun n9 => (rfl : _ = exe ξ n9 (d + 2) j_M_sign 74 [(0, .ref 137), (1, J x), (2, J y), (3, J ((2 * w3) + z1)), (4, J (2 * f4)), (5, J k), (6, J z2)] [J z2, J (2 * f4)] s3)) ?_
            refine T.iadd rfl ?_
            refine T.go 1 (fun n9 => (rfl : _ = exe ξ n9 (d + 2) j_M_sign 77 [(0, .ref 137), (1, J x), (2, J y), (3, J ((2 * w3) + z1)), (4, J ((2 * f4) + z2)), (5, J k), (6, J z2)] [] s3)) ?_
            refine T.iinc (lv' := [(0, .ref 137), (1, J x), (2, J y), (3, J ((2 * w3) + z1)), (4, J ((2 * f4) + z2)), (5, J (k + 1)), (6, J z2)]) rfl rfl rfl rfl ?_
            refine T.go 1 (fun n9 => (rfl : _ = exe ξ n9 (d + 2) j_M_sign 8 [(0, .ref 137), (1, J x), (2, J y), (3, J ((2 * w3) + z1)), (4, J ((2 * f4) + z2)), (5, J (k + 1)), (6, J z2)] [] s3)) ?_
            refine T.drop (lv := [(0, .ref 137), (1, J x), (2, J y), (3, J ((2 * w3) + z1)), (4, J ((2 * f4) + z2)), (5, J (k + 1))]) [(6, J z2)] (by simp) ?_
            exact ih8  ((2 * w3) + z1) ((2 * f4) + z2) (k + 1) bi_1 bd_1 s3 ms3 gs3 (by omega) (by omega) (by omega) (by omega) (by omega) (by rw [eq]; omega) (by omega) (by omega) (by omega)
          · refine T.go 6 (fun n9 => (rfl : _ = exe ξ n9 (d + 2) j_M_sign 65 [(0, .ref 137), (1, J x), (2, J y), (3, J ((2 * w3) + z1)), (4, J (2 * f4)), (5, J k), (6, J z2)] [J (2 * f4), J ((2 * w3) + z1), J k, J y, J x, .ref 137] s3)) ?_
            refine T.isub rfl ?_
            refine T.callv (as := [J x, J y, J k, J (((2 * w3) + z1) - (2 * f4))]) (r := []) rfl rfl rfl rfl ms3.ob rfl (s_M_pick (d + 1) x y k (((2 * w3) + z1) - (2 * f4)) s3 ms3 (by omega) (by omega) (by omega) (by omega) (by omega) (by omega) (by omega) (by omega) (by omega)) (fun v3 s5 hqs5 => ?_)
            obtain ⟨z3, rfl, esz3, hzz3, hyz3, pz3_0⟩ := hqs5
            rw [esz3]
            exact T.ireti rfl rfl ⟨_, bi_1, bd_1, rfl, ms3, gs3, by omega, by omega, by omega, by omega, by omega, by omega, by omega⟩
  refine T.go 6 (fun n9 => (rfl : _ = exe ξ n9 (d + 2) j_M_sign 8 [(0, .ref 137), (1, J x), (2, J y), (3, J 0), (4, J 0), (5, J 1)] [] σ)) ?_
  exact loop8 _ 0 0 1 bi bd σ hM FM.refl (by omega) (by omega) (by omega) (by omega) (by omega) (by show (0 : Int) < P2 0; omega) (by omega) (by omega) (Nat.lt_succ_self _)
