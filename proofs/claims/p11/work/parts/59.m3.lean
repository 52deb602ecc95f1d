/-! The model: unpacking. -/
set_option maxHeartbeats 4000000 in
theorem s_M_put {ξ : Nat → Option (Nat × List Int32)} {c io mo fa pl ns rw en wy wh bi ed sz md bd li wk we : Int} {Lc : List Int64} {la lm ln lh ld lk lt : List Int32} (d : Nat) (x : Int) (y : Int) (u : Int) (σ : qH) (hM : MS σ c io mo fa pl ns rw en wy wh bi ed sz md bd li wk we Lc la lm ln lh ld lk lt) (rx : -2147483648 ≤ x ∧ x ≤ 2147483647) (ry : -2147483648 ≤ y ∧ y ≤ 2147483647) (ru : -2147483648 ≤ u ∧ u ≤ 2147483647) (pre0 : 0 ≤ x) (pre1 : 0 ≤ y) (pre2 : y < 8000) (pre3 : x ≤ 6) : T ξ d j_M_put 0 (lv_args 0 [.ref 137, J x, J y, J u]) [] σ (fun v σ' => ∃ (Lc1 : List Int64), v = none ∧ MS σ' c io mo fa pl ns rw en wy wh bi ed sz md bd li wk we Lc1 la lm ln lh ld lk lt ∧ FM σ σ' ∧ RG [x] Lc Lc1) := by
  have r0 := hM.rg
  have n0 := hM.len
  refine T.go 2 (fun n9 => (rfl : _ = exe ξ n9 d j_M_put 4 [(0, .ref 137), (1, J x), (2, J y), (3, J u)] [J x, J 1000] σ)) ?_
  refine T.imul rfl ?_
  refine T.go 2 (fun n9 => (rfl : _ = exe ξ n9 d j_M_put 8 [(0, .ref 137), (1, J x), (2, J y), (3, J u)] [J 8, J y, J (1000 * x)] σ)) ?_
  refine T.idivc (c := 8) rfl (by decide) (by omega) ?_
  refine T.iadd rfl ?_
  refine T.go 4 (fun n9 => (rfl : _ = exe ξ n9 d j_M_put 17 [(0, .ref 137), (1, J x), (2, J y), (3, J u), (4, J ((1000 * x) + (y / 8)))] [J 8, J y, J 8] σ)) ?_
  refine T.iremc (c := 8) rfl (by decide) (by omega) ?_
  refine T.imul rfl ?_
  refine T.go 2 (fun n9 => (rfl : _ = exe ξ n9 d j_M_put 22 [(0, .ref 137), (1, J x), (2, J y), (3, J u), (4, J ((1000 * x) + (y / 8))), (5, J (8 * (y % 8)))] [.ref 137] σ)) ?_
  refine T.get rfl rfl rfl hM.ob rfl ?_
  refine T.go 2 (fun n9 => (rfl : _ = exe ξ n9 d j_M_put 28 [(0, .ref 137), (1, J x), (2, J y), (3, J u), (4, J ((1000 * x) + (y / 8))), (5, J (8 * (y % 8)))] [.ref 137, J ((1000 * x) + (y / 8)), .ref 138] σ)) ?_
  refine T.get rfl rfl rfl hM.ob rfl ?_
  refine T.go 1 (fun n9 => (rfl : _ = exe ξ n9 d j_M_put 33 [(0, .ref 137), (1, J x), (2, J y), (3, J u), (4, J ((1000 * x) + (y / 8))), (5, J (8 * (y % 8)))] [J ((1000 * x) + (y / 8)), .ref 138, J ((1000 * x) + (y / 8)), .ref 138] σ)) ?_
  refine T.lald rfl hM.c138 (by omega) (fun z3 hzz3 hyz3 hez3 => ?_)
  refine T.go 2 (fun n9 => (rfl : _ = exe ξ n9 d j_M_put 39 [(0, .ref 137), (1, J x), (2, J y), (3, J u), (4, J ((1000 * x) + (y / 8))), (5, J (8 * (y % 8)))] [J (8 * (y % 8)), JL 255, JL z3, J ((1000 * x) + (y / 8)), .ref 138] σ)) ?_
  refine T.some2 rfl rfl (fun z4 hzz4 hyz4 _ => ?_)
  refine T.go 1 (fun n9 => (rfl : _ = exe ξ n9 d j_M_put 43 [(0, .ref 137), (1, J x), (2, J y), (3, J u), (4, J ((1000 * x) + (y / 8))), (5, J (8 * (y % 8)))] [JL (-1), JL z4, JL z3, J ((1000 * x) + (y / 8)), .ref 138] σ)) ?_
  refine T.some2 rfl rfl (fun z5 hzz5 hyz5 _ => ?_)
  refine T.some2 rfl rfl (fun z6 hzz6 hyz6 _ => ?_)
  refine T.go 1 (fun n9 => (rfl : _ = exe ξ n9 d j_M_put 46 [(0, .ref 137), (1, J x), (2, J y), (3, J u), (4, J ((1000 * x) + (y / 8))), (5, J (8 * (y % 8)))] [J u, JL z6, J ((1000 * x) + (y / 8)), .ref 138] σ)) ?_
  refine T.i2l rfl (by omega) ?_
  refine T.go 1 (fun n9 => (rfl : _ = exe ξ n9 d j_M_put 50 [(0, .ref 137), (1, J x), (2, J y), (3, J u), (4, J ((1000 * x) + (y / 8))), (5, J (8 * (y % 8)))] [JL 255, JL u, JL z6, J ((1000 * x) + (y / 8)), .ref 138] σ)) ?_
  refine T.some2 rfl rfl (fun z7 hzz7 hyz7 _ => ?_)
  refine T.go 1 (fun n9 => (rfl : _ = exe ξ n9 d j_M_put 53 [(0, .ref 137), (1, J x), (2, J y), (3, J u), (4, J ((1000 * x) + (y / 8))), (5, J (8 * (y % 8)))] [J (8 * (y % 8)), JL z7, JL z6, J ((1000 * x) + (y / 8)), .ref 138] σ)) ?_
  refine T.some2 rfl rfl (fun z8 hzz8 hyz8 _ => ?_)
  refine T.some2 rfl rfl (fun z9 hzz9 hyz9 _ => ?_)
  refine T.mlast hM rfl (by omega) (fun s1 ms1 fs1 => ?_)
  have ns1 := ms1.len
  exact T.vret rfl rfl ⟨(Lc.set ((1000 * x) + (y / 8) : Int).toNat (Int64.ofInt z9)), rfl, ms1, fs1, ((AG.refl (A := Lc)).set (by omega) (by omega)).rg⟩

set_option maxHeartbeats 4000000 in
theorem s_M_copyRow {ξ : Nat → Option (Nat × List Int32)} {c io mo fa pl ns rw en wy wh bi ed sz md bd li wk we : Int} {Lc : List Int64} {la lm ln lh ld lk lt : List Int32} (d : Nat) (x : Int) (y : Int) (σ : qH) (hM : MS σ c io mo fa pl ns rw en wy wh bi ed sz md bd li wk we Lc la lm ln lh ld lk lt) (rx : -2147483648 ≤ x ∧ x ≤ 2147483647) (ry : -2147483648 ≤ y ∧ y ≤ 2147483647) (pre0 : 0 ≤ x) (pre1 : x ≤ 6) (pre2 : 0 ≤ y) (pre3 : y ≤ 6) (pre4 : x ≠ y) : T ξ d j_M_copyRow 0 (lv_args 0 [.ref 137, J x, J y]) [] σ (fun v σ' => ∃ (Lc1 : List Int64) (la1 : List Int32), v = none ∧ MS σ' c io mo fa pl ns rw en wy wh bi ed sz md bd li wk we Lc1 la1 lm ln lh ld lk lt ∧ FM σ σ' ∧ RG [y] Lc Lc1 ∧ LG [y] la la1 ∧ gc Lc1 y = gc Lc x ∧ gl la1 y = gl la x) := by
  have r0 := hM.rg
  have n0 := hM.len
  have loop2 : ∀ (f2 : Nat) (k : Int) (Lc9 : List Int64) (τ : qH), MS τ c io mo fa pl ns rw en wy wh bi ed sz md bd li wk we Lc9 la lm ln lh ld lk lt → FM σ τ → 0 ≤ k → k ≤ 1000 → CP x y k Lc Lc9 → (1000 - k).toNat < f2 → T ξ d j_M_copyRow 2 [(0, .ref 137), (1, J x), (2, J y), (3, J k)] [] τ (fun v σ' => ∃ (Lc1 : List Int64) (la1 : List Int32), v = none ∧ MS σ' c io mo fa pl ns rw en wy wh bi ed sz md bd li wk we Lc1 la1 lm ln lh ld lk lt ∧ FM σ σ' ∧ RG [y] Lc Lc1 ∧ LG [y] la la1 ∧ gc Lc1 y = gc Lc x ∧ gl la1 y = gl la x) := by
    intro f2
    induction f2 with
    | zero => intro k Lc9 τ mτ fτ i0 i1 i2 hm2; omega
    | succ f2 ih2 =>
      intro k Lc9 τ mτ fτ i0 i1 i2 hm2
      have rτ := mτ.rg
      have nτ := mτ.len
      refine T.go 2 (fun n9 => (rfl : _ = exe ξ n9 d j_M_copyRow 6 [(0, .ref 137), (1, J x), (2, J y), (3, J k)] [J 1000, J k] τ)) ?_
      refine T.icmp_ge rfl rfl (by omega) (by omega) (fun c1 => ?_) (fun c1 => ?_)
      · refine T.go 1 (fun n9 => (rfl : _ = exe ξ n9 d j_M_copyRow 40 [(0, .ref 137), (1, J x), (2, J y), (3, J k)] [.ref 137] τ)) ?_
        refine T.get rfl rfl rfl mτ.ob rfl ?_
        refine T.go 2 (fun n9 => (rfl : _ = exe ξ n9 d j_M_copyRow 45 [(0, .ref 137), (1, J x), (2, J y), (3, J k)] [.ref 137, J y, .ref 139] τ)) ?_
        refine T.get rfl rfl rfl mτ.ob rfl ?_
        refine T.go 1 (fun n9 => (rfl : _ = exe ξ n9 d j_M_copyRow 49 [(0, .ref 137), (1, J x), (2, J y), (3, J k)] [J x, .ref 139, J y, .ref 139] τ)) ?_
        refine T.iald rfl rfl mτ.c139 (by omega) (fun z1 hzz1 hyz1 hez1 => ?_)
        have hbz1 := mτ.b139.at hez1 ⟨hzz1, hyz1⟩
        have gzz1 := gl_of hez1 ⟨hzz1, hyz1⟩
        subst gzz1
        refine T.mast139 mτ rfl (by omega) (by omega) (fun s1 ms1 fs1 => ?_)
        have ns1 := ms1.len
        have gs1 := fτ.trans fs1
        have gss1 : ∀ j : Int, 0 ≤ j → gl (la.set (y : Int).toNat (Int32.ofInt (gl la x))) j = if j = y then gl la x else gl la j := fun j hj => gl_set ⟨by omega, by omega⟩ ⟨by omega, by omega⟩ hj
        have ges1 : gl (la.set (y : Int).toNat (Int32.ofInt (gl la x))) y = gl la x := (gss1 y (by omega)).trans (if_pos rfl)
        exact T.vret rfl rfl ⟨Lc9, (la.set (y : Int).toNat (Int32.ofInt (gl la x))), rfl, ms1, gs1, i2.1.rg, (LG.set List.mem_cons_self (by omega)), (i2.gc (by omega)), ges1⟩
      · refine T.go 1 (fun n9 => (rfl : _ = exe ξ n9 d j_M_copyRow 10 [(0, .ref 137), (1, J x), (2, J y), (3, J k)] [.ref 137] τ)) ?_
        refine T.get rfl rfl rfl mτ.ob rfl ?_
        refine T.go 2 (fun n9 => (rfl : _ = exe ξ n9 d j_M_copyRow 17 [(0, .ref 137), (1, J x), (2, J y), (3, J k)] [J y, J 1000, .ref 138] τ)) ?_
        refine T.imul rfl ?_
        refine T.go 1 (fun n9 => (rfl : _ = exe ξ n9 d j_M_copyRow 19 [(0, .ref 137), (1, J x), (2, J y), (3, J k)] [J k, J (1000 * y), .ref 138] τ)) ?_
        refine T.iadd rfl ?_
        refine T.go 1 (fun n9 => (rfl : _ = exe ξ n9 d j_M_copyRow 21 [(0, .ref 137), (1, J x), (2, J y), (3, J k)] [.ref 137, J ((1000 * y) + k), .ref 138] τ)) ?_
        refine T.get rfl rfl rfl mτ.ob rfl ?_
        refine T.go 2 (fun n9 => (rfl : _ = exe ξ n9 d j_M_copyRow 28 [(0, .ref 137), (1, J x), (2, J y), (3, J k)] [J x, J 1000, .ref 138, J ((1000 * y) + k), .ref 138] τ)) ?_
        refine T.imul rfl ?_
        refine T.go 1 (fun n9 => (rfl : _ = exe ξ n9 d j_M_copyRow 30 [(0, .ref 137), (1, J x), (2, J y), (3, J k)] [J k, J (1000 * x), .ref 138, J ((1000 * y) + k), .ref 138] τ)) ?_
        refine T.iadd rfl ?_
        refine T.lald rfl mτ.c138 (by omega) (fun z2 hzz2 hyz2 hez2 => ?_)
        refine T.mlast mτ rfl (by omega) (fun s2 ms2 fs2 => ?_)
        have ns2 := ms2.len
        have gs2 := fτ.trans fs2
        refine T.iinc (lv' := [(0, .ref 137), (1, J x), (2, J y), (3, J (k + 1))]) rfl rfl rfl rfl ?_
        refine T.go 1 (fun n9 => (rfl : _ = exe ξ n9 d j_M_copyRow 2 [(0, .ref 137), (1, J x), (2, J y), (3, J (k + 1))] [] s2)) ?_
        exact ih2  (k + 1) (Lc9.set ((1000 * y) + k : Int).toNat (Int64.ofInt z2)) s2 ms2 gs2 (by omega) (by omega) (CP.step i2 (by omega) (by omega) (by omega) (by omega) (by omega) hez2) (by omega)
  refine T.go 2 (fun n9 => (rfl : _ = exe ξ n9 d j_M_copyRow 2 [(0, .ref 137), (1, J x), (2, J y), (3, J 0)] [] σ)) ?_
  exact loop2 _ 0 Lc σ hM FM.refl (by omega) (by omega) CP.zero (Nat.lt_succ_self _)

set_option maxHeartbeats 4000000 in
theorem s_M_take {ξ : Nat → Option (Nat × List Int32)} {c io mo fa pl ns rw en wy wh bi ed sz md bd li wk we : Int} {Lc : List Int64} {la lm ln lh ld lk lt : List Int32} (d : Nat) (x : Int) (σ : qH) (hM : MS σ c io mo fa pl ns rw en wy wh bi ed sz md bd li wk we Lc la lm ln lh ld lk lt) (rx : -2147483648 ≤ x ∧ x ≤ 2147483647) (pre0 : 0 ≤ x) (pre1 : x ≤ 16) (pre2 : 0 ≤ bi) (pre3 : bi ≤ ed) (pre4 : ed ≤ 64000) (pre5 : ed % 8 = 0) : T ξ (d + 1) j_M_take 0 (lv_args 0 [.ref 137, J x]) [] σ (fun v σ' => ∃ (z : Int) (bi1 : Int) (bd1 : Int), v = some (J z) ∧ MS σ' c io mo fa pl ns rw en wy wh bi1 ed sz md bd1 li wk we Lc la lm ln lh ld lk lt ∧ FM σ σ' ∧ 0 ≤ z ∧ z ≤ 65535 ∧ bi ≤ bi1 ∧ bi1 ≤ ed ∧ bd ≤ bd1 ∧ z < P2 x ∧ (1 ≤ x → (bi + 1 ≤ bi1 ∨ bd1 = 1))) := by
  have r0 := hM.rg
  have n0 := hM.len
  have e2_0 : P2 0 = 1 := by decide
  have ex := P2_le (k := x) (by omega)
  have loop4 : ∀ (f4 : Nat) (v : Int) (k : Int) (bi9 : Int) (bd9 : Int) (τ : qH), MS τ c io mo fa pl ns rw en wy wh bi9 ed sz md bd9 li wk we Lc la lm ln lh ld lk lt → FM σ τ → 0 ≤ k → k ≤ x → 0 ≤ v → v < P2 k → bi ≤ bi9 → bi9 ≤ ed → bd ≤ bd9 → (1 ≤ k → bi + 1 ≤ bi9) → (x - k).toNat < f4 → T ξ (d + 1) j_M_take 4 [(0, .ref 137), (1, J x), (2, J v), (3, J k)] [] τ (fun v σ' => ∃ (z : Int) (bi1 : Int) (bd1 : Int), v = some (J z) ∧ MS σ' c io mo fa pl ns rw en wy wh bi1 ed sz md bd1 li wk we Lc la lm ln lh ld lk lt ∧ FM σ σ' ∧ 0 ≤ z ∧ z ≤ 65535 ∧ bi ≤ bi1 ∧ bi1 ≤ ed ∧ bd ≤ bd1 ∧ z < P2 x ∧ (1 ≤ x → (bi + 1 ≤ bi1 ∨ bd1 = 1))) := by
    intro f4
    induction f4 with
    | zero => intro v k bi9 bd9 τ mτ fτ i0 i1 i2 i3 i4 i5 i6 i7 hm4; omega
    | succ f4 ih4 =>
      intro v k bi9 bd9 τ mτ fτ i0 i1 i2 i3 i4 i5 i6 i7 hm4
      have rτ := mτ.rg
      have nτ := mτ.len
      have ek := P2_le (k := k) (by omega)
      have es := P2_s (k := k) (by omega)
      refine T.go 2 (fun n9 => (rfl : _ = exe ξ n9 (d + 1) j_M_take 6 [(0, .ref 137), (1, J x), (2, J v), (3, J k)] [J x, J k] τ)) ?_
      refine T.icmp_ge rfl rfl (by omega) (by omega) (fun c1 => ?_) (fun c1 => ?_)
      · refine T.go 1 (fun n9 => (rfl : _ = exe ξ n9 (d + 1) j_M_take 92 [(0, .ref 137), (1, J x), (2, J v), (3, J k)] [J v] τ)) ?_
        exact T.ireti rfl rfl ⟨_, bi9, bd9, rfl, mτ, fτ, by omega, by omega, by omega, by omega, by omega, (by first | omega | (have e9 : k = x := (by omega); rw [← e9]; omega)), by omega⟩
      · refine T.go 2 (fun n9 => (rfl : _ = exe ξ n9 (d + 1) j_M_take 11 [(0, .ref 137), (1, J x), (2, J v), (3, J k)] [.ref 137, .ref 137] τ)) ?_
        refine T.get rfl rfl rfl mτ.ob rfl ?_
        refine T.if_ne rfl rfl (by omega) (fun c2 => ?_) (fun c2 => ?_)
        · refine T.go 2 (fun n9 => (rfl : _ = exe ξ n9 (d + 1) j_M_take 33 [(0, .ref 137), (1, J x), (2, J v), (3, J k)] [J 1, .ref 137] τ)) ?_
          refine T.mput (c' := c) (io' := io) (mo' := mo) (fa' := fa) (pl' := pl) (ns' := ns) (rw' := rw) (en' := en) (wy' := wy) (wh' := wh) (bi' := bi9) (ed' := ed) (sz' := sz) (md' := md) (bd' := 1) (li' := li) (wk' := wk) (we' := we) mτ rfl rfl rfl rfl rfl rfl (by omega) (fun s1 ms1 fs1 => ?_)
          have gs1 := fτ.trans fs1
          refine T.go 1 (fun n9 => (rfl : _ = exe ξ n9 (d + 1) j_M_take 37 [(0, .ref 137), (1, J x), (2, J v), (3, J k)] [.ref 137] s1)) ?_
          refine T.get rfl rfl rfl ms1.ob rfl ?_
          refine T.go 2 (fun n9 => (rfl : _ = exe ξ n9 (d + 1) j_M_take 44 [(0, .ref 137), (1, J x), (2, J v), (3, J k)] [J 0] s1)) ?_
          exact T.ireti rfl rfl ⟨_, bi9, 1, rfl, ms1, gs1, by omega, by omega, by omega, by omega, by omega, (by first | omega | (have e9 : k = x := (by omega); rw [← e9]; omega)), by omega⟩
        · refine T.go 1 (fun n9 => (rfl : _ = exe ξ n9 (d + 1) j_M_take 18 [(0, .ref 137), (1, J x), (2, J v), (3, J k)] [.ref 137, .ref 137] τ)) ?_
          refine T.get rfl rfl rfl mτ.ob rfl ?_
          refine T.go 1 (fun n9 => (rfl : _ = exe ξ n9 (d + 1) j_M_take 22 [(0, .ref 137), (1, J x), (2, J v), (3, J k)] [.ref 137, J bi9, .ref 137] τ)) ?_
          refine T.get rfl rfl rfl mτ.ob rfl ?_
          refine T.icmp_lt rfl rfl (by omega) (by omega) (fun c3 => ?_) (fun c3 => ?_)
          · refine T.go 1 (fun n9 => (rfl : _ = exe ξ n9 (d + 1) j_M_take 33 [(0, .ref 137), (1, J x), (2, J v), (3, J k)] [J 0, .ref 137] τ)) ?_
            refine T.mput (c' := c) (io' := io) (mo' := mo) (fa' := fa) (pl' := pl) (ns' := ns) (rw' := rw) (en' := en) (wy' := wy) (wh' := wh) (bi' := bi9) (ed' := ed) (sz' := sz) (md' := md) (bd' := 0) (li' := li) (wk' := wk) (we' := we) mτ rfl rfl rfl rfl rfl rfl (by omega) (fun s2 ms2 fs2 => ?_)
            have gs2 := fτ.trans fs2
            refine T.go 1 (fun n9 => (rfl : _ = exe ξ n9 (d + 1) j_M_take 37 [(0, .ref 137), (1, J x), (2, J v), (3, J k)] [.ref 137] s2)) ?_
            refine T.get rfl rfl rfl ms2.ob rfl ?_
            refine T.go 4 (fun n9 => (rfl : _ = exe ξ n9 (d + 1) j_M_take 48 [(0, .ref 137), (1, J x), (2, J v), (3, J k)] [.ref 137, .ref 137, J v] s2)) ?_
            refine T.get rfl rfl rfl ms2.ob rfl ?_
            refine T.go 1 (fun n9 => (rfl : _ = exe ξ n9 (d + 1) j_M_take 52 [(0, .ref 137), (1, J x), (2, J v), (3, J k)] [.ref 137, J rw, .ref 137, J v] s2)) ?_
            refine T.get rfl rfl rfl ms2.ob rfl ?_
            refine T.go 1 (fun n9 => (rfl : _ = exe ξ n9 (d + 1) j_M_take 57 [(0, .ref 137), (1, J x), (2, J v), (3, J k)] [J 8, J bi9, J rw, .ref 137, J v] s2)) ?_
            refine T.idivc (c := 8) rfl (by decide) (by omega) ?_
            refine T.callv (as := [J rw, J (bi9 / 8)]) (r := [J v]) rfl rfl rfl rfl ms2.ob rfl (s_M_get d rw (bi9 / 8) s2 ms2 (by omega)) (fun v1 s3 hqs3 => ?_)
            obtain ⟨z2, rfl, esz2, hzz2, hyz2, pz2_0⟩ := hqs3
            rw [esz2]
            refine T.go 1 (fun n9 => (rfl : _ = exe ξ n9 (d + 1) j_M_take 62 [(0, .ref 137), (1, J x), (2, J v), (3, J k)] [.ref 137, J z2, J v] s2)) ?_
            refine T.get rfl rfl rfl ms2.ob rfl ?_
            refine T.go 1 (fun n9 => (rfl : _ = exe ξ n9 (d + 1) j_M_take 67 [(0, .ref 137), (1, J x), (2, J v), (3, J k)] [J 8, J bi9, J z2, J v] s2)) ?_
            refine T.iremc (c := 8) rfl (by decide) (by omega) ?_
            refine T.some1 rfl rfl (fun z4 hzz4 hyz4 _ => ?_)
            refine T.go 1 (fun n9 => (rfl : _ = exe ξ n9 (d + 1) j_M_take 70 [(0, .ref 137), (1, J x), (2, J v), (3, J k)] [J 1, J z4, J v] s2)) ?_
            refine T.iandm (p := 2) 1 rfl (by decide) (by decide) (by decide) (by omega) ?_
            refine T.go 1 (fun n9 => (rfl : _ = exe ξ n9 (d + 1) j_M_take 72 [(0, .ref 137), (1, J x), (2, J v), (3, J k)] [J k, J (z4 % 2), J v] s2)) ?_
            refine T.ishlq rfl (by omega) (by omega) (fun z6 hzz6 hyz6 hvz6 hwz6 huz6 => ?_)
            refine T.iorp (k := k) rfl (by omega) (by omega) (by omega) ?_
            refine T.go 3 (fun n9 => (rfl : _ = exe ξ n9 (d + 1) j_M_take 77 [(0, .ref 137), (1, J x), (2, J (v + z6)), (3, J k)] [.ref 137, .ref 137] s2)) ?_
            refine T.get rfl rfl rfl ms2.ob rfl ?_
            refine T.go 1 (fun n9 => (rfl : _ = exe ξ n9 (d + 1) j_M_take 81 [(0, .ref 137), (1, J x), (2, J (v + z6)), (3, J k)] [J 1, J bi9, .ref 137] s2)) ?_
            refine T.iadd rfl ?_
            refine T.mput (c' := c) (io' := io) (mo' := mo) (fa' := fa) (pl' := pl) (ns' := ns) (rw' := rw) (en' := en) (wy' := wy) (wh' := wh) (bi' := bi9 + 1) (ed' := ed) (sz' := sz) (md' := md) (bd' := 0) (li' := li) (wk' := wk) (we' := we) ms2 rfl rfl rfl rfl rfl rfl (by omega) (fun s4 ms4 fs4 => ?_)
            have gs4 := gs2.trans fs4
            refine T.iinc (lv' := [(0, .ref 137), (1, J x), (2, J (v + z6)), (3, J (k + 1))]) rfl rfl rfl rfl ?_
            refine T.go 1 (fun n9 => (rfl : _ = exe ξ n9 (d + 1) j_M_take 4 [(0, .ref 137), (1, J x), (2, J (v + z6)), (3, J (k + 1))] [] s4)) ?_
            exact ih4  (v + z6) (k + 1) (bi9 + 1) 0 s4 ms4 gs4 (by omega) (by omega) (by omega) (by omega) (by omega) (by omega) (by omega) (by omega) (by omega)
          · refine T.go 2 (fun n9 => (rfl : _ = exe ξ n9 (d + 1) j_M_take 33 [(0, .ref 137), (1, J x), (2, J v), (3, J k)] [J 1, .ref 137] τ)) ?_
            refine T.mput (c' := c) (io' := io) (mo' := mo) (fa' := fa) (pl' := pl) (ns' := ns) (rw' := rw) (en' := en) (wy' := wy) (wh' := wh) (bi' := bi9) (ed' := ed) (sz' := sz) (md' := md) (bd' := 1) (li' := li) (wk' := wk) (we' := we) mτ rfl rfl rfl rfl rfl rfl (by omega) (fun s5 ms5 fs5 => ?_)
            have gs5 := fτ.trans fs5
            refine T.go 1 (fun n9 => (rfl : _ = exe ξ n9 (d + 1) j_M_take 37 [(0, .ref 137), (1, J x), (2, J v), (3, J k)] [.ref 137] s5)) ?_
            refine T.get rfl rfl rfl ms5.ob rfl ?_
            refine T.go 2 (fun n9 => (rfl : _ = exe ξ n9 (d + 1) j_M_take 44 [(0, .ref 137), (1, J x), (2, J v), (3, J k)] [J 0] s5)) ?_
            exact T.ireti rfl rfl ⟨_, bi9, 1, rfl, ms5, gs5, by omega, by omega, by omega, by omega, by omega, (by first | omega | (have e9 : k = x := (by omega); rw [← e9]; omega)), by omega⟩
  refine T.go 4 (fun n9 => (rfl : _ = exe ξ n9 (d + 1) j_M_take 4 [(0, .ref 137), (1, J x), (2, J 0), (3, J 0)] [] σ)) ?_
  exact loop4 _ 0 0 bi bd σ hM FM.refl (by omega) (by omega) (by omega) (by omega) (by omega) (by omega) (by omega) (by omega) (Nat.lt_succ_self _)

set_option maxHeartbeats 4000000 in
theorem s_M_out {ξ : Nat → Option (Nat × List Int32)} {c io mo fa pl ns rw en wy wh bi ed sz md bd li wk we : Int} {Lc : List Int64} {la lm ln lh ld lk lt : List Int32} (d : Nat) (x : Int) (σ : qH) (hM : MS σ c io mo fa pl ns rw en wy wh bi ed sz md bd li wk we Lc la lm ln lh ld lk lt) (rx : -2147483648 ≤ x ∧ x ≤ 2147483647) (pre0 : 0 ≤ md) (pre1 : md ≤ sz) (pre2 : sz ≤ 8000) : T ξ (d + 1) j_M_out 0 (lv_args 0 [.ref 137, J x]) [] σ (fun v σ' => ∃ (md1 : Int) (bd1 : Int) (Lc1 : List Int64), v = none ∧ MS σ' c io mo fa pl ns rw en wy wh bi ed sz md1 bd1 li wk we Lc1 la lm ln lh ld lk lt ∧ FM σ σ' ∧ RG [4] Lc Lc1 ∧ md ≤ md1 ∧ md1 ≤ sz ∧ bd ≤ bd1) := by
  have r0 := hM.rg
  have n0 := hM.len
  refine T.go 2 (fun n9 => (rfl : _ = exe ξ n9 (d + 1) j_M_out 2 [(0, .ref 137), (1, J x)] [.ref 137, .ref 137] σ)) ?_
  refine T.get rfl rfl rfl hM.ob rfl ?_
  refine T.if_ne rfl rfl (by omega) (fun c1 => ?_) (fun c1 => ?_)
  · refine T.go 2 (fun n9 => (rfl : _ = exe ξ n9 (d + 1) j_M_out 24 [(0, .ref 137), (1, J x)] [J 1, .ref 137] σ)) ?_
    refine T.mput (c' := c) (io' := io) (mo' := mo) (fa' := fa) (pl' := pl) (ns' := ns) (rw' := rw) (en' := en) (wy' := wy) (wh' := wh) (bi' := bi) (ed' := ed) (sz' := sz) (md' := md) (bd' := 1) (li' := li) (wk' := wk) (we' := we) hM rfl rfl rfl rfl rfl rfl (by omega) (fun s1 ms1 fs1 => ?_)
    refine T.go 1 (fun n9 => (rfl : _ = exe ξ n9 (d + 1) j_M_out 28 [(0, .ref 137), (1, J x)] [.ref 137] s1)) ?_
    refine T.get rfl rfl rfl ms1.ob rfl ?_
    refine T.go 1 (fun n9 => (rfl : _ = exe ξ n9 (d + 1) j_M_out 34 [(0, .ref 137), (1, J x)] [] s1)) ?_
    exact T.vret rfl rfl ⟨md, 1, Lc, rfl, ms1, fs1, RG.refl, by omega, by omega, by omega⟩
  · refine T.go 1 (fun n9 => (rfl : _ = exe ξ n9 (d + 1) j_M_out 9 [(0, .ref 137), (1, J x)] [.ref 137, .ref 137] σ)) ?_
    refine T.get rfl rfl rfl hM.ob rfl ?_
    refine T.go 1 (fun n9 => (rfl : _ = exe ξ n9 (d + 1) j_M_out 13 [(0, .ref 137), (1, J x)] [.ref 137, J md, .ref 137] σ)) ?_
    refine T.get rfl rfl rfl hM.ob rfl ?_
    refine T.icmp_ne rfl rfl (by omega) (by omega) (fun c2 => ?_) (fun c2 => ?_)
    · refine T.go 1 (fun n9 => (rfl : _ = exe ξ n9 (d + 1) j_M_out 24 [(0, .ref 137), (1, J x)] [J 0, .ref 137] σ)) ?_
      refine T.mput (c' := c) (io' := io) (mo' := mo) (fa' := fa) (pl' := pl) (ns' := ns) (rw' := rw) (en' := en) (wy' := wy) (wh' := wh) (bi' := bi) (ed' := ed) (sz' := sz) (md' := md) (bd' := 0) (li' := li) (wk' := wk) (we' := we) hM rfl rfl rfl rfl rfl rfl (by omega) (fun s2 ms2 fs2 => ?_)
      refine T.go 1 (fun n9 => (rfl : _ = exe ξ n9 (d + 1) j_M_out 28 [(0, .ref 137), (1, J x)] [.ref 137] s2)) ?_
      refine T.get rfl rfl rfl ms2.ob rfl ?_
      refine T.go 4 (fun n9 => (rfl : _ = exe ξ n9 (d + 1) j_M_out 38 [(0, .ref 137), (1, J x)] [.ref 137, J 4, .ref 137] s2)) ?_
      refine T.get rfl rfl rfl ms2.ob rfl ?_
      refine T.go 1 (fun n9 => (rfl : _ = exe ξ n9 (d + 1) j_M_out 42 [(0, .ref 137), (1, J x)] [J x, J md, J 4, .ref 137] s2)) ?_
      refine T.callv (as := [J 4, J md, J x]) (r := []) rfl rfl rfl rfl ms2.ob rfl (s_M_put d 4 md x s2 ms2 (by omega) (by omega) (by omega) (by omega) (by omega) (by omega) (by omega)) (fun v1 s3 hqs3 => ?_)
      obtain ⟨Lc_1, rfl, ms3, fs3, pz1_0⟩ := hqs3
      have ns3 := ms3.len
      have rs3 := ms3.rg
      have gs3 := fs2.trans fs3
      have rgs3 := (RG.refl (S := [4])).trans pz1_0 (by decide)
      refine T.go 2 (fun n9 => (rfl : _ = exe ξ n9 (d + 1) j_M_out 47 [(0, .ref 137), (1, J x)] [.ref 137, .ref 137] s3)) ?_
      refine T.get rfl rfl rfl ms3.ob rfl ?_
      refine T.go 1 (fun n9 => (rfl : _ = exe ξ n9 (d + 1) j_M_out 51 [(0, .ref 137), (1, J x)] [J 1, J md, .ref 137] s3)) ?_
      refine T.iadd rfl ?_
      refine T.mput (c' := c) (io' := io) (mo' := mo) (fa' := fa) (pl' := pl) (ns' := ns) (rw' := rw) (en' := en) (wy' := wy) (wh' := wh) (bi' := bi) (ed' := ed) (sz' := sz) (md' := md + 1) (bd' := 0) (li' := li) (wk' := wk) (we' := we) ms3 rfl rfl rfl rfl rfl rfl (by omega) (fun s4 ms4 fs4 => ?_)
      have gs4 := gs3.trans fs4
      exact T.vret rfl rfl ⟨(md + 1), 0, Lc_1, rfl, ms4, gs4, rgs3, by omega, by omega, by omega⟩
    · refine T.go 2 (fun n9 => (rfl : _ = exe ξ n9 (d + 1) j_M_out 24 [(0, .ref 137), (1, J x)] [J 1, .ref 137] σ)) ?_
      refine T.mput (c' := c) (io' := io) (mo' := mo) (fa' := fa) (pl' := pl) (ns' := ns) (rw' := rw) (en' := en) (wy' := wy) (wh' := wh) (bi' := bi) (ed' := ed) (sz' := sz) (md' := md) (bd' := 1) (li' := li) (wk' := wk) (we' := we) hM rfl rfl rfl rfl rfl rfl (by omega) (fun s5 ms5 fs5 => ?_)
      refine T.go 1 (fun n9 => (rfl : _ = exe ξ n9 (d + 1) j_M_out 28 [(0, .ref 137), (1, J x)] [.ref 137] s5)) ?_
      refine T.get rfl rfl rfl ms5.ob rfl ?_
      refine T.go 1 (fun n9 => (rfl : _ = exe ξ n9 (d + 1) j_M_out 34 [(0, .ref 137), (1, J x)] [] s5)) ?_
      exact T.vret rfl rfl ⟨md, 1, Lc, rfl, ms5, fs5, RG.refl, by omega, by omega, by omega⟩

set_option maxHeartbeats 4000000 in
theorem s_M_plainBlock {ξ : Nat → Option (Nat × List Int32)} {c io mo fa pl ns rw en wy wh bi ed sz md bd li wk we : Int} {Lc : List Int64} {la lm ln lh ld lk lt : List Int32} (d : Nat)  (σ : qH) (hM : MS σ c io mo fa pl ns rw en wy wh bi ed sz md bd li wk we Lc la lm ln lh ld lk lt) (pre0 : 0 ≤ bi) (pre1 : bi ≤ ed) (pre2 : ed ≤ 64000) (pre3 : ed % 8 = 0) (pre4 : 0 ≤ md) (pre5 : md ≤ sz) (pre6 : sz ≤ 8000) : T ξ (d + 2) j_M_plainBlock 0 (lv_args 0 [.ref 137]) [] σ (fun v σ' => ∃ (bi1 : Int) (md1 : Int) (bd1 : Int) (Lc1 : List Int64), v = none ∧ MS σ' c io mo fa pl ns rw en wy wh bi1 ed sz md1 bd1 li wk we Lc1 la lm ln lh ld lk lt ∧ FM σ σ' ∧ RG [4] Lc Lc1 ∧ bi ≤ bi1 ∧ bi1 ≤ ed ∧ bd ≤ bd1 ∧ md ≤ md1 ∧ md1 ≤ sz) := by
  have r0 := hM.rg
  have n0 := hM.len
  have loop57 : ∀ (f57 : Nat) (n : Int) (u : Int) (k : Int) (bi9 : Int) (md9 : Int) (bd9 : Int) (Lc9 : List Int64) (τ : qH), MS τ c io mo fa pl ns rw en wy wh bi9 ed sz md9 bd9 li wk we Lc9 la lm ln lh ld lk lt → FM σ τ → RG [4] Lc Lc9 → bi ≤ bi9 → bi9 ≤ ed → bd ≤ bd9 → md ≤ md9 → md9 ≤ sz → 0 ≤ n → n ≤ 65535 → 0 ≤ k → k ≤ n → (n - k).toNat < f57 → T ξ (d + 2) j_M_plainBlock 57 [(0, .ref 137), (1, J n), (2, J u), (3, J k)] [] τ (fun v σ' => ∃ (bi1 : Int) (md1 : Int) (bd1 : Int) (Lc1 : List Int64), v = none ∧ MS σ' c io mo fa pl ns rw en wy wh bi1 ed sz md1 bd1 li wk we Lc1 la lm ln lh ld lk lt ∧ FM σ σ' ∧ RG [4] Lc Lc1 ∧ bi ≤ bi1 ∧ bi1 ≤ ed ∧ bd ≤ bd1 ∧ md ≤ md1 ∧ md1 ≤ sz) := by
    intro f57
    induction f57 with
    | zero => intro n u k bi9 md9 bd9 Lc9 τ mτ fτ gτ i0 i1 i2 i3 i4 i5 i6 i7 i8 hm57; omega
    | succ f57 ih57 =>
      intro n u k bi9 md9 bd9 Lc9 τ mτ fτ gτ i0 i1 i2 i3 i4 i5 i6 i7 i8 hm57
      have rτ := mτ.rg
      have nτ := mτ.len
      refine T.go 2 (fun n9 => (rfl : _ = exe ξ n9 (d + 2) j_M_plainBlock 59 [(0, .ref 137), (1, J n), (2, J u), (3, J k)] [J n, J k] τ)) ?_
      refine T.icmp_ge rfl rfl (by omega) (by omega) (fun c1 => ?_) (fun c1 => ?_)
      · exact T.vret rfl rfl ⟨bi9, md9, bd9, Lc9, rfl, mτ, fτ, gτ, by omega, by omega, by omega, by omega, by omega⟩
      · refine T.go 1 (fun n9 => (rfl : _ = exe ξ n9 (d + 2) j_M_plainBlock 63 [(0, .ref 137), (1, J n), (2, J u), (3, J k)] [.ref 137] τ)) ?_
        refine T.get rfl rfl rfl mτ.ob rfl ?_
        refine T.if_ne rfl rfl (by omega) (fun c2 => ?_) (fun c2 => ?_)
        · exact T.vret rfl rfl ⟨bi9, md9, bd9, Lc9, rfl, mτ, fτ, gτ, by omega, by omega, by omega, by omega, by omega⟩
        · refine T.go 3 (fun n9 => (rfl : _ = exe ξ n9 (d + 2) j_M_plainBlock 73 [(0, .ref 137), (1, J n), (2, J u), (3, J k)] [J 8, .ref 137, .ref 137] τ)) ?_
          refine T.callv (as := [J 8]) (r := [.ref 137]) rfl rfl rfl rfl mτ.ob rfl (s_M_take d 8 τ mτ (by omega) (by omega) (by omega) (by omega) (by omega) (by omega) (by omega)) (fun v1 s1 hqs1 => ?_)
          obtain ⟨z1, bi_1, bd_1, rfl, ms1, fs1, hzz1, hyz1, pz1_0, pz1_1, pz1_2, pz1_3, pz1_4⟩ := hqs1
          have ns1 := ms1.len
          have rs1 := ms1.rg
          have gs1 := fτ.trans fs1
          refine T.callv (as := [J z1]) (r := []) rfl rfl rfl rfl ms1.ob rfl (s_M_out d z1 s1 ms1 (by omega) (by omega) (by omega) (by omega)) (fun v2 s2 hqs2 => ?_)
          obtain ⟨md_1, bd_2, Lc_1, rfl, ms2, fs2, pz2_0, pz2_1, pz2_2, pz2_3⟩ := hqs2
          have ns2 := ms2.len
          have rs2 := ms2.rg
          have gs2 := gs1.trans fs2
          have rgs2 := gτ.trans pz2_0 (by decide)
          refine T.iinc (lv' := [(0, .ref 137), (1, J n), (2, J u), (3, J (k + 1))]) rfl rfl rfl rfl ?_
          refine T.go 1 (fun n9 => (rfl : _ = exe ξ n9 (d + 2) j_M_plainBlock 57 [(0, .ref 137), (1, J n), (2, J u), (3, J (k + 1))] [] s2)) ?_
          exact ih57  n u (k + 1) bi_1 md_1 bd_2 Lc_1 s2 ms2 gs2 rgs2 (by omega) (by omega) (by omega) (by omega) (by omega) (by omega) (by omega) (by omega) (by omega) (by omega)
  refine T.go 2 (fun n9 => (rfl : _ = exe ξ n9 (d + 2) j_M_plainBlock 2 [(0, .ref 137)] [.ref 137, .ref 137] σ)) ?_
  refine T.get rfl rfl rfl hM.ob rfl ?_
  refine T.go 1 (fun n9 => (rfl : _ = exe ξ n9 (d + 2) j_M_plainBlock 7 [(0, .ref 137)] [J 7, J bi, .ref 137] σ)) ?_
  refine T.iadd rfl ?_
  refine T.go 1 (fun n9 => (rfl : _ = exe ξ n9 (d + 2) j_M_plainBlock 10 [(0, .ref 137)] [J 8, J (bi + 7), .ref 137] σ)) ?_
  refine T.idivc (c := 8) rfl (by decide) (by omega) ?_
  refine T.go 1 (fun n9 => (rfl : _ = exe ξ n9 (d + 2) j_M_plainBlock 13 [(0, .ref 137)] [J 8, J ((bi + 7) / 8), .ref 137] σ)) ?_
  refine T.imul rfl ?_
  refine T.mput (c' := c) (io' := io) (mo' := mo) (fa' := fa) (pl' := pl) (ns' := ns) (rw' := rw) (en' := en) (wy' := wy) (wh' := wh) (bi' := ((bi + 7) / 8) * 8) (ed' := ed) (sz' := sz) (md' := md) (bd' := bd) (li' := li) (wk' := wk) (we' := we) hM rfl rfl rfl rfl rfl rfl (by omega) (fun s3 ms3 fs3 => ?_)
  refine T.go 2 (fun n9 => (rfl : _ = exe ξ n9 (d + 2) j_M_plainBlock 20 [(0, .ref 137)] [J 16, .ref 137] s3)) ?_
  refine T.callv (as := [J 16]) (r := []) rfl rfl rfl rfl ms3.ob rfl (s_M_take d 16 s3 ms3 (by omega) (by omega) (by omega) (by omega) (by omega) (by omega) (by omega)) (fun v3 s4 hqs4 => ?_)
  obtain ⟨z4, bi_2, bd_3, rfl, ms4, fs4, hzz4, hyz4, pz4_0, pz4_1, pz4_2, pz4_3, pz4_4⟩ := hqs4
  have ns4 := ms4.len
  have rs4 := ms4.rg
  have gs4 := fs3.trans fs4
  refine T.go 3 (fun n9 => (rfl : _ = exe ξ n9 (d + 2) j_M_plainBlock 27 [(0, .ref 137), (1, J z4)] [J 16, .ref 137] s4)) ?_
  refine T.callv (as := [J 16]) (r := []) rfl rfl rfl rfl ms4.ob rfl (s_M_take d 16 s4 ms4 (by omega) (by omega) (by omega) (by omega) (by omega) (by omega) (by omega)) (fun v4 s5 hqs5 => ?_)
  obtain ⟨z5, bi_3, bd_4, rfl, ms5, fs5, hzz5, hyz5, pz5_0, pz5_1, pz5_2, pz5_3, pz5_4⟩ := hqs5
  have ns5 := ms5.len
  have rs5 := ms5.rg
  have gs5 := gs4.trans fs5
  refine T.go 3 (fun n9 => (rfl : _ = exe ξ n9 (d + 2) j_M_plainBlock 33 [(0, .ref 137), (1, J z4), (2, J z5)] [.ref 137, .ref 137] s5)) ?_
  refine T.get rfl rfl rfl ms5.ob rfl ?_
  refine T.if_ne rfl rfl (by omega) (fun c3 => ?_) (fun c3 => ?_)
  · refine T.go 2 (fun n9 => (rfl : _ = exe ξ n9 (d + 2) j_M_plainBlock 52 [(0, .ref 137), (1, J z4), (2, J z5)] [J 1, .ref 137] s5)) ?_
    refine T.mput (c' := c) (io' := io) (mo' := mo) (fa' := fa) (pl' := pl) (ns' := ns) (rw' := rw) (en' := en) (wy' := wy) (wh' := wh) (bi' := bi_3) (ed' := ed) (sz' := sz) (md' := md) (bd' := 1) (li' := li) (wk' := wk) (we' := we) ms5 rfl rfl rfl rfl rfl rfl (by omega) (fun s6 ms6 fs6 => ?_)
    have gs6 := gs5.trans fs6
    refine T.go 2 (fun n9 => (rfl : _ = exe ξ n9 (d + 2) j_M_plainBlock 57 [(0, .ref 137), (1, J z4), (2, J z5), (3, J 0)] [] s6)) ?_
    exact loop57 _ z4 z5 0 bi_3 md 1 Lc s6 ms6 gs6 RG.refl (by omega) (by omega) (by omega) (by omega) (by omega) (by omega) (by omega) (by omega) (by omega) (Nat.lt_succ_self _)
  · refine T.go 2 (fun n9 => (rfl : _ = exe ξ n9 (d + 2) j_M_plainBlock 41 [(0, .ref 137), (1, J z4), (2, J z5)] [J z5, J z4, .ref 137] s5)) ?_
    refine T.some1 rfl rfl (fun z6 hzz6 hyz6 _ => ?_)
    refine T.go 1 (fun n9 => (rfl : _ = exe ξ n9 (d + 2) j_M_plainBlock 44 [(0, .ref 137), (1, J z4), (2, J z5)] [J 65535, J z6, .ref 137] s5)) ?_
    refine T.icmp_eq rfl rfl (by omega) (by omega) (fun c4 => ?_) (fun c4 => ?_)
    · refine T.go 1 (fun n9 => (rfl : _ = exe ξ n9 (d + 2) j_M_plainBlock 52 [(0, .ref 137), (1, J z4), (2, J z5)] [J 0, .ref 137] s5)) ?_
      refine T.mput (c' := c) (io' := io) (mo' := mo) (fa' := fa) (pl' := pl) (ns' := ns) (rw' := rw) (en' := en) (wy' := wy) (wh' := wh) (bi' := bi_3) (ed' := ed) (sz' := sz) (md' := md) (bd' := 0) (li' := li) (wk' := wk) (we' := we) ms5 rfl rfl rfl rfl rfl rfl (by omega) (fun s7 ms7 fs7 => ?_)
      have gs7 := gs5.trans fs7
      refine T.go 2 (fun n9 => (rfl : _ = exe ξ n9 (d + 2) j_M_plainBlock 57 [(0, .ref 137), (1, J z4), (2, J z5), (3, J 0)] [] s7)) ?_
      exact loop57 _ z4 z5 0 bi_3 md 0 Lc s7 ms7 gs7 RG.refl (by omega) (by omega) (by omega) (by omega) (by omega) (by omega) (by omega) (by omega) (by omega) (Nat.lt_succ_self _)
    · refine T.go 2 (fun n9 => (rfl : _ = exe ξ n9 (d + 2) j_M_plainBlock 52 [(0, .ref 137), (1, J z4), (2, J z5)] [J 1, .ref 137] s5)) ?_
      refine T.mput (c' := c) (io' := io) (mo' := mo) (fa' := fa) (pl' := pl) (ns' := ns) (rw' := rw) (en' := en) (wy' := wy) (wh' := wh) (bi' := bi_3) (ed' := ed) (sz' := sz) (md' := md) (bd' := 1) (li' := li) (wk' := wk) (we' := we) ms5 rfl rfl rfl rfl rfl rfl (by omega) (fun s8 ms8 fs8 => ?_)
      have gs8 := gs5.trans fs8
      refine T.go 2 (fun n9 => (rfl : _ = exe ξ n9 (d + 2) j_M_plainBlock 57 [(0, .ref 137), (1, J z4), (2, J z5), (3, J 0)] [] s8)) ?_
      exact loop57 _ z4 z5 0 bi_3 md 1 Lc s8 ms8 gs8 RG.refl (by omega) (by omega) (by omega) (by omega) (by omega) (by omega) (by omega) (by omega) (by omega) (Nat.lt_succ_self _)

set_option maxHeartbeats 4000000 in
theorem s_M_many {ξ : Nat → Option (Nat × List Int32)} {c io mo fa pl ns rw en wy wh bi ed sz md bd li wk we : Int} {Lc : List Int64} {la lm ln lh ld lk lt : List Int32} (d : Nat) (x : Int) (y : Int) (u : Int) (σ : qH) (hM : MS σ c io mo fa pl ns rw en wy wh bi ed sz md bd li wk we Lc la lm ln lh ld lk lt) (rx : -2147483648 ≤ x ∧ x ≤ 2147483647) (ry : -2147483648 ≤ y ∧ y ≤ 2147483647) (ru : -2147483648 ≤ u ∧ u ≤ 2147483647) (pre0 : 0 ≤ x) (pre1 : 0 ≤ y) (pre2 : x + y ≤ 360) : T ξ d j_M_many 0 (lv_args 0 [.ref 137, J x, J y, J u]) [] σ (fun v σ' => ∃ (z : Int), v = some (J z) ∧ σ' = σ ∧ 0 ≤ z ∧ z ≤ 360 ∧ z ≤ y) := by
  have r0 := hM.rg
  have n0 := hM.len
  have loop6 : ∀ (f6 : Nat) (n : Int) (k : Int), 0 ≤ n → n ≤ k → 0 ≤ k → k ≤ y → (y - k).toNat < f6 → T ξ d j_M_many 6 [(0, .ref 137), (1, J x), (2, J y), (3, J u), (4, J n), (5, J k)] [] σ (fun v σ' => ∃ (z : Int), v = some (J z) ∧ σ' = σ ∧ 0 ≤ z ∧ z ≤ 360 ∧ z ≤ y) := by
    intro f6
    induction f6 with
    | zero => intro n k i0 i1 i2 i3 hm6; omega
    | succ f6 ih6 =>
      intro n k i0 i1 i2 i3 hm6
      refine T.go 2 (fun n9 => (rfl : _ = exe ξ n9 d j_M_many 9 [(0, .ref 137), (1, J x), (2, J y), (3, J u), (4, J n), (5, J k)] [J y, J k] σ)) ?_
      refine T.icmp_ge rfl rfl (by omega) (by omega) (fun c1 => ?_) (fun c1 => ?_)
      · refine T.go 1 (fun n9 => (rfl : _ = exe ξ n9 d j_M_many 43 [(0, .ref 137), (1, J x), (2, J y), (3, J u), (4, J n), (5, J k)] [J n] σ)) ?_
        exact T.ireti rfl rfl ⟨_, rfl, rfl, by omega, by omega, by omega⟩
      · refine T.go 2 (fun n9 => (rfl : _ = exe ξ n9 d j_M_many 15 [(0, .ref 137), (1, J x), (2, J y), (3, J u), (4, J n), (5, J k)] [.ref 137, J n] σ)) ?_
        refine T.get rfl rfl rfl hM.ob rfl ?_
        refine T.go 2 (fun n9 => (rfl : _ = exe ξ n9 d j_M_many 21 [(0, .ref 137), (1, J x), (2, J y), (3, J u), (4, J n), (5, J k)] [J k, J x, .ref 144, J n] σ)) ?_
        refine T.iadd rfl ?_
        refine T.iald rfl rfl hM.c144 (by omega) (fun z1 hzz1 hyz1 hez1 => ?_)
        refine T.go 1 (fun n9 => (rfl : _ = exe ξ n9 d j_M_many 24 [(0, .ref 137), (1, J x), (2, J y), (3, J u), (4, J n), (5, J k)] [J u, J z1, J n] σ)) ?_
        refine T.icmp_ne rfl rfl (by omega) (by omega) (fun c2 => ?_) (fun c2 => ?_)
        · refine T.go 1 (fun n9 => (rfl : _ = exe ξ n9 d j_M_many 32 [(0, .ref 137), (1, J x), (2, J y), (3, J u), (4, J n), (5, J k)] [J 0, J n] σ)) ?_
          refine T.iadd rfl ?_
          refine T.go 1 (fun n9 => (rfl : _ = exe ξ n9 d j_M_many 35 [(0, .ref 137), (1, J x), (2, J y), (3, J u), (4, J (n + 0)), (5, J k)] [] σ)) ?_
          refine T.iinc (lv' := [(0, .ref 137), (1, J x), (2, J y), (3, J u), (4, J (n + 0)), (5, J (k + 1))]) rfl rfl rfl rfl ?_
          refine T.go 1 (fun n9 => (rfl : _ = exe ξ n9 d j_M_many 6 [(0, .ref 137), (1, J x), (2, J y), (3, J u), (4, J (n + 0)), (5, J (k + 1))] [] σ)) ?_
          exact ih6  (n + 0) (k + 1)  (by omega) (by omega) (by omega) (by omega) (by omega)
        · refine T.go 2 (fun n9 => (rfl : _ = exe ξ n9 d j_M_many 32 [(0, .ref 137), (1, J x), (2, J y), (3, J u), (4, J n), (5, J k)] [J 1, J n] σ)) ?_
          refine T.iadd rfl ?_
          refine T.go 1 (fun n9 => (rfl : _ = exe ξ n9 d j_M_many 35 [(0, .ref 137), (1, J x), (2, J y), (3, J u), (4, J (n + 1)), (5, J k)] [] σ)) ?_
          refine T.iinc (lv' := [(0, .ref 137), (1, J x), (2, J y), (3, J u), (4, J (n + 1)), (5, J (k + 1))]) rfl rfl rfl rfl ?_
          refine T.go 1 (fun n9 => (rfl : _ = exe ξ n9 d j_M_many 6 [(0, .ref 137), (1, J x), (2, J y), (3, J u), (4, J (n + 1)), (5, J (k + 1))] [] σ)) ?_
          exact ih6  (n + 1) (k + 1)  (by omega) (by omega) (by omega) (by omega) (by omega)
  refine T.go 4 (fun n9 => (rfl : _ = exe ξ n9 d j_M_many 6 [(0, .ref 137), (1, J x), (2, J y), (3, J u), (4, J 0), (5, J 0)] [] σ)) ?_
  exact loop6 _ 0 0  (by omega) (by omega) (by omega) (by omega) (Nat.lt_succ_self _)

set_option maxHeartbeats 4000000 in
theorem s_M_isComplete {ξ : Nat → Option (Nat × List Int32)} {c io mo fa pl ns rw en wy wh bi ed sz md bd li wk we : Int} {Lc : List Int64} {la lm ln lh ld lk lt : List Int32} (d : Nat) (x : Int) (y : Int) (σ : qH) (hM : MS σ c io mo fa pl ns rw en wy wh bi ed sz md bd li wk we Lc la lm ln lh ld lk lt) (rx : -2147483648 ≤ x ∧ x ≤ 2147483647) (ry : -2147483648 ≤ y ∧ y ≤ 2147483647) (pre0 : 0 ≤ x) (pre1 : 0 ≤ y) (pre2 : x + y ≤ 360) : T ξ (d + 1) j_M_isComplete 0 (lv_args 0 [.ref 137, J x, J y]) [] σ (fun v σ' => ∃ (z : Int), v = some (J z) ∧ σ' = σ ∧ 0 ≤ z ∧ z ≤ 1) := by
  have r0 := hM.rg
  have n0 := hM.len
  have loop8 : ∀ (f8 : Nat) (s9 : Int) (t9 : Int) (k : Int), -2147483648 ≤ s9 → s9 ≤ 2147483647 → -2147483648 ≤ t9 → t9 ≤ 2147483647 → 1 ≤ k → k ≤ 16 → (16 - k).toNat < f8 → T ξ (d + 1) j_M_isComplete 8 [(0, .ref 137), (1, J x), (2, J y), (3, J s9), (4, J t9), (5, J k)] [] σ (fun v σ' => ∃ (z : Int), v = some (J z) ∧ σ' = σ ∧ 0 ≤ z ∧ z ≤ 1) := by
    intro f8
    induction f8 with
    | zero => intro s9 t9 k i0 i1 i2 i3 i4 i5 hm8; omega
    | succ f8 ih8 =>
      intro s9 t9 k i0 i1 i2 i3 i4 i5 hm8
      refine T.go 2 (fun n9 => (rfl : _ = exe ξ n9 (d + 1) j_M_isComplete 12 [(0, .ref 137), (1, J x), (2, J y), (3, J s9), (4, J t9), (5, J k)] [J 16, J k] σ)) ?_
      refine T.icmp_ge rfl rfl (by omega) (by omega) (fun c1 => ?_) (fun c1 => ?_)
      · refine T.go 2 (fun n9 => (rfl : _ = exe ξ n9 (d + 1) j_M_isComplete 54 [(0, .ref 137), (1, J x), (2, J y), (3, J s9), (4, J t9), (5, J k)] [J 32768, J s9] σ)) ?_
        refine T.icmp_eq rfl rfl (by omega) (by omega) (fun c2 => ?_) (fun c2 => ?_)
        · refine T.go 2 (fun n9 => (rfl : _ = exe ξ n9 (d + 1) j_M_isComplete 75 [(0, .ref 137), (1, J x), (2, J y), (3, J s9), (4, J t9), (5, J k)] [J 1] σ)) ?_
          exact T.iretz rfl rfl (by omega) ⟨_, rfl, rfl, by omega, by omega⟩
        · refine T.go 2 (fun n9 => (rfl : _ = exe ξ n9 (d + 1) j_M_isComplete 60 [(0, .ref 137), (1, J x), (2, J y), (3, J s9), (4, J t9), (5, J k)] [J 1, J t9] σ)) ?_
          refine T.icmp_ne rfl rfl (by omega) (by omega) (fun c3 => ?_) (fun c3 => ?_)
          · refine T.go 1 (fun n9 => (rfl : _ = exe ξ n9 (d + 1) j_M_isComplete 75 [(0, .ref 137), (1, J x), (2, J y), (3, J s9), (4, J t9), (5, J k)] [J 0] σ)) ?_
            exact T.iretz rfl rfl (by omega) ⟨_, rfl, rfl, by omega, by omega⟩
          · refine T.go 2 (fun n9 => (rfl : _ = exe ξ n9 (d + 1) j_M_isComplete 67 [(0, .ref 137), (1, J x), (2, J y), (3, J s9), (4, J t9), (5, J k)] [J 16384, J s9] σ)) ?_
            refine T.icmp_ne rfl rfl (by omega) (by omega) (fun c4 => ?_) (fun c4 => ?_)
            · refine T.go 1 (fun n9 => (rfl : _ = exe ξ n9 (d + 1) j_M_isComplete 75 [(0, .ref 137), (1, J x), (2, J y), (3, J s9), (4, J t9), (5, J k)] [J 0] σ)) ?_
              exact T.iretz rfl rfl (by omega) ⟨_, rfl, rfl, by omega, by omega⟩
            · refine T.go 2 (fun n9 => (rfl : _ = exe ξ n9 (d + 1) j_M_isComplete 75 [(0, .ref 137), (1, J x), (2, J y), (3, J s9), (4, J t9), (5, J k)] [J 1] σ)) ?_
              exact T.iretz rfl rfl (by omega) ⟨_, rfl, rfl, by omega, by omega⟩
      · refine T.go 5 (fun n9 => (rfl : _ = exe ξ n9 (d + 1) j_M_isComplete 22 [(0, .ref 137), (1, J x), (2, J y), (3, J s9), (4, J t9), (5, J k)] [J k, J y, J x, .ref 137, J t9] σ)) ?_
        refine T.callv (as := [J x, J y, J k]) (r := [J t9]) rfl rfl rfl rfl hM.ob rfl (s_M_many d x y k σ hM (by omega) (by omega) (by omega) (by omega) (by omega) (by omega)) (fun v1 s1 hqs1 => ?_)
        obtain ⟨z1, rfl, esz1, hzz1, hyz1, pz1_0⟩ := hqs1
        rw [esz1]
        refine T.iadd rfl ?_
        refine T.norm (fun z2 hzz2 hyz2 hwz2 => ?_)
        refine T.go 6 (fun n9 => (rfl : _ = exe ξ n9 (d + 1) j_M_isComplete 34 [(0, .ref 137), (1, J x), (2, J y), (3, J s9), (4, J z2), (5, J k)] [J k, J y, J x, .ref 137, J s9] σ)) ?_
        refine T.callv (as := [J x, J y, J k]) (r := [J s9]) rfl rfl rfl rfl hM.ob rfl (s_M_many d x y k σ hM (by omega) (by omega) (by omega) (by omega) (by omega) (by omega)) (fun v2 s2 hqs2 => ?_)
        obtain ⟨z3, rfl, esz3, hzz3, hyz3, pz3_0⟩ := hqs2
        rw [esz3]
        refine T.go 2 (fun n9 => (rfl : _ = exe ξ n9 (d + 1) j_M_isComplete 41 [(0, .ref 137), (1, J x), (2, J y), (3, J s9), (4, J z2), (5, J k)] [J k, J 15, J z3, J s9] σ)) ?_
        refine T.isub rfl ?_
        refine T.some1 rfl rfl (fun z4 hzz4 hyz4 _ => ?_)
        refine T.iadd rfl ?_
        refine T.norm (fun z5 hzz5 hyz5 hwz5 => ?_)
        refine T.go 1 (fun n9 => (rfl : _ = exe ξ n9 (d + 1) j_M_isComplete 45 [(0, .ref 137), (1, J x), (2, J y), (3, J z5), (4, J z2), (5, J k)] [] σ)) ?_
        refine T.iinc (lv' := [(0, .ref 137), (1, J x), (2, J y), (3, J z5), (4, J z2), (5, J (k + 1))]) rfl rfl rfl rfl ?_
        refine T.go 1 (fun n9 => (rfl : _ = exe ξ n9 (d + 1) j_M_isComplete 8 [(0, .ref 137), (1, J x), (2, J y), (3, J z5), (4, J z2), (5, J (k + 1))] [] σ)) ?_
        exact ih8  z5 z2 (k + 1)  (by omega) (by omega) (by omega) (by omega) (by omega) (by omega) (by omega)
  refine T.go 6 (fun n9 => (rfl : _ = exe ξ n9 (d + 1) j_M_isComplete 8 [(0, .ref 137), (1, J x), (2, J y), (3, J 0), (4, J 0), (5, J 1)] [] σ)) ?_
  exact loop8 _ 0 0 1  (by omega) (by omega) (by omega) (by omega) (by omega) (by omega) (Nat.lt_succ_self _)

set_option maxHeartbeats 4000000 in
theorem s_M_pick {ξ : Nat → Option (Nat × List Int32)} {c io mo fa pl ns rw en wy wh bi ed sz md bd li wk we : Int} {Lc : List Int64} {la lm ln lh ld lk lt : List Int32} (d : Nat) (x : Int) (y : Int) (u : Int) (q : Int) (σ : qH) (hM : MS σ c io mo fa pl ns rw en wy wh bi ed sz md bd li wk we Lc la lm ln lh ld lk lt) (rx : -2147483648 ≤ x ∧ x ≤ 2147483647) (ry : -2147483648 ≤ y ∧ y ≤ 2147483647) (ru : -2147483648 ≤ u ∧ u ≤ 2147483647) (rq : -2147483648 ≤ q ∧ q ≤ 2147483647) (pre0 : 0 ≤ x) (pre1 : 0 ≤ y) (pre2 : x + y ≤ 360) (pre3 : 0 ≤ q) (pre4 : q ≤ 100000) : T ξ d j_M_pick 0 (lv_args 0 [.ref 137, J x, J y, J u, J q]) [] σ (fun v σ' => ∃ (z : Int), v = some (J z) ∧ σ' = σ ∧ -1 ≤ z ∧ z ≤ 360 ∧ z < y) := by
  have r0 := hM.rg
  have n0 := hM.len
  have loop7 : ∀ (f7 : Nat) (l5 : Int) (k : Int), l5 ≤ q → q - k ≤ l5 → 0 ≤ k → k ≤ y → (y - k).toNat < f7 → T ξ d j_M_pick 7 [(0, .ref 137), (1, J x), (2, J y), (3, J u), (4, J q), (5, J l5), (6, J k)] [] σ (fun v σ' => ∃ (z : Int), v = some (J z) ∧ σ' = σ ∧ -1 ≤ z ∧ z ≤ 360 ∧ z < y) := by
    intro f7
    induction f7 with
    | zero => intro l5 k i0 i1 i2 i3 hm7; omega
    | succ f7 ih7 =>
      intro l5 k i0 i1 i2 i3 hm7
      refine T.go 2 (fun n9 => (rfl : _ = exe ξ n9 d j_M_pick 10 [(0, .ref 137), (1, J x), (2, J y), (3, J u), (4, J q), (5, J l5), (6, J k)] [J y, J k] σ)) ?_
      refine T.icmp_ge rfl rfl (by omega) (by omega) (fun c1 => ?_) (fun c1 => ?_)
      · refine T.go 1 (fun n9 => (rfl : _ = exe ξ n9 d j_M_pick 47 [(0, .ref 137), (1, J x), (2, J y), (3, J u), (4, J q), (5, J l5), (6, J k)] [J (-1)] σ)) ?_
        exact T.ireti rfl rfl ⟨_, rfl, rfl, by omega, by omega, by omega⟩
      · refine T.go 1 (fun n9 => (rfl : _ = exe ξ n9 d j_M_pick 14 [(0, .ref 137), (1, J x), (2, J y), (3, J u), (4, J q), (5, J l5), (6, J k)] [.ref 137] σ)) ?_
        refine T.get rfl rfl rfl hM.ob rfl ?_
        refine T.go 2 (fun n9 => (rfl : _ = exe ξ n9 d j_M_pick 20 [(0, .ref 137), (1, J x), (2, J y), (3, J u), (4, J q), (5, J l5), (6, J k)] [J k, J x, .ref 144] σ)) ?_
        refine T.iadd rfl ?_
        refine T.iald rfl rfl hM.c144 (by omega) (fun z1 hzz1 hyz1 hez1 => ?_)
        refine T.go 1 (fun n9 => (rfl : _ = exe ξ n9 d j_M_pick 23 [(0, .ref 137), (1, J x), (2, J y), (3, J u), (4, J q), (5, J l5), (6, J k)] [J u, J z1] σ)) ?_
        refine T.icmp_eq rfl rfl (by omega) (by omega) (fun c2 => ?_) (fun c2 => ?_)
        · refine T.go 1 (fun n9 => (rfl : _ = exe ξ n9 d j_M_pick 31 [(0, .ref 137), (1, J x), (2, J y), (3, J u), (4, J q), (5, J l5), (6, J k)] [J l5] σ)) ?_
          refine T.if_ne rfl rfl (by omega) (fun c3 => ?_) (fun c3 => ?_)
          · refine T.iinc (lv' := [(0, .ref 137), (1, J x), (2, J y), (3, J u), (4, J q), (5, J (l5 + (-1))), (6, J k)]) rfl rfl rfl rfl ?_
            refine T.iinc (lv' := [(0, .ref 137), (1, J x), (2, J y), (3, J u), (4, J q), (5, J (l5 + (-1))), (6, J (k + 1))]) rfl rfl rfl rfl ?_
            refine T.go 1 (fun n9 => (rfl : _ = exe ξ n9 d j_M_pick 7 [(0, .ref 137), (1, J x), (2, J y), (3, J u), (4, J q), (5, J (l5 + (-1))), (6, J (k + 1))] [] σ)) ?_
            exact ih7  (l5 + (-1)) (k + 1)  (by omega) (by omega) (by omega) (by omega) (by omega)
          · refine T.go 1 (fun n9 => (rfl : _ = exe ξ n9 d j_M_pick 36 [(0, .ref 137), (1, J x), (2, J y), (3, J u), (4, J q), (5, J l5), (6, J k)] [J k] σ)) ?_
            exact T.ireti rfl rfl ⟨_, rfl, rfl, by omega, by omega, by omega⟩
        · refine T.go 1 (fun n9 => (rfl : _ = exe ξ n9 d j_M_pick 40 [(0, .ref 137), (1, J x), (2, J y), (3, J u), (4, J q), (5, J l5), (6, J k)] [] σ)) ?_
          refine T.iinc (lv' := [(0, .ref 137), (1, J x), (2, J y), (3, J u), (4, J q), (5, J l5), (6, J (k + 1))]) rfl rfl rfl rfl ?_
          refine T.go 1 (fun n9 => (rfl : _ = exe ξ n9 d j_M_pick 7 [(0, .ref 137), (1, J x), (2, J y), (3, J u), (4, J q), (5, J l5), (6, J (k + 1))] [] σ)) ?_
          exact ih7  l5 (k + 1)  (by omega) (by omega) (by omega) (by omega) (by omega)
  refine T.go 4 (fun n9 => (rfl : _ = exe ξ n9 d j_M_pick 7 [(0, .ref 137), (1, J x), (2, J y), (3, J u), (4, J q), (5, J q), (6, J 0)] [] σ)) ?_
  exact loop7 _ q 0  (by omega) (by omega) (by omega) (by omega) (Nat.lt_succ_self _)

set_option maxHeartbeats 4000000 in
theorem s_M_sign {ξ : Nat → Option (Nat × List Int32)} {c io mo fa pl ns rw en wy wh bi ed sz md bd li wk we : Int} {Lc : List Int64} {la lm ln lh ld lk lt : List Int32} (d : Nat) (x : Int) (y : Int) (σ : qH) (hM : MS σ c io mo fa pl ns rw en wy wh bi ed sz md bd li wk we Lc la lm ln lh ld lk lt) (rx : -2147483648 ≤ x ∧ x ≤ 2147483647) (ry : -2147483648 ≤ y ∧ y ≤ 2147483647) (pre0 : 0 ≤ bi) (pre1 : bi ≤ ed) (pre2 : ed ≤ 64000) (pre3 : ed % 8 = 0) (pre4 : 0 ≤ x) (pre5 : 0 ≤ y) (pre6 : x + y ≤ 360) : T ξ (d + 2) j_M_sign 0 (lv_args 0 [.ref 137, J x, J y]) [] σ (fun v σ' => ∃ (z : Int) (bi1 : Int) (bd1 : Int), v = some (J z) ∧ MS σ' c io mo fa pl ns rw en wy wh bi1 ed sz md bd1 li wk we Lc la lm ln lh ld lk lt ∧ FM σ σ' ∧ -1 ≤ z ∧ z ≤ 360 ∧ bi ≤ bi1 ∧ bi1 ≤ ed ∧ bd ≤ bd1 ∧ z < y ∧ (bi + 1 ≤ bi1 ∨ bd1 = 1)) := by
  have r0 := hM.rg
  have n0 := hM.len
  have e2_0 : P2 0 = 1 := by decide
  have e2_1 : P2 1 = 2 := by decide
  have e2_15 : P2 15 = 32768 := by decide
  have loop8 : ∀ (f8 : Nat) (w3 : Int) (f4 : Int) (k : Int) (bi9 : Int) (bd9 : Int) (τ : qH), MS τ c io mo fa pl ns rw en wy wh bi9 ed sz md bd9 li wk we Lc la lm ln lh ld lk lt → FM σ τ → bi ≤ bi9 → bi9 ≤ ed → bd ≤ bd9 → 0 ≤ f4 → f4 ≤ w3 → w3 < P2 (k - 1) → 1 ≤ k → k ≤ 16 → (16 - k).toNat < f8 → T ξ (d + 2) j_M_sign 8 [(0, .ref 137), (1, J x), (2, J y), (3, J w3), (4, J f4), (5, J k)] [] τ (fun v σ' => ∃ (z : Int) (bi1 : Int) (bd1 : Int), v = some (J z) ∧ MS σ' c io mo fa pl ns rw en wy wh bi1 ed sz md bd1 li wk we Lc la lm ln lh ld lk lt ∧ FM σ σ' ∧ -1 ≤ z ∧ z ≤ 360 ∧ bi ≤ bi1 ∧ bi1 ≤ ed ∧ bd ≤ bd1 ∧ z < y ∧ (bi + 1 ≤ bi1 ∨ bd1 = 1)) := by
    intro f8
    induction f8 with
    | zero => intro w3 f4 k bi9 bd9 τ mτ fτ i0 i1 i2 i3 i4 i5 i6 i7 hm8; omega
    | succ f8 ih8 =>
      intro w3 f4 k bi9 bd9 τ mτ fτ i0 i1 i2 i3 i4 i5 i6 i7 hm8
      have rτ := mτ.rg
      have nτ := mτ.len
      have ek := P2_le15 (k := k - 1) (by omega)
      have es := P2_s (k := k - 1) (by omega)
      rw [show k - 1 + 1 = k by omega] at es
      have eq : k + 1 - 1 = k := by omega
      refine T.go 2 (fun n9 => (rfl : _ = exe ξ n9 (d + 2) j_M_sign 12 [(0, .ref 137), (1, J x), (2, J y), (3, J w3), (4, J f4), (5, J k)] [J 16, J k] τ)) ?_
      refine T.icmp_ge rfl rfl (by omega) (by omega) (fun c1 => ?_) (fun c1 => ?_)
      · refine T.go 2 (fun n9 => (rfl : _ = exe ξ n9 (d + 2) j_M_sign 85 [(0, .ref 137), (1, J x), (2, J y), (3, J w3), (4, J f4), (5, J k)] [J 1, .ref 137] τ)) ?_
        refine T.mput (c' := c) (io' := io) (mo' := mo) (fa' := fa) (pl' := pl) (ns' := ns) (rw' := rw) (en' := en) (wy' := wy) (wh' := wh) (bi' := bi9) (ed' := ed) (sz' := sz) (md' := md) (bd' := 1) (li' := li) (wk' := wk) (we' := we) mτ rfl rfl rfl rfl rfl rfl (by omega) (fun s1 ms1 fs1 => ?_)
        have gs1 := fτ.trans fs1
        refine T.go 1 (fun n9 => (rfl : _ = exe ξ n9 (d + 2) j_M_sign 89 [(0, .ref 137), (1, J x), (2, J y), (3, J w3), (4, J f4), (5, J k)] [J (-1)] s1)) ?_
        exact T.ireti rfl rfl ⟨_, bi9, 1, rfl, ms1, gs1, by omega, by omega, by omega, by omega, by omega, by omega, by omega⟩
      · refine T.go 1 (fun n9 => (rfl : _ = exe ξ n9 (d + 2) j_M_sign 16 [(0, .ref 137), (1, J x), (2, J y), (3, J w3), (4, J f4), (5, J k)] [.ref 137] τ)) ?_
        refine T.get rfl rfl rfl mτ.ob rfl ?_
        refine T.if_ne rfl rfl (by omega) (fun c2 => ?_) (fun c2 => ?_)
        · refine T.go 2 (fun n9 => (rfl : _ = exe ξ n9 (d + 2) j_M_sign 85 [(0, .ref 137), (1, J x), (2, J y), (3, J w3), (4, J f4), (5, J k)] [J 1, .ref 137] τ)) ?_
          refine T.mput (c' := c) (io' := io) (mo' := mo) (fa' := fa) (pl' := pl) (ns' := ns) (rw' := rw) (en' := en) (wy' := wy) (wh' := wh) (bi' := bi9) (ed' := ed) (sz' := sz) (md' := md) (bd' := 1) (li' := li) (wk' := wk) (we' := we) mτ rfl rfl rfl rfl rfl rfl (by omega) (fun s2 ms2 fs2 => ?_)
          have gs2 := fτ.trans fs2
          refine T.go 1 (fun n9 => (rfl : _ = exe ξ n9 (d + 2) j_M_sign 89 [(0, .ref 137), (1, J x), (2, J y), (3, J w3), (4, J f4), (5, J k)] [J (-1)] s2)) ?_
          exact T.ireti rfl rfl ⟨_, bi9, 1, rfl, ms2, gs2, by omega, by omega, by omega, by omega, by omega, by omega, by omega⟩
        · refine T.go 2 (fun n9 => (rfl : _ = exe ξ n9 (d + 2) j_M_sign 24 [(0, .ref 137), (1, J x), (2, J y), (3, J w3), (4, J f4), (5, J k)] [J w3, J 2] τ)) ?_
          refine T.imul rfl ?_
          refine T.go 2 (fun n9 => (rfl : _ = exe ξ n9 (d + 2) j_M_sign 27 [(0, .ref 137), (1, J x), (2, J y), (3, J w3), (4, J f4), (5, J k)] [J 1, .ref 137, J (2 * w3)] τ)) ?_
          refine T.callv (as := [J 1]) (r := [J (2 * w3)]) rfl rfl rfl rfl mτ.ob rfl (s_M_take d 1 τ mτ (by omega) (by omega) (by omega) (by omega) (by omega) (by omega) (by omega)) (fun v1 s3 hqs3 => ?_)
          obtain ⟨z1, bi_1, bd_1, rfl, ms3, fs3, hzz1, hyz1, pz1_0, pz1_1, pz1_2, pz1_3, pz1_4⟩ := hqs3
          have ns3 := ms3.len
          have rs3 := ms3.rg
          have gs3 := fτ.trans fs3
          refine T.iadd rfl ?_
          refine T.go 3 (fun n9 => (rfl : _ = exe ξ n9 (d + 2) j_M_sign 35 [(0, .ref 137), (1, J x), (2, J y), (3, J ((2 * w3) + z1)), (4, J f4), (5, J k)] [J f4, J 2] s3)) ?_
          refine T.imul rfl ?_
          refine T.go 5 (fun n9 => (rfl : _ = exe ξ n9 (d + 2) j_M_sign 43 [(0, .ref 137), (1, J x), (2, J y), (3, J ((2 * w3) + z1)), (4, J (2 * f4)), (5, J k)] [J k, J y, J x, .ref 137] s3)) ?_
          refine T.callv (as := [J x, J y, J k]) (r := []) rfl rfl rfl rfl ms3.ob rfl (s_M_many (d + 1) x y k s3 ms3 (by omega) (by omega) (by omega) (by omega) (by omega) (by omega)) (fun v2 s4 hqs4 => ?_)
          obtain ⟨z2, rfl, esz2, hzz2, hyz2, pz2_0⟩ := hqs4
          rw [esz2]
          refine T.go 3 (fun n9 => (rfl : _ = exe ξ n9 (d + 2) j_M_sign 51 [(0, .ref 137), (1, J x), (2, J y), (3, J ((2 * w3) + z1)), (4, J (2 * f4)), (5, J k), (6, J z2)] [J (2 * f4), J ((2 * w3) + z1)] s3)) ?_
          refine T.isub rfl ?_
          refine T.go 1 (fun n9 => (rfl : _ = exe ξ n9 (d + 2) j_M_sign 54 [(0, .ref 137), (1, J x), (2, J y), (3, J ((2 * w3) + z1)), (4, J (2 * f4)), (5, J k), (6, J z2)] [J z2, J (((2 * w3) + z1) - (2 * f4))] s3)) ?_
          refine T.icmp_ge rfl rfl (by omega) (by omega) (fun c3 => ?_) (fun c3 => ?_)
          · refine T.go 2 (fun n9 => (rfl : _ = exe ξ n9 (d + 2) j_M_sign 74 [(0, .ref 137), (1, J x), (2, J y), (3, J ((2 * w3) + z1)), (4, J (2 * f4)), (5, J k), (6, J z2)] [J z2, J (2 * f4)] s3)) ?_
            refine T.iadd rfl ?_
            refine T.go 1 (fun n9 => (rfl : _ = exe ξ n9 (d + 2) j_M_sign 77 [(0, .ref 137), (1, J x), (2, J y), (3, J ((2 * w3) + z1)), (4, J ((2 * f4) + z2)), (5, J k), (6, J z2)] [] s3)) ?_
            refine T.iinc (lv' := [(0, .ref 137), (1, J x), (2, J y), (3, J ((2 * w3) + z1)), (4, J ((2 * f4) + z2)), (5, J (k + 1)), (6, J z2)]) rfl rfl rfl rfl ?_
            refine T.go 1 (fun n9 => (rfl : _ = exe ξ n9 (d + 2) j_M_sign 8 [(0, .ref 137), (1, J x), (2, J y), (3, J ((2 * w3) + z1)), (4, J ((2 * f4) + z2)), (5, J (k + 1)), (6, J z2)] [] s3)) ?_
            refine T.drop (lv := [(0, .ref 137), (1, J x), (2, J y), (3, J ((2 * w3) + z1)), (4, J ((2 * f4) + z2)), (5, J (k + 1))]) [(6, J z2)] (by simp) ?_
            exact ih8  ((2 * w3) + z1) ((2 * f4) + z2) (k + 1) bi_1 bd_1 s3 ms3 gs3 (by omega) (by omega) (by omega) (by omega) (by omega) (by rw [eq]; omega) (by omega) (by omega) (by omega)
          · refine T.go 6 (fun n9 => (rfl : _ = exe ξ n9 (d + 2) j_M_sign 65 [(0, .ref 137), (1, J x), (2, J y), (3, J ((2 * w3) + z1)), (4, J (2 * f4)), (5, J k), (6, J z2)] [J (2 * f4), J ((2 * w3) + z1), J k, J y, J x, .ref 137] s3)) ?_
            refine T.isub rfl ?_
            refine T.callv (as := [J x, J y, J k, J (((2 * w3) + z1) - (2 * f4))]) (r := []) rfl rfl rfl rfl ms3.ob rfl (s_M_pick (d + 1) x y k (((2 * w3) + z1) - (2 * f4)) s3 ms3 (by omega) (by omega) (by omega) (by omega) (by omega) (by omega) (by omega) (by omega) (by omega)) (fun v3 s5 hqs5 => ?_)
            obtain ⟨z3, rfl, esz3, hzz3, hyz3, pz3_0⟩ := hqs5
            rw [esz3]
            exact T.ireti rfl rfl ⟨_, bi_1, bd_1, rfl, ms3, gs3, by omega, by omega, by omega, by omega, by omega, by omega, by omega⟩
  refine T.go 6 (fun n9 => (rfl : _ = exe ξ n9 (d + 2) j_M_sign 8 [(0, .ref 137), (1, J x), (2, J y), (3, J 0), (4, J 0), (5, J 1)] [] σ)) ?_
  exact loop8 _ 0 0 1 bi bd σ hM FM.refl (by omega) (by omega) (by omega) (by omega) (by omega) (by show (0 : Int) < P2 0; omega) (by omega) (by omega) (Nat.lt_succ_self _)

set_option maxHeartbeats 4000000 in
theorem s_M_fixedCodes {ξ : Nat → Option (Nat × List Int32)} {c io mo fa pl ns rw en wy wh bi ed sz md bd li wk we : Int} {Lc : List Int64} {la lm ln lh ld lk lt : List Int32} (d : Nat)  (σ : qH) (hM : MS σ c io mo fa pl ns rw en wy wh bi ed sz md bd li wk we Lc la lm ln lh ld lk lt)  : T ξ d j_M_fixedCodes 0 (lv_args 0 [.ref 137]) [] σ (fun v σ' => ∃ (lk1 : List Int32), v = none ∧ MS σ' c io mo fa pl ns rw en wy wh bi ed sz md bd li wk we Lc la lm ln lh ld lk1 lt ∧ FM σ σ') := by
  have r0 := hM.rg
  have n0 := hM.len
  have loop61 : ∀ (f61 : Nat) (k : Int) (lk9 : List Int32) (τ : qH), MS τ c io mo fa pl ns rw en wy wh bi ed sz md bd li wk we Lc la lm ln lh ld lk9 lt → FM σ τ → 0 ≤ k → k ≤ 32 → (32 - k).toNat < f61 → T ξ d j_M_fixedCodes 61 [(0, .ref 137), (1, J k)] [] τ (fun v σ' => ∃ (lk1 : List Int32), v = none ∧ MS σ' c io mo fa pl ns rw en wy wh bi ed sz md bd li wk we Lc la lm ln lh ld lk1 lt ∧ FM σ σ') := by
    intro f61
    induction f61 with
    | zero => intro k lk9 τ mτ fτ i0 i1 hm61; omega
    | succ f61 ih61 =>
      intro k lk9 τ mτ fτ i0 i1 hm61
      have rτ := mτ.rg
      have nτ := mτ.len
      refine T.go 2 (fun n9 => (rfl : _ = exe ξ n9 d j_M_fixedCodes 64 [(0, .ref 137), (1, J k)] [J 32, J k] τ)) ?_
      refine T.icmp_ge rfl rfl (by omega) (by omega) (fun c1 => ?_) (fun c1 => ?_)
      · exact T.vret rfl rfl ⟨lk9, rfl, mτ, fτ⟩
      · refine T.go 1 (fun n9 => (rfl : _ = exe ξ n9 d j_M_fixedCodes 68 [(0, .ref 137), (1, J k)] [.ref 137] τ)) ?_
        refine T.get rfl rfl rfl mτ.ob rfl ?_
        refine T.go 2 (fun n9 => (rfl : _ = exe ξ n9 d j_M_fixedCodes 75 [(0, .ref 137), (1, J k)] [J k, J 300, .ref 144] τ)) ?_
        refine T.iadd rfl ?_
        refine T.go 1 (fun n9 => (rfl : _ = exe ξ n9 d j_M_fixedCodes 77 [(0, .ref 137), (1, J k)] [J 5, J (300 + k), .ref 144] τ)) ?_
        refine T.mast144 mτ rfl (by omega) (fun s1 ms1 fs1 => ?_)
        have ns1 := ms1.len
        have gs1 := fτ.trans fs1
        refine T.iinc (lv' := [(0, .ref 137), (1, J (k + 1))]) rfl rfl rfl rfl ?_
        refine T.go 1 (fun n9 => (rfl : _ = exe ξ n9 d j_M_fixedCodes 61 [(0, .ref 137), (1, J (k + 1))] [] s1)) ?_
        exact ih61  (k + 1) (lk9.set (300 + k : Int).toNat (Int32.ofInt 5)) s1 ms1 gs1 (by omega) (by omega) (by omega)
  have loop2 : ∀ (f2 : Nat) (k : Int) (lk9 : List Int32) (τ : qH), MS τ c io mo fa pl ns rw en wy wh bi ed sz md bd li wk we Lc la lm ln lh ld lk9 lt → FM σ τ → 0 ≤ k → k ≤ 288 → (288 - k).toNat < f2 → T ξ d j_M_fixedCodes 2 [(0, .ref 137), (1, J k)] [] τ (fun v σ' => ∃ (lk1 : List Int32), v = none ∧ MS σ' c io mo fa pl ns rw en wy wh bi ed sz md bd li wk we Lc la lm ln lh ld lk1 lt ∧ FM σ σ') := by
    intro f2
    induction f2 with
    | zero => intro k lk9 τ mτ fτ i0 i1 hm2; omega
    | succ f2 ih2 =>
      intro k lk9 τ mτ fτ i0 i1 hm2
      have rτ := mτ.rg
      have nτ := mτ.len
      refine T.go 2 (fun n9 => (rfl : _ = exe ξ n9 d j_M_fixedCodes 6 [(0, .ref 137), (1, J k)] [J 288, J k] τ)) ?_
      refine T.icmp_ge rfl rfl (by omega) (by omega) (fun c2 => ?_) (fun c2 => ?_)
      · refine T.go 2 (fun n9 => (rfl : _ = exe ξ n9 d j_M_fixedCodes 61 [(0, .ref 137), (1, J 0)] [] τ)) ?_
        exact loop61 _ 0 lk9 τ mτ fτ (by omega) (by omega) (Nat.lt_succ_self _)
      · refine T.go 1 (fun n9 => (rfl : _ = exe ξ n9 d j_M_fixedCodes 10 [(0, .ref 137), (1, J k)] [.ref 137] τ)) ?_
        refine T.get rfl rfl rfl mτ.ob rfl ?_
        refine T.go 3 (fun n9 => (rfl : _ = exe ξ n9 d j_M_fixedCodes 18 [(0, .ref 137), (1, J k)] [J 144, J k, J k, .ref 144] τ)) ?_
        refine T.icmp_ge rfl rfl (by omega) (by omega) (fun c3 => ?_) (fun c3 => ?_)
        · refine T.go 2 (fun n9 => (rfl : _ = exe ξ n9 d j_M_fixedCodes 30 [(0, .ref 137), (1, J k)] [J 256, J k, J k, .ref 144] τ)) ?_
          refine T.icmp_ge rfl rfl (by omega) (by omega) (fun c4 => ?_) (fun c4 => ?_)
          · refine T.go 2 (fun n9 => (rfl : _ = exe ξ n9 d j_M_fixedCodes 42 [(0, .ref 137), (1, J k)] [J 280, J k, J k, .ref 144] τ)) ?_
            refine T.icmp_ge rfl rfl (by omega) (by omega) (fun c5 => ?_) (fun c5 => ?_)
            · refine T.go 1 (fun n9 => (rfl : _ = exe ξ n9 d j_M_fixedCodes 52 [(0, .ref 137), (1, J k)] [J 8, J k, .ref 144] τ)) ?_
              refine T.mast144 mτ rfl (by omega) (fun s2 ms2 fs2 => ?_)
              have ns2 := ms2.len
              have gs2 := fτ.trans fs2
              refine T.iinc (lv' := [(0, .ref 137), (1, J (k + 1))]) rfl rfl rfl rfl ?_
              refine T.go 1 (fun n9 => (rfl : _ = exe ξ n9 d j_M_fixedCodes 2 [(0, .ref 137), (1, J (k + 1))] [] s2)) ?_
              exact ih2  (k + 1) (lk9.set (k : Int).toNat (Int32.ofInt 8)) s2 ms2 gs2 (by omega) (by omega) (by omega)
            · refine T.go 2 (fun n9 => (rfl : _ = exe ξ n9 d j_M_fixedCodes 52 [(0, .ref 137), (1, J k)] [J 7, J k, .ref 144] τ)) ?_
              refine T.mast144 mτ rfl (by omega) (fun s3 ms3 fs3 => ?_)
              have ns3 := ms3.len
              have gs3 := fτ.trans fs3
              refine T.iinc (lv' := [(0, .ref 137), (1, J (k + 1))]) rfl rfl rfl rfl ?_
              refine T.go 1 (fun n9 => (rfl : _ = exe ξ n9 d j_M_fixedCodes 2 [(0, .ref 137), (1, J (k + 1))] [] s3)) ?_
              exact ih2  (k + 1) (lk9.set (k : Int).toNat (Int32.ofInt 7)) s3 ms3 gs3 (by omega) (by omega) (by omega)
          · refine T.go 2 (fun n9 => (rfl : _ = exe ξ n9 d j_M_fixedCodes 52 [(0, .ref 137), (1, J k)] [J 9, J k, .ref 144] τ)) ?_
            refine T.mast144 mτ rfl (by omega) (fun s4 ms4 fs4 => ?_)
            have ns4 := ms4.len
            have gs4 := fτ.trans fs4
            refine T.iinc (lv' := [(0, .ref 137), (1, J (k + 1))]) rfl rfl rfl rfl ?_
            refine T.go 1 (fun n9 => (rfl : _ = exe ξ n9 d j_M_fixedCodes 2 [(0, .ref 137), (1, J (k + 1))] [] s4)) ?_
            exact ih2  (k + 1) (lk9.set (k : Int).toNat (Int32.ofInt 9)) s4 ms4 gs4 (by omega) (by omega) (by omega)
        · refine T.go 2 (fun n9 => (rfl : _ = exe ξ n9 d j_M_fixedCodes 52 [(0, .ref 137), (1, J k)] [J 8, J k, .ref 144] τ)) ?_
          refine T.mast144 mτ rfl (by omega) (fun s5 ms5 fs5 => ?_)
          have ns5 := ms5.len
          have gs5 := fτ.trans fs5
          refine T.iinc (lv' := [(0, .ref 137), (1, J (k + 1))]) rfl rfl rfl rfl ?_
          refine T.go 1 (fun n9 => (rfl : _ = exe ξ n9 d j_M_fixedCodes 2 [(0, .ref 137), (1, J (k + 1))] [] s5)) ?_
          exact ih2  (k + 1) (lk9.set (k : Int).toNat (Int32.ofInt 8)) s5 ms5 gs5 (by omega) (by omega) (by omega)
  refine T.go 2 (fun n9 => (rfl : _ = exe ξ n9 d j_M_fixedCodes 2 [(0, .ref 137), (1, J 0)] [] σ)) ?_
  exact loop2 _ 0 lk σ hM FM.refl (by omega) (by omega) (Nat.lt_succ_self _)

set_option maxHeartbeats 4000000 in
theorem s_M_orderOf {ξ : Nat → Option (Nat × List Int32)} (d : Nat) (x : Int) (σ : qH) (rx : -2147483648 ≤ x ∧ x ≤ 2147483647) (pre0 : 0 ≤ x) (pre1 : x ≤ 18) : T ξ d j_M_orderOf 0 (lv_args 0 [J x]) [] σ (fun v σ' => ∃ (z : Int), v = some (J z) ∧ σ' = σ ∧ 0 ≤ z ∧ z ≤ 18) := by
  refine T.go 2 (fun n9 => (rfl : _ = exe ξ n9 d j_M_orderOf 2 [(0, J x)] [J 3, J x] σ)) ?_
  refine T.icmp_ge rfl rfl (by omega) (by omega) (fun c1 => ?_) (fun c1 => ?_)
  · refine T.go 2 (fun n9 => (rfl : _ = exe ξ n9 d j_M_orderOf 12 [(0, J x)] [J 3, J x] σ)) ?_
    refine T.icmp_ne rfl rfl (by omega) (by omega) (fun c2 => ?_) (fun c2 => ?_)
    · refine T.go 2 (fun n9 => (rfl : _ = exe ξ n9 d j_M_orderOf 19 [(0, J x)] [J 3, J x] σ)) ?_
      refine T.isub rfl ?_
      refine T.go 1 (fun n9 => (rfl : _ = exe ξ n9 d j_M_orderOf 21 [(0, J x)] [J 2, J (x - 3)] σ)) ?_
      refine T.idivc (c := 2) rfl (by decide) (by omega) ?_
      refine T.go 3 (fun n9 => (rfl : _ = exe ξ n9 d j_M_orderOf 25 [(0, J x), (1, J ((x - 3) / 2))] [J 2, J x] σ)) ?_
      refine T.iremc (c := 2) rfl (by decide) (by omega) ?_
      refine T.if_ne rfl rfl (by omega) (fun c3 => ?_) (fun c3 => ?_)
      · refine T.go 2 (fun n9 => (rfl : _ = exe ξ n9 d j_M_orderOf 43 [(0, J x), (1, J ((x - 3) / 2))] [J ((x - 3) / 2), J 8] σ)) ?_
        refine T.isub rfl ?_
        exact T.ireti rfl rfl ⟨_, rfl, rfl, by omega, by omega⟩
      · refine T.go 3 (fun n9 => (rfl : _ = exe ξ n9 d j_M_orderOf 33 [(0, J x), (1, J ((x - 3) / 2))] [J 4, J x, J 8] σ)) ?_
        refine T.isub rfl ?_
        refine T.go 1 (fun n9 => (rfl : _ = exe ξ n9 d j_M_orderOf 35 [(0, J x), (1, J ((x - 3) / 2))] [J 2, J (x - 4), J 8] σ)) ?_
        refine T.idivc (c := 2) rfl (by decide) (by omega) ?_
        refine T.iadd rfl ?_
        refine T.go 1 (fun n9 => (rfl : _ = exe ξ n9 d j_M_orderOf 44 [(0, J x), (1, J ((x - 3) / 2))] [J (8 + ((x - 4) / 2))] σ)) ?_
        exact T.ireti rfl rfl ⟨_, rfl, rfl, by omega, by omega⟩
    · refine T.go 1 (fun n9 => (rfl : _ = exe ξ n9 d j_M_orderOf 16 [(0, J x)] [J 0] σ)) ?_
      exact T.ireti rfl rfl ⟨_, rfl, rfl, by omega, by omega⟩
  · refine T.go 2 (fun n9 => (rfl : _ = exe ξ n9 d j_M_orderOf 8 [(0, J x)] [J x, J 16] σ)) ?_
    refine T.iadd rfl ?_
    exact T.ireti rfl rfl ⟨_, rfl, rfl, by omega, by omega⟩

set_option maxHeartbeats 4000000 in
theorem s_M_toldCodes {ξ : Nat → Option (Nat × List Int32)} {c io mo fa pl ns rw en wy wh bi ed sz md bd li wk we : Int} {Lc : List Int64} {la lm ln lh ld lk lt : List Int32} (d : Nat) (x : Int) (y : Int) (σ : qH) (hM : MS σ c io mo fa pl ns rw en wy wh bi ed sz md bd li wk we Lc la lm ln lh ld lk lt) (rx : -2147483648 ≤ x ∧ x ≤ 2147483647) (ry : -2147483648 ≤ y ∧ y ≤ 2147483647) (pre0 : 0 ≤ bi) (pre1 : bi ≤ ed) (pre2 : ed ≤ 64000) (pre3 : ed % 8 = 0) (pre4 : 0 ≤ x) (pre5 : x ≤ 286) (pre6 : 0 ≤ y) (pre7 : y ≤ 30) : T ξ (d + 3) j_M_toldCodes 0 (lv_args 0 [.ref 137, J x, J y]) [] σ (fun v σ' => ∃ (bi1 : Int) (bd1 : Int) (lk1 : List Int32), v = none ∧ MS σ' c io mo fa pl ns rw en wy wh bi1 ed sz md bd1 li wk we Lc la lm ln lh ld lk1 lt ∧ FM σ σ' ∧ bi ≤ bi1 ∧ bi1 ≤ ed ∧ bd ≤ bd1) := by
  have r0 := hM.rg
  have n0 := hM.len
  have e2_2 : P2 2 = 4 := by decide
  have e2_3 : P2 3 = 8 := by decide
  have e2_4 : P2 4 = 16 := by decide
  have e2_7 : P2 7 = 128 := by decide
  have loop104 : ∀ (f104 : Nat) (n : Int) (a : Int) (l5 : Int) (bi9 : Int) (bd9 : Int) (lk9 : List Int32) (τ : qH), MS τ c io mo fa pl ns rw en wy wh bi9 ed sz md bd9 li wk we Lc la lm ln lh ld lk9 lt → FM σ τ → bi ≤ bi9 → bi9 ≤ ed → bd ≤ bd9 → 0 ≤ a → a ≤ x + y → -1 ≤ l5 → l5 ≤ 100 → (x + y - a + 1 - bd9).toNat < f104 → T ξ (d + 3) j_M_toldCodes 104 [(0, .ref 137), (1, J x), (2, J y), (3, J n), (4, J a), (5, J l5)] [] τ (fun v σ' => ∃ (bi1 : Int) (bd1 : Int) (lk1 : List Int32), v = none ∧ MS σ' c io mo fa pl ns rw en wy wh bi1 ed sz md bd1 li wk we Lc la lm ln lh ld lk1 lt ∧ FM σ σ' ∧ bi ≤ bi1 ∧ bi1 ≤ ed ∧ bd ≤ bd1) := by
    intro f104
    induction f104 with
    | zero => intro n a l5 bi9 bd9 lk9 τ mτ fτ i0 i1 i2 i3 i4 i5 i6 hm104; omega
    | succ f104 ih104 =>
      intro n a l5 bi9 bd9 lk9 τ mτ fτ i0 i1 i2 i3 i4 i5 i6 hm104
      have rτ := mτ.rg
      have nτ := mτ.len
      have loop248 : ∀ (f248 : Nat) (a4 : Int) (s6 : Int) (t7 : Int) (v8 : Int) (k9 : Int) (bi8 : Int) (bd8 : Int) (lk8 : List Int32) (τ1 : qH), MS τ1 c io mo fa pl ns rw en wy wh bi8 ed sz md bd8 li wk we Lc la lm ln lh ld lk8 lt → FM σ τ1 → bi ≤ bi8 → bi8 ≤ ed → bd ≤ bd8 → 0 ≤ a4 → a4 ≤ x + y → -1 ≤ v8 → v8 ≤ 100 → 0 ≤ k9 → k9 ≤ t7 → 1 ≤ t7 → t7 ≤ 200 → (bd8 = 0 → a4 + (t7 - k9) ≤ x + y ∧ a + k9 ≤ a4) → a ≤ a4 → bd9 = 0 → a < x + y → (t7 - k9).toNat < f248 → T ξ (d + 3) j_M_toldCodes 248 [(0, .ref 137), (1, J x), (2, J y), (3, J n), (4, J a4), (5, J l5), (6, J s6), (7, J t7), (8, J v8), (9, J k9)] [] τ1 (fun v σ' => ∃ (bi1 : Int) (bd1 : Int) (lk1 : List Int32), v = none ∧ MS σ' c io mo fa pl ns rw en wy wh bi1 ed sz md bd1 li wk we Lc la lm ln lh ld lk1 lt ∧ FM σ σ' ∧ bi ≤ bi1 ∧ bi1 ≤ ed ∧ bd ≤ bd1) := by
        intro f248
        induction f248 with
        | zero => intro a4 s6 t7 v8 k9 bi8 bd8 lk8 τ1 mτ1 fτ1 j0 j1 j2 j3 j4 j5 j6 j7 j8 j9 j10 j11 j12 j13 j14 hm248; omega
        | succ f248 ih248 =>
          intro a4 s6 t7 v8 k9 bi8 bd8 lk8 τ1 mτ1 fτ1 j0 j1 j2 j3 j4 j5 j6 j7 j8 j9 j10 j11 j12 j13 j14 hm248
          have rτ1 := mτ1.rg
          have nτ1 := mτ1.len
          refine T.go 2 (fun n9 => (rfl : _ = exe ξ n9 (d + 3) j_M_toldCodes 252 [(0, .ref 137), (1, J x), (2, J y), (3, J n), (4, J a4), (5, J l5), (6, J s6), (7, J t7), (8, J v8), (9, J k9)] [J t7, J k9] τ1)) ?_
          refine T.icmp_ge rfl rfl (by omega) (by omega) (fun c1 => ?_) (fun c1 => ?_)
          · refine T.go 3 (fun n9 => (rfl : _ = exe ξ n9 (d + 3) j_M_toldCodes 104 [(0, .ref 137), (1, J x), (2, J y), (3, J n), (4, J a4), (5, J v8), (6, J s6), (7, J t7), (8, J v8), (9, J k9)] [] τ1)) ?_
            refine T.drop (lv := [(0, .ref 137), (1, J x), (2, J y), (3, J n), (4, J a4), (5, J v8)]) [(6, J s6), (7, J t7), (8, J v8), (9, J k9)] (by simp) ?_
            exact ih104  n a4 v8 bi8 bd8 lk8 τ1 mτ1 fτ1 (by omega) (by omega) (by omega) (by omega) (by omega) (by omega) (by omega) (by omega)
          · refine T.go 1 (fun n9 => (rfl : _ = exe ξ n9 (d + 3) j_M_toldCodes 256 [(0, .ref 137), (1, J x), (2, J y), (3, J n), (4, J a4), (5, J l5), (6, J s6), (7, J t7), (8, J v8), (9, J k9)] [.ref 137] τ1)) ?_
            refine T.get rfl rfl rfl mτ1.ob rfl ?_
            refine T.if_ne rfl rfl (by omega) (fun c2 => ?_) (fun c2 => ?_)
            · refine T.go 3 (fun n9 => (rfl : _ = exe ξ n9 (d + 3) j_M_toldCodes 104 [(0, .ref 137), (1, J x), (2, J y), (3, J n), (4, J a4), (5, J v8), (6, J s6), (7, J t7), (8, J v8), (9, J k9)] [] τ1)) ?_
              refine T.drop (lv := [(0, .ref 137), (1, J x), (2, J y), (3, J n), (4, J a4), (5, J v8)]) [(6, J s6), (7, J t7), (8, J v8), (9, J k9)] (by simp) ?_
              exact ih104  n a4 v8 bi8 bd8 lk8 τ1 mτ1 fτ1 (by omega) (by omega) (by omega) (by omega) (by omega) (by omega) (by omega) (by omega)
            · refine T.go 1 (fun n9 => (rfl : _ = exe ξ n9 (d + 3) j_M_toldCodes 263 [(0, .ref 137), (1, J x), (2, J y), (3, J n), (4, J a4), (5, J l5), (6, J s6), (7, J t7), (8, J v8), (9, J k9)] [.ref 137] τ1)) ?_
              refine T.get rfl rfl rfl mτ1.ob rfl ?_
              refine T.go 2 (fun n9 => (rfl : _ = exe ξ n9 (d + 3) j_M_toldCodes 269 [(0, .ref 137), (1, J x), (2, J y), (3, J n), (4, J a4), (5, J l5), (6, J s6), (7, J t7), (8, J v8), (9, J k9)] [J x, J a4, .ref 144] τ1)) ?_
              refine T.icmp_ge rfl rfl (by omega) (by omega) (fun c3 => ?_) (fun c3 => ?_)
              · refine T.go 2 (fun n9 => (rfl : _ = exe ξ n9 (d + 3) j_M_toldCodes 282 [(0, .ref 137), (1, J x), (2, J y), (3, J n), (4, J a4), (5, J l5), (6, J s6), (7, J t7), (8, J v8), (9, J k9)] [J a4, J 300, .ref 144] τ1)) ?_
                refine T.iadd rfl ?_
                refine T.go 1 (fun n9 => (rfl : _ = exe ξ n9 (d + 3) j_M_toldCodes 284 [(0, .ref 137), (1, J x), (2, J y), (3, J n), (4, J a4), (5, J l5), (6, J s6), (7, J t7), (8, J v8), (9, J k9)] [J x, J (300 + a4), .ref 144] τ1)) ?_
                refine T.isub rfl ?_
                refine T.go 1 (fun n9 => (rfl : _ = exe ξ n9 (d + 3) j_M_toldCodes 287 [(0, .ref 137), (1, J x), (2, J y), (3, J n), (4, J a4), (5, J l5), (6, J s6), (7, J t7), (8, J v8), (9, J k9)] [J v8, J ((300 + a4) - x), .ref 144] τ1)) ?_
                refine T.mast144 mτ1 rfl (by omega) (fun s1 ms1 fs1 => ?_)
                have ns1 := ms1.len
                have gs1 := fτ1.trans fs1
                refine T.iinc (lv' := [(0, .ref 137), (1, J x), (2, J y), (3, J n), (4, J (a4 + 1)), (5, J l5), (6, J s6), (7, J t7), (8, J v8), (9, J k9)]) rfl rfl rfl rfl ?_
                refine T.iinc (lv' := [(0, .ref 137), (1, J x), (2, J y), (3, J n), (4, J (a4 + 1)), (5, J l5), (6, J s6), (7, J t7), (8, J v8), (9, J (k9 + 1))]) rfl rfl rfl rfl ?_
                refine T.go 1 (fun n9 => (rfl : _ = exe ξ n9 (d + 3) j_M_toldCodes 248 [(0, .ref 137), (1, J x), (2, J y), (3, J n), (4, J (a4 + 1)), (5, J l5), (6, J s6), (7, J t7), (8, J v8), (9, J (k9 + 1))] [] s1)) ?_
                exact ih248  (a4 + 1) s6 t7 v8 (k9 + 1) bi8 bd8 (lk8.set ((300 + a4) - x : Int).toNat (Int32.ofInt v8)) s1 ms1 gs1 (by omega) (by omega) (by omega) (by omega) (by omega) (by omega) (by omega) (by omega) (by omega) (by omega) (by omega) (by omega) (by omega) (by omega) (by omega) (by omega)
              · refine T.go 3 (fun n9 => (rfl : _ = exe ξ n9 (d + 3) j_M_toldCodes 287 [(0, .ref 137), (1, J x), (2, J y), (3, J n), (4, J a4), (5, J l5), (6, J s6), (7, J t7), (8, J v8), (9, J k9)] [J v8, J a4, .ref 144] τ1)) ?_
                refine T.mast144 mτ1 rfl (by omega) (fun s2 ms2 fs2 => ?_)
                have ns2 := ms2.len
                have gs2 := fτ1.trans fs2
                refine T.iinc (lv' := [(0, .ref 137), (1, J x), (2, J y), (3, J n), (4, J (a4 + 1)), (5, J l5), (6, J s6), (7, J t7), (8, J v8), (9, J k9)]) rfl rfl rfl rfl ?_
                refine T.iinc (lv' := [(0, .ref 137), (1, J x), (2, J y), (3, J n), (4, J (a4 + 1)), (5, J l5), (6, J s6), (7, J t7), (8, J v8), (9, J (k9 + 1))]) rfl rfl rfl rfl ?_
                refine T.go 1 (fun n9 => (rfl : _ = exe ξ n9 (d + 3) j_M_toldCodes 248 [(0, .ref 137), (1, J x), (2, J y), (3, J n), (4, J (a4 + 1)), (5, J l5), (6, J s6), (7, J t7), (8, J v8), (9, J (k9 + 1))] [] s2)) ?_
                exact ih248  (a4 + 1) s6 t7 v8 (k9 + 1) bi8 bd8 (lk8.set (a4 : Int).toNat (Int32.ofInt v8)) s2 ms2 gs2 (by omega) (by omega) (by omega) (by omega) (by omega) (by omega) (by omega) (by omega) (by omega) (by omega) (by omega) (by omega) (by omega) (by omega) (by omega) (by omega)
      refine T.go 3 (fun n9 => (rfl : _ = exe ξ n9 (d + 3) j_M_toldCodes 108 [(0, .ref 137), (1, J x), (2, J y), (3, J n), (4, J a), (5, J l5)] [J y, J x, J a] τ)) ?_
      refine T.iadd rfl ?_
      refine T.icmp_ge rfl rfl (by omega) (by omega) (fun c4 => ?_) (fun c4 => ?_)
      · exact T.vret rfl rfl ⟨bi9, bd9, lk9, rfl, mτ, fτ, by omega, by omega, by omega⟩
      · refine T.go 1 (fun n9 => (rfl : _ = exe ξ n9 (d + 3) j_M_toldCodes 113 [(0, .ref 137), (1, J x), (2, J y), (3, J n), (4, J a), (5, J l5)] [.ref 137] τ)) ?_
        refine T.get rfl rfl rfl mτ.ob rfl ?_
        refine T.if_ne rfl rfl (by omega) (fun c5 => ?_) (fun c5 => ?_)
        · exact T.vret rfl rfl ⟨bi9, bd9, lk9, rfl, mτ, fτ, by omega, by omega, by omega⟩
        · refine T.go 3 (fun n9 => (rfl : _ = exe ξ n9 (d + 3) j_M_toldCodes 125 [(0, .ref 137), (1, J x), (2, J y), (3, J n), (4, J a), (5, J l5)] [J 19, J 340, .ref 137] τ)) ?_
          refine T.callv (as := [J 340, J 19]) (r := []) rfl rfl rfl rfl mτ.ob rfl (s_M_sign d 340 19 τ mτ (by omega) (by omega) (by omega) (by omega) (by omega) (by omega) (by omega) (by omega) (by omega)) (fun v1 s3 hqs3 => ?_)
          obtain ⟨z1, bi_1, bd_1, rfl, ms3, fs3, hzz1, hyz1, pz1_0, pz1_1, pz1_2, pz1_3, pz1_4⟩ := hqs3
          have ns3 := ms3.len
          have rs3 := ms3.rg
          have gs3 := fτ.trans fs3
          refine T.go 3 (fun n9 => (rfl : _ = exe ξ n9 (d + 3) j_M_toldCodes 134 [(0, .ref 137), (1, J x), (2, J y), (3, J n), (4, J a), (5, J l5), (6, J z1)] [J 16, J z1] s3)) ?_
          refine T.icmp_ge rfl rfl (by omega) (by omega) (fun c6 => ?_) (fun c6 => ?_)
          · refine T.go 2 (fun n9 => (rfl : _ = exe ξ n9 (d + 3) j_M_toldCodes 145 [(0, .ref 137), (1, J x), (2, J y), (3, J n), (4, J a), (5, J l5), (6, J z1)] [J 16, J z1] s3)) ?_
            refine T.icmp_ne rfl rfl (by omega) (by omega) (fun c7 => ?_) (fun c7 => ?_)
            · refine T.go 2 (fun n9 => (rfl : _ = exe ξ n9 (d + 3) j_M_toldCodes 162 [(0, .ref 137), (1, J x), (2, J y), (3, J n), (4, J a), (5, J l5), (6, J z1)] [J 17, J z1] s3)) ?_
              refine T.icmp_ne rfl rfl (by omega) (by omega) (fun c8 => ?_) (fun c8 => ?_)
              · refine T.go 3 (fun n9 => (rfl : _ = exe ξ n9 (d + 3) j_M_toldCodes 180 [(0, .ref 137), (1, J x), (2, J y), (3, J n), (4, J a), (5, J l5), (6, J z1)] [J 7, .ref 137, J 11] s3)) ?_
                refine T.callv (as := [J 7]) (r := [J 11]) rfl rfl rfl rfl ms3.ob rfl (s_M_take (d + 1) 7 s3 ms3 (by omega) (by omega) (by omega) (by omega) (by omega) (by omega) (by omega)) (fun v2 s4 hqs4 => ?_)
                obtain ⟨z2, bi_2, bd_2, rfl, ms4, fs4, hzz2, hyz2, pz2_0, pz2_1, pz2_2, pz2_3, pz2_4⟩ := hqs4
                have ns4 := ms4.len
                have rs4 := ms4.rg
                have gs4 := gs3.trans fs4
                refine T.iadd rfl ?_
                refine T.go 3 (fun n9 => (rfl : _ = exe ξ n9 (d + 3) j_M_toldCodes 190 [(0, .ref 137), (1, J x), (2, J y), (3, J n), (4, J a), (5, J l5), (6, J z1), (7, J (11 + z2))] [J 16, J z1] s4)) ?_
                refine T.icmp_ge rfl rfl (by omega) (by omega) (fun c9 => ?_) (fun c9 => ?_)
                · refine T.go 2 (fun n9 => (rfl : _ = exe ξ n9 (d + 3) j_M_toldCodes 202 [(0, .ref 137), (1, J x), (2, J y), (3, J n), (4, J a), (5, J l5), (6, J z1), (7, J (11 + z2))] [J 16, J z1] s4)) ?_
                  refine T.icmp_ne rfl rfl (by omega) (by omega) (fun c10 => ?_) (fun c10 => ?_)
                  · refine T.go 4 (fun n9 => (rfl : _ = exe ξ n9 (d + 3) j_M_toldCodes 215 [(0, .ref 137), (1, J x), (2, J y), (3, J n), (4, J a), (5, J l5), (6, J z1), (7, J (11 + z2)), (8, J 0)] [.ref 137, .ref 137] s4)) ?_
                    refine T.get rfl rfl rfl ms4.ob rfl ?_
                    refine T.if_ne rfl rfl (by omega) (fun c11 => ?_) (fun c11 => ?_)
                    · refine T.go 2 (fun n9 => (rfl : _ = exe ξ n9 (d + 3) j_M_toldCodes 242 [(0, .ref 137), (1, J x), (2, J y), (3, J n), (4, J a), (5, J l5), (6, J z1), (7, J (11 + z2)), (8, J 0)] [J 1, .ref 137] s4)) ?_
                      refine T.mput (c' := c) (io' := io) (mo' := mo) (fa' := fa) (pl' := pl) (ns' := ns) (rw' := rw) (en' := en) (wy' := wy) (wh' := wh) (bi' := bi_2) (ed' := ed) (sz' := sz) (md' := md) (bd' := 1) (li' := li) (wk' := wk) (we' := we) ms4 rfl rfl rfl rfl rfl rfl (by omega) (fun s5 ms5 fs5 => ?_)
                      have gs5 := gs4.trans fs5
                      refine T.go 2 (fun n9 => (rfl : _ = exe ξ n9 (d + 3) j_M_toldCodes 248 [(0, .ref 137), (1, J x), (2, J y), (3, J n), (4, J a), (5, J l5), (6, J z1), (7, J (11 + z2)), (8, J 0), (9, J 0)] [] s5)) ?_
                      exact loop248 _ a z1 (11 + z2) 0 0 bi_2 1 lk9 s5 ms5 gs5 (by omega) (by omega) (by omega) (by omega) (by omega) (by omega) (by omega) (by omega) (by omega) (by omega) (by omega) (by omega) (by omega) (by omega) (by omega) (Nat.lt_succ_self _)
                    · refine T.go 4 (fun n9 => (rfl : _ = exe ξ n9 (d + 3) j_M_toldCodes 230 [(0, .ref 137), (1, J x), (2, J y), (3, J n), (4, J a), (5, J l5), (6, J z1), (7, J (11 + z2)), (8, J 0)] [J (11 + z2), J a, .ref 137] s4)) ?_
                      refine T.iadd rfl ?_
                      refine T.go 2 (fun n9 => (rfl : _ = exe ξ n9 (d + 3) j_M_toldCodes 233 [(0, .ref 137), (1, J x), (2, J y), (3, J n), (4, J a), (5, J l5), (6, J z1), (7, J (11 + z2)), (8, J 0)] [J y, J x, J (a + (11 + z2)), .ref 137] s4)) ?_
                      refine T.iadd rfl ?_
                      refine T.icmp_le rfl rfl (by omega) (by omega) (fun c12 => ?_) (fun c12 => ?_)
                      · refine T.go 1 (fun n9 => (rfl : _ = exe ξ n9 (d + 3) j_M_toldCodes 242 [(0, .ref 137), (1, J x), (2, J y), (3, J n), (4, J a), (5, J l5), (6, J z1), (7, J (11 + z2)), (8, J 0)] [J 0, .ref 137] s4)) ?_
                        refine T.mput (c' := c) (io' := io) (mo' := mo) (fa' := fa) (pl' := pl) (ns' := ns) (rw' := rw) (en' := en) (wy' := wy) (wh' := wh) (bi' := bi_2) (ed' := ed) (sz' := sz) (md' := md) (bd' := 0) (li' := li) (wk' := wk) (we' := we) ms4 rfl rfl rfl rfl rfl rfl (by omega) (fun s6 ms6 fs6 => ?_)
                        have gs6 := gs4.trans fs6
                        refine T.go 2 (fun n9 => (rfl : _ = exe ξ n9 (d + 3) j_M_toldCodes 248 [(0, .ref 137), (1, J x), (2, J y), (3, J n), (4, J a), (5, J l5), (6, J z1), (7, J (11 + z2)), (8, J 0), (9, J 0)] [] s6)) ?_
                        exact loop248 _ a z1 (11 + z2) 0 0 bi_2 0 lk9 s6 ms6 gs6 (by omega) (by omega) (by omega) (by omega) (by omega) (by omega) (by omega) (by omega) (by omega) (by omega) (by omega) (by omega) (by omega) (by omega) (by omega) (Nat.lt_succ_self _)
                      · refine T.go 2 (fun n9 => (rfl : _ = exe ξ n9 (d + 3) j_M_toldCodes 242 [(0, .ref 137), (1, J x), (2, J y), (3, J n), (4, J a), (5, J l5), (6, J z1), (7, J (11 + z2)), (8, J 0)] [J 1, .ref 137] s4)) ?_
                        refine T.mput (c' := c) (io' := io) (mo' := mo) (fa' := fa) (pl' := pl) (ns' := ns) (rw' := rw) (en' := en) (wy' := wy) (wh' := wh) (bi' := bi_2) (ed' := ed) (sz' := sz) (md' := md) (bd' := 1) (li' := li) (wk' := wk) (we' := we) ms4 rfl rfl rfl rfl rfl rfl (by omega) (fun s7 ms7 fs7 => ?_)
                        have gs7 := gs4.trans fs7
                        refine T.go 2 (fun n9 => (rfl : _ = exe ξ n9 (d + 3) j_M_toldCodes 248 [(0, .ref 137), (1, J x), (2, J y), (3, J n), (4, J a), (5, J l5), (6, J z1), (7, J (11 + z2)), (8, J 0), (9, J 0)] [] s7)) ?_
                        exact loop248 _ a z1 (11 + z2) 0 0 bi_2 1 lk9 s7 ms7 gs7 (by omega) (by omega) (by omega) (by omega) (by omega) (by omega) (by omega) (by omega) (by omega) (by omega) (by omega) (by omega) (by omega) (by omega) (by omega) (Nat.lt_succ_self _)
                  · refine T.go 5 (fun n9 => (rfl : _ = exe ξ n9 (d + 3) j_M_toldCodes 215 [(0, .ref 137), (1, J x), (2, J y), (3, J n), (4, J a), (5, J l5), (6, J z1), (7, J (11 + z2)), (8, J l5)] [.ref 137, .ref 137] s4)) ?_
                    refine T.get rfl rfl rfl ms4.ob rfl ?_
                    refine T.if_ne rfl rfl (by omega) (fun c13 => ?_) (fun c13 => ?_)
                    · refine T.go 2 (fun n9 => (rfl : _ = exe ξ n9 (d + 3) j_M_toldCodes 242 [(0, .ref 137), (1, J x), (2, J y), (3, J n), (4, J a), (5, J l5), (6, J z1), (7, J (11 + z2)), (8, J l5)] [J 1, .ref 137] s4)) ?_
                      refine T.mput (c' := c) (io' := io) (mo' := mo) (fa' := fa) (pl' := pl) (ns' := ns) (rw' := rw) (en' := en) (wy' := wy) (wh' := wh) (bi' := bi_2) (ed' := ed) (sz' := sz) (md' := md) (bd' := 1) (li' := li) (wk' := wk) (we' := we) ms4 rfl rfl rfl rfl rfl rfl (by omega) (fun s8 ms8 fs8 => ?_)
                      have gs8 := gs4.trans fs8
                      refine T.go 2 (fun n9 => (rfl : _ = exe ξ n9 (d + 3) j_M_toldCodes 248 [(0, .ref 137), (1, J x), (2, J y), (3, J n), (4, J a), (5, J l5), (6, J z1), (7, J (11 + z2)), (8, J l5), (9, J 0)] [] s8)) ?_
                      exact loop248 _ a z1 (11 + z2) l5 0 bi_2 1 lk9 s8 ms8 gs8 (by omega) (by omega) (by omega) (by omega) (by omega) (by omega) (by omega) (by omega) (by omega) (by omega) (by omega) (by omega) (by omega) (by omega) (by omega) (Nat.lt_succ_self _)
                    · refine T.go 1 (fun n9 => (rfl : _ = exe ξ n9 (d + 3) j_M_toldCodes 223 [(0, .ref 137), (1, J x), (2, J y), (3, J n), (4, J a), (5, J l5), (6, J z1), (7, J (11 + z2)), (8, J l5)] [J l5, .ref 137] s4)) ?_
                      refine T.if_lt rfl rfl (by omega) (fun c14 => ?_) (fun c14 => ?_)
                      · refine T.go 2 (fun n9 => (rfl : _ = exe ξ n9 (d + 3) j_M_toldCodes 242 [(0, .ref 137), (1, J x), (2, J y), (3, J n), (4, J a), (5, J l5), (6, J z1), (7, J (11 + z2)), (8, J l5)] [J 1, .ref 137] s4)) ?_
                        refine T.mput (c' := c) (io' := io) (mo' := mo) (fa' := fa) (pl' := pl) (ns' := ns) (rw' := rw) (en' := en) (wy' := wy) (wh' := wh) (bi' := bi_2) (ed' := ed) (sz' := sz) (md' := md) (bd' := 1) (li' := li) (wk' := wk) (we' := we) ms4 rfl rfl rfl rfl rfl rfl (by omega) (fun s9 ms9 fs9 => ?_)
                        have gs9 := gs4.trans fs9
                        refine T.go 2 (fun n9 => (rfl : _ = exe ξ n9 (d + 3) j_M_toldCodes 248 [(0, .ref 137), (1, J x), (2, J y), (3, J n), (4, J a), (5, J l5), (6, J z1), (7, J (11 + z2)), (8, J l5), (9, J 0)] [] s9)) ?_
                        exact loop248 _ a z1 (11 + z2) l5 0 bi_2 1 lk9 s9 ms9 gs9 (by omega) (by omega) (by omega) (by omega) (by omega) (by omega) (by omega) (by omega) (by omega) (by omega) (by omega) (by omega) (by omega) (by omega) (by omega) (Nat.lt_succ_self _)
                      · refine T.go 2 (fun n9 => (rfl : _ = exe ξ n9 (d + 3) j_M_toldCodes 230 [(0, .ref 137), (1, J x), (2, J y), (3, J n), (4, J a), (5, J l5), (6, J z1), (7, J (11 + z2)), (8, J l5)] [J (11 + z2), J a, .ref 137] s4)) ?_
                        refine T.iadd rfl ?_
                        refine T.go 2 (fun n9 => (rfl : _ = exe ξ n9 (d + 3) j_M_toldCodes 233 [(0, .ref 137), (1, J x), (2, J y), (3, J n), (4, J a), (5, J l5), (6, J z1), (7, J (11 + z2)), (8, J l5)] [J y, J x, J (a + (11 + z2)), .ref 137] s4)) ?_
                        refine T.iadd rfl ?_
                        refine T.icmp_le rfl rfl (by omega) (by omega) (fun c15 => ?_) (fun c15 => ?_)
                        · refine T.go 1 (fun n9 => (rfl : _ = exe ξ n9 (d + 3) j_M_toldCodes 242 [(0, .ref 137), (1, J x), (2, J y), (3, J n), (4, J a), (5, J l5), (6, J z1), (7, J (11 + z2)), (8, J l5)] [J 0, .ref 137] s4)) ?_
                          refine T.mput (c' := c) (io' := io) (mo' := mo) (fa' := fa) (pl' := pl) (ns' := ns) (rw' := rw) (en' := en) (wy' := wy) (wh' := wh) (bi' := bi_2) (ed' := ed) (sz' := sz) (md' := md) (bd' := 0) (li' := li) (wk' := wk) (we' := we) ms4 rfl rfl rfl rfl rfl rfl (by omega) (fun s10 ms10 fs10 => ?_)
                          have gs10 := gs4.trans fs10
                          refine T.go 2 (fun n9 => (rfl : _ = exe ξ n9 (d + 3) j_M_toldCodes 248 [(0, .ref 137), (1, J x), (2, J y), (3, J n), (4, J a), (5, J l5), (6, J z1), (7, J (11 + z2)), (8, J l5), (9, J 0)] [] s10)) ?_
                          exact loop248 _ a z1 (11 + z2) l5 0 bi_2 0 lk9 s10 ms10 gs10 (by omega) (by omega) (by omega) (by omega) (by omega) (by omega) (by omega) (by omega) (by omega) (by omega) (by omega) (by omega) (by omega) (by omega) (by omega) (Nat.lt_succ_self _)
                        · refine T.go 2 (fun n9 => (rfl : _ = exe ξ n9 (d + 3) j_M_toldCodes 242 [(0, .ref 137), (1, J x), (2, J y), (3, J n), (4, J a), (5, J l5), (6, J z1), (7, J (11 + z2)), (8, J l5)] [J 1, .ref 137] s4)) ?_
                          refine T.mput (c' := c) (io' := io) (mo' := mo) (fa' := fa) (pl' := pl) (ns' := ns) (rw' := rw) (en' := en) (wy' := wy) (wh' := wh) (bi' := bi_2) (ed' := ed) (sz' := sz) (md' := md) (bd' := 1) (li' := li) (wk' := wk) (we' := we) ms4 rfl rfl rfl rfl rfl rfl (by omega) (fun s11 ms11 fs11 => ?_)
                          have gs11 := gs4.trans fs11
                          refine T.go 2 (fun n9 => (rfl : _ = exe ξ n9 (d + 3) j_M_toldCodes 248 [(0, .ref 137), (1, J x), (2, J y), (3, J n), (4, J a), (5, J l5), (6, J z1), (7, J (11 + z2)), (8, J l5), (9, J 0)] [] s11)) ?_
                          exact loop248 _ a z1 (11 + z2) l5 0 bi_2 1 lk9 s11 ms11 gs11 (by omega) (by omega) (by omega) (by omega) (by omega) (by omega) (by omega) (by omega) (by omega) (by omega) (by omega) (by omega) (by omega) (by omega) (by omega) (Nat.lt_succ_self _)
                · refine T.go 5 (fun n9 => (rfl : _ = exe ξ n9 (d + 3) j_M_toldCodes 215 [(0, .ref 137), (1, J x), (2, J y), (3, J n), (4, J a), (5, J l5), (6, J z1), (7, J (11 + z2)), (8, J z1)] [.ref 137, .ref 137] s4)) ?_
                  refine T.get rfl rfl rfl ms4.ob rfl ?_
                  refine T.if_ne rfl rfl (by omega) (fun c16 => ?_) (fun c16 => ?_)
                  · refine T.go 2 (fun n9 => (rfl : _ = exe ξ n9 (d + 3) j_M_toldCodes 242 [(0, .ref 137), (1, J x), (2, J y), (3, J n), (4, J a), (5, J l5), (6, J z1), (7, J (11 + z2)), (8, J z1)] [J 1, .ref 137] s4)) ?_
                    refine T.mput (c' := c) (io' := io) (mo' := mo) (fa' := fa) (pl' := pl) (ns' := ns) (rw' := rw) (en' := en) (wy' := wy) (wh' := wh) (bi' := bi_2) (ed' := ed) (sz' := sz) (md' := md) (bd' := 1) (li' := li) (wk' := wk) (we' := we) ms4 rfl rfl rfl rfl rfl rfl (by omega) (fun s12 ms12 fs12 => ?_)
                    have gs12 := gs4.trans fs12
                    refine T.go 2 (fun n9 => (rfl : _ = exe ξ n9 (d + 3) j_M_toldCodes 248 [(0, .ref 137), (1, J x), (2, J y), (3, J n), (4, J a), (5, J l5), (6, J z1), (7, J (11 + z2)), (8, J z1), (9, J 0)] [] s12)) ?_
                    exact loop248 _ a z1 (11 + z2) z1 0 bi_2 1 lk9 s12 ms12 gs12 (by omega) (by omega) (by omega) (by omega) (by omega) (by omega) (by omega) (by omega) (by omega) (by omega) (by omega) (by omega) (by omega) (by omega) (by omega) (Nat.lt_succ_self _)
                  · refine T.go 1 (fun n9 => (rfl : _ = exe ξ n9 (d + 3) j_M_toldCodes 223 [(0, .ref 137), (1, J x), (2, J y), (3, J n), (4, J a), (5, J l5), (6, J z1), (7, J (11 + z2)), (8, J z1)] [J z1, .ref 137] s4)) ?_
                    refine T.if_lt rfl rfl (by omega) (fun c17 => ?_) (fun c17 => ?_)
                    · refine T.go 2 (fun n9 => (rfl : _ = exe ξ n9 (d + 3) j_M_toldCodes 242 [(0, .ref 137), (1, J x), (2, J y), (3, J n), (4, J a), (5, J l5), (6, J z1), (7, J (11 + z2)), (8, J z1)] [J 1, .ref 137] s4)) ?_
                      refine T.mput (c' := c) (io' := io) (mo' := mo) (fa' := fa) (pl' := pl) (ns' := ns) (rw' := rw) (en' := en) (wy' := wy) (wh' := wh) (bi' := bi_2) (ed' := ed) (sz' := sz) (md' := md) (bd' := 1) (li' := li) (wk' := wk) (we' := we) ms4 rfl rfl rfl rfl rfl rfl (by omega) (fun s13 ms13 fs13 => ?_)
                      have gs13 := gs4.trans fs13
                      refine T.go 2 (fun n9 => (rfl : _ = exe ξ n9 (d + 3) j_M_toldCodes 248 [(0, .ref 137), (1, J x), (2, J y), (3, J n), (4, J a), (5, J l5), (6, J z1), (7, J (11 + z2)), (8, J z1), (9, J 0)] [] s13)) ?_
                      exact loop248 _ a z1 (11 + z2) z1 0 bi_2 1 lk9 s13 ms13 gs13 (by omega) (by omega) (by omega) (by omega) (by omega) (by omega) (by omega) (by omega) (by omega) (by omega) (by omega) (by omega) (by omega) (by omega) (by omega) (Nat.lt_succ_self _)
                    · refine T.go 2 (fun n9 => (rfl : _ = exe ξ n9 (d + 3) j_M_toldCodes 230 [(0, .ref 137), (1, J x), (2, J y), (3, J n), (4, J a), (5, J l5), (6, J z1), (7, J (11 + z2)), (8, J z1)] [J (11 + z2), J a, .ref 137] s4)) ?_
                      refine T.iadd rfl ?_
                      refine T.go 2 (fun n9 => (rfl : _ = exe ξ n9 (d + 3) j_M_toldCodes 233 [(0, .ref 137), (1, J x), (2, J y), (3, J n), (4, J a), (5, J l5), (6, J z1), (7, J (11 + z2)), (8, J z1)] [J y, J x, J (a + (11 + z2)), .ref 137] s4)) ?_
                      refine T.iadd rfl ?_
                      refine T.icmp_le rfl rfl (by omega) (by omega) (fun c18 => ?_) (fun c18 => ?_)
                      · refine T.go 1 (fun n9 => (rfl : _ = exe ξ n9 (d + 3) j_M_toldCodes 242 [(0, .ref 137), (1, J x), (2, J y), (3, J n), (4, J a), (5, J l5), (6, J z1), (7, J (11 + z2)), (8, J z1)] [J 0, .ref 137] s4)) ?_
                        refine T.mput (c' := c) (io' := io) (mo' := mo) (fa' := fa) (pl' := pl) (ns' := ns) (rw' := rw) (en' := en) (wy' := wy) (wh' := wh) (bi' := bi_2) (ed' := ed) (sz' := sz) (md' := md) (bd' := 0) (li' := li) (wk' := wk) (we' := we) ms4 rfl rfl rfl rfl rfl rfl (by omega) (fun s14 ms14 fs14 => ?_)
                        have gs14 := gs4.trans fs14
                        refine T.go 2 (fun n9 => (rfl : _ = exe ξ n9 (d + 3) j_M_toldCodes 248 [(0, .ref 137), (1, J x), (2, J y), (3, J n), (4, J a), (5, J l5), (6, J z1), (7, J (11 + z2)), (8, J z1), (9, J 0)] [] s14)) ?_
                        exact loop248 _ a z1 (11 + z2) z1 0 bi_2 0 lk9 s14 ms14 gs14 (by omega) (by omega) (by omega) (by omega) (by omega) (by omega) (by omega) (by omega) (by omega) (by omega) (by omega) (by omega) (by omega) (by omega) (by omega) (Nat.lt_succ_self _)
                      · refine T.go 2 (fun n9 => (rfl : _ = exe ξ n9 (d + 3) j_M_toldCodes 242 [(0, .ref 137), (1, J x), (2, J y), (3, J n), (4, J a), (5, J l5), (6, J z1), (7, J (11 + z2)), (8, J z1)] [J 1, .ref 137] s4)) ?_
                        refine T.mput (c' := c) (io' := io) (mo' := mo) (fa' := fa) (pl' := pl) (ns' := ns) (rw' := rw) (en' := en) (wy' := wy) (wh' := wh) (bi' := bi_2) (ed' := ed) (sz' := sz) (md' := md) (bd' := 1) (li' := li) (wk' := wk) (we' := we) ms4 rfl rfl rfl rfl rfl rfl (by omega) (fun s15 ms15 fs15 => ?_)
                        have gs15 := gs4.trans fs15
                        refine T.go 2 (fun n9 => (rfl : _ = exe ξ n9 (d + 3) j_M_toldCodes 248 [(0, .ref 137), (1, J x), (2, J y), (3, J n), (4, J a), (5, J l5), (6, J z1), (7, J (11 + z2)), (8, J z1), (9, J 0)] [] s15)) ?_
                        exact loop248 _ a z1 (11 + z2) z1 0 bi_2 1 lk9 s15 ms15 gs15 (by omega) (by omega) (by omega) (by omega) (by omega) (by omega) (by omega) (by omega) (by omega) (by omega) (by omega) (by omega) (by omega) (by omega) (by omega) (Nat.lt_succ_self _)
              · refine T.go 3 (fun n9 => (rfl : _ = exe ξ n9 (d + 3) j_M_toldCodes 168 [(0, .ref 137), (1, J x), (2, J y), (3, J n), (4, J a), (5, J l5), (6, J z1)] [J 3, .ref 137, J 3] s3)) ?_
                refine T.callv (as := [J 3]) (r := [J 3]) rfl rfl rfl rfl ms3.ob rfl (s_M_take (d + 1) 3 s3 ms3 (by omega) (by omega) (by omega) (by omega) (by omega) (by omega) (by omega)) (fun v3 s16 hqs16 => ?_)
                obtain ⟨z3, bi_3, bd_3, rfl, ms16, fs16, hzz3, hyz3, pz3_0, pz3_1, pz3_2, pz3_3, pz3_4⟩ := hqs16
                have ns16 := ms16.len
                have rs16 := ms16.rg
                have gs16 := gs3.trans fs16
                refine T.iadd rfl ?_
                refine T.go 4 (fun n9 => (rfl : _ = exe ξ n9 (d + 3) j_M_toldCodes 190 [(0, .ref 137), (1, J x), (2, J y), (3, J n), (4, J a), (5, J l5), (6, J z1), (7, J (3 + z3))] [J 16, J z1] s16)) ?_
                refine T.icmp_ge rfl rfl (by omega) (by omega) (fun c19 => ?_) (fun c19 => ?_)
                · refine T.go 2 (fun n9 => (rfl : _ = exe ξ n9 (d + 3) j_M_toldCodes 202 [(0, .ref 137), (1, J x), (2, J y), (3, J n), (4, J a), (5, J l5), (6, J z1), (7, J (3 + z3))] [J 16, J z1] s16)) ?_
                  refine T.icmp_ne rfl rfl (by omega) (by omega) (fun c20 => ?_) (fun c20 => ?_)
                  · refine T.go 4 (fun n9 => (rfl : _ = exe ξ n9 (d + 3) j_M_toldCodes 215 [(0, .ref 137), (1, J x), (2, J y), (3, J n), (4, J a), (5, J l5), (6, J z1), (7, J (3 + z3)), (8, J 0)] [.ref 137, .ref 137] s16)) ?_
                    refine T.get rfl rfl rfl ms16.ob rfl ?_
                    refine T.if_ne rfl rfl (by omega) (fun c21 => ?_) (fun c21 => ?_)
                    · refine T.go 2 (fun n9 => (rfl : _ = exe ξ n9 (d + 3) j_M_toldCodes 242 [(0, .ref 137), (1, J x), (2, J y), (3, J n), (4, J a), (5, J l5), (6, J z1), (7, J (3 + z3)), (8, J 0)] [J 1, .ref 137] s16)) ?_
                      refine T.mput (c' := c) (io' := io) (mo' := mo) (fa' := fa) (pl' := pl) (ns' := ns) (rw' := rw) (en' := en) (wy' := wy) (wh' := wh) (bi' := bi_3) (ed' := ed) (sz' := sz) (md' := md) (bd' := 1) (li' := li) (wk' := wk) (we' := we) ms16 rfl rfl rfl rfl rfl rfl (by omega) (fun s17 ms17 fs17 => ?_)
                      have gs17 := gs16.trans fs17
                      refine T.go 2 (fun n9 => (rfl : _ = exe ξ n9 (d + 3) j_M_toldCodes 248 [(0, .ref 137), (1, J x), (2, J y), (3, J n), (4, J a), (5, J l5), (6, J z1), (7, J (3 + z3)), (8, J 0), (9, J 0)] [] s17)) ?_
                      exact loop248 _ a z1 (3 + z3) 0 0 bi_3 1 lk9 s17 ms17 gs17 (by omega) (by omega) (by omega) (by omega) (by omega) (by omega) (by omega) (by omega) (by omega) (by omega) (by omega) (by omega) (by omega) (by omega) (by omega) (Nat.lt_succ_self _)
                    · refine T.go 4 (fun n9 => (rfl : _ = exe ξ n9 (d + 3) j_M_toldCodes 230 [(0, .ref 137), (1, J x), (2, J y), (3, J n), (4, J a), (5, J l5), (6, J z1), (7, J (3 + z3)), (8, J 0)] [J (3 + z3), J a, .ref 137] s16)) ?_
                      refine T.iadd rfl ?_
                      refine T.go 2 (fun n9 => (rfl : _ = exe ξ n9 (d + 3) j_M_toldCodes 233 [(0, .ref 137), (1, J x), (2, J y), (3, J n), (4, J a), (5, J l5), (6, J z1), (7, J (3 + z3)), (8, J 0)] [J y, J x, J (a + (3 + z3)), .ref 137] s16)) ?_
                      refine T.iadd rfl ?_
                      refine T.icmp_le rfl rfl (by omega) (by omega) (fun c22 => ?_) (fun c22 => ?_)
                      · refine T.go 1 (fun n9 => (rfl : _ = exe ξ n9 (d + 3) j_M_toldCodes 242 [(0, .ref 137), (1, J x), (2, J y), (3, J n), (4, J a), (5, J l5), (6, J z1), (7, J (3 + z3)), (8, J 0)] [J 0, .ref 137] s16)) ?_
                        refine T.mput (c' := c) (io' := io) (mo' := mo) (fa' := fa) (pl' := pl) (ns' := ns) (rw' := rw) (en' := en) (wy' := wy) (wh' := wh) (bi' := bi_3) (ed' := ed) (sz' := sz) (md' := md) (bd' := 0) (li' := li) (wk' := wk) (we' := we) ms16 rfl rfl rfl rfl rfl rfl (by omega) (fun s18 ms18 fs18 => ?_)
                        have gs18 := gs16.trans fs18
                        refine T.go 2 (fun n9 => (rfl : _ = exe ξ n9 (d + 3) j_M_toldCodes 248 [(0, .ref 137), (1, J x), (2, J y), (3, J n), (4, J a), (5, J l5), (6, J z1), (7, J (3 + z3)), (8, J 0), (9, J 0)] [] s18)) ?_
                        exact loop248 _ a z1 (3 + z3) 0 0 bi_3 0 lk9 s18 ms18 gs18 (by omega) (by omega) (by omega) (by omega) (by omega) (by omega) (by omega) (by omega) (by omega) (by omega) (by omega) (by omega) (by omega) (by omega) (by omega) (Nat.lt_succ_self _)
                      · refine T.go 2 (fun n9 => (rfl : _ = exe ξ n9 (d + 3) j_M_toldCodes 242 [(0, .ref 137), (1, J x), (2, J y), (3, J n), (4, J a), (5, J l5), (6, J z1), (7, J (3 + z3)), (8, J 0)] [J 1, .ref 137] s16)) ?_
                        refine T.mput (c' := c) (io' := io) (mo' := mo) (fa' := fa) (pl' := pl) (ns' := ns) (rw' := rw) (en' := en) (wy' := wy) (wh' := wh) (bi' := bi_3) (ed' := ed) (sz' := sz) (md' := md) (bd' := 1) (li' := li) (wk' := wk) (we' := we) ms16 rfl rfl rfl rfl rfl rfl (by omega) (fun s19 ms19 fs19 => ?_)
                        have gs19 := gs16.trans fs19
                        refine T.go 2 (fun n9 => (rfl : _ = exe ξ n9 (d + 3) j_M_toldCodes 248 [(0, .ref 137), (1, J x), (2, J y), (3, J n), (4, J a), (5, J l5), (6, J z1), (7, J (3 + z3)), (8, J 0), (9, J 0)] [] s19)) ?_
                        exact loop248 _ a z1 (3 + z3) 0 0 bi_3 1 lk9 s19 ms19 gs19 (by omega) (by omega) (by omega) (by omega) (by omega) (by omega) (by omega) (by omega) (by omega) (by omega) (by omega) (by omega) (by omega) (by omega) (by omega) (Nat.lt_succ_self _)
                  · refine T.go 5 (fun n9 => (rfl : _ = exe ξ n9 (d + 3) j_M_toldCodes 215 [(0, .ref 137), (1, J x), (2, J y), (3, J n), (4, J a), (5, J l5), (6, J z1), (7, J (3 + z3)), (8, J l5)] [.ref 137, .ref 137] s16)) ?_
                    refine T.get rfl rfl rfl ms16.ob rfl ?_
                    refine T.if_ne rfl rfl (by omega) (fun c23 => ?_) (fun c23 => ?_)
                    · refine T.go 2 (fun n9 => (rfl : _ = exe ξ n9 (d + 3) j_M_toldCodes 242 [(0, .ref 137), (1, J x), (2, J y), (3, J n), (4, J a), (5, J l5), (6, J z1), (7, J (3 + z3)), (8, J l5)] [J 1, .ref 137] s16)) ?_
                      refine T.mput (c' := c) (io' := io) (mo' := mo) (fa' := fa) (pl' := pl) (ns' := ns) (rw' := rw) (en' := en) (wy' := wy) (wh' := wh) (bi' := bi_3) (ed' := ed) (sz' := sz) (md' := md) (bd' := 1) (li' := li) (wk' := wk) (we' := we) ms16 rfl rfl rfl rfl rfl rfl (by omega) (fun s20 ms20 fs20 => ?_)
                      have gs20 := gs16.trans fs20
                      refine T.go 2 (fun n9 => (rfl : _ = exe ξ n9 (d + 3) j_M_toldCodes 248 [(0, .ref 137), (1, J x), (2, J y), (3, J n), (4, J a), (5, J l5), (6, J z1), (7, J (3 + z3)), (8, J l5), (9, J 0)] [] s20)) ?_
                      exact loop248 _ a z1 (3 + z3) l5 0 bi_3 1 lk9 s20 ms20 gs20 (by omega) (by omega) (by omega) (by omega) (by omega) (by omega) (by omega) (by omega) (by omega) (by omega) (by omega) (by omega) (by omega) (by omega) (by omega) (Nat.lt_succ_self _)
                    · refine T.go 1 (fun n9 => (rfl : _ = exe ξ n9 (d + 3) j_M_toldCodes 223 [(0, .ref 137), (1, J x), (2, J y), (3, J n), (4, J a), (5, J l5), (6, J z1), (7, J (3 + z3)), (8, J l5)] [J l5, .ref 137] s16)) ?_
                      refine T.if_lt rfl rfl (by omega) (fun c24 => ?_) (fun c24 => ?_)
                      · refine T.go 2 (fun n9 => (rfl : _ = exe ξ n9 (d + 3) j_M_toldCodes 242 [(0, .ref 137), (1, J x), (2, J y), (3, J n), (4, J a), (5, J l5), (6, J z1), (7, J (3 + z3)), (8, J l5)] [J 1, .ref 137] s16)) ?_
                        refine T.mput (c' := c) (io' := io) (mo' := mo) (fa' := fa) (pl' := pl) (ns' := ns) (rw' := rw) (en' := en) (wy' := wy) (wh' := wh) (bi' := bi_3) (ed' := ed) (sz' := sz) (md' := md) (bd' := 1) (li' := li) (wk' := wk) (we' := we) ms16 rfl rfl rfl rfl rfl rfl (by omega) (fun s21 ms21 fs21 => ?_)
                        have gs21 := gs16.trans fs21
                        refine T.go 2 (fun n9 => (rfl : _ = exe ξ n9 (d + 3) j_M_toldCodes 248 [(0, .ref 137), (1, J x), (2, J y), (3, J n), (4, J a), (5, J l5), (6, J z1), (7, J (3 + z3)), (8, J l5), (9, J 0)] [] s21)) ?_
                        exact loop248 _ a z1 (3 + z3) l5 0 bi_3 1 lk9 s21 ms21 gs21 (by omega) (by omega) (by omega) (by omega) (by omega) (by omega) (by omega) (by omega) (by omega) (by omega) (by omega) (by omega) (by omega) (by omega) (by omega) (Nat.lt_succ_self _)
                      · refine T.go 2 (fun n9 => (rfl : _ = exe ξ n9 (d + 3) j_M_toldCodes 230 [(0, .ref 137), (1, J x), (2, J y), (3, J n), (4, J a), (5, J l5), (6, J z1), (7, J (3 + z3)), (8, J l5)] [J (3 + z3), J a, .ref 137] s16)) ?_
                        refine T.iadd rfl ?_
                        refine T.go 2 (fun n9 => (rfl : _ = exe ξ n9 (d + 3) j_M_toldCodes 233 [(0, .ref 137), (1, J x), (2, J y), (3, J n), (4, J a), (5, J l5), (6, J z1), (7, J (3 + z3)), (8, J l5)] [J y, J x, J (a + (3 + z3)), .ref 137] s16)) ?_
                        refine T.iadd rfl ?_
                        refine T.icmp_le rfl rfl (by omega) (by omega) (fun c25 => ?_) (fun c25 => ?_)
                        · refine T.go 1 (fun n9 => (rfl : _ = exe ξ n9 (d + 3) j_M_toldCodes 242 [(0, .ref 137), (1, J x), (2, J y), (3, J n), (4, J a), (5, J l5), (6, J z1), (7, J (3 + z3)), (8, J l5)] [J 0, .ref 137] s16)) ?_
                          refine T.mput (c' := c) (io' := io) (mo' := mo) (fa' := fa) (pl' := pl) (ns' := ns) (rw' := rw) (en' := en) (wy' := wy) (wh' := wh) (bi' := bi_3) (ed' := ed) (sz' := sz) (md' := md) (bd' := 0) (li' := li) (wk' := wk) (we' := we) ms16 rfl rfl rfl rfl rfl rfl (by omega) (fun s22 ms22 fs22 => ?_)
                          have gs22 := gs16.trans fs22
                          refine T.go 2 (fun n9 => (rfl : _ = exe ξ n9 (d + 3) j_M_toldCodes 248 [(0, .ref 137), (1, J x), (2, J y), (3, J n), (4, J a), (5, J l5), (6, J z1), (7, J (3 + z3)), (8, J l5), (9, J 0)] [] s22)) ?_
                          exact loop248 _ a z1 (3 + z3) l5 0 bi_3 0 lk9 s22 ms22 gs22 (by omega) (by omega) (by omega) (by omega) (by omega) (by omega) (by omega) (by omega) (by omega) (by omega) (by omega) (by omega) (by omega) (by omega) (by omega) (Nat.lt_succ_self _)
                        · refine T.go 2 (fun n9 => (rfl : _ = exe ξ n9 (d + 3) j_M_toldCodes 242 [(0, .ref 137), (1, J x), (2, J y), (3, J n), (4, J a), (5, J l5), (6, J z1), (7, J (3 + z3)), (8, J l5)] [J 1, .ref 137] s16)) ?_
                          refine T.mput (c' := c) (io' := io) (mo' := mo) (fa' := fa) (pl' := pl) (ns' := ns) (rw' := rw) (en' := en) (wy' := wy) (wh' := wh) (bi' := bi_3) (ed' := ed) (sz' := sz) (md' := md) (bd' := 1) (li' := li) (wk' := wk) (we' := we) ms16 rfl rfl rfl rfl rfl rfl (by omega) (fun s23 ms23 fs23 => ?_)
                          have gs23 := gs16.trans fs23
                          refine T.go 2 (fun n9 => (rfl : _ = exe ξ n9 (d + 3) j_M_toldCodes 248 [(0, .ref 137), (1, J x), (2, J y), (3, J n), (4, J a), (5, J l5), (6, J z1), (7, J (3 + z3)), (8, J l5), (9, J 0)] [] s23)) ?_
                          exact loop248 _ a z1 (3 + z3) l5 0 bi_3 1 lk9 s23 ms23 gs23 (by omega) (by omega) (by omega) (by omega) (by omega) (by omega) (by omega) (by omega) (by omega) (by omega) (by omega) (by omega) (by omega) (by omega) (by omega) (Nat.lt_succ_self _)
                · refine T.go 5 (fun n9 => (rfl : _ = exe ξ n9 (d + 3) j_M_toldCodes 215 [(0, .ref 137), (1, J x), (2, J y), (3, J n), (4, J a), (5, J l5), (6, J z1), (7, J (3 + z3)), (8, J z1)] [.ref 137, .ref 137] s16)) ?_
                  refine T.get rfl rfl rfl ms16.ob rfl ?_
                  refine T.if_ne rfl rfl (by omega) (fun c26 => ?_) (fun c26 => ?_)
                  · refine T.go 2 (fun n9 => (rfl : _ = exe ξ n9 (d + 3) j_M_toldCodes 242 [(0, .ref 137), (1, J x), (2, J y), (3, J n), (4, J a), (5, J l5), (6, J z1), (7, J (3 + z3)), (8, J z1)] [J 1, .ref 137] s16)) ?_
                    refine T.mput (c' := c) (io' := io) (mo' := mo) (fa' := fa) (pl' := pl) (ns' := ns) (rw' := rw) (en' := en) (wy' := wy) (wh' := wh) (bi' := bi_3) (ed' := ed) (sz' := sz) (md' := md) (bd' := 1) (li' := li) (wk' := wk) (we' := we) ms16 rfl rfl rfl rfl rfl rfl (by omega) (fun s24 ms24 fs24 => ?_)
                    have gs24 := gs16.trans fs24
                    refine T.go 2 (fun n9 => (rfl : _ = exe ξ n9 (d + 3) j_M_toldCodes 248 [(0, .ref 137), (1, J x), (2, J y), (3, J n), (4, J a), (5, J l5), (6, J z1), (7, J (3 + z3)), (8, J z1), (9, J 0)] [] s24)) ?_
                    exact loop248 _ a z1 (3 + z3) z1 0 bi_3 1 lk9 s24 ms24 gs24 (by omega) (by omega) (by omega) (by omega) (by omega) (by omega) (by omega) (by omega) (by omega) (by omega) (by omega) (by omega) (by omega) (by omega) (by omega) (Nat.lt_succ_self _)
                  · refine T.go 1 (fun n9 => (rfl : _ = exe ξ n9 (d + 3) j_M_toldCodes 223 [(0, .ref 137), (1, J x), (2, J y), (3, J n), (4, J a), (5, J l5), (6, J z1), (7, J (3 + z3)), (8, J z1)] [J z1, .ref 137] s16)) ?_
                    refine T.if_lt rfl rfl (by omega) (fun c27 => ?_) (fun c27 => ?_)
                    · refine T.go 2 (fun n9 => (rfl : _ = exe ξ n9 (d + 3) j_M_toldCodes 242 [(0, .ref 137), (1, J x), (2, J y), (3, J n), (4, J a), (5, J l5), (6, J z1), (7, J (3 + z3)), (8, J z1)] [J 1, .ref 137] s16)) ?_
                      refine T.mput (c' := c) (io' := io) (mo' := mo) (fa' := fa) (pl' := pl) (ns' := ns) (rw' := rw) (en' := en) (wy' := wy) (wh' := wh) (bi' := bi_3) (ed' := ed) (sz' := sz) (md' := md) (bd' := 1) (li' := li) (wk' := wk) (we' := we) ms16 rfl rfl rfl rfl rfl rfl (by omega) (fun s25 ms25 fs25 => ?_)
                      have gs25 := gs16.trans fs25
                      refine T.go 2 (fun n9 => (rfl : _ = exe ξ n9 (d + 3) j_M_toldCodes 248 [(0, .ref 137), (1, J x), (2, J y), (3, J n), (4, J a), (5, J l5), (6, J z1), (7, J (3 + z3)), (8, J z1), (9, J 0)] [] s25)) ?_
                      exact loop248 _ a z1 (3 + z3) z1 0 bi_3 1 lk9 s25 ms25 gs25 (by omega) (by omega) (by omega) (by omega) (by omega) (by omega) (by omega) (by omega) (by omega) (by omega) (by omega) (by omega) (by omega) (by omega) (by omega) (Nat.lt_succ_self _)
                    · refine T.go 2 (fun n9 => (rfl : _ = exe ξ n9 (d + 3) j_M_toldCodes 230 [(0, .ref 137), (1, J x), (2, J y), (3, J n), (4, J a), (5, J l5), (6, J z1), (7, J (3 + z3)), (8, J z1)] [J (3 + z3), J a, .ref 137] s16)) ?_
                      refine T.iadd rfl ?_
                      refine T.go 2 (fun n9 => (rfl : _ = exe ξ n9 (d + 3) j_M_toldCodes 233 [(0, .ref 137), (1, J x), (2, J y), (3, J n), (4, J a), (5, J l5), (6, J z1), (7, J (3 + z3)), (8, J z1)] [J y, J x, J (a + (3 + z3)), .ref 137] s16)) ?_
                      refine T.iadd rfl ?_
                      refine T.icmp_le rfl rfl (by omega) (by omega) (fun c28 => ?_) (fun c28 => ?_)
                      · refine T.go 1 (fun n9 => (rfl : _ = exe ξ n9 (d + 3) j_M_toldCodes 242 [(0, .ref 137), (1, J x), (2, J y), (3, J n), (4, J a), (5, J l5), (6, J z1), (7, J (3 + z3)), (8, J z1)] [J 0, .ref 137] s16)) ?_
                        refine T.mput (c' := c) (io' := io) (mo' := mo) (fa' := fa) (pl' := pl) (ns' := ns) (rw' := rw) (en' := en) (wy' := wy) (wh' := wh) (bi' := bi_3) (ed' := ed) (sz' := sz) (md' := md) (bd' := 0) (li' := li) (wk' := wk) (we' := we) ms16 rfl rfl rfl rfl rfl rfl (by omega) (fun s26 ms26 fs26 => ?_)
                        have gs26 := gs16.trans fs26
                        refine T.go 2 (fun n9 => (rfl : _ = exe ξ n9 (d + 3) j_M_toldCodes 248 [(0, .ref 137), (1, J x), (2, J y), (3, J n), (4, J a), (5, J l5), (6, J z1), (7, J (3 + z3)), (8, J z1), (9, J 0)] [] s26)) ?_
                        exact loop248 _ a z1 (3 + z3) z1 0 bi_3 0 lk9 s26 ms26 gs26 (by omega) (by omega) (by omega) (by omega) (by omega) (by omega) (by omega) (by omega) (by omega) (by omega) (by omega) (by omega) (by omega) (by omega) (by omega) (Nat.lt_succ_self _)
                      · refine T.go 2 (fun n9 => (rfl : _ = exe ξ n9 (d + 3) j_M_toldCodes 242 [(0, .ref 137), (1, J x), (2, J y), (3, J n), (4, J a), (5, J l5), (6, J z1), (7, J (3 + z3)), (8, J z1)] [J 1, .ref 137] s16)) ?_
                        refine T.mput (c' := c) (io' := io) (mo' := mo) (fa' := fa) (pl' := pl) (ns' := ns) (rw' := rw) (en' := en) (wy' := wy) (wh' := wh) (bi' := bi_3) (ed' := ed) (sz' := sz) (md' := md) (bd' := 1) (li' := li) (wk' := wk) (we' := we) ms16 rfl rfl rfl rfl rfl rfl (by omega) (fun s27 ms27 fs27 => ?_)
                        have gs27 := gs16.trans fs27
                        refine T.go 2 (fun n9 => (rfl : _ = exe ξ n9 (d + 3) j_M_toldCodes 248 [(0, .ref 137), (1, J x), (2, J y), (3, J n), (4, J a), (5, J l5), (6, J z1), (7, J (3 + z3)), (8, J z1), (9, J 0)] [] s27)) ?_
                        exact loop248 _ a z1 (3 + z3) z1 0 bi_3 1 lk9 s27 ms27 gs27 (by omega) (by omega) (by omega) (by omega) (by omega) (by omega) (by omega) (by omega) (by omega) (by omega) (by omega) (by omega) (by omega) (by omega) (by omega) (Nat.lt_succ_self _)
            · refine T.go 3 (fun n9 => (rfl : _ = exe ξ n9 (d + 3) j_M_toldCodes 151 [(0, .ref 137), (1, J x), (2, J y), (3, J n), (4, J a), (5, J l5), (6, J z1)] [J 2, .ref 137, J 3] s3)) ?_
              refine T.callv (as := [J 2]) (r := [J 3]) rfl rfl rfl rfl ms3.ob rfl (s_M_take (d + 1) 2 s3 ms3 (by omega) (by omega) (by omega) (by omega) (by omega) (by omega) (by omega)) (fun v4 s28 hqs28 => ?_)
              obtain ⟨z4, bi_4, bd_4, rfl, ms28, fs28, hzz4, hyz4, pz4_0, pz4_1, pz4_2, pz4_3, pz4_4⟩ := hqs28
              have ns28 := ms28.len
              have rs28 := ms28.rg
              have gs28 := gs3.trans fs28
              refine T.iadd rfl ?_
              refine T.go 4 (fun n9 => (rfl : _ = exe ξ n9 (d + 3) j_M_toldCodes 190 [(0, .ref 137), (1, J x), (2, J y), (3, J n), (4, J a), (5, J l5), (6, J z1), (7, J (3 + z4))] [J 16, J z1] s28)) ?_
              refine T.icmp_ge rfl rfl (by omega) (by omega) (fun c29 => ?_) (fun c29 => ?_)
              · refine T.go 2 (fun n9 => (rfl : _ = exe ξ n9 (d + 3) j_M_toldCodes 202 [(0, .ref 137), (1, J x), (2, J y), (3, J n), (4, J a), (5, J l5), (6, J z1), (7, J (3 + z4))] [J 16, J z1] s28)) ?_
                refine T.icmp_ne rfl rfl (by omega) (by omega) (fun c30 => ?_) (fun c30 => ?_)
                · refine T.go 4 (fun n9 => (rfl : _ = exe ξ n9 (d + 3) j_M_toldCodes 215 [(0, .ref 137), (1, J x), (2, J y), (3, J n), (4, J a), (5, J l5), (6, J z1), (7, J (3 + z4)), (8, J 0)] [.ref 137, .ref 137] s28)) ?_
                  refine T.get rfl rfl rfl ms28.ob rfl ?_
                  refine T.if_ne rfl rfl (by omega) (fun c31 => ?_) (fun c31 => ?_)
                  · refine T.go 2 (fun n9 => (rfl : _ = exe ξ n9 (d + 3) j_M_toldCodes 242 [(0, .ref 137), (1, J x), (2, J y), (3, J n), (4, J a), (5, J l5), (6, J z1), (7, J (3 + z4)), (8, J 0)] [J 1, .ref 137] s28)) ?_
                    refine T.mput (c' := c) (io' := io) (mo' := mo) (fa' := fa) (pl' := pl) (ns' := ns) (rw' := rw) (en' := en) (wy' := wy) (wh' := wh) (bi' := bi_4) (ed' := ed) (sz' := sz) (md' := md) (bd' := 1) (li' := li) (wk' := wk) (we' := we) ms28 rfl rfl rfl rfl rfl rfl (by omega) (fun s29 ms29 fs29 => ?_)
                    have gs29 := gs28.trans fs29
                    refine T.go 2 (fun n9 => (rfl : _ = exe ξ n9 (d + 3) j_M_toldCodes 248 [(0, .ref 137), (1, J x), (2, J y), (3, J n), (4, J a), (5, J l5), (6, J z1), (7, J (3 + z4)), (8, J 0), (9, J 0)] [] s29)) ?_
                    exact loop248 _ a z1 (3 + z4) 0 0 bi_4 1 lk9 s29 ms29 gs29 (by omega) (by omega) (by omega) (by omega) (by omega) (by omega) (by omega) (by omega) (by omega) (by omega) (by omega) (by omega) (by omega) (by omega) (by omega) (Nat.lt_succ_self _)
                  · refine T.go 4 (fun n9 => (rfl : _ = exe ξ n9 (d + 3) j_M_toldCodes 230 [(0, .ref 137), (1, J x), (2, J y), (3, J n), (4, J a), (5, J l5), (6, J z1), (7, J (3 + z4)), (8, J 0)] [J (3 + z4), J a, .ref 137] s28)) ?_
                    refine T.iadd rfl ?_
                    refine T.go 2 (fun n9 => (rfl : _ = exe ξ n9 (d + 3) j_M_toldCodes 233 [(0, .ref 137), (1, J x), (2, J y), (3, J n), (4, J a), (5, J l5), (6, J z1), (7, J (3 + z4)), (8, J 0)] [J y, J x, J (a + (3 + z4)), .ref 137] s28)) ?_
                    refine T.iadd rfl ?_
                    refine T.icmp_le rfl rfl (by omega) (by omega) (fun c32 => ?_) (fun c32 => ?_)
                    · refine T.go 1 (fun n9 => (rfl : _ = exe ξ n9 (d + 3) j_M_toldCodes 242 [(0, .ref 137), (1, J x), (2, J y), (3, J n), (4, J a), (5, J l5), (6, J z1), (7, J (3 + z4)), (8, J 0)] [J 0, .ref 137] s28)) ?_
                      refine T.mput (c' := c) (io' := io) (mo' := mo) (fa' := fa) (pl' := pl) (ns' := ns) (rw' := rw) (en' := en) (wy' := wy) (wh' := wh) (bi' := bi_4) (ed' := ed) (sz' := sz) (md' := md) (bd' := 0) (li' := li) (wk' := wk) (we' := we) ms28 rfl rfl rfl rfl rfl rfl (by omega) (fun s30 ms30 fs30 => ?_)
                      have gs30 := gs28.trans fs30
                      refine T.go 2 (fun n9 => (rfl : _ = exe ξ n9 (d + 3) j_M_toldCodes 248 [(0, .ref 137), (1, J x), (2, J y), (3, J n), (4, J a), (5, J l5), (6, J z1), (7, J (3 + z4)), (8, J 0), (9, J 0)] [] s30)) ?_
                      exact loop248 _ a z1 (3 + z4) 0 0 bi_4 0 lk9 s30 ms30 gs30 (by omega) (by omega) (by omega) (by omega) (by omega) (by omega) (by omega) (by omega) (by omega) (by omega) (by omega) (by omega) (by omega) (by omega) (by omega) (Nat.lt_succ_self _)
                    · refine T.go 2 (fun n9 => (rfl : _ = exe ξ n9 (d + 3) j_M_toldCodes 242 [(0, .ref 137), (1, J x), (2, J y), (3, J n), (4, J a), (5, J l5), (6, J z1), (7, J (3 + z4)), (8, J 0)] [J 1, .ref 137] s28)) ?_
                      refine T.mput (c' := c) (io' := io) (mo' := mo) (fa' := fa) (pl' := pl) (ns' := ns) (rw' := rw) (en' := en) (wy' := wy) (wh' := wh) (bi' := bi_4) (ed' := ed) (sz' := sz) (md' := md) (bd' := 1) (li' := li) (wk' := wk) (we' := we) ms28 rfl rfl rfl rfl rfl rfl (by omega) (fun s31 ms31 fs31 => ?_)
                      have gs31 := gs28.trans fs31
                      refine T.go 2 (fun n9 => (rfl : _ = exe ξ n9 (d + 3) j_M_toldCodes 248 [(0, .ref 137), (1, J x), (2, J y), (3, J n), (4, J a), (5, J l5), (6, J z1), (7, J (3 + z4)), (8, J 0), (9, J 0)] [] s31)) ?_
                      exact loop248 _ a z1 (3 + z4) 0 0 bi_4 1 lk9 s31 ms31 gs31 (by omega) (by omega) (by omega) (by omega) (by omega) (by omega) (by omega) (by omega) (by omega) (by omega) (by omega) (by omega) (by omega) (by omega) (by omega) (Nat.lt_succ_self _)
                · refine T.go 5 (fun n9 => (rfl : _ = exe ξ n9 (d + 3) j_M_toldCodes 215 [(0, .ref 137), (1, J x), (2, J y), (3, J n), (4, J a), (5, J l5), (6, J z1), (7, J (3 + z4)), (8, J l5)] [.ref 137, .ref 137] s28)) ?_
                  refine T.get rfl rfl rfl ms28.ob rfl ?_
                  refine T.if_ne rfl rfl (by omega) (fun c33 => ?_) (fun c33 => ?_)
                  · refine T.go 2 (fun n9 => (rfl : _ = exe ξ n9 (d + 3) j_M_toldCodes 242 [(0, .ref 137), (1, J x), (2, J y), (3, J n), (4, J a), (5, J l5), (6, J z1), (7, J (3 + z4)), (8, J l5)] [J 1, .ref 137] s28)) ?_
                    refine T.mput (c' := c) (io' := io) (mo' := mo) (fa' := fa) (pl' := pl) (ns' := ns) (rw' := rw) (en' := en) (wy' := wy) (wh' := wh) (bi' := bi_4) (ed' := ed) (sz' := sz) (md' := md) (bd' := 1) (li' := li) (wk' := wk) (we' := we) ms28 rfl rfl rfl rfl rfl rfl (by omega) (fun s32 ms32 fs32 => ?_)
                    have gs32 := gs28.trans fs32
                    refine T.go 2 (fun n9 => (rfl : _ = exe ξ n9 (d + 3) j_M_toldCodes 248 [(0, .ref 137), (1, J x), (2, J y), (3, J n), (4, J a), (5, J l5), (6, J z1), (7, J (3 + z4)), (8, J l5), (9, J 0)] [] s32)) ?_
                    exact loop248 _ a z1 (3 + z4) l5 0 bi_4 1 lk9 s32 ms32 gs32 (by omega) (by omega) (by omega) (by omega) (by omega) (by omega) (by omega) (by omega) (by omega) (by omega) (by omega) (by omega) (by omega) (by omega) (by omega) (Nat.lt_succ_self _)
                  · refine T.go 1 (fun n9 => (rfl : _ = exe ξ n9 (d + 3) j_M_toldCodes 223 [(0, .ref 137), (1, J x), (2, J y), (3, J n), (4, J a), (5, J l5), (6, J z1), (7, J (3 + z4)), (8, J l5)] [J l5, .ref 137] s28)) ?_
                    refine T.if_lt rfl rfl (by omega) (fun c34 => ?_) (fun c34 => ?_)
                    · refine T.go 2 (fun n9 => (rfl : _ = exe ξ n9 (d + 3) j_M_toldCodes 242 [(0, .ref 137), (1, J x), (2, J y), (3, J n), (4, J a), (5, J l5), (6, J z1), (7, J (3 + z4)), (8, J l5)] [J 1, .ref 137] s28)) ?_
                      refine T.mput (c' := c) (io' := io) (mo' := mo) (fa' := fa) (pl' := pl) (ns' := ns) (rw' := rw) (en' := en) (wy' := wy) (wh' := wh) (bi' := bi_4) (ed' := ed) (sz' := sz) (md' := md) (bd' := 1) (li' := li) (wk' := wk) (we' := we) ms28 rfl rfl rfl rfl rfl rfl (by omega) (fun s33 ms33 fs33 => ?_)
                      have gs33 := gs28.trans fs33
                      refine T.go 2 (fun n9 => (rfl : _ = exe ξ n9 (d + 3) j_M_toldCodes 248 [(0, .ref 137), (1, J x), (2, J y), (3, J n), (4, J a), (5, J l5), (6, J z1), (7, J (3 + z4)), (8, J l5), (9, J 0)] [] s33)) ?_
                      exact loop248 _ a z1 (3 + z4) l5 0 bi_4 1 lk9 s33 ms33 gs33 (by omega) (by omega) (by omega) (by omega) (by omega) (by omega) (by omega) (by omega) (by omega) (by omega) (by omega) (by omega) (by omega) (by omega) (by omega) (Nat.lt_succ_self _)
                    · refine T.go 2 (fun n9 => (rfl : _ = exe ξ n9 (d + 3) j_M_toldCodes 230 [(0, .ref 137), (1, J x), (2, J y), (3, J n), (4, J a), (5, J l5), (6, J z1), (7, J (3 + z4)), (8, J l5)] [J (3 + z4), J a, .ref 137] s28)) ?_
                      refine T.iadd rfl ?_
                      refine T.go 2 (fun n9 => (rfl : _ = exe ξ n9 (d + 3) j_M_toldCodes 233 [(0, .ref 137), (1, J x), (2, J y), (3, J n), (4, J a), (5, J l5), (6, J z1), (7, J (3 + z4)), (8, J l5)] [J y, J x, J (a + (3 + z4)), .ref 137] s28)) ?_
                      refine T.iadd rfl ?_
                      refine T.icmp_le rfl rfl (by omega) (by omega) (fun c35 => ?_) (fun c35 => ?_)
                      · refine T.go 1 (fun n9 => (rfl : _ = exe ξ n9 (d + 3) j_M_toldCodes 242 [(0, .ref 137), (1, J x), (2, J y), (3, J n), (4, J a), (5, J l5), (6, J z1), (7, J (3 + z4)), (8, J l5)] [J 0, .ref 137] s28)) ?_
                        refine T.mput (c' := c) (io' := io) (mo' := mo) (fa' := fa) (pl' := pl) (ns' := ns) (rw' := rw) (en' := en) (wy' := wy) (wh' := wh) (bi' := bi_4) (ed' := ed) (sz' := sz) (md' := md) (bd' := 0) (li' := li) (wk' := wk) (we' := we) ms28 rfl rfl rfl rfl rfl rfl (by omega) (fun s34 ms34 fs34 => ?_)
                        have gs34 := gs28.trans fs34
                        refine T.go 2 (fun n9 => (rfl : _ = exe ξ n9 (d + 3) j_M_toldCodes 248 [(0, .ref 137), (1, J x), (2, J y), (3, J n), (4, J a), (5, J l5), (6, J z1), (7, J (3 + z4)), (8, J l5), (9, J 0)] [] s34)) ?_
                        exact loop248 _ a z1 (3 + z4) l5 0 bi_4 0 lk9 s34 ms34 gs34 (by omega) (by omega) (by omega) (by omega) (by omega) (by omega) (by omega) (by omega) (by omega) (by omega) (by omega) (by omega) (by omega) (by omega) (by omega) (Nat.lt_succ_self _)
                      · refine T.go 2 (fun n9 => (rfl : _ = exe ξ n9 (d + 3) j_M_toldCodes 242 [(0, .ref 137), (1, J x), (2, J y), (3, J n), (4, J a), (5, J l5), (6, J z1), (7, J (3 + z4)), (8, J l5)] [J 1, .ref 137] s28)) ?_
                        refine T.mput (c' := c) (io' := io) (mo' := mo) (fa' := fa) (pl' := pl) (ns' := ns) (rw' := rw) (en' := en) (wy' := wy) (wh' := wh) (bi' := bi_4) (ed' := ed) (sz' := sz) (md' := md) (bd' := 1) (li' := li) (wk' := wk) (we' := we) ms28 rfl rfl rfl rfl rfl rfl (by omega) (fun s35 ms35 fs35 => ?_)
                        have gs35 := gs28.trans fs35
                        refine T.go 2 (fun n9 => (rfl : _ = exe ξ n9 (d + 3) j_M_toldCodes 248 [(0, .ref 137), (1, J x), (2, J y), (3, J n), (4, J a), (5, J l5), (6, J z1), (7, J (3 + z4)), (8, J l5), (9, J 0)] [] s35)) ?_
                        exact loop248 _ a z1 (3 + z4) l5 0 bi_4 1 lk9 s35 ms35 gs35 (by omega) (by omega) (by omega) (by omega) (by omega) (by omega) (by omega) (by omega) (by omega) (by omega) (by omega) (by omega) (by omega) (by omega) (by omega) (Nat.lt_succ_self _)
              · refine T.go 5 (fun n9 => (rfl : _ = exe ξ n9 (d + 3) j_M_toldCodes 215 [(0, .ref 137), (1, J x), (2, J y), (3, J n), (4, J a), (5, J l5), (6, J z1), (7, J (3 + z4)), (8, J z1)] [.ref 137, .ref 137] s28)) ?_
                refine T.get rfl rfl rfl ms28.ob rfl ?_
                refine T.if_ne rfl rfl (by omega) (fun c36 => ?_) (fun c36 => ?_)
                · refine T.go 2 (fun n9 => (rfl : _ = exe ξ n9 (d + 3) j_M_toldCodes 242 [(0, .ref 137), (1, J x), (2, J y), (3, J n), (4, J a), (5, J l5), (6, J z1), (7, J (3 + z4)), (8, J z1)] [J 1, .ref 137] s28)) ?_
                  refine T.mput (c' := c) (io' := io) (mo' := mo) (fa' := fa) (pl' := pl) (ns' := ns) (rw' := rw) (en' := en) (wy' := wy) (wh' := wh) (bi' := bi_4) (ed' := ed) (sz' := sz) (md' := md) (bd' := 1) (li' := li) (wk' := wk) (we' := we) ms28 rfl rfl rfl rfl rfl rfl (by omega) (fun s36 ms36 fs36 => ?_)
                  have gs36 := gs28.trans fs36
                  refine T.go 2 (fun n9 => (rfl : _ = exe ξ n9 (d + 3) j_M_toldCodes 248 [(0, .ref 137), (1, J x), (2, J y), (3, J n), (4, J a), (5, J l5), (6, J z1), (7, J (3 + z4)), (8, J z1), (9, J 0)] [] s36)) ?_
                  exact loop248 _ a z1 (3 + z4) z1 0 bi_4 1 lk9 s36 ms36 gs36 (by omega) (by omega) (by omega) (by omega) (by omega) (by omega) (by omega) (by omega) (by omega) (by omega) (by omega) (by omega) (by omega) (by omega) (by omega) (Nat.lt_succ_self _)
                · refine T.go 1 (fun n9 => (rfl : _ = exe ξ n9 (d + 3) j_M_toldCodes 223 [(0, .ref 137), (1, J x), (2, J y), (3, J n), (4, J a), (5, J l5), (6, J z1), (7, J (3 + z4)), (8, J z1)] [J z1, .ref 137] s28)) ?_
                  refine T.if_lt rfl rfl (by omega) (fun c37 => ?_) (fun c37 => ?_)
                  · refine T.go 2 (fun n9 => (rfl : _ = exe ξ n9 (d + 3) j_M_toldCodes 242 [(0, .ref 137), (1, J x), (2, J y), (3, J n), (4, J a), (5, J l5), (6, J z1), (7, J (3 + z4)), (8, J z1)] [J 1, .ref 137] s28)) ?_
                    refine T.mput (c' := c) (io' := io) (mo' := mo) (fa' := fa) (pl' := pl) (ns' := ns) (rw' := rw) (en' := en) (wy' := wy) (wh' := wh) (bi' := bi_4) (ed' := ed) (sz' := sz) (md' := md) (bd' := 1) (li' := li) (wk' := wk) (we' := we) ms28 rfl rfl rfl rfl rfl rfl (by omega) (fun s37 ms37 fs37 => ?_)
                    have gs37 := gs28.trans fs37
                    refine T.go 2 (fun n9 => (rfl : _ = exe ξ n9 (d + 3) j_M_toldCodes 248 [(0, .ref 137), (1, J x), (2, J y), (3, J n), (4, J a), (5, J l5), (6, J z1), (7, J (3 + z4)), (8, J z1), (9, J 0)] [] s37)) ?_
                    exact loop248 _ a z1 (3 + z4) z1 0 bi_4 1 lk9 s37 ms37 gs37 (by omega) (by omega) (by omega) (by omega) (by omega) (by omega) (by omega) (by omega) (by omega) (by omega) (by omega) (by omega) (by omega) (by omega) (by omega) (Nat.lt_succ_self _)
                  · refine T.go 2 (fun n9 => (rfl : _ = exe ξ n9 (d + 3) j_M_toldCodes 230 [(0, .ref 137), (1, J x), (2, J y), (3, J n), (4, J a), (5, J l5), (6, J z1), (7, J (3 + z4)), (8, J z1)] [J (3 + z4), J a, .ref 137] s28)) ?_
                    refine T.iadd rfl ?_
                    refine T.go 2 (fun n9 => (rfl : _ = exe ξ n9 (d + 3) j_M_toldCodes 233 [(0, .ref 137), (1, J x), (2, J y), (3, J n), (4, J a), (5, J l5), (6, J z1), (7, J (3 + z4)), (8, J z1)] [J y, J x, J (a + (3 + z4)), .ref 137] s28)) ?_
                    refine T.iadd rfl ?_
                    refine T.icmp_le rfl rfl (by omega) (by omega) (fun c38 => ?_) (fun c38 => ?_)
                    · refine T.go 1 (fun n9 => (rfl : _ = exe ξ n9 (d + 3) j_M_toldCodes 242 [(0, .ref 137), (1, J x), (2, J y), (3, J n), (4, J a), (5, J l5), (6, J z1), (7, J (3 + z4)), (8, J z1)] [J 0, .ref 137] s28)) ?_
                      refine T.mput (c' := c) (io' := io) (mo' := mo) (fa' := fa) (pl' := pl) (ns' := ns) (rw' := rw) (en' := en) (wy' := wy) (wh' := wh) (bi' := bi_4) (ed' := ed) (sz' := sz) (md' := md) (bd' := 0) (li' := li) (wk' := wk) (we' := we) ms28 rfl rfl rfl rfl rfl rfl (by omega) (fun s38 ms38 fs38 => ?_)
                      have gs38 := gs28.trans fs38
                      refine T.go 2 (fun n9 => (rfl : _ = exe ξ n9 (d + 3) j_M_toldCodes 248 [(0, .ref 137), (1, J x), (2, J y), (3, J n), (4, J a), (5, J l5), (6, J z1), (7, J (3 + z4)), (8, J z1), (9, J 0)] [] s38)) ?_
                      exact loop248 _ a z1 (3 + z4) z1 0 bi_4 0 lk9 s38 ms38 gs38 (by omega) (by omega) (by omega) (by omega) (by omega) (by omega) (by omega) (by omega) (by omega) (by omega) (by omega) (by omega) (by omega) (by omega) (by omega) (Nat.lt_succ_self _)
                    · refine T.go 2 (fun n9 => (rfl : _ = exe ξ n9 (d + 3) j_M_toldCodes 242 [(0, .ref 137), (1, J x), (2, J y), (3, J n), (4, J a), (5, J l5), (6, J z1), (7, J (3 + z4)), (8, J z1)] [J 1, .ref 137] s28)) ?_
                      refine T.mput (c' := c) (io' := io) (mo' := mo) (fa' := fa) (pl' := pl) (ns' := ns) (rw' := rw) (en' := en) (wy' := wy) (wh' := wh) (bi' := bi_4) (ed' := ed) (sz' := sz) (md' := md) (bd' := 1) (li' := li) (wk' := wk) (we' := we) ms28 rfl rfl rfl rfl rfl rfl (by omega) (fun s39 ms39 fs39 => ?_)
                      have gs39 := gs28.trans fs39
                      refine T.go 2 (fun n9 => (rfl : _ = exe ξ n9 (d + 3) j_M_toldCodes 248 [(0, .ref 137), (1, J x), (2, J y), (3, J n), (4, J a), (5, J l5), (6, J z1), (7, J (3 + z4)), (8, J z1), (9, J 0)] [] s39)) ?_
                      exact loop248 _ a z1 (3 + z4) z1 0 bi_4 1 lk9 s39 ms39 gs39 (by omega) (by omega) (by omega) (by omega) (by omega) (by omega) (by omega) (by omega) (by omega) (by omega) (by omega) (by omega) (by omega) (by omega) (by omega) (Nat.lt_succ_self _)
          · refine T.go 5 (fun n9 => (rfl : _ = exe ξ n9 (d + 3) j_M_toldCodes 190 [(0, .ref 137), (1, J x), (2, J y), (3, J n), (4, J a), (5, J l5), (6, J z1), (7, J 1)] [J 16, J z1] s3)) ?_
            refine T.icmp_ge rfl rfl (by omega) (by omega) (fun c39 => ?_) (fun c39 => ?_)
            · refine T.go 2 (fun n9 => (rfl : _ = exe ξ n9 (d + 3) j_M_toldCodes 202 [(0, .ref 137), (1, J x), (2, J y), (3, J n), (4, J a), (5, J l5), (6, J z1), (7, J 1)] [J 16, J z1] s3)) ?_
              refine T.icmp_ne rfl rfl (by omega) (by omega) (fun c40 => ?_) (fun c40 => ?_)
              · refine T.go 4 (fun n9 => (rfl : _ = exe ξ n9 (d + 3) j_M_toldCodes 215 [(0, .ref 137), (1, J x), (2, J y), (3, J n), (4, J a), (5, J l5), (6, J z1), (7, J 1), (8, J 0)] [.ref 137, .ref 137] s3)) ?_
                refine T.get rfl rfl rfl ms3.ob rfl ?_
                refine T.if_ne rfl rfl (by omega) (fun c41 => ?_) (fun c41 => ?_)
                · refine T.go 2 (fun n9 => (rfl : _ = exe ξ n9 (d + 3) j_M_toldCodes 242 [(0, .ref 137), (1, J x), (2, J y), (3, J n), (4, J a), (5, J l5), (6, J z1), (7, J 1), (8, J 0)] [J 1, .ref 137] s3)) ?_
                  refine T.mput (c' := c) (io' := io) (mo' := mo) (fa' := fa) (pl' := pl) (ns' := ns) (rw' := rw) (en' := en) (wy' := wy) (wh' := wh) (bi' := bi_1) (ed' := ed) (sz' := sz) (md' := md) (bd' := 1) (li' := li) (wk' := wk) (we' := we) ms3 rfl rfl rfl rfl rfl rfl (by omega) (fun s40 ms40 fs40 => ?_)
                  have gs40 := gs3.trans fs40
                  refine T.go 2 (fun n9 => (rfl : _ = exe ξ n9 (d + 3) j_M_toldCodes 248 [(0, .ref 137), (1, J x), (2, J y), (3, J n), (4, J a), (5, J l5), (6, J z1), (7, J 1), (8, J 0), (9, J 0)] [] s40)) ?_
                  exact loop248 _ a z1 1 0 0 bi_1 1 lk9 s40 ms40 gs40 (by omega) (by omega) (by omega) (by omega) (by omega) (by omega) (by omega) (by omega) (by omega) (by omega) (by omega) (by omega) (by omega) (by omega) (by omega) (Nat.lt_succ_self _)
                · refine T.go 4 (fun n9 => (rfl : _ = exe ξ n9 (d + 3) j_M_toldCodes 230 [(0, .ref 137), (1, J x), (2, J y), (3, J n), (4, J a), (5, J l5), (6, J z1), (7, J 1), (8, J 0)] [J 1, J a, .ref 137] s3)) ?_
                  refine T.iadd rfl ?_
                  refine T.go 2 (fun n9 => (rfl : _ = exe ξ n9 (d + 3) j_M_toldCodes 233 [(0, .ref 137), (1, J x), (2, J y), (3, J n), (4, J a), (5, J l5), (6, J z1), (7, J 1), (8, J 0)] [J y, J x, J (a + 1), .ref 137] s3)) ?_
                  refine T.iadd rfl ?_
                  refine T.icmp_le rfl rfl (by omega) (by omega) (fun c42 => ?_) (fun c42 => ?_)
                  · refine T.go 1 (fun n9 => (rfl : _ = exe ξ n9 (d + 3) j_M_toldCodes 242 [(0, .ref 137), (1, J x), (2, J y), (3, J n), (4, J a), (5, J l5), (6, J z1), (7, J 1), (8, J 0)] [J 0, .ref 137] s3)) ?_
                    refine T.mput (c' := c) (io' := io) (mo' := mo) (fa' := fa) (pl' := pl) (ns' := ns) (rw' := rw) (en' := en) (wy' := wy) (wh' := wh) (bi' := bi_1) (ed' := ed) (sz' := sz) (md' := md) (bd' := 0) (li' := li) (wk' := wk) (we' := we) ms3 rfl rfl rfl rfl rfl rfl (by omega) (fun s41 ms41 fs41 => ?_)
                    have gs41 := gs3.trans fs41
                    refine T.go 2 (fun n9 => (rfl : _ = exe ξ n9 (d + 3) j_M_toldCodes 248 [(0, .ref 137), (1, J x), (2, J y), (3, J n), (4, J a), (5, J l5), (6, J z1), (7, J 1), (8, J 0), (9, J 0)] [] s41)) ?_
                    exact loop248 _ a z1 1 0 0 bi_1 0 lk9 s41 ms41 gs41 (by omega) (by omega) (by omega) (by omega) (by omega) (by omega) (by omega) (by omega) (by omega) (by omega) (by omega) (by omega) (by omega) (by omega) (by omega) (Nat.lt_succ_self _)
                  · refine T.go 2 (fun n9 => (rfl : _ = exe ξ n9 (d + 3) j_M_toldCodes 242 [(0, .ref 137), (1, J x), (2, J y), (3, J n), (4, J a), (5, J l5), (6, J z1), (7, J 1), (8, J 0)] [J 1, .ref 137] s3)) ?_
                    refine T.mput (c' := c) (io' := io) (mo' := mo) (fa' := fa) (pl' := pl) (ns' := ns) (rw' := rw) (en' := en) (wy' := wy) (wh' := wh) (bi' := bi_1) (ed' := ed) (sz' := sz) (md' := md) (bd' := 1) (li' := li) (wk' := wk) (we' := we) ms3 rfl rfl rfl rfl rfl rfl (by omega) (fun s42 ms42 fs42 => ?_)
                    have gs42 := gs3.trans fs42
                    refine T.go 2 (fun n9 => (rfl : _ = exe ξ n9 (d + 3) j_M_toldCodes 248 [(0, .ref 137), (1, J x), (2, J y), (3, J n), (4, J a), (5, J l5), (6, J z1), (7, J 1), (8, J 0), (9, J 0)] [] s42)) ?_
                    exact loop248 _ a z1 1 0 0 bi_1 1 lk9 s42 ms42 gs42 (by omega) (by omega) (by omega) (by omega) (by omega) (by omega) (by omega) (by omega) (by omega) (by omega) (by omega) (by omega) (by omega) (by omega) (by omega) (Nat.lt_succ_self _)
              · refine T.go 5 (fun n9 => (rfl : _ = exe ξ n9 (d + 3) j_M_toldCodes 215 [(0, .ref 137), (1, J x), (2, J y), (3, J n), (4, J a), (5, J l5), (6, J z1), (7, J 1), (8, J l5)] [.ref 137, .ref 137] s3)) ?_
                refine T.get rfl rfl rfl ms3.ob rfl ?_
                refine T.if_ne rfl rfl (by omega) (fun c43 => ?_) (fun c43 => ?_)
                · refine T.go 2 (fun n9 => (rfl : _ = exe ξ n9 (d + 3) j_M_toldCodes 242 [(0, .ref 137), (1, J x), (2, J y), (3, J n), (4, J a), (5, J l5), (6, J z1), (7, J 1), (8, J l5)] [J 1, .ref 137] s3)) ?_
                  refine T.mput (c' := c) (io' := io) (mo' := mo) (fa' := fa) (pl' := pl) (ns' := ns) (rw' := rw) (en' := en) (wy' := wy) (wh' := wh) (bi' := bi_1) (ed' := ed) (sz' := sz) (md' := md) (bd' := 1) (li' := li) (wk' := wk) (we' := we) ms3 rfl rfl rfl rfl rfl rfl (by omega) (fun s43 ms43 fs43 => ?_)
                  have gs43 := gs3.trans fs43
                  refine T.go 2 (fun n9 => (rfl : _ = exe ξ n9 (d + 3) j_M_toldCodes 248 [(0, .ref 137), (1, J x), (2, J y), (3, J n), (4, J a), (5, J l5), (6, J z1), (7, J 1), (8, J l5), (9, J 0)] [] s43)) ?_
                  exact loop248 _ a z1 1 l5 0 bi_1 1 lk9 s43 ms43 gs43 (by omega) (by omega) (by omega) (by omega) (by omega) (by omega) (by omega) (by omega) (by omega) (by omega) (by omega) (by omega) (by omega) (by omega) (by omega) (Nat.lt_succ_self _)
                · refine T.go 1 (fun n9 => (rfl : _ = exe ξ n9 (d + 3) j_M_toldCodes 223 [(0, .ref 137), (1, J x), (2, J y), (3, J n), (4, J a), (5, J l5), (6, J z1), (7, J 1), (8, J l5)] [J l5, .ref 137] s3)) ?_
                  refine T.if_lt rfl rfl (by omega) (fun c44 => ?_) (fun c44 => ?_)
                  · refine T.go 2 (fun n9 => (rfl : _ = exe ξ n9 (d + 3) j_M_toldCodes 242 [(0, .ref 137), (1, J x), (2, J y), (3, J n), (4, J a), (5, J l5), (6, J z1), (7, J 1), (8, J l5)] [J 1, .ref 137] s3)) ?_
                    refine T.mput (c' := c) (io' := io) (mo' := mo) (fa' := fa) (pl' := pl) (ns' := ns) (rw' := rw) (en' := en) (wy' := wy) (wh' := wh) (bi' := bi_1) (ed' := ed) (sz' := sz) (md' := md) (bd' := 1) (li' := li) (wk' := wk) (we' := we) ms3 rfl rfl rfl rfl rfl rfl (by omega) (fun s44 ms44 fs44 => ?_)
                    have gs44 := gs3.trans fs44
                    refine T.go 2 (fun n9 => (rfl : _ = exe ξ n9 (d + 3) j_M_toldCodes 248 [(0, .ref 137), (1, J x), (2, J y), (3, J n), (4, J a), (5, J l5), (6, J z1), (7, J 1), (8, J l5), (9, J 0)] [] s44)) ?_
                    exact loop248 _ a z1 1 l5 0 bi_1 1 lk9 s44 ms44 gs44 (by omega) (by omega) (by omega) (by omega) (by omega) (by omega) (by omega) (by omega) (by omega) (by omega) (by omega) (by omega) (by omega) (by omega) (by omega) (Nat.lt_succ_self _)
                  · refine T.go 2 (fun n9 => (rfl : _ = exe ξ n9 (d + 3) j_M_toldCodes 230 [(0, .ref 137), (1, J x), (2, J y), (3, J n), (4, J a), (5, J l5), (6, J z1), (7, J 1), (8, J l5)] [J 1, J a, .ref 137] s3)) ?_
                    refine T.iadd rfl ?_
                    refine T.go 2 (fun n9 => (rfl : _ = exe ξ n9 (d + 3) j_M_toldCodes 233 [(0, .ref 137), (1, J x), (2, J y), (3, J n), (4, J a), (5, J l5), (6, J z1), (7, J 1), (8, J l5)] [J y, J x, J (a + 1), .ref 137] s3)) ?_
                    refine T.iadd rfl ?_
                    refine T.icmp_le rfl rfl (by omega) (by omega) (fun c45 => ?_) (fun c45 => ?_)
                    · refine T.go 1 (fun n9 => (rfl : _ = exe ξ n9 (d + 3) j_M_toldCodes 242 [(0, .ref 137), (1, J x), (2, J y), (3, J n), (4, J a), (5, J l5), (6, J z1), (7, J 1), (8, J l5)] [J 0, .ref 137] s3)) ?_
                      refine T.mput (c' := c) (io' := io) (mo' := mo) (fa' := fa) (pl' := pl) (ns' := ns) (rw' := rw) (en' := en) (wy' := wy) (wh' := wh) (bi' := bi_1) (ed' := ed) (sz' := sz) (md' := md) (bd' := 0) (li' := li) (wk' := wk) (we' := we) ms3 rfl rfl rfl rfl rfl rfl (by omega) (fun s45 ms45 fs45 => ?_)
                      have gs45 := gs3.trans fs45
                      refine T.go 2 (fun n9 => (rfl : _ = exe ξ n9 (d + 3) j_M_toldCodes 248 [(0, .ref 137), (1, J x), (2, J y), (3, J n), (4, J a), (5, J l5), (6, J z1), (7, J 1), (8, J l5), (9, J 0)] [] s45)) ?_
                      exact loop248 _ a z1 1 l5 0 bi_1 0 lk9 s45 ms45 gs45 (by omega) (by omega) (by omega) (by omega) (by omega) (by omega) (by omega) (by omega) (by omega) (by omega) (by omega) (by omega) (by omega) (by omega) (by omega) (Nat.lt_succ_self _)
                    · refine T.go 2 (fun n9 => (rfl : _ = exe ξ n9 (d + 3) j_M_toldCodes 242 [(0, .ref 137), (1, J x), (2, J y), (3, J n), (4, J a), (5, J l5), (6, J z1), (7, J 1), (8, J l5)] [J 1, .ref 137] s3)) ?_
                      refine T.mput (c' := c) (io' := io) (mo' := mo) (fa' := fa) (pl' := pl) (ns' := ns) (rw' := rw) (en' := en) (wy' := wy) (wh' := wh) (bi' := bi_1) (ed' := ed) (sz' := sz) (md' := md) (bd' := 1) (li' := li) (wk' := wk) (we' := we) ms3 rfl rfl rfl rfl rfl rfl (by omega) (fun s46 ms46 fs46 => ?_)
                      have gs46 := gs3.trans fs46
                      refine T.go 2 (fun n9 => (rfl : _ = exe ξ n9 (d + 3) j_M_toldCodes 248 [(0, .ref 137), (1, J x), (2, J y), (3, J n), (4, J a), (5, J l5), (6, J z1), (7, J 1), (8, J l5), (9, J 0)] [] s46)) ?_
                      exact loop248 _ a z1 1 l5 0 bi_1 1 lk9 s46 ms46 gs46 (by omega) (by omega) (by omega) (by omega) (by omega) (by omega) (by omega) (by omega) (by omega) (by omega) (by omega) (by omega) (by omega) (by omega) (by omega) (Nat.lt_succ_self _)
            · refine T.go 5 (fun n9 => (rfl : _ = exe ξ n9 (d + 3) j_M_toldCodes 215 [(0, .ref 137), (1, J x), (2, J y), (3, J n), (4, J a), (5, J l5), (6, J z1), (7, J 1), (8, J z1)] [.ref 137, .ref 137] s3)) ?_
              refine T.get rfl rfl rfl ms3.ob rfl ?_
              refine T.if_ne rfl rfl (by omega) (fun c46 => ?_) (fun c46 => ?_)
              · refine T.go 2 (fun n9 => (rfl : _ = exe ξ n9 (d + 3) j_M_toldCodes 242 [(0, .ref 137), (1, J x), (2, J y), (3, J n), (4, J a), (5, J l5), (6, J z1), (7, J 1), (8, J z1)] [J 1, .ref 137] s3)) ?_
                refine T.mput (c' := c) (io' := io) (mo' := mo) (fa' := fa) (pl' := pl) (ns' := ns) (rw' := rw) (en' := en) (wy' := wy) (wh' := wh) (bi' := bi_1) (ed' := ed) (sz' := sz) (md' := md) (bd' := 1) (li' := li) (wk' := wk) (we' := we) ms3 rfl rfl rfl rfl rfl rfl (by omega) (fun s47 ms47 fs47 => ?_)
                have gs47 := gs3.trans fs47
                refine T.go 2 (fun n9 => (rfl : _ = exe ξ n9 (d + 3) j_M_toldCodes 248 [(0, .ref 137), (1, J x), (2, J y), (3, J n), (4, J a), (5, J l5), (6, J z1), (7, J 1), (8, J z1), (9, J 0)] [] s47)) ?_
                exact loop248 _ a z1 1 z1 0 bi_1 1 lk9 s47 ms47 gs47 (by omega) (by omega) (by omega) (by omega) (by omega) (by omega) (by omega) (by omega) (by omega) (by omega) (by omega) (by omega) (by omega) (by omega) (by omega) (Nat.lt_succ_self _)
              · refine T.go 1 (fun n9 => (rfl : _ = exe ξ n9 (d + 3) j_M_toldCodes 223 [(0, .ref 137), (1, J x), (2, J y), (3, J n), (4, J a), (5, J l5), (6, J z1), (7, J 1), (8, J z1)] [J z1, .ref 137] s3)) ?_
                refine T.if_lt rfl rfl (by omega) (fun c47 => ?_) (fun c47 => ?_)
                · refine T.go 2 (fun n9 => (rfl : _ = exe ξ n9 (d + 3) j_M_toldCodes 242 [(0, .ref 137), (1, J x), (2, J y), (3, J n), (4, J a), (5, J l5), (6, J z1), (7, J 1), (8, J z1)] [J 1, .ref 137] s3)) ?_
                  refine T.mput (c' := c) (io' := io) (mo' := mo) (fa' := fa) (pl' := pl) (ns' := ns) (rw' := rw) (en' := en) (wy' := wy) (wh' := wh) (bi' := bi_1) (ed' := ed) (sz' := sz) (md' := md) (bd' := 1) (li' := li) (wk' := wk) (we' := we) ms3 rfl rfl rfl rfl rfl rfl (by omega) (fun s48 ms48 fs48 => ?_)
                  have gs48 := gs3.trans fs48
                  refine T.go 2 (fun n9 => (rfl : _ = exe ξ n9 (d + 3) j_M_toldCodes 248 [(0, .ref 137), (1, J x), (2, J y), (3, J n), (4, J a), (5, J l5), (6, J z1), (7, J 1), (8, J z1), (9, J 0)] [] s48)) ?_
                  exact loop248 _ a z1 1 z1 0 bi_1 1 lk9 s48 ms48 gs48 (by omega) (by omega) (by omega) (by omega) (by omega) (by omega) (by omega) (by omega) (by omega) (by omega) (by omega) (by omega) (by omega) (by omega) (by omega) (Nat.lt_succ_self _)
                · refine T.go 2 (fun n9 => (rfl : _ = exe ξ n9 (d + 3) j_M_toldCodes 230 [(0, .ref 137), (1, J x), (2, J y), (3, J n), (4, J a), (5, J l5), (6, J z1), (7, J 1), (8, J z1)] [J 1, J a, .ref 137] s3)) ?_
                  refine T.iadd rfl ?_
                  refine T.go 2 (fun n9 => (rfl : _ = exe ξ n9 (d + 3) j_M_toldCodes 233 [(0, .ref 137), (1, J x), (2, J y), (3, J n), (4, J a), (5, J l5), (6, J z1), (7, J 1), (8, J z1)] [J y, J x, J (a + 1), .ref 137] s3)) ?_
                  refine T.iadd rfl ?_
                  refine T.icmp_le rfl rfl (by omega) (by omega) (fun c48 => ?_) (fun c48 => ?_)
                  · refine T.go 1 (fun n9 => (rfl : _ = exe ξ n9 (d + 3) j_M_toldCodes 242 [(0, .ref 137), (1, J x), (2, J y), (3, J n), (4, J a), (5, J l5), (6, J z1), (7, J 1), (8, J z1)] [J 0, .ref 137] s3)) ?_
                    refine T.mput (c' := c) (io' := io) (mo' := mo) (fa' := fa) (pl' := pl) (ns' := ns) (rw' := rw) (en' := en) (wy' := wy) (wh' := wh) (bi' := bi_1) (ed' := ed) (sz' := sz) (md' := md) (bd' := 0) (li' := li) (wk' := wk) (we' := we) ms3 rfl rfl rfl rfl rfl rfl (by omega) (fun s49 ms49 fs49 => ?_)
                    have gs49 := gs3.trans fs49
                    refine T.go 2 (fun n9 => (rfl : _ = exe ξ n9 (d + 3) j_M_toldCodes 248 [(0, .ref 137), (1, J x), (2, J y), (3, J n), (4, J a), (5, J l5), (6, J z1), (7, J 1), (8, J z1), (9, J 0)] [] s49)) ?_
                    exact loop248 _ a z1 1 z1 0 bi_1 0 lk9 s49 ms49 gs49 (by omega) (by omega) (by omega) (by omega) (by omega) (by omega) (by omega) (by omega) (by omega) (by omega) (by omega) (by omega) (by omega) (by omega) (by omega) (Nat.lt_succ_self _)
                  · refine T.go 2 (fun n9 => (rfl : _ = exe ξ n9 (d + 3) j_M_toldCodes 242 [(0, .ref 137), (1, J x), (2, J y), (3, J n), (4, J a), (5, J l5), (6, J z1), (7, J 1), (8, J z1)] [J 1, .ref 137] s3)) ?_
                    refine T.mput (c' := c) (io' := io) (mo' := mo) (fa' := fa) (pl' := pl) (ns' := ns) (rw' := rw) (en' := en) (wy' := wy) (wh' := wh) (bi' := bi_1) (ed' := ed) (sz' := sz) (md' := md) (bd' := 1) (li' := li) (wk' := wk) (we' := we) ms3 rfl rfl rfl rfl rfl rfl (by omega) (fun s50 ms50 fs50 => ?_)
                    have gs50 := gs3.trans fs50
                    refine T.go 2 (fun n9 => (rfl : _ = exe ξ n9 (d + 3) j_M_toldCodes 248 [(0, .ref 137), (1, J x), (2, J y), (3, J n), (4, J a), (5, J l5), (6, J z1), (7, J 1), (8, J z1), (9, J 0)] [] s50)) ?_
                    exact loop248 _ a z1 1 z1 0 bi_1 1 lk9 s50 ms50 gs50 (by omega) (by omega) (by omega) (by omega) (by omega) (by omega) (by omega) (by omega) (by omega) (by omega) (by omega) (by omega) (by omega) (by omega) (by omega) (Nat.lt_succ_self _)
  have loop39 : ∀ (f39 : Nat) (n : Int) (k : Int) (bi9 : Int) (bd9 : Int) (lk9 : List Int32) (τ : qH), MS τ c io mo fa pl ns rw en wy wh bi9 ed sz md bd9 li wk we Lc la lm ln lh ld lk9 lt → FM σ τ → bi ≤ bi9 → bi9 ≤ ed → bd ≤ bd9 → 4 ≤ n → n ≤ 19 → 0 ≤ k → k ≤ n → (n - k).toNat < f39 → T ξ (d + 3) j_M_toldCodes 39 [(0, .ref 137), (1, J x), (2, J y), (3, J n), (4, J k)] [] τ (fun v σ' => ∃ (bi1 : Int) (bd1 : Int) (lk1 : List Int32), v = none ∧ MS σ' c io mo fa pl ns rw en wy wh bi1 ed sz md bd1 li wk we Lc la lm ln lh ld lk1 lt ∧ FM σ σ' ∧ bi ≤ bi1 ∧ bi1 ≤ ed ∧ bd ≤ bd1) := by
    intro f39
    induction f39 with
    | zero => intro n k bi9 bd9 lk9 τ mτ fτ i0 i1 i2 i3 i4 i5 i6 hm39; omega
    | succ f39 ih39 =>
      intro n k bi9 bd9 lk9 τ mτ fτ i0 i1 i2 i3 i4 i5 i6 hm39
      have rτ := mτ.rg
      have nτ := mτ.len
      refine T.go 2 (fun n9 => (rfl : _ = exe ξ n9 (d + 3) j_M_toldCodes 42 [(0, .ref 137), (1, J x), (2, J y), (3, J n), (4, J k)] [J n, J k] τ)) ?_
      refine T.icmp_ge rfl rfl (by omega) (by omega) (fun c49 => ?_) (fun c49 => ?_)
      · refine T.go 2 (fun n9 => (rfl : _ = exe ξ n9 (d + 3) j_M_toldCodes 72 [(0, .ref 137), (1, J x), (2, J y), (3, J n), (4, J k)] [.ref 137, .ref 137] τ)) ?_
        refine T.get rfl rfl rfl mτ.ob rfl ?_
        refine T.if_ne rfl rfl (by omega) (fun c50 => ?_) (fun c50 => ?_)
        · refine T.go 2 (fun n9 => (rfl : _ = exe ξ n9 (d + 3) j_M_toldCodes 95 [(0, .ref 137), (1, J x), (2, J y), (3, J n), (4, J k)] [J 1, .ref 137] τ)) ?_
          refine T.mput (c' := c) (io' := io) (mo' := mo) (fa' := fa) (pl' := pl) (ns' := ns) (rw' := rw) (en' := en) (wy' := wy) (wh' := wh) (bi' := bi9) (ed' := ed) (sz' := sz) (md' := md) (bd' := 1) (li' := li) (wk' := wk) (we' := we) mτ rfl rfl rfl rfl rfl rfl (by omega) (fun s51 ms51 fs51 => ?_)
          have gs51 := fτ.trans fs51
          refine T.go 4 (fun n9 => (rfl : _ = exe ξ n9 (d + 3) j_M_toldCodes 104 [(0, .ref 137), (1, J x), (2, J y), (3, J n), (4, J 0), (5, J (-1))] [] s51)) ?_
          exact loop104 _ n 0 (-1) bi9 1 lk9 s51 ms51 gs51 (by omega) (by omega) (by omega) (by omega) (by omega) (by omega) (by omega) (Nat.lt_succ_self _)
        · refine T.go 3 (fun n9 => (rfl : _ = exe ξ n9 (d + 3) j_M_toldCodes 84 [(0, .ref 137), (1, J x), (2, J y), (3, J n), (4, J k)] [J 19, J 340, .ref 137, .ref 137] τ)) ?_
          refine T.callv (as := [J 340, J 19]) (r := [.ref 137]) rfl rfl rfl rfl mτ.ob rfl (s_M_isComplete (d + 1) 340 19 τ mτ (by omega) (by omega) (by omega) (by omega) (by omega)) (fun v5 s52 hqs52 => ?_)
          obtain ⟨z5, rfl, esz5, hzz5, hyz5⟩ := hqs52
          rw [esz5]
          refine T.if_ne rfl rfl (by omega) (fun c51 => ?_) (fun c51 => ?_)
          · refine T.go 1 (fun n9 => (rfl : _ = exe ξ n9 (d + 3) j_M_toldCodes 95 [(0, .ref 137), (1, J x), (2, J y), (3, J n), (4, J k)] [J 0, .ref 137] τ)) ?_
            refine T.mput (c' := c) (io' := io) (mo' := mo) (fa' := fa) (pl' := pl) (ns' := ns) (rw' := rw) (en' := en) (wy' := wy) (wh' := wh) (bi' := bi9) (ed' := ed) (sz' := sz) (md' := md) (bd' := 0) (li' := li) (wk' := wk) (we' := we) mτ rfl rfl rfl rfl rfl rfl (by omega) (fun s53 ms53 fs53 => ?_)
            have gs53 := fτ.trans fs53
            refine T.go 4 (fun n9 => (rfl : _ = exe ξ n9 (d + 3) j_M_toldCodes 104 [(0, .ref 137), (1, J x), (2, J y), (3, J n), (4, J 0), (5, J (-1))] [] s53)) ?_
            exact loop104 _ n 0 (-1) bi9 0 lk9 s53 ms53 gs53 (by omega) (by omega) (by omega) (by omega) (by omega) (by omega) (by omega) (Nat.lt_succ_self _)
          · refine T.go 2 (fun n9 => (rfl : _ = exe ξ n9 (d + 3) j_M_toldCodes 95 [(0, .ref 137), (1, J x), (2, J y), (3, J n), (4, J k)] [J 1, .ref 137] τ)) ?_
            refine T.mput (c' := c) (io' := io) (mo' := mo) (fa' := fa) (pl' := pl) (ns' := ns) (rw' := rw) (en' := en) (wy' := wy) (wh' := wh) (bi' := bi9) (ed' := ed) (sz' := sz) (md' := md) (bd' := 1) (li' := li) (wk' := wk) (we' := we) mτ rfl rfl rfl rfl rfl rfl (by omega) (fun s54 ms54 fs54 => ?_)
            have gs54 := fτ.trans fs54
            refine T.go 4 (fun n9 => (rfl : _ = exe ξ n9 (d + 3) j_M_toldCodes 104 [(0, .ref 137), (1, J x), (2, J y), (3, J n), (4, J 0), (5, J (-1))] [] s54)) ?_
            exact loop104 _ n 0 (-1) bi9 1 lk9 s54 ms54 gs54 (by omega) (by omega) (by omega) (by omega) (by omega) (by omega) (by omega) (Nat.lt_succ_self _)
      · refine T.go 1 (fun n9 => (rfl : _ = exe ξ n9 (d + 3) j_M_toldCodes 46 [(0, .ref 137), (1, J x), (2, J y), (3, J n), (4, J k)] [.ref 137] τ)) ?_
        refine T.get rfl rfl rfl mτ.ob rfl ?_
        refine T.go 2 (fun n9 => (rfl : _ = exe ξ n9 (d + 3) j_M_toldCodes 54 [(0, .ref 137), (1, J x), (2, J y), (3, J n), (4, J k)] [J k, J 340, .ref 144] τ)) ?_
        refine T.calls (as := [J k]) (r := [J 340, .ref 144]) rfl rfl (by decide) rfl rfl (s_M_orderOf (d + 2) k τ (by omega) (by omega) (by omega)) (fun v6 s55 hqs55 => ?_)
        obtain ⟨z6, rfl, esz6, hzz6, hyz6⟩ := hqs55
        rw [esz6]
        refine T.iadd rfl ?_
        refine T.go 2 (fun n9 => (rfl : _ = exe ξ n9 (d + 3) j_M_toldCodes 60 [(0, .ref 137), (1, J x), (2, J y), (3, J n), (4, J k)] [J 3, .ref 137, J (340 + z6), .ref 144] τ)) ?_
        refine T.callv (as := [J 3]) (r := [J (340 + z6), .ref 144]) rfl rfl rfl rfl mτ.ob rfl (s_M_take (d + 1) 3 τ mτ (by omega) (by omega) (by omega) (by omega) (by omega) (by omega) (by omega)) (fun v7 s56 hqs56 => ?_)
        obtain ⟨z7, bi_5, bd_5, rfl, ms56, fs56, hzz7, hyz7, pz7_0, pz7_1, pz7_2, pz7_3, pz7_4⟩ := hqs56
        have ns56 := ms56.len
        have rs56 := ms56.rg
        have gs56 := fτ.trans fs56
        refine T.mast144 ms56 rfl (by omega) (fun s57 ms57 fs57 => ?_)
        have ns57 := ms57.len
        have gs57 := gs56.trans fs57
        refine T.iinc (lv' := [(0, .ref 137), (1, J x), (2, J y), (3, J n), (4, J (k + 1))]) rfl rfl rfl rfl ?_
        refine T.go 1 (fun n9 => (rfl : _ = exe ξ n9 (d + 3) j_M_toldCodes 39 [(0, .ref 137), (1, J x), (2, J y), (3, J n), (4, J (k + 1))] [] s57)) ?_
        exact ih39  n (k + 1) bi_5 bd_5 (lk9.set (340 + z6 : Int).toNat (Int32.ofInt z7)) s57 ms57 gs57 (by omega) (by omega) (by omega) (by omega) (by omega) (by omega) (by omega) (by omega)
  have loop11 : ∀ (f11 : Nat) (n : Int) (k : Int) (bi9 : Int) (bd9 : Int) (lk9 : List Int32) (τ : qH), MS τ c io mo fa pl ns rw en wy wh bi9 ed sz md bd9 li wk we Lc la lm ln lh ld lk9 lt → FM σ τ → bi ≤ bi9 → bi9 ≤ ed → bd ≤ bd9 → 4 ≤ n → n ≤ 19 → 0 ≤ k → k ≤ 20 → (20 - k).toNat < f11 → T ξ (d + 3) j_M_toldCodes 11 [(0, .ref 137), (1, J x), (2, J y), (3, J n), (4, J k)] [] τ (fun v σ' => ∃ (bi1 : Int) (bd1 : Int) (lk1 : List Int32), v = none ∧ MS σ' c io mo fa pl ns rw en wy wh bi1 ed sz md bd1 li wk we Lc la lm ln lh ld lk1 lt ∧ FM σ σ' ∧ bi ≤ bi1 ∧ bi1 ≤ ed ∧ bd ≤ bd1) := by
    intro f11
    induction f11 with
    | zero => intro n k bi9 bd9 lk9 τ mτ fτ i0 i1 i2 i3 i4 i5 i6 hm11; omega
    | succ f11 ih11 =>
      intro n k bi9 bd9 lk9 τ mτ fτ i0 i1 i2 i3 i4 i5 i6 hm11
      have rτ := mτ.rg
      have nτ := mτ.len
      refine T.go 2 (fun n9 => (rfl : _ = exe ξ n9 (d + 3) j_M_toldCodes 15 [(0, .ref 137), (1, J x), (2, J y), (3, J n), (4, J k)] [J 20, J k] τ)) ?_
      refine T.icmp_ge rfl rfl (by omega) (by omega) (fun c52 => ?_) (fun c52 => ?_)
      · refine T.go 2 (fun n9 => (rfl : _ = exe ξ n9 (d + 3) j_M_toldCodes 39 [(0, .ref 137), (1, J x), (2, J y), (3, J n), (4, J 0)] [] τ)) ?_
        exact loop39 _ n 0 bi9 bd9 lk9 τ mτ fτ (by omega) (by omega) (by omega) (by omega) (by omega) (by omega) (by omega) (Nat.lt_succ_self _)
      · refine T.go 1 (fun n9 => (rfl : _ = exe ξ n9 (d + 3) j_M_toldCodes 19 [(0, .ref 137), (1, J x), (2, J y), (3, J n), (4, J k)] [.ref 137] τ)) ?_
        refine T.get rfl rfl rfl mτ.ob rfl ?_
        refine T.go 2 (fun n9 => (rfl : _ = exe ξ n9 (d + 3) j_M_toldCodes 27 [(0, .ref 137), (1, J x), (2, J y), (3, J n), (4, J k)] [J k, J 340, .ref 144] τ)) ?_
        refine T.iadd rfl ?_
        refine T.go 1 (fun n9 => (rfl : _ = exe ξ n9 (d + 3) j_M_toldCodes 29 [(0, .ref 137), (1, J x), (2, J y), (3, J n), (4, J k)] [J 0, J (340 + k), .ref 144] τ)) ?_
        refine T.mast144 mτ rfl (by omega) (fun s58 ms58 fs58 => ?_)
        have ns58 := ms58.len
        have gs58 := fτ.trans fs58
        refine T.iinc (lv' := [(0, .ref 137), (1, J x), (2, J y), (3, J n), (4, J (k + 1))]) rfl rfl rfl rfl ?_
        refine T.go 1 (fun n9 => (rfl : _ = exe ξ n9 (d + 3) j_M_toldCodes 11 [(0, .ref 137), (1, J x), (2, J y), (3, J n), (4, J (k + 1))] [] s58)) ?_
        exact ih11  n (k + 1) bi9 bd9 (lk9.set (340 + k : Int).toNat (Int32.ofInt 0)) s58 ms58 gs58 (by omega) (by omega) (by omega) (by omega) (by omega) (by omega) (by omega) (by omega)
  refine T.go 3 (fun n9 => (rfl : _ = exe ξ n9 (d + 3) j_M_toldCodes 3 [(0, .ref 137), (1, J x), (2, J y)] [J 4, .ref 137, J 4] σ)) ?_
  refine T.callv (as := [J 4]) (r := [J 4]) rfl rfl rfl rfl hM.ob rfl (s_M_take (d + 1) 4 σ hM (by omega) (by omega) (by omega) (by omega) (by omega) (by omega) (by omega)) (fun v8 s59 hqs59 => ?_)
  obtain ⟨z8, bi_6, bd_6, rfl, ms59, fs59, hzz8, hyz8, pz8_0, pz8_1, pz8_2, pz8_3, pz8_4⟩ := hqs59
  have ns59 := ms59.len
  have rs59 := ms59.rg
  refine T.iadd rfl ?_
  refine T.go 3 (fun n9 => (rfl : _ = exe ξ n9 (d + 3) j_M_toldCodes 11 [(0, .ref 137), (1, J x), (2, J y), (3, J (4 + z8)), (4, J 0)] [] s59)) ?_
  exact loop11 _ (4 + z8) 0 bi_6 bd_6 lk s59 ms59 fs59 (by omega) (by omega) (by omega) (by omega) (by omega) (by omega) (by omega) (Nat.lt_succ_self _)

set_option maxHeartbeats 4000000 in
theorem s_M_stretched4 {ξ : Nat → Option (Nat × List Int32)} {c io mo fa pl ns rw en wy wh bi ed sz md bd li wk we : Int} {Lc : List Int64} {la lm ln lh ld lk lt : List Int32} (d : Nat) (x : Int) (σ : qH) (hM : MS σ c io mo fa pl ns rw en wy wh bi ed sz md bd li wk we Lc la lm ln lh ld lk lt) (rx : -2147483648 ≤ x ∧ x ≤ 2147483647) (pre0 : 0 ≤ bi) (pre1 : bi ≤ ed) (pre2 : ed ≤ 64000) (pre3 : ed % 8 = 0) (pre4 : -1 ≤ x) (pre5 : x ≤ 28) : T ξ (d + 2) j_M_stretched 0 (lv_args 0 [.ref 137, J x, J 4]) [] σ (fun v σ' => ∃ (z : Int) (bi1 : Int) (bd1 : Int), v = some (J z) ∧ MS σ' c io mo fa pl ns rw en wy wh bi1 ed sz md bd1 li wk we Lc la lm ln lh ld lk lt ∧ FM σ σ' ∧ -1 ≤ z ∧ z ≤ 65800000 ∧ bi ≤ bi1 ∧ bi1 ≤ ed ∧ bd ≤ bd1) := by
  have r0 := hM.rg
  have n0 := hM.len
  have e2_0 : P2 0 = 1 := by decide
  refine T.go 3 (fun n9 => (rfl : _ = exe ξ n9 (d + 2) j_M_stretched 3 [(0, .ref 137), (1, J x), (2, J 4)] [J 4, J 2, J x] σ)) ?_
  refine T.imul rfl ?_
  refine T.icmp_ge rfl rfl (by omega) (by omega) (fun c1 => ?_) (fun c1 => ?_)
  · refine T.go 2 (fun n9 => (rfl : _ = exe ξ n9 (d + 2) j_M_stretched 13 [(0, .ref 137), (1, J x), (2, J 4)] [J 4, J x] σ)) ?_
    refine T.idivc (c := 4) rfl (by decide) (by omega) ?_
    refine T.go 1 (fun n9 => (rfl : _ = exe ξ n9 (d + 2) j_M_stretched 15 [(0, .ref 137), (1, J x), (2, J 4)] [J 1, J (x / 4)] σ)) ?_
    refine T.isub rfl ?_
    refine T.go 4 (fun n9 => (rfl : _ = exe ξ n9 (d + 2) j_M_stretched 20 [(0, .ref 137), (1, J x), (2, J 4), (3, J ((x / 4) - 1))] [J 4, J 2, J x] σ)) ?_
    refine T.imul rfl ?_
    refine T.icmp_ge rfl rfl (by omega) (by omega) (fun c2 => ?_) (fun c2 => ?_)
    · refine T.go 3 (fun n9 => (rfl : _ = exe ξ n9 (d + 2) j_M_stretched 31 [(0, .ref 137), (1, J x), (2, J 4), (3, J ((x / 4) - 1))] [J 4, J x, J 4] σ)) ?_
      refine T.iremc (c := 4) rfl (by decide) (by omega) ?_
      refine T.iadd rfl ?_
      refine T.go 1 (fun n9 => (rfl : _ = exe ξ n9 (d + 2) j_M_stretched 34 [(0, .ref 137), (1, J x), (2, J 4), (3, J ((x / 4) - 1))] [J ((x / 4) - 1), J (4 + (x % 4))] σ)) ?_
      refine T.ishlq rfl (by omega) (by omega) (fun z3 hzz3 hyz3 hvz3 hwz3 huz3 => ?_)
      refine T.go 4 (fun n9 => (rfl : _ = exe ξ n9 (d + 2) j_M_stretched 41 [(0, .ref 137), (1, J x), (2, J 4), (3, J ((x / 4) - 1)), (4, J z3)] [J ((x / 4) - 1), .ref 137, J z3] σ)) ?_
      refine T.callv (as := [J ((x / 4) - 1)]) (r := [J z3]) rfl rfl rfl rfl hM.ob rfl (s_M_take d ((x / 4) - 1) σ hM (by omega) (by omega) (by omega) (by omega) (by omega) (by omega) (by omega)) (fun v1 s1 hqs1 => ?_)
      obtain ⟨z4, bi_1, bd_1, rfl, ms1, fs1, hzz4, hyz4, pz4_0, pz4_1, pz4_2, pz4_3, pz4_4⟩ := hqs1
      have ns1 := ms1.len
      have rs1 := ms1.rg
      refine T.iadd rfl ?_
      exact T.ireti rfl rfl ⟨_, bi_1, bd_1, rfl, ms1, fs1, by omega, by omega, by omega, by omega, by omega⟩
    · refine T.go 6 (fun n9 => (rfl : _ = exe ξ n9 (d + 2) j_M_stretched 41 [(0, .ref 137), (1, J x), (2, J 4), (3, J ((x / 4) - 1)), (4, J x)] [J ((x / 4) - 1), .ref 137, J x] σ)) ?_
      refine T.callv (as := [J ((x / 4) - 1)]) (r := [J x]) rfl rfl rfl rfl hM.ob rfl (s_M_take d ((x / 4) - 1) σ hM (by omega) (by omega) (by omega) (by omega) (by omega) (by omega) (by omega)) (fun v2 s2 hqs2 => ?_)
      obtain ⟨z5, bi_2, bd_2, rfl, ms2, fs2, hzz5, hyz5, pz5_0, pz5_1, pz5_2, pz5_3, pz5_4⟩ := hqs2
      have ns2 := ms2.len
      have rs2 := ms2.rg
      refine T.iadd rfl ?_
      exact T.ireti rfl rfl ⟨_, bi_2, bd_2, rfl, ms2, fs2, by omega, by omega, by omega, by omega, by omega⟩
  · refine T.go 6 (fun n9 => (rfl : _ = exe ξ n9 (d + 2) j_M_stretched 20 [(0, .ref 137), (1, J x), (2, J 4), (3, J 0)] [J 4, J 2, J x] σ)) ?_
    refine T.imul rfl ?_
    refine T.icmp_ge rfl rfl (by omega) (by omega) (fun c3 => ?_) (fun c3 => ?_)
    · refine T.go 3 (fun n9 => (rfl : _ = exe ξ n9 (d + 2) j_M_stretched 31 [(0, .ref 137), (1, J x), (2, J 4), (3, J 0)] [J 4, J x, J 4] σ)) ?_
      refine T.iremc (c := 4) rfl (by decide) (by omega) ?_
      refine T.iadd rfl ?_
      refine T.go 1 (fun n9 => (rfl : _ = exe ξ n9 (d + 2) j_M_stretched 34 [(0, .ref 137), (1, J x), (2, J 4), (3, J 0)] [J 0, J (4 + (x % 4))] σ)) ?_
      refine T.ishlq rfl (by omega) (by omega) (fun z7 hzz7 hyz7 hvz7 hwz7 huz7 => ?_)
      refine T.go 4 (fun n9 => (rfl : _ = exe ξ n9 (d + 2) j_M_stretched 41 [(0, .ref 137), (1, J x), (2, J 4), (3, J 0), (4, J z7)] [J 0, .ref 137, J z7] σ)) ?_
      refine T.callv (as := [J 0]) (r := [J z7]) rfl rfl rfl rfl hM.ob rfl (s_M_take d 0 σ hM (by omega) (by omega) (by omega) (by omega) (by omega) (by omega) (by omega)) (fun v3 s3 hqs3 => ?_)
      obtain ⟨z8, bi_3, bd_3, rfl, ms3, fs3, hzz8, hyz8, pz8_0, pz8_1, pz8_2, pz8_3, pz8_4⟩ := hqs3
      have ns3 := ms3.len
      have rs3 := ms3.rg
      refine T.iadd rfl ?_
      exact T.ireti rfl rfl ⟨_, bi_3, bd_3, rfl, ms3, fs3, by omega, by omega, by omega, by omega, by omega⟩
    · refine T.go 6 (fun n9 => (rfl : _ = exe ξ n9 (d + 2) j_M_stretched 41 [(0, .ref 137), (1, J x), (2, J 4), (3, J 0), (4, J x)] [J 0, .ref 137, J x] σ)) ?_
      refine T.callv (as := [J 0]) (r := [J x]) rfl rfl rfl rfl hM.ob rfl (s_M_take d 0 σ hM (by omega) (by omega) (by omega) (by omega) (by omega) (by omega) (by omega)) (fun v4 s4 hqs4 => ?_)
      obtain ⟨z9, bi_4, bd_4, rfl, ms4, fs4, hzz9, hyz9, pz9_0, pz9_1, pz9_2, pz9_3, pz9_4⟩ := hqs4
      have ns4 := ms4.len
      have rs4 := ms4.rg
      refine T.iadd rfl ?_
      exact T.ireti rfl rfl ⟨_, bi_4, bd_4, rfl, ms4, fs4, by omega, by omega, by omega, by omega, by omega⟩

set_option maxHeartbeats 4000000 in
theorem s_M_stretched2 {ξ : Nat → Option (Nat × List Int32)} {c io mo fa pl ns rw en wy wh bi ed sz md bd li wk we : Int} {Lc : List Int64} {la lm ln lh ld lk lt : List Int32} (d : Nat) (x : Int) (σ : qH) (hM : MS σ c io mo fa pl ns rw en wy wh bi ed sz md bd li wk we Lc la lm ln lh ld lk lt) (rx : -2147483648 ≤ x ∧ x ≤ 2147483647) (pre0 : 0 ≤ bi) (pre1 : bi ≤ ed) (pre2 : ed ≤ 64000) (pre3 : ed % 8 = 0) (pre4 : -1 ≤ x) (pre5 : x ≤ 30) : T ξ (d + 2) j_M_stretched 0 (lv_args 0 [.ref 137, J x, J 2]) [] σ (fun v σ' => ∃ (z : Int) (bi1 : Int) (bd1 : Int), v = some (J z) ∧ MS σ' c io mo fa pl ns rw en wy wh bi1 ed sz md bd1 li wk we Lc la lm ln lh ld lk lt ∧ FM σ σ' ∧ -1 ≤ z ∧ z ≤ 65800000 ∧ bi ≤ bi1 ∧ bi1 ≤ ed ∧ bd ≤ bd1) := by
  have r0 := hM.rg
  have n0 := hM.len
  have e2_0 : P2 0 = 1 := by decide
  refine T.go 3 (fun n9 => (rfl : _ = exe ξ n9 (d + 2) j_M_stretched 3 [(0, .ref 137), (1, J x), (2, J 2)] [J 2, J 2, J x] σ)) ?_
  refine T.imul rfl ?_
  refine T.icmp_ge rfl rfl (by omega) (by omega) (fun c1 => ?_) (fun c1 => ?_)
  · refine T.go 2 (fun n9 => (rfl : _ = exe ξ n9 (d + 2) j_M_stretched 13 [(0, .ref 137), (1, J x), (2, J 2)] [J 2, J x] σ)) ?_
    refine T.idivc (c := 2) rfl (by decide) (by omega) ?_
    refine T.go 1 (fun n9 => (rfl : _ = exe ξ n9 (d + 2) j_M_stretched 15 [(0, .ref 137), (1, J x), (2, J 2)] [J 1, J (x / 2)] σ)) ?_
    refine T.isub rfl ?_
    refine T.go 4 (fun n9 => (rfl : _ = exe ξ n9 (d + 2) j_M_stretched 20 [(0, .ref 137), (1, J x), (2, J 2), (3, J ((x / 2) - 1))] [J 2, J 2, J x] σ)) ?_
    refine T.imul rfl ?_
    refine T.icmp_ge rfl rfl (by omega) (by omega) (fun c2 => ?_) (fun c2 => ?_)
    · refine T.go 3 (fun n9 => (rfl : _ = exe ξ n9 (d + 2) j_M_stretched 31 [(0, .ref 137), (1, J x), (2, J 2), (3, J ((x / 2) - 1))] [J 2, J x, J 2] σ)) ?_
      refine T.iremc (c := 2) rfl (by decide) (by omega) ?_
      refine T.iadd rfl ?_
      refine T.go 1 (fun n9 => (rfl : _ = exe ξ n9 (d + 2) j_M_stretched 34 [(0, .ref 137), (1, J x), (2, J 2), (3, J ((x / 2) - 1))] [J ((x / 2) - 1), J (2 + (x % 2))] σ)) ?_
      refine T.ishlq rfl (by omega) (by omega) (fun z3 hzz3 hyz3 hvz3 hwz3 huz3 => ?_)
      refine T.go 4 (fun n9 => (rfl : _ = exe ξ n9 (d + 2) j_M_stretched 41 [(0, .ref 137), (1, J x), (2, J 2), (3, J ((x / 2) - 1)), (4, J z3)] [J ((x / 2) - 1), .ref 137, J z3] σ)) ?_
      refine T.callv (as := [J ((x / 2) - 1)]) (r := [J z3]) rfl rfl rfl rfl hM.ob rfl (s_M_take d ((x / 2) - 1) σ hM (by omega) (by omega) (by omega) (by omega) (by omega) (by omega) (by omega)) (fun v1 s1 hqs1 => ?_)
      obtain ⟨z4, bi_1, bd_1, rfl, ms1, fs1, hzz4, hyz4, pz4_0, pz4_1, pz4_2, pz4_3, pz4_4⟩ := hqs1
      have ns1 := ms1.len
      have rs1 := ms1.rg
      refine T.iadd rfl ?_
      exact T.ireti rfl rfl ⟨_, bi_1, bd_1, rfl, ms1, fs1, by omega, by omega, by omega, by omega, by omega⟩
    · refine T.go 6 (fun n9 => (rfl : _ = exe ξ n9 (d + 2) j_M_stretched 41 [(0, .ref 137), (1, J x), (2, J 2), (3, J ((x / 2) - 1)), (4, J x)] [J ((x / 2) - 1), .ref 137, J x] σ)) ?_
      refine T.callv (as := [J ((x / 2) - 1)]) (r := [J x]) rfl rfl rfl rfl hM.ob rfl (s_M_take d ((x / 2) - 1) σ hM (by omega) (by omega) (by omega) (by omega) (by omega) (by omega) (by omega)) (fun v2 s2 hqs2 => ?_)
      obtain ⟨z5, bi_2, bd_2, rfl, ms2, fs2, hzz5, hyz5, pz5_0, pz5_1, pz5_2, pz5_3, pz5_4⟩ := hqs2
      have ns2 := ms2.len
      have rs2 := ms2.rg
      refine T.iadd rfl ?_
      exact T.ireti rfl rfl ⟨_, bi_2, bd_2, rfl, ms2, fs2, by omega, by omega, by omega, by omega, by omega⟩
  · refine T.go 6 (fun n9 => (rfl : _ = exe ξ n9 (d + 2) j_M_stretched 20 [(0, .ref 137), (1, J x), (2, J 2), (3, J 0)] [J 2, J 2, J x] σ)) ?_
    refine T.imul rfl ?_
    refine T.icmp_ge rfl rfl (by omega) (by omega) (fun c3 => ?_) (fun c3 => ?_)
    · refine T.go 3 (fun n9 => (rfl : _ = exe ξ n9 (d + 2) j_M_stretched 31 [(0, .ref 137), (1, J x), (2, J 2), (3, J 0)] [J 2, J x, J 2] σ)) ?_
      refine T.iremc (c := 2) rfl (by decide) (by omega) ?_
      refine T.iadd rfl ?_
      refine T.go 1 (fun n9 => (rfl : _ = exe ξ n9 (d + 2) j_M_stretched 34 [(0, .ref 137), (1, J x), (2, J 2), (3, J 0)] [J 0, J (2 + (x % 2))] σ)) ?_
      refine T.ishlq rfl (by omega) (by omega) (fun z7 hzz7 hyz7 hvz7 hwz7 huz7 => ?_)
      refine T.go 4 (fun n9 => (rfl : _ = exe ξ n9 (d + 2) j_M_stretched 41 [(0, .ref 137), (1, J x), (2, J 2), (3, J 0), (4, J z7)] [J 0, .ref 137, J z7] σ)) ?_
      refine T.callv (as := [J 0]) (r := [J z7]) rfl rfl rfl rfl hM.ob rfl (s_M_take d 0 σ hM (by omega) (by omega) (by omega) (by omega) (by omega) (by omega) (by omega)) (fun v3 s3 hqs3 => ?_)
      obtain ⟨z8, bi_3, bd_3, rfl, ms3, fs3, hzz8, hyz8, pz8_0, pz8_1, pz8_2, pz8_3, pz8_4⟩ := hqs3
      have ns3 := ms3.len
      have rs3 := ms3.rg
      refine T.iadd rfl ?_
      exact T.ireti rfl rfl ⟨_, bi_3, bd_3, rfl, ms3, fs3, by omega, by omega, by omega, by omega, by omega⟩
    · refine T.go 6 (fun n9 => (rfl : _ = exe ξ n9 (d + 2) j_M_stretched 41 [(0, .ref 137), (1, J x), (2, J 2), (3, J 0), (4, J x)] [J 0, .ref 137, J x] σ)) ?_
      refine T.callv (as := [J 0]) (r := [J x]) rfl rfl rfl rfl hM.ob rfl (s_M_take d 0 σ hM (by omega) (by omega) (by omega) (by omega) (by omega) (by omega) (by omega)) (fun v4 s4 hqs4 => ?_)
      obtain ⟨z9, bi_4, bd_4, rfl, ms4, fs4, hzz9, hyz9, pz9_0, pz9_1, pz9_2, pz9_3, pz9_4⟩ := hqs4
      have ns4 := ms4.len
      have rs4 := ms4.rg
      refine T.iadd rfl ?_
      exact T.ireti rfl rfl ⟨_, bi_4, bd_4, rfl, ms4, fs4, by omega, by omega, by omega, by omega, by omega⟩

set_option maxHeartbeats 4000000 in
theorem s_M_copied {ξ : Nat → Option (Nat × List Int32)} {c io mo fa pl ns rw en wy wh bi ed sz md bd li wk we : Int} {Lc : List Int64} {la lm ln lh ld lk lt : List Int32} (d : Nat) (x : Int) (y : Int) (σ : qH) (hM : MS σ c io mo fa pl ns rw en wy wh bi ed sz md bd li wk we Lc la lm ln lh ld lk lt) (rx : -2147483648 ≤ x ∧ x ≤ 2147483647) (ry : -2147483648 ≤ y ∧ y ≤ 2147483647) (pre0 : 0 ≤ bi) (pre1 : bi ≤ ed) (pre2 : ed ≤ 64000) (pre3 : ed % 8 = 0) (pre4 : 0 ≤ md) (pre5 : md ≤ sz) (pre6 : sz ≤ 8000) (pre7 : 257 ≤ x) (pre8 : 0 ≤ y) (pre9 : y ≤ 32) : T ξ (d + 3) j_M_copied 0 (lv_args 0 [.ref 137, J x, J y]) [] σ (fun v σ' => ∃ (bi1 : Int) (md1 : Int) (bd1 : Int) (Lc1 : List Int64), v = none ∧ MS σ' c io mo fa pl ns rw en wy wh bi1 ed sz md1 bd1 li wk we Lc1 la lm ln lh ld lk lt ∧ FM σ σ' ∧ RG [4] Lc Lc1 ∧ bi ≤ bi1 ∧ bi1 ≤ ed ∧ bd ≤ bd1 ∧ md ≤ md1 ∧ md1 ≤ sz) := by
  have r0 := hM.rg
  have n0 := hM.len
  have loop137 : ∀ (f137 : Nat) (n : Int) (w4 : Int) (b5 : Int) (k : Int) (bi9 : Int) (md9 : Int) (bd9 : Int) (Lc9 : List Int64) (τ : qH), MS τ c io mo fa pl ns rw en wy wh bi9 ed sz md9 bd9 li wk we Lc9 la lm ln lh ld lk lt → FM σ τ → RG [4] Lc Lc9 → bi ≤ bi9 → bi9 ≤ ed → bd ≤ bd9 → md ≤ md9 → md9 ≤ sz → 0 ≤ k → k ≤ n → n ≤ 100000000 → 0 ≤ b5 → b5 ≤ 100000000 → (bd9 = 0 → b5 ≤ md9) → (n - k).toNat < f137 → T ξ (d + 3) j_M_copied 137 [(0, .ref 137), (1, J x), (2, J y), (3, J n), (4, J w4), (5, J b5), (6, J k)] [] τ (fun v σ' => ∃ (bi1 : Int) (md1 : Int) (bd1 : Int) (Lc1 : List Int64), v = none ∧ MS σ' c io mo fa pl ns rw en wy wh bi1 ed sz md1 bd1 li wk we Lc1 la lm ln lh ld lk lt ∧ FM σ σ' ∧ RG [4] Lc Lc1 ∧ bi ≤ bi1 ∧ bi1 ≤ ed ∧ bd ≤ bd1 ∧ md ≤ md1 ∧ md1 ≤ sz) := by
    intro f137
    induction f137 with
    | zero => intro n w4 b5 k bi9 md9 bd9 Lc9 τ mτ fτ gτ i0 i1 i2 i3 i4 i5 i6 i7 i8 i9 i10 hm137; omega
    | succ f137 ih137 =>
      intro n w4 b5 k bi9 md9 bd9 Lc9 τ mτ fτ gτ i0 i1 i2 i3 i4 i5 i6 i7 i8 i9 i10 hm137
      have rτ := mτ.rg
      have nτ := mτ.len
      refine T.go 2 (fun n9 => (rfl : _ = exe ξ n9 (d + 3) j_M_copied 140 [(0, .ref 137), (1, J x), (2, J y), (3, J n), (4, J w4), (5, J b5), (6, J k)] [J n, J k] τ)) ?_
      refine T.icmp_ge rfl rfl (by omega) (by omega) (fun c1 => ?_) (fun c1 => ?_)
      · exact T.vret rfl rfl ⟨bi9, md9, bd9, Lc9, rfl, mτ, fτ, gτ, by omega, by omega, by omega, by omega, by omega⟩
      · refine T.go 1 (fun n9 => (rfl : _ = exe ξ n9 (d + 3) j_M_copied 144 [(0, .ref 137), (1, J x), (2, J y), (3, J n), (4, J w4), (5, J b5), (6, J k)] [.ref 137] τ)) ?_
        refine T.get rfl rfl rfl mτ.ob rfl ?_
        refine T.if_ne rfl rfl (by omega) (fun c2 => ?_) (fun c2 => ?_)
        · exact T.vret rfl rfl ⟨bi9, md9, bd9, Lc9, rfl, mτ, fτ, gτ, by omega, by omega, by omega, by omega, by omega⟩
        · refine T.go 4 (fun n9 => (rfl : _ = exe ξ n9 (d + 3) j_M_copied 154 [(0, .ref 137), (1, J x), (2, J y), (3, J n), (4, J w4), (5, J b5), (6, J k)] [.ref 137, J 4, .ref 137, .ref 137] τ)) ?_
          refine T.get rfl rfl rfl mτ.ob rfl ?_
          refine T.go 1 (fun n9 => (rfl : _ = exe ξ n9 (d + 3) j_M_copied 159 [(0, .ref 137), (1, J x), (2, J y), (3, J n), (4, J w4), (5, J b5), (6, J k)] [J b5, J md9, J 4, .ref 137, .ref 137] τ)) ?_
          refine T.isub rfl ?_
          refine T.callv (as := [J 4, J (md9 - b5)]) (r := [.ref 137]) rfl rfl rfl rfl mτ.ob rfl (s_M_get (d + 2) 4 (md9 - b5) τ mτ (by omega)) (fun v1 s1 hqs1 => ?_)
          obtain ⟨z1, rfl, esz1, hzz1, hyz1, pz1_0⟩ := hqs1
          rw [esz1]
          refine T.callv (as := [J z1]) (r := []) rfl rfl rfl rfl mτ.ob rfl (s_M_out (d + 1) z1 τ mτ (by omega) (by omega) (by omega) (by omega)) (fun v2 s2 hqs2 => ?_)
          obtain ⟨md_1, bd_1, Lc_1, rfl, ms2, fs2, pz2_0, pz2_1, pz2_2, pz2_3⟩ := hqs2
          have ns2 := ms2.len
          have rs2 := ms2.rg
          have gs2 := fτ.trans fs2
          have rgs2 := gτ.trans pz2_0 (by decide)
          refine T.iinc (lv' := [(0, .ref 137), (1, J x), (2, J y), (3, J n), (4, J w4), (5, J b5), (6, J (k + 1))]) rfl rfl rfl rfl ?_
          refine T.go 1 (fun n9 => (rfl : _ = exe ξ n9 (d + 3) j_M_copied 137 [(0, .ref 137), (1, J x), (2, J y), (3, J n), (4, J w4), (5, J b5), (6, J (k + 1))] [] s2)) ?_
          exact ih137  n w4 b5 (k + 1) bi9 md_1 bd_1 Lc_1 s2 ms2 gs2 rgs2 (by omega) (by omega) (by omega) (by omega) (by omega) (by omega) (by omega) (by omega) (by omega) (by omega) (by omega) (by omega)
  refine T.go 2 (fun n9 => (rfl : _ = exe ξ n9 (d + 3) j_M_copied 2 [(0, .ref 137), (1, J x), (2, J y)] [.ref 137, .ref 137] σ)) ?_
  refine T.get rfl rfl rfl hM.ob rfl ?_
  refine T.if_ne rfl rfl (by omega) (fun c3 => ?_) (fun c3 => ?_)
  · refine T.go 2 (fun n9 => (rfl : _ = exe ξ n9 (d + 3) j_M_copied 20 [(0, .ref 137), (1, J x), (2, J y)] [J 1, .ref 137] σ)) ?_
    refine T.mput (c' := c) (io' := io) (mo' := mo) (fa' := fa) (pl' := pl) (ns' := ns) (rw' := rw) (en' := en) (wy' := wy) (wh' := wh) (bi' := bi) (ed' := ed) (sz' := sz) (md' := md) (bd' := 1) (li' := li) (wk' := wk) (we' := we) hM rfl rfl rfl rfl rfl rfl (by omega) (fun s3 ms3 fs3 => ?_)
    refine T.go 1 (fun n9 => (rfl : _ = exe ξ n9 (d + 3) j_M_copied 24 [(0, .ref 137), (1, J x), (2, J y)] [.ref 137] s3)) ?_
    refine T.get rfl rfl rfl ms3.ob rfl ?_
    refine T.go 1 (fun n9 => (rfl : _ = exe ξ n9 (d + 3) j_M_copied 30 [(0, .ref 137), (1, J x), (2, J y)] [] s3)) ?_
    exact T.vret rfl rfl ⟨bi, md, 1, Lc, rfl, ms3, fs3, RG.refl, by omega, by omega, by omega, by omega, by omega⟩
  · refine T.go 2 (fun n9 => (rfl : _ = exe ξ n9 (d + 3) j_M_copied 12 [(0, .ref 137), (1, J x), (2, J y)] [J 285, J x, .ref 137] σ)) ?_
    refine T.icmp_le rfl rfl (by omega) (by omega) (fun c4 => ?_) (fun c4 => ?_)
    · refine T.go 1 (fun n9 => (rfl : _ = exe ξ n9 (d + 3) j_M_copied 20 [(0, .ref 137), (1, J x), (2, J y)] [J 0, .ref 137] σ)) ?_
      refine T.mput (c' := c) (io' := io) (mo' := mo) (fa' := fa) (pl' := pl) (ns' := ns) (rw' := rw) (en' := en) (wy' := wy) (wh' := wh) (bi' := bi) (ed' := ed) (sz' := sz) (md' := md) (bd' := 0) (li' := li) (wk' := wk) (we' := we) hM rfl rfl rfl rfl rfl rfl (by omega) (fun s4 ms4 fs4 => ?_)
      refine T.go 1 (fun n9 => (rfl : _ = exe ξ n9 (d + 3) j_M_copied 24 [(0, .ref 137), (1, J x), (2, J y)] [.ref 137] s4)) ?_
      refine T.get rfl rfl rfl ms4.ob rfl ?_
      refine T.go 3 (fun n9 => (rfl : _ = exe ξ n9 (d + 3) j_M_copied 35 [(0, .ref 137), (1, J x), (2, J y)] [J 285, J x] s4)) ?_
      refine T.icmp_ne rfl rfl (by omega) (by omega) (fun c5 => ?_) (fun c5 => ?_)
      · refine T.go 4 (fun n9 => (rfl : _ = exe ξ n9 (d + 3) j_M_copied 50 [(0, .ref 137), (1, J x), (2, J y)] [J 257, J x, .ref 137, J 3] s4)) ?_
        refine T.isub rfl ?_
        refine T.go 1 (fun n9 => (rfl : _ = exe ξ n9 (d + 3) j_M_copied 52 [(0, .ref 137), (1, J x), (2, J y)] [J 4, J (x - 257), .ref 137, J 3] s4)) ?_
        refine T.callv (as := [J (x - 257), J 4]) (r := [J 3]) rfl rfl rfl rfl ms4.ob rfl (s_M_stretched4 d (x - 257) s4 ms4 (by omega) (by omega) (by omega) (by omega) (by omega) (by omega) (by omega)) (fun v3 s5 hqs5 => ?_)
        obtain ⟨z3, bi_1, bd_2, rfl, ms5, fs5, hzz3, hyz3, pz3_0, pz3_1, pz3_2⟩ := hqs5
        have ns5 := ms5.len
        have rs5 := ms5.rg
        have gs5 := fs4.trans fs5
        refine T.iadd rfl ?_
        refine T.go 4 (fun n9 => (rfl : _ = exe ξ n9 (d + 3) j_M_copied 62 [(0, .ref 137), (1, J x), (2, J y), (3, J (3 + z3))] [J y, J 300, .ref 137] s5)) ?_
        refine T.callv (as := [J 300, J y]) (r := []) rfl rfl rfl rfl ms5.ob rfl (s_M_sign d 300 y s5 ms5 (by omega) (by omega) (by omega) (by omega) (by omega) (by omega) (by omega) (by omega) (by omega)) (fun v4 s6 hqs6 => ?_)
        obtain ⟨z4, bi_2, bd_3, rfl, ms6, fs6, hzz4, hyz4, pz4_0, pz4_1, pz4_2, pz4_3, pz4_4⟩ := hqs6
        have ns6 := ms6.len
        have rs6 := ms6.rg
        have gs6 := gs5.trans fs6
        refine T.go 3 (fun n9 => (rfl : _ = exe ξ n9 (d + 3) j_M_copied 69 [(0, .ref 137), (1, J x), (2, J y), (3, J (3 + z3)), (4, J z4)] [.ref 137, .ref 137] s6)) ?_
        refine T.get rfl rfl rfl ms6.ob rfl ?_
        refine T.if_ne rfl rfl (by omega) (fun c6 => ?_) (fun c6 => ?_)
        · refine T.go 2 (fun n9 => (rfl : _ = exe ξ n9 (d + 3) j_M_copied 87 [(0, .ref 137), (1, J x), (2, J y), (3, J (3 + z3)), (4, J z4)] [J 1, .ref 137] s6)) ?_
          refine T.mput (c' := c) (io' := io) (mo' := mo) (fa' := fa) (pl' := pl) (ns' := ns) (rw' := rw) (en' := en) (wy' := wy) (wh' := wh) (bi' := bi_2) (ed' := ed) (sz' := sz) (md' := md) (bd' := 1) (li' := li) (wk' := wk) (we' := we) ms6 rfl rfl rfl rfl rfl rfl (by omega) (fun s7 ms7 fs7 => ?_)
          have gs7 := gs6.trans fs7
          refine T.go 1 (fun n9 => (rfl : _ = exe ξ n9 (d + 3) j_M_copied 91 [(0, .ref 137), (1, J x), (2, J y), (3, J (3 + z3)), (4, J z4)] [.ref 137] s7)) ?_
          refine T.get rfl rfl rfl ms7.ob rfl ?_
          refine T.go 1 (fun n9 => (rfl : _ = exe ξ n9 (d + 3) j_M_copied 97 [(0, .ref 137), (1, J x), (2, J y), (3, J (3 + z3)), (4, J z4)] [] s7)) ?_
          exact T.vret rfl rfl ⟨bi_2, md, 1, Lc, rfl, ms7, gs7, RG.refl, by omega, by omega, by omega, by omega, by omega⟩
        · refine T.go 2 (fun n9 => (rfl : _ = exe ξ n9 (d + 3) j_M_copied 79 [(0, .ref 137), (1, J x), (2, J y), (3, J (3 + z3)), (4, J z4)] [J 29, J z4, .ref 137] s6)) ?_
          refine T.icmp_le rfl rfl (by omega) (by omega) (fun c7 => ?_) (fun c7 => ?_)
          · refine T.go 1 (fun n9 => (rfl : _ = exe ξ n9 (d + 3) j_M_copied 87 [(0, .ref 137), (1, J x), (2, J y), (3, J (3 + z3)), (4, J z4)] [J 0, .ref 137] s6)) ?_
            refine T.mput (c' := c) (io' := io) (mo' := mo) (fa' := fa) (pl' := pl) (ns' := ns) (rw' := rw) (en' := en) (wy' := wy) (wh' := wh) (bi' := bi_2) (ed' := ed) (sz' := sz) (md' := md) (bd' := 0) (li' := li) (wk' := wk) (we' := we) ms6 rfl rfl rfl rfl rfl rfl (by omega) (fun s8 ms8 fs8 => ?_)
            have gs8 := gs6.trans fs8
            refine T.go 1 (fun n9 => (rfl : _ = exe ξ n9 (d + 3) j_M_copied 91 [(0, .ref 137), (1, J x), (2, J y), (3, J (3 + z3)), (4, J z4)] [.ref 137] s8)) ?_
            refine T.get rfl rfl rfl ms8.ob rfl ?_
            refine T.go 5 (fun n9 => (rfl : _ = exe ξ n9 (d + 3) j_M_copied 103 [(0, .ref 137), (1, J x), (2, J y), (3, J (3 + z3)), (4, J z4)] [J 2, J z4, .ref 137, J 1] s8)) ?_
            refine T.callv (as := [J z4, J 2]) (r := [J 1]) rfl rfl rfl rfl ms8.ob rfl (s_M_stretched2 d z4 s8 ms8 (by omega) (by omega) (by omega) (by omega) (by omega) (by omega) (by omega)) (fun v5 s9 hqs9 => ?_)
            obtain ⟨z5, bi_3, bd_4, rfl, ms9, fs9, hzz5, hyz5, pz5_0, pz5_1, pz5_2⟩ := hqs9
            have ns9 := ms9.len
            have rs9 := ms9.rg
            have gs9 := gs8.trans fs9
            refine T.iadd rfl ?_
            refine T.go 3 (fun n9 => (rfl : _ = exe ξ n9 (d + 3) j_M_copied 111 [(0, .ref 137), (1, J x), (2, J y), (3, J (3 + z3)), (4, J z4), (5, J (1 + z5))] [.ref 137, .ref 137] s9)) ?_
            refine T.get rfl rfl rfl ms9.ob rfl ?_
            refine T.if_ne rfl rfl (by omega) (fun c8 => ?_) (fun c8 => ?_)
            · refine T.go 2 (fun n9 => (rfl : _ = exe ξ n9 (d + 3) j_M_copied 131 [(0, .ref 137), (1, J x), (2, J y), (3, J (3 + z3)), (4, J z4), (5, J (1 + z5))] [J 1, .ref 137] s9)) ?_
              refine T.mput (c' := c) (io' := io) (mo' := mo) (fa' := fa) (pl' := pl) (ns' := ns) (rw' := rw) (en' := en) (wy' := wy) (wh' := wh) (bi' := bi_3) (ed' := ed) (sz' := sz) (md' := md) (bd' := 1) (li' := li) (wk' := wk) (we' := we) ms9 rfl rfl rfl rfl rfl rfl (by omega) (fun s10 ms10 fs10 => ?_)
              have gs10 := gs9.trans fs10
              refine T.go 2 (fun n9 => (rfl : _ = exe ξ n9 (d + 3) j_M_copied 137 [(0, .ref 137), (1, J x), (2, J y), (3, J (3 + z3)), (4, J z4), (5, J (1 + z5)), (6, J 0)] [] s10)) ?_
              exact loop137 _ (3 + z3) z4 (1 + z5) 0 bi_3 md 1 Lc s10 ms10 gs10 RG.refl (by omega) (by omega) (by omega) (by omega) (by omega) (by omega) (by omega) (by omega) (by omega) (by omega) (by omega) (Nat.lt_succ_self _)
            · refine T.go 2 (fun n9 => (rfl : _ = exe ξ n9 (d + 3) j_M_copied 120 [(0, .ref 137), (1, J x), (2, J y), (3, J (3 + z3)), (4, J z4), (5, J (1 + z5))] [.ref 137, J (1 + z5), .ref 137] s9)) ?_
              refine T.get rfl rfl rfl ms9.ob rfl ?_
              refine T.icmp_le rfl rfl (by omega) (by omega) (fun c9 => ?_) (fun c9 => ?_)
              · refine T.go 1 (fun n9 => (rfl : _ = exe ξ n9 (d + 3) j_M_copied 131 [(0, .ref 137), (1, J x), (2, J y), (3, J (3 + z3)), (4, J z4), (5, J (1 + z5))] [J 0, .ref 137] s9)) ?_
                refine T.mput (c' := c) (io' := io) (mo' := mo) (fa' := fa) (pl' := pl) (ns' := ns) (rw' := rw) (en' := en) (wy' := wy) (wh' := wh) (bi' := bi_3) (ed' := ed) (sz' := sz) (md' := md) (bd' := 0) (li' := li) (wk' := wk) (we' := we) ms9 rfl rfl rfl rfl rfl rfl (by omega) (fun s11 ms11 fs11 => ?_)
                have gs11 := gs9.trans fs11
                refine T.go 2 (fun n9 => (rfl : _ = exe ξ n9 (d + 3) j_M_copied 137 [(0, .ref 137), (1, J x), (2, J y), (3, J (3 + z3)), (4, J z4), (5, J (1 + z5)), (6, J 0)] [] s11)) ?_
                exact loop137 _ (3 + z3) z4 (1 + z5) 0 bi_3 md 0 Lc s11 ms11 gs11 RG.refl (by omega) (by omega) (by omega) (by omega) (by omega) (by omega) (by omega) (by omega) (by omega) (by omega) (by omega) (Nat.lt_succ_self _)
              · refine T.go 2 (fun n9 => (rfl : _ = exe ξ n9 (d + 3) j_M_copied 131 [(0, .ref 137), (1, J x), (2, J y), (3, J (3 + z3)), (4, J z4), (5, J (1 + z5))] [J 1, .ref 137] s9)) ?_
                refine T.mput (c' := c) (io' := io) (mo' := mo) (fa' := fa) (pl' := pl) (ns' := ns) (rw' := rw) (en' := en) (wy' := wy) (wh' := wh) (bi' := bi_3) (ed' := ed) (sz' := sz) (md' := md) (bd' := 1) (li' := li) (wk' := wk) (we' := we) ms9 rfl rfl rfl rfl rfl rfl (by omega) (fun s12 ms12 fs12 => ?_)
                have gs12 := gs9.trans fs12
                refine T.go 2 (fun n9 => (rfl : _ = exe ξ n9 (d + 3) j_M_copied 137 [(0, .ref 137), (1, J x), (2, J y), (3, J (3 + z3)), (4, J z4), (5, J (1 + z5)), (6, J 0)] [] s12)) ?_
                exact loop137 _ (3 + z3) z4 (1 + z5) 0 bi_3 md 1 Lc s12 ms12 gs12 RG.refl (by omega) (by omega) (by omega) (by omega) (by omega) (by omega) (by omega) (by omega) (by omega) (by omega) (by omega) (Nat.lt_succ_self _)
          · refine T.go 2 (fun n9 => (rfl : _ = exe ξ n9 (d + 3) j_M_copied 87 [(0, .ref 137), (1, J x), (2, J y), (3, J (3 + z3)), (4, J z4)] [J 1, .ref 137] s6)) ?_
            refine T.mput (c' := c) (io' := io) (mo' := mo) (fa' := fa) (pl' := pl) (ns' := ns) (rw' := rw) (en' := en) (wy' := wy) (wh' := wh) (bi' := bi_2) (ed' := ed) (sz' := sz) (md' := md) (bd' := 1) (li' := li) (wk' := wk) (we' := we) ms6 rfl rfl rfl rfl rfl rfl (by omega) (fun s13 ms13 fs13 => ?_)
            have gs13 := gs6.trans fs13
            refine T.go 1 (fun n9 => (rfl : _ = exe ξ n9 (d + 3) j_M_copied 91 [(0, .ref 137), (1, J x), (2, J y), (3, J (3 + z3)), (4, J z4)] [.ref 137] s13)) ?_
            refine T.get rfl rfl rfl ms13.ob rfl ?_
            refine T.go 1 (fun n9 => (rfl : _ = exe ξ n9 (d + 3) j_M_copied 97 [(0, .ref 137), (1, J x), (2, J y), (3, J (3 + z3)), (4, J z4)] [] s13)) ?_
            exact T.vret rfl rfl ⟨bi_2, md, 1, Lc, rfl, ms13, gs13, RG.refl, by omega, by omega, by omega, by omega, by omega⟩
      · refine T.go 6 (fun n9 => (rfl : _ = exe ξ n9 (d + 3) j_M_copied 62 [(0, .ref 137), (1, J x), (2, J y), (3, J 258)] [J y, J 300, .ref 137] s4)) ?_
        refine T.callv (as := [J 300, J y]) (r := []) rfl rfl rfl rfl ms4.ob rfl (s_M_sign d 300 y s4 ms4 (by omega) (by omega) (by omega) (by omega) (by omega) (by omega) (by omega) (by omega) (by omega)) (fun v6 s14 hqs14 => ?_)
        obtain ⟨z6, bi_4, bd_5, rfl, ms14, fs14, hzz6, hyz6, pz6_0, pz6_1, pz6_2, pz6_3, pz6_4⟩ := hqs14
        have ns14 := ms14.len
        have rs14 := ms14.rg
        have gs14 := fs4.trans fs14
        refine T.go 3 (fun n9 => (rfl : _ = exe ξ n9 (d + 3) j_M_copied 69 [(0, .ref 137), (1, J x), (2, J y), (3, J 258), (4, J z6)] [.ref 137, .ref 137] s14)) ?_
        refine T.get rfl rfl rfl ms14.ob rfl ?_
        refine T.if_ne rfl rfl (by omega) (fun c10 => ?_) (fun c10 => ?_)
        · refine T.go 2 (fun n9 => (rfl : _ = exe ξ n9 (d + 3) j_M_copied 87 [(0, .ref 137), (1, J x), (2, J y), (3, J 258), (4, J z6)] [J 1, .ref 137] s14)) ?_
          refine T.mput (c' := c) (io' := io) (mo' := mo) (fa' := fa) (pl' := pl) (ns' := ns) (rw' := rw) (en' := en) (wy' := wy) (wh' := wh) (bi' := bi_4) (ed' := ed) (sz' := sz) (md' := md) (bd' := 1) (li' := li) (wk' := wk) (we' := we) ms14 rfl rfl rfl rfl rfl rfl (by omega) (fun s15 ms15 fs15 => ?_)
          have gs15 := gs14.trans fs15
          refine T.go 1 (fun n9 => (rfl : _ = exe ξ n9 (d + 3) j_M_copied 91 [(0, .ref 137), (1, J x), (2, J y), (3, J 258), (4, J z6)] [.ref 137] s15)) ?_
          refine T.get rfl rfl rfl ms15.ob rfl ?_
          refine T.go 1 (fun n9 => (rfl : _ = exe ξ n9 (d + 3) j_M_copied 97 [(0, .ref 137), (1, J x), (2, J y), (3, J 258), (4, J z6)] [] s15)) ?_
          exact T.vret rfl rfl ⟨bi_4, md, 1, Lc, rfl, ms15, gs15, RG.refl, by omega, by omega, by omega, by omega, by omega⟩
        · refine T.go 2 (fun n9 => (rfl : _ = exe ξ n9 (d + 3) j_M_copied 79 [(0, .ref 137), (1, J x), (2, J y), (3, J 258), (4, J z6)] [J 29, J z6, .ref 137] s14)) ?_
          refine T.icmp_le rfl rfl (by omega) (by omega) (fun c11 => ?_) (fun c11 => ?_)
          · refine T.go 1 (fun n9 => (rfl : _ = exe ξ n9 (d + 3) j_M_copied 87 [(0, .ref 137), (1, J x), (2, J y), (3, J 258), (4, J z6)] [J 0, .ref 137] s14)) ?_
            refine T.mput (c' := c) (io' := io) (mo' := mo) (fa' := fa) (pl' := pl) (ns' := ns) (rw' := rw) (en' := en) (wy' := wy) (wh' := wh) (bi' := bi_4) (ed' := ed) (sz' := sz) (md' := md) (bd' := 0) (li' := li) (wk' := wk) (we' := we) ms14 rfl rfl rfl rfl rfl rfl (by omega) (fun s16 ms16 fs16 => ?_)
            have gs16 := gs14.trans fs16
            refine T.go 1 (fun n9 => (rfl : _ = exe ξ n9 (d + 3) j_M_copied 91 [(0, .ref 137), (1, J x), (2, J y), (3, J 258), (4, J z6)] [.ref 137] s16)) ?_
            refine T.get rfl rfl rfl ms16.ob rfl ?_
            refine T.go 5 (fun n9 => (rfl : _ = exe ξ n9 (d + 3) j_M_copied 103 [(0, .ref 137), (1, J x), (2, J y), (3, J 258), (4, J z6)] [J 2, J z6, .ref 137, J 1] s16)) ?_
            refine T.callv (as := [J z6, J 2]) (r := [J 1]) rfl rfl rfl rfl ms16.ob rfl (s_M_stretched2 d z6 s16 ms16 (by omega) (by omega) (by omega) (by omega) (by omega) (by omega) (by omega)) (fun v7 s17 hqs17 => ?_)
            obtain ⟨z7, bi_5, bd_6, rfl, ms17, fs17, hzz7, hyz7, pz7_0, pz7_1, pz7_2⟩ := hqs17
            have ns17 := ms17.len
            have rs17 := ms17.rg
            have gs17 := gs16.trans fs17
            refine T.iadd rfl ?_
            refine T.go 3 (fun n9 => (rfl : _ = exe ξ n9 (d + 3) j_M_copied 111 [(0, .ref 137), (1, J x), (2, J y), (3, J 258), (4, J z6), (5, J (1 + z7))] [.ref 137, .ref 137] s17)) ?_
            refine T.get rfl rfl rfl ms17.ob rfl ?_
            refine T.if_ne rfl rfl (by omega) (fun c12 => ?_) (fun c12 => ?_)
            · refine T.go 2 (fun n9 => (rfl : _ = exe ξ n9 (d + 3) j_M_copied 131 [(0, .ref 137), (1, J x), (2, J y), (3, J 258), (4, J z6), (5, J (1 + z7))] [J 1, .ref 137] s17)) ?_
              refine T.mput (c' := c) (io' := io) (mo' := mo) (fa' := fa) (pl' := pl) (ns' := ns) (rw' := rw) (en' := en) (wy' := wy) (wh' := wh) (bi' := bi_5) (ed' := ed) (sz' := sz) (md' := md) (bd' := 1) (li' := li) (wk' := wk) (we' := we) ms17 rfl rfl rfl rfl rfl rfl (by omega) (fun s18 ms18 fs18 => ?_)
              have gs18 := gs17.trans fs18
              refine T.go 2 (fun n9 => (rfl : _ = exe ξ n9 (d + 3) j_M_copied 137 [(0, .ref 137), (1, J x), (2, J y), (3, J 258), (4, J z6), (5, J (1 + z7)), (6, J 0)] [] s18)) ?_
              exact loop137 _ 258 z6 (1 + z7) 0 bi_5 md 1 Lc s18 ms18 gs18 RG.refl (by omega) (by omega) (by omega) (by omega) (by omega) (by omega) (by omega) (by omega) (by omega) (by omega) (by omega) (Nat.lt_succ_self _)
            · refine T.go 2 (fun n9 => (rfl : _ = exe ξ n9 (d + 3) j_M_copied 120 [(0, .ref 137), (1, J x), (2, J y), (3, J 258), (4, J z6), (5, J (1 + z7))] [.ref 137, J (1 + z7), .ref 137] s17)) ?_
              refine T.get rfl rfl rfl ms17.ob rfl ?_
              refine T.icmp_le rfl rfl (by omega) (by omega) (fun c13 => ?_) (fun c13 => ?_)
              · refine T.go 1 (fun n9 => (rfl : _ = exe ξ n9 (d + 3) j_M_copied 131 [(0, .ref 137), (1, J x), (2, J y), (3, J 258), (4, J z6), (5, J (1 + z7))] [J 0, .ref 137] s17)) ?_
                refine T.mput (c' := c) (io' := io) (mo' := mo) (fa' := fa) (pl' := pl) (ns' := ns) (rw' := rw) (en' := en) (wy' := wy) (wh' := wh) (bi' := bi_5) (ed' := ed) (sz' := sz) (md' := md) (bd' := 0) (li' := li) (wk' := wk) (we' := we) ms17 rfl rfl rfl rfl rfl rfl (by omega) (fun s19 ms19 fs19 => ?_)
                have gs19 := gs17.trans fs19
                refine T.go 2 (fun n9 => (rfl : _ = exe ξ n9 (d + 3) j_M_copied 137 [(0, .ref 137), (1, J x), (2, J y), (3, J 258), (4, J z6), (5, J (1 + z7)), (6, J 0)] [] s19)) ?_
                exact loop137 _ 258 z6 (1 + z7) 0 bi_5 md 0 Lc s19 ms19 gs19 RG.refl (by omega) (by omega) (by omega) (by omega) (by omega) (by omega) (by omega) (by omega) (by omega) (by omega) (by omega) (Nat.lt_succ_self _)
              · refine T.go 2 (fun n9 => (rfl : _ = exe ξ n9 (d + 3) j_M_copied 131 [(0, .ref 137), (1, J x), (2, J y), (3, J 258), (4, J z6), (5, J (1 + z7))] [J 1, .ref 137] s17)) ?_
                refine T.mput (c' := c) (io' := io) (mo' := mo) (fa' := fa) (pl' := pl) (ns' := ns) (rw' := rw) (en' := en) (wy' := wy) (wh' := wh) (bi' := bi_5) (ed' := ed) (sz' := sz) (md' := md) (bd' := 1) (li' := li) (wk' := wk) (we' := we) ms17 rfl rfl rfl rfl rfl rfl (by omega) (fun s20 ms20 fs20 => ?_)
                have gs20 := gs17.trans fs20
                refine T.go 2 (fun n9 => (rfl : _ = exe ξ n9 (d + 3) j_M_copied 137 [(0, .ref 137), (1, J x), (2, J y), (3, J 258), (4, J z6), (5, J (1 + z7)), (6, J 0)] [] s20)) ?_
                exact loop137 _ 258 z6 (1 + z7) 0 bi_5 md 1 Lc s20 ms20 gs20 RG.refl (by omega) (by omega) (by omega) (by omega) (by omega) (by omega) (by omega) (by omega) (by omega) (by omega) (by omega) (Nat.lt_succ_self _)
          · refine T.go 2 (fun n9 => (rfl : _ = exe ξ n9 (d + 3) j_M_copied 87 [(0, .ref 137), (1, J x), (2, J y), (3, J 258), (4, J z6)] [J 1, .ref 137] s14)) ?_
            refine T.mput (c' := c) (io' := io) (mo' := mo) (fa' := fa) (pl' := pl) (ns' := ns) (rw' := rw) (en' := en) (wy' := wy) (wh' := wh) (bi' := bi_4) (ed' := ed) (sz' := sz) (md' := md) (bd' := 1) (li' := li) (wk' := wk) (we' := we) ms14 rfl rfl rfl rfl rfl rfl (by omega) (fun s21 ms21 fs21 => ?_)
            have gs21 := gs14.trans fs21
            refine T.go 1 (fun n9 => (rfl : _ = exe ξ n9 (d + 3) j_M_copied 91 [(0, .ref 137), (1, J x), (2, J y), (3, J 258), (4, J z6)] [.ref 137] s21)) ?_
            refine T.get rfl rfl rfl ms21.ob rfl ?_
            refine T.go 1 (fun n9 => (rfl : _ = exe ξ n9 (d + 3) j_M_copied 97 [(0, .ref 137), (1, J x), (2, J y), (3, J 258), (4, J z6)] [] s21)) ?_
            exact T.vret rfl rfl ⟨bi_4, md, 1, Lc, rfl, ms21, gs21, RG.refl, by omega, by omega, by omega, by omega, by omega⟩
    · refine T.go 2 (fun n9 => (rfl : _ = exe ξ n9 (d + 3) j_M_copied 20 [(0, .ref 137), (1, J x), (2, J y)] [J 1, .ref 137] σ)) ?_
      refine T.mput (c' := c) (io' := io) (mo' := mo) (fa' := fa) (pl' := pl) (ns' := ns) (rw' := rw) (en' := en) (wy' := wy) (wh' := wh) (bi' := bi) (ed' := ed) (sz' := sz) (md' := md) (bd' := 1) (li' := li) (wk' := wk) (we' := we) hM rfl rfl rfl rfl rfl rfl (by omega) (fun s22 ms22 fs22 => ?_)
      refine T.go 1 (fun n9 => (rfl : _ = exe ξ n9 (d + 3) j_M_copied 24 [(0, .ref 137), (1, J x), (2, J y)] [.ref 137] s22)) ?_
      refine T.get rfl rfl rfl ms22.ob rfl ?_
      refine T.go 1 (fun n9 => (rfl : _ = exe ξ n9 (d + 3) j_M_copied 30 [(0, .ref 137), (1, J x), (2, J y)] [] s22)) ?_
      exact T.vret rfl rfl ⟨bi, md, 1, Lc, rfl, ms22, fs22, RG.refl, by omega, by omega, by omega, by omega, by omega⟩

set_option maxHeartbeats 4000000 in
theorem s_M_codedBlock {ξ : Nat → Option (Nat × List Int32)} {c io mo fa pl ns rw en wy wh bi ed sz md bd li wk we : Int} {Lc : List Int64} {la lm ln lh ld lk lt : List Int32} (d : Nat) (x : Int) (σ : qH) (hM : MS σ c io mo fa pl ns rw en wy wh bi ed sz md bd li wk we Lc la lm ln lh ld lk lt) (rx : -2147483648 ≤ x ∧ x ≤ 2147483647) (pre0 : 0 ≤ bi) (pre1 : bi ≤ ed) (pre2 : ed ≤ 64000) (pre3 : ed % 8 = 0) (pre4 : 0 ≤ md) (pre5 : md ≤ sz) (pre6 : sz ≤ 8000) (pre7 : 0 ≤ x) (pre8 : x ≤ 1) : T ξ (d + 4) j_M_codedBlock 0 (lv_args 0 [.ref 137, J x]) [] σ (fun v σ' => ∃ (bi1 : Int) (md1 : Int) (bd1 : Int) (Lc1 : List Int64) (lk1 : List Int32), v = none ∧ MS σ' c io mo fa pl ns rw en wy wh bi1 ed sz md1 bd1 li wk we Lc1 la lm ln lh ld lk1 lt ∧ FM σ σ' ∧ RG [4] Lc Lc1 ∧ bi ≤ bi1 ∧ bi1 ≤ ed ∧ bd ≤ bd1 ∧ md ≤ md1 ∧ md1 ≤ sz) := by
  have r0 := hM.rg
  have n0 := hM.len
  have e2_5 : P2 5 = 32 := by decide
  have loop141 : ∀ (f141 : Nat) (n2 : Int) (n3 : Int) (m4 : Int) (bi9 : Int) (md9 : Int) (bd9 : Int) (Lc9 : List Int64) (lk9 : List Int32) (τ : qH), MS τ c io mo fa pl ns rw en wy wh bi9 ed sz md9 bd9 li wk we Lc9 la lm ln lh ld lk9 lt → FM σ τ → RG [4] Lc Lc9 → bi ≤ bi9 → bi9 ≤ ed → bd ≤ bd9 → md ≤ md9 → md9 ≤ sz → 257 ≤ n2 → n2 ≤ 288 → 1 ≤ n3 → n3 ≤ 32 → 0 ≤ m4 → m4 ≤ 1 → (ed - bi9 + 1 - bd9).toNat < f141 → T ξ (d + 4) j_M_codedBlock 141 [(0, .ref 137), (1, J x), (2, J n2), (3, J n3), (4, J m4)] [] τ (fun v σ' => ∃ (bi1 : Int) (md1 : Int) (bd1 : Int) (Lc1 : List Int64) (lk1 : List Int32), v = none ∧ MS σ' c io mo fa pl ns rw en wy wh bi1 ed sz md1 bd1 li wk we Lc1 la lm ln lh ld lk1 lt ∧ FM σ σ' ∧ RG [4] Lc Lc1 ∧ bi ≤ bi1 ∧ bi1 ≤ ed ∧ bd ≤ bd1 ∧ md ≤ md1 ∧ md1 ≤ sz) := by
    intro f141
    induction f141 with
    | zero => intro n2 n3 m4 bi9 md9 bd9 Lc9 lk9 τ mτ fτ gτ i0 i1 i2 i3 i4 i5 i6 i7 i8 i9 i10 hm141; omega
    | succ f141 ih141 =>
      intro n2 n3 m4 bi9 md9 bd9 Lc9 lk9 τ mτ fτ gτ i0 i1 i2 i3 i4 i5 i6 i7 i8 i9 i10 hm141
      have rτ := mτ.rg
      have nτ := mτ.len
      refine T.go 1 (fun n9 => (rfl : _ = exe ξ n9 (d + 4) j_M_codedBlock 143 [(0, .ref 137), (1, J x), (2, J n2), (3, J n3), (4, J m4)] [J m4] τ)) ?_
      refine T.if_eq rfl rfl (by omega) (fun c1 => ?_) (fun c1 => ?_)
      · exact T.vret rfl rfl ⟨bi9, md9, bd9, Lc9, lk9, rfl, mτ, fτ, gτ, by omega, by omega, by omega, by omega, by omega⟩
      · refine T.go 1 (fun n9 => (rfl : _ = exe ξ n9 (d + 4) j_M_codedBlock 147 [(0, .ref 137), (1, J x), (2, J n2), (3, J n3), (4, J m4)] [.ref 137] τ)) ?_
        refine T.get rfl rfl rfl mτ.ob rfl ?_
        refine T.if_ne rfl rfl (by omega) (fun c2 => ?_) (fun c2 => ?_)
        · exact T.vret rfl rfl ⟨bi9, md9, bd9, Lc9, lk9, rfl, mτ, fτ, gτ, by omega, by omega, by omega, by omega, by omega⟩
        · refine T.go 3 (fun n9 => (rfl : _ = exe ξ n9 (d + 4) j_M_codedBlock 156 [(0, .ref 137), (1, J x), (2, J n2), (3, J n3), (4, J m4)] [J n2, J 0, .ref 137] τ)) ?_
          refine T.callv (as := [J 0, J n2]) (r := []) rfl rfl rfl rfl mτ.ob rfl (s_M_sign (d + 1) 0 n2 τ mτ (by omega) (by omega) (by omega) (by omega) (by omega) (by omega) (by omega) (by omega) (by omega)) (fun v1 s1 hqs1 => ?_)
          obtain ⟨z1, bi_1, bd_1, rfl, ms1, fs1, hzz1, hyz1, pz1_0, pz1_1, pz1_2, pz1_3, pz1_4⟩ := hqs1
          have ns1 := ms1.len
          have rs1 := ms1.rg
          have gs1 := fτ.trans fs1
          refine T.go 3 (fun n9 => (rfl : _ = exe ξ n9 (d + 4) j_M_codedBlock 166 [(0, .ref 137), (1, J x), (2, J n2), (3, J n3), (4, J m4), (5, J z1)] [J 256, J z1] s1)) ?_
          refine T.icmp_eq rfl rfl (by omega) (by omega) (fun c3 => ?_) (fun c3 => ?_)
          · refine T.go 3 (fun n9 => (rfl : _ = exe ξ n9 (d + 4) j_M_codedBlock 177 [(0, .ref 137), (1, J x), (2, J n2), (3, J n3), (4, J 0), (5, J z1)] [.ref 137] s1)) ?_
            refine T.get rfl rfl rfl ms1.ob rfl ?_
            refine T.if_ne rfl rfl (by omega) (fun c4 => ?_) (fun c4 => ?_)
            · refine T.drop (lv := [(0, .ref 137), (1, J x), (2, J n2), (3, J n3), (4, J 0)]) [(5, J z1)] (by simp) ?_
              exact ih141  n2 n3 0 bi_1 md9 bd_1 Lc9 lk9 s1 ms1 gs1 gτ (by omega) (by omega) (by omega) (by omega) (by omega) (by omega) (by omega) (by omega) (by omega) (by omega) (by omega) (by omega)
            · refine T.go 2 (fun n9 => (rfl : _ = exe ξ n9 (d + 4) j_M_codedBlock 188 [(0, .ref 137), (1, J x), (2, J n2), (3, J n3), (4, J 0), (5, J z1)] [J 256, J z1] s1)) ?_
              refine T.icmp_ne rfl rfl (by omega) (by omega) (fun c5 => ?_) (fun c5 => ?_)
              · refine T.go 2 (fun n9 => (rfl : _ = exe ξ n9 (d + 4) j_M_codedBlock 199 [(0, .ref 137), (1, J x), (2, J n2), (3, J n3), (4, J 0), (5, J z1)] [J 256, J z1] s1)) ?_
                refine T.icmp_ge rfl rfl (by omega) (by omega) (fun c6 => ?_) (fun c6 => ?_)
                · refine T.go 3 (fun n9 => (rfl : _ = exe ξ n9 (d + 4) j_M_codedBlock 215 [(0, .ref 137), (1, J x), (2, J n2), (3, J n3), (4, J 0), (5, J z1)] [J n3, J z1, .ref 137] s1)) ?_
                  refine T.callv (as := [J z1, J n3]) (r := []) rfl rfl rfl rfl ms1.ob rfl (s_M_copied d z1 n3 s1 ms1 (by omega) (by omega) (by omega) (by omega) (by omega) (by omega) (by omega) (by omega) (by omega) (by omega) (by omega) (by omega)) (fun v2 s2 hqs2 => ?_)
                  obtain ⟨bi_2, md_1, bd_2, Lc_1, rfl, ms2, fs2, pz2_0, pz2_1, pz2_2, pz2_3, pz2_4, pz2_5⟩ := hqs2
                  have ns2 := ms2.len
                  have rs2 := ms2.rg
                  have gs2 := gs1.trans fs2
                  have rgs2 := gτ.trans pz2_0 (by decide)
                  refine T.go 1 (fun n9 => (rfl : _ = exe ξ n9 (d + 4) j_M_codedBlock 141 [(0, .ref 137), (1, J x), (2, J n2), (3, J n3), (4, J 0), (5, J z1)] [] s2)) ?_
                  refine T.drop (lv := [(0, .ref 137), (1, J x), (2, J n2), (3, J n3), (4, J 0)]) [(5, J z1)] (by simp) ?_
                  exact ih141  n2 n3 0 bi_2 md_1 bd_2 Lc_1 lk9 s2 ms2 gs2 rgs2 (by omega) (by omega) (by omega) (by omega) (by omega) (by omega) (by omega) (by omega) (by omega) (by omega) (by omega) (by omega)
                · refine T.go 2 (fun n9 => (rfl : _ = exe ξ n9 (d + 4) j_M_codedBlock 205 [(0, .ref 137), (1, J x), (2, J n2), (3, J n3), (4, J 0), (5, J z1)] [J z1, .ref 137] s1)) ?_
                  refine T.callv (as := [J z1]) (r := []) rfl rfl rfl rfl ms1.ob rfl (s_M_out (d + 2) z1 s1 ms1 (by omega) (by omega) (by omega) (by omega)) (fun v3 s3 hqs3 => ?_)
                  obtain ⟨md_2, bd_3, Lc_2, rfl, ms3, fs3, pz3_0, pz3_1, pz3_2, pz3_3⟩ := hqs3
                  have ns3 := ms3.len
                  have rs3 := ms3.rg
                  have gs3 := gs1.trans fs3
                  have rgs3 := gτ.trans pz3_0 (by decide)
                  refine T.go 2 (fun n9 => (rfl : _ = exe ξ n9 (d + 4) j_M_codedBlock 141 [(0, .ref 137), (1, J x), (2, J n2), (3, J n3), (4, J 0), (5, J z1)] [] s3)) ?_
                  refine T.drop (lv := [(0, .ref 137), (1, J x), (2, J n2), (3, J n3), (4, J 0)]) [(5, J z1)] (by simp) ?_
                  exact ih141  n2 n3 0 bi_1 md_2 bd_3 Lc_2 lk9 s3 ms3 gs3 rgs3 (by omega) (by omega) (by omega) (by omega) (by omega) (by omega) (by omega) (by omega) (by omega) (by omega) (by omega) (by omega)
              · refine T.go 1 (fun n9 => (rfl : _ = exe ξ n9 (d + 4) j_M_codedBlock 141 [(0, .ref 137), (1, J x), (2, J n2), (3, J n3), (4, J 0), (5, J z1)] [] s1)) ?_
                refine T.drop (lv := [(0, .ref 137), (1, J x), (2, J n2), (3, J n3), (4, J 0)]) [(5, J z1)] (by simp) ?_
                exact ih141  n2 n3 0 bi_1 md9 bd_1 Lc9 lk9 s1 ms1 gs1 gτ (by omega) (by omega) (by omega) (by omega) (by omega) (by omega) (by omega) (by omega) (by omega) (by omega) (by omega) (by omega)
          · refine T.go 4 (fun n9 => (rfl : _ = exe ξ n9 (d + 4) j_M_codedBlock 177 [(0, .ref 137), (1, J x), (2, J n2), (3, J n3), (4, J 1), (5, J z1)] [.ref 137] s1)) ?_
            refine T.get rfl rfl rfl ms1.ob rfl ?_
            refine T.if_ne rfl rfl (by omega) (fun c7 => ?_) (fun c7 => ?_)
            · refine T.drop (lv := [(0, .ref 137), (1, J x), (2, J n2), (3, J n3), (4, J 1)]) [(5, J z1)] (by simp) ?_
              exact ih141  n2 n3 1 bi_1 md9 bd_1 Lc9 lk9 s1 ms1 gs1 gτ (by omega) (by omega) (by omega) (by omega) (by omega) (by omega) (by omega) (by omega) (by omega) (by omega) (by omega) (by omega)
            · refine T.go 2 (fun n9 => (rfl : _ = exe ξ n9 (d + 4) j_M_codedBlock 188 [(0, .ref 137), (1, J x), (2, J n2), (3, J n3), (4, J 1), (5, J z1)] [J 256, J z1] s1)) ?_
              refine T.icmp_ne rfl rfl (by omega) (by omega) (fun c8 => ?_) (fun c8 => ?_)
              · refine T.go 2 (fun n9 => (rfl : _ = exe ξ n9 (d + 4) j_M_codedBlock 199 [(0, .ref 137), (1, J x), (2, J n2), (3, J n3), (4, J 1), (5, J z1)] [J 256, J z1] s1)) ?_
                refine T.icmp_ge rfl rfl (by omega) (by omega) (fun c9 => ?_) (fun c9 => ?_)
                · refine T.go 3 (fun n9 => (rfl : _ = exe ξ n9 (d + 4) j_M_codedBlock 215 [(0, .ref 137), (1, J x), (2, J n2), (3, J n3), (4, J 1), (5, J z1)] [J n3, J z1, .ref 137] s1)) ?_
                  refine T.callv (as := [J z1, J n3]) (r := []) rfl rfl rfl rfl ms1.ob rfl (s_M_copied d z1 n3 s1 ms1 (by omega) (by omega) (by omega) (by omega) (by omega) (by omega) (by omega) (by omega) (by omega) (by omega) (by omega) (by omega)) (fun v4 s4 hqs4 => ?_)
                  obtain ⟨bi_3, md_3, bd_4, Lc_3, rfl, ms4, fs4, pz4_0, pz4_1, pz4_2, pz4_3, pz4_4, pz4_5⟩ := hqs4
                  have ns4 := ms4.len
                  have rs4 := ms4.rg
                  have gs4 := gs1.trans fs4
                  have rgs4 := gτ.trans pz4_0 (by decide)
                  refine T.go 1 (fun n9 => (rfl : _ = exe ξ n9 (d + 4) j_M_codedBlock 141 [(0, .ref 137), (1, J x), (2, J n2), (3, J n3), (4, J 1), (5, J z1)] [] s4)) ?_
                  refine T.drop (lv := [(0, .ref 137), (1, J x), (2, J n2), (3, J n3), (4, J 1)]) [(5, J z1)] (by simp) ?_
                  exact ih141  n2 n3 1 bi_3 md_3 bd_4 Lc_3 lk9 s4 ms4 gs4 rgs4 (by omega) (by omega) (by omega) (by omega) (by omega) (by omega) (by omega) (by omega) (by omega) (by omega) (by omega) (by omega)
                · refine T.go 2 (fun n9 => (rfl : _ = exe ξ n9 (d + 4) j_M_codedBlock 205 [(0, .ref 137), (1, J x), (2, J n2), (3, J n3), (4, J 1), (5, J z1)] [J z1, .ref 137] s1)) ?_
                  refine T.callv (as := [J z1]) (r := []) rfl rfl rfl rfl ms1.ob rfl (s_M_out (d + 2) z1 s1 ms1 (by omega) (by omega) (by omega) (by omega)) (fun v5 s5 hqs5 => ?_)
                  obtain ⟨md_4, bd_5, Lc_4, rfl, ms5, fs5, pz5_0, pz5_1, pz5_2, pz5_3⟩ := hqs5
                  have ns5 := ms5.len
                  have rs5 := ms5.rg
                  have gs5 := gs1.trans fs5
                  have rgs5 := gτ.trans pz5_0 (by decide)
                  refine T.go 2 (fun n9 => (rfl : _ = exe ξ n9 (d + 4) j_M_codedBlock 141 [(0, .ref 137), (1, J x), (2, J n2), (3, J n3), (4, J 1), (5, J z1)] [] s5)) ?_
                  refine T.drop (lv := [(0, .ref 137), (1, J x), (2, J n2), (3, J n3), (4, J 1)]) [(5, J z1)] (by simp) ?_
                  exact ih141  n2 n3 1 bi_1 md_4 bd_5 Lc_4 lk9 s5 ms5 gs5 rgs5 (by omega) (by omega) (by omega) (by omega) (by omega) (by omega) (by omega) (by omega) (by omega) (by omega) (by omega) (by omega)
              · refine T.go 1 (fun n9 => (rfl : _ = exe ξ n9 (d + 4) j_M_codedBlock 141 [(0, .ref 137), (1, J x), (2, J n2), (3, J n3), (4, J 1), (5, J z1)] [] s1)) ?_
                refine T.drop (lv := [(0, .ref 137), (1, J x), (2, J n2), (3, J n3), (4, J 1)]) [(5, J z1)] (by simp) ?_
                exact ih141  n2 n3 1 bi_1 md9 bd_1 Lc9 lk9 s1 ms1 gs1 gτ (by omega) (by omega) (by omega) (by omega) (by omega) (by omega) (by omega) (by omega) (by omega) (by omega) (by omega) (by omega)
  refine T.go 5 (fun n9 => (rfl : _ = exe ξ n9 (d + 4) j_M_codedBlock 8 [(0, .ref 137), (1, J x), (2, J 288), (3, J 32)] [J x] σ)) ?_
  refine T.if_eq rfl rfl (by omega) (fun c10 => ?_) (fun c10 => ?_)
  · refine T.go 1 (fun n9 => (rfl : _ = exe ξ n9 (d + 4) j_M_codedBlock 135 [(0, .ref 137), (1, J x), (2, J 288), (3, J 32)] [.ref 137] σ)) ?_
    refine T.callv (as := []) (r := []) rfl rfl rfl rfl hM.ob rfl (s_M_fixedCodes (d + 3)  σ hM ) (fun v6 s6 hqs6 => ?_)
    obtain ⟨lk_1, rfl, ms6, fs6⟩ := hqs6
    have ns6 := ms6.len
    have rs6 := ms6.rg
    refine T.go 2 (fun n9 => (rfl : _ = exe ξ n9 (d + 4) j_M_codedBlock 141 [(0, .ref 137), (1, J x), (2, J 288), (3, J 32), (4, J 1)] [] s6)) ?_
    exact loop141 _ 288 32 1 bi md bd Lc lk_1 s6 ms6 fs6 RG.refl (by omega) (by omega) (by omega) (by omega) (by omega) (by omega) (by omega) (by omega) (by omega) (by omega) (by omega) (Nat.lt_succ_self _)
  · refine T.go 3 (fun n9 => (rfl : _ = exe ξ n9 (d + 4) j_M_codedBlock 16 [(0, .ref 137), (1, J x), (2, J 288), (3, J 32)] [J 5, .ref 137, J 257] σ)) ?_
    refine T.callv (as := [J 5]) (r := [J 257]) rfl rfl rfl rfl hM.ob rfl (s_M_take (d + 2) 5 σ hM (by omega) (by omega) (by omega) (by omega) (by omega) (by omega) (by omega)) (fun v7 s7 hqs7 => ?_)
    obtain ⟨z7, bi_4, bd_6, rfl, ms7, fs7, hzz7, hyz7, pz7_0, pz7_1, pz7_2, pz7_3, pz7_4⟩ := hqs7
    have ns7 := ms7.len
    have rs7 := ms7.rg
    refine T.iadd rfl ?_
    refine T.go 4 (fun n9 => (rfl : _ = exe ξ n9 (d + 4) j_M_codedBlock 24 [(0, .ref 137), (1, J x), (2, J (257 + z7)), (3, J 32)] [J 5, .ref 137, J 1] s7)) ?_
    refine T.callv (as := [J 5]) (r := [J 1]) rfl rfl rfl rfl ms7.ob rfl (s_M_take (d + 2) 5 s7 ms7 (by omega) (by omega) (by omega) (by omega) (by omega) (by omega) (by omega)) (fun v8 s8 hqs8 => ?_)
    obtain ⟨z8, bi_5, bd_7, rfl, ms8, fs8, hzz8, hyz8, pz8_0, pz8_1, pz8_2, pz8_3, pz8_4⟩ := hqs8
    have ns8 := ms8.len
    have rs8 := ms8.rg
    have gs8 := fs7.trans fs8
    refine T.iadd rfl ?_
    refine T.go 3 (fun n9 => (rfl : _ = exe ξ n9 (d + 4) j_M_codedBlock 31 [(0, .ref 137), (1, J x), (2, J (257 + z7)), (3, J (1 + z8))] [.ref 137, .ref 137] s8)) ?_
    refine T.get rfl rfl rfl ms8.ob rfl ?_
    refine T.if_ne rfl rfl (by omega) (fun c11 => ?_) (fun c11 => ?_)
    · refine T.go 2 (fun n9 => (rfl : _ = exe ξ n9 (d + 4) j_M_codedBlock 55 [(0, .ref 137), (1, J x), (2, J (257 + z7)), (3, J (1 + z8))] [J 1, .ref 137] s8)) ?_
      refine T.mput (c' := c) (io' := io) (mo' := mo) (fa' := fa) (pl' := pl) (ns' := ns) (rw' := rw) (en' := en) (wy' := wy) (wh' := wh) (bi' := bi_5) (ed' := ed) (sz' := sz) (md' := md) (bd' := 1) (li' := li) (wk' := wk) (we' := we) ms8 rfl rfl rfl rfl rfl rfl (by omega) (fun s9 ms9 fs9 => ?_)
      have gs9 := gs8.trans fs9
      refine T.go 1 (fun n9 => (rfl : _ = exe ξ n9 (d + 4) j_M_codedBlock 59 [(0, .ref 137), (1, J x), (2, J (257 + z7)), (3, J (1 + z8))] [.ref 137] s9)) ?_
      refine T.get rfl rfl rfl ms9.ob rfl ?_
      refine T.go 3 (fun n9 => (rfl : _ = exe ξ n9 (d + 4) j_M_codedBlock 73 [(0, .ref 137), (1, J x), (2, J (257 + z7)), (3, J (1 + z8))] [.ref 137, .ref 137] s9)) ?_
      refine T.get rfl rfl rfl ms9.ob rfl ?_
      refine T.go 3 (fun n9 => (rfl : _ = exe ξ n9 (d + 4) j_M_codedBlock 128 [(0, .ref 137), (1, J x), (2, J (257 + z7)), (3, J (1 + z8))] [J 1, .ref 137] s9)) ?_
      refine T.mput (c' := c) (io' := io) (mo' := mo) (fa' := fa) (pl' := pl) (ns' := ns) (rw' := rw) (en' := en) (wy' := wy) (wh' := wh) (bi' := bi_5) (ed' := ed) (sz' := sz) (md' := md) (bd' := 1) (li' := li) (wk' := wk) (we' := we) ms9 rfl rfl rfl rfl rfl rfl (by omega) (fun s10 ms10 fs10 => ?_)
      have gs10 := gs9.trans fs10
      refine T.go 3 (fun n9 => (rfl : _ = exe ξ n9 (d + 4) j_M_codedBlock 141 [(0, .ref 137), (1, J x), (2, J (257 + z7)), (3, J (1 + z8)), (4, J 1)] [] s10)) ?_
      exact loop141 _ (257 + z7) (1 + z8) 1 bi_5 md 1 Lc lk s10 ms10 gs10 RG.refl (by omega) (by omega) (by omega) (by omega) (by omega) (by omega) (by omega) (by omega) (by omega) (by omega) (by omega) (Nat.lt_succ_self _)
    · refine T.go 2 (fun n9 => (rfl : _ = exe ξ n9 (d + 4) j_M_codedBlock 41 [(0, .ref 137), (1, J x), (2, J (257 + z7)), (3, J (1 + z8))] [J 286, J (257 + z7), .ref 137] s8)) ?_
      refine T.icmp_gt rfl rfl (by omega) (by omega) (fun c12 => ?_) (fun c12 => ?_)
      · refine T.go 2 (fun n9 => (rfl : _ = exe ξ n9 (d + 4) j_M_codedBlock 55 [(0, .ref 137), (1, J x), (2, J (257 + z7)), (3, J (1 + z8))] [J 1, .ref 137] s8)) ?_
        refine T.mput (c' := c) (io' := io) (mo' := mo) (fa' := fa) (pl' := pl) (ns' := ns) (rw' := rw) (en' := en) (wy' := wy) (wh' := wh) (bi' := bi_5) (ed' := ed) (sz' := sz) (md' := md) (bd' := 1) (li' := li) (wk' := wk) (we' := we) ms8 rfl rfl rfl rfl rfl rfl (by omega) (fun s11 ms11 fs11 => ?_)
        have gs11 := gs8.trans fs11
        refine T.go 1 (fun n9 => (rfl : _ = exe ξ n9 (d + 4) j_M_codedBlock 59 [(0, .ref 137), (1, J x), (2, J (257 + z7)), (3, J (1 + z8))] [.ref 137] s11)) ?_
        refine T.get rfl rfl rfl ms11.ob rfl ?_
        refine T.go 3 (fun n9 => (rfl : _ = exe ξ n9 (d + 4) j_M_codedBlock 73 [(0, .ref 137), (1, J x), (2, J (257 + z7)), (3, J (1 + z8))] [.ref 137, .ref 137] s11)) ?_
        refine T.get rfl rfl rfl ms11.ob rfl ?_
        refine T.go 3 (fun n9 => (rfl : _ = exe ξ n9 (d + 4) j_M_codedBlock 128 [(0, .ref 137), (1, J x), (2, J (257 + z7)), (3, J (1 + z8))] [J 1, .ref 137] s11)) ?_
        refine T.mput (c' := c) (io' := io) (mo' := mo) (fa' := fa) (pl' := pl) (ns' := ns) (rw' := rw) (en' := en) (wy' := wy) (wh' := wh) (bi' := bi_5) (ed' := ed) (sz' := sz) (md' := md) (bd' := 1) (li' := li) (wk' := wk) (we' := we) ms11 rfl rfl rfl rfl rfl rfl (by omega) (fun s12 ms12 fs12 => ?_)
        have gs12 := gs11.trans fs12
        refine T.go 3 (fun n9 => (rfl : _ = exe ξ n9 (d + 4) j_M_codedBlock 141 [(0, .ref 137), (1, J x), (2, J (257 + z7)), (3, J (1 + z8)), (4, J 1)] [] s12)) ?_
        exact loop141 _ (257 + z7) (1 + z8) 1 bi_5 md 1 Lc lk s12 ms12 gs12 RG.refl (by omega) (by omega) (by omega) (by omega) (by omega) (by omega) (by omega) (by omega) (by omega) (by omega) (by omega) (Nat.lt_succ_self _)
      · refine T.go 2 (fun n9 => (rfl : _ = exe ξ n9 (d + 4) j_M_codedBlock 47 [(0, .ref 137), (1, J x), (2, J (257 + z7)), (3, J (1 + z8))] [J 30, J (1 + z8), .ref 137] s8)) ?_
        refine T.icmp_le rfl rfl (by omega) (by omega) (fun c13 => ?_) (fun c13 => ?_)
        · refine T.go 1 (fun n9 => (rfl : _ = exe ξ n9 (d + 4) j_M_codedBlock 55 [(0, .ref 137), (1, J x), (2, J (257 + z7)), (3, J (1 + z8))] [J 0, .ref 137] s8)) ?_
          refine T.mput (c' := c) (io' := io) (mo' := mo) (fa' := fa) (pl' := pl) (ns' := ns) (rw' := rw) (en' := en) (wy' := wy) (wh' := wh) (bi' := bi_5) (ed' := ed) (sz' := sz) (md' := md) (bd' := 0) (li' := li) (wk' := wk) (we' := we) ms8 rfl rfl rfl rfl rfl rfl (by omega) (fun s13 ms13 fs13 => ?_)
          have gs13 := gs8.trans fs13
          refine T.go 1 (fun n9 => (rfl : _ = exe ξ n9 (d + 4) j_M_codedBlock 59 [(0, .ref 137), (1, J x), (2, J (257 + z7)), (3, J (1 + z8))] [.ref 137] s13)) ?_
          refine T.get rfl rfl rfl ms13.ob rfl ?_
          refine T.go 4 (fun n9 => (rfl : _ = exe ξ n9 (d + 4) j_M_codedBlock 68 [(0, .ref 137), (1, J x), (2, J (257 + z7)), (3, J (1 + z8))] [J (1 + z8), J (257 + z7), .ref 137] s13)) ?_
          refine T.callv (as := [J (257 + z7), J (1 + z8)]) (r := []) rfl rfl rfl rfl ms13.ob rfl (s_M_toldCodes d (257 + z7) (1 + z8) s13 ms13 (by omega) (by omega) (by omega) (by omega) (by omega) (by omega) (by omega) (by omega) (by omega) (by omega)) (fun v9 s14 hqs14 => ?_)
          obtain ⟨bi_6, bd_8, lk_2, rfl, ms14, fs14, pz9_0, pz9_1, pz9_2⟩ := hqs14
          have ns14 := ms14.len
          have rs14 := ms14.rg
          have gs14 := gs13.trans fs14
          refine T.go 2 (fun n9 => (rfl : _ = exe ξ n9 (d + 4) j_M_codedBlock 73 [(0, .ref 137), (1, J x), (2, J (257 + z7)), (3, J (1 + z8))] [.ref 137, .ref 137] s14)) ?_
          refine T.get rfl rfl rfl ms14.ob rfl ?_
          refine T.if_ne rfl rfl (by omega) (fun c14 => ?_) (fun c14 => ?_)
          · refine T.go 2 (fun n9 => (rfl : _ = exe ξ n9 (d + 4) j_M_codedBlock 128 [(0, .ref 137), (1, J x), (2, J (257 + z7)), (3, J (1 + z8))] [J 1, .ref 137] s14)) ?_
            refine T.mput (c' := c) (io' := io) (mo' := mo) (fa' := fa) (pl' := pl) (ns' := ns) (rw' := rw) (en' := en) (wy' := wy) (wh' := wh) (bi' := bi_6) (ed' := ed) (sz' := sz) (md' := md) (bd' := 1) (li' := li) (wk' := wk) (we' := we) ms14 rfl rfl rfl rfl rfl rfl (by omega) (fun s15 ms15 fs15 => ?_)
            have gs15 := gs14.trans fs15
            refine T.go 3 (fun n9 => (rfl : _ = exe ξ n9 (d + 4) j_M_codedBlock 141 [(0, .ref 137), (1, J x), (2, J (257 + z7)), (3, J (1 + z8)), (4, J 1)] [] s15)) ?_
            exact loop141 _ (257 + z7) (1 + z8) 1 bi_6 md 1 Lc lk_2 s15 ms15 gs15 RG.refl (by omega) (by omega) (by omega) (by omega) (by omega) (by omega) (by omega) (by omega) (by omega) (by omega) (by omega) (Nat.lt_succ_self _)
          · refine T.go 3 (fun n9 => (rfl : _ = exe ξ n9 (d + 4) j_M_codedBlock 82 [(0, .ref 137), (1, J x), (2, J (257 + z7)), (3, J (1 + z8))] [J (257 + z7), J 0, .ref 137, .ref 137] s14)) ?_
            refine T.callv (as := [J 0, J (257 + z7)]) (r := [.ref 137]) rfl rfl rfl rfl ms14.ob rfl (s_M_isComplete (d + 2) 0 (257 + z7) s14 ms14 (by omega) (by omega) (by omega) (by omega) (by omega)) (fun v10 s16 hqs16 => ?_)
            obtain ⟨z10, rfl, esz10, hzz10, hyz10⟩ := hqs16
            rw [esz10]
            refine T.if_eq rfl rfl (by omega) (fun c15 => ?_) (fun c15 => ?_)
            · refine T.go 2 (fun n9 => (rfl : _ = exe ξ n9 (d + 4) j_M_codedBlock 128 [(0, .ref 137), (1, J x), (2, J (257 + z7)), (3, J (1 + z8))] [J 1, .ref 137] s14)) ?_
              refine T.mput (c' := c) (io' := io) (mo' := mo) (fa' := fa) (pl' := pl) (ns' := ns) (rw' := rw) (en' := en) (wy' := wy) (wh' := wh) (bi' := bi_6) (ed' := ed) (sz' := sz) (md' := md) (bd' := 1) (li' := li) (wk' := wk) (we' := we) ms14 rfl rfl rfl rfl rfl rfl (by omega) (fun s17 ms17 fs17 => ?_)
              have gs17 := gs14.trans fs17
              refine T.go 3 (fun n9 => (rfl : _ = exe ξ n9 (d + 4) j_M_codedBlock 141 [(0, .ref 137), (1, J x), (2, J (257 + z7)), (3, J (1 + z8)), (4, J 1)] [] s17)) ?_
              exact loop141 _ (257 + z7) (1 + z8) 1 bi_6 md 1 Lc lk_2 s17 ms17 gs17 RG.refl (by omega) (by omega) (by omega) (by omega) (by omega) (by omega) (by omega) (by omega) (by omega) (by omega) (by omega) (Nat.lt_succ_self _)
            · refine T.go 1 (fun n9 => (rfl : _ = exe ξ n9 (d + 4) j_M_codedBlock 89 [(0, .ref 137), (1, J x), (2, J (257 + z7)), (3, J (1 + z8))] [.ref 137, .ref 137] s14)) ?_
              refine T.get rfl rfl rfl ms14.ob rfl ?_
              refine T.go 1 (fun n9 => (rfl : _ = exe ξ n9 (d + 4) j_M_codedBlock 95 [(0, .ref 137), (1, J x), (2, J (257 + z7)), (3, J (1 + z8))] [J 256, .ref 144, .ref 137] s14)) ?_
              refine T.iald rfl rfl ms14.c144 (by omega) (fun z11 hzz11 hyz11 hez11 => ?_)
              refine T.if_eq rfl rfl (by omega) (fun c16 => ?_) (fun c16 => ?_)
              · refine T.go 2 (fun n9 => (rfl : _ = exe ξ n9 (d + 4) j_M_codedBlock 128 [(0, .ref 137), (1, J x), (2, J (257 + z7)), (3, J (1 + z8))] [J 1, .ref 137] s14)) ?_
                refine T.mput (c' := c) (io' := io) (mo' := mo) (fa' := fa) (pl' := pl) (ns' := ns) (rw' := rw) (en' := en) (wy' := wy) (wh' := wh) (bi' := bi_6) (ed' := ed) (sz' := sz) (md' := md) (bd' := 1) (li' := li) (wk' := wk) (we' := we) ms14 rfl rfl rfl rfl rfl rfl (by omega) (fun s18 ms18 fs18 => ?_)
                have gs18 := gs14.trans fs18
                refine T.go 3 (fun n9 => (rfl : _ = exe ξ n9 (d + 4) j_M_codedBlock 141 [(0, .ref 137), (1, J x), (2, J (257 + z7)), (3, J (1 + z8)), (4, J 1)] [] s18)) ?_
                exact loop141 _ (257 + z7) (1 + z8) 1 bi_6 md 1 Lc lk_2 s18 ms18 gs18 RG.refl (by omega) (by omega) (by omega) (by omega) (by omega) (by omega) (by omega) (by omega) (by omega) (by omega) (by omega) (Nat.lt_succ_self _)
              · refine T.go 3 (fun n9 => (rfl : _ = exe ξ n9 (d + 4) j_M_codedBlock 104 [(0, .ref 137), (1, J x), (2, J (257 + z7)), (3, J (1 + z8))] [J (1 + z8), J 300, .ref 137, .ref 137] s14)) ?_
                refine T.callv (as := [J 300, J (1 + z8)]) (r := [.ref 137]) rfl rfl rfl rfl ms14.ob rfl (s_M_isComplete (d + 2) 300 (1 + z8) s14 ms14 (by omega) (by omega) (by omega) (by omega) (by omega)) (fun v11 s19 hqs19 => ?_)
                obtain ⟨z12, rfl, esz12, hzz12, hyz12⟩ := hqs19
                rw [esz12]
                refine T.if_ne rfl rfl (by omega) (fun c17 => ?_) (fun c17 => ?_)
                · refine T.go 1 (fun n9 => (rfl : _ = exe ξ n9 (d + 4) j_M_codedBlock 128 [(0, .ref 137), (1, J x), (2, J (257 + z7)), (3, J (1 + z8))] [J 0, .ref 137] s14)) ?_
                  refine T.mput (c' := c) (io' := io) (mo' := mo) (fa' := fa) (pl' := pl) (ns' := ns) (rw' := rw) (en' := en) (wy' := wy) (wh' := wh) (bi' := bi_6) (ed' := ed) (sz' := sz) (md' := md) (bd' := 0) (li' := li) (wk' := wk) (we' := we) ms14 rfl rfl rfl rfl rfl rfl (by omega) (fun s20 ms20 fs20 => ?_)
                  have gs20 := gs14.trans fs20
                  refine T.go 3 (fun n9 => (rfl : _ = exe ξ n9 (d + 4) j_M_codedBlock 141 [(0, .ref 137), (1, J x), (2, J (257 + z7)), (3, J (1 + z8)), (4, J 1)] [] s20)) ?_
                  exact loop141 _ (257 + z7) (1 + z8) 1 bi_6 md 0 Lc lk_2 s20 ms20 gs20 RG.refl (by omega) (by omega) (by omega) (by omega) (by omega) (by omega) (by omega) (by omega) (by omega) (by omega) (by omega) (Nat.lt_succ_self _)
                · refine T.go 4 (fun n9 => (rfl : _ = exe ξ n9 (d + 4) j_M_codedBlock 116 [(0, .ref 137), (1, J x), (2, J (257 + z7)), (3, J (1 + z8))] [J 0, J (1 + z8), J 300, .ref 137, .ref 137] s14)) ?_
                  refine T.callv (as := [J 300, J (1 + z8), J 0]) (r := [.ref 137]) rfl rfl rfl rfl ms14.ob rfl (s_M_many (d + 3) 300 (1 + z8) 0 s14 ms14 (by omega) (by omega) (by omega) (by omega) (by omega) (by omega)) (fun v12 s21 hqs21 => ?_)
                  obtain ⟨z13, rfl, esz13, hzz13, hyz13, pz13_0⟩ := hqs21
                  rw [esz13]
                  refine T.go 1 (fun n9 => (rfl : _ = exe ξ n9 (d + 4) j_M_codedBlock 120 [(0, .ref 137), (1, J x), (2, J (257 + z7)), (3, J (1 + z8))] [J (1 + z8), J z13, .ref 137] s14)) ?_
                  refine T.icmp_ge rfl rfl (by omega) (by omega) (fun c18 => ?_) (fun c18 => ?_)
                  · refine T.go 1 (fun n9 => (rfl : _ = exe ξ n9 (d + 4) j_M_codedBlock 128 [(0, .ref 137), (1, J x), (2, J (257 + z7)), (3, J (1 + z8))] [J 0, .ref 137] s14)) ?_
                    refine T.mput (c' := c) (io' := io) (mo' := mo) (fa' := fa) (pl' := pl) (ns' := ns) (rw' := rw) (en' := en) (wy' := wy) (wh' := wh) (bi' := bi_6) (ed' := ed) (sz' := sz) (md' := md) (bd' := 0) (li' := li) (wk' := wk) (we' := we) ms14 rfl rfl rfl rfl rfl rfl (by omega) (fun s22 ms22 fs22 => ?_)
                    have gs22 := gs14.trans fs22
                    refine T.go 3 (fun n9 => (rfl : _ = exe ξ n9 (d + 4) j_M_codedBlock 141 [(0, .ref 137), (1, J x), (2, J (257 + z7)), (3, J (1 + z8)), (4, J 1)] [] s22)) ?_
                    exact loop141 _ (257 + z7) (1 + z8) 1 bi_6 md 0 Lc lk_2 s22 ms22 gs22 RG.refl (by omega) (by omega) (by omega) (by omega) (by omega) (by omega) (by omega) (by omega) (by omega) (by omega) (by omega) (Nat.lt_succ_self _)
                  · refine T.go 2 (fun n9 => (rfl : _ = exe ξ n9 (d + 4) j_M_codedBlock 128 [(0, .ref 137), (1, J x), (2, J (257 + z7)), (3, J (1 + z8))] [J 1, .ref 137] s14)) ?_
                    refine T.mput (c' := c) (io' := io) (mo' := mo) (fa' := fa) (pl' := pl) (ns' := ns) (rw' := rw) (en' := en) (wy' := wy) (wh' := wh) (bi' := bi_6) (ed' := ed) (sz' := sz) (md' := md) (bd' := 1) (li' := li) (wk' := wk) (we' := we) ms14 rfl rfl rfl rfl rfl rfl (by omega) (fun s23 ms23 fs23 => ?_)
                    have gs23 := gs14.trans fs23
                    refine T.go 3 (fun n9 => (rfl : _ = exe ξ n9 (d + 4) j_M_codedBlock 141 [(0, .ref 137), (1, J x), (2, J (257 + z7)), (3, J (1 + z8)), (4, J 1)] [] s23)) ?_
                    exact loop141 _ (257 + z7) (1 + z8) 1 bi_6 md 1 Lc lk_2 s23 ms23 gs23 RG.refl (by omega) (by omega) (by omega) (by omega) (by omega) (by omega) (by omega) (by omega) (by omega) (by omega) (by omega) (Nat.lt_succ_self _)
        · refine T.go 2 (fun n9 => (rfl : _ = exe ξ n9 (d + 4) j_M_codedBlock 55 [(0, .ref 137), (1, J x), (2, J (257 + z7)), (3, J (1 + z8))] [J 1, .ref 137] s8)) ?_
          refine T.mput (c' := c) (io' := io) (mo' := mo) (fa' := fa) (pl' := pl) (ns' := ns) (rw' := rw) (en' := en) (wy' := wy) (wh' := wh) (bi' := bi_5) (ed' := ed) (sz' := sz) (md' := md) (bd' := 1) (li' := li) (wk' := wk) (we' := we) ms8 rfl rfl rfl rfl rfl rfl (by omega) (fun s24 ms24 fs24 => ?_)
          have gs24 := gs8.trans fs24
          refine T.go 1 (fun n9 => (rfl : _ = exe ξ n9 (d + 4) j_M_codedBlock 59 [(0, .ref 137), (1, J x), (2, J (257 + z7)), (3, J (1 + z8))] [.ref 137] s24)) ?_
          refine T.get rfl rfl rfl ms24.ob rfl ?_
          refine T.go 3 (fun n9 => (rfl : _ = exe ξ n9 (d + 4) j_M_codedBlock 73 [(0, .ref 137), (1, J x), (2, J (257 + z7)), (3, J (1 + z8))] [.ref 137, .ref 137] s24)) ?_
          refine T.get rfl rfl rfl ms24.ob rfl ?_
          refine T.go 3 (fun n9 => (rfl : _ = exe ξ n9 (d + 4) j_M_codedBlock 128 [(0, .ref 137), (1, J x), (2, J (257 + z7)), (3, J (1 + z8))] [J 1, .ref 137] s24)) ?_
          refine T.mput (c' := c) (io' := io) (mo' := mo) (fa' := fa) (pl' := pl) (ns' := ns) (rw' := rw) (en' := en) (wy' := wy) (wh' := wh) (bi' := bi_5) (ed' := ed) (sz' := sz) (md' := md) (bd' := 1) (li' := li) (wk' := wk) (we' := we) ms24 rfl rfl rfl rfl rfl rfl (by omega) (fun s25 ms25 fs25 => ?_)
          have gs25 := gs24.trans fs25
          refine T.go 3 (fun n9 => (rfl : _ = exe ξ n9 (d + 4) j_M_codedBlock 141 [(0, .ref 137), (1, J x), (2, J (257 + z7)), (3, J (1 + z8)), (4, J 1)] [] s25)) ?_
          exact loop141 _ (257 + z7) (1 + z8) 1 bi_5 md 1 Lc lk s25 ms25 gs25 RG.refl (by omega) (by omega) (by omega) (by omega) (by omega) (by omega) (by omega) (by omega) (by omega) (by omega) (by omega) (Nat.lt_succ_self _)

set_option maxHeartbeats 4000000 in
theorem s_M_inflate {ξ : Nat → Option (Nat × List Int32)} {c io mo fa pl ns rw en wy wh bi ed sz md bd li wk we : Int} {Lc : List Int64} {la lm ln lh ld lk lt : List Int32} (d : Nat)  (σ : qH) (hM : MS σ c io mo fa pl ns rw en wy wh bi ed sz md bd li wk we Lc la lm ln lh ld lk lt) (pre0 : 0 ≤ bi) (pre1 : bi ≤ ed) (pre2 : ed ≤ 64000) (pre3 : ed % 8 = 0) (pre4 : 0 ≤ md) (pre5 : md ≤ sz) (pre6 : sz ≤ 8000) : T ξ (d + 5) j_M_inflate 0 (lv_args 0 [.ref 137]) [] σ (fun v σ' => ∃ (bi1 : Int) (md1 : Int) (bd1 : Int) (Lc1 : List Int64) (lk1 : List Int32), v = none ∧ MS σ' c io mo fa pl ns rw en wy wh bi1 ed sz md1 bd1 li wk we Lc1 la lm ln lh ld lk1 lt ∧ FM σ σ' ∧ RG [4] Lc Lc1 ∧ md ≤ md1 ∧ md1 ≤ sz) := by
  have r0 := hM.rg
  have n0 := hM.len
  have e2_1 : P2 1 = 2 := by decide
  have e2_2 : P2 2 = 4 := by decide
  have loop2 : ∀ (f2 : Nat) (m1 : Int) (bi9 : Int) (md9 : Int) (bd9 : Int) (Lc9 : List Int64) (lk9 : List Int32) (τ : qH), MS τ c io mo fa pl ns rw en wy wh bi9 ed sz md9 bd9 li wk we Lc9 la lm ln lh ld lk9 lt → FM σ τ → RG [4] Lc Lc9 → bi ≤ bi9 → bi9 ≤ ed → bd ≤ bd9 → md ≤ md9 → md9 ≤ sz → 0 ≤ m1 → m1 ≤ 1 → (ed - bi9 + 1 - bd9).toNat < f2 → T ξ (d + 5) j_M_inflate 2 [(0, .ref 137), (1, J m1)] [] τ (fun v σ' => ∃ (bi1 : Int) (md1 : Int) (bd1 : Int) (Lc1 : List Int64) (lk1 : List Int32), v = none ∧ MS σ' c io mo fa pl ns rw en wy wh bi1 ed sz md1 bd1 li wk we Lc1 la lm ln lh ld lk1 lt ∧ FM σ σ' ∧ RG [4] Lc Lc1 ∧ md ≤ md1 ∧ md1 ≤ sz) := by
    intro f2
    induction f2 with
    | zero => intro m1 bi9 md9 bd9 Lc9 lk9 τ mτ fτ gτ i0 i1 i2 i3 i4 i5 i6 hm2; omega
    | succ f2 ih2 =>
      intro m1 bi9 md9 bd9 Lc9 lk9 τ mτ fτ gτ i0 i1 i2 i3 i4 i5 i6 hm2
      have rτ := mτ.rg
      have nτ := mτ.len
      refine T.go 1 (fun n9 => (rfl : _ = exe ξ n9 (d + 5) j_M_inflate 3 [(0, .ref 137), (1, J m1)] [J m1] τ)) ?_
      refine T.if_eq rfl rfl (by omega) (fun c1 => ?_) (fun c1 => ?_)
      · refine T.go 2 (fun n9 => (rfl : _ = exe ξ n9 (d + 5) j_M_inflate 94 [(0, .ref 137), (1, J m1)] [.ref 137, .ref 137] τ)) ?_
        refine T.get rfl rfl rfl mτ.ob rfl ?_
        refine T.if_ne rfl rfl (by omega) (fun c2 => ?_) (fun c2 => ?_)
        · refine T.go 2 (fun n9 => (rfl : _ = exe ξ n9 (d + 5) j_M_inflate 130 [(0, .ref 137), (1, J m1)] [J 1, .ref 137] τ)) ?_
          refine T.mput (c' := c) (io' := io) (mo' := mo) (fa' := fa) (pl' := pl) (ns' := ns) (rw' := rw) (en' := en) (wy' := wy) (wh' := wh) (bi' := bi9) (ed' := ed) (sz' := sz) (md' := md9) (bd' := 1) (li' := li) (wk' := wk) (we' := we) mτ rfl rfl rfl rfl rfl rfl (by omega) (fun s1 ms1 fs1 => ?_)
          have gs1 := fτ.trans fs1
          exact T.vret rfl rfl ⟨bi9, md9, 1, Lc9, lk9, rfl, ms1, gs1, gτ, by omega, by omega⟩
        · refine T.go 1 (fun n9 => (rfl : _ = exe ξ n9 (d + 5) j_M_inflate 101 [(0, .ref 137), (1, J m1)] [.ref 137, .ref 137] τ)) ?_
          refine T.get rfl rfl rfl mτ.ob rfl ?_
          refine T.go 1 (fun n9 => (rfl : _ = exe ξ n9 (d + 5) j_M_inflate 105 [(0, .ref 137), (1, J m1)] [.ref 137, J md9, .ref 137] τ)) ?_
          refine T.get rfl rfl rfl mτ.ob rfl ?_
          refine T.icmp_ne rfl rfl (by omega) (by omega) (fun c3 => ?_) (fun c3 => ?_)
          · refine T.go 2 (fun n9 => (rfl : _ = exe ξ n9 (d + 5) j_M_inflate 130 [(0, .ref 137), (1, J m1)] [J 1, .ref 137] τ)) ?_
            refine T.mput (c' := c) (io' := io) (mo' := mo) (fa' := fa) (pl' := pl) (ns' := ns) (rw' := rw) (en' := en) (wy' := wy) (wh' := wh) (bi' := bi9) (ed' := ed) (sz' := sz) (md' := md9) (bd' := 1) (li' := li) (wk' := wk) (we' := we) mτ rfl rfl rfl rfl rfl rfl (by omega) (fun s2 ms2 fs2 => ?_)
            have gs2 := fτ.trans fs2
            exact T.vret rfl rfl ⟨bi9, md9, 1, Lc9, lk9, rfl, ms2, gs2, gτ, by omega, by omega⟩
          · refine T.go 1 (fun n9 => (rfl : _ = exe ξ n9 (d + 5) j_M_inflate 112 [(0, .ref 137), (1, J m1)] [.ref 137, .ref 137] τ)) ?_
            refine T.get rfl rfl rfl mτ.ob rfl ?_
            refine T.go 1 (fun n9 => (rfl : _ = exe ξ n9 (d + 5) j_M_inflate 116 [(0, .ref 137), (1, J m1)] [.ref 137, J ed, .ref 137] τ)) ?_
            refine T.get rfl rfl rfl mτ.ob rfl ?_
            refine T.isub rfl ?_
            refine T.go 1 (fun n9 => (rfl : _ = exe ξ n9 (d + 5) j_M_inflate 122 [(0, .ref 137), (1, J m1)] [J 7, J (ed - bi9), .ref 137] τ)) ?_
            refine T.icmp_le rfl rfl (by omega) (by omega) (fun c4 => ?_) (fun c4 => ?_)
            · refine T.go 1 (fun n9 => (rfl : _ = exe ξ n9 (d + 5) j_M_inflate 130 [(0, .ref 137), (1, J m1)] [J 0, .ref 137] τ)) ?_
              refine T.mput (c' := c) (io' := io) (mo' := mo) (fa' := fa) (pl' := pl) (ns' := ns) (rw' := rw) (en' := en) (wy' := wy) (wh' := wh) (bi' := bi9) (ed' := ed) (sz' := sz) (md' := md9) (bd' := 0) (li' := li) (wk' := wk) (we' := we) mτ rfl rfl rfl rfl rfl rfl (by omega) (fun s3 ms3 fs3 => ?_)
              have gs3 := fτ.trans fs3
              exact T.vret rfl rfl ⟨bi9, md9, 0, Lc9, lk9, rfl, ms3, gs3, gτ, by omega, by omega⟩
            · refine T.go 2 (fun n9 => (rfl : _ = exe ξ n9 (d + 5) j_M_inflate 130 [(0, .ref 137), (1, J m1)] [J 1, .ref 137] τ)) ?_
              refine T.mput (c' := c) (io' := io) (mo' := mo) (fa' := fa) (pl' := pl) (ns' := ns) (rw' := rw) (en' := en) (wy' := wy) (wh' := wh) (bi' := bi9) (ed' := ed) (sz' := sz) (md' := md9) (bd' := 1) (li' := li) (wk' := wk) (we' := we) mτ rfl rfl rfl rfl rfl rfl (by omega) (fun s4 ms4 fs4 => ?_)
              have gs4 := fτ.trans fs4
              exact T.vret rfl rfl ⟨bi9, md9, 1, Lc9, lk9, rfl, ms4, gs4, gτ, by omega, by omega⟩
      · refine T.go 1 (fun n9 => (rfl : _ = exe ξ n9 (d + 5) j_M_inflate 7 [(0, .ref 137), (1, J m1)] [.ref 137] τ)) ?_
        refine T.get rfl rfl rfl mτ.ob rfl ?_
        refine T.if_ne rfl rfl (by omega) (fun c5 => ?_) (fun c5 => ?_)
        · refine T.go 2 (fun n9 => (rfl : _ = exe ξ n9 (d + 5) j_M_inflate 94 [(0, .ref 137), (1, J m1)] [.ref 137, .ref 137] τ)) ?_
          refine T.get rfl rfl rfl mτ.ob rfl ?_
          refine T.if_ne rfl rfl (by omega) (fun c6 => ?_) (fun c6 => ?_)
          · refine T.go 2 (fun n9 => (rfl : _ = exe ξ n9 (d + 5) j_M_inflate 130 [(0, .ref 137), (1, J m1)] [J 1, .ref 137] τ)) ?_
            refine T.mput (c' := c) (io' := io) (mo' := mo) (fa' := fa) (pl' := pl) (ns' := ns) (rw' := rw) (en' := en) (wy' := wy) (wh' := wh) (bi' := bi9) (ed' := ed) (sz' := sz) (md' := md9) (bd' := 1) (li' := li) (wk' := wk) (we' := we) mτ rfl rfl rfl rfl rfl rfl (by omega) (fun s5 ms5 fs5 => ?_)
            have gs5 := fτ.trans fs5
            exact T.vret rfl rfl ⟨bi9, md9, 1, Lc9, lk9, rfl, ms5, gs5, gτ, by omega, by omega⟩
          · refine T.go 1 (fun n9 => (rfl : _ = exe ξ n9 (d + 5) j_M_inflate 101 [(0, .ref 137), (1, J m1)] [.ref 137, .ref 137] τ)) ?_
            refine T.get rfl rfl rfl mτ.ob rfl ?_
            refine T.go 1 (fun n9 => (rfl : _ = exe ξ n9 (d + 5) j_M_inflate 105 [(0, .ref 137), (1, J m1)] [.ref 137, J md9, .ref 137] τ)) ?_
            refine T.get rfl rfl rfl mτ.ob rfl ?_
            refine T.icmp_ne rfl rfl (by omega) (by omega) (fun c7 => ?_) (fun c7 => ?_)
            · refine T.go 2 (fun n9 => (rfl : _ = exe ξ n9 (d + 5) j_M_inflate 130 [(0, .ref 137), (1, J m1)] [J 1, .ref 137] τ)) ?_
              refine T.mput (c' := c) (io' := io) (mo' := mo) (fa' := fa) (pl' := pl) (ns' := ns) (rw' := rw) (en' := en) (wy' := wy) (wh' := wh) (bi' := bi9) (ed' := ed) (sz' := sz) (md' := md9) (bd' := 1) (li' := li) (wk' := wk) (we' := we) mτ rfl rfl rfl rfl rfl rfl (by omega) (fun s6 ms6 fs6 => ?_)
              have gs6 := fτ.trans fs6
              exact T.vret rfl rfl ⟨bi9, md9, 1, Lc9, lk9, rfl, ms6, gs6, gτ, by omega, by omega⟩
            · refine T.go 1 (fun n9 => (rfl : _ = exe ξ n9 (d + 5) j_M_inflate 112 [(0, .ref 137), (1, J m1)] [.ref 137, .ref 137] τ)) ?_
              refine T.get rfl rfl rfl mτ.ob rfl ?_
              refine T.go 1 (fun n9 => (rfl : _ = exe ξ n9 (d + 5) j_M_inflate 116 [(0, .ref 137), (1, J m1)] [.ref 137, J ed, .ref 137] τ)) ?_
              refine T.get rfl rfl rfl mτ.ob rfl ?_
              refine T.isub rfl ?_
              refine T.go 1 (fun n9 => (rfl : _ = exe ξ n9 (d + 5) j_M_inflate 122 [(0, .ref 137), (1, J m1)] [J 7, J (ed - bi9), .ref 137] τ)) ?_
              refine T.icmp_le rfl rfl (by omega) (by omega) (fun c8 => ?_) (fun c8 => ?_)
              · refine T.go 1 (fun n9 => (rfl : _ = exe ξ n9 (d + 5) j_M_inflate 130 [(0, .ref 137), (1, J m1)] [J 0, .ref 137] τ)) ?_
                refine T.mput (c' := c) (io' := io) (mo' := mo) (fa' := fa) (pl' := pl) (ns' := ns) (rw' := rw) (en' := en) (wy' := wy) (wh' := wh) (bi' := bi9) (ed' := ed) (sz' := sz) (md' := md9) (bd' := 0) (li' := li) (wk' := wk) (we' := we) mτ rfl rfl rfl rfl rfl rfl (by omega) (fun s7 ms7 fs7 => ?_)
                have gs7 := fτ.trans fs7
                exact T.vret rfl rfl ⟨bi9, md9, 0, Lc9, lk9, rfl, ms7, gs7, gτ, by omega, by omega⟩
              · refine T.go 2 (fun n9 => (rfl : _ = exe ξ n9 (d + 5) j_M_inflate 130 [(0, .ref 137), (1, J m1)] [J 1, .ref 137] τ)) ?_
                refine T.mput (c' := c) (io' := io) (mo' := mo) (fa' := fa) (pl' := pl) (ns' := ns) (rw' := rw) (en' := en) (wy' := wy) (wh' := wh) (bi' := bi9) (ed' := ed) (sz' := sz) (md' := md9) (bd' := 1) (li' := li) (wk' := wk) (we' := we) mτ rfl rfl rfl rfl rfl rfl (by omega) (fun s8 ms8 fs8 => ?_)
                have gs8 := fτ.trans fs8
                exact T.vret rfl rfl ⟨bi9, md9, 1, Lc9, lk9, rfl, ms8, gs8, gτ, by omega, by omega⟩
        · refine T.go 2 (fun n9 => (rfl : _ = exe ξ n9 (d + 5) j_M_inflate 15 [(0, .ref 137), (1, J m1)] [J 1, .ref 137] τ)) ?_
          refine T.callv (as := [J 1]) (r := []) rfl rfl rfl rfl mτ.ob rfl (s_M_take (d + 3) 1 τ mτ (by omega) (by omega) (by omega) (by omega) (by omega) (by omega) (by omega)) (fun v1 s9 hqs9 => ?_)
          obtain ⟨z1, bi_1, bd_1, rfl, ms9, fs9, hzz1, hyz1, pz1_0, pz1_1, pz1_2, pz1_3, pz1_4⟩ := hqs9
          have ns9 := ms9.len
          have rs9 := ms9.rg
          have gs9 := fτ.trans fs9
          refine T.if_ne rfl rfl (by omega) (fun c9 => ?_) (fun c9 => ?_)
          · refine T.go 4 (fun n9 => (rfl : _ = exe ξ n9 (d + 5) j_M_inflate 29 [(0, .ref 137), (1, J 0)] [J 2, .ref 137] s9)) ?_
            refine T.callv (as := [J 2]) (r := []) rfl rfl rfl rfl ms9.ob rfl (s_M_take (d + 3) 2 s9 ms9 (by omega) (by omega) (by omega) (by omega) (by omega) (by omega) (by omega)) (fun v2 s10 hqs10 => ?_)
            obtain ⟨z2, bi_2, bd_2, rfl, ms10, fs10, hzz2, hyz2, pz2_0, pz2_1, pz2_2, pz2_3, pz2_4⟩ := hqs10
            have ns10 := ms10.len
            have rs10 := ms10.rg
            have gs10 := gs9.trans fs10
            refine T.go 3 (fun n9 => (rfl : _ = exe ξ n9 (d + 5) j_M_inflate 35 [(0, .ref 137), (1, J 0), (2, J z2)] [.ref 137, .ref 137] s10)) ?_
            refine T.get rfl rfl rfl ms10.ob rfl ?_
            refine T.if_ne rfl rfl (by omega) (fun c10 => ?_) (fun c10 => ?_)
            · refine T.go 2 (fun n9 => (rfl : _ = exe ξ n9 (d + 5) j_M_inflate 51 [(0, .ref 137), (1, J 0), (2, J z2)] [J 1, .ref 137] s10)) ?_
              refine T.mput (c' := c) (io' := io) (mo' := mo) (fa' := fa) (pl' := pl) (ns' := ns) (rw' := rw) (en' := en) (wy' := wy) (wh' := wh) (bi' := bi_2) (ed' := ed) (sz' := sz) (md' := md9) (bd' := 1) (li' := li) (wk' := wk) (we' := we) ms10 rfl rfl rfl rfl rfl rfl (by omega) (fun s11 ms11 fs11 => ?_)
              have gs11 := gs10.trans fs11
              refine T.go 1 (fun n9 => (rfl : _ = exe ξ n9 (d + 5) j_M_inflate 55 [(0, .ref 137), (1, J 0), (2, J z2)] [.ref 137] s11)) ?_
              refine T.get rfl rfl rfl ms11.ob rfl ?_
              refine T.go 2 (fun n9 => (rfl : _ = exe ξ n9 (d + 5) j_M_inflate 2 [(0, .ref 137), (1, J 0), (2, J z2)] [] s11)) ?_
              refine T.drop (lv := [(0, .ref 137), (1, J 0)]) [(2, J z2)] (by simp) ?_
              exact ih2  0 bi_2 md9 1 Lc9 lk9 s11 ms11 gs11 gτ (by omega) (by omega) (by omega) (by omega) (by omega) (by omega) (by omega) (by omega)
            · refine T.go 2 (fun n9 => (rfl : _ = exe ξ n9 (d + 5) j_M_inflate 43 [(0, .ref 137), (1, J 0), (2, J z2)] [J 3, J z2, .ref 137] s10)) ?_
              refine T.icmp_ne rfl rfl (by omega) (by omega) (fun c11 => ?_) (fun c11 => ?_)
              · refine T.go 1 (fun n9 => (rfl : _ = exe ξ n9 (d + 5) j_M_inflate 51 [(0, .ref 137), (1, J 0), (2, J z2)] [J 0, .ref 137] s10)) ?_
                refine T.mput (c' := c) (io' := io) (mo' := mo) (fa' := fa) (pl' := pl) (ns' := ns) (rw' := rw) (en' := en) (wy' := wy) (wh' := wh) (bi' := bi_2) (ed' := ed) (sz' := sz) (md' := md9) (bd' := 0) (li' := li) (wk' := wk) (we' := we) ms10 rfl rfl rfl rfl rfl rfl (by omega) (fun s12 ms12 fs12 => ?_)
                have gs12 := gs10.trans fs12
                refine T.go 1 (fun n9 => (rfl : _ = exe ξ n9 (d + 5) j_M_inflate 55 [(0, .ref 137), (1, J 0), (2, J z2)] [.ref 137] s12)) ?_
                refine T.get rfl rfl rfl ms12.ob rfl ?_
                refine T.go 2 (fun n9 => (rfl : _ = exe ξ n9 (d + 5) j_M_inflate 65 [(0, .ref 137), (1, J 0), (2, J z2)] [J z2] s12)) ?_
                refine T.if_ne rfl rfl (by omega) (fun c12 => ?_) (fun c12 => ?_)
                · refine T.go 3 (fun n9 => (rfl : _ = exe ξ n9 (d + 5) j_M_inflate 78 [(0, .ref 137), (1, J 0), (2, J z2)] [J 2, J z2, .ref 137] s12)) ?_
                  refine T.icmp_ne rfl rfl (by omega) (by omega) (fun c13 => ?_) (fun c13 => ?_)
                  · refine T.go 1 (fun n9 => (rfl : _ = exe ξ n9 (d + 5) j_M_inflate 86 [(0, .ref 137), (1, J 0), (2, J z2)] [J 0, .ref 137] s12)) ?_
                    refine T.callv (as := [J 0]) (r := []) rfl rfl rfl rfl ms12.ob rfl (s_M_codedBlock d 0 s12 ms12 (by omega) (by omega) (by omega) (by omega) (by omega) (by omega) (by omega) (by omega) (by omega) (by omega)) (fun v3 s13 hqs13 => ?_)
                    obtain ⟨bi_3, md_1, bd_3, Lc_1, lk_1, rfl, ms13, fs13, pz3_0, pz3_1, pz3_2, pz3_3, pz3_4, pz3_5⟩ := hqs13
                    have ns13 := ms13.len
                    have rs13 := ms13.rg
                    have gs13 := gs12.trans fs13
                    have rgs13 := gτ.trans pz3_0 (by decide)
                    refine T.go 1 (fun n9 => (rfl : _ = exe ξ n9 (d + 5) j_M_inflate 2 [(0, .ref 137), (1, J 0), (2, J z2)] [] s13)) ?_
                    refine T.drop (lv := [(0, .ref 137), (1, J 0)]) [(2, J z2)] (by simp) ?_
                    exact ih2  0 bi_3 md_1 bd_3 Lc_1 lk_1 s13 ms13 gs13 rgs13 (by omega) (by omega) (by omega) (by omega) (by omega) (by omega) (by omega) (by omega)
                  · refine T.go 2 (fun n9 => (rfl : _ = exe ξ n9 (d + 5) j_M_inflate 86 [(0, .ref 137), (1, J 0), (2, J z2)] [J 1, .ref 137] s12)) ?_
                    refine T.callv (as := [J 1]) (r := []) rfl rfl rfl rfl ms12.ob rfl (s_M_codedBlock d 1 s12 ms12 (by omega) (by omega) (by omega) (by omega) (by omega) (by omega) (by omega) (by omega) (by omega) (by omega)) (fun v4 s14 hqs14 => ?_)
                    obtain ⟨bi_4, md_2, bd_4, Lc_2, lk_2, rfl, ms14, fs14, pz4_0, pz4_1, pz4_2, pz4_3, pz4_4, pz4_5⟩ := hqs14
                    have ns14 := ms14.len
                    have rs14 := ms14.rg
                    have gs14 := gs12.trans fs14
                    have rgs14 := gτ.trans pz4_0 (by decide)
                    refine T.go 1 (fun n9 => (rfl : _ = exe ξ n9 (d + 5) j_M_inflate 2 [(0, .ref 137), (1, J 0), (2, J z2)] [] s14)) ?_
                    refine T.drop (lv := [(0, .ref 137), (1, J 0)]) [(2, J z2)] (by simp) ?_
                    exact ih2  0 bi_4 md_2 bd_4 Lc_2 lk_2 s14 ms14 gs14 rgs14 (by omega) (by omega) (by omega) (by omega) (by omega) (by omega) (by omega) (by omega)
                · refine T.go 1 (fun n9 => (rfl : _ = exe ξ n9 (d + 5) j_M_inflate 69 [(0, .ref 137), (1, J 0), (2, J z2)] [.ref 137] s12)) ?_
                  refine T.callv (as := []) (r := []) rfl rfl rfl rfl ms12.ob rfl (s_M_plainBlock (d + 2)  s12 ms12 (by omega) (by omega) (by omega) (by omega) (by omega) (by omega) (by omega)) (fun v5 s15 hqs15 => ?_)
                  obtain ⟨bi_5, md_3, bd_5, Lc_3, rfl, ms15, fs15, pz5_0, pz5_1, pz5_2, pz5_3, pz5_4, pz5_5⟩ := hqs15
                  have ns15 := ms15.len
                  have rs15 := ms15.rg
                  have gs15 := gs12.trans fs15
                  have rgs15 := gτ.trans pz5_0 (by decide)
                  refine T.go 2 (fun n9 => (rfl : _ = exe ξ n9 (d + 5) j_M_inflate 2 [(0, .ref 137), (1, J 0), (2, J z2)] [] s15)) ?_
                  refine T.drop (lv := [(0, .ref 137), (1, J 0)]) [(2, J z2)] (by simp) ?_
                  exact ih2  0 bi_5 md_3 bd_5 Lc_3 lk9 s15 ms15 gs15 rgs15 (by omega) (by omega) (by omega) (by omega) (by omega) (by omega) (by omega) (by omega)
              · refine T.go 2 (fun n9 => (rfl : _ = exe ξ n9 (d + 5) j_M_inflate 51 [(0, .ref 137), (1, J 0), (2, J z2)] [J 1, .ref 137] s10)) ?_
                refine T.mput (c' := c) (io' := io) (mo' := mo) (fa' := fa) (pl' := pl) (ns' := ns) (rw' := rw) (en' := en) (wy' := wy) (wh' := wh) (bi' := bi_2) (ed' := ed) (sz' := sz) (md' := md9) (bd' := 1) (li' := li) (wk' := wk) (we' := we) ms10 rfl rfl rfl rfl rfl rfl (by omega) (fun s16 ms16 fs16 => ?_)
                have gs16 := gs10.trans fs16
                refine T.go 1 (fun n9 => (rfl : _ = exe ξ n9 (d + 5) j_M_inflate 55 [(0, .ref 137), (1, J 0), (2, J z2)] [.ref 137] s16)) ?_
                refine T.get rfl rfl rfl ms16.ob rfl ?_
                refine T.go 2 (fun n9 => (rfl : _ = exe ξ n9 (d + 5) j_M_inflate 2 [(0, .ref 137), (1, J 0), (2, J z2)] [] s16)) ?_
                refine T.drop (lv := [(0, .ref 137), (1, J 0)]) [(2, J z2)] (by simp) ?_
                exact ih2  0 bi_2 md9 1 Lc9 lk9 s16 ms16 gs16 gτ (by omega) (by omega) (by omega) (by omega) (by omega) (by omega) (by omega) (by omega)
          · refine T.go 5 (fun n9 => (rfl : _ = exe ξ n9 (d + 5) j_M_inflate 29 [(0, .ref 137), (1, J 1)] [J 2, .ref 137] s9)) ?_
            refine T.callv (as := [J 2]) (r := []) rfl rfl rfl rfl ms9.ob rfl (s_M_take (d + 3) 2 s9 ms9 (by omega) (by omega) (by omega) (by omega) (by omega) (by omega) (by omega)) (fun v6 s17 hqs17 => ?_)
            obtain ⟨z6, bi_6, bd_6, rfl, ms17, fs17, hzz6, hyz6, pz6_0, pz6_1, pz6_2, pz6_3, pz6_4⟩ := hqs17
            have ns17 := ms17.len
            have rs17 := ms17.rg
            have gs17 := gs9.trans fs17
            refine T.go 3 (fun n9 => (rfl : _ = exe ξ n9 (d + 5) j_M_inflate 35 [(0, .ref 137), (1, J 1), (2, J z6)] [.ref 137, .ref 137] s17)) ?_
            refine T.get rfl rfl rfl ms17.ob rfl ?_
            refine T.if_ne rfl rfl (by omega) (fun c14 => ?_) (fun c14 => ?_)
            · refine T.go 2 (fun n9 => (rfl : _ = exe ξ n9 (d + 5) j_M_inflate 51 [(0, .ref 137), (1, J 1), (2, J z6)] [J 1, .ref 137] s17)) ?_
              refine T.mput (c' := c) (io' := io) (mo' := mo) (fa' := fa) (pl' := pl) (ns' := ns) (rw' := rw) (en' := en) (wy' := wy) (wh' := wh) (bi' := bi_6) (ed' := ed) (sz' := sz) (md' := md9) (bd' := 1) (li' := li) (wk' := wk) (we' := we) ms17 rfl rfl rfl rfl rfl rfl (by omega) (fun s18 ms18 fs18 => ?_)
              have gs18 := gs17.trans fs18
              refine T.go 1 (fun n9 => (rfl : _ = exe ξ n9 (d + 5) j_M_inflate 55 [(0, .ref 137), (1, J 1), (2, J z6)] [.ref 137] s18)) ?_
              refine T.get rfl rfl rfl ms18.ob rfl ?_
              refine T.go 2 (fun n9 => (rfl : _ = exe ξ n9 (d + 5) j_M_inflate 2 [(0, .ref 137), (1, J 1), (2, J z6)] [] s18)) ?_
              refine T.drop (lv := [(0, .ref 137), (1, J 1)]) [(2, J z6)] (by simp) ?_
              exact ih2  1 bi_6 md9 1 Lc9 lk9 s18 ms18 gs18 gτ (by omega) (by omega) (by omega) (by omega) (by omega) (by omega) (by omega) (by omega)
            · refine T.go 2 (fun n9 => (rfl : _ = exe ξ n9 (d + 5) j_M_inflate 43 [(0, .ref 137), (1, J 1), (2, J z6)] [J 3, J z6, .ref 137] s17)) ?_
              refine T.icmp_ne rfl rfl (by omega) (by omega) (fun c15 => ?_) (fun c15 => ?_)
              · refine T.go 1 (fun n9 => (rfl : _ = exe ξ n9 (d + 5) j_M_inflate 51 [(0, .ref 137), (1, J 1), (2, J z6)] [J 0, .ref 137] s17)) ?_
                refine T.mput (c' := c) (io' := io) (mo' := mo) (fa' := fa) (pl' := pl) (ns' := ns) (rw' := rw) (en' := en) (wy' := wy) (wh' := wh) (bi' := bi_6) (ed' := ed) (sz' := sz) (md' := md9) (bd' := 0) (li' := li) (wk' := wk) (we' := we) ms17 rfl rfl rfl rfl rfl rfl (by omega) (fun s19 ms19 fs19 => ?_)
                have gs19 := gs17.trans fs19
                refine T.go 1 (fun n9 => (rfl : _ = exe ξ n9 (d + 5) j_M_inflate 55 [(0, .ref 137), (1, J 1), (2, J z6)] [.ref 137] s19)) ?_
                refine T.get rfl rfl rfl ms19.ob rfl ?_
                refine T.go 2 (fun n9 => (rfl : _ = exe ξ n9 (d + 5) j_M_inflate 65 [(0, .ref 137), (1, J 1), (2, J z6)] [J z6] s19)) ?_
                refine T.if_ne rfl rfl (by omega) (fun c16 => ?_) (fun c16 => ?_)
                · refine T.go 3 (fun n9 => (rfl : _ = exe ξ n9 (d + 5) j_M_inflate 78 [(0, .ref 137), (1, J 1), (2, J z6)] [J 2, J z6, .ref 137] s19)) ?_
                  refine T.icmp_ne rfl rfl (by omega) (by omega) (fun c17 => ?_) (fun c17 => ?_)
                  · refine T.go 1 (fun n9 => (rfl : _ = exe ξ n9 (d + 5) j_M_inflate 86 [(0, .ref 137), (1, J 1), (2, J z6)] [J 0, .ref 137] s19)) ?_
                    refine T.callv (as := [J 0]) (r := []) rfl rfl rfl rfl ms19.ob rfl (s_M_codedBlock d 0 s19 ms19 (by omega) (by omega) (by omega) (by omega) (by omega) (by omega) (by omega) (by omega) (by omega) (by omega)) (fun v7 s20 hqs20 => ?_)
                    obtain ⟨bi_7, md_4, bd_7, Lc_4, lk_3, rfl, ms20, fs20, pz7_0, pz7_1, pz7_2, pz7_3, pz7_4, pz7_5⟩ := hqs20
                    have ns20 := ms20.len
                    have rs20 := ms20.rg
                    have gs20 := gs19.trans fs20
                    have rgs20 := gτ.trans pz7_0 (by decide)
                    refine T.go 1 (fun n9 => (rfl : _ = exe ξ n9 (d + 5) j_M_inflate 2 [(0, .ref 137), (1, J 1), (2, J z6)] [] s20)) ?_
                    refine T.drop (lv := [(0, .ref 137), (1, J 1)]) [(2, J z6)] (by simp) ?_
                    exact ih2  1 bi_7 md_4 bd_7 Lc_4 lk_3 s20 ms20 gs20 rgs20 (by omega) (by omega) (by omega) (by omega) (by omega) (by omega) (by omega) (by omega)
                  · refine T.go 2 (fun n9 => (rfl : _ = exe ξ n9 (d + 5) j_M_inflate 86 [(0, .ref 137), (1, J 1), (2, J z6)] [J 1, .ref 137] s19)) ?_
                    refine T.callv (as := [J 1]) (r := []) rfl rfl rfl rfl ms19.ob rfl (s_M_codedBlock d 1 s19 ms19 (by omega) (by omega) (by omega) (by omega) (by omega) (by omega) (by omega) (by omega) (by omega) (by omega)) (fun v8 s21 hqs21 => ?_)
                    obtain ⟨bi_8, md_5, bd_8, Lc_5, lk_4, rfl, ms21, fs21, pz8_0, pz8_1, pz8_2, pz8_3, pz8_4, pz8_5⟩ := hqs21
                    have ns21 := ms21.len
                    have rs21 := ms21.rg
                    have gs21 := gs19.trans fs21
                    have rgs21 := gτ.trans pz8_0 (by decide)
                    refine T.go 1 (fun n9 => (rfl : _ = exe ξ n9 (d + 5) j_M_inflate 2 [(0, .ref 137), (1, J 1), (2, J z6)] [] s21)) ?_
                    refine T.drop (lv := [(0, .ref 137), (1, J 1)]) [(2, J z6)] (by simp) ?_
                    exact ih2  1 bi_8 md_5 bd_8 Lc_5 lk_4 s21 ms21 gs21 rgs21 (by omega) (by omega) (by omega) (by omega) (by omega) (by omega) (by omega) (by omega)
                · refine T.go 1 (fun n9 => (rfl : _ = exe ξ n9 (d + 5) j_M_inflate 69 [(0, .ref 137), (1, J 1), (2, J z6)] [.ref 137] s19)) ?_
                  refine T.callv (as := []) (r := []) rfl rfl rfl rfl ms19.ob rfl (s_M_plainBlock (d + 2)  s19 ms19 (by omega) (by omega) (by omega) (by omega) (by omega) (by omega) (by omega)) (fun v9 s22 hqs22 => ?_)
                  obtain ⟨bi_9, md_6, bd_9, Lc_6, rfl, ms22, fs22, pz9_0, pz9_1, pz9_2, pz9_3, pz9_4, pz9_5⟩ := hqs22
                  have ns22 := ms22.len
                  have rs22 := ms22.rg
                  have gs22 := gs19.trans fs22
                  have rgs22 := gτ.trans pz9_0 (by decide)
                  refine T.go 2 (fun n9 => (rfl : _ = exe ξ n9 (d + 5) j_M_inflate 2 [(0, .ref 137), (1, J 1), (2, J z6)] [] s22)) ?_
                  refine T.drop (lv := [(0, .ref 137), (1, J 1)]) [(2, J z6)] (by simp) ?_
                  exact ih2  1 bi_9 md_6 bd_9 Lc_6 lk9 s22 ms22 gs22 rgs22 (by omega) (by omega) (by omega) (by omega) (by omega) (by omega) (by omega) (by omega)
              · refine T.go 2 (fun n9 => (rfl : _ = exe ξ n9 (d + 5) j_M_inflate 51 [(0, .ref 137), (1, J 1), (2, J z6)] [J 1, .ref 137] s17)) ?_
                refine T.mput (c' := c) (io' := io) (mo' := mo) (fa' := fa) (pl' := pl) (ns' := ns) (rw' := rw) (en' := en) (wy' := wy) (wh' := wh) (bi' := bi_6) (ed' := ed) (sz' := sz) (md' := md9) (bd' := 1) (li' := li) (wk' := wk) (we' := we) ms17 rfl rfl rfl rfl rfl rfl (by omega) (fun s23 ms23 fs23 => ?_)
                have gs23 := gs17.trans fs23
                refine T.go 1 (fun n9 => (rfl : _ = exe ξ n9 (d + 5) j_M_inflate 55 [(0, .ref 137), (1, J 1), (2, J z6)] [.ref 137] s23)) ?_
                refine T.get rfl rfl rfl ms23.ob rfl ?_
                refine T.go 2 (fun n9 => (rfl : _ = exe ξ n9 (d + 5) j_M_inflate 2 [(0, .ref 137), (1, J 1), (2, J z6)] [] s23)) ?_
                refine T.drop (lv := [(0, .ref 137), (1, J 1)]) [(2, J z6)] (by simp) ?_
                exact ih2  1 bi_6 md9 1 Lc9 lk9 s23 ms23 gs23 gτ (by omega) (by omega) (by omega) (by omega) (by omega) (by omega) (by omega) (by omega)
  refine T.go 2 (fun n9 => (rfl : _ = exe ξ n9 (d + 5) j_M_inflate 2 [(0, .ref 137), (1, J 1)] [] σ)) ?_
  exact loop2 _ 1 bi md bd Lc lk σ hM FM.refl RG.refl (by omega) (by omega) (by omega) (by omega) (by omega) (by omega) (by omega) (Nat.lt_succ_self _)

set_option maxHeartbeats 4000000 in
theorem s_M_sumOfMade {ξ : Nat → Option (Nat × List Int32)} {c io mo fa pl ns rw en wy wh bi ed sz md bd li wk we : Int} {Lc : List Int64} {la lm ln lh ld lk lt : List Int32} (d : Nat)  (σ : qH) (hM : MS σ c io mo fa pl ns rw en wy wh bi ed sz md bd li wk we Lc la lm ln lh ld lk lt) (pre0 : 0 ≤ md) (pre1 : md ≤ 8000) : T ξ (d + 1) j_M_sumOfMade 0 (lv_args 0 [.ref 137]) [] σ (fun v σ' => ∃ (z : Int), v = some (JL z) ∧ σ' = σ ∧ -9223372036854775808 ≤ z ∧ z ≤ 9223372036854775807) := by
  have r0 := hM.rg
  have n0 := hM.len
  have loop6 : ∀ (f6 : Nat) (u : Int) (k : Int), -9223372036854775808 ≤ u → u ≤ 9223372036854775807 → 0 ≤ k → k ≤ md → (md - k).toNat < f6 → T ξ (d + 1) j_M_sumOfMade 6 [(0, .ref 137), (1, JL u), (3, J k)] [] σ (fun v σ' => ∃ (z : Int), v = some (JL z) ∧ σ' = σ ∧ -9223372036854775808 ≤ z ∧ z ≤ 9223372036854775807) := by
    intro f6
    induction f6 with
    | zero => intro u k i0 i1 i2 i3 hm6; omega
    | succ f6 ih6 =>
      intro u k i0 i1 i2 i3 hm6
      have loop17 : ∀ (f17 : Nat) (u1 : Int) (i : Int), -9223372036854775808 ≤ u1 → u1 ≤ 9223372036854775807 → 0 ≤ i → i ≤ 8 → k < md → (8 - i).toNat < f17 → T ξ (d + 1) j_M_sumOfMade 17 [(0, .ref 137), (1, JL u1), (3, J k), (4, J i)] [] σ (fun v σ' => ∃ (z : Int), v = some (JL z) ∧ σ' = σ ∧ -9223372036854775808 ≤ z ∧ z ≤ 9223372036854775807) := by
        intro f17
        induction f17 with
        | zero => intro u1 i j0 j1 j2 j3 j4 hm17; omega
        | succ f17 ih17 =>
          intro u1 i j0 j1 j2 j3 j4 hm17
          refine T.go 2 (fun n9 => (rfl : _ = exe ξ n9 (d + 1) j_M_sumOfMade 21 [(0, .ref 137), (1, JL u1), (3, J k), (4, J i)] [J 8, J i] σ)) ?_
          refine T.icmp_ge rfl rfl (by omega) (by omega) (fun c1 => ?_) (fun c1 => ?_)
          · refine T.iinc (lv' := [(0, .ref 137), (1, JL u1), (3, J (k + 1)), (4, J i)]) rfl rfl rfl rfl ?_
            refine T.go 1 (fun n9 => (rfl : _ = exe ξ n9 (d + 1) j_M_sumOfMade 6 [(0, .ref 137), (1, JL u1), (3, J (k + 1)), (4, J i)] [] σ)) ?_
            refine T.drop (lv := [(0, .ref 137), (1, JL u1), (3, J (k + 1))]) [(4, J i)] (by simp) ?_
            exact ih6  u1 (k + 1)  (by omega) (by omega) (by omega) (by omega) (by omega)
          · refine T.go 2 (fun n9 => (rfl : _ = exe ξ n9 (d + 1) j_M_sumOfMade 26 [(0, .ref 137), (1, JL u1), (3, J k), (4, J i)] [JL 1, JL u1] σ)) ?_
            refine T.some2 rfl rfl (fun z1 hzz1 hyz1 _ => ?_)
            refine T.go 3 (fun n9 => (rfl : _ = exe ξ n9 (d + 1) j_M_sumOfMade 30 [(0, .ref 137), (1, JL u1), (3, J k), (4, J i)] [J k, J 4, .ref 137, JL z1] σ)) ?_
            refine T.callv (as := [J 4, J k]) (r := [JL z1]) rfl rfl rfl rfl hM.ob rfl (s_M_get d 4 k σ hM (by omega)) (fun v1 s1 hqs1 => ?_)
            obtain ⟨z2, rfl, esz2, hzz2, hyz2, pz2_0⟩ := hqs1
            rw [esz2]
            refine T.go 1 (fun n9 => (rfl : _ = exe ξ n9 (d + 1) j_M_sumOfMade 35 [(0, .ref 137), (1, JL u1), (3, J k), (4, J i)] [J i, J z2, JL z1] σ)) ?_
            refine T.some1 rfl rfl (fun z3 hzz3 hyz3 _ => ?_)
            refine T.go 1 (fun n9 => (rfl : _ = exe ξ n9 (d + 1) j_M_sumOfMade 37 [(0, .ref 137), (1, JL u1), (3, J k), (4, J i)] [J 1, J z3, JL z1] σ)) ?_
            refine T.iandm (p := 2) 1 rfl (by decide) (by decide) (by decide) (by omega) ?_
            refine T.i2l rfl (by omega) ?_
            refine T.lcmp rfl (by omega) (by omega) (fun c2 => ?_) (fun c2 => ?_) (fun c2 => ?_)
            · refine T.go 1 (fun n9 => (rfl : _ = exe ξ n9 (d + 1) j_M_sumOfMade 43 [(0, .ref 137), (1, JL u1), (3, J k), (4, J i)] [] σ)) ?_
              refine T.go 5 (fun n9 => (rfl : _ = exe ξ n9 (d + 1) j_M_sumOfMade 52 [(0, .ref 137), (1, JL u1), (3, J k), (4, J i), (5, J 1)] [J 1, JL u1] σ)) ?_
              refine T.some2 rfl rfl (fun z5 hzz5 hyz5 _ => ?_)
              refine T.go 2 (fun n9 => (rfl : _ = exe ξ n9 (d + 1) j_M_sumOfMade 58 [(0, .ref 137), (1, JL u1), (3, J k), (4, J i), (5, J 1)] [JL z5] σ)) ?_
              refine T.go 2 (fun n9 => (rfl : _ = exe ξ n9 (d + 1) j_M_sumOfMade 65 [(0, .ref 137), (1, JL u1), (3, J k), (4, J i), (5, J 1)] [JL 3988292384, JL z5] σ)) ?_
              refine T.some2 rfl rfl (fun z6 hzz6 hyz6 _ => ?_)
              refine T.go 1 (fun n9 => (rfl : _ = exe ξ n9 (d + 1) j_M_sumOfMade 67 [(0, .ref 137), (1, JL z6), (3, J k), (4, J i), (5, J 1)] [] σ)) ?_
              refine T.iinc (lv' := [(0, .ref 137), (1, JL z6), (3, J k), (4, J (i + 1)), (5, J 1)]) rfl rfl rfl rfl ?_
              refine T.go 1 (fun n9 => (rfl : _ = exe ξ n9 (d + 1) j_M_sumOfMade 17 [(0, .ref 137), (1, JL z6), (3, J k), (4, J (i + 1)), (5, J 1)] [] σ)) ?_
              refine T.drop (lv := [(0, .ref 137), (1, JL z6), (3, J k), (4, J (i + 1))]) [(5, J 1)] (by simp) ?_
              exact ih17  z6 (i + 1)  (by omega) (by omega) (by omega) (by omega) (by omega) (by omega)
            · refine T.go 1 (fun n9 => (rfl : _ = exe ξ n9 (d + 1) j_M_sumOfMade 47 [(0, .ref 137), (1, JL u1), (3, J k), (4, J i)] [] σ)) ?_
              refine T.go 4 (fun n9 => (rfl : _ = exe ξ n9 (d + 1) j_M_sumOfMade 52 [(0, .ref 137), (1, JL u1), (3, J k), (4, J i), (5, J 0)] [J 1, JL u1] σ)) ?_
              refine T.some2 rfl rfl (fun z7 hzz7 hyz7 _ => ?_)
              refine T.go 3 (fun n9 => (rfl : _ = exe ξ n9 (d + 1) j_M_sumOfMade 65 [(0, .ref 137), (1, JL u1), (3, J k), (4, J i), (5, J 0)] [JL 0, JL z7] σ)) ?_
              refine T.some2 rfl rfl (fun z8 hzz8 hyz8 _ => ?_)
              refine T.go 1 (fun n9 => (rfl : _ = exe ξ n9 (d + 1) j_M_sumOfMade 67 [(0, .ref 137), (1, JL z8), (3, J k), (4, J i), (5, J 0)] [] σ)) ?_
              refine T.iinc (lv' := [(0, .ref 137), (1, JL z8), (3, J k), (4, J (i + 1)), (5, J 0)]) rfl rfl rfl rfl ?_
              refine T.go 1 (fun n9 => (rfl : _ = exe ξ n9 (d + 1) j_M_sumOfMade 17 [(0, .ref 137), (1, JL z8), (3, J k), (4, J (i + 1)), (5, J 0)] [] σ)) ?_
              refine T.drop (lv := [(0, .ref 137), (1, JL z8), (3, J k), (4, J (i + 1))]) [(5, J 0)] (by simp) ?_
              exact ih17  z8 (i + 1)  (by omega) (by omega) (by omega) (by omega) (by omega) (by omega)
            · refine T.go 1 (fun n9 => (rfl : _ = exe ξ n9 (d + 1) j_M_sumOfMade 43 [(0, .ref 137), (1, JL u1), (3, J k), (4, J i)] [] σ)) ?_
              refine T.go 5 (fun n9 => (rfl : _ = exe ξ n9 (d + 1) j_M_sumOfMade 52 [(0, .ref 137), (1, JL u1), (3, J k), (4, J i), (5, J 1)] [J 1, JL u1] σ)) ?_
              refine T.some2 rfl rfl (fun z9 hzz9 hyz9 _ => ?_)
              refine T.go 2 (fun n9 => (rfl : _ = exe ξ n9 (d + 1) j_M_sumOfMade 58 [(0, .ref 137), (1, JL u1), (3, J k), (4, J i), (5, J 1)] [JL z9] σ)) ?_
              refine T.go 2 (fun n9 => (rfl : _ = exe ξ n9 (d + 1) j_M_sumOfMade 65 [(0, .ref 137), (1, JL u1), (3, J k), (4, J i), (5, J 1)] [JL 3988292384, JL z9] σ)) ?_
              refine T.some2 rfl rfl (fun z10 hzz10 hyz10 _ => ?_)
              refine T.go 1 (fun n9 => (rfl : _ = exe ξ n9 (d + 1) j_M_sumOfMade 67 [(0, .ref 137), (1, JL z10), (3, J k), (4, J i), (5, J 1)] [] σ)) ?_
              refine T.iinc (lv' := [(0, .ref 137), (1, JL z10), (3, J k), (4, J (i + 1)), (5, J 1)]) rfl rfl rfl rfl ?_
              refine T.go 1 (fun n9 => (rfl : _ = exe ξ n9 (d + 1) j_M_sumOfMade 17 [(0, .ref 137), (1, JL z10), (3, J k), (4, J (i + 1)), (5, J 1)] [] σ)) ?_
              refine T.drop (lv := [(0, .ref 137), (1, JL z10), (3, J k), (4, J (i + 1))]) [(5, J 1)] (by simp) ?_
              exact ih17  z10 (i + 1)  (by omega) (by omega) (by omega) (by omega) (by omega) (by omega)
      refine T.go 2 (fun n9 => (rfl : _ = exe ξ n9 (d + 1) j_M_sumOfMade 8 [(0, .ref 137), (1, JL u), (3, J k)] [.ref 137, J k] σ)) ?_
      refine T.get rfl rfl rfl hM.ob rfl ?_
      refine T.icmp_ge rfl rfl (by omega) (by omega) (fun c3 => ?_) (fun c3 => ?_)
      · refine T.go 1 (fun n9 => (rfl : _ = exe ξ n9 (d + 1) j_M_sumOfMade 80 [(0, .ref 137), (1, JL u), (3, J k)] [JL u] σ)) ?_
        refine T.go 1 (fun n9 => (rfl : _ = exe ξ n9 (d + 1) j_M_sumOfMade 83 [(0, .ref 137), (1, JL u), (3, J k)] [JL 4294967295, JL u] σ)) ?_
        refine T.some2 rfl rfl (fun z11 hzz11 hyz11 _ => ?_)
        exact T.lret rfl rfl ⟨_, rfl, rfl, by omega, by omega⟩
      · refine T.go 2 (fun n9 => (rfl : _ = exe ξ n9 (d + 1) j_M_sumOfMade 17 [(0, .ref 137), (1, JL u), (3, J k), (4, J 0)] [] σ)) ?_
        exact loop17 _ u 0  (by omega) (by omega) (by omega) (by omega) (by omega) (Nat.lt_succ_self _)
  refine T.go 4 (fun n9 => (rfl : _ = exe ξ n9 (d + 1) j_M_sumOfMade 6 [(0, .ref 137), (1, JL 4294967295), (3, J 0)] [] σ)) ?_
  exact loop6 _ 4294967295 0  (by omega) (by omega) (by omega) (by omega) (Nat.lt_succ_self _)
