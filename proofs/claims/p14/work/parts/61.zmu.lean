/-! The model: what its unpacking gives. -/
set_option maxHeartbeats 4000000 in
theorem s_M_ftake {ξ : Nat → Option (Nat × List Int32)} {c io mo fa pl ns rw en wy wh bi ed sz md bd li wk we : Int} {Lc : List Int64} {la lm ln lh ld lk lt : List Int32} (d : Nat) (x : Int) (σ : qH) (hM : MS σ c io mo fa pl ns rw en wy wh bi ed sz md bd li wk we Lc la lm ln lh ld lk lt) (rx : -2147483648 ≤ x ∧ x ≤ 2147483647) (pre0 : 0 ≤ x) (pre1 : x ≤ 16) (pre2 : 0 ≤ bi) (pre3 : bi ≤ ed) (pre4 : ed ≤ 64000) (pre5 : ed % 8 = 0) : T ξ (d + 1) j_M_take 0 (lv_args 0 [.ref 137, J x]) [] σ (fun v σ' => ∃ (z : Int) (bi1 : Int) (bd1 : Int), v = some (J z) ∧ MS σ' c io mo fa pl ns rw en wy wh bi1 ed sz md bd1 li wk we Lc la lm ln lh ld lk lt ∧ FM σ σ' ∧ 0 ≤ z ∧ z ≤ 65535 ∧ bi ≤ bi1 ∧ bi1 ≤ ed ∧ ((bd = 0 ∧ bi + x ≤ ed ∧ z = BV (gc Lc rw) bi x.toNat ∧ bi1 = bi + x ∧ bd1 = 0) ∨ ((bd = 1 ∨ ed < bi + x) ∧ bd1 = 1 ∧ z = 0))) := by
  have r0 := hM.rg
  have n0 := hM.len
  have loop4 : ∀ (f4 : Nat) (y9 : Int) (k : Int) (bi9 : Int) (bd9 : Int) (τ : qH), MS τ c io mo fa pl ns rw en wy wh bi9 ed sz md bd9 li wk we Lc la lm ln lh ld lk lt → FM σ τ → 0 ≤ k → k ≤ x → y9 = BV (gc Lc rw) bi k.toNat → bi9 = bi + k → bd9 = bd → bi9 ≤ ed → (k = 0 ∨ bd = 0) → (k = 0 → y9 = 0) → (x - k).toNat < f4 → T ξ (d + 1) j_M_take 4 [(0, .ref 137), (1, J x), (2, J y9), (3, J k)] [] τ (fun v σ' => ∃ (z : Int) (bi1 : Int) (bd1 : Int), v = some (J z) ∧ MS σ' c io mo fa pl ns rw en wy wh bi1 ed sz md bd1 li wk we Lc la lm ln lh ld lk lt ∧ FM σ σ' ∧ 0 ≤ z ∧ z ≤ 65535 ∧ bi ≤ bi1 ∧ bi1 ≤ ed ∧ ((bd = 0 ∧ bi + x ≤ ed ∧ z = BV (gc Lc rw) bi x.toNat ∧ bi1 = bi + x ∧ bd1 = 0) ∨ ((bd = 1 ∨ ed < bi + x) ∧ bd1 = 1 ∧ z = 0))) := by
    intro f4
    induction f4 with
    | zero => intro y9 k bi9 bd9 τ mτ fτ i0 i1 i2 i3 i4 i5 i6 i7 hm4; omega
    | succ f4 ih4 =>
      intro y9 k bi9 bd9 τ mτ fτ i0 i1 i2 i3 i4 i5 i6 i7 hm4
      have rτ := mτ.rg
      have nτ := mτ.len
      have bvr := BV_r (gc Lc rw) bi k.toNat
      rw [Int.toNat_of_nonneg i0, ← i2] at bvr
      have ek := P2_le (k := k) (by omega)
      refine T.go 2 (fun n9 => (rfl : _ = exe ξ n9 (d + 1) j_M_take 6 [(0, .ref 137), (1, J x), (2, J y9), (3, J k)] [J x, J k] τ)) ?_
      refine T.icmp_ge rfl rfl (by omega) (by omega) (fun c1 => ?_) (fun c1 => ?_)
      · refine T.go 1 (fun n9 => (rfl : _ = exe ξ n9 (d + 1) j_M_take 92 [(0, .ref 137), (1, J x), (2, J y9), (3, J k)] [J y9] τ)) ?_
        exact T.ireti rfl rfl ⟨_, bi9, bd9, rfl, mτ, fτ, by omega, by omega, by omega, by omega, (by rw [show x.toNat = k.toNat by omega]; omega)⟩
      · refine T.go 2 (fun n9 => (rfl : _ = exe ξ n9 (d + 1) j_M_take 11 [(0, .ref 137), (1, J x), (2, J y9), (3, J k)] [.ref 137, .ref 137] τ)) ?_
        refine T.get rfl rfl rfl mτ.ob rfl ?_
        refine T.if_ne rfl rfl (by omega) (fun c2 => ?_) (fun c2 => ?_)
        · refine T.go 2 (fun n9 => (rfl : _ = exe ξ n9 (d + 1) j_M_take 33 [(0, .ref 137), (1, J x), (2, J y9), (3, J k)] [J 1, .ref 137] τ)) ?_
          refine T.mput (c' := c) (io' := io) (mo' := mo) (fa' := fa) (pl' := pl) (ns' := ns) (rw' := rw) (en' := en) (wy' := wy) (wh' := wh) (bi' := bi9) (ed' := ed) (sz' := sz) (md' := md) (bd' := 1) (li' := li) (wk' := wk) (we' := we) mτ rfl rfl rfl rfl rfl rfl (by omega) (fun s1 ms1 fs1 => ?_)
          have gs1 := fτ.trans fs1
          refine T.go 1 (fun n9 => (rfl : _ = exe ξ n9 (d + 1) j_M_take 37 [(0, .ref 137), (1, J x), (2, J y9), (3, J k)] [.ref 137] s1)) ?_
          refine T.get rfl rfl rfl ms1.ob rfl ?_
          refine T.go 2 (fun n9 => (rfl : _ = exe ξ n9 (d + 1) j_M_take 44 [(0, .ref 137), (1, J x), (2, J y9), (3, J k)] [J 0] s1)) ?_
          exact T.ireti rfl rfl ⟨_, bi9, 1, rfl, ms1, gs1, by omega, by omega, by omega, by omega, (Or.inr ⟨by omega, by omega, by omega⟩)⟩
        · refine T.go 1 (fun n9 => (rfl : _ = exe ξ n9 (d + 1) j_M_take 18 [(0, .ref 137), (1, J x), (2, J y9), (3, J k)] [.ref 137, .ref 137] τ)) ?_
          refine T.get rfl rfl rfl mτ.ob rfl ?_
          refine T.go 1 (fun n9 => (rfl : _ = exe ξ n9 (d + 1) j_M_take 22 [(0, .ref 137), (1, J x), (2, J y9), (3, J k)] [.ref 137, J bi9, .ref 137] τ)) ?_
          refine T.get rfl rfl rfl mτ.ob rfl ?_
          refine T.icmp_lt rfl rfl (by omega) (by omega) (fun c3 => ?_) (fun c3 => ?_)
          · refine T.go 1 (fun n9 => (rfl : _ = exe ξ n9 (d + 1) j_M_take 33 [(0, .ref 137), (1, J x), (2, J y9), (3, J k)] [J 0, .ref 137] τ)) ?_
            refine T.mput (c' := c) (io' := io) (mo' := mo) (fa' := fa) (pl' := pl) (ns' := ns) (rw' := rw) (en' := en) (wy' := wy) (wh' := wh) (bi' := bi9) (ed' := ed) (sz' := sz) (md' := md) (bd' := 0) (li' := li) (wk' := wk) (we' := we) mτ rfl rfl rfl rfl rfl rfl (by omega) (fun s2 ms2 fs2 => ?_)
            have gs2 := fτ.trans fs2
            refine T.go 1 (fun n9 => (rfl : _ = exe ξ n9 (d + 1) j_M_take 37 [(0, .ref 137), (1, J x), (2, J y9), (3, J k)] [.ref 137] s2)) ?_
            refine T.get rfl rfl rfl ms2.ob rfl ?_
            refine T.go 4 (fun n9 => (rfl : _ = exe ξ n9 (d + 1) j_M_take 48 [(0, .ref 137), (1, J x), (2, J y9), (3, J k)] [.ref 137, .ref 137, J y9] s2)) ?_
            refine T.get rfl rfl rfl ms2.ob rfl ?_
            refine T.go 1 (fun n9 => (rfl : _ = exe ξ n9 (d + 1) j_M_take 52 [(0, .ref 137), (1, J x), (2, J y9), (3, J k)] [.ref 137, J rw, .ref 137, J y9] s2)) ?_
            refine T.get rfl rfl rfl ms2.ob rfl ?_
            refine T.go 1 (fun n9 => (rfl : _ = exe ξ n9 (d + 1) j_M_take 57 [(0, .ref 137), (1, J x), (2, J y9), (3, J k)] [J 8, J bi9, J rw, .ref 137, J y9] s2)) ?_
            refine T.idivc (c := 8) rfl (by decide) (by omega) ?_
            refine T.callv (as := [J rw, J (bi9 / 8)]) (r := [J y9]) rfl rfl rfl rfl ms2.ob rfl (s_M_get d rw (bi9 / 8) s2 ms2 (by omega)) (fun v1 s3 hqs3 => ?_)
            obtain ⟨z2, rfl, esz2, hzz2, hyz2, pz2_0⟩ := hqs3
            rw [esz2]
            have ggz2 := gc_at (Lc := Lc) (r := rw) (k := bi9 / 8) (by omega)
            have grz2 := gc_r Lc rw (bi9 / 8)
            refine T.go 1 (fun n9 => (rfl : _ = exe ξ n9 (d + 1) j_M_take 62 [(0, .ref 137), (1, J x), (2, J y9), (3, J k)] [.ref 137, J z2, J y9] s2)) ?_
            refine T.get rfl rfl rfl ms2.ob rfl ?_
            refine T.go 1 (fun n9 => (rfl : _ = exe ξ n9 (d + 1) j_M_take 67 [(0, .ref 137), (1, J x), (2, J y9), (3, J k)] [J 8, J bi9, J z2, J y9] s2)) ?_
            refine T.iremc (c := 8) rfl (by decide) (by omega) ?_
            refine T.ishrv rfl (by omega) (by omega) ?_
            have dz4 := dP2_r (q := z2) (n := bi9 % 8) (by omega)
            refine T.go 1 (fun n9 => (rfl : _ = exe ξ n9 (d + 1) j_M_take 70 [(0, .ref 137), (1, J x), (2, J y9), (3, J k)] [J 1, J (z2 / P2 (bi9 % 8)), J y9] s2)) ?_
            refine T.iandm (p := 2) 1 rfl (by decide) (by decide) (by decide) (by omega) ?_
            rw [bt_of (g := (gc Lc rw)) (b := bi9) (z := z2) (by omega)]
            have btr59 := bt_r (gc Lc rw) (bi9)
            refine T.go 1 (fun n9 => (rfl : _ = exe ξ n9 (d + 1) j_M_take 72 [(0, .ref 137), (1, J x), (2, J y9), (3, J k)] [J k, J (bt (gc Lc rw) bi9), J y9] s2)) ?_
            refine T.ishlq rfl (by omega) (by omega) (fun z6 hzz6 hyz6 hvz6 hwz6 huz6 => ?_)
            refine T.iorp (k := k) rfl (by omega) (by omega) (by omega) ?_
            refine T.go 3 (fun n9 => (rfl : _ = exe ξ n9 (d + 1) j_M_take 77 [(0, .ref 137), (1, J x), (2, J (y9 + z6)), (3, J k)] [.ref 137, .ref 137] s2)) ?_
            refine T.get rfl rfl rfl ms2.ob rfl ?_
            refine T.go 1 (fun n9 => (rfl : _ = exe ξ n9 (d + 1) j_M_take 81 [(0, .ref 137), (1, J x), (2, J (y9 + z6)), (3, J k)] [J 1, J bi9, .ref 137] s2)) ?_
            refine T.iadd rfl ?_
            refine T.mput (c' := c) (io' := io) (mo' := mo) (fa' := fa) (pl' := pl) (ns' := ns) (rw' := rw) (en' := en) (wy' := wy) (wh' := wh) (bi' := bi9 + 1) (ed' := ed) (sz' := sz) (md' := md) (bd' := 0) (li' := li) (wk' := wk) (we' := we) ms2 rfl rfl rfl rfl rfl rfl (by omega) (fun s4 ms4 fs4 => ?_)
            have gs4 := gs2.trans fs4
            refine T.iinc (lv' := [(0, .ref 137), (1, J x), (2, J (y9 + z6)), (3, J (k + 1))]) rfl rfl rfl rfl ?_
            refine T.go 1 (fun n9 => (rfl : _ = exe ξ n9 (d + 1) j_M_take 4 [(0, .ref 137), (1, J x), (2, J (y9 + z6)), (3, J (k + 1))] [] s4)) ?_
            exact ih4  (y9 + z6) (k + 1) (bi9 + 1) 0 s4 ms4 gs4 (by omega) (by omega) (by rw [BV_step i0, ← i2, show bi + k = bi9 by omega, hvz6]) (by omega) (by omega) (by omega) (by omega) (by omega) (by omega)
          · refine T.go 2 (fun n9 => (rfl : _ = exe ξ n9 (d + 1) j_M_take 33 [(0, .ref 137), (1, J x), (2, J y9), (3, J k)] [J 1, .ref 137] τ)) ?_
            refine T.mput (c' := c) (io' := io) (mo' := mo) (fa' := fa) (pl' := pl) (ns' := ns) (rw' := rw) (en' := en) (wy' := wy) (wh' := wh) (bi' := bi9) (ed' := ed) (sz' := sz) (md' := md) (bd' := 1) (li' := li) (wk' := wk) (we' := we) mτ rfl rfl rfl rfl rfl rfl (by omega) (fun s5 ms5 fs5 => ?_)
            have gs5 := fτ.trans fs5
            refine T.go 1 (fun n9 => (rfl : _ = exe ξ n9 (d + 1) j_M_take 37 [(0, .ref 137), (1, J x), (2, J y9), (3, J k)] [.ref 137] s5)) ?_
            refine T.get rfl rfl rfl ms5.ob rfl ?_
            refine T.go 2 (fun n9 => (rfl : _ = exe ξ n9 (d + 1) j_M_take 44 [(0, .ref 137), (1, J x), (2, J y9), (3, J k)] [J 0] s5)) ?_
            exact T.ireti rfl rfl ⟨_, bi9, 1, rfl, ms5, gs5, by omega, by omega, by omega, by omega, (Or.inr ⟨by omega, by omega, by omega⟩)⟩
  refine T.go 4 (fun n9 => (rfl : _ = exe ξ n9 (d + 1) j_M_take 4 [(0, .ref 137), (1, J x), (2, J 0), (3, J 0)] [] σ)) ?_
  exact loop4 _ 0 0 bi bd σ hM FM.refl (by omega) (by omega) rfl (by omega) (by omega) (by omega) (by omega) (by omega) (Nat.lt_succ_self _)

set_option maxHeartbeats 4000000 in
theorem s_M_fout {ξ : Nat → Option (Nat × List Int32)} {c io mo fa pl ns rw en wy wh bi ed sz md bd li wk we : Int} {Lc : List Int64} {la lm ln lh ld lk lt : List Int32} (d : Nat) (x : Int) (σ : qH) (hM : MS σ c io mo fa pl ns rw en wy wh bi ed sz md bd li wk we Lc la lm ln lh ld lk lt) (rx : -2147483648 ≤ x ∧ x ≤ 2147483647) (pre0 : 0 ≤ md) (pre1 : md ≤ sz) (pre2 : sz ≤ 8000) : T ξ (d + 1) j_M_out 0 (lv_args 0 [.ref 137, J x]) [] σ (fun v σ' => ∃ (md1 : Int) (bd1 : Int) (Lc1 : List Int64), v = none ∧ MS σ' c io mo fa pl ns rw en wy wh bi ed sz md1 bd1 li wk we Lc1 la lm ln lh ld lk lt ∧ FM σ σ' ∧ RG [4] Lc Lc1 ∧ (bd = 0 ∧ md < sz → nm Lc1 (md + 1) = updG (nm Lc md) md (x % 256)) ∧ (bd = 0 ∧ md < sz → bd1 = 0 ∧ md1 = md + 1) ∧ (bd = 1 ∨ sz ≤ md → bd1 = 1) ∧ md ≤ md1 ∧ md1 ≤ sz) := by
  have r0 := hM.rg
  have n0 := hM.len
  refine T.go 2 (fun n9 => (rfl : _ = exe ξ n9 (d + 1) j_M_out 2 [(0, .ref 137), (1, J x)] [.ref 137, .ref 137] σ)) ?_
  refine T.get rfl rfl rfl hM.ob rfl ?_
  refine T.if_ne rfl rfl (by omega) (fun c1 => ?_) (fun c1 => ?_)
  · refine T.go 2 (fun n9 => (rfl : _ = exe ξ n9 (d + 1) j_M_out 24 [(0, .ref 137), (1, J x)] [J 1, .ref 137] σ)) ?_
    refine T.mput (c' := c) (io' := io) (mo' := mo) (fa' := fa) (pl' := pl) (ns' := ns) (rw' := rw) (en' := en) (wy' := wy) (wh' := wh) (bi' := bi) (ed' := ed) (sz' := sz) (md' := md) (bd' := 1) (li' := li) (wk' := wk) (we' := we) hM rfl rfl rfl rfl rfl rfl (by omega) (fun s1 ms1 fs1 => ?_)
    refine T.go 1 (fun n9 => (rfl : _ = exe ξ n9 (d + 1) j_M_out 28 [(0, .ref 137), (1, J x)] [.ref 137] s1)) ?_
    refine T.get rfl rfl rfl ms1.ob rfl ?_
    refine T.go 1 (fun n9 => (rfl : _ = exe ξ n9 (d + 1) j_M_out 34 [(0, .ref 137), (1, J x)] [] s1)) ?_
    exact T.vret rfl rfl ⟨md, 1, Lc, rfl, ms1, fs1, RG.refl, (fun h => absurd h (by omega)), by omega, by omega, by omega, by omega⟩
  · refine T.go 1 (fun n9 => (rfl : _ = exe ξ n9 (d + 1) j_M_out 9 [(0, .ref 137), (1, J x)] [.ref 137, .ref 137] σ)) ?_
    refine T.get rfl rfl rfl hM.ob rfl ?_
    refine T.go 1 (fun n9 => (rfl : _ = exe ξ n9 (d + 1) j_M_out 13 [(0, .ref 137), (1, J x)] [.ref 137, J md, .ref 137] σ)) ?_
    refine T.get rfl rfl rfl hM.ob rfl ?_
    refine T.icmp_ne rfl rfl (by omega) (by omega) (fun c2 => ?_) (fun c2 => ?_)
    · refine T.go 1 (fun n9 => (rfl : _ = exe ξ n9 (d + 1) j_M_out 24 [(0, .ref 137), (1, J x)] [J 0, .ref 137] σ)) ?_
      refine T.mput (c' := c) (io' := io) (mo' := mo) (fa' := fa) (pl' := pl) (ns' := ns) (rw' := rw) (en' := en) (wy' := wy) (wh' := wh) (bi' := bi) (ed' := ed) (sz' := sz) (md' := md) (bd' := 0) (li' := li) (wk' := wk) (we' := we) hM rfl rfl rfl rfl rfl rfl (by omega) (fun s2 ms2 fs2 => ?_)
      refine T.go 1 (fun n9 => (rfl : _ = exe ξ n9 (d + 1) j_M_out 28 [(0, .ref 137), (1, J x)] [.ref 137] s2)) ?_
      refine T.get rfl rfl rfl ms2.ob rfl ?_
      refine T.go 4 (fun n9 => (rfl : _ = exe ξ n9 (d + 1) j_M_out 38 [(0, .ref 137), (1, J x)] [.ref 137, J 4, .ref 137] s2)) ?_
      refine T.get rfl rfl rfl ms2.ob rfl ?_
      refine T.go 1 (fun n9 => (rfl : _ = exe ξ n9 (d + 1) j_M_out 42 [(0, .ref 137), (1, J x)] [J x, J md, J 4, .ref 137] s2)) ?_
      refine T.callv (as := [J 4, J md, J x]) (r := []) rfl rfl rfl rfl ms2.ob rfl (s_M_fput d 4 md x s2 ms2 (by omega) (by omega) (by omega) (by omega) (by omega) (by omega) (by omega)) (fun v1 s3 hqs3 => ?_)
      obtain ⟨Lc_1, rfl, ms3, fs3, pz1_0, pz1_1⟩ := hqs3
      have ns3 := ms3.len
      have rs3 := ms3.rg
      have gs3 := fs2.trans fs3
      have rgs3 := (RG.refl (S := [4])).trans pz1_0 (by decide)
      have nmP := nm_put (by omega) pz1_1
      refine T.go 2 (fun n9 => (rfl : _ = exe ξ n9 (d + 1) j_M_out 47 [(0, .ref 137), (1, J x)] [.ref 137, .ref 137] s3)) ?_
      refine T.get rfl rfl rfl ms3.ob rfl ?_
      refine T.go 1 (fun n9 => (rfl : _ = exe ξ n9 (d + 1) j_M_out 51 [(0, .ref 137), (1, J x)] [J 1, J md, .ref 137] s3)) ?_
      refine T.iadd rfl ?_
      refine T.mput (c' := c) (io' := io) (mo' := mo) (fa' := fa) (pl' := pl) (ns' := ns) (rw' := rw) (en' := en) (wy' := wy) (wh' := wh) (bi' := bi) (ed' := ed) (sz' := sz) (md' := md + 1) (bd' := 0) (li' := li) (wk' := wk) (we' := we) ms3 rfl rfl rfl rfl rfl rfl (by omega) (fun s4 ms4 fs4 => ?_)
      have gs4 := gs3.trans fs4
      exact T.vret rfl rfl ⟨(md + 1), 0, Lc_1, rfl, ms4, gs4, rgs3, (fun _ => nmP), by omega, by omega, by omega, by omega⟩
    · refine T.go 2 (fun n9 => (rfl : _ = exe ξ n9 (d + 1) j_M_out 24 [(0, .ref 137), (1, J x)] [J 1, .ref 137] σ)) ?_
      refine T.mput (c' := c) (io' := io) (mo' := mo) (fa' := fa) (pl' := pl) (ns' := ns) (rw' := rw) (en' := en) (wy' := wy) (wh' := wh) (bi' := bi) (ed' := ed) (sz' := sz) (md' := md) (bd' := 1) (li' := li) (wk' := wk) (we' := we) hM rfl rfl rfl rfl rfl rfl (by omega) (fun s5 ms5 fs5 => ?_)
      refine T.go 1 (fun n9 => (rfl : _ = exe ξ n9 (d + 1) j_M_out 28 [(0, .ref 137), (1, J x)] [.ref 137] s5)) ?_
      refine T.get rfl rfl rfl ms5.ob rfl ?_
      refine T.go 1 (fun n9 => (rfl : _ = exe ξ n9 (d + 1) j_M_out 34 [(0, .ref 137), (1, J x)] [] s5)) ?_
      exact T.vret rfl rfl ⟨md, 1, Lc, rfl, ms5, fs5, RG.refl, (fun h => absurd h (by omega)), by omega, by omega, by omega, by omega⟩

set_option maxHeartbeats 4000000 in
theorem s_M_fmany {ξ : Nat → Option (Nat × List Int32)} {c io mo fa pl ns rw en wy wh bi ed sz md bd li wk we : Int} {Lc : List Int64} {la lm ln lh ld lk lt : List Int32} (d : Nat) (x : Int) (y : Int) (u : Int) (σ : qH) (hM : MS σ c io mo fa pl ns rw en wy wh bi ed sz md bd li wk we Lc la lm ln lh ld lk lt) (rx : -2147483648 ≤ x ∧ x ≤ 2147483647) (ry : -2147483648 ≤ y ∧ y ≤ 2147483647) (ru : -2147483648 ≤ u ∧ u ≤ 2147483647) (pre0 : 0 ≤ x) (pre1 : 0 ≤ y) (pre2 : x + y ≤ 360) : T ξ d j_M_many 0 (lv_args 0 [.ref 137, J x, J y, J u]) [] σ (fun v σ' => ∃ (z : Int), v = some (J z) ∧ σ' = σ ∧ 0 ≤ z ∧ z ≤ 360 ∧ z = MY (lkf lk x) u y.toNat) := by
  have r0 := hM.rg
  have n0 := hM.len
  have loop6 : ∀ (f6 : Nat) (n : Int) (k : Int), 0 ≤ k → k ≤ y → n = MY (lkf lk x) u k.toNat → 0 ≤ n → n ≤ k → (y - k).toNat < f6 → T ξ d j_M_many 6 [(0, .ref 137), (1, J x), (2, J y), (3, J u), (4, J n), (5, J k)] [] σ (fun v σ' => ∃ (z : Int), v = some (J z) ∧ σ' = σ ∧ 0 ≤ z ∧ z ≤ 360 ∧ z = MY (lkf lk x) u y.toNat) := by
    intro f6
    induction f6 with
    | zero => intro n k i0 i1 i2 i3 i4 hm6; omega
    | succ f6 ih6 =>
      intro n k i0 i1 i2 i3 i4 hm6
      refine T.go 2 (fun n9 => (rfl : _ = exe ξ n9 d j_M_many 9 [(0, .ref 137), (1, J x), (2, J y), (3, J u), (4, J n), (5, J k)] [J y, J k] σ)) ?_
      refine T.icmp_ge rfl rfl (by omega) (by omega) (fun c1 => ?_) (fun c1 => ?_)
      · refine T.go 1 (fun n9 => (rfl : _ = exe ξ n9 d j_M_many 43 [(0, .ref 137), (1, J x), (2, J y), (3, J u), (4, J n), (5, J k)] [J n] σ)) ?_
        exact T.ireti rfl rfl ⟨_, rfl, rfl, by omega, by omega, (by rw [show y.toNat = k.toNat by omega]; exact i2)⟩
      · refine T.go 2 (fun n9 => (rfl : _ = exe ξ n9 d j_M_many 15 [(0, .ref 137), (1, J x), (2, J y), (3, J u), (4, J n), (5, J k)] [.ref 137, J n] σ)) ?_
        refine T.get rfl rfl rfl hM.ob rfl ?_
        refine T.go 2 (fun n9 => (rfl : _ = exe ξ n9 d j_M_many 21 [(0, .ref 137), (1, J x), (2, J y), (3, J u), (4, J n), (5, J k)] [J k, J x, .ref 144, J n] σ)) ?_
        refine T.iadd rfl ?_
        refine T.iald rfl rfl hM.c144 (by omega) (fun z1 hzz1 hyz1 hez1 => ?_)
        have gzz1 := gl_of hez1 ⟨hzz1, hyz1⟩
        subst gzz1
        refine T.go 1 (fun n9 => (rfl : _ = exe ξ n9 d j_M_many 24 [(0, .ref 137), (1, J x), (2, J y), (3, J u), (4, J n), (5, J k)] [J u, J (gl lk (x + k)), J n] σ)) ?_
        refine T.icmp_ne rfl rfl (by omega) (by omega) (fun c2 => ?_) (fun c2 => ?_)
        · refine T.go 1 (fun n9 => (rfl : _ = exe ξ n9 d j_M_many 32 [(0, .ref 137), (1, J x), (2, J y), (3, J u), (4, J n), (5, J k)] [J 0, J n] σ)) ?_
          refine T.iadd rfl ?_
          refine T.go 1 (fun n9 => (rfl : _ = exe ξ n9 d j_M_many 35 [(0, .ref 137), (1, J x), (2, J y), (3, J u), (4, J (n + 0)), (5, J k)] [] σ)) ?_
          refine T.iinc (lv' := [(0, .ref 137), (1, J x), (2, J y), (3, J u), (4, J (n + 0)), (5, J (k + 1))]) rfl rfl rfl rfl ?_
          refine T.go 1 (fun n9 => (rfl : _ = exe ξ n9 d j_M_many 6 [(0, .ref 137), (1, J x), (2, J y), (3, J u), (4, J (n + 0)), (5, J (k + 1))] [] σ)) ?_
          exact ih6  (n + 0) (k + 1)  (by omega) (by omega) (by rw [MY_step i0, ← i2]; show _ = n + (if gl lk (x + k) = u then 1 else 0); first | (rw [if_pos (by omega)]) | (rw [if_neg (by omega), Int.add_zero])) (by omega) (by omega) (by omega)
        · refine T.go 2 (fun n9 => (rfl : _ = exe ξ n9 d j_M_many 32 [(0, .ref 137), (1, J x), (2, J y), (3, J u), (4, J n), (5, J k)] [J 1, J n] σ)) ?_
          refine T.iadd rfl ?_
          refine T.go 1 (fun n9 => (rfl : _ = exe ξ n9 d j_M_many 35 [(0, .ref 137), (1, J x), (2, J y), (3, J u), (4, J (n + 1)), (5, J k)] [] σ)) ?_
          refine T.iinc (lv' := [(0, .ref 137), (1, J x), (2, J y), (3, J u), (4, J (n + 1)), (5, J (k + 1))]) rfl rfl rfl rfl ?_
          refine T.go 1 (fun n9 => (rfl : _ = exe ξ n9 d j_M_many 6 [(0, .ref 137), (1, J x), (2, J y), (3, J u), (4, J (n + 1)), (5, J (k + 1))] [] σ)) ?_
          exact ih6  (n + 1) (k + 1)  (by omega) (by omega) (by rw [MY_step i0, ← i2]; show _ = n + (if gl lk (x + k) = u then 1 else 0); first | (rw [if_pos (by omega)]) | (rw [if_neg (by omega), Int.add_zero])) (by omega) (by omega) (by omega)
  refine T.go 4 (fun n9 => (rfl : _ = exe ξ n9 d j_M_many 6 [(0, .ref 137), (1, J x), (2, J y), (3, J u), (4, J 0), (5, J 0)] [] σ)) ?_
  exact loop6 _ 0 0  (by omega) (by omega) rfl (by omega) (by omega) (Nat.lt_succ_self _)

set_option maxHeartbeats 4000000 in
theorem s_M_fisComplete {ξ : Nat → Option (Nat × List Int32)} {c io mo fa pl ns rw en wy wh bi ed sz md bd li wk we : Int} {Lc : List Int64} {la lm ln lh ld lk lt : List Int32} (d : Nat) (x : Int) (y : Int) (σ : qH) (hM : MS σ c io mo fa pl ns rw en wy wh bi ed sz md bd li wk we Lc la lm ln lh ld lk lt) (rx : -2147483648 ≤ x ∧ x ≤ 2147483647) (ry : -2147483648 ≤ y ∧ y ≤ 2147483647) (pre0 : 0 ≤ x) (pre1 : 0 ≤ y) (pre2 : x + y ≤ 360) : T ξ (d + 1) j_M_isComplete 0 (lv_args 0 [.ref 137, J x, J y]) [] σ (fun v σ' => ∃ (z : Int), v = some (J z) ∧ σ' = σ ∧ 0 ≤ z ∧ z ≤ 1 ∧ (z = 1 ↔ OKQ (lkf lk x) y.toNat)) := by
  have r0 := hM.rg
  have n0 := hM.len
  have loop8 : ∀ (f8 : Nat) (s9 : Int) (t9 : Int) (k : Int), 1 ≤ k → k ≤ 16 → s9 = SMQ (lkf lk x) y.toNat (k - 1).toNat → t9 = THQ (lkf lk x) y.toNat (k - 1).toNat → (0 ≤ s9 ∧ s9 ≤ 65536000 * (k - 1)) → (0 ≤ t9 ∧ t9 ≤ 360 * (k - 1)) → (16 - k).toNat < f8 → T ξ (d + 1) j_M_isComplete 8 [(0, .ref 137), (1, J x), (2, J y), (3, J s9), (4, J t9), (5, J k)] [] σ (fun v σ' => ∃ (z : Int), v = some (J z) ∧ σ' = σ ∧ 0 ≤ z ∧ z ≤ 1 ∧ (z = 1 ↔ OKQ (lkf lk x) y.toNat)) := by
    intro f8
    induction f8 with
    | zero => intro s9 t9 k i0 i1 i2 i3 i4 i5 hm8; omega
    | succ f8 ih8 =>
      intro s9 t9 k i0 i1 i2 i3 i4 i5 hm8
      refine T.go 2 (fun n9 => (rfl : _ = exe ξ n9 (d + 1) j_M_isComplete 12 [(0, .ref 137), (1, J x), (2, J y), (3, J s9), (4, J t9), (5, J k)] [J 16, J k] σ)) ?_
      refine T.icmp_ge rfl rfl (by omega) (by omega) (fun c1 => ?_) (fun c1 => ?_)
      · refine T.go 2 (fun n9 => (rfl : _ = exe ξ n9 (d + 1) j_M_isComplete 54 [(0, .ref 137), (1, J x), (2, J y), (3, J s9), (4, J t9), (5, J k)] [J 32768, J s9] σ)) ?_
        refine T.icmp_eq rfl rfl (by omega) (by omega) (fun c2 => ?_) (fun c2 => ?_)
        · refine T.go 2 (fun n9 => (rfl : _ = exe ξ n9 (d + 1) j_M_isComplete 75 [(0, .ref 137), (1, J x), (2, J y), (3, J s9), (4, J t9), (5, J k)] [J 1] σ)) ?_
          have k16 : k = 16 := by omega
          subst k16
          rw [show ((16 : Int) - 1).toNat = 15 from rfl] at i2 i3
          exact T.iretz rfl rfl (by omega) ⟨_, rfl, rfl, by omega, by omega, (by unfold OKQ; omega)⟩
        · refine T.go 2 (fun n9 => (rfl : _ = exe ξ n9 (d + 1) j_M_isComplete 60 [(0, .ref 137), (1, J x), (2, J y), (3, J s9), (4, J t9), (5, J k)] [J 1, J t9] σ)) ?_
          refine T.icmp_ne rfl rfl (by omega) (by omega) (fun c3 => ?_) (fun c3 => ?_)
          · refine T.go 1 (fun n9 => (rfl : _ = exe ξ n9 (d + 1) j_M_isComplete 75 [(0, .ref 137), (1, J x), (2, J y), (3, J s9), (4, J t9), (5, J k)] [J 0] σ)) ?_
            have k16 : k = 16 := by omega
            subst k16
            rw [show ((16 : Int) - 1).toNat = 15 from rfl] at i2 i3
            exact T.iretz rfl rfl (by omega) ⟨_, rfl, rfl, by omega, by omega, (by unfold OKQ; omega)⟩
          · refine T.go 2 (fun n9 => (rfl : _ = exe ξ n9 (d + 1) j_M_isComplete 67 [(0, .ref 137), (1, J x), (2, J y), (3, J s9), (4, J t9), (5, J k)] [J 16384, J s9] σ)) ?_
            refine T.icmp_ne rfl rfl (by omega) (by omega) (fun c4 => ?_) (fun c4 => ?_)
            · refine T.go 1 (fun n9 => (rfl : _ = exe ξ n9 (d + 1) j_M_isComplete 75 [(0, .ref 137), (1, J x), (2, J y), (3, J s9), (4, J t9), (5, J k)] [J 0] σ)) ?_
              have k16 : k = 16 := by omega
              subst k16
              rw [show ((16 : Int) - 1).toNat = 15 from rfl] at i2 i3
              exact T.iretz rfl rfl (by omega) ⟨_, rfl, rfl, by omega, by omega, (by unfold OKQ; omega)⟩
            · refine T.go 2 (fun n9 => (rfl : _ = exe ξ n9 (d + 1) j_M_isComplete 75 [(0, .ref 137), (1, J x), (2, J y), (3, J s9), (4, J t9), (5, J k)] [J 1] σ)) ?_
              have k16 : k = 16 := by omega
              subst k16
              rw [show ((16 : Int) - 1).toNat = 15 from rfl] at i2 i3
              exact T.iretz rfl rfl (by omega) ⟨_, rfl, rfl, by omega, by omega, (by unfold OKQ; omega)⟩
      · refine T.go 5 (fun n9 => (rfl : _ = exe ξ n9 (d + 1) j_M_isComplete 22 [(0, .ref 137), (1, J x), (2, J y), (3, J s9), (4, J t9), (5, J k)] [J k, J y, J x, .ref 137, J t9] σ)) ?_
        refine T.callv (as := [J x, J y, J k]) (r := [J t9]) rfl rfl rfl rfl hM.ob rfl (s_M_fmany d x y k σ hM (by omega) (by omega) (by omega) (by omega) (by omega) (by omega)) (fun v1 s1 hqs1 => ?_)
        obtain ⟨z1, rfl, esz1, hzz1, hyz1, pz1_0⟩ := hqs1
        rw [esz1]
        have myz1 := pz1_0
        refine T.iadd rfl ?_
        refine T.go 6 (fun n9 => (rfl : _ = exe ξ n9 (d + 1) j_M_isComplete 34 [(0, .ref 137), (1, J x), (2, J y), (3, J s9), (4, J (t9 + z1)), (5, J k)] [J k, J y, J x, .ref 137, J s9] σ)) ?_
        refine T.callv (as := [J x, J y, J k]) (r := [J s9]) rfl rfl rfl rfl hM.ob rfl (s_M_fmany d x y k σ hM (by omega) (by omega) (by omega) (by omega) (by omega) (by omega)) (fun v2 s2 hqs2 => ?_)
        obtain ⟨z2, rfl, esz2, hzz2, hyz2, pz2_0⟩ := hqs2
        rw [esz2]
        have myz2 := pz2_0
        have my9 : MY (lkf lk x) k y.toNat = z2 := pz2_0.symm
        refine T.go 2 (fun n9 => (rfl : _ = exe ξ n9 (d + 1) j_M_isComplete 41 [(0, .ref 137), (1, J x), (2, J y), (3, J s9), (4, J (t9 + z1)), (5, J k)] [J k, J 15, J z2, J s9] σ)) ?_
        refine T.isub rfl ?_
        refine T.ishlq rfl (by omega) (by omega) (fun z3 hzz3 hyz3 hvz3 hwz3 huz3 => ?_)
        refine T.iadd rfl ?_
        refine T.go 1 (fun n9 => (rfl : _ = exe ξ n9 (d + 1) j_M_isComplete 45 [(0, .ref 137), (1, J x), (2, J y), (3, J (s9 + z3)), (4, J (t9 + z1)), (5, J k)] [] σ)) ?_
        refine T.iinc (lv' := [(0, .ref 137), (1, J x), (2, J y), (3, J (s9 + z3)), (4, J (t9 + z1)), (5, J (k + 1))]) rfl rfl rfl rfl ?_
        refine T.go 1 (fun n9 => (rfl : _ = exe ξ n9 (d + 1) j_M_isComplete 8 [(0, .ref 137), (1, J x), (2, J y), (3, J (s9 + z3)), (4, J (t9 + z1)), (5, J (k + 1))] [] σ)) ?_
        exact ih8  (s9 + z3) (t9 + z1) (k + 1)  (by omega) (by omega) (by rw [show (k + 1 - 1).toNat = (k - 1).toNat + 1 by omega]; show _ = SMQ (lkf lk x) y.toNat (k - 1).toNat + MY (lkf lk x) (((k - 1).toNat : Int) + 1) y.toNat * P2 (14 - ((k - 1).toNat : Int)); rw [← i2, show (((k - 1).toNat : Int) + 1) = k by omega, show 14 - ((k - 1).toNat : Int) = 15 - k by omega, hvz3, my9]) (by rw [show (k + 1 - 1).toNat = (k - 1).toNat + 1 by omega]; show _ = THQ (lkf lk x) y.toNat (k - 1).toNat + MY (lkf lk x) (((k - 1).toNat : Int) + 1) y.toNat; rw [← i3, show (((k - 1).toNat : Int) + 1) = k by omega]; omega) (by omega) (by omega) (by omega)
  refine T.go 6 (fun n9 => (rfl : _ = exe ξ n9 (d + 1) j_M_isComplete 8 [(0, .ref 137), (1, J x), (2, J y), (3, J 0), (4, J 0), (5, J 1)] [] σ)) ?_
  exact loop8 _ 0 0 1  (by omega) (by omega) rfl rfl (by omega) (by omega) (Nat.lt_succ_self _)

set_option maxHeartbeats 4000000 in
theorem s_M_fpick {ξ : Nat → Option (Nat × List Int32)} {c io mo fa pl ns rw en wy wh bi ed sz md bd li wk we : Int} {Lc : List Int64} {la lm ln lh ld lk lt : List Int32} (d : Nat) (x : Int) (y : Int) (u : Int) (q : Int) (σ : qH) (hM : MS σ c io mo fa pl ns rw en wy wh bi ed sz md bd li wk we Lc la lm ln lh ld lk lt) (rx : -2147483648 ≤ x ∧ x ≤ 2147483647) (ry : -2147483648 ≤ y ∧ y ≤ 2147483647) (ru : -2147483648 ≤ u ∧ u ≤ 2147483647) (rq : -2147483648 ≤ q ∧ q ≤ 2147483647) (pre0 : 0 ≤ x) (pre1 : 0 ≤ y) (pre2 : x + y ≤ 360) (pre3 : 0 ≤ q) (pre4 : q ≤ 100000) : T ξ d j_M_pick 0 (lv_args 0 [.ref 137, J x, J y, J u, J q]) [] σ (fun v σ' => ∃ (z : Int), v = some (J z) ∧ σ' = σ ∧ -1 ≤ z ∧ z ≤ 360 ∧ z = PK (lkf lk x) u q y.toNat) := by
  have r0 := hM.rg
  have n0 := hM.len
  have loop7 : ∀ (f7 : Nat) (l5 : Int) (k : Int), 0 ≤ k → k ≤ y → l5 + MY (lkf lk x) u k.toNat = q → 0 ≤ l5 → l5 ≤ q → (y - k).toNat < f7 → T ξ d j_M_pick 7 [(0, .ref 137), (1, J x), (2, J y), (3, J u), (4, J q), (5, J l5), (6, J k)] [] σ (fun v σ' => ∃ (z : Int), v = some (J z) ∧ σ' = σ ∧ -1 ≤ z ∧ z ≤ 360 ∧ z = PK (lkf lk x) u q y.toNat) := by
    intro f7
    induction f7 with
    | zero => intro l5 k i0 i1 i2 i3 i4 hm7; omega
    | succ f7 ih7 =>
      intro l5 k i0 i1 i2 i3 i4 hm7
      refine T.go 2 (fun n9 => (rfl : _ = exe ξ n9 d j_M_pick 10 [(0, .ref 137), (1, J x), (2, J y), (3, J u), (4, J q), (5, J l5), (6, J k)] [J y, J k] σ)) ?_
      refine T.icmp_ge rfl rfl (by omega) (by omega) (fun c1 => ?_) (fun c1 => ?_)
      · refine T.go 1 (fun n9 => (rfl : _ = exe ξ n9 d j_M_pick 47 [(0, .ref 137), (1, J x), (2, J y), (3, J u), (4, J q), (5, J l5), (6, J k)] [J (-1)] σ)) ?_
        exact T.ireti rfl rfl ⟨_, rfl, rfl, by omega, by omega, (by rw [PK_none _ _ _ _ (by rw [show y.toNat = k.toNat by omega]; omega)])⟩
      · refine T.go 1 (fun n9 => (rfl : _ = exe ξ n9 d j_M_pick 14 [(0, .ref 137), (1, J x), (2, J y), (3, J u), (4, J q), (5, J l5), (6, J k)] [.ref 137] σ)) ?_
        refine T.get rfl rfl rfl hM.ob rfl ?_
        refine T.go 2 (fun n9 => (rfl : _ = exe ξ n9 d j_M_pick 20 [(0, .ref 137), (1, J x), (2, J y), (3, J u), (4, J q), (5, J l5), (6, J k)] [J k, J x, .ref 144] σ)) ?_
        refine T.iadd rfl ?_
        refine T.iald rfl rfl hM.c144 (by omega) (fun z1 hzz1 hyz1 hez1 => ?_)
        have gzz1 := gl_of hez1 ⟨hzz1, hyz1⟩
        subst gzz1
        refine T.go 1 (fun n9 => (rfl : _ = exe ξ n9 d j_M_pick 23 [(0, .ref 137), (1, J x), (2, J y), (3, J u), (4, J q), (5, J l5), (6, J k)] [J u, J (gl lk (x + k))] σ)) ?_
        refine T.icmp_eq rfl rfl (by omega) (by omega) (fun c2 => ?_) (fun c2 => ?_)
        · refine T.go 1 (fun n9 => (rfl : _ = exe ξ n9 d j_M_pick 31 [(0, .ref 137), (1, J x), (2, J y), (3, J u), (4, J q), (5, J l5), (6, J k)] [J l5] σ)) ?_
          refine T.if_ne rfl rfl (by omega) (fun c3 => ?_) (fun c3 => ?_)
          · refine T.iinc (lv' := [(0, .ref 137), (1, J x), (2, J y), (3, J u), (4, J q), (5, J (l5 + (-1))), (6, J k)]) rfl rfl rfl rfl ?_
            refine T.iinc (lv' := [(0, .ref 137), (1, J x), (2, J y), (3, J u), (4, J q), (5, J (l5 + (-1))), (6, J (k + 1))]) rfl rfl rfl rfl ?_
            refine T.go 1 (fun n9 => (rfl : _ = exe ξ n9 d j_M_pick 7 [(0, .ref 137), (1, J x), (2, J y), (3, J u), (4, J q), (5, J (l5 + (-1))), (6, J (k + 1))] [] σ)) ?_
            exact ih7  (l5 + (-1)) (k + 1)  (by omega) (by omega) (by rw [MY_step i0]; show _ + (MY (lkf lk x) u k.toNat + (if gl lk (x + k) = u then 1 else 0)) = q; first | (rw [if_pos (by omega)]; omega) | (rw [if_neg (by omega)]; omega)) (by omega) (by omega) (by omega)
          · refine T.go 1 (fun n9 => (rfl : _ = exe ξ n9 d j_M_pick 36 [(0, .ref 137), (1, J x), (2, J y), (3, J u), (4, J q), (5, J l5), (6, J k)] [J k] σ)) ?_
            exact T.ireti rfl rfl ⟨_, rfl, rfl, by omega, by omega, (PK_at (k := k) (by omega) (by omega) (by show gl lk (x + k) = u; omega) (by omega)).symm⟩
        · refine T.go 1 (fun n9 => (rfl : _ = exe ξ n9 d j_M_pick 40 [(0, .ref 137), (1, J x), (2, J y), (3, J u), (4, J q), (5, J l5), (6, J k)] [] σ)) ?_
          refine T.iinc (lv' := [(0, .ref 137), (1, J x), (2, J y), (3, J u), (4, J q), (5, J l5), (6, J (k + 1))]) rfl rfl rfl rfl ?_
          refine T.go 1 (fun n9 => (rfl : _ = exe ξ n9 d j_M_pick 7 [(0, .ref 137), (1, J x), (2, J y), (3, J u), (4, J q), (5, J l5), (6, J (k + 1))] [] σ)) ?_
          exact ih7  l5 (k + 1)  (by omega) (by omega) (by rw [MY_step i0]; show _ + (MY (lkf lk x) u k.toNat + (if gl lk (x + k) = u then 1 else 0)) = q; first | (rw [if_pos (by omega)]; omega) | (rw [if_neg (by omega)]; omega)) (by omega) (by omega) (by omega)
  refine T.go 4 (fun n9 => (rfl : _ = exe ξ n9 d j_M_pick 7 [(0, .ref 137), (1, J x), (2, J y), (3, J u), (4, J q), (5, J q), (6, J 0)] [] σ)) ?_
  exact loop7 _ q 0  (by omega) (by omega) (by show q + 0 = q; omega) (by omega) (by omega) (Nat.lt_succ_self _)
