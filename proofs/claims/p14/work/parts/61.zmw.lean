/-! The model: a plain block; a copy. -/
set_option maxHeartbeats 4000000 in
theorem s_M_fplainBlock {ξ : Nat → Option (Nat × List Int32)} {c io mo fa pl ns rw en wy wh bi ed sz md bd li wk we : Int} {Lc : List Int64} {la lm ln lh ld lk lt : List Int32} (d : Nat)  (σ : qH) (hM : MS σ c io mo fa pl ns rw en wy wh bi ed sz md bd li wk we Lc la lm ln lh ld lk lt) (pre0 : 0 ≤ bi) (pre1 : bi ≤ ed) (pre2 : ed ≤ 64000) (pre3 : ed % 8 = 0) (pre4 : 0 ≤ md) (pre5 : md ≤ sz) (pre6 : sz ≤ 8000) (pre7 : bd = 0) (pre8 : rw ≤ 3) : T ξ (d + 2) j_M_plainBlock 0 (lv_args 0 [.ref 137]) [] σ (fun v σ' => ∃ (bi1 : Int) (md1 : Int) (bd1 : Int) (Lc1 : List Int64), v = none ∧ MS σ' c io mo fa pl ns rw en wy wh bi1 ed sz md1 bd1 li wk we Lc1 la lm ln lh ld lk lt ∧ FM σ σ' ∧ RG [4] Lc Lc1 ∧ bi ≤ bi1 ∧ bi1 ≤ ed ∧ md ≤ md1 ∧ md1 ≤ sz ∧ MR bd1 bi1 md1 (nm Lc1 md1) (PLN (gc Lc rw) ed sz ((bi + 7) / 8 * 8) md (nm Lc md))) := by
  have r0 := hM.rg
  have n0 := hM.len
  have loop57 : ∀ (f57 : Nat) (n : Int) (u : Int) (k : Int) (bi9 : Int) (md9 : Int) (bd9 : Int) (Lc9 : List Int64) (τ : qH), MS τ c io mo fa pl ns rw en wy wh bi9 ed sz md9 bd9 li wk we Lc9 la lm ln lh ld lk lt → FM σ τ → RG [4] Lc Lc9 → bi ≤ bi9 → bi9 ≤ ed → md ≤ md9 → md9 ≤ sz → 0 ≤ n → n ≤ 65535 → 0 ≤ k → k ≤ n → (bd9 = 0 → n = BV (gc Lc rw) ((bi + 7) / 8 * 8) 16 ∧ bi9 = (bi + 7) / 8 * 8 + 32 + 8 * k ∧ md9 = md + k ∧ (bi + 7) / 8 * 8 + 32 ≤ ed ∧ n + BV (gc Lc rw) ((bi + 7) / 8 * 8 + 16) 16 = 65535) → (bd9 = 0 → nm Lc9 md9 = PLC (gc Lc rw) (nm Lc md) md (((bi + 7) / 8 * 8 + 32) / 8) k.toNat) → (bd9 = 1 → ed < (bi + 7) / 8 * 8 + 32 ∨ BV (gc Lc rw) ((bi + 7) / 8 * 8) 16 + BV (gc Lc rw) ((bi + 7) / 8 * 8 + 16) 16 ≠ 65535 ∨ ed < (bi + 7) / 8 * 8 + 32 + 8 * BV (gc Lc rw) ((bi + 7) / 8 * 8) 16 ∨ sz - md < BV (gc Lc rw) ((bi + 7) / 8 * 8) 16) → (n - k).toNat < f57 → T ξ (d + 2) j_M_plainBlock 57 [(0, .ref 137), (1, J n), (2, J u), (3, J k)] [] τ (fun v σ' => ∃ (bi1 : Int) (md1 : Int) (bd1 : Int) (Lc1 : List Int64), v = none ∧ MS σ' c io mo fa pl ns rw en wy wh bi1 ed sz md1 bd1 li wk we Lc1 la lm ln lh ld lk lt ∧ FM σ σ' ∧ RG [4] Lc Lc1 ∧ bi ≤ bi1 ∧ bi1 ≤ ed ∧ md ≤ md1 ∧ md1 ≤ sz ∧ MR bd1 bi1 md1 (nm Lc1 md1) (PLN (gc Lc rw) ed sz ((bi + 7) / 8 * 8) md (nm Lc md))) := by
    intro f57
    induction f57 with
    | zero => intro n u k bi9 md9 bd9 Lc9 τ mτ fτ gτ i0 i1 i2 i3 i4 i5 i6 i7 i8 i9 i10 hm57; omega
    | succ f57 ih57 =>
      intro n u k bi9 md9 bd9 Lc9 τ mτ fτ gτ i0 i1 i2 i3 i4 i5 i6 i7 i8 i9 i10 hm57
      have rτ := mτ.rg
      have nτ := mτ.len
      refine T.go 2 (fun n9 => (rfl : _ = exe ξ n9 (d + 2) j_M_plainBlock 59 [(0, .ref 137), (1, J n), (2, J u), (3, J k)] [J n, J k] τ)) ?_
      refine T.icmp_ge rfl rfl (by omega) (by omega) (fun c1 => ?_) (fun c1 => ?_)
      · exact T.vret rfl rfl ⟨bi9, md9, bd9, Lc9, rfl, mτ, fτ, gτ, by omega, by omega, by omega, by omega, (by rcases (by omega : bd9 = 0 ∨ bd9 = 1) with h | h; (· exact MR_yes h rfl ((by rw [PLN_is (by omega), show bi9 = (bi + 7) / 8 * 8 + 32 + 8 * BV (gc Lc rw) ((bi + 7) / 8 * 8) 16 by omega, i9 h, show md9 = md + BV (gc Lc rw) ((bi + 7) / 8 * 8) 16 by omega, show k.toNat = (BV (gc Lc rw) ((bi + 7) / 8 * 8) 16).toNat by congr 1; omega]))); (· exact MR_no h (PLN_no (by omega))))⟩
      · refine T.go 1 (fun n9 => (rfl : _ = exe ξ n9 (d + 2) j_M_plainBlock 63 [(0, .ref 137), (1, J n), (2, J u), (3, J k)] [.ref 137] τ)) ?_
        refine T.get rfl rfl rfl mτ.ob rfl ?_
        refine T.if_ne rfl rfl (by omega) (fun c2 => ?_) (fun c2 => ?_)
        · exact T.vret rfl rfl ⟨bi9, md9, bd9, Lc9, rfl, mτ, fτ, gτ, by omega, by omega, by omega, by omega, (by rcases (by omega : bd9 = 0 ∨ bd9 = 1) with h | h; (· exact MR_yes h rfl ((by rw [PLN_is (by omega), show bi9 = (bi + 7) / 8 * 8 + 32 + 8 * BV (gc Lc rw) ((bi + 7) / 8 * 8) 16 by omega, i9 h, show md9 = md + BV (gc Lc rw) ((bi + 7) / 8 * 8) 16 by omega, show k.toNat = (BV (gc Lc rw) ((bi + 7) / 8 * 8) 16).toNat by congr 1; omega]))); (· exact MR_no h (PLN_no (by omega))))⟩
        · refine T.go 3 (fun n9 => (rfl : _ = exe ξ n9 (d + 2) j_M_plainBlock 73 [(0, .ref 137), (1, J n), (2, J u), (3, J k)] [J 8, .ref 137, .ref 137] τ)) ?_
          refine T.callv (as := [J 8]) (r := [.ref 137]) rfl rfl rfl rfl mτ.ob rfl (s_M_ftake d 8 τ mτ (by omega) (by omega) (by omega) (by omega) (by omega) (by omega) (by omega)) (fun v1 s1 hqs1 => ?_)
          obtain ⟨z1, bi_1, bd_1, rfl, ms1, fs1, hzz1, hyz1, pz1_0, pz1_1, pz1_2⟩ := hqs1
          have ns1 := ms1.len
          have rs1 := ms1.rg
          have gs1 := fτ.trans fs1
          rw [show (8 : Int).toNat = 8 from rfl] at pz1_2
          refine T.callv (as := [J z1]) (r := []) rfl rfl rfl rfl ms1.ob rfl (s_M_fout d z1 s1 ms1 (by omega) (by omega) (by omega) (by omega)) (fun v2 s2 hqs2 => ?_)
          obtain ⟨md_1, bd_2, Lc_1, rfl, ms2, fs2, pz2_0, pz2_1, pz2_2, pz2_3, pz2_4, pz2_5⟩ := hqs2
          have ns2 := ms2.len
          have rs2 := ms2.rg
          have gs2 := gs1.trans fs2
          have rgs2 := gτ.trans pz2_0 (by decide)
          refine T.iinc (lv' := [(0, .ref 137), (1, J n), (2, J u), (3, J (k + 1))]) rfl rfl rfl rfl ?_
          refine T.go 1 (fun n9 => (rfl : _ = exe ξ n9 (d + 2) j_M_plainBlock 57 [(0, .ref 137), (1, J n), (2, J u), (3, J (k + 1))] [] s2)) ?_
          have cg := gτ rw (by omega) (fun q => by have := List.mem_singleton.mp q; omega)
          have cr := gc_r Lc9 rw (bi9 / 8)
          have e8 := BV_8 (g := gc Lc9 rw) (b := bi9)
          exact ih57  n u (k + 1) bi_1 md_1 bd_2 Lc_1 s2 ms2 gs2 rgs2 (by omega) (by omega) (by omega) (by omega) (by omega) (by omega) (by omega) (by omega) (by omega) (fun h => by have h0 : bd9 = 0 := (by omega); have h2 : z1 = gc Lc rw (((bi + 7) / 8 * 8 + 32) / 8 + k) := (by have h3 := e8 (by omega) cr; rw [← show bi9 / 8 = ((bi + 7) / 8 * 8 + 32) / 8 + k by omega, ← cg]; omega); have h4 := gc_r Lc rw (((bi + 7) / 8 * 8 + 32) / 8 + k); rw [show md_1 = md9 + 1 by omega, pz2_1 (by omega), PLC_step (by omega), ← i9 h0, show md + k = md9 by omega, show z1 % 256 = gc Lc rw (((bi + 7) / 8 * 8 + 32) / 8 + k) by omega]) (by omega) (by omega)
  refine T.go 2 (fun n9 => (rfl : _ = exe ξ n9 (d + 2) j_M_plainBlock 2 [(0, .ref 137)] [.ref 137, .ref 137] σ)) ?_
  refine T.get rfl rfl rfl hM.ob rfl ?_
  refine T.go 1 (fun n9 => (rfl : _ = exe ξ n9 (d + 2) j_M_plainBlock 7 [(0, .ref 137)] [J 7, J bi, .ref 137] σ)) ?_
  refine T.iadd rfl ?_
  refine T.go 1 (fun n9 => (rfl : _ = exe ξ n9 (d + 2) j_M_plainBlock 10 [(0, .ref 137)] [J 8, J (bi + 7), .ref 137] σ)) ?_
  refine T.idivc (c := 8) rfl (by decide) (by omega) ?_
  refine T.go 1 (fun n9 => (rfl : _ = exe ξ n9 (d + 2) j_M_plainBlock 13 [(0, .ref 137)] [J 8, J ((bi + 7) / 8), .ref 137] σ)) ?_
  refine T.imul rfl ?_
  refine T.mput (c' := c) (io' := io) (mo' := mo) (fa' := fa) (pl' := pl) (ns' := ns) (rw' := rw) (en' := en) (wy' := wy) (wh' := wh) (bi' := ((bi + 7) / 8) * 8) (ed' := ed) (sz' := sz) (md' := md) (bd' := bd) (li' := li) (wk' := wk) (we' := we) hM rfl rfl rfl rfl rfl rfl (by omega) (fun s3 ms3 fs3 => ?_)
  refine T.go 2 (fun n9 => (rfl : _ = exe ξ n9 (d + 2) j_M_plainBlock 20 [(0, .ref 137)] [J 16, .ref 137] s3)) ?_
  refine T.callv (as := [J 16]) (r := []) rfl rfl rfl rfl ms3.ob rfl (s_M_ftake d 16 s3 ms3 (by omega) (by omega) (by omega) (by omega) (by omega) (by omega) (by omega)) (fun v3 s4 hqs4 => ?_)
  obtain ⟨z4, bi_2, bd_3, rfl, ms4, fs4, hzz4, hyz4, pz4_0, pz4_1, pz4_2⟩ := hqs4
  have ns4 := ms4.len
  have rs4 := ms4.rg
  have gs4 := fs3.trans fs4
  rw [show (16 : Int).toNat = 16 from rfl] at pz4_2
  rcases pz4_2 with ⟨taz4, tbz4, tcz4, tdz4, tez4⟩ | ⟨taz4, tbz4⟩
  · have fkz4 := taz4
    refine T.go 3 (fun n9 => (rfl : _ = exe ξ n9 (d + 2) j_M_plainBlock 27 [(0, .ref 137), (1, J z4)] [J 16, .ref 137] s4)) ?_
    refine T.callv (as := [J 16]) (r := []) rfl rfl rfl rfl ms4.ob rfl (s_M_ftake d 16 s4 ms4 (by omega) (by omega) (by omega) (by omega) (by omega) (by omega) (by omega)) (fun v4 s5 hqs5 => ?_)
    obtain ⟨z5, bi_3, bd_4, rfl, ms5, fs5, hzz5, hyz5, pz5_0, pz5_1, pz5_2⟩ := hqs5
    have ns5 := ms5.len
    have rs5 := ms5.rg
    have gs5 := gs4.trans fs5
    rw [show (16 : Int).toNat = 16 from rfl] at pz5_2
    rcases pz5_2 with ⟨taz5, tbz5, tcz5, tdz5, tez5⟩ | ⟨taz5, tbz5⟩
    · rw [show bi_2 = (bi + 7) / 8 * 8 + 16 by omega] at tcz5
      refine T.go 3 (fun n9 => (rfl : _ = exe ξ n9 (d + 2) j_M_plainBlock 33 [(0, .ref 137), (1, J z4), (2, J z5)] [.ref 137, .ref 137] s5)) ?_
      refine T.get rfl rfl rfl ms5.ob rfl ?_
      refine T.if_ne rfl rfl (by omega) (fun c3 => ?_) (fun c3 => ?_)
      · exfalso
        omega
      · refine T.go 2 (fun n9 => (rfl : _ = exe ξ n9 (d + 2) j_M_plainBlock 41 [(0, .ref 137), (1, J z4), (2, J z5)] [J z5, J z4, .ref 137] s5)) ?_
        refine T.ixorq rfl (by omega) (by omega) (fun z6 hzz6 hyz6 hvz6 hwz6 => ?_)
        refine T.go 1 (fun n9 => (rfl : _ = exe ξ n9 (d + 2) j_M_plainBlock 44 [(0, .ref 137), (1, J z4), (2, J z5)] [J 65535, J z6, .ref 137] s5)) ?_
        refine T.icmp_eq rfl rfl (by omega) (by omega) (fun c4 => ?_) (fun c4 => ?_)
        · refine T.go 1 (fun n9 => (rfl : _ = exe ξ n9 (d + 2) j_M_plainBlock 52 [(0, .ref 137), (1, J z4), (2, J z5)] [J 0, .ref 137] s5)) ?_
          refine T.mput (c' := c) (io' := io) (mo' := mo) (fa' := fa) (pl' := pl) (ns' := ns) (rw' := rw) (en' := en) (wy' := wy) (wh' := wh) (bi' := bi_3) (ed' := ed) (sz' := sz) (md' := md) (bd' := 0) (li' := li) (wk' := wk) (we' := we) ms5 rfl rfl rfl rfl rfl rfl (by omega) (fun s6 ms6 fs6 => ?_)
          have gs6 := gs5.trans fs6
          refine T.go 2 (fun n9 => (rfl : _ = exe ξ n9 (d + 2) j_M_plainBlock 57 [(0, .ref 137), (1, J z4), (2, J z5), (3, J 0)] [] s6)) ?_
          exact loop57 _ z4 z5 0 bi_3 md 0 Lc s6 ms6 gs6 RG.refl (by omega) (by omega) (by omega) (by omega) (by omega) (by omega) (by omega) (by omega) (by omega) (fun _ => rfl) (by omega) (Nat.lt_succ_self _)
        · refine T.go 2 (fun n9 => (rfl : _ = exe ξ n9 (d + 2) j_M_plainBlock 52 [(0, .ref 137), (1, J z4), (2, J z5)] [J 1, .ref 137] s5)) ?_
          refine T.mput (c' := c) (io' := io) (mo' := mo) (fa' := fa) (pl' := pl) (ns' := ns) (rw' := rw) (en' := en) (wy' := wy) (wh' := wh) (bi' := bi_3) (ed' := ed) (sz' := sz) (md' := md) (bd' := 1) (li' := li) (wk' := wk) (we' := we) ms5 rfl rfl rfl rfl rfl rfl (by omega) (fun s7 ms7 fs7 => ?_)
          have gs7 := gs5.trans fs7
          refine T.go 2 (fun n9 => (rfl : _ = exe ξ n9 (d + 2) j_M_plainBlock 57 [(0, .ref 137), (1, J z4), (2, J z5), (3, J 0)] [] s7)) ?_
          exact loop57 _ z4 z5 0 bi_3 md 1 Lc s7 ms7 gs7 RG.refl (by omega) (by omega) (by omega) (by omega) (by omega) (by omega) (by omega) (by omega) (by omega) (fun _ => rfl) (by omega) (Nat.lt_succ_self _)
    · have fkz5 := taz5
      refine T.go 3 (fun n9 => (rfl : _ = exe ξ n9 (d + 2) j_M_plainBlock 33 [(0, .ref 137), (1, J z4), (2, J z5)] [.ref 137, .ref 137] s5)) ?_
      refine T.get rfl rfl rfl ms5.ob rfl ?_
      refine T.if_ne rfl rfl (by omega) (fun c5 => ?_) (fun c5 => ?_)
      · refine T.go 2 (fun n9 => (rfl : _ = exe ξ n9 (d + 2) j_M_plainBlock 52 [(0, .ref 137), (1, J z4), (2, J z5)] [J 1, .ref 137] s5)) ?_
        refine T.mput (c' := c) (io' := io) (mo' := mo) (fa' := fa) (pl' := pl) (ns' := ns) (rw' := rw) (en' := en) (wy' := wy) (wh' := wh) (bi' := bi_3) (ed' := ed) (sz' := sz) (md' := md) (bd' := 1) (li' := li) (wk' := wk) (we' := we) ms5 rfl rfl rfl rfl rfl rfl (by omega) (fun s8 ms8 fs8 => ?_)
        have gs8 := gs5.trans fs8
        refine T.go 2 (fun n9 => (rfl : _ = exe ξ n9 (d + 2) j_M_plainBlock 57 [(0, .ref 137), (1, J z4), (2, J z5), (3, J 0)] [] s8)) ?_
        exact loop57 _ z4 z5 0 bi_3 md 1 Lc s8 ms8 gs8 RG.refl (by omega) (by omega) (by omega) (by omega) (by omega) (by omega) (by omega) (by omega) (by omega) (fun _ => rfl) (by omega) (Nat.lt_succ_self _)
      · exfalso
        omega
  · have fkz4 := taz4
    refine T.go 3 (fun n9 => (rfl : _ = exe ξ n9 (d + 2) j_M_plainBlock 27 [(0, .ref 137), (1, J z4)] [J 16, .ref 137] s4)) ?_
    refine T.callv (as := [J 16]) (r := []) rfl rfl rfl rfl ms4.ob rfl (s_M_take d 16 s4 ms4 (by omega) (by omega) (by omega) (by omega) (by omega) (by omega) (by omega)) (fun v5 s9 hqs9 => ?_)
    obtain ⟨z7, bi_4, bd_5, rfl, ms9, fs9, hzz7, hyz7, pz7_0, pz7_1, pz7_2, pz7_3, pz7_4⟩ := hqs9
    have ns9 := ms9.len
    have rs9 := ms9.rg
    have gs9 := gs4.trans fs9
    refine T.go 3 (fun n9 => (rfl : _ = exe ξ n9 (d + 2) j_M_plainBlock 33 [(0, .ref 137), (1, J z4), (2, J z7)] [.ref 137, .ref 137] s9)) ?_
    refine T.get rfl rfl rfl ms9.ob rfl ?_
    refine T.if_ne rfl rfl (by omega) (fun c6 => ?_) (fun c6 => ?_)
    · refine T.go 2 (fun n9 => (rfl : _ = exe ξ n9 (d + 2) j_M_plainBlock 52 [(0, .ref 137), (1, J z4), (2, J z7)] [J 1, .ref 137] s9)) ?_
      refine T.mput (c' := c) (io' := io) (mo' := mo) (fa' := fa) (pl' := pl) (ns' := ns) (rw' := rw) (en' := en) (wy' := wy) (wh' := wh) (bi' := bi_4) (ed' := ed) (sz' := sz) (md' := md) (bd' := 1) (li' := li) (wk' := wk) (we' := we) ms9 rfl rfl rfl rfl rfl rfl (by omega) (fun s10 ms10 fs10 => ?_)
      have gs10 := gs9.trans fs10
      refine T.go 2 (fun n9 => (rfl : _ = exe ξ n9 (d + 2) j_M_plainBlock 57 [(0, .ref 137), (1, J z4), (2, J z7), (3, J 0)] [] s10)) ?_
      exact loop57 _ z4 z7 0 bi_4 md 1 Lc s10 ms10 gs10 RG.refl (by omega) (by omega) (by omega) (by omega) (by omega) (by omega) (by omega) (by omega) (by omega) (fun _ => rfl) (by omega) (Nat.lt_succ_self _)
    · exfalso
      omega

set_option maxHeartbeats 4000000 in
theorem s_M_fcopied {ξ : Nat → Option (Nat × List Int32)} {c io mo fa pl ns rw en wy wh bi ed sz md bd li wk we : Int} {Lc : List Int64} {la lm ln lh ld lk lt : List Int32} (d : Nat) (x : Int) (y : Int) (σ : qH) (hM : MS σ c io mo fa pl ns rw en wy wh bi ed sz md bd li wk we Lc la lm ln lh ld lk lt) (rx : -2147483648 ≤ x ∧ x ≤ 2147483647) (ry : -2147483648 ≤ y ∧ y ≤ 2147483647) (pre0 : 0 ≤ bi) (pre1 : bi ≤ ed) (pre2 : ed ≤ 64000) (pre3 : ed % 8 = 0) (pre4 : 0 ≤ md) (pre5 : md ≤ sz) (pre6 : sz ≤ 8000) (pre7 : 257 ≤ x) (pre8 : x ≤ 300) (pre9 : 0 ≤ y) (pre10 : y ≤ 32) (pre11 : bd = 0) (pre12 : rw ≤ 3) : T ξ (d + 3) j_M_copied 0 (lv_args 0 [.ref 137, J x, J y]) [] σ (fun v σ' => ∃ (bi1 : Int) (md1 : Int) (bd1 : Int) (Lc1 : List Int64), v = none ∧ MS σ' c io mo fa pl ns rw en wy wh bi1 ed sz md1 bd1 li wk we Lc1 la lm ln lh ld lk lt ∧ FM σ σ' ∧ RG [4] Lc Lc1 ∧ bi ≤ bi1 ∧ bi1 ≤ ed ∧ md ≤ md1 ∧ md1 ≤ sz ∧ MR bd1 bi1 md1 (nm Lc1 md1) (CB (gc Lc rw) ed sz (lkf lk 300) y.toNat (x - 257) bi md (nm Lc md))) := by
  have r0 := hM.rg
  have n0 := hM.len
  have sgr := SG_r (g := gc Lc rw) (e := ed) (L := lkf lk 300) (n := y.toNat) 15 (bi + cBi (x - 257)) 0 0 (Int.le_refl _)
  have clb := fun h => cLe_b (k := x - 257) h
  have cbb := fun h => cBi_b (k := x - 257) h
  have wlb := fun h => wLe_b (k := (SG (gc Lc rw) ed (lkf lk 300) y.toNat 15 (bi + cBi (x - 257)) 0 0).1) h
  have wbb := fun h => wBi_b (k := (SG (gc Lc rw) ed (lkf lk 300) y.toNat 15 (bi + cBi (x - 257)) 0 0).1) h
  have loop137 : ∀ (f137 : Nat) (n : Int) (w4 : Int) (b5 : Int) (k : Int) (bi9 : Int) (md9 : Int) (bd9 : Int) (Lc9 : List Int64) (τ : qH), MS τ c io mo fa pl ns rw en wy wh bi9 ed sz md9 bd9 li wk we Lc9 la lm ln lh ld lk lt → FM σ τ → RG [4] Lc Lc9 → bi ≤ bi9 → bi9 ≤ ed → md ≤ md9 → md9 ≤ sz → 0 ≤ k → (k = 0 ∨ k ≤ n) → (-10 ≤ n ∧ n ≤ 100000000) → 0 ≤ b5 → b5 ≤ 100000000 → (bd9 = 0 → n = cLe (x - 257) + BV (gc Lc rw) bi (cBi (x - 257)).toNat ∧ b5 = wLe (SG (gc Lc rw) ed (lkf lk 300) y.toNat 15 (bi + cBi (x - 257)) 0 0).1 + BV (gc Lc rw) (SG (gc Lc rw) ed (lkf lk 300) y.toNat 15 (bi + cBi (x - 257)) 0 0).2 (wBi (SG (gc Lc rw) ed (lkf lk 300) y.toNat 15 (bi + cBi (x - 257)) 0 0).1).toNat ∧ bi9 = (SG (gc Lc rw) ed (lkf lk 300) y.toNat 15 (bi + cBi (x - 257)) 0 0).2 + wBi (SG (gc Lc rw) ed (lkf lk 300) y.toNat 15 (bi + cBi (x - 257)) 0 0).1 ∧ md9 = md + k ∧ k ≤ n ∧ x - 257 < 29 ∧ bi + cBi (x - 257) ≤ ed ∧ 0 ≤ (SG (gc Lc rw) ed (lkf lk 300) y.toNat 15 (bi + cBi (x - 257)) 0 0).1 ∧ (SG (gc Lc rw) ed (lkf lk 300) y.toNat 15 (bi + cBi (x - 257)) 0 0).1 < 30 ∧ (SG (gc Lc rw) ed (lkf lk 300) y.toNat 15 (bi + cBi (x - 257)) 0 0).2 + wBi (SG (gc Lc rw) ed (lkf lk 300) y.toNat 15 (bi + cBi (x - 257)) 0 0).1 ≤ ed ∧ 1 ≤ b5 ∧ b5 ≤ md) → (bd9 = 0 → nm Lc9 md9 = CPY (nm Lc md) md b5 k.toNat) → (bd9 = 1 → 29 ≤ x - 257 ∨ ed < bi + cBi (x - 257) ∨ (SG (gc Lc rw) ed (lkf lk 300) y.toNat 15 (bi + cBi (x - 257)) 0 0).1 < 0 ∨ 30 ≤ (SG (gc Lc rw) ed (lkf lk 300) y.toNat 15 (bi + cBi (x - 257)) 0 0).1 ∨ ed < (SG (gc Lc rw) ed (lkf lk 300) y.toNat 15 (bi + cBi (x - 257)) 0 0).2 + wBi (SG (gc Lc rw) ed (lkf lk 300) y.toNat 15 (bi + cBi (x - 257)) 0 0).1 ∨ md < wLe (SG (gc Lc rw) ed (lkf lk 300) y.toNat 15 (bi + cBi (x - 257)) 0 0).1 + BV (gc Lc rw) (SG (gc Lc rw) ed (lkf lk 300) y.toNat 15 (bi + cBi (x - 257)) 0 0).2 (wBi (SG (gc Lc rw) ed (lkf lk 300) y.toNat 15 (bi + cBi (x - 257)) 0 0).1).toNat ∨ sz - md < cLe (x - 257) + BV (gc Lc rw) bi (cBi (x - 257)).toNat) → (n - k).toNat < f137 → T ξ (d + 3) j_M_copied 137 [(0, .ref 137), (1, J x), (2, J y), (3, J n), (4, J w4), (5, J b5), (6, J k)] [] τ (fun v σ' => ∃ (bi1 : Int) (md1 : Int) (bd1 : Int) (Lc1 : List Int64), v = none ∧ MS σ' c io mo fa pl ns rw en wy wh bi1 ed sz md1 bd1 li wk we Lc1 la lm ln lh ld lk lt ∧ FM σ σ' ∧ RG [4] Lc Lc1 ∧ bi ≤ bi1 ∧ bi1 ≤ ed ∧ md ≤ md1 ∧ md1 ≤ sz ∧ MR bd1 bi1 md1 (nm Lc1 md1) (CB (gc Lc rw) ed sz (lkf lk 300) y.toNat (x - 257) bi md (nm Lc md))) := by
    intro f137
    induction f137 with
    | zero => intro n w4 b5 k bi9 md9 bd9 Lc9 τ mτ fτ gτ i0 i1 i2 i3 i4 i5 i6 i7 i8 i9 i10 i11 hm137; omega
    | succ f137 ih137 =>
      intro n w4 b5 k bi9 md9 bd9 Lc9 τ mτ fτ gτ i0 i1 i2 i3 i4 i5 i6 i7 i8 i9 i10 i11 hm137
      have rτ := mτ.rg
      have nτ := mτ.len
      refine T.go 2 (fun n9 => (rfl : _ = exe ξ n9 (d + 3) j_M_copied 140 [(0, .ref 137), (1, J x), (2, J y), (3, J n), (4, J w4), (5, J b5), (6, J k)] [J n, J k] τ)) ?_
      refine T.icmp_ge rfl rfl (by omega) (by omega) (fun c1 => ?_) (fun c1 => ?_)
      · exact T.vret rfl rfl ⟨bi9, md9, bd9, Lc9, rfl, mτ, fτ, gτ, by omega, by omega, by omega, by omega, (by rcases (by omega : bd9 = 0 ∨ bd9 = 1) with h | h; (· exact MR_yes h rfl (by rw [CB_is (by omega) (by omega) (by omega) (by omega) (by omega) (by omega) (by omega), i10 h, show bi9 = (SG (gc Lc rw) ed (lkf lk 300) y.toNat 15 (bi + cBi (x - 257)) 0 0).2 + wBi (SG (gc Lc rw) ed (lkf lk 300) y.toNat 15 (bi + cBi (x - 257)) 0 0).1 by omega, show md9 = md + (cLe (x - 257) + BV (gc Lc rw) bi (cBi (x - 257)).toNat) by omega, show b5 = wLe (SG (gc Lc rw) ed (lkf lk 300) y.toNat 15 (bi + cBi (x - 257)) 0 0).1 + BV (gc Lc rw) (SG (gc Lc rw) ed (lkf lk 300) y.toNat 15 (bi + cBi (x - 257)) 0 0).2 (wBi (SG (gc Lc rw) ed (lkf lk 300) y.toNat 15 (bi + cBi (x - 257)) 0 0).1).toNat by omega, show k.toNat = (cLe (x - 257) + BV (gc Lc rw) bi (cBi (x - 257)).toNat).toNat by congr 1; omega])); (· exact MR_no h (CB_no (by omega))))⟩
      · refine T.go 1 (fun n9 => (rfl : _ = exe ξ n9 (d + 3) j_M_copied 144 [(0, .ref 137), (1, J x), (2, J y), (3, J n), (4, J w4), (5, J b5), (6, J k)] [.ref 137] τ)) ?_
        refine T.get rfl rfl rfl mτ.ob rfl ?_
        refine T.if_ne rfl rfl (by omega) (fun c2 => ?_) (fun c2 => ?_)
        · exact T.vret rfl rfl ⟨bi9, md9, bd9, Lc9, rfl, mτ, fτ, gτ, by omega, by omega, by omega, by omega, (by rcases (by omega : bd9 = 0 ∨ bd9 = 1) with h | h; (· exact MR_yes h rfl (by rw [CB_is (by omega) (by omega) (by omega) (by omega) (by omega) (by omega) (by omega), i10 h, show bi9 = (SG (gc Lc rw) ed (lkf lk 300) y.toNat 15 (bi + cBi (x - 257)) 0 0).2 + wBi (SG (gc Lc rw) ed (lkf lk 300) y.toNat 15 (bi + cBi (x - 257)) 0 0).1 by omega, show md9 = md + (cLe (x - 257) + BV (gc Lc rw) bi (cBi (x - 257)).toNat) by omega, show b5 = wLe (SG (gc Lc rw) ed (lkf lk 300) y.toNat 15 (bi + cBi (x - 257)) 0 0).1 + BV (gc Lc rw) (SG (gc Lc rw) ed (lkf lk 300) y.toNat 15 (bi + cBi (x - 257)) 0 0).2 (wBi (SG (gc Lc rw) ed (lkf lk 300) y.toNat 15 (bi + cBi (x - 257)) 0 0).1).toNat by omega, show k.toNat = (cLe (x - 257) + BV (gc Lc rw) bi (cBi (x - 257)).toNat).toNat by congr 1; omega])); (· exact MR_no h (CB_no (by omega))))⟩
        · refine T.go 4 (fun n9 => (rfl : _ = exe ξ n9 (d + 3) j_M_copied 154 [(0, .ref 137), (1, J x), (2, J y), (3, J n), (4, J w4), (5, J b5), (6, J k)] [.ref 137, J 4, .ref 137, .ref 137] τ)) ?_
          refine T.get rfl rfl rfl mτ.ob rfl ?_
          refine T.go 1 (fun n9 => (rfl : _ = exe ξ n9 (d + 3) j_M_copied 159 [(0, .ref 137), (1, J x), (2, J y), (3, J n), (4, J w4), (5, J b5), (6, J k)] [J b5, J md9, J 4, .ref 137, .ref 137] τ)) ?_
          refine T.isub rfl ?_
          refine T.callv (as := [J 4, J (md9 - b5)]) (r := [.ref 137]) rfl rfl rfl rfl mτ.ob rfl (s_M_get (d + 2) 4 (md9 - b5) τ mτ (by omega)) (fun v1 s1 hqs1 => ?_)
          obtain ⟨z1, rfl, esz1, hzz1, hyz1, pz1_0⟩ := hqs1
          rw [esz1]
          refine T.callv (as := [J z1]) (r := []) rfl rfl rfl rfl mτ.ob rfl (s_M_fout (d + 1) z1 τ mτ (by omega) (by omega) (by omega) (by omega)) (fun v2 s2 hqs2 => ?_)
          obtain ⟨md_1, bd_1, Lc_1, rfl, ms2, fs2, pz2_0, pz2_1, pz2_2, pz2_3, pz2_4, pz2_5⟩ := hqs2
          have ns2 := ms2.len
          have rs2 := ms2.rg
          have gs2 := fτ.trans fs2
          have rgs2 := gτ.trans pz2_0 (by decide)
          refine T.iinc (lv' := [(0, .ref 137), (1, J x), (2, J y), (3, J n), (4, J w4), (5, J b5), (6, J (k + 1))]) rfl rfl rfl rfl ?_
          refine T.go 1 (fun n9 => (rfl : _ = exe ξ n9 (d + 3) j_M_copied 137 [(0, .ref 137), (1, J x), (2, J y), (3, J n), (4, J w4), (5, J b5), (6, J (k + 1))] [] s2)) ?_
          have gg := gc_at (Lc := Lc9) (r := 4) (k := md9 - b5)
          have cr := gc_r Lc9 4 (md9 - b5)
          exact ih137  n w4 b5 (k + 1) bi9 md_1 bd_1 Lc_1 s2 ms2 gs2 rgs2 (by omega) (by omega) (by omega) (by omega) (by omega) (by omega) (by omega) (by omega) (by omega) (by omega) (fun h => by have h0 : bd9 = 0 := (by omega); have h1 := gg (by omega); have h2 := nm_at (Lc := Lc9) (m := md9) (k := md9 - b5) (by omega); rw [show md_1 = md9 + 1 by omega, pz2_1 (by omega), CPY_step (by omega), ← i10 h0, show md + k = md9 by omega, show z1 % 256 = nm Lc9 md9 (md9 - b5) by omega]) (by omega) (by omega)
  refine T.go 2 (fun n9 => (rfl : _ = exe ξ n9 (d + 3) j_M_copied 2 [(0, .ref 137), (1, J x), (2, J y)] [.ref 137, .ref 137] σ)) ?_
  refine T.get rfl rfl rfl hM.ob rfl ?_
  refine T.if_ne rfl rfl (by omega) (fun c3 => ?_) (fun c3 => ?_)
  · exfalso
    omega
  · refine T.go 2 (fun n9 => (rfl : _ = exe ξ n9 (d + 3) j_M_copied 12 [(0, .ref 137), (1, J x), (2, J y)] [J 285, J x, .ref 137] σ)) ?_
    refine T.icmp_le rfl rfl (by omega) (by omega) (fun c4 => ?_) (fun c4 => ?_)
    · refine T.go 1 (fun n9 => (rfl : _ = exe ξ n9 (d + 3) j_M_copied 20 [(0, .ref 137), (1, J x), (2, J y)] [J 0, .ref 137] σ)) ?_
      refine T.mput (c' := c) (io' := io) (mo' := mo) (fa' := fa) (pl' := pl) (ns' := ns) (rw' := rw) (en' := en) (wy' := wy) (wh' := wh) (bi' := bi) (ed' := ed) (sz' := sz) (md' := md) (bd' := 0) (li' := li) (wk' := wk) (we' := we) hM rfl rfl rfl rfl rfl rfl (by omega) (fun s3 ms3 fs3 => ?_)
      refine T.go 1 (fun n9 => (rfl : _ = exe ξ n9 (d + 3) j_M_copied 24 [(0, .ref 137), (1, J x), (2, J y)] [.ref 137] s3)) ?_
      refine T.get rfl rfl rfl ms3.ob rfl ?_
      refine T.go 3 (fun n9 => (rfl : _ = exe ξ n9 (d + 3) j_M_copied 35 [(0, .ref 137), (1, J x), (2, J y)] [J 285, J x] s3)) ?_
      refine T.icmp_ne rfl rfl (by omega) (by omega) (fun c5 => ?_) (fun c5 => ?_)
      · refine T.go 4 (fun n9 => (rfl : _ = exe ξ n9 (d + 3) j_M_copied 50 [(0, .ref 137), (1, J x), (2, J y)] [J 257, J x, .ref 137, J 3] s3)) ?_
        refine T.isub rfl ?_
        refine T.go 1 (fun n9 => (rfl : _ = exe ξ n9 (d + 3) j_M_copied 52 [(0, .ref 137), (1, J x), (2, J y)] [J 4, J (x - 257), .ref 137, J 3] s3)) ?_
        refine T.callv (as := [J (x - 257), J 4]) (r := [J 3]) rfl rfl rfl rfl ms3.ob rfl (s_M_fstretched4 d (x - 257) s3 ms3 (by omega) (by omega) (by omega) (by omega) (by omega) (by omega) (by omega)) (fun v3 s4 hqs4 => ?_)
        obtain ⟨z3, bi_1, bd_2, rfl, ms4, fs4, hzz3, hyz3, pz3_0, pz3_1, pz3_2⟩ := hqs4
        have ns4 := ms4.len
        have rs4 := ms4.rg
        have gs4 := fs3.trans fs4
        have cb4 : cBi (x - 257) = mor (x - 257) 4 := if_neg (by omega)
        have cl4 : cLe (x - 257) = 3 + frm (x - 257) 4 := if_neg (by omega)
        rw [← cb4] at pz3_2
        rcases pz3_2 with ⟨taz3, tbz3, tcz3, tdz3, tez3⟩ | ⟨taz3, tbz3⟩
        · have fkz3 := taz3
          refine T.iadd rfl ?_
          refine T.go 4 (fun n9 => (rfl : _ = exe ξ n9 (d + 3) j_M_copied 62 [(0, .ref 137), (1, J x), (2, J y), (3, J (3 + z3))] [J y, J 300, .ref 137] s4)) ?_
          refine T.callv (as := [J 300, J y]) (r := []) rfl rfl rfl rfl ms4.ob rfl (s_M_fsign d 300 y s4 ms4 (by omega) (by omega) (by omega) (by omega) (by omega) (by omega) (by omega) (by omega) (by omega) (by omega)) (fun v4 s5 hqs5 => ?_)
          obtain ⟨z4, bi_2, bd_3, rfl, ms5, fs5, hzz4, hyz4, pz4_0, pz4_1, pz4_2⟩ := hqs5
          have ns5 := ms5.len
          have rs5 := ms5.rg
          have gs5 := gs4.trans fs5
          rw [show bi_1 = bi + cBi (x - 257) by omega] at pz4_2
          rcases pz4_2 with ⟨taz4, tbz4, tcz4, tdz4⟩ | ⟨taz4, tbz4⟩
          · have fkz4 := taz4
            refine T.go 3 (fun n9 => (rfl : _ = exe ξ n9 (d + 3) j_M_copied 69 [(0, .ref 137), (1, J x), (2, J y), (3, J (3 + z3)), (4, J z4)] [.ref 137, .ref 137] s5)) ?_
            refine T.get rfl rfl rfl ms5.ob rfl ?_
            refine T.if_ne rfl rfl (by omega) (fun c6 => ?_) (fun c6 => ?_)
            · exfalso
              omega
            · refine T.go 2 (fun n9 => (rfl : _ = exe ξ n9 (d + 3) j_M_copied 79 [(0, .ref 137), (1, J x), (2, J y), (3, J (3 + z3)), (4, J z4)] [J 29, J z4, .ref 137] s5)) ?_
              refine T.icmp_le rfl rfl (by omega) (by omega) (fun c7 => ?_) (fun c7 => ?_)
              · refine T.go 1 (fun n9 => (rfl : _ = exe ξ n9 (d + 3) j_M_copied 87 [(0, .ref 137), (1, J x), (2, J y), (3, J (3 + z3)), (4, J z4)] [J 0, .ref 137] s5)) ?_
                refine T.mput (c' := c) (io' := io) (mo' := mo) (fa' := fa) (pl' := pl) (ns' := ns) (rw' := rw) (en' := en) (wy' := wy) (wh' := wh) (bi' := bi_2) (ed' := ed) (sz' := sz) (md' := md) (bd' := 0) (li' := li) (wk' := wk) (we' := we) ms5 rfl rfl rfl rfl rfl rfl (by omega) (fun s6 ms6 fs6 => ?_)
                have gs6 := gs5.trans fs6
                refine T.go 1 (fun n9 => (rfl : _ = exe ξ n9 (d + 3) j_M_copied 91 [(0, .ref 137), (1, J x), (2, J y), (3, J (3 + z3)), (4, J z4)] [.ref 137] s6)) ?_
                refine T.get rfl rfl rfl ms6.ob rfl ?_
                refine T.go 5 (fun n9 => (rfl : _ = exe ξ n9 (d + 3) j_M_copied 103 [(0, .ref 137), (1, J x), (2, J y), (3, J (3 + z3)), (4, J z4)] [J 2, J z4, .ref 137, J 1] s6)) ?_
                refine T.callv (as := [J z4, J 2]) (r := [J 1]) rfl rfl rfl rfl ms6.ob rfl (s_M_fstretched2 d z4 s6 ms6 (by omega) (by omega) (by omega) (by omega) (by omega) (by omega) (by omega)) (fun v5 s7 hqs7 => ?_)
                obtain ⟨z5, bi_3, bd_4, rfl, ms7, fs7, hzz5, hyz5, pz5_0, pz5_1, pz5_2⟩ := hqs7
                have ns7 := ms7.len
                have rs7 := ms7.rg
                have gs7 := gs6.trans fs7
                rw [show (z4 : Int) = (SG (gc Lc rw) ed (lkf lk 300) y.toNat 15 (bi + cBi (x - 257)) 0 0).1 by omega, show bi_2 = (SG (gc Lc rw) ed (lkf lk 300) y.toNat 15 (bi + cBi (x - 257)) 0 0).2 by omega] at pz5_2
                have wb9 : mor (SG (gc Lc rw) ed (lkf lk 300) y.toNat 15 (bi + cBi (x - 257)) 0 0).1 2 = wBi (SG (gc Lc rw) ed (lkf lk 300) y.toNat 15 (bi + cBi (x - 257)) 0 0).1 := rfl
                have wl9 : wLe (SG (gc Lc rw) ed (lkf lk 300) y.toNat 15 (bi + cBi (x - 257)) 0 0).1 = 1 + frm (SG (gc Lc rw) ed (lkf lk 300) y.toNat 15 (bi + cBi (x - 257)) 0 0).1 2 := rfl
                rw [wb9] at pz5_2
                rcases pz5_2 with ⟨taz5, tbz5, tcz5, tdz5, tez5⟩ | ⟨taz5, tbz5⟩
                · have fkz5 := taz5
                  refine T.iadd rfl ?_
                  refine T.go 3 (fun n9 => (rfl : _ = exe ξ n9 (d + 3) j_M_copied 111 [(0, .ref 137), (1, J x), (2, J y), (3, J (3 + z3)), (4, J z4), (5, J (1 + z5))] [.ref 137, .ref 137] s7)) ?_
                  refine T.get rfl rfl rfl ms7.ob rfl ?_
                  refine T.if_ne rfl rfl (by omega) (fun c8 => ?_) (fun c8 => ?_)
                  · exfalso
                    omega
                  · refine T.go 2 (fun n9 => (rfl : _ = exe ξ n9 (d + 3) j_M_copied 120 [(0, .ref 137), (1, J x), (2, J y), (3, J (3 + z3)), (4, J z4), (5, J (1 + z5))] [.ref 137, J (1 + z5), .ref 137] s7)) ?_
                    refine T.get rfl rfl rfl ms7.ob rfl ?_
                    refine T.icmp_le rfl rfl (by omega) (by omega) (fun c9 => ?_) (fun c9 => ?_)
                    · refine T.go 1 (fun n9 => (rfl : _ = exe ξ n9 (d + 3) j_M_copied 131 [(0, .ref 137), (1, J x), (2, J y), (3, J (3 + z3)), (4, J z4), (5, J (1 + z5))] [J 0, .ref 137] s7)) ?_
                      refine T.mput (c' := c) (io' := io) (mo' := mo) (fa' := fa) (pl' := pl) (ns' := ns) (rw' := rw) (en' := en) (wy' := wy) (wh' := wh) (bi' := bi_3) (ed' := ed) (sz' := sz) (md' := md) (bd' := 0) (li' := li) (wk' := wk) (we' := we) ms7 rfl rfl rfl rfl rfl rfl (by omega) (fun s8 ms8 fs8 => ?_)
                      have gs8 := gs7.trans fs8
                      refine T.go 2 (fun n9 => (rfl : _ = exe ξ n9 (d + 3) j_M_copied 137 [(0, .ref 137), (1, J x), (2, J y), (3, J (3 + z3)), (4, J z4), (5, J (1 + z5)), (6, J 0)] [] s8)) ?_
                      exact loop137 _ (3 + z3) z4 (1 + z5) 0 bi_3 md 0 Lc s8 ms8 gs8 RG.refl (by omega) (by omega) (by omega) (by omega) (by omega) (by omega) (by omega) (by omega) (by omega) (by omega) (fun _ => rfl) (by omega) (Nat.lt_succ_self _)
                    · refine T.go 2 (fun n9 => (rfl : _ = exe ξ n9 (d + 3) j_M_copied 131 [(0, .ref 137), (1, J x), (2, J y), (3, J (3 + z3)), (4, J z4), (5, J (1 + z5))] [J 1, .ref 137] s7)) ?_
                      refine T.mput (c' := c) (io' := io) (mo' := mo) (fa' := fa) (pl' := pl) (ns' := ns) (rw' := rw) (en' := en) (wy' := wy) (wh' := wh) (bi' := bi_3) (ed' := ed) (sz' := sz) (md' := md) (bd' := 1) (li' := li) (wk' := wk) (we' := we) ms7 rfl rfl rfl rfl rfl rfl (by omega) (fun s9 ms9 fs9 => ?_)
                      have gs9 := gs7.trans fs9
                      refine T.go 2 (fun n9 => (rfl : _ = exe ξ n9 (d + 3) j_M_copied 137 [(0, .ref 137), (1, J x), (2, J y), (3, J (3 + z3)), (4, J z4), (5, J (1 + z5)), (6, J 0)] [] s9)) ?_
                      exact loop137 _ (3 + z3) z4 (1 + z5) 0 bi_3 md 1 Lc s9 ms9 gs9 RG.refl (by omega) (by omega) (by omega) (by omega) (by omega) (by omega) (by omega) (by omega) (by omega) (by omega) (fun h => absurd h (by omega)) (by omega) (Nat.lt_succ_self _)
                · have fkz5 := taz5
                  refine T.iadd rfl ?_
                  refine T.go 3 (fun n9 => (rfl : _ = exe ξ n9 (d + 3) j_M_copied 111 [(0, .ref 137), (1, J x), (2, J y), (3, J (3 + z3)), (4, J z4), (5, J (1 + z5))] [.ref 137, .ref 137] s7)) ?_
                  refine T.get rfl rfl rfl ms7.ob rfl ?_
                  refine T.if_ne rfl rfl (by omega) (fun c10 => ?_) (fun c10 => ?_)
                  · refine T.go 2 (fun n9 => (rfl : _ = exe ξ n9 (d + 3) j_M_copied 131 [(0, .ref 137), (1, J x), (2, J y), (3, J (3 + z3)), (4, J z4), (5, J (1 + z5))] [J 1, .ref 137] s7)) ?_
                    refine T.mput (c' := c) (io' := io) (mo' := mo) (fa' := fa) (pl' := pl) (ns' := ns) (rw' := rw) (en' := en) (wy' := wy) (wh' := wh) (bi' := bi_3) (ed' := ed) (sz' := sz) (md' := md) (bd' := 1) (li' := li) (wk' := wk) (we' := we) ms7 rfl rfl rfl rfl rfl rfl (by omega) (fun s10 ms10 fs10 => ?_)
                    have gs10 := gs7.trans fs10
                    refine T.go 2 (fun n9 => (rfl : _ = exe ξ n9 (d + 3) j_M_copied 137 [(0, .ref 137), (1, J x), (2, J y), (3, J (3 + z3)), (4, J z4), (5, J (1 + z5)), (6, J 0)] [] s10)) ?_
                    exact loop137 _ (3 + z3) z4 (1 + z5) 0 bi_3 md 1 Lc s10 ms10 gs10 RG.refl (by omega) (by omega) (by omega) (by omega) (by omega) (by omega) (by omega) (by omega) (by omega) (by omega) (fun h => absurd h (by omega)) (by omega) (Nat.lt_succ_self _)
                  · exfalso
                    omega
              · refine T.go 2 (fun n9 => (rfl : _ = exe ξ n9 (d + 3) j_M_copied 87 [(0, .ref 137), (1, J x), (2, J y), (3, J (3 + z3)), (4, J z4)] [J 1, .ref 137] s5)) ?_
                refine T.mput (c' := c) (io' := io) (mo' := mo) (fa' := fa) (pl' := pl) (ns' := ns) (rw' := rw) (en' := en) (wy' := wy) (wh' := wh) (bi' := bi_2) (ed' := ed) (sz' := sz) (md' := md) (bd' := 1) (li' := li) (wk' := wk) (we' := we) ms5 rfl rfl rfl rfl rfl rfl (by omega) (fun s11 ms11 fs11 => ?_)
                have gs11 := gs5.trans fs11
                refine T.go 1 (fun n9 => (rfl : _ = exe ξ n9 (d + 3) j_M_copied 91 [(0, .ref 137), (1, J x), (2, J y), (3, J (3 + z3)), (4, J z4)] [.ref 137] s11)) ?_
                refine T.get rfl rfl rfl ms11.ob rfl ?_
                refine T.go 1 (fun n9 => (rfl : _ = exe ξ n9 (d + 3) j_M_copied 97 [(0, .ref 137), (1, J x), (2, J y), (3, J (3 + z3)), (4, J z4)] [] s11)) ?_
                exact T.vret rfl rfl ⟨bi_2, md, 1, Lc, rfl, ms11, gs11, RG.refl, by omega, by omega, by omega, by omega, (MR_no (by omega) (CB_no (by omega)))⟩
          · have fkz4 := taz4
            refine T.go 3 (fun n9 => (rfl : _ = exe ξ n9 (d + 3) j_M_copied 69 [(0, .ref 137), (1, J x), (2, J y), (3, J (3 + z3)), (4, J z4)] [.ref 137, .ref 137] s5)) ?_
            refine T.get rfl rfl rfl ms5.ob rfl ?_
            refine T.if_ne rfl rfl (by omega) (fun c11 => ?_) (fun c11 => ?_)
            · refine T.go 2 (fun n9 => (rfl : _ = exe ξ n9 (d + 3) j_M_copied 87 [(0, .ref 137), (1, J x), (2, J y), (3, J (3 + z3)), (4, J z4)] [J 1, .ref 137] s5)) ?_
              refine T.mput (c' := c) (io' := io) (mo' := mo) (fa' := fa) (pl' := pl) (ns' := ns) (rw' := rw) (en' := en) (wy' := wy) (wh' := wh) (bi' := bi_2) (ed' := ed) (sz' := sz) (md' := md) (bd' := 1) (li' := li) (wk' := wk) (we' := we) ms5 rfl rfl rfl rfl rfl rfl (by omega) (fun s12 ms12 fs12 => ?_)
              have gs12 := gs5.trans fs12
              refine T.go 1 (fun n9 => (rfl : _ = exe ξ n9 (d + 3) j_M_copied 91 [(0, .ref 137), (1, J x), (2, J y), (3, J (3 + z3)), (4, J z4)] [.ref 137] s12)) ?_
              refine T.get rfl rfl rfl ms12.ob rfl ?_
              refine T.go 1 (fun n9 => (rfl : _ = exe ξ n9 (d + 3) j_M_copied 97 [(0, .ref 137), (1, J x), (2, J y), (3, J (3 + z3)), (4, J z4)] [] s12)) ?_
              exact T.vret rfl rfl ⟨bi_2, md, 1, Lc, rfl, ms12, gs12, RG.refl, by omega, by omega, by omega, by omega, (MR_no (by omega) (CB_no (by omega)))⟩
            · exfalso
              omega
        · have fkz3 := taz3
          refine T.iadd rfl ?_
          refine T.go 4 (fun n9 => (rfl : _ = exe ξ n9 (d + 3) j_M_copied 62 [(0, .ref 137), (1, J x), (2, J y), (3, J (3 + z3))] [J y, J 300, .ref 137] s4)) ?_
          refine T.callv (as := [J 300, J y]) (r := []) rfl rfl rfl rfl ms4.ob rfl (s_M_sign d 300 y s4 ms4 (by omega) (by omega) (by omega) (by omega) (by omega) (by omega) (by omega) (by omega) (by omega)) (fun v6 s13 hqs13 => ?_)
          obtain ⟨z6, bi_4, bd_5, rfl, ms13, fs13, hzz6, hyz6, pz6_0, pz6_1, pz6_2, pz6_3, pz6_4⟩ := hqs13
          have ns13 := ms13.len
          have rs13 := ms13.rg
          have gs13 := gs4.trans fs13
          refine T.go 3 (fun n9 => (rfl : _ = exe ξ n9 (d + 3) j_M_copied 69 [(0, .ref 137), (1, J x), (2, J y), (3, J (3 + z3)), (4, J z6)] [.ref 137, .ref 137] s13)) ?_
          refine T.get rfl rfl rfl ms13.ob rfl ?_
          refine T.if_ne rfl rfl (by omega) (fun c12 => ?_) (fun c12 => ?_)
          · refine T.go 2 (fun n9 => (rfl : _ = exe ξ n9 (d + 3) j_M_copied 87 [(0, .ref 137), (1, J x), (2, J y), (3, J (3 + z3)), (4, J z6)] [J 1, .ref 137] s13)) ?_
            refine T.mput (c' := c) (io' := io) (mo' := mo) (fa' := fa) (pl' := pl) (ns' := ns) (rw' := rw) (en' := en) (wy' := wy) (wh' := wh) (bi' := bi_4) (ed' := ed) (sz' := sz) (md' := md) (bd' := 1) (li' := li) (wk' := wk) (we' := we) ms13 rfl rfl rfl rfl rfl rfl (by omega) (fun s14 ms14 fs14 => ?_)
            have gs14 := gs13.trans fs14
            refine T.go 1 (fun n9 => (rfl : _ = exe ξ n9 (d + 3) j_M_copied 91 [(0, .ref 137), (1, J x), (2, J y), (3, J (3 + z3)), (4, J z6)] [.ref 137] s14)) ?_
            refine T.get rfl rfl rfl ms14.ob rfl ?_
            refine T.go 1 (fun n9 => (rfl : _ = exe ξ n9 (d + 3) j_M_copied 97 [(0, .ref 137), (1, J x), (2, J y), (3, J (3 + z3)), (4, J z6)] [] s14)) ?_
            exact T.vret rfl rfl ⟨bi_4, md, 1, Lc, rfl, ms14, gs14, RG.refl, by omega, by omega, by omega, by omega, (MR_no (by omega) (CB_no (by omega)))⟩
          · exfalso
            omega
      · refine T.go 6 (fun n9 => (rfl : _ = exe ξ n9 (d + 3) j_M_copied 62 [(0, .ref 137), (1, J x), (2, J y), (3, J 258)] [J y, J 300, .ref 137] s3)) ?_
        refine T.callv (as := [J 300, J y]) (r := []) rfl rfl rfl rfl ms3.ob rfl (s_M_fsign d 300 y s3 ms3 (by omega) (by omega) (by omega) (by omega) (by omega) (by omega) (by omega) (by omega) (by omega) (by omega)) (fun v7 s15 hqs15 => ?_)
        obtain ⟨z7, bi_5, bd_6, rfl, ms15, fs15, hzz7, hyz7, pz7_0, pz7_1, pz7_2⟩ := hqs15
        have ns15 := ms15.len
        have rs15 := ms15.rg
        have gs15 := fs3.trans fs15
        have cb4 : cBi (x - 257) = 0 := by rw [show x - 257 = 28 by omega]; rfl
        have cl4 : cLe (x - 257) = 258 := by rw [show x - 257 = 28 by omega]; rfl
        have bv4 : BV (gc Lc rw) bi (cBi (x - 257)).toNat = 0 := by rw [cb4]; rfl
        rw [show SG (gc Lc rw) ed (lkf lk 300) y.toNat 15 bi 0 0 = SG (gc Lc rw) ed (lkf lk 300) y.toNat 15 (bi + cBi (x - 257)) 0 0 by rw [cb4, Int.add_zero]] at pz7_2
        rcases pz7_2 with ⟨taz7, tbz7, tcz7, tdz7⟩ | ⟨taz7, tbz7⟩
        · have fkz7 := taz7
          refine T.go 3 (fun n9 => (rfl : _ = exe ξ n9 (d + 3) j_M_copied 69 [(0, .ref 137), (1, J x), (2, J y), (3, J 258), (4, J z7)] [.ref 137, .ref 137] s15)) ?_
          refine T.get rfl rfl rfl ms15.ob rfl ?_
          refine T.if_ne rfl rfl (by omega) (fun c13 => ?_) (fun c13 => ?_)
          · exfalso
            omega
          · refine T.go 2 (fun n9 => (rfl : _ = exe ξ n9 (d + 3) j_M_copied 79 [(0, .ref 137), (1, J x), (2, J y), (3, J 258), (4, J z7)] [J 29, J z7, .ref 137] s15)) ?_
            refine T.icmp_le rfl rfl (by omega) (by omega) (fun c14 => ?_) (fun c14 => ?_)
            · refine T.go 1 (fun n9 => (rfl : _ = exe ξ n9 (d + 3) j_M_copied 87 [(0, .ref 137), (1, J x), (2, J y), (3, J 258), (4, J z7)] [J 0, .ref 137] s15)) ?_
              refine T.mput (c' := c) (io' := io) (mo' := mo) (fa' := fa) (pl' := pl) (ns' := ns) (rw' := rw) (en' := en) (wy' := wy) (wh' := wh) (bi' := bi_5) (ed' := ed) (sz' := sz) (md' := md) (bd' := 0) (li' := li) (wk' := wk) (we' := we) ms15 rfl rfl rfl rfl rfl rfl (by omega) (fun s16 ms16 fs16 => ?_)
              have gs16 := gs15.trans fs16
              refine T.go 1 (fun n9 => (rfl : _ = exe ξ n9 (d + 3) j_M_copied 91 [(0, .ref 137), (1, J x), (2, J y), (3, J 258), (4, J z7)] [.ref 137] s16)) ?_
              refine T.get rfl rfl rfl ms16.ob rfl ?_
              refine T.go 5 (fun n9 => (rfl : _ = exe ξ n9 (d + 3) j_M_copied 103 [(0, .ref 137), (1, J x), (2, J y), (3, J 258), (4, J z7)] [J 2, J z7, .ref 137, J 1] s16)) ?_
              refine T.callv (as := [J z7, J 2]) (r := [J 1]) rfl rfl rfl rfl ms16.ob rfl (s_M_fstretched2 d z7 s16 ms16 (by omega) (by omega) (by omega) (by omega) (by omega) (by omega) (by omega)) (fun v8 s17 hqs17 => ?_)
              obtain ⟨z8, bi_6, bd_7, rfl, ms17, fs17, hzz8, hyz8, pz8_0, pz8_1, pz8_2⟩ := hqs17
              have ns17 := ms17.len
              have rs17 := ms17.rg
              have gs17 := gs16.trans fs17
              rw [show (z7 : Int) = (SG (gc Lc rw) ed (lkf lk 300) y.toNat 15 (bi + cBi (x - 257)) 0 0).1 by omega, show bi_5 = (SG (gc Lc rw) ed (lkf lk 300) y.toNat 15 (bi + cBi (x - 257)) 0 0).2 by omega] at pz8_2
              have wb9 : mor (SG (gc Lc rw) ed (lkf lk 300) y.toNat 15 (bi + cBi (x - 257)) 0 0).1 2 = wBi (SG (gc Lc rw) ed (lkf lk 300) y.toNat 15 (bi + cBi (x - 257)) 0 0).1 := rfl
              have wl9 : wLe (SG (gc Lc rw) ed (lkf lk 300) y.toNat 15 (bi + cBi (x - 257)) 0 0).1 = 1 + frm (SG (gc Lc rw) ed (lkf lk 300) y.toNat 15 (bi + cBi (x - 257)) 0 0).1 2 := rfl
              rw [wb9] at pz8_2
              rcases pz8_2 with ⟨taz8, tbz8, tcz8, tdz8, tez8⟩ | ⟨taz8, tbz8⟩
              · have fkz8 := taz8
                refine T.iadd rfl ?_
                refine T.go 3 (fun n9 => (rfl : _ = exe ξ n9 (d + 3) j_M_copied 111 [(0, .ref 137), (1, J x), (2, J y), (3, J 258), (4, J z7), (5, J (1 + z8))] [.ref 137, .ref 137] s17)) ?_
                refine T.get rfl rfl rfl ms17.ob rfl ?_
                refine T.if_ne rfl rfl (by omega) (fun c15 => ?_) (fun c15 => ?_)
                · exfalso
                  omega
                · refine T.go 2 (fun n9 => (rfl : _ = exe ξ n9 (d + 3) j_M_copied 120 [(0, .ref 137), (1, J x), (2, J y), (3, J 258), (4, J z7), (5, J (1 + z8))] [.ref 137, J (1 + z8), .ref 137] s17)) ?_
                  refine T.get rfl rfl rfl ms17.ob rfl ?_
                  refine T.icmp_le rfl rfl (by omega) (by omega) (fun c16 => ?_) (fun c16 => ?_)
                  · refine T.go 1 (fun n9 => (rfl : _ = exe ξ n9 (d + 3) j_M_copied 131 [(0, .ref 137), (1, J x), (2, J y), (3, J 258), (4, J z7), (5, J (1 + z8))] [J 0, .ref 137] s17)) ?_
                    refine T.mput (c' := c) (io' := io) (mo' := mo) (fa' := fa) (pl' := pl) (ns' := ns) (rw' := rw) (en' := en) (wy' := wy) (wh' := wh) (bi' := bi_6) (ed' := ed) (sz' := sz) (md' := md) (bd' := 0) (li' := li) (wk' := wk) (we' := we) ms17 rfl rfl rfl rfl rfl rfl (by omega) (fun s18 ms18 fs18 => ?_)
                    have gs18 := gs17.trans fs18
                    refine T.go 2 (fun n9 => (rfl : _ = exe ξ n9 (d + 3) j_M_copied 137 [(0, .ref 137), (1, J x), (2, J y), (3, J 258), (4, J z7), (5, J (1 + z8)), (6, J 0)] [] s18)) ?_
                    exact loop137 _ 258 z7 (1 + z8) 0 bi_6 md 0 Lc s18 ms18 gs18 RG.refl (by omega) (by omega) (by omega) (by omega) (by omega) (by omega) (by omega) (by omega) (by omega) (by omega) (fun _ => rfl) (by omega) (Nat.lt_succ_self _)
                  · refine T.go 2 (fun n9 => (rfl : _ = exe ξ n9 (d + 3) j_M_copied 131 [(0, .ref 137), (1, J x), (2, J y), (3, J 258), (4, J z7), (5, J (1 + z8))] [J 1, .ref 137] s17)) ?_
                    refine T.mput (c' := c) (io' := io) (mo' := mo) (fa' := fa) (pl' := pl) (ns' := ns) (rw' := rw) (en' := en) (wy' := wy) (wh' := wh) (bi' := bi_6) (ed' := ed) (sz' := sz) (md' := md) (bd' := 1) (li' := li) (wk' := wk) (we' := we) ms17 rfl rfl rfl rfl rfl rfl (by omega) (fun s19 ms19 fs19 => ?_)
                    have gs19 := gs17.trans fs19
                    refine T.go 2 (fun n9 => (rfl : _ = exe ξ n9 (d + 3) j_M_copied 137 [(0, .ref 137), (1, J x), (2, J y), (3, J 258), (4, J z7), (5, J (1 + z8)), (6, J 0)] [] s19)) ?_
                    exact loop137 _ 258 z7 (1 + z8) 0 bi_6 md 1 Lc s19 ms19 gs19 RG.refl (by omega) (by omega) (by omega) (by omega) (by omega) (by omega) (by omega) (by omega) (by omega) (by omega) (fun h => absurd h (by omega)) (by omega) (Nat.lt_succ_self _)
              · have fkz8 := taz8
                refine T.iadd rfl ?_
                refine T.go 3 (fun n9 => (rfl : _ = exe ξ n9 (d + 3) j_M_copied 111 [(0, .ref 137), (1, J x), (2, J y), (3, J 258), (4, J z7), (5, J (1 + z8))] [.ref 137, .ref 137] s17)) ?_
                refine T.get rfl rfl rfl ms17.ob rfl ?_
                refine T.if_ne rfl rfl (by omega) (fun c17 => ?_) (fun c17 => ?_)
                · refine T.go 2 (fun n9 => (rfl : _ = exe ξ n9 (d + 3) j_M_copied 131 [(0, .ref 137), (1, J x), (2, J y), (3, J 258), (4, J z7), (5, J (1 + z8))] [J 1, .ref 137] s17)) ?_
                  refine T.mput (c' := c) (io' := io) (mo' := mo) (fa' := fa) (pl' := pl) (ns' := ns) (rw' := rw) (en' := en) (wy' := wy) (wh' := wh) (bi' := bi_6) (ed' := ed) (sz' := sz) (md' := md) (bd' := 1) (li' := li) (wk' := wk) (we' := we) ms17 rfl rfl rfl rfl rfl rfl (by omega) (fun s20 ms20 fs20 => ?_)
                  have gs20 := gs17.trans fs20
                  refine T.go 2 (fun n9 => (rfl : _ = exe ξ n9 (d + 3) j_M_copied 137 [(0, .ref 137), (1, J x), (2, J y), (3, J 258), (4, J z7), (5, J (1 + z8)), (6, J 0)] [] s20)) ?_
                  exact loop137 _ 258 z7 (1 + z8) 0 bi_6 md 1 Lc s20 ms20 gs20 RG.refl (by omega) (by omega) (by omega) (by omega) (by omega) (by omega) (by omega) (by omega) (by omega) (by omega) (fun h => absurd h (by omega)) (by omega) (Nat.lt_succ_self _)
                · exfalso
                  omega
            · refine T.go 2 (fun n9 => (rfl : _ = exe ξ n9 (d + 3) j_M_copied 87 [(0, .ref 137), (1, J x), (2, J y), (3, J 258), (4, J z7)] [J 1, .ref 137] s15)) ?_
              refine T.mput (c' := c) (io' := io) (mo' := mo) (fa' := fa) (pl' := pl) (ns' := ns) (rw' := rw) (en' := en) (wy' := wy) (wh' := wh) (bi' := bi_5) (ed' := ed) (sz' := sz) (md' := md) (bd' := 1) (li' := li) (wk' := wk) (we' := we) ms15 rfl rfl rfl rfl rfl rfl (by omega) (fun s21 ms21 fs21 => ?_)
              have gs21 := gs15.trans fs21
              refine T.go 1 (fun n9 => (rfl : _ = exe ξ n9 (d + 3) j_M_copied 91 [(0, .ref 137), (1, J x), (2, J y), (3, J 258), (4, J z7)] [.ref 137] s21)) ?_
              refine T.get rfl rfl rfl ms21.ob rfl ?_
              refine T.go 1 (fun n9 => (rfl : _ = exe ξ n9 (d + 3) j_M_copied 97 [(0, .ref 137), (1, J x), (2, J y), (3, J 258), (4, J z7)] [] s21)) ?_
              exact T.vret rfl rfl ⟨bi_5, md, 1, Lc, rfl, ms21, gs21, RG.refl, by omega, by omega, by omega, by omega, (MR_no (by omega) (CB_no (by omega)))⟩
        · have fkz7 := taz7
          refine T.go 3 (fun n9 => (rfl : _ = exe ξ n9 (d + 3) j_M_copied 69 [(0, .ref 137), (1, J x), (2, J y), (3, J 258), (4, J z7)] [.ref 137, .ref 137] s15)) ?_
          refine T.get rfl rfl rfl ms15.ob rfl ?_
          refine T.if_ne rfl rfl (by omega) (fun c18 => ?_) (fun c18 => ?_)
          · refine T.go 2 (fun n9 => (rfl : _ = exe ξ n9 (d + 3) j_M_copied 87 [(0, .ref 137), (1, J x), (2, J y), (3, J 258), (4, J z7)] [J 1, .ref 137] s15)) ?_
            refine T.mput (c' := c) (io' := io) (mo' := mo) (fa' := fa) (pl' := pl) (ns' := ns) (rw' := rw) (en' := en) (wy' := wy) (wh' := wh) (bi' := bi_5) (ed' := ed) (sz' := sz) (md' := md) (bd' := 1) (li' := li) (wk' := wk) (we' := we) ms15 rfl rfl rfl rfl rfl rfl (by omega) (fun s22 ms22 fs22 => ?_)
            have gs22 := gs15.trans fs22
            refine T.go 1 (fun n9 => (rfl : _ = exe ξ n9 (d + 3) j_M_copied 91 [(0, .ref 137), (1, J x), (2, J y), (3, J 258), (4, J z7)] [.ref 137] s22)) ?_
            refine T.get rfl rfl rfl ms22.ob rfl ?_
            refine T.go 1 (fun n9 => (rfl : _ = exe ξ n9 (d + 3) j_M_copied 97 [(0, .ref 137), (1, J x), (2, J y), (3, J 258), (4, J z7)] [] s22)) ?_
            exact T.vret rfl rfl ⟨bi_5, md, 1, Lc, rfl, ms22, gs22, RG.refl, by omega, by omega, by omega, by omega, (MR_no (by omega) (CB_no (by omega)))⟩
          · exfalso
            omega
    · refine T.go 2 (fun n9 => (rfl : _ = exe ξ n9 (d + 3) j_M_copied 20 [(0, .ref 137), (1, J x), (2, J y)] [J 1, .ref 137] σ)) ?_
      refine T.mput (c' := c) (io' := io) (mo' := mo) (fa' := fa) (pl' := pl) (ns' := ns) (rw' := rw) (en' := en) (wy' := wy) (wh' := wh) (bi' := bi) (ed' := ed) (sz' := sz) (md' := md) (bd' := 1) (li' := li) (wk' := wk) (we' := we) hM rfl rfl rfl rfl rfl rfl (by omega) (fun s23 ms23 fs23 => ?_)
      refine T.go 1 (fun n9 => (rfl : _ = exe ξ n9 (d + 3) j_M_copied 24 [(0, .ref 137), (1, J x), (2, J y)] [.ref 137] s23)) ?_
      refine T.get rfl rfl rfl ms23.ob rfl ?_
      refine T.go 1 (fun n9 => (rfl : _ = exe ξ n9 (d + 3) j_M_copied 30 [(0, .ref 137), (1, J x), (2, J y)] [] s23)) ?_
      exact T.vret rfl rfl ⟨bi, md, 1, Lc, rfl, ms23, fs23, RG.refl, by omega, by omega, by omega, by omega, (MR_no (by omega) (CB_no (by omega)))⟩
