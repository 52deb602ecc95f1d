/-! The model: what its calls keep. -/
set_option maxHeartbeats 4000000 in
theorem s_M_zcount {ξ : Nat → Option (Nat × List Int32)} {c io mo fa pl ns rw en wy wh bi ed sz md bd li wk we : Int} {Lc : List Int64} {la lm ln lh ld lk lt : List Int32} (d : Nat) (x : Int) (σ : qH) (hM : MS σ c io mo fa pl ns rw en wy wh bi ed sz md bd li wk we Lc la lm ln lh ld lk lt) (rx : -2147483648 ≤ x ∧ x ≤ 2147483647) (pre0 : OKM Lc la lm io mo) (pre1 : MTX io (gc Lc 1) (gl la 1) lm mo) : T ξ (d + 10) j_M_count 0 (lv_args 0 [.ref 137, J x]) [] σ (fun v σ' => ∃ (z : Int) (c1 : Int) (rw1 : Int) (en1 : Int) (wy1 : Int) (wh1 : Int) (bi1 : Int) (ed1 : Int) (sz1 : Int) (md1 : Int) (bd1 : Int) (Lc1 : List Int64) (la1 : List Int32) (lk1 : List Int32) (lh1 : List Int32) (ld1 : List Int32), v = some (J z) ∧ MS σ' c1 io mo fa pl ns rw1 en1 wy1 wh1 bi1 ed1 sz1 md1 bd1 li wk we Lc1 la1 lm ln lh1 ld1 lk1 lt ∧ FM σ σ' ∧ -2147483648 ≤ z ∧ z ≤ 2147483647 ∧ OKM Lc1 la1 lm io mo ∧ gl la1 0 = gl la 0 ∧ gc Lc1 0 = gc Lc 0 ∧ (x = -1 → io = 1 → z = 1 + mo) ∧ (x = -1 → io = 0 → z = 0) ∧ (x ≠ -1 → ¬ (io = 1 ∧ 0 ≤ x ∧ x ≤ mo) → z = -1) ∧ (x = 0 → io = 1 → z = NEf (gc Lc 1) (gl la 1)) ∧ (1 ≤ x → io = 1 → x ≤ mo → ENx (gc Lc 1) (gl la 1) (gl lm (x - 1)) z) ∧ gc Lc1 1 = gc Lc 1 ∧ gl la1 1 = gl la 1 ∧ gc Lc1 3 = gc Lc 3 ∧ gl la1 3 = gl la 3 ∧ gc Lc1 6 = gc Lc 6 ∧ gl la1 6 = gl la 6) := by
  have r0 := hM.rg
  have n0 := hM.len
  refine T.go 2 (fun n9 => (rfl : _ = exe ξ n9 (d + 10) j_M_count 2 [(0, .ref 137), (1, J x)] [J 0, .ref 137] σ)) ?_
  refine T.mput (c' := 0) (io' := io) (mo' := mo) (fa' := fa) (pl' := pl) (ns' := ns) (rw' := rw) (en' := en) (wy' := wy) (wh' := wh) (bi' := bi) (ed' := ed) (sz' := sz) (md' := md) (bd' := bd) (li' := li) (wk' := wk) (we' := we) hM rfl rfl rfl rfl rfl rfl (by omega) (fun s1 ms1 fs1 => ?_)
  refine T.go 2 (fun n9 => (rfl : _ = exe ξ n9 (d + 10) j_M_count 7 [(0, .ref 137), (1, J x)] [J (-1), J x] s1)) ?_
  refine T.icmp_ne rfl rfl (by omega) (by omega) (fun c1 => ?_) (fun c1 => ?_)
  · refine T.go 2 (fun n9 => (rfl : _ = exe ξ n9 (d + 10) j_M_count 30 [(0, .ref 137), (1, J x)] [J x, .ref 137] s1)) ?_
    refine T.callv (as := [J x]) (r := []) rfl rfl rfl rfl ms1.ob rfl (s_M_fisArchive (d + 8) x s1 ms1 (by omega)) (fun v1 s2 hqs2 => ?_)
    obtain ⟨z1, rfl, esz1, hzz1, hyz1, pz1_0, pz1_1⟩ := hqs2
    rw [esz1]
    refine T.if_ne rfl rfl (by omega) (fun c2 => ?_) (fun c2 => ?_)
    · refine T.go 2 (fun n9 => (rfl : _ = exe ξ n9 (d + 10) j_M_count 40 [(0, .ref 137), (1, J x)] [J x, .ref 137] s1)) ?_
      obtain ⟨ok1, ok2⟩ := (pre0.keep (RG.refl (S := [2, 4])) (LG.refl (S := [2, 4])) (by decide)) (by omega)
      have mts := pre1 (by omega)
      refine T.callv (as := [J x]) (r := []) rfl rfl rfl rfl ms1.ob rfl (s_M_fuse (d + 2) x s1 ms1 (by omega) (by omega) (by omega) (by omega) ok2 mts) (fun v2 s3 hqs3 => ?_)
      obtain ⟨rw_1, en_1, wy_1, wh_1, bi_1, ed_1, sz_1, md_1, bd_1, Lc_1, la_1, lk_1, lh_1, ld_1, rfl, ms3, fs3, pz2_0, pz2_1, pz2_2, pz2_3, pz2_4, pz2_5, pz2_6, pz2_7⟩ := hqs3
      replace pz2_6 := fun (_ : Unit) => pz2_6
      replace pz2_7 := fun (_ : Unit) => pz2_7
      have ns3 := ms3.len
      have rs3 := ms3.rg
      have gs3 := fs1.trans fs3
      have rgs3 := (RG.refl (S := [2, 4])).trans pz2_0 (by decide)
      have lgs3 := (LG.refl (S := [2, 4])).trans pz2_1 (by decide)
      refine T.go 1 (fun n9 => (rfl : _ = exe ξ n9 (d + 10) j_M_count 44 [(0, .ref 137), (1, J x)] [.ref 137] s3)) ?_
      refine T.get rfl rfl rfl ms3.ob rfl ?_
      exact T.ireti rfl rfl ⟨_, 0, rw_1, en_1, wy_1, wh_1, bi_1, ed_1, sz_1, md_1, bd_1, Lc_1, la_1, lk_1, lh_1, ld_1, rfl, ms3, gs3, by omega, by omega, (pre0.keep rgs3 lgs3 (by decide)), (lgs3 0 (by decide) (by decide)), (rgs3 0 (by decide) (by decide)), by omega, by omega, by omega, (fun h1 h2 => by subst h1; have e8 := pz2_3 rfl; exact e8.2), (fun h1 h2 h3 => (pz2_7 ()) h1), (rgs3 1 (by decide) (by decide)), (lgs3 1 (by decide) (by decide)), (rgs3 3 (by decide) (by decide)), (lgs3 3 (by decide) (by decide)), (rgs3 6 (by decide) (by decide)), (lgs3 6 (by decide) (by decide))⟩
    · refine T.go 1 (fun n9 => (rfl : _ = exe ξ n9 (d + 10) j_M_count 37 [(0, .ref 137), (1, J x)] [J (-1)] s1)) ?_
      exact T.ireti rfl rfl ⟨_, 0, rw, en, wy, wh, bi, ed, sz, md, bd, Lc, la, lk, lh, ld, rfl, ms1, fs1, by omega, by omega, (pre0.keep (RG.refl (S := [2, 4])) (LG.refl (S := [2, 4])) (by decide)), ((LG.refl (S := [2, 4])) 0 (by decide) (by decide)), ((RG.refl (S := [2, 4])) 0 (by decide) (by decide)), by omega, by omega, by omega, (fun h1 h2 => by exfalso; omega), (fun h1 h2 h3 => by exfalso; omega), ((RG.refl (S := [2, 4])) 1 (by decide) (by decide)), ((LG.refl (S := [2, 4])) 1 (by decide) (by decide)), ((RG.refl (S := [2, 4])) 3 (by decide) (by decide)), ((LG.refl (S := [2, 4])) 3 (by decide) (by decide)), ((RG.refl (S := [2, 4])) 6 (by decide) (by decide)), ((LG.refl (S := [2, 4])) 6 (by decide) (by decide))⟩
  · refine T.go 1 (fun n9 => (rfl : _ = exe ξ n9 (d + 10) j_M_count 11 [(0, .ref 137), (1, J x)] [.ref 137] s1)) ?_
    refine T.get rfl rfl rfl ms1.ob rfl ?_
    refine T.if_eq rfl rfl (by omega) (fun c3 => ?_) (fun c3 => ?_)
    · refine T.go 1 (fun n9 => (rfl : _ = exe ξ n9 (d + 10) j_M_count 27 [(0, .ref 137), (1, J x)] [J 0] s1)) ?_
      exact T.ireti rfl rfl ⟨_, 0, rw, en, wy, wh, bi, ed, sz, md, bd, Lc, la, lk, lh, ld, rfl, ms1, fs1, by omega, by omega, (pre0.keep (RG.refl (S := [2, 4])) (LG.refl (S := [2, 4])) (by decide)), ((LG.refl (S := [2, 4])) 0 (by decide) (by decide)), ((RG.refl (S := [2, 4])) 0 (by decide) (by decide)), by omega, by omega, by omega, (fun h1 h2 => by exfalso; omega), (fun h1 h2 h3 => by exfalso; omega), ((RG.refl (S := [2, 4])) 1 (by decide) (by decide)), ((LG.refl (S := [2, 4])) 1 (by decide) (by decide)), ((RG.refl (S := [2, 4])) 3 (by decide) (by decide)), ((LG.refl (S := [2, 4])) 3 (by decide) (by decide)), ((RG.refl (S := [2, 4])) 6 (by decide) (by decide)), ((LG.refl (S := [2, 4])) 6 (by decide) (by decide))⟩
    · refine T.go 2 (fun n9 => (rfl : _ = exe ξ n9 (d + 10) j_M_count 19 [(0, .ref 137), (1, J x)] [.ref 137, J 1] s1)) ?_
      refine T.get rfl rfl rfl ms1.ob rfl ?_
      refine T.iadd rfl ?_
      refine T.go 1 (fun n9 => (rfl : _ = exe ξ n9 (d + 10) j_M_count 27 [(0, .ref 137), (1, J x)] [J (1 + mo)] s1)) ?_
      exact T.ireti rfl rfl ⟨_, 0, rw, en, wy, wh, bi, ed, sz, md, bd, Lc, la, lk, lh, ld, rfl, ms1, fs1, by omega, by omega, (pre0.keep (RG.refl (S := [2, 4])) (LG.refl (S := [2, 4])) (by decide)), ((LG.refl (S := [2, 4])) 0 (by decide) (by decide)), ((RG.refl (S := [2, 4])) 0 (by decide) (by decide)), by omega, by omega, by omega, (fun h1 h2 => by exfalso; omega), (fun h1 h2 h3 => by exfalso; omega), ((RG.refl (S := [2, 4])) 1 (by decide) (by decide)), ((LG.refl (S := [2, 4])) 1 (by decide) (by decide)), ((RG.refl (S := [2, 4])) 3 (by decide) (by decide)), ((LG.refl (S := [2, 4])) 3 (by decide) (by decide)), ((RG.refl (S := [2, 4])) 6 (by decide) (by decide)), ((LG.refl (S := [2, 4])) 6 (by decide) (by decide))⟩

set_option maxHeartbeats 4000000 in
theorem s_M_zentry {ξ : Nat → Option (Nat × List Int32)} {c io mo fa pl ns rw en wy wh bi ed sz md bd li wk we : Int} {Lc : List Int64} {la lm ln lh ld lk lt : List Int32} (d : Nat) (x : Int) (y : Int) (u : Int) (σ : qH) (hM : MS σ c io mo fa pl ns rw en wy wh bi ed sz md bd li wk we Lc la lm ln lh ld lk lt) (rx : -2147483648 ≤ x ∧ x ≤ 2147483647) (ry : -2147483648 ≤ y ∧ y ≤ 2147483647) (ru : -2147483648 ≤ u ∧ u ≤ 2147483647) (pre0 : OKM Lc la lm io mo) (pre1 : MTX io (gc Lc 1) (gl la 1) lm mo) : T ξ (d + 10) j_M_entry 0 (lv_args 0 [.ref 137, J x, J y, J u]) [] σ (fun v σ' => ∃ (z : Int) (c1 : Int) (rw1 : Int) (en1 : Int) (wy1 : Int) (wh1 : Int) (bi1 : Int) (ed1 : Int) (sz1 : Int) (md1 : Int) (bd1 : Int) (Lc1 : List Int64) (la1 : List Int32) (lk1 : List Int32) (lh1 : List Int32) (ld1 : List Int32), v = some (JL z) ∧ MS σ' c1 io mo fa pl ns rw1 en1 wy1 wh1 bi1 ed1 sz1 md1 bd1 li wk we Lc1 la1 lm ln lh1 ld1 lk1 lt ∧ FM σ σ' ∧ -9223372036854775808 ≤ z ∧ z ≤ 9223372036854775807 ∧ OKM Lc1 la1 lm io mo ∧ gl la1 0 = gl la 0 ∧ gc Lc1 0 = gc Lc 0 ∧ gc Lc1 1 = gc Lc 1 ∧ gl la1 1 = gl la 1 ∧ (c1 = 0 → ENV (gc Lc 1) (gl la 1) lm io mo x y u z) ∧ (c1 = 1 → NHE (gc Lc 1) (gl la 1) lm io mo x y) ∧ (c1 = 2 → YHE (gc Lc 1) (gl la 1) lm io mo x y ∧ (u < 0 ∨ 5 < u)) ∧ (0 ≤ c1 ∧ c1 ≤ 2) ∧ gc Lc1 3 = gc Lc 3 ∧ gl la1 3 = gl la 3 ∧ gc Lc1 6 = gc Lc 6 ∧ gl la1 6 = gl la 6) := by
  have r0 := hM.rg
  have n0 := hM.len
  refine T.go 4 (fun n9 => (rfl : _ = exe ξ n9 (d + 10) j_M_entry 4 [(0, .ref 137), (1, J x), (2, J y), (3, J u)] [J y, J x, .ref 137, .ref 137] σ)) ?_
  refine T.callv (as := [J x, J y]) (r := [.ref 137]) rfl rfl rfl rfl hM.ob rfl (s_M_ehasEntry (d + 1) x y σ hM (by omega) (by omega) (pre0.keep (RG.refl (S := [2, 4])) (LG.refl (S := [2, 4])) (by decide)) pre1) (fun v1 s1 hqs1 => ?_)
  obtain ⟨z1, rw_1, en_1, wy_1, wh_1, bi_1, ed_1, sz_1, md_1, bd_1, Lc_1, la_1, lk_1, lh_1, ld_1, rfl, ms1, fs1, hzz1, hyz1, pz1_0, pz1_1, pz1_2, pz1_3, pz1_4, pz1_5, pz1_6, pz1_7, pz1_8⟩ := hqs1
  clear pz1_3 pz1_5
  replace pz1_4 := fun (_ : Unit) => pz1_4
  replace pz1_6 := fun (_ : Unit) => pz1_6
  replace pz1_7 := fun (_ : Unit) => pz1_7
  replace pz1_8 := fun (_ : Unit) => pz1_8
  have ns1 := ms1.len
  have rs1 := ms1.rg
  have rgs1 := (RG.refl (S := [2, 4])).trans pz1_0 (by decide)
  have lgs1 := (LG.refl (S := [2, 4])).trans pz1_1 (by decide)
  refine T.if_ne rfl rfl (by omega) (fun c1 => ?_) (fun c1 => ?_)
  · refine T.go 3 (fun n9 => (rfl : _ = exe ξ n9 (d + 10) j_M_entry 17 [(0, .ref 137), (1, J x), (2, J y), (3, J u)] [J 5, J 0, J u, .ref 137] s1)) ?_
    refine T.calls (as := [J u, J 0, J 5]) (r := [.ref 137]) rfl rfl (by decide) rfl rfl (s_M_in (d + 9) u 0 5 s1 (by omega) (by omega) (by omega)) (fun v2 s2 hqs2 => ?_)
    obtain ⟨z2, rfl, esz2, hzz2, hyz2, pz2_0, pz2_1⟩ := hqs2
    rw [esz2]
    refine T.if_ne rfl rfl (by omega) (fun c2 => ?_) (fun c2 => ?_)
    · refine T.go 1 (fun n9 => (rfl : _ = exe ξ n9 (d + 10) j_M_entry 28 [(0, .ref 137), (1, J x), (2, J y), (3, J u)] [J 0, .ref 137] s1)) ?_
      refine T.mput (c' := 0) (io' := io) (mo' := mo) (fa' := fa) (pl' := pl) (ns' := ns) (rw' := rw_1) (en' := en_1) (wy' := wy_1) (wh' := wh_1) (bi' := bi_1) (ed' := ed_1) (sz' := sz_1) (md' := md_1) (bd' := bd_1) (li' := li) (wk' := wk) (we' := we) ms1 rfl rfl rfl rfl rfl rfl (by omega) (fun s3 ms3 fs3 => ?_)
      have gs3 := fs1.trans fs3
      refine T.go 1 (fun n9 => (rfl : _ = exe ξ n9 (d + 10) j_M_entry 32 [(0, .ref 137), (1, J x), (2, J y), (3, J u)] [.ref 137] s3)) ?_
      refine T.get rfl rfl rfl ms3.ob rfl ?_
      refine T.go 2 (fun n9 => (rfl : _ = exe ξ n9 (d + 10) j_M_entry 41 [(0, .ref 137), (1, J x), (2, J y), (3, J u)] [.ref 137] s3)) ?_
      refine T.get rfl rfl rfl ms3.ob rfl ?_
      refine T.go 1 (fun n9 => (rfl : _ = exe ξ n9 (d + 10) j_M_entry 45 [(0, .ref 137), (1, J x), (2, J y), (3, J u)] [J y, .ref 142] s3)) ?_
      refine T.iald rfl rfl ms3.c142 (by omega) (fun z3 hzz3 hyz3 hez3 => ?_)
      have hbz3 := ms3.b142.at hez3 ⟨hzz3, hyz3⟩
      have gzz3 := gl_of hez3 ⟨hzz3, hyz3⟩
      subst gzz3
      refine T.go 2 (fun n9 => (rfl : _ = exe ξ n9 (d + 10) j_M_entry 49 [(0, .ref 137), (1, J x), (2, J y), (3, J u), (4, J (gl lh_1 y))] [J u] s3)) ?_
      by_cases c3 : u < 0 ∨ 4 < u
      · refine T.jmp rfl rfl (sw_out (off := 87) rfl c3 (by omega) (by rfl)) ?_
        refine T.go 2 (fun n9 => (rfl : _ = exe ξ n9 (d + 10) j_M_entry 138 [(0, .ref 137), (1, J x), (2, J y), (3, J u), (4, J (gl lh_1 y))] [J y, .ref 137] s3)) ?_
        have hd := (pz1_4 ()) (by omega)
        have hx := hd y (by omega) (by omega)
        refine T.callv (as := [J y]) (r := []) rfl rfl rfl rfl ms3.ob rfl (s_M_nameLength (d + 7) y s3 ms3 (by omega) (by omega) (by omega)) (fun v3 s4 hqs4 => ?_)
        obtain ⟨z4, rfl, esz4, hzz4, hyz4, pz4_0⟩ := hqs4
        rw [esz4]
        refine T.i2l rfl (by omega) ?_
        exact T.lret rfl rfl ⟨_, 0, rw_1, en_1, wy_1, wh_1, bi_1, ed_1, sz_1, md_1, bd_1, Lc_1, la_1, lk_1, lh_1, ld_1, rfl, ms3, gs3, by omega, by omega, (pre0.keep rgs1 lgs1 (by decide)), (lgs1 0 (by decide) (by decide)), (rgs1 0 (by decide) (by decide)), (rgs1 1 (by decide) (by decide)), (lgs1 1 (by decide) (by decide)), (fun _ => by obtain ⟨o, fo, a1, a2, a3, -⟩ := ARY_w ((pz1_7 ()) (by omega)) (gc_r Lc 1) (by omega) (y := y) ⟨by omega, by omega⟩; exact ⟨by omega, by omega, o, fo, a1, a2, by rw [pz4_0 (by omega), (a3 28 (by decide) (by decide)).2, show u = 5 by omega]; rfl⟩), (fun h => absurd h (by omega)), (fun h => absurd h (by omega)), by omega, (rgs1 3 (by decide) (by decide)), (lgs1 3 (by decide) (by decide)), (rgs1 6 (by decide) (by decide)), (lgs1 6 (by decide) (by decide))⟩
      by_cases c4 : u = 0
      · refine T.jmp rfl rfl (sw_in (v := 0) (off := 35) c4 (by decide) rfl rfl) ?_
        refine T.go 3 (fun n9 => (rfl : _ = exe ξ n9 (d + 10) j_M_entry 89 [(0, .ref 137), (1, J x), (2, J y), (3, J u), (4, J (gl lh_1 y))] [J 24, J (gl lh_1 y), .ref 137] s3)) ?_
        refine T.iadd rfl ?_
        have hd := (pz1_4 ()) (by omega)
        have hx := hd y (by omega) (by omega)
        refine T.callv (as := [J ((gl lh_1 y) + 24)]) (r := []) rfl rfl rfl rfl ms3.ob rfl (s_M_four (d + 7) ((gl lh_1 y) + 24) s3 ms3 (by omega) (by omega) (by omega)) (fun v4 s5 hqs5 => ?_)
        obtain ⟨z5, rfl, esz5, hzz5, hyz5, pz5_0⟩ := hqs5
        rw [esz5]
        exact T.lret rfl rfl ⟨_, 0, rw_1, en_1, wy_1, wh_1, bi_1, ed_1, sz_1, md_1, bd_1, Lc_1, la_1, lk_1, lh_1, ld_1, rfl, ms3, gs3, by omega, by omega, (pre0.keep rgs1 lgs1 (by decide)), (lgs1 0 (by decide) (by decide)), (rgs1 0 (by decide) (by decide)), (rgs1 1 (by decide) (by decide)), (lgs1 1 (by decide) (by decide)), (fun _ => by obtain ⟨o, fo, a1, a2, a3, -⟩ := ARY_w ((pz1_7 ()) (by omega)) (gc_r Lc 1) (by omega) (y := y) ⟨by omega, by omega⟩; exact ⟨by omega, by omega, o, fo, a1, a2, by rw [pz5_0 (by omega), (a3 24 (by decide) (by decide)).1, show u = 0 by omega]; rfl⟩), (fun h => absurd h (by omega)), (fun h => absurd h (by omega)), by omega, (rgs1 3 (by decide) (by decide)), (lgs1 3 (by decide) (by decide)), (rgs1 6 (by decide) (by decide)), (lgs1 6 (by decide) (by decide))⟩
      by_cases c5 : u = 1
      · refine T.jmp rfl rfl (sw_in (v := 1) (off := 45) c5 (by decide) rfl rfl) ?_
        refine T.go 3 (fun n9 => (rfl : _ = exe ξ n9 (d + 10) j_M_entry 99 [(0, .ref 137), (1, J x), (2, J y), (3, J u), (4, J (gl lh_1 y))] [J 20, J (gl lh_1 y), .ref 137] s3)) ?_
        refine T.iadd rfl ?_
        have hd := (pz1_4 ()) (by omega)
        have hx := hd y (by omega) (by omega)
        refine T.callv (as := [J ((gl lh_1 y) + 20)]) (r := []) rfl rfl rfl rfl ms3.ob rfl (s_M_four (d + 7) ((gl lh_1 y) + 20) s3 ms3 (by omega) (by omega) (by omega)) (fun v5 s6 hqs6 => ?_)
        obtain ⟨z6, rfl, esz6, hzz6, hyz6, pz6_0⟩ := hqs6
        rw [esz6]
        exact T.lret rfl rfl ⟨_, 0, rw_1, en_1, wy_1, wh_1, bi_1, ed_1, sz_1, md_1, bd_1, Lc_1, la_1, lk_1, lh_1, ld_1, rfl, ms3, gs3, by omega, by omega, (pre0.keep rgs1 lgs1 (by decide)), (lgs1 0 (by decide) (by decide)), (rgs1 0 (by decide) (by decide)), (rgs1 1 (by decide) (by decide)), (lgs1 1 (by decide) (by decide)), (fun _ => by obtain ⟨o, fo, a1, a2, a3, -⟩ := ARY_w ((pz1_7 ()) (by omega)) (gc_r Lc 1) (by omega) (y := y) ⟨by omega, by omega⟩; exact ⟨by omega, by omega, o, fo, a1, a2, by rw [pz6_0 (by omega), (a3 20 (by decide) (by decide)).1, show u = 1 by omega]; rfl⟩), (fun h => absurd h (by omega)), (fun h => absurd h (by omega)), by omega, (rgs1 3 (by decide) (by decide)), (lgs1 3 (by decide) (by decide)), (rgs1 6 (by decide) (by decide)), (lgs1 6 (by decide) (by decide))⟩
      by_cases c6 : u = 2
      · refine T.jmp rfl rfl (sw_in (v := 2) (off := 55) c6 (by decide) rfl rfl) ?_
        refine T.go 3 (fun n9 => (rfl : _ = exe ξ n9 (d + 10) j_M_entry 109 [(0, .ref 137), (1, J x), (2, J y), (3, J u), (4, J (gl lh_1 y))] [J 10, J (gl lh_1 y), .ref 137] s3)) ?_
        refine T.iadd rfl ?_
        have hd := (pz1_4 ()) (by omega)
        have hx := hd y (by omega) (by omega)
        refine T.callv (as := [J ((gl lh_1 y) + 10)]) (r := []) rfl rfl rfl rfl ms3.ob rfl (s_M_two (d + 8) ((gl lh_1 y) + 10) s3 ms3 (by omega) (by omega) (by omega)) (fun v6 s7 hqs7 => ?_)
        obtain ⟨z7, rfl, esz7, hzz7, hyz7, pz7_0⟩ := hqs7
        rw [esz7]
        refine T.i2l rfl (by omega) ?_
        exact T.lret rfl rfl ⟨_, 0, rw_1, en_1, wy_1, wh_1, bi_1, ed_1, sz_1, md_1, bd_1, Lc_1, la_1, lk_1, lh_1, ld_1, rfl, ms3, gs3, by omega, by omega, (pre0.keep rgs1 lgs1 (by decide)), (lgs1 0 (by decide) (by decide)), (rgs1 0 (by decide) (by decide)), (rgs1 1 (by decide) (by decide)), (lgs1 1 (by decide) (by decide)), (fun _ => by obtain ⟨o, fo, a1, a2, a3, -⟩ := ARY_w ((pz1_7 ()) (by omega)) (gc_r Lc 1) (by omega) (y := y) ⟨by omega, by omega⟩; exact ⟨by omega, by omega, o, fo, a1, a2, by rw [pz7_0 (by omega), (a3 10 (by decide) (by decide)).2, show u = 2 by omega]; rfl⟩), (fun h => absurd h (by omega)), (fun h => absurd h (by omega)), by omega, (rgs1 3 (by decide) (by decide)), (lgs1 3 (by decide) (by decide)), (rgs1 6 (by decide) (by decide)), (lgs1 6 (by decide) (by decide))⟩
      by_cases c7 : u = 3
      · refine T.jmp rfl rfl (sw_in (v := 3) (off := 66) c7 (by decide) rfl rfl) ?_
        refine T.go 3 (fun n9 => (rfl : _ = exe ξ n9 (d + 10) j_M_entry 120 [(0, .ref 137), (1, J x), (2, J y), (3, J u), (4, J (gl lh_1 y))] [J 16, J (gl lh_1 y), .ref 137] s3)) ?_
        refine T.iadd rfl ?_
        have hd := (pz1_4 ()) (by omega)
        have hx := hd y (by omega) (by omega)
        refine T.callv (as := [J ((gl lh_1 y) + 16)]) (r := []) rfl rfl rfl rfl ms3.ob rfl (s_M_four (d + 7) ((gl lh_1 y) + 16) s3 ms3 (by omega) (by omega) (by omega)) (fun v7 s8 hqs8 => ?_)
        obtain ⟨z8, rfl, esz8, hzz8, hyz8, pz8_0⟩ := hqs8
        rw [esz8]
        exact T.lret rfl rfl ⟨_, 0, rw_1, en_1, wy_1, wh_1, bi_1, ed_1, sz_1, md_1, bd_1, Lc_1, la_1, lk_1, lh_1, ld_1, rfl, ms3, gs3, by omega, by omega, (pre0.keep rgs1 lgs1 (by decide)), (lgs1 0 (by decide) (by decide)), (rgs1 0 (by decide) (by decide)), (rgs1 1 (by decide) (by decide)), (lgs1 1 (by decide) (by decide)), (fun _ => by obtain ⟨o, fo, a1, a2, a3, -⟩ := ARY_w ((pz1_7 ()) (by omega)) (gc_r Lc 1) (by omega) (y := y) ⟨by omega, by omega⟩; exact ⟨by omega, by omega, o, fo, a1, a2, by rw [pz8_0 (by omega), (a3 16 (by decide) (by decide)).1, show u = 3 by omega]; rfl⟩), (fun h => absurd h (by omega)), (fun h => absurd h (by omega)), by omega, (rgs1 3 (by decide) (by decide)), (lgs1 3 (by decide) (by decide)), (rgs1 6 (by decide) (by decide)), (lgs1 6 (by decide) (by decide))⟩
      have c8 : u = 4 := by omega
      refine T.jmp rfl rfl (sw_in (v := 4) (off := 76) c8 (by decide) rfl rfl) ?_
      refine T.go 3 (fun n9 => (rfl : _ = exe ξ n9 (d + 10) j_M_entry 130 [(0, .ref 137), (1, J x), (2, J y), (3, J u), (4, J (gl lh_1 y))] [J 8, J (gl lh_1 y), .ref 137] s3)) ?_
      refine T.iadd rfl ?_
      have hd := (pz1_4 ()) (by omega)
      have hx := hd y (by omega) (by omega)
      refine T.callv (as := [J ((gl lh_1 y) + 8)]) (r := []) rfl rfl rfl rfl ms3.ob rfl (s_M_two (d + 8) ((gl lh_1 y) + 8) s3 ms3 (by omega) (by omega) (by omega)) (fun v8 s9 hqs9 => ?_)
      obtain ⟨z9, rfl, esz9, hzz9, hyz9, pz9_0⟩ := hqs9
      rw [esz9]
      refine T.i2l rfl (by omega) ?_
      exact T.lret rfl rfl ⟨_, 0, rw_1, en_1, wy_1, wh_1, bi_1, ed_1, sz_1, md_1, bd_1, Lc_1, la_1, lk_1, lh_1, ld_1, rfl, ms3, gs3, by omega, by omega, (pre0.keep rgs1 lgs1 (by decide)), (lgs1 0 (by decide) (by decide)), (rgs1 0 (by decide) (by decide)), (rgs1 1 (by decide) (by decide)), (lgs1 1 (by decide) (by decide)), (fun _ => by obtain ⟨o, fo, a1, a2, a3, -⟩ := ARY_w ((pz1_7 ()) (by omega)) (gc_r Lc 1) (by omega) (y := y) ⟨by omega, by omega⟩; exact ⟨by omega, by omega, o, fo, a1, a2, by rw [pz9_0 (by omega), (a3 8 (by decide) (by decide)).2, show u = 4 by omega]; rfl⟩), (fun h => absurd h (by omega)), (fun h => absurd h (by omega)), by omega, (rgs1 3 (by decide) (by decide)), (lgs1 3 (by decide) (by decide)), (rgs1 6 (by decide) (by decide)), (lgs1 6 (by decide) (by decide))⟩
    · refine T.go 2 (fun n9 => (rfl : _ = exe ξ n9 (d + 10) j_M_entry 28 [(0, .ref 137), (1, J x), (2, J y), (3, J u)] [J 2, .ref 137] s1)) ?_
      refine T.mput (c' := 2) (io' := io) (mo' := mo) (fa' := fa) (pl' := pl) (ns' := ns) (rw' := rw_1) (en' := en_1) (wy' := wy_1) (wh' := wh_1) (bi' := bi_1) (ed' := ed_1) (sz' := sz_1) (md' := md_1) (bd' := bd_1) (li' := li) (wk' := wk) (we' := we) ms1 rfl rfl rfl rfl rfl rfl (by omega) (fun s10 ms10 fs10 => ?_)
      have gs10 := fs1.trans fs10
      refine T.go 1 (fun n9 => (rfl : _ = exe ξ n9 (d + 10) j_M_entry 32 [(0, .ref 137), (1, J x), (2, J y), (3, J u)] [.ref 137] s10)) ?_
      refine T.get rfl rfl rfl ms10.ob rfl ?_
      refine T.go 2 (fun n9 => (rfl : _ = exe ξ n9 (d + 10) j_M_entry 39 [(0, .ref 137), (1, J x), (2, J y), (3, J u)] [JL 0] s10)) ?_
      exact T.lret rfl rfl ⟨_, 2, rw_1, en_1, wy_1, wh_1, bi_1, ed_1, sz_1, md_1, bd_1, Lc_1, la_1, lk_1, lh_1, ld_1, rfl, ms10, gs10, by omega, by omega, (pre0.keep rgs1 lgs1 (by decide)), (lgs1 0 (by decide) (by decide)), (rgs1 0 (by decide) (by decide)), (rgs1 1 (by decide) (by decide)), (lgs1 1 (by decide) (by decide)), (fun h => absurd h (by omega)), (fun h => absurd h (by omega)), (fun _ => ⟨by obtain ⟨o, fo, a1, a2, -⟩ := ARY_w ((pz1_7 ()) (by omega)) (gc_r Lc 1) (by omega) (y := y) ⟨by omega, by omega⟩; exact ⟨by omega, o, fo, a1, a2.1, a2.2⟩, by omega⟩), by omega, (rgs1 3 (by decide) (by decide)), (lgs1 3 (by decide) (by decide)), (rgs1 6 (by decide) (by decide)), (lgs1 6 (by decide) (by decide))⟩
  · refine T.go 2 (fun n9 => (rfl : _ = exe ξ n9 (d + 10) j_M_entry 28 [(0, .ref 137), (1, J x), (2, J y), (3, J u)] [J 1, .ref 137] s1)) ?_
    refine T.mput (c' := 1) (io' := io) (mo' := mo) (fa' := fa) (pl' := pl) (ns' := ns) (rw' := rw_1) (en' := en_1) (wy' := wy_1) (wh' := wh_1) (bi' := bi_1) (ed' := ed_1) (sz' := sz_1) (md' := md_1) (bd' := bd_1) (li' := li) (wk' := wk) (we' := we) ms1 rfl rfl rfl rfl rfl rfl (by omega) (fun s11 ms11 fs11 => ?_)
    have gs11 := fs1.trans fs11
    refine T.go 1 (fun n9 => (rfl : _ = exe ξ n9 (d + 10) j_M_entry 32 [(0, .ref 137), (1, J x), (2, J y), (3, J u)] [.ref 137] s11)) ?_
    refine T.get rfl rfl rfl ms11.ob rfl ?_
    refine T.go 2 (fun n9 => (rfl : _ = exe ξ n9 (d + 10) j_M_entry 39 [(0, .ref 137), (1, J x), (2, J y), (3, J u)] [JL 0] s11)) ?_
    exact T.lret rfl rfl ⟨_, 1, rw_1, en_1, wy_1, wh_1, bi_1, ed_1, sz_1, md_1, bd_1, Lc_1, la_1, lk_1, lh_1, ld_1, rfl, ms11, gs11, by omega, by omega, (pre0.keep rgs1 lgs1 (by decide)), (lgs1 0 (by decide) (by decide)), (rgs1 0 (by decide) (by decide)), (rgs1 1 (by decide) (by decide)), (lgs1 1 (by decide) (by decide)), (fun h => absurd h (by omega)), (fun _ => (pz1_8 ()) (by omega)), (fun h => absurd h (by omega)), by omega, (rgs1 3 (by decide) (by decide)), (lgs1 3 (by decide) (by decide)), (rgs1 6 (by decide) (by decide)), (lgs1 6 (by decide) (by decide))⟩

set_option maxHeartbeats 4000000 in
theorem s_M_zletter {ξ : Nat → Option (Nat × List Int32)} {c io mo fa pl ns rw en wy wh bi ed sz md bd li wk we : Int} {Lc : List Int64} {la lm ln lh ld lk lt : List Int32} (d : Nat) (x : Int) (y : Int) (u : Int) (σ : qH) (hM : MS σ c io mo fa pl ns rw en wy wh bi ed sz md bd li wk we Lc la lm ln lh ld lk lt) (rx : -2147483648 ≤ x ∧ x ≤ 2147483647) (ry : -2147483648 ≤ y ∧ y ≤ 2147483647) (ru : -2147483648 ≤ u ∧ u ≤ 2147483647) (pre0 : OKM Lc la lm io mo) (pre1 : MTX io (gc Lc 1) (gl la 1) lm mo) : T ξ (d + 10) j_M_letter 0 (lv_args 0 [.ref 137, J x, J y, J u]) [] σ (fun v σ' => ∃ (z : Int) (c1 : Int) (rw1 : Int) (en1 : Int) (wy1 : Int) (wh1 : Int) (bi1 : Int) (ed1 : Int) (sz1 : Int) (md1 : Int) (bd1 : Int) (Lc1 : List Int64) (la1 : List Int32) (lk1 : List Int32) (lh1 : List Int32) (ld1 : List Int32), v = some (J z) ∧ MS σ' c1 io mo fa pl ns rw1 en1 wy1 wh1 bi1 ed1 sz1 md1 bd1 li wk we Lc1 la1 lm ln lh1 ld1 lk1 lt ∧ FM σ σ' ∧ -2147483648 ≤ z ∧ z ≤ 2147483647 ∧ OKM Lc1 la1 lm io mo ∧ gl la1 0 = gl la 0 ∧ gc Lc1 0 = gc Lc 0 ∧ gc Lc1 1 = gc Lc 1 ∧ gl la1 1 = gl la 1 ∧ (c1 = 0 → LTV (gc Lc 1) (gl la 1) lm io mo x y u z) ∧ (c1 = 1 → NHE (gc Lc 1) (gl la 1) lm io mo x y) ∧ (0 ≤ c1 ∧ c1 ≤ 1) ∧ gc Lc1 3 = gc Lc 3 ∧ gl la1 3 = gl la 3 ∧ gc Lc1 6 = gc Lc 6 ∧ gl la1 6 = gl la 6) := by
  have r0 := hM.rg
  have n0 := hM.len
  refine T.go 4 (fun n9 => (rfl : _ = exe ξ n9 (d + 10) j_M_letter 4 [(0, .ref 137), (1, J x), (2, J y), (3, J u)] [J y, J x, .ref 137, .ref 137] σ)) ?_
  refine T.callv (as := [J x, J y]) (r := [.ref 137]) rfl rfl rfl rfl hM.ob rfl (s_M_ehasEntry (d + 1) x y σ hM (by omega) (by omega) (pre0.keep (RG.refl (S := [2, 4])) (LG.refl (S := [2, 4])) (by decide)) pre1) (fun v1 s1 hqs1 => ?_)
  obtain ⟨z1, rw_1, en_1, wy_1, wh_1, bi_1, ed_1, sz_1, md_1, bd_1, Lc_1, la_1, lk_1, lh_1, ld_1, rfl, ms1, fs1, hzz1, hyz1, pz1_0, pz1_1, pz1_2, pz1_3, pz1_4, pz1_5, pz1_6, pz1_7, pz1_8⟩ := hqs1
  clear pz1_3 pz1_5
  replace pz1_4 := fun (_ : Unit) => pz1_4
  replace pz1_6 := fun (_ : Unit) => pz1_6
  replace pz1_7 := fun (_ : Unit) => pz1_7
  replace pz1_8 := fun (_ : Unit) => pz1_8
  have ns1 := ms1.len
  have rs1 := ms1.rg
  have rgs1 := (RG.refl (S := [2, 4])).trans pz1_0 (by decide)
  have lgs1 := (LG.refl (S := [2, 4])).trans pz1_1 (by decide)
  refine T.if_eq rfl rfl (by omega) (fun c1 => ?_) (fun c1 => ?_)
  · refine T.go 1 (fun n9 => (rfl : _ = exe ξ n9 (d + 10) j_M_letter 15 [(0, .ref 137), (1, J x), (2, J y), (3, J u)] [J 1, .ref 137] s1)) ?_
    refine T.mput (c' := 1) (io' := io) (mo' := mo) (fa' := fa) (pl' := pl) (ns' := ns) (rw' := rw_1) (en' := en_1) (wy' := wy_1) (wh' := wh_1) (bi' := bi_1) (ed' := ed_1) (sz' := sz_1) (md' := md_1) (bd' := bd_1) (li' := li) (wk' := wk) (we' := we) ms1 rfl rfl rfl rfl rfl rfl (by omega) (fun s2 ms2 fs2 => ?_)
    have gs2 := fs1.trans fs2
    refine T.go 1 (fun n9 => (rfl : _ = exe ξ n9 (d + 10) j_M_letter 19 [(0, .ref 137), (1, J x), (2, J y), (3, J u)] [.ref 137] s2)) ?_
    refine T.get rfl rfl rfl ms2.ob rfl ?_
    refine T.go 2 (fun n9 => (rfl : _ = exe ξ n9 (d + 10) j_M_letter 26 [(0, .ref 137), (1, J x), (2, J y), (3, J u)] [J 0] s2)) ?_
    exact T.ireti rfl rfl ⟨_, 1, rw_1, en_1, wy_1, wh_1, bi_1, ed_1, sz_1, md_1, bd_1, Lc_1, la_1, lk_1, lh_1, ld_1, rfl, ms2, gs2, by omega, by omega, (pre0.keep rgs1 lgs1 (by decide)), (lgs1 0 (by decide) (by decide)), (rgs1 0 (by decide) (by decide)), (rgs1 1 (by decide) (by decide)), (lgs1 1 (by decide) (by decide)), (fun h => absurd h (by omega)), (fun _ => (pz1_8 ()) (by omega)), by omega, (rgs1 3 (by decide) (by decide)), (lgs1 3 (by decide) (by decide)), (rgs1 6 (by decide) (by decide)), (lgs1 6 (by decide) (by decide))⟩
  · refine T.go 2 (fun n9 => (rfl : _ = exe ξ n9 (d + 10) j_M_letter 15 [(0, .ref 137), (1, J x), (2, J y), (3, J u)] [J 0, .ref 137] s1)) ?_
    refine T.mput (c' := 0) (io' := io) (mo' := mo) (fa' := fa) (pl' := pl) (ns' := ns) (rw' := rw_1) (en' := en_1) (wy' := wy_1) (wh' := wh_1) (bi' := bi_1) (ed' := ed_1) (sz' := sz_1) (md' := md_1) (bd' := bd_1) (li' := li) (wk' := wk) (we' := we) ms1 rfl rfl rfl rfl rfl rfl (by omega) (fun s3 ms3 fs3 => ?_)
    have gs3 := fs1.trans fs3
    refine T.go 1 (fun n9 => (rfl : _ = exe ξ n9 (d + 10) j_M_letter 19 [(0, .ref 137), (1, J x), (2, J y), (3, J u)] [.ref 137] s3)) ?_
    refine T.get rfl rfl rfl ms3.ob rfl ?_
    refine T.go 5 (fun n9 => (rfl : _ = exe ξ n9 (d + 10) j_M_letter 31 [(0, .ref 137), (1, J x), (2, J y), (3, J u)] [J y, .ref 137, J 0, J u] s3)) ?_
    have hd := (pz1_4 ()) (by omega)
    have hx := hd y (by omega) (by omega)
    refine T.callv (as := [J y]) (r := [J 0, J u]) rfl rfl rfl rfl ms3.ob rfl (s_M_nameLength (d + 7) y s3 ms3 (by omega) (by omega) (by omega)) (fun v2 s4 hqs4 => ?_)
    obtain ⟨z2, rfl, esz2, hzz2, hyz2, pz2_0⟩ := hqs4
    rw [esz2]
    refine T.go 1 (fun n9 => (rfl : _ = exe ξ n9 (d + 10) j_M_letter 35 [(0, .ref 137), (1, J x), (2, J y), (3, J u)] [J 1, J z2, J 0, J u] s3)) ?_
    refine T.isub rfl ?_
    refine T.calls (as := [J u, J 0, J (z2 - 1)]) (r := []) rfl rfl (by decide) rfl rfl (s_M_in (d + 9) u 0 (z2 - 1) s3 (by omega) (by omega) (by omega)) (fun v3 s5 hqs5 => ?_)
    obtain ⟨z3, rfl, esz3, hzz3, hyz3, pz3_0, pz3_1⟩ := hqs5
    rw [esz3]
    refine T.if_eq rfl rfl (by omega) (fun c2 => ?_) (fun c2 => ?_)
    · refine T.go 1 (fun n9 => (rfl : _ = exe ξ n9 (d + 10) j_M_letter 65 [(0, .ref 137), (1, J x), (2, J y), (3, J u)] [J (-1)] s3)) ?_
      exact T.ireti rfl rfl ⟨_, 0, rw_1, en_1, wy_1, wh_1, bi_1, ed_1, sz_1, md_1, bd_1, Lc_1, la_1, lk_1, lh_1, ld_1, rfl, ms3, gs3, by omega, by omega, (pre0.keep rgs1 lgs1 (by decide)), (lgs1 0 (by decide) (by decide)), (rgs1 0 (by decide) (by decide)), (rgs1 1 (by decide) (by decide)), (lgs1 1 (by decide) (by decide)), (fun _ => by obtain ⟨o, fo, a1, a2, a3, a4⟩ := ARY_w ((pz1_7 ()) (by omega)) (gc_r Lc 1) (by omega) (y := y) ⟨by omega, by omega⟩; have n8 := (pz2_0 (by omega)).trans (a3 28 (by decide) (by decide)).2; exact ⟨by omega, o, fo, a1, a2, by unfold LTv; rw [if_neg (by omega)]⟩), (fun h => absurd h (by omega)), by omega, (rgs1 3 (by decide) (by decide)), (lgs1 3 (by decide) (by decide)), (rgs1 6 (by decide) (by decide)), (lgs1 6 (by decide) (by decide))⟩
    · refine T.go 2 (fun n9 => (rfl : _ = exe ξ n9 (d + 10) j_M_letter 44 [(0, .ref 137), (1, J x), (2, J y), (3, J u)] [.ref 137, .ref 137] s3)) ?_
      refine T.get rfl rfl rfl ms3.ob rfl ?_
      refine T.go 1 (fun n9 => (rfl : _ = exe ξ n9 (d + 10) j_M_letter 48 [(0, .ref 137), (1, J x), (2, J y), (3, J u)] [.ref 137, J rw_1, .ref 137] s3)) ?_
      refine T.get rfl rfl rfl ms3.ob rfl ?_
      refine T.go 1 (fun n9 => (rfl : _ = exe ξ n9 (d + 10) j_M_letter 52 [(0, .ref 137), (1, J x), (2, J y), (3, J u)] [J y, .ref 142, J rw_1, .ref 137] s3)) ?_
      refine T.iald rfl rfl ms3.c142 (by omega) (fun z4 hzz4 hyz4 hez4 => ?_)
      have hbz4 := ms3.b142.at hez4 ⟨hzz4, hyz4⟩
      have gzz4 := gl_of hez4 ⟨hzz4, hyz4⟩
      subst gzz4
      refine T.go 1 (fun n9 => (rfl : _ = exe ξ n9 (d + 10) j_M_letter 55 [(0, .ref 137), (1, J x), (2, J y), (3, J u)] [J 46, J (gl lh_1 y), J rw_1, .ref 137] s3)) ?_
      refine T.iadd rfl ?_
      refine T.go 1 (fun n9 => (rfl : _ = exe ξ n9 (d + 10) j_M_letter 57 [(0, .ref 137), (1, J x), (2, J y), (3, J u)] [J u, J ((gl lh_1 y) + 46), J rw_1, .ref 137] s3)) ?_
      refine T.iadd rfl ?_
      refine T.callv (as := [J rw_1, J (((gl lh_1 y) + 46) + u)]) (r := []) rfl rfl rfl rfl ms3.ob rfl (s_M_get (d + 9) rw_1 (((gl lh_1 y) + 46) + u) s3 ms3 (by omega)) (fun v4 s6 hqs6 => ?_)
      obtain ⟨z5, rfl, esz5, hzz5, hyz5, pz5_0⟩ := hqs6
      rw [esz5]
      refine T.go 1 (fun n9 => (rfl : _ = exe ξ n9 (d + 10) j_M_letter 65 [(0, .ref 137), (1, J x), (2, J y), (3, J u)] [J z5] s3)) ?_
      exact T.ireti rfl rfl ⟨_, 0, rw_1, en_1, wy_1, wh_1, bi_1, ed_1, sz_1, md_1, bd_1, Lc_1, la_1, lk_1, lh_1, ld_1, rfl, ms3, gs3, by omega, by omega, (pre0.keep rgs1 lgs1 (by decide)), (lgs1 0 (by decide) (by decide)), (rgs1 0 (by decide) (by decide)), (rgs1 1 (by decide) (by decide)), (lgs1 1 (by decide) (by decide)), (fun _ => by obtain ⟨o, fo, a1, a2, a3, a4⟩ := ARY_w ((pz1_7 ()) (by omega)) (gc_r Lc 1) (by omega) (y := y) ⟨by omega, by omega⟩; have n8 := (pz2_0 (by omega)).trans (a3 28 (by decide) (by decide)).2; exact ⟨by omega, o, fo, a1, a2, by unfold LTv; rw [if_pos ⟨by omega, by omega⟩, ← a4 u (by omega) (by omega), pz5_0]; exact (gc_at ⟨by omega, by omega⟩).symm⟩), (fun h => absurd h (by omega)), by omega, (rgs1 3 (by decide) (by decide)), (lgs1 3 (by decide) (by decide)), (rgs1 6 (by decide) (by decide)), (lgs1 6 (by decide) (by decide))⟩

set_option maxHeartbeats 4000000 in
theorem s_M_znumber {ξ : Nat → Option (Nat × List Int32)} {c io mo fa pl ns rw en wy wh bi ed sz md bd li wk we : Int} {Lc : List Int64} {la lm ln lh ld lk lt : List Int32} (d : Nat) (x : Int) (σ : qH) (hM : MS σ c io mo fa pl ns rw en wy wh bi ed sz md bd li wk we Lc la lm ln lh ld lk lt) (rx : -2147483648 ≤ x ∧ x ≤ 2147483647) (pre0 : OKM Lc la lm io mo) (pre1 : MTX io (gc Lc 1) (gl la 1) lm mo) : T ξ (d + 10) j_M_number 0 (lv_args 0 [.ref 137, J x]) [] σ (fun v σ' => ∃ (z : Int) (c1 : Int) (rw1 : Int) (en1 : Int) (wy1 : Int) (wh1 : Int) (bi1 : Int) (ed1 : Int) (sz1 : Int) (md1 : Int) (bd1 : Int) (Lc1 : List Int64) (la1 : List Int32) (lk1 : List Int32) (lh1 : List Int32) (ld1 : List Int32) (ns1 : Int), v = some (J z) ∧ MS σ' c1 io mo fa pl ns1 rw1 en1 wy1 wh1 bi1 ed1 sz1 md1 bd1 li wk we Lc1 la1 lm ln lh1 ld1 lk1 lt ∧ FM σ σ' ∧ -2147483648 ≤ z ∧ z ≤ 2147483647 ∧ OKM Lc1 la1 lm io mo ∧ gl la1 0 = gl la 0 ∧ ns1 = 0 ∧ gc Lc1 0 = gc Lc 0 ∧ gc Lc1 1 = gc Lc 1 ∧ gl la1 1 = gl la 1 ∧ (c1 = 0 → NBV (gc Lc 1) (gl la 1) lm io mo (gl ln) ns x z) ∧ (c1 = 1 → ¬ (io = 1 ∧ 0 ≤ x ∧ x ≤ mo)) ∧ (0 ≤ c1 ∧ c1 ≤ 1) ∧ gc Lc1 3 = gc Lc 3 ∧ gl la1 3 = gl la 3 ∧ gc Lc1 6 = gc Lc 6 ∧ gl la1 6 = gl la 6) := by
  have r0 := hM.rg
  have n0 := hM.len
  refine T.go 1 (fun n9 => (rfl : _ = exe ξ n9 (d + 10) j_M_number 1 [(0, .ref 137), (1, J x)] [.ref 137] σ)) ?_
  refine T.callv (as := []) (r := []) rfl rfl rfl rfl hM.ob rfl (s_M_eusedName (d + 9)  σ hM ) (fun v1 s1 hqs1 => ?_)
  obtain ⟨z1, ns_1, rfl, ms1, fs1, hzz1, hyz1, pz1_0, pz1_1⟩ := hqs1
  have ns1 := ms1.len
  have rs1 := ms1.rg
  refine T.go 4 (fun n9 => (rfl : _ = exe ξ n9 (d + 10) j_M_number 8 [(0, .ref 137), (1, J x), (2, J z1)] [J x, .ref 137, .ref 137] s1)) ?_
  refine T.callv (as := [J x]) (r := [.ref 137]) rfl rfl rfl rfl ms1.ob rfl (s_M_fisArchive (d + 8) x s1 ms1 (by omega)) (fun v2 s2 hqs2 => ?_)
  obtain ⟨z2, rfl, esz2, hzz2, hyz2, pz2_0, pz2_1⟩ := hqs2
  rw [esz2]
  refine T.if_eq rfl rfl (by omega) (fun c1 => ?_) (fun c1 => ?_)
  · refine T.go 1 (fun n9 => (rfl : _ = exe ξ n9 (d + 10) j_M_number 19 [(0, .ref 137), (1, J x), (2, J z1)] [J 1, .ref 137] s1)) ?_
    refine T.mput (c' := 1) (io' := io) (mo' := mo) (fa' := fa) (pl' := pl) (ns' := ns_1) (rw' := rw) (en' := en) (wy' := wy) (wh' := wh) (bi' := bi) (ed' := ed) (sz' := sz) (md' := md) (bd' := bd) (li' := li) (wk' := wk) (we' := we) ms1 rfl rfl rfl rfl rfl rfl (by omega) (fun s3 ms3 fs3 => ?_)
    have gs3 := fs1.trans fs3
    refine T.go 1 (fun n9 => (rfl : _ = exe ξ n9 (d + 10) j_M_number 23 [(0, .ref 137), (1, J x), (2, J z1)] [.ref 137] s3)) ?_
    refine T.get rfl rfl rfl ms3.ob rfl ?_
    refine T.go 2 (fun n9 => (rfl : _ = exe ξ n9 (d + 10) j_M_number 30 [(0, .ref 137), (1, J x), (2, J z1)] [J 0] s3)) ?_
    exact T.ireti rfl rfl ⟨_, 1, rw, en, wy, wh, bi, ed, sz, md, bd, Lc, la, lk, lh, ld, ns_1, rfl, ms3, gs3, by omega, by omega, (pre0.keep (RG.refl (S := [2, 4])) (LG.refl (S := [2, 4])) (by decide)), ((LG.refl (S := [2, 4])) 0 (by decide) (by decide)), by omega, ((RG.refl (S := [2, 4])) 0 (by decide) (by decide)), ((RG.refl (S := [2, 4])) 1 (by decide) (by decide)), ((LG.refl (S := [2, 4])) 1 (by decide) (by decide)), (fun h => absurd h (by omega)), (fun _ => pz2_1 (by omega)), by omega, ((RG.refl (S := [2, 4])) 3 (by decide) (by decide)), ((LG.refl (S := [2, 4])) 3 (by decide) (by decide)), ((RG.refl (S := [2, 4])) 6 (by decide) (by decide)), ((LG.refl (S := [2, 4])) 6 (by decide) (by decide))⟩
  · refine T.go 2 (fun n9 => (rfl : _ = exe ξ n9 (d + 10) j_M_number 19 [(0, .ref 137), (1, J x), (2, J z1)] [J 0, .ref 137] s1)) ?_
    refine T.mput (c' := 0) (io' := io) (mo' := mo) (fa' := fa) (pl' := pl) (ns' := ns_1) (rw' := rw) (en' := en) (wy' := wy) (wh' := wh) (bi' := bi) (ed' := ed) (sz' := sz) (md' := md) (bd' := bd) (li' := li) (wk' := wk) (we' := we) ms1 rfl rfl rfl rfl rfl rfl (by omega) (fun s4 ms4 fs4 => ?_)
    have gs4 := fs1.trans fs4
    refine T.go 1 (fun n9 => (rfl : _ = exe ξ n9 (d + 10) j_M_number 23 [(0, .ref 137), (1, J x), (2, J z1)] [.ref 137] s4)) ?_
    refine T.get rfl rfl rfl ms4.ob rfl ?_
    refine T.go 3 (fun n9 => (rfl : _ = exe ξ n9 (d + 10) j_M_number 33 [(0, .ref 137), (1, J x), (2, J z1)] [J x, .ref 137] s4)) ?_
    obtain ⟨ok1, ok2⟩ := (pre0.keep (RG.refl (S := [2, 4])) (LG.refl (S := [2, 4])) (by decide)) (by omega)
    have mts := pre1 (by omega)
    refine T.callv (as := [J x]) (r := []) rfl rfl rfl rfl ms4.ob rfl (s_M_euse (d + 2) x s4 ms4 (by omega) (by omega) (by omega) (by omega) ok2 mts) (fun v3 s5 hqs5 => ?_)
    obtain ⟨rw_1, en_1, wy_1, wh_1, bi_1, ed_1, sz_1, md_1, bd_1, Lc_1, la_1, lk_1, lh_1, ld_1, rfl, ms5, fs5, pz3_0, pz3_1, pz3_2, pz3_3, pz3_4, pz3_5, pz3_6, pz3_7, pz3_8⟩ := hqs5
    replace pz3_6 := fun (_ : Unit) => pz3_6
    replace pz3_7 := fun (_ : Unit) => pz3_7
    have ns5 := ms5.len
    have rs5 := ms5.rg
    have gs5 := gs4.trans fs5
    have rgs5 := (RG.refl (S := [2, 4])).trans pz3_0 (by decide)
    have lgs5 := (LG.refl (S := [2, 4])).trans pz3_1 (by decide)
    refine T.go 2 (fun n9 => (rfl : _ = exe ξ n9 (d + 10) j_M_number 38 [(0, .ref 137), (1, J x), (2, J z1)] [J z1, .ref 137] s5)) ?_
    refine T.callv (as := [J z1]) (r := []) rfl rfl rfl rfl ms5.ob rfl (s_M_enamed (d + 5) z1 s5 ms5 (by omega) (by omega) (by omega) pz3_2) (fun v4 s6 hqs6 => ?_)
    obtain ⟨z4, rfl, esz4, hzz4, hyz4, pz4_0⟩ := hqs6
    rw [esz4]
    exact T.ireti rfl rfl ⟨_, 0, rw_1, en_1, wy_1, wh_1, bi_1, ed_1, sz_1, md_1, bd_1, Lc_1, la_1, lk_1, lh_1, ld_1, ns_1, rfl, ms5, gs5, by omega, by omega, (pre0.keep rgs5 lgs5 (by decide)), (lgs5 0 (by decide) (by decide)), by omega, (rgs5 0 (by decide) (by decide)), (rgs5 1 (by decide) (by decide)), (lgs5 1 (by decide) (by decide)), (fun _ => ⟨by omega, by have q := ARY_lk (pz3_8) (gc_r Lc 1) (by omega) (by omega) (by omega) pz4_0; rw [pz1_1] at q; exact q⟩), (fun h => absurd h (by omega)), by omega, (rgs5 3 (by decide) (by decide)), (lgs5 3 (by decide) (by decide)), (rgs5 6 (by decide) (by decide)), (lgs5 6 (by decide) (by decide))⟩

set_option maxHeartbeats 4000000 in
theorem s_M_zfind {ξ : Nat → Option (Nat × List Int32)} {c io mo fa pl ns rw en wy wh bi ed sz md bd li wk we : Int} {Lc : List Int64} {la lm ln lh ld lk lt : List Int32} (d : Nat) (x : Int) (σ : qH) (hM : MS σ c io mo fa pl ns rw en wy wh bi ed sz md bd li wk we Lc la lm ln lh ld lk lt) (rx : -2147483648 ≤ x ∧ x ≤ 2147483647) (pre0 : OKM Lc la lm io mo) (pre1 : MTX io (gc Lc 1) (gl la 1) lm mo) (pre2 : io = 1 ∨ mo = 0) : T ξ (d + 10) j_M_find 0 (lv_args 0 [.ref 137, J x]) [] σ (fun v σ' => ∃ (z : Int) (c1 : Int) (rw1 : Int) (en1 : Int) (wy1 : Int) (wh1 : Int) (bi1 : Int) (ed1 : Int) (sz1 : Int) (md1 : Int) (bd1 : Int) (Lc1 : List Int64) (la1 : List Int32) (lk1 : List Int32) (lh1 : List Int32) (ld1 : List Int32) (ns1 : Int), v = some (J z) ∧ MS σ' c1 io mo fa pl ns1 rw1 en1 wy1 wh1 bi1 ed1 sz1 md1 bd1 li wk we Lc1 la1 lm ln lh1 ld1 lk1 lt ∧ FM σ σ' ∧ -2147483648 ≤ z ∧ z ≤ 2147483647 ∧ OKM Lc1 la1 lm io mo ∧ gl la1 0 = gl la 0 ∧ ns1 = 0 ∧ gc Lc1 0 = gc Lc 0 ∧ gc Lc1 1 = gc Lc 1 ∧ gl la1 1 = gl la 1 ∧ (c1 = 0 → FNM (gc Lc 1) (gl la 1) lm mo (gl ln) ns x z) ∧ (c1 = 0 → 1 ≤ x) ∧ (c1 = 1 → x < 1) ∧ (0 ≤ c1 ∧ c1 ≤ 1) ∧ gc Lc1 3 = gc Lc 3 ∧ gl la1 3 = gl la 3 ∧ gc Lc1 6 = gc Lc 6 ∧ gl la1 6 = gl la 6) := by
  have r0 := hM.rg
  have n0 := hM.len
  have loop30 : ∀ (f30 : Nat) (n : Int) (k : Int) (c9 : Int) (rw9 : Int) (en9 : Int) (wy9 : Int) (wh9 : Int) (bi9 : Int) (ed9 : Int) (sz9 : Int) (md9 : Int) (bd9 : Int) (Lc9 : List Int64) (la9 : List Int32) (lk9 : List Int32) (lh9 : List Int32) (ld9 : List Int32) (ns9 : Int) (τ : qH), MS τ c9 io mo fa pl ns9 rw9 en9 wy9 wh9 bi9 ed9 sz9 md9 bd9 li wk we Lc9 la9 lm ln lh9 ld9 lk9 lt → FM σ τ → RG [2, 4] Lc Lc9 → LG [2, 4] la la9 → 1 ≤ k → k ≤ 2147483647 → 0 ≤ n → n ≤ 40 → ns9 = 0 → n = ns → NOX (gc Lc 1) (gl la 1) lm (gl ln) ns x k → x ≤ k → 1 ≤ x → c9 = 0 → (mo + 1 - k).toNat < f30 → T ξ (d + 10) j_M_find 30 [(0, .ref 137), (1, J x), (2, J n), (3, J k)] [] τ (fun v σ' => ∃ (z : Int) (c1 : Int) (rw1 : Int) (en1 : Int) (wy1 : Int) (wh1 : Int) (bi1 : Int) (ed1 : Int) (sz1 : Int) (md1 : Int) (bd1 : Int) (Lc1 : List Int64) (la1 : List Int32) (lk1 : List Int32) (lh1 : List Int32) (ld1 : List Int32) (ns1 : Int), v = some (J z) ∧ MS σ' c1 io mo fa pl ns1 rw1 en1 wy1 wh1 bi1 ed1 sz1 md1 bd1 li wk we Lc1 la1 lm ln lh1 ld1 lk1 lt ∧ FM σ σ' ∧ -2147483648 ≤ z ∧ z ≤ 2147483647 ∧ OKM Lc1 la1 lm io mo ∧ gl la1 0 = gl la 0 ∧ ns1 = 0 ∧ gc Lc1 0 = gc Lc 0 ∧ gc Lc1 1 = gc Lc 1 ∧ gl la1 1 = gl la 1 ∧ (c1 = 0 → FNM (gc Lc 1) (gl la 1) lm mo (gl ln) ns x z) ∧ (c1 = 0 → 1 ≤ x) ∧ (c1 = 1 → x < 1) ∧ (0 ≤ c1 ∧ c1 ≤ 1) ∧ gc Lc1 3 = gc Lc 3 ∧ gl la1 3 = gl la 3 ∧ gc Lc1 6 = gc Lc 6 ∧ gl la1 6 = gl la 6) := by
    intro f30
    induction f30 with
    | zero => intro n k c9 rw9 en9 wy9 wh9 bi9 ed9 sz9 md9 bd9 Lc9 la9 lk9 lh9 ld9 ns9 τ mτ fτ gτ kτ i0 i1 i2 i3 i4 i5 i6 i7 i8 i9 hm30; omega
    | succ f30 ih30 =>
      intro n k c9 rw9 en9 wy9 wh9 bi9 ed9 sz9 md9 bd9 Lc9 la9 lk9 lh9 ld9 ns9 τ mτ fτ gτ kτ i0 i1 i2 i3 i4 i5 i6 i7 i8 i9 hm30
      have rτ := mτ.rg
      have nτ := mτ.len
      refine T.go 2 (fun n9 => (rfl : _ = exe ξ n9 (d + 10) j_M_find 32 [(0, .ref 137), (1, J x), (2, J n), (3, J k)] [.ref 137, J k] τ)) ?_
      refine T.get rfl rfl rfl mτ.ob rfl ?_
      refine T.icmp_gt rfl rfl (by omega) (by omega) (fun c1 => ?_) (fun c1 => ?_)
      · refine T.go 1 (fun n9 => (rfl : _ = exe ξ n9 (d + 10) j_M_find 69 [(0, .ref 137), (1, J x), (2, J n), (3, J k)] [J (-1)] τ)) ?_
        exact T.ireti rfl rfl ⟨_, c9, rw9, en9, wy9, wh9, bi9, ed9, sz9, md9, bd9, Lc9, la9, lk9, lh9, ld9, ns9, rfl, mτ, fτ, by omega, by omega, (pre0.keep gτ kτ (by decide)), (kτ 0 (by decide) (by decide)), by omega, (gτ 0 (by decide) (by decide)), (gτ 1 (by decide) (by decide)), (kτ 1 (by decide) (by decide)), (fun _ => Or.inl ⟨rfl, NOX_w i6 (by omega)⟩), by omega, by omega, by omega, (gτ 3 (by decide) (by decide)), (kτ 3 (by decide) (by decide)), (gτ 6 (by decide) (by decide)), (kτ 6 (by decide) (by decide))⟩
      · refine T.go 2 (fun n9 => (rfl : _ = exe ξ n9 (d + 10) j_M_find 40 [(0, .ref 137), (1, J x), (2, J n), (3, J k)] [J k, .ref 137] τ)) ?_
        obtain ⟨ok1, ok2⟩ := (pre0.keep gτ kτ (by decide)) (by omega)
        have mg1 := gτ 1 (by decide) (by decide)
        have ml1 := kτ 1 (by decide) (by decide)
        have mts : MTS (gc Lc9 1) (gl la9 1) lm mo := by rw [mg1, ml1]; exact pre1 (by omega)
        refine T.callv (as := [J k]) (r := []) rfl rfl rfl rfl mτ.ob rfl (s_M_euse (d + 2) k τ mτ (by omega) (by omega) (by omega) (by omega) ok2 mts) (fun v1 s1 hqs1 => ?_)
        obtain ⟨rw_1, en_1, wy_1, wh_1, bi_1, ed_1, sz_1, md_1, bd_1, Lc_1, la_1, lk_1, lh_1, ld_1, rfl, ms1, fs1, pz1_0, pz1_1, pz1_2, pz1_3, pz1_4, pz1_5, pz1_6, pz1_7, pz1_8⟩ := hqs1
        replace pz1_6 := fun (_ : Unit) => pz1_6
        replace pz1_7 := fun (_ : Unit) => pz1_7
        have ns1 := ms1.len
        have rs1 := ms1.rg
        have gs1 := fτ.trans fs1
        have rgs1 := gτ.trans pz1_0 (by decide)
        have lgs1 := kτ.trans pz1_1 (by decide)
        have ary := pz1_8
        rw [mg1, ml1] at ary
        refine T.go 2 (fun n9 => (rfl : _ = exe ξ n9 (d + 10) j_M_find 45 [(0, .ref 137), (1, J x), (2, J n), (3, J k)] [J n, .ref 137] s1)) ?_
        refine T.callv (as := [J n]) (r := []) rfl rfl rfl rfl ms1.ob rfl (s_M_enamed (d + 5) n s1 ms1 (by omega) (by omega) (by omega) pz1_2) (fun v2 s2 hqs2 => ?_)
        obtain ⟨z2, rfl, esz2, hzz2, hyz2, pz2_0⟩ := hqs2
        rw [esz2]
        have ak := ARY_lk ary (gc_r Lc 1) (by omega) (by omega) (by omega) pz2_0
        rw [i5] at ak
        refine T.if_lt rfl rfl (by omega) (fun c2 => ?_) (fun c2 => ?_)
        · refine T.iinc (lv' := [(0, .ref 137), (1, J x), (2, J n), (3, J (k + 1))]) rfl rfl rfl rfl ?_
          refine T.go 1 (fun n9 => (rfl : _ = exe ξ n9 (d + 10) j_M_find 30 [(0, .ref 137), (1, J x), (2, J n), (3, J (k + 1))] [] s1)) ?_
          exact ih30  n (k + 1) c9 rw_1 en_1 wy_1 wh_1 bi_1 ed_1 sz_1 md_1 bd_1 Lc_1 la_1 lk_1 lh_1 ld_1 ns9 s1 ms1 gs1 rgs1 lgs1 (by omega) (by omega) (by omega) (by omega) (by omega) (by omega) (NOX_s i6 (by obtain ⟨o, fo, b1, -, -, b3⟩ := ak; exact ⟨o, fo, b1, b3 (by omega)⟩)) (by omega) (by omega) (by omega) (by omega)
        · refine T.go 2 (fun n9 => (rfl : _ = exe ξ n9 (d + 10) j_M_find 54 [(0, .ref 137), (1, J x), (2, J n), (3, J k)] [J k, J 100] s1)) ?_
          refine T.imul rfl ?_
          refine T.go 2 (fun n9 => (rfl : _ = exe ξ n9 (d + 10) j_M_find 57 [(0, .ref 137), (1, J x), (2, J n), (3, J k)] [J n, .ref 137, J (100 * k)] s1)) ?_
          refine T.callv (as := [J n]) (r := [J (100 * k)]) rfl rfl rfl rfl ms1.ob rfl (s_M_enamed (d + 5) n s1 ms1 (by omega) (by omega) (by omega) pz1_2) (fun v3 s3 hqs3 => ?_)
          obtain ⟨z3, rfl, esz3, hzz3, hyz3, pz3_0⟩ := hqs3
          rw [esz3]
          refine T.iadd rfl ?_
          exact T.ireti rfl rfl ⟨_, c9, rw_1, en_1, wy_1, wh_1, bi_1, ed_1, sz_1, md_1, bd_1, Lc_1, la_1, lk_1, lh_1, ld_1, ns9, rfl, ms1, gs1, by omega, by omega, (pre0.keep rgs1 lgs1 (by decide)), (lgs1 0 (by decide) (by decide)), by omega, (rgs1 0 (by decide) (by decide)), (rgs1 1 (by decide) (by decide)), (lgs1 1 (by decide) (by decide)), (fun _ => Or.inr ⟨k, z2, by omega, by omega, (by obtain ⟨o, fo, b1, b0, b2, -⟩ := ak; exact ⟨o, fo, b1, b0, b2 (by omega)⟩), (by have e := pz3_0.trans pz2_0.symm; omega), i6⟩), by omega, by omega, by omega, (rgs1 3 (by decide) (by decide)), (lgs1 3 (by decide) (by decide)), (rgs1 6 (by decide) (by decide)), (lgs1 6 (by decide) (by decide))⟩
  refine T.go 1 (fun n9 => (rfl : _ = exe ξ n9 (d + 10) j_M_find 1 [(0, .ref 137), (1, J x)] [.ref 137] σ)) ?_
  refine T.callv (as := []) (r := []) rfl rfl rfl rfl hM.ob rfl (s_M_eusedName (d + 9)  σ hM ) (fun v4 s4 hqs4 => ?_)
  obtain ⟨z4, ns_1, rfl, ms4, fs4, hzz4, hyz4, pz4_0, pz4_1⟩ := hqs4
  have ns4 := ms4.len
  have rs4 := ms4.rg
  refine T.go 4 (fun n9 => (rfl : _ = exe ξ n9 (d + 10) j_M_find 8 [(0, .ref 137), (1, J x), (2, J z4)] [J 1, J x, .ref 137] s4)) ?_
  refine T.icmp_ge rfl rfl (by omega) (by omega) (fun c3 => ?_) (fun c3 => ?_)
  · refine T.go 1 (fun n9 => (rfl : _ = exe ξ n9 (d + 10) j_M_find 16 [(0, .ref 137), (1, J x), (2, J z4)] [J 0, .ref 137] s4)) ?_
    refine T.mput (c' := 0) (io' := io) (mo' := mo) (fa' := fa) (pl' := pl) (ns' := ns_1) (rw' := rw) (en' := en) (wy' := wy) (wh' := wh) (bi' := bi) (ed' := ed) (sz' := sz) (md' := md) (bd' := bd) (li' := li) (wk' := wk) (we' := we) ms4 rfl rfl rfl rfl rfl rfl (by omega) (fun s5 ms5 fs5 => ?_)
    have gs5 := fs4.trans fs5
    refine T.go 1 (fun n9 => (rfl : _ = exe ξ n9 (d + 10) j_M_find 20 [(0, .ref 137), (1, J x), (2, J z4)] [.ref 137] s5)) ?_
    refine T.get rfl rfl rfl ms5.ob rfl ?_
    refine T.go 3 (fun n9 => (rfl : _ = exe ξ n9 (d + 10) j_M_find 30 [(0, .ref 137), (1, J x), (2, J z4), (3, J x)] [] s5)) ?_
    exact loop30 _ z4 x 0 rw en wy wh bi ed sz md bd Lc la lk lh ld ns_1 s5 ms5 gs5 RG.refl LG.refl (by omega) (by omega) (by omega) (by omega) (by omega) (by omega) NOX_0 (by omega) (by omega) (by omega) (Nat.lt_succ_self _)
  · refine T.go 2 (fun n9 => (rfl : _ = exe ξ n9 (d + 10) j_M_find 16 [(0, .ref 137), (1, J x), (2, J z4)] [J 1, .ref 137] s4)) ?_
    refine T.mput (c' := 1) (io' := io) (mo' := mo) (fa' := fa) (pl' := pl) (ns' := ns_1) (rw' := rw) (en' := en) (wy' := wy) (wh' := wh) (bi' := bi) (ed' := ed) (sz' := sz) (md' := md) (bd' := bd) (li' := li) (wk' := wk) (we' := we) ms4 rfl rfl rfl rfl rfl rfl (by omega) (fun s6 ms6 fs6 => ?_)
    have gs6 := fs4.trans fs6
    refine T.go 1 (fun n9 => (rfl : _ = exe ξ n9 (d + 10) j_M_find 20 [(0, .ref 137), (1, J x), (2, J z4)] [.ref 137] s6)) ?_
    refine T.get rfl rfl rfl ms6.ob rfl ?_
    refine T.go 2 (fun n9 => (rfl : _ = exe ξ n9 (d + 10) j_M_find 27 [(0, .ref 137), (1, J x), (2, J z4)] [J 0] s6)) ?_
    exact T.ireti rfl rfl ⟨_, 1, rw, en, wy, wh, bi, ed, sz, md, bd, Lc, la, lk, lh, ld, ns_1, rfl, ms6, gs6, by omega, by omega, (pre0.keep (RG.refl (S := [2, 4])) (LG.refl (S := [2, 4])) (by decide)), ((LG.refl (S := [2, 4])) 0 (by decide) (by decide)), by omega, ((RG.refl (S := [2, 4])) 0 (by decide) (by decide)), ((RG.refl (S := [2, 4])) 1 (by decide) (by decide)), ((LG.refl (S := [2, 4])) 1 (by decide) (by decide)), (fun h => absurd h (by omega)), by omega, by omega, by omega, ((RG.refl (S := [2, 4])) 3 (by decide) (by decide)), ((LG.refl (S := [2, 4])) 3 (by decide) (by decide)), ((RG.refl (S := [2, 4])) 6 (by decide) (by decide)), ((LG.refl (S := [2, 4])) 6 (by decide) (by decide))⟩

set_option maxHeartbeats 4000000 in
theorem s_M_zmount {ξ : Nat → Option (Nat × List Int32)} {c io mo fa pl ns rw en wy wh bi ed sz md bd li wk we : Int} {Lc : List Int64} {la lm ln lh ld lk lt : List Int32} (d : Nat) (x : Int) (σ : qH) (hM : MS σ c io mo fa pl ns rw en wy wh bi ed sz md bd li wk we Lc la lm ln lh ld lk lt) (rx : -2147483648 ≤ x ∧ x ≤ 2147483647) (pre0 : OKM Lc la lm io mo) (pre1 : MTX io (gc Lc 1) (gl la 1) lm mo) : T ξ (d + 10) j_M_mount 0 (lv_args 0 [.ref 137, J x]) [] σ (fun v σ' => ∃ (z : Int) (c1 : Int) (rw1 : Int) (en1 : Int) (wy1 : Int) (wh1 : Int) (bi1 : Int) (ed1 : Int) (sz1 : Int) (md1 : Int) (bd1 : Int) (Lc1 : List Int64) (la1 : List Int32) (lk1 : List Int32) (lh1 : List Int32) (ld1 : List Int32) (fa1 : Int) (pl1 : Int) (mo1 : Int) (lm1 : List Int32), v = some (J z) ∧ MS σ' c1 io mo1 fa1 pl1 ns rw1 en1 wy1 wh1 bi1 ed1 sz1 md1 bd1 li wk we Lc1 la1 lm1 ln lh1 ld1 lk1 lt ∧ FM σ σ' ∧ -2147483648 ≤ z ∧ z ≤ 2147483647 ∧ OKM Lc1 la1 lm1 io mo1 ∧ gl la1 0 = gl la 0 ∧ gc Lc1 0 = gc Lc 0 ∧ gc Lc1 1 = gc Lc 1 ∧ gl la1 1 = gl la 1 ∧ (c1 = 0 → io = 1 ∧ 0 ≤ x ∧ x < NEf (gc Lc 1) (gl la 1) ∧ mo < 6 ∧ mo1 = mo + 1) ∧ (c1 = 0 → MOK (gc Lc 1) (gl la 1) x) ∧ (c1 = 0 → MSET lm lm1 mo x) ∧ (c1 ≠ 0 → mo1 = mo ∧ lm1 = lm) ∧ (c1 ≠ 0 → io = 1 → 0 ≤ x → x < NEf (gc Lc 1) (gl la 1) → mo < 6 → NMT (gc Lc 1) (gl la 1) x) ∧ (c1 = 0 → z = mo1) ∧ (c1 = 1 → ¬ (io = 1 ∧ 0 ≤ x ∧ x < NEf (gc Lc 1) (gl la 1))) ∧ (c1 = 2 → (io = 1 ∧ 0 ≤ x ∧ x < NEf (gc Lc 1) (gl la 1)) ∧ NMT (gc Lc 1) (gl la 1) x) ∧ (c1 = 3 → (io = 1 ∧ 0 ≤ x ∧ x < NEf (gc Lc 1) (gl la 1)) ∧ MOK (gc Lc 1) (gl la 1) x ∧ mo = 6) ∧ (0 ≤ c1 ∧ c1 ≤ 3) ∧ gc Lc1 3 = gc Lc 3 ∧ gl la1 3 = gl la 3 ∧ gc Lc1 6 = gc Lc 6 ∧ gl la1 6 = gl la 6) := by
  have r0 := hM.rg
  have n0 := hM.len
  refine T.go 4 (fun n9 => (rfl : _ = exe ξ n9 (d + 10) j_M_mount 4 [(0, .ref 137), (1, J x)] [J x, J 0, .ref 137, .ref 137] σ)) ?_
  refine T.callv (as := [J 0, J x]) (r := [.ref 137]) rfl rfl rfl rfl hM.ob rfl (s_M_fhasEntry (d + 1) 0 x σ hM (by omega) (by omega) (pre0.keep (RG.refl (S := [2, 4])) (LG.refl (S := [2, 4])) (by decide)) pre1) (fun v1 s1 hqs1 => ?_)
  obtain ⟨z1, rw_1, en_1, wy_1, wh_1, bi_1, ed_1, sz_1, md_1, bd_1, Lc_1, la_1, lk_1, lh_1, ld_1, rfl, ms1, fs1, hzz1, hyz1, pz1_0, pz1_1, pz1_2, pz1_3, pz1_4, pz1_5, pz1_6⟩ := hqs1
  replace pz1_4 := fun (_ : Unit) => pz1_4
  replace pz1_6 := fun (_ : Unit) => pz1_6
  have ns1 := ms1.len
  have rs1 := ms1.rg
  have rgs1 := (RG.refl (S := [2, 4])).trans pz1_0 (by decide)
  have lgs1 := (LG.refl (S := [2, 4])).trans pz1_1 (by decide)
  refine T.if_eq rfl rfl (by omega) (fun c1 => ?_) (fun c1 => ?_)
  · refine T.go 1 (fun n9 => (rfl : _ = exe ξ n9 (d + 10) j_M_mount 15 [(0, .ref 137), (1, J x)] [J 1, .ref 137] s1)) ?_
    refine T.mput (c' := 1) (io' := io) (mo' := mo) (fa' := fa) (pl' := pl) (ns' := ns) (rw' := rw_1) (en' := en_1) (wy' := wy_1) (wh' := wh_1) (bi' := bi_1) (ed' := ed_1) (sz' := sz_1) (md' := md_1) (bd' := bd_1) (li' := li) (wk' := wk) (we' := we) ms1 rfl rfl rfl rfl rfl rfl (by omega) (fun s2 ms2 fs2 => ?_)
    have gs2 := fs1.trans fs2
    refine T.go 1 (fun n9 => (rfl : _ = exe ξ n9 (d + 10) j_M_mount 19 [(0, .ref 137), (1, J x)] [.ref 137] s2)) ?_
    refine T.get rfl rfl rfl ms2.ob rfl ?_
    refine T.go 2 (fun n9 => (rfl : _ = exe ξ n9 (d + 10) j_M_mount 26 [(0, .ref 137), (1, J x)] [J 0] s2)) ?_
    exact T.ireti rfl rfl ⟨_, 1, rw_1, en_1, wy_1, wh_1, bi_1, ed_1, sz_1, md_1, bd_1, Lc_1, la_1, lk_1, lh_1, ld_1, fa, pl, mo, lm, rfl, ms2, gs2, by omega, by omega, (pre0.keep rgs1 lgs1 (by decide)), (lgs1 0 (by decide) (by decide)), (rgs1 0 (by decide) (by decide)), (rgs1 1 (by decide) (by decide)), (lgs1 1 (by decide) (by decide)), (fun h => absurd h (by omega)), (fun h => absurd h (by omega)), (fun h => absurd h (by omega)), (fun _ => ⟨rfl, rfl⟩), (fun h q1 q2 q3 q4 => by exfalso; have := pz1_5 rfl (by omega); omega), by omega, (fun _ q => by have := pz1_5 rfl (by omega); omega), (fun h => absurd h (by omega)), (fun h => absurd h (by omega)), by omega, (rgs1 3 (by decide) (by decide)), (lgs1 3 (by decide) (by decide)), (rgs1 6 (by decide) (by decide)), (lgs1 6 (by decide) (by decide))⟩
  · refine T.go 2 (fun n9 => (rfl : _ = exe ξ n9 (d + 10) j_M_mount 15 [(0, .ref 137), (1, J x)] [J 0, .ref 137] s1)) ?_
    refine T.mput (c' := 0) (io' := io) (mo' := mo) (fa' := fa) (pl' := pl) (ns' := ns) (rw' := rw_1) (en' := en_1) (wy' := wy_1) (wh' := wh_1) (bi' := bi_1) (ed' := ed_1) (sz' := sz_1) (md' := md_1) (bd' := bd_1) (li' := li) (wk' := wk) (we' := we) ms1 rfl rfl rfl rfl rfl rfl (by omega) (fun s3 ms3 fs3 => ?_)
    have gs3 := fs1.trans fs3
    refine T.go 1 (fun n9 => (rfl : _ = exe ξ n9 (d + 10) j_M_mount 19 [(0, .ref 137), (1, J x)] [.ref 137] s3)) ?_
    refine T.get rfl rfl rfl ms3.ob rfl ?_
    refine T.go 3 (fun n9 => (rfl : _ = exe ξ n9 (d + 10) j_M_mount 29 [(0, .ref 137), (1, J x)] [J x, .ref 137] s3)) ?_
    have hd := (pz1_4 ()) (by omega)
    have hx := hd x (by omega) (by omega)
    have hdj := (pz1_6 ()) (by omega) rfl x (by omega) (by omega)
    have rwe := (pz1_3 (by omega) rfl).1
    have ene := (pz1_3 (by omega) rfl).2
    have cg1 := rgs1 1 (by decide) (by decide)
    refine T.callv (as := [J x]) (r := []) rfl rfl rfl rfl ms3.ob rfl (s_M_fisNoMount (d + 2) x s3 ms3 (by omega) (by omega) (by omega) (by omega) (by omega) (by omega) (by omega)) (fun v2 s4 hqs4 => ?_)
    obtain ⟨z2, rw_2, en_2, wy_2, wh_2, bi_2, ed_2, sz_2, md_2, bd_2, Lc_2, la_2, lk_2, lh_2, ld_2, rfl, ms4, fs4, hzz2, hyz2, pz2_0, pz2_1, pz2_2, pz2_3⟩ := hqs4
    have ns4 := ms4.len
    have rs4 := ms4.rg
    have gs4 := gs3.trans fs4
    have rgs4 := rgs1.trans pz2_0 (by decide)
    have lgs4 := lgs1.trans pz2_1 (by decide)
    rw [rwe, cg1, hdj.1, hdj.2] at pz2_2 pz2_3
    have mok9 : z2 = 0 → MOK (gc Lc 1) (gl la 1) x := fun h => by obtain ⟨o, h1, h2, -⟩ := pz2_2 h; exact ⟨o, h1, h2⟩
    have nmt9 : z2 = 1 → NMT (gc Lc 1) (gl la 1) x := pz2_3
    refine T.if_eq rfl rfl (by omega) (fun c2 => ?_) (fun c2 => ?_)
    · refine T.go 1 (fun n9 => (rfl : _ = exe ξ n9 (d + 10) j_M_mount 42 [(0, .ref 137), (1, J x)] [.ref 137] s4)) ?_
      refine T.get rfl rfl rfl ms4.ob rfl ?_
      refine T.go 1 (fun n9 => (rfl : _ = exe ξ n9 (d + 10) j_M_mount 47 [(0, .ref 137), (1, J x)] [J 6, J mo] s4)) ?_
      refine T.icmp_ne rfl rfl (by omega) (by omega) (fun c3 => ?_) (fun c3 => ?_)
      · refine T.go 1 (fun n9 => (rfl : _ = exe ξ n9 (d + 10) j_M_mount 57 [(0, .ref 137), (1, J x)] [.ref 137] s4)) ?_
        refine T.get rfl rfl rfl ms4.ob rfl ?_
        refine T.go 1 (fun n9 => (rfl : _ = exe ξ n9 (d + 10) j_M_mount 61 [(0, .ref 137), (1, J x)] [.ref 137, .ref 140] s4)) ?_
        refine T.get rfl rfl rfl ms4.ob rfl ?_
        refine T.go 1 (fun n9 => (rfl : _ = exe ξ n9 (d + 10) j_M_mount 65 [(0, .ref 137), (1, J x)] [J x, J mo, .ref 140] s4)) ?_
        refine T.mast140 ms4 rfl (by omega) (by omega) (fun s5 ms5 fs5 => ?_)
        have ns5 := ms5.len
        have gs5 := gs4.trans fs5
        have gss5 : ∀ j : Int, 0 ≤ j → gl (lm.set (mo : Int).toNat (Int32.ofInt x)) j = if j = mo then x else gl lm j := fun j hj => gl_set ⟨by omega, by omega⟩ ⟨by omega, by omega⟩ hj
        have ges5 : gl (lm.set (mo : Int).toNat (Int32.ofInt x)) mo = x := (gss5 mo (by omega)).trans (if_pos rfl)
        have okk := pre0.keep rgs4 lgs4 (by decide)
        refine T.go 2 (fun n9 => (rfl : _ = exe ξ n9 (d + 10) j_M_mount 68 [(0, .ref 137), (1, J x)] [.ref 137, .ref 137] s5)) ?_
        refine T.get rfl rfl rfl ms5.ob rfl ?_
        refine T.go 1 (fun n9 => (rfl : _ = exe ξ n9 (d + 10) j_M_mount 72 [(0, .ref 137), (1, J x)] [J 1, J mo, .ref 137] s5)) ?_
        refine T.iadd rfl ?_
        refine T.mput (c' := 0) (io' := io) (mo' := mo + 1) (fa' := fa) (pl' := pl) (ns' := ns) (rw' := rw_2) (en' := en_2) (wy' := wy_2) (wh' := wh_2) (bi' := bi_2) (ed' := ed_2) (sz' := sz_2) (md' := md_2) (bd' := bd_2) (li' := li) (wk' := wk) (we' := we) ms5 rfl rfl rfl rfl rfl rfl (by omega) (fun s6 ms6 fs6 => ?_)
        have gs6 := gs5.trans fs6
        refine T.go 1 (fun n9 => (rfl : _ = exe ξ n9 (d + 10) j_M_mount 77 [(0, .ref 137), (1, J x)] [.ref 137] s6)) ?_
        refine T.get rfl rfl rfl ms6.ob rfl ?_
        exact T.ireti rfl rfl ⟨_, 0, rw_2, en_2, wy_2, wh_2, bi_2, ed_2, sz_2, md_2, bd_2, Lc_2, la_2, lk_2, lh_2, ld_2, fa, pl, (mo + 1), (lm.set (mo : Int).toNat (Int32.ofInt x)), rfl, ms6, gs6, by omega, by omega, (fun _ => ⟨(okk (by omega)).1, fun j a b => if q : j = mo then (by rw [q, ges5]; have e8 := pz1_3 (by omega) rfl; have c8 := rgs4 1 (by decide) (by decide); have l8 := lgs4 1 (by decide) (by decide); rw [c8, l8]; omega) else (by rw [(gss5 j a).trans (if_neg q)]; exact (okk (by omega)).2 j a (by omega))⟩), (lgs4 0 (by decide) (by decide)), (rgs4 0 (by decide) (by decide)), (rgs4 1 (by decide) (by decide)), (lgs4 1 (by decide) (by decide)), (fun _ => ⟨by omega, by omega, by have e7 : NEf (gc Lc 1) (gl la 1) = W2 (gc Lc 1) (EN (gc Lc 1) (gl la 1) + 8) := rfl; omega, by omega, by omega⟩), (fun _ => mok9 (by omega)), (fun _ => gss5), (fun h => absurd (by omega) h), (fun h => absurd (by omega) h), by omega, (fun h => absurd h (by omega)), (fun h => absurd h (by omega)), (fun h => absurd h (by omega)), by omega, (rgs4 3 (by decide) (by decide)), (lgs4 3 (by decide) (by decide)), (rgs4 6 (by decide) (by decide)), (lgs4 6 (by decide) (by decide))⟩
      · refine T.go 2 (fun n9 => (rfl : _ = exe ξ n9 (d + 10) j_M_mount 52 [(0, .ref 137), (1, J x)] [J 3, .ref 137] s4)) ?_
        refine T.callv (as := [J 3]) (r := []) rfl rfl rfl rfl ms4.ob rfl (s_M_frefuse (d + 9) 3 s4 ms4 (by omega)) (fun v3 s7 hqs7 => ?_)
        obtain ⟨z3, c_1, rfl, ms7, fs7, hzz3, hyz3, pz3_0⟩ := hqs7
        have ns7 := ms7.len
        have rs7 := ms7.rg
        have gs7 := gs4.trans fs7
        exact T.ireti rfl rfl ⟨_, c_1, rw_2, en_2, wy_2, wh_2, bi_2, ed_2, sz_2, md_2, bd_2, Lc_2, la_2, lk_2, lh_2, ld_2, fa, pl, mo, lm, rfl, ms7, gs7, by omega, by omega, (pre0.keep rgs4 lgs4 (by decide)), (lgs4 0 (by decide) (by decide)), (rgs4 0 (by decide) (by decide)), (rgs4 1 (by decide) (by decide)), (lgs4 1 (by decide) (by decide)), (fun h => absurd h (by omega)), (fun h => absurd h (by omega)), (fun h => absurd h (by omega)), (fun _ => ⟨rfl, rfl⟩), (fun h q1 q2 q3 q4 => by first | exact nmt9 (by omega) | (exfalso; omega)), by omega, (fun h => absurd h (by omega)), (fun h => ⟨⟨by omega, by omega, by have e7 : NEf (gc Lc 1) (gl la 1) = W2 (gc Lc 1) (EN (gc Lc 1) (gl la 1) + 8) := rfl; omega⟩, nmt9 (by omega)⟩), (fun h => ⟨⟨by omega, by omega, by have e7 : NEf (gc Lc 1) (gl la 1) = W2 (gc Lc 1) (EN (gc Lc 1) (gl la 1) + 8) := rfl; omega⟩, mok9 (by omega), by omega⟩), by omega, (rgs4 3 (by decide) (by decide)), (lgs4 3 (by decide) (by decide)), (rgs4 6 (by decide) (by decide)), (lgs4 6 (by decide) (by decide))⟩
    · refine T.go 2 (fun n9 => (rfl : _ = exe ξ n9 (d + 10) j_M_mount 37 [(0, .ref 137), (1, J x)] [J 2, .ref 137] s4)) ?_
      refine T.callv (as := [J 2]) (r := []) rfl rfl rfl rfl ms4.ob rfl (s_M_frefuseFault (d + 8) 2 s4 ms4 (by omega)) (fun v4 s8 hqs8 => ?_)
      obtain ⟨z4, c_2, fa_1, pl_1, rfl, ms8, fs8, hzz4, hyz4, pz4_0⟩ := hqs8
      have ns8 := ms8.len
      have rs8 := ms8.rg
      have gs8 := gs4.trans fs8
      exact T.ireti rfl rfl ⟨_, c_2, rw_2, en_2, wy_2, wh_2, bi_2, ed_2, sz_2, md_2, bd_2, Lc_2, la_2, lk_2, lh_2, ld_2, fa_1, pl_1, mo, lm, rfl, ms8, gs8, by omega, by omega, (pre0.keep rgs4 lgs4 (by decide)), (lgs4 0 (by decide) (by decide)), (rgs4 0 (by decide) (by decide)), (rgs4 1 (by decide) (by decide)), (lgs4 1 (by decide) (by decide)), (fun h => absurd h (by omega)), (fun h => absurd h (by omega)), (fun h => absurd h (by omega)), (fun _ => ⟨rfl, rfl⟩), (fun h q1 q2 q3 q4 => by first | exact nmt9 (by omega) | (exfalso; omega)), by omega, (fun h => absurd h (by omega)), (fun h => ⟨⟨by omega, by omega, by have e7 : NEf (gc Lc 1) (gl la 1) = W2 (gc Lc 1) (EN (gc Lc 1) (gl la 1) + 8) := rfl; omega⟩, nmt9 (by omega)⟩), (fun h => ⟨⟨by omega, by omega, by have e7 : NEf (gc Lc 1) (gl la 1) = W2 (gc Lc 1) (EN (gc Lc 1) (gl la 1) + 8) := rfl; omega⟩, mok9 (by omega), by omega⟩), by omega, (rgs4 3 (by decide) (by decide)), (lgs4 3 (by decide) (by decide)), (rgs4 6 (by decide) (by decide)), (lgs4 6 (by decide) (by decide))⟩

set_option maxHeartbeats 4000000 in
theorem s_M_zindex {ξ : Nat → Option (Nat × List Int32)} {c io mo fa pl ns rw en wy wh bi ed sz md bd li wk we : Int} {Lc : List Int64} {la lm ln lh ld lk lt : List Int32} (d : Nat)  (σ : qH) (hM : MS σ c io mo fa pl ns rw en wy wh bi ed sz md bd li wk we Lc la lm ln lh ld lk lt) (pre0 : OKM Lc la lm io mo) : T ξ (d + 10) j_M_index 0 (lv_args 0 [.ref 137]) [] σ (fun v σ' => ∃ (z : Int) (c1 : Int) (fa1 : Int) (pl1 : Int) (mo1 : Int) (lm1 : List Int32) (rw1 : Int) (en1 : Int) (wy1 : Int) (wh1 : Int) (bi1 : Int) (ed1 : Int) (sz1 : Int) (md1 : Int) (bd1 : Int) (Lc1 : List Int64) (la1 : List Int32) (lk1 : List Int32) (lh1 : List Int32) (ld1 : List Int32) (lt1 : List Int32) (li1 : Int), v = some (J z) ∧ MS σ' c1 io mo1 fa1 pl1 ns rw1 en1 wy1 wh1 bi1 ed1 sz1 md1 bd1 li1 wk we Lc1 la1 lm1 ln lh1 ld1 lk1 lt1 ∧ FM σ σ' ∧ -2147483648 ≤ z ∧ z ≤ 2147483647 ∧ OKM Lc1 la1 lm1 io mo1 ∧ gl la1 0 = gl la 0 ∧ gc Lc1 0 = gc Lc 0 ∧ gc Lc1 1 = gc Lc 1 ∧ gl la1 1 = gl la 1 ∧ (c1 = 0 → io = 1 ∧ IXM (gc Lc 1) (gl la 1) lm1 mo1) ∧ (c1 ≠ 0 → mo1 = mo ∧ lm1 = lm) ∧ (c1 ≠ 0 → io = 1 → NIX (gc Lc 1) (gl la 1)) ∧ (c1 = 0 → z = mo1) ∧ (c1 = 1 → io ≠ 1) ∧ (c1 = 2 → io = 1 ∧ NIX (gc Lc 1) (gl la 1)) ∧ (0 ≤ c1 ∧ c1 ≤ 2) ∧ gc Lc1 3 = gc Lc 3 ∧ gl la1 3 = gl la 3 ∧ gc Lc1 6 = gc Lc 6 ∧ gl la1 6 = gl la 6) := by
  have r0 := hM.rg
  have n0 := hM.len
  have loop48 : ∀ (f48 : Nat) (k : Int) (c9 : Int) (mo9 : Int) (lm9 : List Int32) (rw9 : Int) (en9 : Int) (wy9 : Int) (wh9 : Int) (bi9 : Int) (ed9 : Int) (sz9 : Int) (md9 : Int) (bd9 : Int) (Lc9 : List Int64) (la9 : List Int32) (lk9 : List Int32) (lh9 : List Int32) (ld9 : List Int32) (lt9 : List Int32) (li9 : Int) (τ : qH), MS τ c9 io mo9 fa pl ns rw9 en9 wy9 wh9 bi9 ed9 sz9 md9 bd9 li9 wk we Lc9 la9 lm9 ln lh9 ld9 lk9 lt9 → FM σ τ → RG [2, 4, 5] Lc Lc9 → LG [2, 4, 5] la la9 → 0 ≤ k → k ≤ li9 → (mo9 = li9 ∧ c9 = 0) → (∀ j : Int, 0 ≤ j → j < k → gl lm9 j = gl lt9 j) → (∀ j : Int, 0 ≤ j → j < li9 → gl lt9 j < W2 (gc Lc9 1) (EN (gc Lc9 1) (gl la9 1) + 8)) → io = 1 → IXM (gc Lc 1) (gl la 1) lt9 li9 → (li9 - k).toNat < f48 → T ξ (d + 10) j_M_index 48 [(0, .ref 137), (1, J k)] [] τ (fun v σ' => ∃ (z : Int) (c1 : Int) (fa1 : Int) (pl1 : Int) (mo1 : Int) (lm1 : List Int32) (rw1 : Int) (en1 : Int) (wy1 : Int) (wh1 : Int) (bi1 : Int) (ed1 : Int) (sz1 : Int) (md1 : Int) (bd1 : Int) (Lc1 : List Int64) (la1 : List Int32) (lk1 : List Int32) (lh1 : List Int32) (ld1 : List Int32) (lt1 : List Int32) (li1 : Int), v = some (J z) ∧ MS σ' c1 io mo1 fa1 pl1 ns rw1 en1 wy1 wh1 bi1 ed1 sz1 md1 bd1 li1 wk we Lc1 la1 lm1 ln lh1 ld1 lk1 lt1 ∧ FM σ σ' ∧ -2147483648 ≤ z ∧ z ≤ 2147483647 ∧ OKM Lc1 la1 lm1 io mo1 ∧ gl la1 0 = gl la 0 ∧ gc Lc1 0 = gc Lc 0 ∧ gc Lc1 1 = gc Lc 1 ∧ gl la1 1 = gl la 1 ∧ (c1 = 0 → io = 1 ∧ IXM (gc Lc 1) (gl la 1) lm1 mo1) ∧ (c1 ≠ 0 → mo1 = mo ∧ lm1 = lm) ∧ (c1 ≠ 0 → io = 1 → NIX (gc Lc 1) (gl la 1)) ∧ (c1 = 0 → z = mo1) ∧ (c1 = 1 → io ≠ 1) ∧ (c1 = 2 → io = 1 ∧ NIX (gc Lc 1) (gl la 1)) ∧ (0 ≤ c1 ∧ c1 ≤ 2) ∧ gc Lc1 3 = gc Lc 3 ∧ gl la1 3 = gl la 3 ∧ gc Lc1 6 = gc Lc 6 ∧ gl la1 6 = gl la 6) := by
    intro f48
    induction f48 with
    | zero => intro k c9 mo9 lm9 rw9 en9 wy9 wh9 bi9 ed9 sz9 md9 bd9 Lc9 la9 lk9 lh9 ld9 lt9 li9 τ mτ fτ gτ kτ i0 i1 i2 i3 i4 i5 i6 hm48; omega
    | succ f48 ih48 =>
      intro k c9 mo9 lm9 rw9 en9 wy9 wh9 bi9 ed9 sz9 md9 bd9 Lc9 la9 lk9 lh9 ld9 lt9 li9 τ mτ fτ gτ kτ i0 i1 i2 i3 i4 i5 i6 hm48
      have rτ := mτ.rg
      have nτ := mτ.len
      refine T.go 2 (fun n9 => (rfl : _ = exe ξ n9 (d + 10) j_M_index 50 [(0, .ref 137), (1, J k)] [.ref 137, J k] τ)) ?_
      refine T.get rfl rfl rfl mτ.ob rfl ?_
      refine T.icmp_ge rfl rfl (by omega) (by omega) (fun c1 => ?_) (fun c1 => ?_)
      · refine T.go 1 (fun n9 => (rfl : _ = exe ξ n9 (d + 10) j_M_index 75 [(0, .ref 137), (1, J k)] [.ref 137] τ)) ?_
        refine T.get rfl rfl rfl mτ.ob rfl ?_
        exact T.ireti rfl rfl ⟨_, c9, fa, pl, mo9, lm9, rw9, en9, wy9, wh9, bi9, ed9, sz9, md9, bd9, Lc9, la9, lk9, lh9, ld9, lt9, li9, rfl, mτ, fτ, by omega, by omega, (by have kk := pre0.keep gτ kτ (by decide); exact fun _ => ⟨(kk (by omega)).1, fun j a b => by rw [i3 j a (by omega)]; exact i4 j a (by omega)⟩), (kτ 0 (by decide) (by decide)), (gτ 0 (by decide) (by decide)), (gτ 1 (by decide) (by decide)), (kτ 1 (by decide) (by decide)), (fun _ => ⟨by omega, ⟨by rw [show mo9 = li9 by omega]; exact i6.1, fun i a b => by rw [i3 i a (by omega)]; exact i6.2 i a (by omega)⟩⟩), (fun h => absurd (by omega) h), (fun h => absurd (by omega) h), by omega, by omega, (fun h => absurd h (by omega)), by omega, (gτ 3 (by decide) (by decide)), (kτ 3 (by decide) (by decide)), (gτ 6 (by decide) (by decide)), (kτ 6 (by decide) (by decide))⟩
      · refine T.go 1 (fun n9 => (rfl : _ = exe ξ n9 (d + 10) j_M_index 57 [(0, .ref 137), (1, J k)] [.ref 137] τ)) ?_
        refine T.get rfl rfl rfl mτ.ob rfl ?_
        refine T.go 2 (fun n9 => (rfl : _ = exe ξ n9 (d + 10) j_M_index 62 [(0, .ref 137), (1, J k)] [.ref 137, J k, .ref 140] τ)) ?_
        refine T.get rfl rfl rfl mτ.ob rfl ?_
        refine T.go 1 (fun n9 => (rfl : _ = exe ξ n9 (d + 10) j_M_index 66 [(0, .ref 137), (1, J k)] [J k, .ref 145, J k, .ref 140] τ)) ?_
        refine T.iald rfl rfl mτ.c145 (by omega) (fun z1 hzz1 hyz1 hez1 => ?_)
        have hbz1 := mτ.b145.at hez1 ⟨hzz1, hyz1⟩
        have gzz1 := gl_of hez1 ⟨hzz1, hyz1⟩
        subst gzz1
        refine T.mast140 mτ rfl (by omega) (by omega) (fun s1 ms1 fs1 => ?_)
        have ns1 := ms1.len
        have gs1 := fτ.trans fs1
        have gss1 : ∀ j : Int, 0 ≤ j → gl (lm9.set (k : Int).toNat (Int32.ofInt (gl lt9 k))) j = if j = k then gl lt9 k else gl lm9 j := fun j hj => gl_set ⟨by omega, by omega⟩ ⟨by omega, by omega⟩ hj
        have ges1 : gl (lm9.set (k : Int).toNat (Int32.ofInt (gl lt9 k))) k = gl lt9 k := (gss1 k (by omega)).trans (if_pos rfl)
        refine T.iinc (lv' := [(0, .ref 137), (1, J (k + 1))]) rfl rfl rfl rfl ?_
        refine T.go 1 (fun n9 => (rfl : _ = exe ξ n9 (d + 10) j_M_index 48 [(0, .ref 137), (1, J (k + 1))] [] s1)) ?_
        exact ih48  (k + 1) c9 mo9 (lm9.set (k : Int).toNat (Int32.ofInt (gl lt9 k))) rw9 en9 wy9 wh9 bi9 ed9 sz9 md9 bd9 Lc9 la9 lk9 lh9 ld9 lt9 li9 s1 ms1 gs1 gτ kτ (by omega) (by omega) (by omega) (fun j a b => if q : j = k then (by rw [q]; exact ges1) else ((gss1 j a).trans (if_neg q)).trans (i3 j a (by omega))) i4 (by omega) i6 (by omega)
  refine T.go 2 (fun n9 => (rfl : _ = exe ξ n9 (d + 10) j_M_index 2 [(0, .ref 137)] [.ref 137, .ref 137] σ)) ?_
  refine T.get rfl rfl rfl hM.ob rfl ?_
  refine T.if_eq rfl rfl (by omega) (fun c2 => ?_) (fun c2 => ?_)
  · refine T.go 1 (fun n9 => (rfl : _ = exe ξ n9 (d + 10) j_M_index 13 [(0, .ref 137)] [J 1, .ref 137] σ)) ?_
    refine T.mput (c' := 1) (io' := io) (mo' := mo) (fa' := fa) (pl' := pl) (ns' := ns) (rw' := rw) (en' := en) (wy' := wy) (wh' := wh) (bi' := bi) (ed' := ed) (sz' := sz) (md' := md) (bd' := bd) (li' := li) (wk' := wk) (we' := we) hM rfl rfl rfl rfl rfl rfl (by omega) (fun s2 ms2 fs2 => ?_)
    refine T.go 1 (fun n9 => (rfl : _ = exe ξ n9 (d + 10) j_M_index 17 [(0, .ref 137)] [.ref 137] s2)) ?_
    refine T.get rfl rfl rfl ms2.ob rfl ?_
    refine T.go 2 (fun n9 => (rfl : _ = exe ξ n9 (d + 10) j_M_index 24 [(0, .ref 137)] [J 0] s2)) ?_
    exact T.ireti rfl rfl ⟨_, 1, fa, pl, mo, lm, rw, en, wy, wh, bi, ed, sz, md, bd, Lc, la, lk, lh, ld, lt, li, rfl, ms2, fs2, by omega, by omega, (pre0.keep (RG.refl (S := [2, 4, 5])) (LG.refl (S := [2, 4, 5])) (by decide)), ((LG.refl (S := [2, 4, 5])) 0 (by decide) (by decide)), ((RG.refl (S := [2, 4, 5])) 0 (by decide) (by decide)), ((RG.refl (S := [2, 4, 5])) 1 (by decide) (by decide)), ((LG.refl (S := [2, 4, 5])) 1 (by decide) (by decide)), (fun h => absurd h (by omega)), (fun _ => ⟨rfl, rfl⟩), (fun _ h => by exfalso; omega), by omega, by omega, (fun h => absurd h (by omega)), by omega, ((RG.refl (S := [2, 4, 5])) 3 (by decide) (by decide)), ((LG.refl (S := [2, 4, 5])) 3 (by decide) (by decide)), ((RG.refl (S := [2, 4, 5])) 6 (by decide) (by decide)), ((LG.refl (S := [2, 4, 5])) 6 (by decide) (by decide))⟩
  · refine T.go 2 (fun n9 => (rfl : _ = exe ξ n9 (d + 10) j_M_index 13 [(0, .ref 137)] [J 0, .ref 137] σ)) ?_
    refine T.mput (c' := 0) (io' := io) (mo' := mo) (fa' := fa) (pl' := pl) (ns' := ns) (rw' := rw) (en' := en) (wy' := wy) (wh' := wh) (bi' := bi) (ed' := ed) (sz' := sz) (md' := md) (bd' := bd) (li' := li) (wk' := wk) (we' := we) hM rfl rfl rfl rfl rfl rfl (by omega) (fun s3 ms3 fs3 => ?_)
    refine T.go 1 (fun n9 => (rfl : _ = exe ξ n9 (d + 10) j_M_index 17 [(0, .ref 137)] [.ref 137] s3)) ?_
    refine T.get rfl rfl rfl ms3.ob rfl ?_
    refine T.go 2 (fun n9 => (rfl : _ = exe ξ n9 (d + 10) j_M_index 26 [(0, .ref 137)] [.ref 137] s3)) ?_
    have okk := pre0 (by omega)
    have ok1 := okk.1
    refine T.callv (as := []) (r := []) rfl rfl rfl rfl ms3.ob rfl (s_M_fisIndexWrong d  s3 ms3 (by omega)) (fun v1 s4 hqs4 => ?_)
    obtain ⟨z2, rw_1, en_1, wy_1, wh_1, bi_1, ed_1, sz_1, md_1, bd_1, Lc_1, la_1, lk_1, lh_1, ld_1, lt_1, li_1, rfl, ms4, fs4, hzz2, hyz2, pz2_0, pz2_1, pz2_2, pz2_3, pz2_4⟩ := hqs4
    have ns4 := ms4.len
    have rs4 := ms4.rg
    have gs4 := fs3.trans fs4
    have rgs4 := (RG.refl (S := [2, 4, 5])).trans pz2_0 (by decide)
    have lgs4 := (LG.refl (S := [2, 4, 5])).trans pz2_1 (by decide)
    refine T.if_eq rfl rfl (by omega) (fun c3 => ?_) (fun c3 => ?_)
    · refine T.go 2 (fun n9 => (rfl : _ = exe ξ n9 (d + 10) j_M_index 40 [(0, .ref 137)] [.ref 137, .ref 137] s4)) ?_
      refine T.get rfl rfl rfl ms4.ob rfl ?_
      refine T.mput (c' := 0) (io' := io) (mo' := li_1) (fa' := fa) (pl' := pl) (ns' := ns) (rw' := rw_1) (en' := en_1) (wy' := wy_1) (wh' := wh_1) (bi' := bi_1) (ed' := ed_1) (sz' := sz_1) (md' := md_1) (bd' := bd_1) (li' := li_1) (wk' := wk) (we' := we) ms4 rfl rfl rfl rfl rfl rfl (by omega) (fun s5 ms5 fs5 => ?_)
      have gs5 := gs4.trans fs5
      refine T.go 2 (fun n9 => (rfl : _ = exe ξ n9 (d + 10) j_M_index 48 [(0, .ref 137), (1, J 0)] [] s5)) ?_
      exact loop48 _ 0 0 li_1 lm rw_1 en_1 wy_1 wh_1 bi_1 ed_1 sz_1 md_1 bd_1 Lc_1 la_1 lk_1 lh_1 ld_1 lt_1 li_1 s5 ms5 gs5 rgs4 lgs4 (by omega) (by omega) (by omega) (fun j a b => absurd b (by omega)) (fun j a b => by have c8 := pz2_0 1 (by decide) (by decide); have l8 := pz2_1 1 (by decide) (by decide); rw [c8, l8]; exact pz2_2 (by omega) j a b) (by omega) (pz2_3 (by omega)) (Nat.lt_succ_self _)
    · refine T.go 2 (fun n9 => (rfl : _ = exe ξ n9 (d + 10) j_M_index 34 [(0, .ref 137)] [J 2, .ref 137] s4)) ?_
      refine T.callv (as := [J 2]) (r := []) rfl rfl rfl rfl ms4.ob rfl (s_M_frefuseFault (d + 8) 2 s4 ms4 (by omega)) (fun v2 s6 hqs6 => ?_)
      obtain ⟨z3, c_1, fa_1, pl_1, rfl, ms6, fs6, hzz3, hyz3, pz3_0⟩ := hqs6
      have ns6 := ms6.len
      have rs6 := ms6.rg
      have gs6 := gs4.trans fs6
      exact T.ireti rfl rfl ⟨_, c_1, fa_1, pl_1, mo, lm, rw_1, en_1, wy_1, wh_1, bi_1, ed_1, sz_1, md_1, bd_1, Lc_1, la_1, lk_1, lh_1, ld_1, lt_1, li_1, rfl, ms6, gs6, by omega, by omega, (pre0.keep rgs4 lgs4 (by decide)), (lgs4 0 (by decide) (by decide)), (rgs4 0 (by decide) (by decide)), (rgs4 1 (by decide) (by decide)), (lgs4 1 (by decide) (by decide)), (fun h => absurd h (by omega)), (fun _ => ⟨rfl, rfl⟩), (fun _ _ => pz2_4 (by omega)), by omega, by omega, (fun _ => ⟨by omega, pz2_4 (by omega)⟩), by omega, (rgs4 3 (by decide) (by decide)), (lgs4 3 (by decide) (by decide)), (rgs4 6 (by decide) (by decide)), (lgs4 6 (by decide) (by decide))⟩

set_option maxHeartbeats 4000000 in
theorem s_M_zfeed {ξ : Nat → Option (Nat × List Int32)} {c io mo fa pl ns rw en wy wh bi ed sz md bd li wk we : Int} {Lc : List Int64} {la lm ln lh ld lk lt : List Int32} (d : Nat) (x : Int) (y : Int) (u : Int) (o : Int) (q : Int) (σ : qH) (hM : MS σ c io mo fa pl ns rw en wy wh bi ed sz md bd li wk we Lc la lm ln lh ld lk lt) (rx : -2147483648 ≤ x ∧ x ≤ 2147483647) (ry : -2147483648 ≤ y ∧ y ≤ 2147483647) (ru : -2147483648 ≤ u ∧ u ≤ 2147483647) (ro : -2147483648 ≤ o ∧ o ≤ 2147483647) (rq : -2147483648 ≤ q ∧ q ≤ 2147483647) : T ξ (d + 10) j_M_feed 0 (lv_args 0 [.ref 137, J x, J y, J u, J o, J q]) [] σ (fun v σ' => ∃ (z : Int) (c1 : Int) (Lc1 : List Int64) (la1 : List Int32), v = some (J z) ∧ MS σ' c1 io mo fa pl ns rw en wy wh bi ed sz md bd li wk we Lc1 la1 lm ln lh ld lk lt ∧ FM σ σ' ∧ 0 ≤ z ∧ z ≤ 1 ∧ RG [0] Lc Lc1 ∧ (gl la 0 ≤ 7980 → z = 1 ∧ gl la1 0 = gl la 0 + 20) ∧ (7980 < gl la 0 → z = 0 ∧ gl la1 0 = gl la 0) ∧ gl la1 1 = gl la 1 ∧ (gl la 0 ≤ 7980 → gc Lc1 0 = up20 (gc Lc 0) (gl la 0) x y u o q) ∧ (7980 < gl la 0 → gc Lc1 0 = gc Lc 0) ∧ gl la1 3 = gl la 3 ∧ gl la1 6 = gl la 6) := by
  have r0 := hM.rg
  have n0 := hM.len
  have loop25 : ∀ (f25 : Nat) (k : Int) (Lc9 : List Int64) (τ : qH), MS τ 0 io mo fa pl ns rw en wy wh bi ed sz md bd li wk we Lc9 la lm ln lh ld lk lt → FM σ τ → RG [0] Lc Lc9 → 0 ≤ k → k ≤ 20 → gl la 0 ≤ 7980 → gc Lc9 0 = fd (gc Lc 0) (gl la 0) x y u o q k.toNat → (20 - k).toNat < f25 → T ξ (d + 10) j_M_feed 25 [(0, .ref 137), (1, J x), (2, J y), (3, J u), (4, J o), (5, J q), (6, J k)] [] τ (fun v σ' => ∃ (z : Int) (c1 : Int) (Lc1 : List Int64) (la1 : List Int32), v = some (J z) ∧ MS σ' c1 io mo fa pl ns rw en wy wh bi ed sz md bd li wk we Lc1 la1 lm ln lh ld lk lt ∧ FM σ σ' ∧ 0 ≤ z ∧ z ≤ 1 ∧ RG [0] Lc Lc1 ∧ (gl la 0 ≤ 7980 → z = 1 ∧ gl la1 0 = gl la 0 + 20) ∧ (7980 < gl la 0 → z = 0 ∧ gl la1 0 = gl la 0) ∧ gl la1 1 = gl la 1 ∧ (gl la 0 ≤ 7980 → gc Lc1 0 = up20 (gc Lc 0) (gl la 0) x y u o q) ∧ (7980 < gl la 0 → gc Lc1 0 = gc Lc 0) ∧ gl la1 3 = gl la 3 ∧ gl la1 6 = gl la 6) := by
    intro f25
    induction f25 with
    | zero => intro k Lc9 τ mτ fτ gτ i0 i1 i2 i3 hm25; omega
    | succ f25 ih25 =>
      intro k Lc9 τ mτ fτ gτ i0 i1 i2 i3 hm25
      have rτ := mτ.rg
      have nτ := mτ.len
      refine T.go 2 (fun n9 => (rfl : _ = exe ξ n9 (d + 10) j_M_feed 29 [(0, .ref 137), (1, J x), (2, J y), (3, J u), (4, J o), (5, J q), (6, J k)] [J 20, J k] τ)) ?_
      refine T.icmp_ge rfl rfl (by omega) (by omega) (fun c1 => ?_) (fun c1 => ?_)
      · refine T.go 1 (fun n9 => (rfl : _ = exe ξ n9 (d + 10) j_M_feed 114 [(0, .ref 137), (1, J x), (2, J y), (3, J u), (4, J o), (5, J q), (6, J k)] [.ref 137] τ)) ?_
        refine T.get rfl rfl rfl mτ.ob rfl ?_
        refine T.go 2 (fun n9 => (rfl : _ = exe ξ n9 (d + 10) j_M_feed 119 [(0, .ref 137), (1, J x), (2, J y), (3, J u), (4, J o), (5, J q), (6, J k)] [J 0, .ref 139, J 0, .ref 139] τ)) ?_
        refine T.iald rfl rfl mτ.c139 (by omega) (fun z1 hzz1 hyz1 hez1 => ?_)
        have hbz1 := mτ.b139.at hez1 ⟨hzz1, hyz1⟩
        have gzz1 := gl_of hez1 ⟨hzz1, hyz1⟩
        subst gzz1
        refine T.go 1 (fun n9 => (rfl : _ = exe ξ n9 (d + 10) j_M_feed 122 [(0, .ref 137), (1, J x), (2, J y), (3, J u), (4, J o), (5, J q), (6, J k)] [J 20, J (gl la 0), J 0, .ref 139] τ)) ?_
        refine T.iadd rfl ?_
        refine T.mast139 mτ rfl (by omega) (by omega) (fun s1 ms1 fs1 => ?_)
        have ns1 := ms1.len
        have gs1 := fτ.trans fs1
        have lgs1 := (LG.refl (S := [0])).trans (LG.set (S := [0]) (A := la) (x := 0) (v := Int32.ofInt ((gl la 0) + 20)) (by decide) (by decide)) (fun _ z => z)
        have gss1 : ∀ j : Int, 0 ≤ j → gl (la.set (0 : Int).toNat (Int32.ofInt ((gl la 0) + 20))) j = if j = 0 then (gl la 0) + 20 else gl la j := fun j hj => gl_set ⟨by omega, by omega⟩ ⟨by omega, by omega⟩ hj
        have ges1 : gl (la.set (0 : Int).toNat (Int32.ofInt ((gl la 0) + 20))) 0 = (gl la 0) + 20 := (gss1 0 (by omega)).trans (if_pos rfl)
        refine T.go 1 (fun n9 => (rfl : _ = exe ξ n9 (d + 10) j_M_feed 125 [(0, .ref 137), (1, J x), (2, J y), (3, J u), (4, J o), (5, J q), (6, J k)] [J 1] s1)) ?_
        exact T.iretz rfl rfl (by omega) ⟨_, 0, Lc9, (la.set (0 : Int).toNat (Int32.ofInt ((gl la 0) + 20))), rfl, ms1, gs1, by omega, by omega, gτ, by omega, by omega, ((gss1 1 (by decide)).trans (if_neg (by decide))), (fun h => by rw [← fd_20, show (20 : Nat) = k.toNat by omega]; exact i3), (fun h => absurd h (by omega)), ((gss1 3 (by decide)).trans (if_neg (by decide))), ((gss1 6 (by decide)).trans (if_neg (by decide)))⟩
      · refine T.go 2 (fun n9 => (rfl : _ = exe ξ n9 (d + 10) j_M_feed 35 [(0, .ref 137), (1, J x), (2, J y), (3, J u), (4, J o), (5, J q), (6, J k)] [J 4, J k] τ)) ?_
        refine T.icmp_ge rfl rfl (by omega) (by omega) (fun c2 => ?_) (fun c2 => ?_)
        · refine T.go 2 (fun n9 => (rfl : _ = exe ξ n9 (d + 10) j_M_feed 46 [(0, .ref 137), (1, J x), (2, J y), (3, J u), (4, J o), (5, J q), (6, J k)] [J 8, J k] τ)) ?_
          refine T.icmp_ge rfl rfl (by omega) (by omega) (fun c3 => ?_) (fun c3 => ?_)
          · refine T.go 2 (fun n9 => (rfl : _ = exe ξ n9 (d + 10) j_M_feed 57 [(0, .ref 137), (1, J x), (2, J y), (3, J u), (4, J o), (5, J q), (6, J k)] [J 12, J k] τ)) ?_
            refine T.icmp_ge rfl rfl (by omega) (by omega) (fun c4 => ?_) (fun c4 => ?_)
            · refine T.go 2 (fun n9 => (rfl : _ = exe ξ n9 (d + 10) j_M_feed 68 [(0, .ref 137), (1, J x), (2, J y), (3, J u), (4, J o), (5, J q), (6, J k)] [J 16, J k] τ)) ?_
              refine T.icmp_ge rfl rfl (by omega) (by omega) (fun c5 => ?_) (fun c5 => ?_)
              · refine T.go 5 (fun n9 => (rfl : _ = exe ξ n9 (d + 10) j_M_feed 83 [(0, .ref 137), (1, J x), (2, J y), (3, J u), (4, J o), (5, J q), (6, J k), (7, J q)] [.ref 137, J 0, .ref 137] τ)) ?_
                refine T.get rfl rfl rfl mτ.ob rfl ?_
                refine T.go 1 (fun n9 => (rfl : _ = exe ξ n9 (d + 10) j_M_feed 87 [(0, .ref 137), (1, J x), (2, J y), (3, J u), (4, J o), (5, J q), (6, J k), (7, J q)] [J 0, .ref 139, J 0, .ref 137] τ)) ?_
                refine T.iald rfl rfl mτ.c139 (by omega) (fun z2 hzz2 hyz2 hez2 => ?_)
                have hbz2 := mτ.b139.at hez2 ⟨hzz2, hyz2⟩
                have gzz2 := gl_of hez2 ⟨hzz2, hyz2⟩
                subst gzz2
                refine T.go 1 (fun n9 => (rfl : _ = exe ξ n9 (d + 10) j_M_feed 90 [(0, .ref 137), (1, J x), (2, J y), (3, J u), (4, J o), (5, J q), (6, J k), (7, J q)] [J k, J (gl la 0), J 0, .ref 137] τ)) ?_
                refine T.iadd rfl ?_
                refine T.go 5 (fun n9 => (rfl : _ = exe ξ n9 (d + 10) j_M_feed 100 [(0, .ref 137), (1, J x), (2, J y), (3, J u), (4, J o), (5, J q), (6, J k), (7, J q)] [J 4, J k, J 8, J 24, J q, J ((gl la 0) + k), J 0, .ref 137] τ)) ?_
                refine T.iremc (c := 4) rfl (by decide) (by omega) ?_
                refine T.imul rfl ?_
                refine T.isub rfl ?_
                refine T.ishrv rfl (by omega) (by omega) ?_
                have dz4 := dP2_r (q := q) (n := 24 - (8 * (k % 4))) (by omega)
                refine T.callv (as := [J 0, J ((gl la 0) + k), J (q / P2 (24 - (8 * (k % 4))))]) (r := []) rfl rfl rfl rfl mτ.ob rfl (s_M_fput (d + 9) 0 ((gl la 0) + k) (q / P2 (24 - (8 * (k % 4)))) τ mτ (by omega) (by omega) (by omega) (by omega) (by omega) (by omega) (by omega)) (fun v1 s2 hqs2 => ?_)
                obtain ⟨Lc_1, rfl, ms2, fs2, pz5_0, pz5_1⟩ := hqs2
                have ns2 := ms2.len
                have rs2 := ms2.rg
                have gs2 := fτ.trans fs2
                have rgs2 := gτ.trans pz5_0 (by decide)
                refine T.iinc (lv' := [(0, .ref 137), (1, J x), (2, J y), (3, J u), (4, J o), (5, J q), (6, J (k + 1)), (7, J q)]) rfl rfl rfl rfl ?_
                refine T.go 1 (fun n9 => (rfl : _ = exe ξ n9 (d + 10) j_M_feed 25 [(0, .ref 137), (1, J x), (2, J y), (3, J u), (4, J o), (5, J q), (6, J (k + 1)), (7, J q)] [] s2)) ?_
                refine T.drop (lv := [(0, .ref 137), (1, J x), (2, J y), (3, J u), (4, J o), (5, J q), (6, J (k + 1))]) [(7, J q)] (by simp) ?_
                exact ih25  (k + 1) Lc_1 s2 ms2 gs2 rgs2 (by omega) (by omega) (by omega) (by rw [pz5_1, i3, fd_step (by omega)]; congr 1; unfold fb; first | (rw [if_neg (by omega), if_neg (by omega), if_neg (by omega), if_neg (by omega)]) | (rw [if_pos (by omega)]) | (rw [if_neg (by omega), if_pos (by omega)]) | (rw [if_neg (by omega), if_neg (by omega), if_pos (by omega)]) | (rw [if_neg (by omega), if_neg (by omega), if_neg (by omega), if_pos (by omega)]) | (rw [if_neg (by omega), if_neg (by omega), if_neg (by omega), if_neg (by omega)])) (by omega)
              · refine T.go 6 (fun n9 => (rfl : _ = exe ξ n9 (d + 10) j_M_feed 83 [(0, .ref 137), (1, J x), (2, J y), (3, J u), (4, J o), (5, J q), (6, J k), (7, J o)] [.ref 137, J 0, .ref 137] τ)) ?_
                refine T.get rfl rfl rfl mτ.ob rfl ?_
                refine T.go 1 (fun n9 => (rfl : _ = exe ξ n9 (d + 10) j_M_feed 87 [(0, .ref 137), (1, J x), (2, J y), (3, J u), (4, J o), (5, J q), (6, J k), (7, J o)] [J 0, .ref 139, J 0, .ref 137] τ)) ?_
                refine T.iald rfl rfl mτ.c139 (by omega) (fun z6 hzz6 hyz6 hez6 => ?_)
                have hbz6 := mτ.b139.at hez6 ⟨hzz6, hyz6⟩
                have gzz6 := gl_of hez6 ⟨hzz6, hyz6⟩
                subst gzz6
                refine T.go 1 (fun n9 => (rfl : _ = exe ξ n9 (d + 10) j_M_feed 90 [(0, .ref 137), (1, J x), (2, J y), (3, J u), (4, J o), (5, J q), (6, J k), (7, J o)] [J k, J (gl la 0), J 0, .ref 137] τ)) ?_
                refine T.iadd rfl ?_
                refine T.go 5 (fun n9 => (rfl : _ = exe ξ n9 (d + 10) j_M_feed 100 [(0, .ref 137), (1, J x), (2, J y), (3, J u), (4, J o), (5, J q), (6, J k), (7, J o)] [J 4, J k, J 8, J 24, J o, J ((gl la 0) + k), J 0, .ref 137] τ)) ?_
                refine T.iremc (c := 4) rfl (by decide) (by omega) ?_
                refine T.imul rfl ?_
                refine T.isub rfl ?_
                refine T.ishrv rfl (by omega) (by omega) ?_
                have dz8 := dP2_r (q := o) (n := 24 - (8 * (k % 4))) (by omega)
                refine T.callv (as := [J 0, J ((gl la 0) + k), J (o / P2 (24 - (8 * (k % 4))))]) (r := []) rfl rfl rfl rfl mτ.ob rfl (s_M_fput (d + 9) 0 ((gl la 0) + k) (o / P2 (24 - (8 * (k % 4)))) τ mτ (by omega) (by omega) (by omega) (by omega) (by omega) (by omega) (by omega)) (fun v2 s3 hqs3 => ?_)
                obtain ⟨Lc_2, rfl, ms3, fs3, pz9_0, pz9_1⟩ := hqs3
                have ns3 := ms3.len
                have rs3 := ms3.rg
                have gs3 := fτ.trans fs3
                have rgs3 := gτ.trans pz9_0 (by decide)
                refine T.iinc (lv' := [(0, .ref 137), (1, J x), (2, J y), (3, J u), (4, J o), (5, J q), (6, J (k + 1)), (7, J o)]) rfl rfl rfl rfl ?_
                refine T.go 1 (fun n9 => (rfl : _ = exe ξ n9 (d + 10) j_M_feed 25 [(0, .ref 137), (1, J x), (2, J y), (3, J u), (4, J o), (5, J q), (6, J (k + 1)), (7, J o)] [] s3)) ?_
                refine T.drop (lv := [(0, .ref 137), (1, J x), (2, J y), (3, J u), (4, J o), (5, J q), (6, J (k + 1))]) [(7, J o)] (by simp) ?_
                exact ih25  (k + 1) Lc_2 s3 ms3 gs3 rgs3 (by omega) (by omega) (by omega) (by rw [pz9_1, i3, fd_step (by omega)]; congr 1; unfold fb; first | (rw [if_neg (by omega), if_neg (by omega), if_neg (by omega), if_pos (by omega)]) | (rw [if_pos (by omega)]) | (rw [if_neg (by omega), if_pos (by omega)]) | (rw [if_neg (by omega), if_neg (by omega), if_pos (by omega)]) | (rw [if_neg (by omega), if_neg (by omega), if_neg (by omega), if_pos (by omega)]) | (rw [if_neg (by omega), if_neg (by omega), if_neg (by omega), if_neg (by omega)])) (by omega)
            · refine T.go 6 (fun n9 => (rfl : _ = exe ξ n9 (d + 10) j_M_feed 83 [(0, .ref 137), (1, J x), (2, J y), (3, J u), (4, J o), (5, J q), (6, J k), (7, J u)] [.ref 137, J 0, .ref 137] τ)) ?_
              refine T.get rfl rfl rfl mτ.ob rfl ?_
              refine T.go 1 (fun n9 => (rfl : _ = exe ξ n9 (d + 10) j_M_feed 87 [(0, .ref 137), (1, J x), (2, J y), (3, J u), (4, J o), (5, J q), (6, J k), (7, J u)] [J 0, .ref 139, J 0, .ref 137] τ)) ?_
              refine T.iald rfl rfl mτ.c139 (by omega) (fun z10 hzz10 hyz10 hez10 => ?_)
              have hbz10 := mτ.b139.at hez10 ⟨hzz10, hyz10⟩
              have gzz10 := gl_of hez10 ⟨hzz10, hyz10⟩
              subst gzz10
              refine T.go 1 (fun n9 => (rfl : _ = exe ξ n9 (d + 10) j_M_feed 90 [(0, .ref 137), (1, J x), (2, J y), (3, J u), (4, J o), (5, J q), (6, J k), (7, J u)] [J k, J (gl la 0), J 0, .ref 137] τ)) ?_
              refine T.iadd rfl ?_
              refine T.go 5 (fun n9 => (rfl : _ = exe ξ n9 (d + 10) j_M_feed 100 [(0, .ref 137), (1, J x), (2, J y), (3, J u), (4, J o), (5, J q), (6, J k), (7, J u)] [J 4, J k, J 8, J 24, J u, J ((gl la 0) + k), J 0, .ref 137] τ)) ?_
              refine T.iremc (c := 4) rfl (by decide) (by omega) ?_
              refine T.imul rfl ?_
              refine T.isub rfl ?_
              refine T.ishrv rfl (by omega) (by omega) ?_
              have dz12 := dP2_r (q := u) (n := 24 - (8 * (k % 4))) (by omega)
              refine T.callv (as := [J 0, J ((gl la 0) + k), J (u / P2 (24 - (8 * (k % 4))))]) (r := []) rfl rfl rfl rfl mτ.ob rfl (s_M_fput (d + 9) 0 ((gl la 0) + k) (u / P2 (24 - (8 * (k % 4)))) τ mτ (by omega) (by omega) (by omega) (by omega) (by omega) (by omega) (by omega)) (fun v3 s4 hqs4 => ?_)
              obtain ⟨Lc_3, rfl, ms4, fs4, pz13_0, pz13_1⟩ := hqs4
              have ns4 := ms4.len
              have rs4 := ms4.rg
              have gs4 := fτ.trans fs4
              have rgs4 := gτ.trans pz13_0 (by decide)
              refine T.iinc (lv' := [(0, .ref 137), (1, J x), (2, J y), (3, J u), (4, J o), (5, J q), (6, J (k + 1)), (7, J u)]) rfl rfl rfl rfl ?_
              refine T.go 1 (fun n9 => (rfl : _ = exe ξ n9 (d + 10) j_M_feed 25 [(0, .ref 137), (1, J x), (2, J y), (3, J u), (4, J o), (5, J q), (6, J (k + 1)), (7, J u)] [] s4)) ?_
              refine T.drop (lv := [(0, .ref 137), (1, J x), (2, J y), (3, J u), (4, J o), (5, J q), (6, J (k + 1))]) [(7, J u)] (by simp) ?_
              exact ih25  (k + 1) Lc_3 s4 ms4 gs4 rgs4 (by omega) (by omega) (by omega) (by rw [pz13_1, i3, fd_step (by omega)]; congr 1; unfold fb; first | (rw [if_neg (by omega), if_neg (by omega), if_pos (by omega)]) | (rw [if_pos (by omega)]) | (rw [if_neg (by omega), if_pos (by omega)]) | (rw [if_neg (by omega), if_neg (by omega), if_pos (by omega)]) | (rw [if_neg (by omega), if_neg (by omega), if_neg (by omega), if_pos (by omega)]) | (rw [if_neg (by omega), if_neg (by omega), if_neg (by omega), if_neg (by omega)])) (by omega)
          · refine T.go 6 (fun n9 => (rfl : _ = exe ξ n9 (d + 10) j_M_feed 83 [(0, .ref 137), (1, J x), (2, J y), (3, J u), (4, J o), (5, J q), (6, J k), (7, J y)] [.ref 137, J 0, .ref 137] τ)) ?_
            refine T.get rfl rfl rfl mτ.ob rfl ?_
            refine T.go 1 (fun n9 => (rfl : _ = exe ξ n9 (d + 10) j_M_feed 87 [(0, .ref 137), (1, J x), (2, J y), (3, J u), (4, J o), (5, J q), (6, J k), (7, J y)] [J 0, .ref 139, J 0, .ref 137] τ)) ?_
            refine T.iald rfl rfl mτ.c139 (by omega) (fun z14 hzz14 hyz14 hez14 => ?_)
            have hbz14 := mτ.b139.at hez14 ⟨hzz14, hyz14⟩
            have gzz14 := gl_of hez14 ⟨hzz14, hyz14⟩
            subst gzz14
            refine T.go 1 (fun n9 => (rfl : _ = exe ξ n9 (d + 10) j_M_feed 90 [(0, .ref 137), (1, J x), (2, J y), (3, J u), (4, J o), (5, J q), (6, J k), (7, J y)] [J k, J (gl la 0), J 0, .ref 137] τ)) ?_
            refine T.iadd rfl ?_
            refine T.go 5 (fun n9 => (rfl : _ = exe ξ n9 (d + 10) j_M_feed 100 [(0, .ref 137), (1, J x), (2, J y), (3, J u), (4, J o), (5, J q), (6, J k), (7, J y)] [J 4, J k, J 8, J 24, J y, J ((gl la 0) + k), J 0, .ref 137] τ)) ?_
            refine T.iremc (c := 4) rfl (by decide) (by omega) ?_
            refine T.imul rfl ?_
            refine T.isub rfl ?_
            refine T.ishrv rfl (by omega) (by omega) ?_
            have dz16 := dP2_r (q := y) (n := 24 - (8 * (k % 4))) (by omega)
            refine T.callv (as := [J 0, J ((gl la 0) + k), J (y / P2 (24 - (8 * (k % 4))))]) (r := []) rfl rfl rfl rfl mτ.ob rfl (s_M_fput (d + 9) 0 ((gl la 0) + k) (y / P2 (24 - (8 * (k % 4)))) τ mτ (by omega) (by omega) (by omega) (by omega) (by omega) (by omega) (by omega)) (fun v4 s5 hqs5 => ?_)
            obtain ⟨Lc_4, rfl, ms5, fs5, pz17_0, pz17_1⟩ := hqs5
            have ns5 := ms5.len
            have rs5 := ms5.rg
            have gs5 := fτ.trans fs5
            have rgs5 := gτ.trans pz17_0 (by decide)
            refine T.iinc (lv' := [(0, .ref 137), (1, J x), (2, J y), (3, J u), (4, J o), (5, J q), (6, J (k + 1)), (7, J y)]) rfl rfl rfl rfl ?_
            refine T.go 1 (fun n9 => (rfl : _ = exe ξ n9 (d + 10) j_M_feed 25 [(0, .ref 137), (1, J x), (2, J y), (3, J u), (4, J o), (5, J q), (6, J (k + 1)), (7, J y)] [] s5)) ?_
            refine T.drop (lv := [(0, .ref 137), (1, J x), (2, J y), (3, J u), (4, J o), (5, J q), (6, J (k + 1))]) [(7, J y)] (by simp) ?_
            exact ih25  (k + 1) Lc_4 s5 ms5 gs5 rgs5 (by omega) (by omega) (by omega) (by rw [pz17_1, i3, fd_step (by omega)]; congr 1; unfold fb; first | (rw [if_neg (by omega), if_pos (by omega)]) | (rw [if_pos (by omega)]) | (rw [if_neg (by omega), if_pos (by omega)]) | (rw [if_neg (by omega), if_neg (by omega), if_pos (by omega)]) | (rw [if_neg (by omega), if_neg (by omega), if_neg (by omega), if_pos (by omega)]) | (rw [if_neg (by omega), if_neg (by omega), if_neg (by omega), if_neg (by omega)])) (by omega)
        · refine T.go 6 (fun n9 => (rfl : _ = exe ξ n9 (d + 10) j_M_feed 83 [(0, .ref 137), (1, J x), (2, J y), (3, J u), (4, J o), (5, J q), (6, J k), (7, J x)] [.ref 137, J 0, .ref 137] τ)) ?_
          refine T.get rfl rfl rfl mτ.ob rfl ?_
          refine T.go 1 (fun n9 => (rfl : _ = exe ξ n9 (d + 10) j_M_feed 87 [(0, .ref 137), (1, J x), (2, J y), (3, J u), (4, J o), (5, J q), (6, J k), (7, J x)] [J 0, .ref 139, J 0, .ref 137] τ)) ?_
          refine T.iald rfl rfl mτ.c139 (by omega) (fun z18 hzz18 hyz18 hez18 => ?_)
          have hbz18 := mτ.b139.at hez18 ⟨hzz18, hyz18⟩
          have gzz18 := gl_of hez18 ⟨hzz18, hyz18⟩
          subst gzz18
          refine T.go 1 (fun n9 => (rfl : _ = exe ξ n9 (d + 10) j_M_feed 90 [(0, .ref 137), (1, J x), (2, J y), (3, J u), (4, J o), (5, J q), (6, J k), (7, J x)] [J k, J (gl la 0), J 0, .ref 137] τ)) ?_
          refine T.iadd rfl ?_
          refine T.go 5 (fun n9 => (rfl : _ = exe ξ n9 (d + 10) j_M_feed 100 [(0, .ref 137), (1, J x), (2, J y), (3, J u), (4, J o), (5, J q), (6, J k), (7, J x)] [J 4, J k, J 8, J 24, J x, J ((gl la 0) + k), J 0, .ref 137] τ)) ?_
          refine T.iremc (c := 4) rfl (by decide) (by omega) ?_
          refine T.imul rfl ?_
          refine T.isub rfl ?_
          refine T.ishrv rfl (by omega) (by omega) ?_
          have dz20 := dP2_r (q := x) (n := 24 - (8 * (k % 4))) (by omega)
          refine T.callv (as := [J 0, J ((gl la 0) + k), J (x / P2 (24 - (8 * (k % 4))))]) (r := []) rfl rfl rfl rfl mτ.ob rfl (s_M_fput (d + 9) 0 ((gl la 0) + k) (x / P2 (24 - (8 * (k % 4)))) τ mτ (by omega) (by omega) (by omega) (by omega) (by omega) (by omega) (by omega)) (fun v5 s6 hqs6 => ?_)
          obtain ⟨Lc_5, rfl, ms6, fs6, pz21_0, pz21_1⟩ := hqs6
          have ns6 := ms6.len
          have rs6 := ms6.rg
          have gs6 := fτ.trans fs6
          have rgs6 := gτ.trans pz21_0 (by decide)
          refine T.iinc (lv' := [(0, .ref 137), (1, J x), (2, J y), (3, J u), (4, J o), (5, J q), (6, J (k + 1)), (7, J x)]) rfl rfl rfl rfl ?_
          refine T.go 1 (fun n9 => (rfl : _ = exe ξ n9 (d + 10) j_M_feed 25 [(0, .ref 137), (1, J x), (2, J y), (3, J u), (4, J o), (5, J q), (6, J (k + 1)), (7, J x)] [] s6)) ?_
          refine T.drop (lv := [(0, .ref 137), (1, J x), (2, J y), (3, J u), (4, J o), (5, J q), (6, J (k + 1))]) [(7, J x)] (by simp) ?_
          exact ih25  (k + 1) Lc_5 s6 ms6 gs6 rgs6 (by omega) (by omega) (by omega) (by rw [pz21_1, i3, fd_step (by omega)]; congr 1; unfold fb; first | (rw [if_pos (by omega)]) | (rw [if_neg (by omega), if_pos (by omega)]) | (rw [if_neg (by omega), if_neg (by omega), if_pos (by omega)]) | (rw [if_neg (by omega), if_neg (by omega), if_neg (by omega), if_pos (by omega)]) | (rw [if_neg (by omega), if_neg (by omega), if_neg (by omega), if_neg (by omega)])) (by omega)
  refine T.go 2 (fun n9 => (rfl : _ = exe ξ n9 (d + 10) j_M_feed 2 [(0, .ref 137), (1, J x), (2, J y), (3, J u), (4, J o), (5, J q)] [J 0, .ref 137] σ)) ?_
  refine T.mput (c' := 0) (io' := io) (mo' := mo) (fa' := fa) (pl' := pl) (ns' := ns) (rw' := rw) (en' := en) (wy' := wy) (wh' := wh) (bi' := bi) (ed' := ed) (sz' := sz) (md' := md) (bd' := bd) (li' := li) (wk' := wk) (we' := we) hM rfl rfl rfl rfl rfl rfl (by omega) (fun s7 ms7 fs7 => ?_)
  refine T.go 1 (fun n9 => (rfl : _ = exe ξ n9 (d + 10) j_M_feed 6 [(0, .ref 137), (1, J x), (2, J y), (3, J u), (4, J o), (5, J q)] [.ref 137] s7)) ?_
  refine T.get rfl rfl rfl ms7.ob rfl ?_
  refine T.go 1 (fun n9 => (rfl : _ = exe ξ n9 (d + 10) j_M_feed 10 [(0, .ref 137), (1, J x), (2, J y), (3, J u), (4, J o), (5, J q)] [J 0, .ref 139] s7)) ?_
  refine T.iald rfl rfl ms7.c139 (by omega) (fun z22 hzz22 hyz22 hez22 => ?_)
  have hbz22 := ms7.b139.at hez22 ⟨hzz22, hyz22⟩
  have gzz22 := gl_of hez22 ⟨hzz22, hyz22⟩
  subst gzz22
  refine T.go 1 (fun n9 => (rfl : _ = exe ξ n9 (d + 10) j_M_feed 13 [(0, .ref 137), (1, J x), (2, J y), (3, J u), (4, J o), (5, J q)] [J 20, J (gl la 0)] s7)) ?_
  refine T.iadd rfl ?_
  refine T.go 1 (fun n9 => (rfl : _ = exe ξ n9 (d + 10) j_M_feed 17 [(0, .ref 137), (1, J x), (2, J y), (3, J u), (4, J o), (5, J q)] [J 8000, J ((gl la 0) + 20)] s7)) ?_
  refine T.icmp_le rfl rfl (by omega) (by omega) (fun c6 => ?_) (fun c6 => ?_)
  · refine T.go 2 (fun n9 => (rfl : _ = exe ξ n9 (d + 10) j_M_feed 25 [(0, .ref 137), (1, J x), (2, J y), (3, J u), (4, J o), (5, J q), (6, J 0)] [] s7)) ?_
    exact loop25 _ 0 Lc s7 ms7 fs7 RG.refl (by omega) (by omega) (by omega) rfl (Nat.lt_succ_self _)
  · refine T.go 1 (fun n9 => (rfl : _ = exe ξ n9 (d + 10) j_M_feed 21 [(0, .ref 137), (1, J x), (2, J y), (3, J u), (4, J o), (5, J q)] [J 0] s7)) ?_
    exact T.iretz rfl rfl (by omega) ⟨_, 0, Lc, la, rfl, ms7, fs7, by omega, by omega, RG.refl, by omega, by omega, rfl, (fun h => absurd h (by omega)), (fun _ => rfl), rfl, rfl⟩

set_option maxHeartbeats 4000000 in
theorem s_M_zend {ξ : Nat → Option (Nat × List Int32)} {c io mo fa pl ns rw en wy wh bi ed sz md bd li wk we : Int} {Lc : List Int64} {la lm ln lh ld lk lt : List Int32} (d : Nat) (x : Int) (σ : qH) (hM : MS σ c io mo fa pl ns rw en wy wh bi ed sz md bd li wk we Lc la lm ln lh ld lk lt) (rx : -2147483648 ≤ x ∧ x ≤ 2147483647) : T ξ (d + 10) j_M_end 0 (lv_args 0 [.ref 137, J x]) [] σ (fun v σ' => ∃ (z : Int) (c1 : Int) (la1 : List Int32), v = some (J z) ∧ MS σ' c1 io mo fa pl ns rw en wy wh bi ed sz md bd li wk we Lc la1 lm ln lh ld lk lt ∧ FM σ σ' ∧ 0 ≤ z ∧ z ≤ 1 ∧ (0 ≤ x ∧ x ≤ gl la 0 → z = 1 ∧ gl la1 0 = x) ∧ (¬ (0 ≤ x ∧ x ≤ gl la 0) → z = 0 ∧ gl la1 0 = gl la 0) ∧ gl la1 1 = gl la 1 ∧ gl la1 3 = gl la 3 ∧ gl la1 6 = gl la 6) := by
  have r0 := hM.rg
  have n0 := hM.len
  refine T.go 2 (fun n9 => (rfl : _ = exe ξ n9 (d + 10) j_M_end 2 [(0, .ref 137), (1, J x)] [J 0, .ref 137] σ)) ?_
  refine T.mput (c' := 0) (io' := io) (mo' := mo) (fa' := fa) (pl' := pl) (ns' := ns) (rw' := rw) (en' := en) (wy' := wy) (wh' := wh) (bi' := bi) (ed' := ed) (sz' := sz) (md' := md) (bd' := bd) (li' := li) (wk' := wk) (we' := we) hM rfl rfl rfl rfl rfl rfl (by omega) (fun s1 ms1 fs1 => ?_)
  refine T.go 3 (fun n9 => (rfl : _ = exe ξ n9 (d + 10) j_M_end 8 [(0, .ref 137), (1, J x)] [.ref 137, J 0, J x] s1)) ?_
  refine T.get rfl rfl rfl ms1.ob rfl ?_
  refine T.go 1 (fun n9 => (rfl : _ = exe ξ n9 (d + 10) j_M_end 12 [(0, .ref 137), (1, J x)] [J 0, .ref 139, J 0, J x] s1)) ?_
  refine T.iald rfl rfl ms1.c139 (by omega) (fun z1 hzz1 hyz1 hez1 => ?_)
  have hbz1 := ms1.b139.at hez1 ⟨hzz1, hyz1⟩
  have gzz1 := gl_of hez1 ⟨hzz1, hyz1⟩
  subst gzz1
  refine T.calls (as := [J x, J 0, J (gl la 0)]) (r := []) rfl rfl (by decide) rfl rfl (s_M_in (d + 9) x 0 (gl la 0) s1 (by omega) (by omega) (by omega)) (fun v1 s2 hqs2 => ?_)
  obtain ⟨z2, rfl, esz2, hzz2, hyz2, pz2_0, pz2_1⟩ := hqs2
  rw [esz2]
  refine T.if_ne rfl rfl (by omega) (fun c1 => ?_) (fun c1 => ?_)
  · refine T.go 1 (fun n9 => (rfl : _ = exe ξ n9 (d + 10) j_M_end 22 [(0, .ref 137), (1, J x)] [.ref 137] s1)) ?_
    refine T.get rfl rfl rfl ms1.ob rfl ?_
    refine T.go 2 (fun n9 => (rfl : _ = exe ξ n9 (d + 10) j_M_end 27 [(0, .ref 137), (1, J x)] [J x, J 0, .ref 139] s1)) ?_
    refine T.mast139 ms1 rfl (by omega) (by omega) (fun s3 ms3 fs3 => ?_)
    have ns3 := ms3.len
    have gs3 := fs1.trans fs3
    have gss3 : ∀ j : Int, 0 ≤ j → gl (la.set (0 : Int).toNat (Int32.ofInt x)) j = if j = 0 then x else gl la j := fun j hj => gl_set ⟨by omega, by omega⟩ ⟨by omega, by omega⟩ hj
    have ges3 : gl (la.set (0 : Int).toNat (Int32.ofInt x)) 0 = x := (gss3 0 (by omega)).trans (if_pos rfl)
    refine T.go 1 (fun n9 => (rfl : _ = exe ξ n9 (d + 10) j_M_end 29 [(0, .ref 137), (1, J x)] [J 1] s3)) ?_
    exact T.iretz rfl rfl (by omega) ⟨_, 0, (la.set (0 : Int).toNat (Int32.ofInt x)), rfl, ms3, gs3, by omega, by omega, by omega, by omega, ((gss3 1 (by decide)).trans (if_neg (by decide))), ((gss3 3 (by decide)).trans (if_neg (by decide))), ((gss3 6 (by decide)).trans (if_neg (by decide)))⟩
  · refine T.go 1 (fun n9 => (rfl : _ = exe ξ n9 (d + 10) j_M_end 20 [(0, .ref 137), (1, J x)] [J 0] s1)) ?_
    exact T.iretz rfl rfl (by omega) ⟨_, 0, la, rfl, ms1, fs1, by omega, by omega, by omega, by omega, rfl, rfl, rfl⟩

set_option maxHeartbeats 4000000 in
theorem s_M_zopen {ξ : Nat → Option (Nat × List Int32)} {c io mo fa pl ns rw en wy wh bi ed sz md bd li wk we : Int} {Lc : List Int64} {la lm ln lh ld lk lt : List Int32} (d : Nat)  (σ : qH) (hM : MS σ c io mo fa pl ns rw en wy wh bi ed sz md bd li wk we Lc la lm ln lh ld lk lt) (pre0 : OKM Lc la lm io mo) : T ξ (d + 10) j_M_open 0 (lv_args 0 [.ref 137]) [] σ (fun v σ' => ∃ (z : Int) (c1 : Int) (io1 : Int) (mo1 : Int) (fa1 : Int) (pl1 : Int) (rw1 : Int) (en1 : Int) (wy1 : Int) (wh1 : Int) (Lc1 : List Int64) (la1 : List Int32) (lh1 : List Int32) (ld1 : List Int32), v = some (J z) ∧ MS σ' c1 io1 mo1 fa1 pl1 ns rw1 en1 wy1 wh1 bi ed sz md bd li wk we Lc1 la1 lm ln lh1 ld1 lk lt ∧ FM σ σ' ∧ -2147483648 ≤ z ∧ z ≤ 2147483647 ∧ OKM Lc1 la1 lm io1 mo1 ∧ gl la1 0 = 0 ∧ (FOn (gc Lc 0) (gl la 0) = 1 → c1 = 0 ∧ z = W2 (gc Lc 0) (EN (gc Lc 0) (gl la 0) + 8)) ∧ (FOn (gc Lc 0) (gl la 0) = 0 → c1 = 1) ∧ gc Lc1 0 = gc Lc 0 ∧ (FOn (gc Lc 0) (gl la 0) = 1 → io1 = 1 ∧ mo1 = 0 ∧ gc Lc1 1 = gc Lc 0 ∧ gl la1 1 = gl la 0) ∧ (FOn (gc Lc 0) (gl la 0) = 0 → io1 = io ∧ mo1 = mo ∧ gc Lc1 1 = gc Lc 1 ∧ gl la1 1 = gl la 1) ∧ gc Lc1 3 = gc Lc 3 ∧ gc Lc1 6 = gc Lc 6 ∧ gl la1 6 = gl la 6 ∧ (FOn (gc Lc 0) (gl la 0) = 1 → gl la1 3 = 0) ∧ (FOn (gc Lc 0) (gl la 0) = 0 → gl la1 3 = gl la 3)) := by
  have r0 := hM.rg
  have n0 := hM.len
  refine T.go 2 (fun n9 => (rfl : _ = exe ξ n9 (d + 10) j_M_open 2 [(0, .ref 137)] [J 0, .ref 137] σ)) ?_
  refine T.mput (c' := 0) (io' := io) (mo' := mo) (fa' := fa) (pl' := pl) (ns' := ns) (rw' := rw) (en' := en) (wy' := wy) (wh' := wh) (bi' := bi) (ed' := ed) (sz' := sz) (md' := md) (bd' := bd) (li' := li) (wk' := wk) (we' := we) hM rfl rfl rfl rfl rfl rfl (by omega) (fun s1 ms1 fs1 => ?_)
  refine T.go 1 (fun n9 => (rfl : _ = exe ξ n9 (d + 10) j_M_open 6 [(0, .ref 137)] [.ref 137] s1)) ?_
  refine T.get rfl rfl rfl ms1.ob rfl ?_
  refine T.go 1 (fun n9 => (rfl : _ = exe ξ n9 (d + 10) j_M_open 10 [(0, .ref 137)] [J 0, .ref 139] s1)) ?_
  refine T.iald rfl rfl ms1.c139 (by omega) (fun z1 hzz1 hyz1 hez1 => ?_)
  have hbz1 := ms1.b139.at hez1 ⟨hzz1, hyz1⟩
  have gzz1 := gl_of hez1 ⟨hzz1, hyz1⟩
  subst gzz1
  refine T.go 2 (fun n9 => (rfl : _ = exe ξ n9 (d + 10) j_M_open 13 [(0, .ref 137), (1, J (gl la 0))] [.ref 137] s1)) ?_
  refine T.get rfl rfl rfl ms1.ob rfl ?_
  refine T.go 2 (fun n9 => (rfl : _ = exe ξ n9 (d + 10) j_M_open 18 [(0, .ref 137), (1, J (gl la 0))] [J 0, J 0, .ref 139] s1)) ?_
  refine T.mast139 ms1 rfl (by omega) (by omega) (fun s2 ms2 fs2 => ?_)
  have ns2 := ms2.len
  have gs2 := fs1.trans fs2
  have gss2 : ∀ j : Int, 0 ≤ j → gl (la.set (0 : Int).toNat (Int32.ofInt 0)) j = if j = 0 then 0 else gl la j := fun j hj => gl_set ⟨by omega, by omega⟩ ⟨by omega, by omega⟩ hj
  have ges2 : gl (la.set (0 : Int).toNat (Int32.ofInt 0)) 0 = 0 := (gss2 0 (by omega)).trans (if_pos rfl)
  refine T.go 3 (fun n9 => (rfl : _ = exe ξ n9 (d + 10) j_M_open 22 [(0, .ref 137), (1, J (gl la 0))] [J 4, J 0, .ref 137] s2)) ?_
  refine T.callv (as := [J 0, J 4]) (r := []) rfl rfl rfl rfl ms2.ob rfl (s_M_copyRow (d + 9) 0 4 s2 ms2 (by omega) (by omega) (by omega) (by omega) (by omega) (by omega) (by omega)) (fun v1 s3 hqs3 => ?_)
  obtain ⟨Lc_1, la_1, rfl, ms3, fs3, pz2_0, pz2_1, pz2_2, pz2_3⟩ := hqs3
  have ns3 := ms3.len
  have rs3 := ms3.rg
  have gs3 := gs2.trans fs3
  refine T.go 1 (fun n9 => (rfl : _ = exe ξ n9 (d + 10) j_M_open 26 [(0, .ref 137), (1, J (gl la 0))] [.ref 137] s3)) ?_
  refine T.get rfl rfl rfl ms3.ob rfl ?_
  refine T.go 2 (fun n9 => (rfl : _ = exe ξ n9 (d + 10) j_M_open 31 [(0, .ref 137), (1, J (gl la 0))] [J (gl la 0), J 4, .ref 139] s3)) ?_
  refine T.mast139 ms3 rfl (by omega) (by omega) (fun s4 ms4 fs4 => ?_)
  have ns4 := ms4.len
  have gs4 := gs3.trans fs4
  have gss4 : ∀ j : Int, 0 ≤ j → gl (la_1.set (4 : Int).toNat (Int32.ofInt (gl la 0))) j = if j = 4 then gl la 0 else gl la_1 j := fun j hj => gl_set ⟨by omega, by omega⟩ ⟨by omega, by omega⟩ hj
  have ges4 : gl (la_1.set (4 : Int).toNat (Int32.ofInt (gl la 0))) 4 = gl la 0 := (gss4 4 (by omega)).trans (if_pos rfl)
  refine T.go 2 (fun n9 => (rfl : _ = exe ξ n9 (d + 10) j_M_open 34 [(0, .ref 137), (1, J (gl la 0))] [J 4, .ref 137] s4)) ?_
  refine T.callv (as := [J 4]) (r := []) rfl rfl rfl rfl ms4.ob rfl (s_M_isFaulty (d + 3) 4 s4 ms4 (by omega) (by omega) (by omega)) (fun v2 s5 hqs5 => ?_)
  obtain ⟨z3, rw_1, en_1, wy_1, wh_1, lh_1, ld_1, rfl, ms5, fs5, hzz3, hyz3, pz3_0, pz3_1, pz3_2, pz3_3, pz3_4, pz3_5, pz3_6, pz3_7⟩ := hqs5
  have ns5 := ms5.len
  have rs5 := ms5.rg
  have gs5 := gs4.trans fs5
  refine T.if_eq rfl rfl (by omega) (fun c1 => ?_) (fun c1 => ?_)
  · refine T.go 3 (fun n9 => (rfl : _ = exe ξ n9 (d + 10) j_M_open 49 [(0, .ref 137), (1, J (gl la 0))] [J 1, J 4, .ref 137] s5)) ?_
    refine T.callv (as := [J 4, J 1]) (r := []) rfl rfl rfl rfl ms5.ob rfl (s_M_copyRow (d + 9) 4 1 s5 ms5 (by omega) (by omega) (by omega) (by omega) (by omega) (by omega) (by omega)) (fun v3 s6 hqs6 => ?_)
    obtain ⟨Lc_2, la_2, rfl, ms6, fs6, pz4_0, pz4_1, pz4_2, pz4_3⟩ := hqs6
    have ns6 := ms6.len
    have rs6 := ms6.rg
    have gs6 := gs5.trans fs6
    refine T.go 2 (fun n9 => (rfl : _ = exe ξ n9 (d + 10) j_M_open 54 [(0, .ref 137), (1, J (gl la 0))] [J 1, .ref 137] s6)) ?_
    refine T.mput (c' := 0) (io' := 1) (mo' := mo) (fa' := fa) (pl' := pl) (ns' := ns) (rw' := rw_1) (en' := en_1) (wy' := wy_1) (wh' := wh_1) (bi' := bi) (ed' := ed) (sz' := sz) (md' := md) (bd' := bd) (li' := li) (wk' := wk) (we' := we) ms6 rfl rfl rfl rfl rfl rfl (by omega) (fun s7 ms7 fs7 => ?_)
    have gs7 := gs6.trans fs7
    refine T.go 2 (fun n9 => (rfl : _ = exe ξ n9 (d + 10) j_M_open 59 [(0, .ref 137), (1, J (gl la 0))] [J 0, .ref 137] s7)) ?_
    refine T.mput (c' := 0) (io' := 1) (mo' := 0) (fa' := fa) (pl' := pl) (ns' := ns) (rw' := rw_1) (en' := en_1) (wy' := wy_1) (wh' := wh_1) (bi' := bi) (ed' := ed) (sz' := sz) (md' := md) (bd' := bd) (li' := li) (wk' := wk) (we' := we) ms7 rfl rfl rfl rfl rfl rfl (by omega) (fun s8 ms8 fs8 => ?_)
    have gs8 := gs7.trans fs8
    refine T.go 1 (fun n9 => (rfl : _ = exe ξ n9 (d + 10) j_M_open 63 [(0, .ref 137), (1, J (gl la 0))] [.ref 137] s8)) ?_
    refine T.get rfl rfl rfl ms8.ob rfl ?_
    refine T.go 2 (fun n9 => (rfl : _ = exe ξ n9 (d + 10) j_M_open 68 [(0, .ref 137), (1, J (gl la 0))] [J 0, J 3, .ref 139] s8)) ?_
    refine T.mast139 ms8 rfl (by omega) (by omega) (fun s9 ms9 fs9 => ?_)
    have ns9 := ms9.len
    have gs9 := gs8.trans fs9
    have gss9 : ∀ j : Int, 0 ≤ j → gl (la_2.set (3 : Int).toNat (Int32.ofInt 0)) j = if j = 3 then 0 else gl la_2 j := fun j hj => gl_set ⟨by omega, by omega⟩ ⟨by omega, by omega⟩ hj
    have ges9 : gl (la_2.set (3 : Int).toNat (Int32.ofInt 0)) 3 = 0 := (gss9 3 (by omega)).trans (if_pos rfl)
    refine T.go 1 (fun n9 => (rfl : _ = exe ξ n9 (d + 10) j_M_open 70 [(0, .ref 137), (1, J (gl la 0))] [.ref 137] s9)) ?_
    refine T.get rfl rfl rfl ms9.ob rfl ?_
    have fo := pz3_0
    rw [pz2_2, ges4] at fo
    have f1 := pz3_1
    rw [pz2_2, ges4] at f1
    exact T.ireti rfl rfl ⟨_, 0, 1, 0, fa, pl, rw_1, en_1, wy_1, wh_1, Lc_2, (la_2.set (3 : Int).toNat (Int32.ofInt 0)), lh_1, ld_1, rfl, ms9, gs9, by omega, by omega, (fun _ => ⟨by rw [(gss9 1 (by decide)).trans (if_neg (by decide)), pz4_2, pz4_3]; omega, fun j a b => absurd b (by omega)⟩), (((gss9 0 (by decide)).trans (if_neg (by decide))).trans ((pz4_1 0 (by decide) (by decide)).trans (((gss4 0 (by decide)).trans (if_neg (by decide))).trans ((pz2_1 0 (by decide) (by decide)).trans ges2)))), (fun h => ⟨by omega, by omega⟩), (fun h => by omega), ((pz4_0 0 (by decide) (by decide)).trans (pz2_0 0 (by decide) (by decide))), (fun _ => ⟨rfl, rfl, pz4_2.trans pz2_2, ((gss9 1 (by decide)).trans (if_neg (by decide))).trans (pz4_3.trans ges4)⟩), (fun h => by exfalso; omega), ((pz4_0 3 (by decide) (by decide)).trans (pz2_0 3 (by decide) (by decide))), ((pz4_0 6 (by decide) (by decide)).trans (pz2_0 6 (by decide) (by decide))), (((gss9 6 (by decide)).trans (if_neg (by decide))).trans ((pz4_1 6 (by decide) (by decide)).trans (((gss4 6 (by decide)).trans (if_neg (by decide))).trans ((pz2_1 6 (by decide) (by decide)).trans ((gss2 6 (by decide)).trans (if_neg (by decide))))))), (fun _ => ges9), (fun h => by exfalso; omega)⟩
  · refine T.go 2 (fun n9 => (rfl : _ = exe ξ n9 (d + 10) j_M_open 42 [(0, .ref 137), (1, J (gl la 0))] [J 1, .ref 137] s5)) ?_
    refine T.callv (as := [J 1]) (r := []) rfl rfl rfl rfl ms5.ob rfl (s_M_frefuseFault (d + 8) 1 s5 ms5 (by omega)) (fun v4 s10 hqs10 => ?_)
    obtain ⟨z5, c_1, fa_1, pl_1, rfl, ms10, fs10, hzz5, hyz5, pz5_0⟩ := hqs10
    have ns10 := ms10.len
    have rs10 := ms10.rg
    have gs10 := gs5.trans fs10
    have fo := pz3_0
    rw [pz2_2, ges4] at fo
    have f1 := pz3_1
    rw [pz2_2, ges4] at f1
    exact T.ireti rfl rfl ⟨_, c_1, io, mo, fa_1, pl_1, rw_1, en_1, wy_1, wh_1, Lc_1, (la_1.set (4 : Int).toNat (Int32.ofInt (gl la 0))), lh_1, ld_1, rfl, ms10, gs10, by omega, by omega, (by have c8 := pz2_0 1 (by decide) (by decide); have l8 := pz2_1 1 (by decide) (by decide); unfold OKM; rw [c8, (gss4 1 (by decide)).trans (if_neg (by decide)), l8, (gss2 1 (by decide)).trans (if_neg (by decide))]; exact pre0), (((gss4 0 (by decide)).trans (if_neg (by decide))).trans ((pz2_1 0 (by decide) (by decide)).trans ges2)), (fun h => ⟨by omega, by omega⟩), (fun h => by omega), (pz2_0 0 (by decide) (by decide)), (fun h => by exfalso; omega), (fun _ => ⟨rfl, rfl, pz2_0 1 (by decide) (by decide), ((gss4 1 (by decide)).trans (if_neg (by decide))).trans ((pz2_1 1 (by decide) (by decide)).trans ((gss2 1 (by decide)).trans (if_neg (by decide))))⟩), (pz2_0 3 (by decide) (by decide)), (pz2_0 6 (by decide) (by decide)), (((gss4 6 (by decide)).trans (if_neg (by decide))).trans ((pz2_1 6 (by decide) (by decide)).trans ((gss2 6 (by decide)).trans (if_neg (by decide))))), (fun h => by exfalso; omega), (fun _ => (((gss4 3 (by decide)).trans (if_neg (by decide))).trans ((pz2_1 3 (by decide) (by decide)).trans ((gss2 3 (by decide)).trans (if_neg (by decide))))))⟩
