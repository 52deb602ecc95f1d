/-! The model: read, octet. -/
/-- what read answers, and what it keeps -/
def RDM (g : Int → Int) (f : Int) (lm : List Int32) (io mo x y z : Int) (r3 : Int → Int) (f3 : Int) : Prop := (io = 1 ∧ 0 ≤ x ∧ x ≤ mo) ∧ ∃ (o : Int → Int) (fo : Int) (r b : Int → Int), ARX g f lm x o fo ∧ (0 ≤ y ∧ y < NEf o fo) ∧ B255 r ∧ (∀ k : Int, 0 ≤ k → k < fo → r k = o k) ∧ RD r (Hj o fo y) (Dj o fo y) b ∧ z = W4 r (Hj o fo y + 24) ∧ f3 = z ∧ ∀ k : Int, 0 ≤ k → k < f3 → r3 k = b k
def RDN (g : Int → Int) (f : Int) (lm : List Int32) (io mo x y : Int) : Prop := (io = 1 ∧ 0 ≤ x ∧ x ≤ mo) ∧ ∃ (o : Int → Int) (fo : Int) (r : Int → Int), ARX g f lm x o fo ∧ (0 ≤ y ∧ y < NEf o fo) ∧ B255 r ∧ (∀ k : Int, 0 ≤ k → k < fo → r k = o k) ∧ ∀ b : Int → Int, ¬ RD r (Hj o fo y) (Dj o fo y) b
theorem ARY_h {g r : Int → Int} {f x fr en y : Int} {lm lh ld : List Int32} (h : ARY g f lm x r fr lh ld en) (hy : 0 ≤ y ∧ y < en) : ∃ (o : Int → Int) (fo : Int), ARX g f lm x o fo ∧ (0 ≤ y ∧ y < NEf o fo) ∧ (∀ k : Int, 0 ≤ k → k < fo → r k = o k) ∧ gl lh y = Hj o fo y ∧ gl ld y = Dj o fo y := by
  obtain ⟨o, fo, a1, -, a3, -, a5, a6⟩ := h
  exact ⟨o, fo, a1, ⟨hy.1, by omega⟩, a3, (a6 y hy.1 hy.2).1, (a6 y hy.1 hy.2).2⟩

set_option maxHeartbeats 4000000 in
theorem s_M_eread {ξ : Nat → Option (Nat × List Int32)} {c io mo fa pl ns rw en wy wh bi ed sz md bd li wk we : Int} {Lc : List Int64} {la lm ln lh ld lk lt : List Int32} (d : Nat) (x : Int) (y : Int) (σ : qH) (hM : MS σ c io mo fa pl ns rw en wy wh bi ed sz md bd li wk we Lc la lm ln lh ld lk lt) (rx : -2147483648 ≤ x ∧ x ≤ 2147483647) (ry : -2147483648 ≤ y ∧ y ≤ 2147483647) (pre0 : OKM Lc la lm io mo) (pre1 : MTX io (gc Lc 1) (gl la 1) lm mo) : T ξ (d + 10) j_M_read 0 (lv_args 0 [.ref 137, J x, J y]) [] σ (fun v σ' => ∃ (z : Int) (c1 : Int) (rw1 : Int) (en1 : Int) (wy1 : Int) (wh1 : Int) (bi1 : Int) (ed1 : Int) (sz1 : Int) (md1 : Int) (bd1 : Int) (Lc1 : List Int64) (la1 : List Int32) (lk1 : List Int32) (lh1 : List Int32) (ld1 : List Int32) (fa1 : Int) (pl1 : Int), v = some (J z) ∧ MS σ' c1 io mo fa1 pl1 ns rw1 en1 wy1 wh1 bi1 ed1 sz1 md1 bd1 li wk we Lc1 la1 lm ln lh1 ld1 lk1 lt ∧ FM σ σ' ∧ -2147483648 ≤ z ∧ z ≤ 2147483647 ∧ OKM Lc1 la1 lm io mo ∧ gl la1 0 = gl la 0 ∧ gc Lc1 0 = gc Lc 0 ∧ gc Lc1 1 = gc Lc 1 ∧ gl la1 1 = gl la 1 ∧ gc Lc1 6 = gc Lc 6 ∧ gl la1 6 = gl la 6 ∧ (c1 = 0 → RDM (gc Lc 1) (gl la 1) lm io mo x y z (gc Lc1 3) (gl la1 3)) ∧ (c1 = 1 → NHE (gc Lc 1) (gl la 1) lm io mo x y) ∧ (c1 = 2 → RDN (gc Lc 1) (gl la 1) lm io mo x y) ∧ (0 ≤ c1 ∧ c1 ≤ 2) ∧ (c1 ≠ 0 → gc Lc1 3 = gc Lc 3 ∧ gl la1 3 = gl la 3)) := by
  have r0 := hM.rg
  have n0 := hM.len
  refine T.go 4 (fun n9 => (rfl : _ = exe ξ n9 (d + 10) j_M_read 4 [(0, .ref 137), (1, J x), (2, J y)] [J y, J x, .ref 137, .ref 137] σ)) ?_
  refine T.callv (as := [J x, J y]) (r := [.ref 137]) rfl rfl rfl rfl hM.ob rfl (s_M_ehasEntry (d + 1) x y σ hM (by omega) (by omega) (pre0.keep (RG.refl (S := [2, 3, 4])) (LG.refl (S := [2, 3, 4])) (by decide)) pre1) (fun v1 s1 hqs1 => ?_)
  obtain ⟨z1, rw_1, en_1, wy_1, wh_1, bi_1, ed_1, sz_1, md_1, bd_1, Lc_1, la_1, lk_1, lh_1, ld_1, rfl, ms1, fs1, hzz1, hyz1, pz1_0, pz1_1, pz1_2, pz1_3, pz1_4, pz1_5, pz1_6, pz1_7, pz1_8⟩ := hqs1
  have ns1 := ms1.len
  have rs1 := ms1.rg
  have rgs1 := (RG.refl (S := [2, 3, 4])).trans pz1_0 (by decide)
  have lgs1 := (LG.refl (S := [2, 3, 4])).trans pz1_1 (by decide)
  refine T.if_eq rfl rfl (by omega) (fun c1 => ?_) (fun c1 => ?_)
  · refine T.go 1 (fun n9 => (rfl : _ = exe ξ n9 (d + 10) j_M_read 15 [(0, .ref 137), (1, J x), (2, J y)] [J 1, .ref 137] s1)) ?_
    refine T.mput (c' := 1) (io' := io) (mo' := mo) (fa' := fa) (pl' := pl) (ns' := ns) (rw' := rw_1) (en' := en_1) (wy' := wy_1) (wh' := wh_1) (bi' := bi_1) (ed' := ed_1) (sz' := sz_1) (md' := md_1) (bd' := bd_1) (li' := li) (wk' := wk) (we' := we) ms1 rfl rfl rfl rfl rfl rfl (by omega) (fun s2 ms2 fs2 => ?_)
    have gs2 := fs1.trans fs2
    refine T.go 1 (fun n9 => (rfl : _ = exe ξ n9 (d + 10) j_M_read 19 [(0, .ref 137), (1, J x), (2, J y)] [.ref 137] s2)) ?_
    refine T.get rfl rfl rfl ms2.ob rfl ?_
    refine T.go 2 (fun n9 => (rfl : _ = exe ξ n9 (d + 10) j_M_read 26 [(0, .ref 137), (1, J x), (2, J y)] [J 0] s2)) ?_
    exact T.ireti rfl rfl ⟨_, 1, rw_1, en_1, wy_1, wh_1, bi_1, ed_1, sz_1, md_1, bd_1, Lc_1, la_1, lk_1, lh_1, ld_1, fa, pl, rfl, ms2, gs2, by omega, by omega, (pre0.keep rgs1 lgs1 (by decide)), (lgs1 0 (by decide) (by decide)), (rgs1 0 (by decide) (by decide)), (rgs1 1 (by decide) (by decide)), (lgs1 1 (by decide) (by decide)), (rgs1 6 (by decide) (by decide)), (lgs1 6 (by decide) (by decide)), (fun h => absurd h (by omega)), (fun _ => pz1_8 (by omega)), (fun h => absurd h (by omega)), by omega, (fun _ => ⟨pz1_0 3 (by decide) (by decide), pz1_1 3 (by decide) (by decide)⟩)⟩
  · refine T.go 2 (fun n9 => (rfl : _ = exe ξ n9 (d + 10) j_M_read 15 [(0, .ref 137), (1, J x), (2, J y)] [J 0, .ref 137] s1)) ?_
    refine T.mput (c' := 0) (io' := io) (mo' := mo) (fa' := fa) (pl' := pl) (ns' := ns) (rw' := rw_1) (en' := en_1) (wy' := wy_1) (wh' := wh_1) (bi' := bi_1) (ed' := ed_1) (sz' := sz_1) (md' := md_1) (bd' := bd_1) (li' := li) (wk' := wk) (we' := we) ms1 rfl rfl rfl rfl rfl rfl (by omega) (fun s3 ms3 fs3 => ?_)
    have gs3 := fs1.trans fs3
    refine T.go 1 (fun n9 => (rfl : _ = exe ξ n9 (d + 10) j_M_read 19 [(0, .ref 137), (1, J x), (2, J y)] [.ref 137] s3)) ?_
    refine T.get rfl rfl rfl ms3.ob rfl ?_
    refine T.go 3 (fun n9 => (rfl : _ = exe ξ n9 (d + 10) j_M_read 29 [(0, .ref 137), (1, J x), (2, J y)] [J y, .ref 137] s3)) ?_
    have hd := pz1_4 (by omega)
    have hx := hd y (by omega) (by omega)
    refine T.callv (as := [J y]) (r := []) rfl rfl rfl rfl ms3.ob rfl (s_M_fisUnread (d + 3) y s3 ms3 (by omega) (by omega) (by omega) (by omega) (by omega) (by omega) (by omega)) (fun v2 s4 hqs4 => ?_)
    obtain ⟨z2, wy_2, wh_2, bi_2, ed_2, sz_2, md_2, bd_2, Lc_2, la_2, lk_2, rfl, ms4, fs4, hzz2, hyz2, pz2_0, pz2_1, pz2_2, pz2_3⟩ := hqs4
    have ns4 := ms4.len
    have rs4 := ms4.rg
    have gs4 := gs3.trans fs4
    have rgs4 := rgs1.trans pz2_0 (by decide)
    have lgs4 := lgs1.trans pz2_1 (by decide)
    refine T.if_eq rfl rfl (by omega) (fun c2 => ?_) (fun c2 => ?_)
    · refine T.go 3 (fun n9 => (rfl : _ = exe ξ n9 (d + 10) j_M_read 44 [(0, .ref 137), (1, J x), (2, J y)] [J 3, J 4, .ref 137] s4)) ?_
      refine T.callv (as := [J 4, J 3]) (r := []) rfl rfl rfl rfl ms4.ob rfl (s_M_copyRow (d + 9) 4 3 s4 ms4 (by omega) (by omega) (by omega) (by omega) (by omega) (by omega) (by omega)) (fun v3 s5 hqs5 => ?_)
      obtain ⟨Lc_3, la_3, rfl, ms5, fs5, pz3_0, pz3_1, pz3_2, pz3_3⟩ := hqs5
      have ns5 := ms5.len
      have rs5 := ms5.rg
      have gs5 := gs4.trans fs5
      have rgs5 := rgs4.trans pz3_0 (by decide)
      have lgs5 := lgs4.trans pz3_1 (by decide)
      refine T.go 1 (fun n9 => (rfl : _ = exe ξ n9 (d + 10) j_M_read 48 [(0, .ref 137), (1, J x), (2, J y)] [.ref 137] s5)) ?_
      refine T.get rfl rfl rfl ms5.ob rfl ?_
      refine T.go 1 (fun n9 => (rfl : _ = exe ξ n9 (d + 10) j_M_read 52 [(0, .ref 137), (1, J x), (2, J y)] [J 3, .ref 139] s5)) ?_
      refine T.iald rfl rfl ms5.c139 (by omega) (fun z4 hzz4 hyz4 hez4 => ?_)
      have hbz4 := ms5.b139.at hez4 ⟨hzz4, hyz4⟩
      have gzz4 := gl_of hez4 ⟨hzz4, hyz4⟩
      subst gzz4
      exact T.ireti rfl rfl ⟨_, 0, rw_1, en_1, wy_2, wh_2, bi_2, ed_2, sz_2, md_2, bd_2, Lc_3, la_3, lk_2, lh_1, ld_1, fa, pl, rfl, ms5, gs5, by omega, by omega, (pre0.keep rgs5 lgs5 (by decide)), (lgs5 0 (by decide) (by decide)), (rgs5 0 (by decide) (by decide)), (rgs5 1 (by decide) (by decide)), (lgs5 1 (by decide) (by decide)), (rgs5 6 (by decide) (by decide)), (lgs5 6 (by decide) (by decide)), (fun _ => by have ru := pz2_2 (by omega); obtain ⟨o, fo, b1, b2, b3, b4, b5⟩ := ARY_h (pz1_7 (by omega)) (y := y) ⟨by omega, by omega⟩; have e4 := b4; rw [b4, b5] at ru; exact ⟨by omega, o, fo, gc Lc_1 rw_1, nm Lc_2 md_2, b1, b2, gc_r Lc_1 rw_1, b3, ru.1, by rw [pz3_3, ru.2.2], rfl, fun k k0 k1 => by rw [pz3_2]; exact (nm_at ⟨k0, by rw [ru.2.1]; rw [pz3_3, ru.2.2] at k1; exact k1⟩).symm⟩), (fun h => absurd h (by omega)), (fun h => absurd h (by omega)), by omega, (fun h => absurd (by omega) h)⟩
    · refine T.go 2 (fun n9 => (rfl : _ = exe ξ n9 (d + 10) j_M_read 37 [(0, .ref 137), (1, J x), (2, J y)] [J 2, .ref 137] s4)) ?_
      refine T.callv (as := [J 2]) (r := []) rfl rfl rfl rfl ms4.ob rfl (s_M_frefuseFault (d + 8) 2 s4 ms4 (by omega)) (fun v4 s6 hqs6 => ?_)
      obtain ⟨z5, c_1, fa_1, pl_1, rfl, ms6, fs6, hzz5, hyz5, pz5_0⟩ := hqs6
      have ns6 := ms6.len
      have rs6 := ms6.rg
      have gs6 := gs4.trans fs6
      exact T.ireti rfl rfl ⟨_, c_1, rw_1, en_1, wy_2, wh_2, bi_2, ed_2, sz_2, md_2, bd_2, Lc_2, la_2, lk_2, lh_1, ld_1, fa_1, pl_1, rfl, ms6, gs6, by omega, by omega, (pre0.keep rgs4 lgs4 (by decide)), (lgs4 0 (by decide) (by decide)), (rgs4 0 (by decide) (by decide)), (rgs4 1 (by decide) (by decide)), (lgs4 1 (by decide) (by decide)), (rgs4 6 (by decide) (by decide)), (lgs4 6 (by decide) (by decide)), (fun h => absurd h (by omega)), (fun h => absurd h (by omega)), (fun _ => by have rn := pz2_3 (by omega); obtain ⟨o, fo, b1, b2, b3, b4, b5⟩ := ARY_h (pz1_7 (by omega)) (y := y) ⟨by omega, by omega⟩; rw [b4, b5] at rn; exact ⟨by omega, o, fo, gc Lc_1 rw_1, b1, b2, gc_r Lc_1 rw_1, b3, rn⟩), by omega, (fun _ => ⟨(pz2_0 3 (by decide) (by decide)).trans (pz1_0 3 (by decide) (by decide)), (pz2_1 3 (by decide) (by decide)).trans (pz1_1 3 (by decide) (by decide))⟩)⟩

set_option maxHeartbeats 4000000 in
theorem s_M_eoctet {ξ : Nat → Option (Nat × List Int32)} {c io mo fa pl ns rw en wy wh bi ed sz md bd li wk we : Int} {Lc : List Int64} {la lm ln lh ld lk lt : List Int32} (d : Nat) (x : Int) (σ : qH) (hM : MS σ c io mo fa pl ns rw en wy wh bi ed sz md bd li wk we Lc la lm ln lh ld lk lt) (rx : -2147483648 ≤ x ∧ x ≤ 2147483647) : T ξ (d + 10) j_M_octet 0 (lv_args 0 [.ref 137, J x]) [] σ (fun v σ' => ∃ (z : Int) (c1 : Int), v = some (J z) ∧ MS σ' c1 io mo fa pl ns rw en wy wh bi ed sz md bd li wk we Lc la lm ln lh ld lk lt ∧ FM σ σ' ∧ -2147483648 ≤ z ∧ z ≤ 2147483647 ∧ (0 ≤ x → x < gl la 3 → z = gc Lc 3 x) ∧ (x < 0 ∨ gl la 3 ≤ x → z = -1)) := by
  have r0 := hM.rg
  have n0 := hM.len
  refine T.go 2 (fun n9 => (rfl : _ = exe ξ n9 (d + 10) j_M_octet 2 [(0, .ref 137), (1, J x)] [J 0, .ref 137] σ)) ?_
  refine T.mput (c' := 0) (io' := io) (mo' := mo) (fa' := fa) (pl' := pl) (ns' := ns) (rw' := rw) (en' := en) (wy' := wy) (wh' := wh) (bi' := bi) (ed' := ed) (sz' := sz) (md' := md) (bd' := bd) (li' := li) (wk' := wk) (we' := we) hM rfl rfl rfl rfl rfl rfl (by omega) (fun s1 ms1 fs1 => ?_)
  refine T.go 3 (fun n9 => (rfl : _ = exe ξ n9 (d + 10) j_M_octet 8 [(0, .ref 137), (1, J x)] [.ref 137, J 0, J x] s1)) ?_
  refine T.get rfl rfl rfl ms1.ob rfl ?_
  refine T.go 1 (fun n9 => (rfl : _ = exe ξ n9 (d + 10) j_M_octet 12 [(0, .ref 137), (1, J x)] [J 3, .ref 139, J 0, J x] s1)) ?_
  refine T.iald rfl rfl ms1.c139 (by omega) (fun z1 hzz1 hyz1 hez1 => ?_)
  have hbz1 := ms1.b139.at hez1 ⟨hzz1, hyz1⟩
  have gzz1 := gl_of hez1 ⟨hzz1, hyz1⟩
  subst gzz1
  refine T.go 1 (fun n9 => (rfl : _ = exe ξ n9 (d + 10) j_M_octet 14 [(0, .ref 137), (1, J x)] [J 1, J (gl la 3), J 0, J x] s1)) ?_
  refine T.isub rfl ?_
  refine T.calls (as := [J x, J 0, J ((gl la 3) - 1)]) (r := []) rfl rfl (by decide) rfl rfl (s_M_in (d + 9) x 0 ((gl la 3) - 1) s1 (by omega) (by omega) (by omega)) (fun v1 s2 hqs2 => ?_)
  obtain ⟨z2, rfl, esz2, hzz2, hyz2, pz2_0, pz2_1⟩ := hqs2
  rw [esz2]
  refine T.if_eq rfl rfl (by omega) (fun c1 => ?_) (fun c1 => ?_)
  · refine T.go 1 (fun n9 => (rfl : _ = exe ξ n9 (d + 10) j_M_octet 31 [(0, .ref 137), (1, J x)] [J (-1)] s1)) ?_
    exact T.ireti rfl rfl ⟨_, 0, rfl, ms1, fs1, by omega, by omega, (fun _ _ => by exfalso; omega), by omega⟩
  · refine T.go 3 (fun n9 => (rfl : _ = exe ξ n9 (d + 10) j_M_octet 24 [(0, .ref 137), (1, J x)] [J x, J 3, .ref 137] s1)) ?_
    refine T.callv (as := [J 3, J x]) (r := []) rfl rfl rfl rfl ms1.ob rfl (s_M_get (d + 9) 3 x s1 ms1 (by omega)) (fun v2 s3 hqs3 => ?_)
    obtain ⟨z3, rfl, esz3, hzz3, hyz3, pz3_0⟩ := hqs3
    rw [esz3]
    refine T.go 1 (fun n9 => (rfl : _ = exe ξ n9 (d + 10) j_M_octet 31 [(0, .ref 137), (1, J x)] [J z3] s1)) ?_
    exact T.ireti rfl rfl ⟨_, 0, rfl, ms1, fs1, by omega, by omega, (fun _ _ => by rw [pz3_0]; exact (gc_at ⟨by omega, by omega⟩).symm), by omega⟩

set_option maxHeartbeats 4000000 in
theorem s_M_evalue {ξ : Nat → Option (Nat × List Int32)} {c io mo fa pl ns rw en wy wh bi ed sz md bd li wk we : Int} {Lc : List Int64} {la lm ln lh ld lk lt : List Int32} (d : Nat) (x : Int) (σ : qH) (hM : MS σ c io mo fa pl ns rw en wy wh bi ed sz md bd li wk we Lc la lm ln lh ld lk lt) (rx : -2147483648 ≤ x ∧ x ≤ 2147483647) : T ξ (d + 10) j_M_value 0 (lv_args 0 [.ref 137, J x]) [] σ (fun v σ' => ∃ (z : Int) (c1 : Int), v = some (J z) ∧ MS σ' c1 io mo fa pl ns rw en wy wh bi ed sz md bd li wk we Lc la lm ln lh ld lk lt ∧ FM σ σ' ∧ -2147483648 ≤ z ∧ z ≤ 2147483647 ∧ (0 ≤ x → x < gl la 6 → z = gc Lc 6 x) ∧ (x < 0 ∨ gl la 6 ≤ x → z = -1)) := by
  have r0 := hM.rg
  have n0 := hM.len
  refine T.go 2 (fun n9 => (rfl : _ = exe ξ n9 (d + 10) j_M_value 2 [(0, .ref 137), (1, J x)] [J 0, .ref 137] σ)) ?_
  refine T.mput (c' := 0) (io' := io) (mo' := mo) (fa' := fa) (pl' := pl) (ns' := ns) (rw' := rw) (en' := en) (wy' := wy) (wh' := wh) (bi' := bi) (ed' := ed) (sz' := sz) (md' := md) (bd' := bd) (li' := li) (wk' := wk) (we' := we) hM rfl rfl rfl rfl rfl rfl (by omega) (fun s1 ms1 fs1 => ?_)
  refine T.go 3 (fun n9 => (rfl : _ = exe ξ n9 (d + 10) j_M_value 8 [(0, .ref 137), (1, J x)] [.ref 137, J 0, J x] s1)) ?_
  refine T.get rfl rfl rfl ms1.ob rfl ?_
  refine T.go 1 (fun n9 => (rfl : _ = exe ξ n9 (d + 10) j_M_value 13 [(0, .ref 137), (1, J x)] [J 6, .ref 139, J 0, J x] s1)) ?_
  refine T.iald rfl rfl ms1.c139 (by omega) (fun z1 hzz1 hyz1 hez1 => ?_)
  have hbz1 := ms1.b139.at hez1 ⟨hzz1, hyz1⟩
  have gzz1 := gl_of hez1 ⟨hzz1, hyz1⟩
  subst gzz1
  refine T.go 1 (fun n9 => (rfl : _ = exe ξ n9 (d + 10) j_M_value 15 [(0, .ref 137), (1, J x)] [J 1, J (gl la 6), J 0, J x] s1)) ?_
  refine T.isub rfl ?_
  refine T.calls (as := [J x, J 0, J ((gl la 6) - 1)]) (r := []) rfl rfl (by decide) rfl rfl (s_M_in (d + 9) x 0 ((gl la 6) - 1) s1 (by omega) (by omega) (by omega)) (fun v1 s2 hqs2 => ?_)
  obtain ⟨z2, rfl, esz2, hzz2, hyz2, pz2_0, pz2_1⟩ := hqs2
  rw [esz2]
  refine T.if_eq rfl rfl (by omega) (fun c1 => ?_) (fun c1 => ?_)
  · refine T.go 1 (fun n9 => (rfl : _ = exe ξ n9 (d + 10) j_M_value 33 [(0, .ref 137), (1, J x)] [J (-1)] s1)) ?_
    exact T.ireti rfl rfl ⟨_, 0, rfl, ms1, fs1, by omega, by omega, (fun _ _ => by exfalso; omega), by omega⟩
  · refine T.go 3 (fun n9 => (rfl : _ = exe ξ n9 (d + 10) j_M_value 26 [(0, .ref 137), (1, J x)] [J x, J 6, .ref 137] s1)) ?_
    refine T.callv (as := [J 6, J x]) (r := []) rfl rfl rfl rfl ms1.ob rfl (s_M_get (d + 9) 6 x s1 ms1 (by omega)) (fun v2 s3 hqs3 => ?_)
    obtain ⟨z3, rfl, esz3, hzz3, hyz3, pz3_0⟩ := hqs3
    rw [esz3]
    refine T.go 1 (fun n9 => (rfl : _ = exe ξ n9 (d + 10) j_M_value 33 [(0, .ref 137), (1, J x)] [J z3] s1)) ?_
    exact T.ireti rfl rfl ⟨_, 0, rfl, ms1, fs1, by omega, by omega, (fun _ _ => by rw [pz3_0]; exact (gc_at ⟨by omega, by omega⟩).symm), by omega⟩
