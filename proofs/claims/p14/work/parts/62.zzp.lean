/-! The model: mount. -/
set_option maxHeartbeats 4000000 in
theorem s_M_fhasEntry {ξ : Nat → Option (Nat × List Int32)} {c io mo fa pl ns rw en wy wh bi ed sz md bd li wk we : Int} {Lc : List Int64} {la lm ln lh ld lk lt : List Int32} (d : Nat) (x : Int) (y : Int) (σ : qH) (hM : MS σ c io mo fa pl ns rw en wy wh bi ed sz md bd li wk we Lc la lm ln lh ld lk lt) (rx : -2147483648 ≤ x ∧ x ≤ 2147483647) (ry : -2147483648 ≤ y ∧ y ≤ 2147483647) (pre0 : OKM Lc la lm io mo) (pre1 : MTX io (gc Lc 1) (gl la 1) lm mo) : T ξ (d + 8) j_M_hasEntry 0 (lv_args 0 [.ref 137, J x, J y]) [] σ (fun v σ' => ∃ (z : Int) (rw1 : Int) (en1 : Int) (wy1 : Int) (wh1 : Int) (bi1 : Int) (ed1 : Int) (sz1 : Int) (md1 : Int) (bd1 : Int) (Lc1 : List Int64) (la1 : List Int32) (lk1 : List Int32) (lh1 : List Int32) (ld1 : List Int32), v = some (J z) ∧ MS σ' c io mo fa pl ns rw1 en1 wy1 wh1 bi1 ed1 sz1 md1 bd1 li wk we Lc1 la1 lm ln lh1 ld1 lk1 lt ∧ FM σ σ' ∧ 0 ≤ z ∧ z ≤ 1 ∧ RG [2, 4] Lc Lc1 ∧ LG [2, 4] la la1 ∧ (z = 1 → io = 1 ∧ 0 ≤ x ∧ x ≤ mo ∧ 0 ≤ y ∧ y < en1 ∧ 1 ≤ rw1 ∧ rw1 ≤ 2) ∧ (z = 1 → x = 0 → rw1 = 1 ∧ en1 = W2 (gc Lc 1) (EN (gc Lc 1) (gl la 1) + 8)) ∧ (z = 1 → HD (gc Lc1 rw1) lh1 ld1 en1) ∧ (x = 0 → z = 0 → ¬ (io = 1 ∧ 0 ≤ y ∧ y < NEf (gc Lc 1) (gl la 1))) ∧ (z = 1 → x = 0 → HDJ (gc Lc 1) (gl la 1) lh1 ld1 en1)) := by
  have r0 := hM.rg
  have n0 := hM.len
  refine T.go 2 (fun n9 => (rfl : _ = exe ξ n9 (d + 8) j_M_hasEntry 2 [(0, .ref 137), (1, J x), (2, J y)] [J x, .ref 137] σ)) ?_
  refine T.callv (as := [J x]) (r := []) rfl rfl rfl rfl hM.ob rfl (s_M_fisArchive (d + 6) x σ hM (by omega)) (fun v1 s1 hqs1 => ?_)
  obtain ⟨z1, rfl, esz1, hzz1, hyz1, pz1_0, pz1_1⟩ := hqs1
  rw [esz1]
  refine T.if_ne rfl rfl (by omega) (fun c1 => ?_) (fun c1 => ?_)
  · refine T.go 2 (fun n9 => (rfl : _ = exe ξ n9 (d + 8) j_M_hasEntry 12 [(0, .ref 137), (1, J x), (2, J y)] [J x, .ref 137] σ)) ?_
    obtain ⟨ok1, ok2⟩ := (pre0.keep (RG.refl (S := [2, 4])) (LG.refl (S := [2, 4])) (by decide)) (by omega)
    have mts := pre1 (by omega)
    refine T.callv (as := [J x]) (r := []) rfl rfl rfl rfl hM.ob rfl (s_M_fuse d x σ hM (by omega) (by omega) (by omega) (by omega) ok2 mts) (fun v2 s2 hqs2 => ?_)
    obtain ⟨rw_1, en_1, wy_1, wh_1, bi_1, ed_1, sz_1, md_1, bd_1, Lc_1, la_1, lk_1, lh_1, ld_1, rfl, ms2, fs2, pz2_0, pz2_1, pz2_2, pz2_3, pz2_4, pz2_5, pz2_6, pz2_7⟩ := hqs2
    have ns2 := ms2.len
    have rs2 := ms2.rg
    have rgs2 := (RG.refl (S := [2, 4])).trans pz2_0 (by decide)
    have lgs2 := (LG.refl (S := [2, 4])).trans pz2_1 (by decide)
    refine T.go 3 (fun n9 => (rfl : _ = exe ξ n9 (d + 8) j_M_hasEntry 18 [(0, .ref 137), (1, J x), (2, J y)] [.ref 137, J 0, J y] s2)) ?_
    refine T.get rfl rfl rfl ms2.ob rfl ?_
    refine T.go 1 (fun n9 => (rfl : _ = exe ξ n9 (d + 8) j_M_hasEntry 22 [(0, .ref 137), (1, J x), (2, J y)] [J 1, J en_1, J 0, J y] s2)) ?_
    refine T.isub rfl ?_
    refine T.calls (as := [J y, J 0, J (en_1 - 1)]) (r := []) rfl rfl (by decide) rfl rfl (s_M_in (d + 7) y 0 (en_1 - 1) s2 (by omega) (by omega) (by omega)) (fun v3 s3 hqs3 => ?_)
    obtain ⟨z3, rfl, esz3, hzz3, hyz3, pz3_0, pz3_1⟩ := hqs3
    rw [esz3]
    exact T.iretz rfl rfl (by omega) ⟨_, rw_1, en_1, wy_1, wh_1, bi_1, ed_1, sz_1, md_1, bd_1, Lc_1, la_1, lk_1, lh_1, ld_1, rfl, ms2, fs2, by omega, by omega, rgs2, lgs2, by omega, by omega, (fun _ => pz2_2), (fun h1 h2 q => by subst h1; have e8 := pz2_3 rfl; have e7 : NEf (gc Lc 1) (gl la 1) = W2 (gc Lc 1) (EN (gc Lc 1) (gl la 1) + 8) := rfl; omega), (fun h1 h2 => pz2_6 h2)⟩
  · refine T.go 1 (fun n9 => (rfl : _ = exe ξ n9 (d + 8) j_M_hasEntry 9 [(0, .ref 137), (1, J x), (2, J y)] [J 0] σ)) ?_
    exact T.iretz rfl rfl (by omega) ⟨_, rw, en, wy, wh, bi, ed, sz, md, bd, Lc, la, lk, lh, ld, rfl, hM, FM.refl, by omega, by omega, RG.refl, LG.refl, by omega, by omega, (fun q => by omega), (fun h1 h2 q => by omega), (fun h1 h2 => by exfalso; omega)⟩
