/-! The model: mount. -/
set_option maxHeartbeats 4000000 in
theorem s_M_fhasEntry {ξ : Nat → Option (Nat × List Int32)} {c io mo fa pl ns rw en wy wh bi ed sz md bd li wk we : Int} {Lc : List Int64} {la lm ln lh ld lk lt : List Int32} (d : Nat) (x : Int) (y : Int) (σ : qH) (hM : MS σ c io mo fa pl ns rw en wy wh bi ed sz md bd li wk we Lc la lm ln lh ld lk lt) (rx : -2147483648 ≤ x ∧ x ≤ 2147483647) (ry : -2147483648 ≤ y ∧ y ≤ 2147483647) (pre0 : OKM Lc la lm io mo) (pre1 : MTX io (gc Lc 1) (gl la 1) lm mo) : T ξ (d + 8) j_M_hasEntry 0 (lv_args 0 [.ref 137, J x, J y]) [] σ (fun v σ' => ∃ (z : Int) (rw1 : Int) (en1 : Int) (wy1 : Int) (wh1 : Int) (bi1 : Int) (ed1 : Int) (sz1 : Int) (md1 : Int) (bd1 : Int) (Lc1 : List Int64) (la1 : List Int32) (lk1 : List Int32) (lh1 : List Int32) (ld1 : List Int32), v = some (J z) ∧ MS σ' c io mo fa pl ns rw1 en1 wy1 wh1 bi1 ed1 sz1 md1 bd1 li wk we Lc1 la1 lm ln lh1 ld1 lk1 lt ∧ FM σ σ' ∧ 0 ≤ z ∧ z ≤ 1 ∧ RG [2, 4] Lc Lc1 ∧ LG [2, 4] la la1 ∧ (z = 1 → io = 1 ∧ 0 ≤ x ∧ x ≤ mo ∧ 0 ≤ y ∧ y < en1 ∧ 1 ≤ rw1 ∧ rw1 ≤ 2) ∧ (z = 1 → x = 0 → rw1 = 1 ∧ en1 = W2 (gc Lc 1) (EN (gc Lc 1) (gl la 1) + 8)) ∧ (z = 1 → HD (gc Lc1 rw1) lh1 ld1 en1) ∧ (x = 0 → z = 0 → ¬ (io = 1 ∧ 0 ≤ y ∧ y < NEf (gc Lc 1) (gl la 1))) ∧ (z = 1 → x = 0 → HDJ (gc Lc 1) (gl la 1) lh1 ld1 en1)) := by
  have r0 := hM.rg
  have n0 := hM.len
  refine T.go 2 (fun n9 => (rfl : _ = exe ξ n9 (d + 8) j_M_hasEntry 2 [(0, .ref 137), (1, J x), (2, J y)] [J x, .ref 137] σ)) ?_
  refine T.callv (as := [J x]) (r := []) rfl rfl rfl rfl hM.ob rfl (s_M_fisArchive (d + 6) x σ hM (by omega)) (fun v1 s1 hqs1 => ?_)
  obtain ⟨z1, rfl, esz1, hzz1, hyz1, pz1_0, pz1_1⟩ := hqs1
  rw [esz1]
  refine T.if_ne rfl rfl (by omega) (fun c1 => ?_) (fun c1 => ?_)
  · refine T.go 2 (fun n9 => (rfl : _ = exe ξ n9 (d + 8) j_M_hasEntry 12 [(0, .ref 137), (1, J x), (2, J y)] [J x, .ref 137] σ)) ?_
    obtain ⟨ok1, ok2⟩ := (pre0.keep (RG.refl (S := [2, 4])) (LG.refl (S := [2, 4])) (by decide)) (by omega)
    have mts := pre1 (by omega)
    refine T.callv (as := [J x]) (r := []) rfl rfl rfl rfl hM.ob rfl (s_M_fuse d x σ hM (by omega) (by omega) (by omega) (by omega) ok2 mts) (fun v2 s2 hqs2 => ?_)
    obtain ⟨rw_1, en_1, wy_1, wh_1, bi_1, ed_1, sz_1, md_1, bd_1, Lc_1, la_1, lk_1, lh_1, ld_1, rfl, ms2, fs2, pz2_0, pz2_1, pz2_2, pz2_3, pz2_4, pz2_5, pz2_6, pz2_7⟩ := hqs2
    have ns2 := ms2.len
    have rs2 := ms2.rg
    have rgs2 := (RG.refl (S := [2, 4])).trans pz2_0 (by decide)
    have lgs2 := (LG.refl (S := [2, 4])).trans pz2_1 (by decide)
    refine T.go 3 (fun n9 => (rfl : _ = exe ξ n9 (d + 8) j_M_hasEntry 18 [(0, .ref 137), (1, J x), (2, J y)] [.ref 137, J 0, J y] s2)) ?_
    refine T.get rfl rfl rfl ms2.ob rfl ?_
    refine T.go 1 (fun n9 => (rfl : _ = exe ξ n9 (d + 8) j_M_hasEntry 22 [(0, .ref 137), (1, J x), (2, J y)] [J 1, J en_1, J 0, J y] s2)) ?_
    refine T.isub rfl ?_
    refine T.calls (as := [J y, J 0, J (en_1 - 1)]) (r := []) rfl rfl (by decide) rfl rfl (s_M_in (d + 7) y 0 (en_1 - 1) s2 (by omega) (by omega) (by omega)) (fun v3 s3 hqs3 => ?_)
    obtain ⟨z3, rfl, esz3, hzz3, hyz3, pz3_0, pz3_1⟩ := hqs3
    rw [esz3]
    exact T.iretz rfl rfl (by omega) ⟨_, rw_1, en_1, wy_1, wh_1, bi_1, ed_1, sz_1, md_1, bd_1, Lc_1, la_1, lk_1, lh_1, ld_1, rfl, ms2, fs2, by omega, by omega, rgs2, lgs2, by omega, by omega, (fun _ => pz2_2), (fun h1 h2 q => by subst h1; have e8 := pz2_3 rfl; have e7 : NEf (gc Lc 1) (gl la 1) = W2 (gc Lc 1) (EN (gc Lc 1) (gl la 1) + 8) := rfl; omega), (fun h1 h2 => pz2_6 h2)⟩
  · refine T.go 1 (fun n9 => (rfl : _ = exe ξ n9 (d + 8) j_M_hasEntry 9 [(0, .ref 137), (1, J x), (2, J y)] [J 0] σ)) ?_
    exact T.iretz rfl rfl (by omega) ⟨_, rw, en, wy, wh, bi, ed, sz, md, bd, Lc, la, lk, lh, ld, rfl, hM, FM.refl, by omega, by omega, RG.refl, LG.refl, by omega, by omega, (fun q => by omega), (fun h1 h2 q => by omega), (fun h1 h2 => by exfalso; omega)⟩

set_option maxHeartbeats 4000000 in
theorem s_M_fmount {ξ : Nat → Option (Nat × List Int32)} {c io mo fa pl ns rw en wy wh bi ed sz md bd li wk we : Int} {Lc : List Int64} {la lm ln lh ld lk lt : List Int32} (d : Nat) (x : Int) (σ : qH) (hM : MS σ c io mo fa pl ns rw en wy wh bi ed sz md bd li wk we Lc la lm ln lh ld lk lt) (rx : -2147483648 ≤ x ∧ x ≤ 2147483647) (pre0 : OKM Lc la lm io mo) (pre1 : MTX io (gc Lc 1) (gl la 1) lm mo) : T ξ (d + 10) j_M_mount 0 (lv_args 0 [.ref 137, J x]) [] σ (fun v σ' => ∃ (z : Int) (c1 : Int) (rw1 : Int) (en1 : Int) (wy1 : Int) (wh1 : Int) (bi1 : Int) (ed1 : Int) (sz1 : Int) (md1 : Int) (bd1 : Int) (Lc1 : List Int64) (la1 : List Int32) (lk1 : List Int32) (lh1 : List Int32) (ld1 : List Int32) (fa1 : Int) (pl1 : Int) (mo1 : Int) (lm1 : List Int32), v = some (J z) ∧ MS σ' c1 io mo1 fa1 pl1 ns rw1 en1 wy1 wh1 bi1 ed1 sz1 md1 bd1 li wk we Lc1 la1 lm1 ln lh1 ld1 lk1 lt ∧ FM σ σ' ∧ -2147483648 ≤ z ∧ z ≤ 2147483647 ∧ OKM Lc1 la1 lm1 io mo1 ∧ gl la1 0 = gl la 0 ∧ gc Lc1 0 = gc Lc 0 ∧ gc Lc1 1 = gc Lc 1 ∧ gl la1 1 = gl la 1 ∧ (c1 = 0 → io = 1 ∧ 0 ≤ x ∧ x < NEf (gc Lc 1) (gl la 1) ∧ mo < 6 ∧ mo1 = mo + 1) ∧ (c1 = 0 → MOK (gc Lc 1) (gl la 1) x) ∧ (c1 = 0 → MSET lm lm1 mo x) ∧ (c1 ≠ 0 → mo1 = mo ∧ lm1 = lm) ∧ (c1 ≠ 0 → io = 1 → 0 ≤ x → x < NEf (gc Lc 1) (gl la 1) → mo < 6 → NMT (gc Lc 1) (gl la 1) x)) := by
  have r0 := hM.rg
  have n0 := hM.len
  refine T.go 4 (fun n9 => (rfl : _ = exe ξ n9 (d + 10) j_M_mount 4 [(0, .ref 137), (1, J x)] [J x, J 0, .ref 137, .ref 137] σ)) ?_
  refine T.callv (as := [J 0, J x]) (r := [.ref 137]) rfl rfl rfl rfl hM.ob rfl (s_M_fhasEntry (d + 1) 0 x σ hM (by omega) (by omega) (pre0.keep (RG.refl (S := [2, 4])) (LG.refl (S := [2, 4])) (by decide)) pre1) (fun v1 s1 hqs1 => ?_)
  obtain ⟨z1, rw_1, en_1, wy_1, wh_1, bi_1, ed_1, sz_1, md_1, bd_1, Lc_1, la_1, lk_1, lh_1, ld_1, rfl, ms1, fs1, hzz1, hyz1, pz1_0, pz1_1, pz1_2, pz1_3, pz1_4, pz1_5, pz1_6⟩ := hqs1
  have ns1 := ms1.len
  have rs1 := ms1.rg
  have rgs1 := (RG.refl (S := [2, 4])).trans pz1_0 (by decide)
  have lgs1 := (LG.refl (S := [2, 4])).trans pz1_1 (by decide)
  refine T.if_eq rfl rfl (by omega) (fun c1 => ?_) (fun c1 => ?_)
  · refine T.go 1 (fun n9 => (rfl : _ = exe ξ n9 (d + 10) j_M_mount 15 [(0, .ref 137), (1, J x)] [J 1, .ref 137] s1)) ?_
    refine T.mput (c' := 1) (io' := io) (mo' := mo) (fa' := fa) (pl' := pl) (ns' := ns) (rw' := rw_1) (en' := en_1) (wy' := wy_1) (wh' := wh_1) (bi' := bi_1) (ed' := ed_1) (sz' := sz_1) (md' := md_1) (bd' := bd_1) (li' := li) (wk' := wk) (we' := we) ms1 rfl rfl rfl rfl rfl rfl (by omega) (fun s2 ms2 fs2 => ?_)
    have gs2 := fs1.trans fs2
    refine T.go 1 (fun n9 => (rfl : _ = exe ξ n9 (d + 10) j_M_mount 19 [(0, .ref 137), (1, J x)] [.ref 137] s2)) ?_
    refine T.get rfl rfl rfl ms2.ob rfl ?_
    refine T.go 2 (fun n9 => (rfl : _ = exe ξ n9 (d + 10) j_M_mount 26 [(0, .ref 137), (1, J x)] [J 0] s2)) ?_
    exact T.ireti rfl rfl ⟨_, 1, rw_1, en_1, wy_1, wh_1, bi_1, ed_1, sz_1, md_1, bd_1, Lc_1, la_1, lk_1, lh_1, ld_1, fa, pl, mo, lm, rfl, ms2, gs2, by omega, by omega, (pre0.keep rgs1 lgs1 (by decide)), (lgs1 0 (by decide) (by decide)), (rgs1 0 (by decide) (by decide)), (rgs1 1 (by decide) (by decide)), (lgs1 1 (by decide) (by decide)), (fun h => absurd h (by omega)), (fun h => absurd h (by omega)), (fun h => absurd h (by omega)), (fun _ => ⟨rfl, rfl⟩), (fun h q1 q2 q3 q4 => by exfalso; have := pz1_5 rfl (by omega); omega)⟩
  · refine T.go 2 (fun n9 => (rfl : _ = exe ξ n9 (d + 10) j_M_mount 15 [(0, .ref 137), (1, J x)] [J 0, .ref 137] s1)) ?_
    refine T.mput (c' := 0) (io' := io) (mo' := mo) (fa' := fa) (pl' := pl) (ns' := ns) (rw' := rw_1) (en' := en_1) (wy' := wy_1) (wh' := wh_1) (bi' := bi_1) (ed' := ed_1) (sz' := sz_1) (md' := md_1) (bd' := bd_1) (li' := li) (wk' := wk) (we' := we) ms1 rfl rfl rfl rfl rfl rfl (by omega) (fun s3 ms3 fs3 => ?_)
    have gs3 := fs1.trans fs3
    refine T.go 1 (fun n9 => (rfl : _ = exe ξ n9 (d + 10) j_M_mount 19 [(0, .ref 137), (1, J x)] [.ref 137] s3)) ?_
    refine T.get rfl rfl rfl ms3.ob rfl ?_
    refine T.go 3 (fun n9 => (rfl : _ = exe ξ n9 (d + 10) j_M_mount 29 [(0, .ref 137), (1, J x)] [J x, .ref 137] s3)) ?_
    have hd := pz1_4 (by omega)
    have hx := hd x (by omega) (by omega)
    have hdj := pz1_6 (by omega) rfl x (by omega) (by omega)
    have rwe := (pz1_3 (by omega) rfl).1
    have ene := (pz1_3 (by omega) rfl).2
    have cg1 := rgs1 1 (by decide) (by decide)
    refine T.callv (as := [J x]) (r := []) rfl rfl rfl rfl ms3.ob rfl (s_M_fisNoMount (d + 2) x s3 ms3 (by omega) (by omega) (by omega) (by omega) (by omega) (by omega) (by omega)) (fun v2 s4 hqs4 => ?_)
    obtain ⟨z2, rw_2, en_2, wy_2, wh_2, bi_2, ed_2, sz_2, md_2, bd_2, Lc_2, la_2, lk_2, lh_2, ld_2, rfl, ms4, fs4, hzz2, hyz2, pz2_0, pz2_1, pz2_2, pz2_3⟩ := hqs4
    have ns4 := ms4.len
    have rs4 := ms4.rg
    have gs4 := gs3.trans fs4
    have rgs4 := rgs1.trans pz2_0 (by decide)
    have lgs4 := lgs1.trans pz2_1 (by decide)
    rw [rwe, cg1, hdj.1, hdj.2] at pz2_2 pz2_3
    have mok9 : z2 = 0 → MOK (gc Lc 1) (gl la 1) x := fun h => by obtain ⟨o, h1, h2, -⟩ := pz2_2 h; exact ⟨o, h1, h2⟩
    have nmt9 : z2 = 1 → NMT (gc Lc 1) (gl la 1) x := pz2_3
    refine T.if_eq rfl rfl (by omega) (fun c2 => ?_) (fun c2 => ?_)
    · refine T.go 1 (fun n9 => (rfl : _ = exe ξ n9 (d + 10) j_M_mount 42 [(0, .ref 137), (1, J x)] [.ref 137] s4)) ?_
      refine T.get rfl rfl rfl ms4.ob rfl ?_
      refine T.go 1 (fun n9 => (rfl : _ = exe ξ n9 (d + 10) j_M_mount 47 [(0, .ref 137), (1, J x)] [J 6, J mo] s4)) ?_
      refine T.icmp_ne rfl rfl (by omega) (by omega) (fun c3 => ?_) (fun c3 => ?_)
      · refine T.go 1 (fun n9 => (rfl : _ = exe ξ n9 (d + 10) j_M_mount 57 [(0, .ref 137), (1, J x)] [.ref 137] s4)) ?_
        refine T.get rfl rfl rfl ms4.ob rfl ?_
        refine T.go 1 (fun n9 => (rfl : _ = exe ξ n9 (d + 10) j_M_mount 61 [(0, .ref 137), (1, J x)] [.ref 137, .ref 140] s4)) ?_
        refine T.get rfl rfl rfl ms4.ob rfl ?_
        refine T.go 1 (fun n9 => (rfl : _ = exe ξ n9 (d + 10) j_M_mount 65 [(0, .ref 137), (1, J x)] [J x, J mo, .ref 140] s4)) ?_
        refine T.mast140 ms4 rfl (by omega) (by omega) (fun s5 ms5 fs5 => ?_)
        have ns5 := ms5.len
        have gs5 := gs4.trans fs5
        have gss5 : ∀ j : Int, 0 ≤ j → gl (lm.set (mo : Int).toNat (Int32.ofInt x)) j = if j = mo then x else gl lm j := fun j hj => gl_set ⟨by omega, by omega⟩ ⟨by omega, by omega⟩ hj
        have ges5 : gl (lm.set (mo : Int).toNat (Int32.ofInt x)) mo = x := (gss5 mo (by omega)).trans (if_pos rfl)
        have okk := pre0.keep rgs4 lgs4 (by decide)
        refine T.go 2 (fun n9 => (rfl : _ = exe ξ n9 (d + 10) j_M_mount 68 [(0, .ref 137), (1, J x)] [.ref 137, .ref 137] s5)) ?_
        refine T.get rfl rfl rfl ms5.ob rfl ?_
        refine T.go 1 (fun n9 => (rfl : _ = exe ξ n9 (d + 10) j_M_mount 72 [(0, .ref 137), (1, J x)] [J 1, J mo, .ref 137] s5)) ?_
        refine T.iadd rfl ?_
        refine T.mput (c' := 0) (io' := io) (mo' := mo + 1) (fa' := fa) (pl' := pl) (ns' := ns) (rw' := rw_2) (en' := en_2) (wy' := wy_2) (wh' := wh_2) (bi' := bi_2) (ed' := ed_2) (sz' := sz_2) (md' := md_2) (bd' := bd_2) (li' := li) (wk' := wk) (we' := we) ms5 rfl rfl rfl rfl rfl rfl (by omega) (fun s6 ms6 fs6 => ?_)
        have gs6 := gs5.trans fs6
        refine T.go 1 (fun n9 => (rfl : _ = exe ξ n9 (d + 10) j_M_mount 77 [(0, .ref 137), (1, J x)] [.ref 137] s6)) ?_
        refine T.get rfl rfl rfl ms6.ob rfl ?_
        exact T.ireti rfl rfl ⟨_, 0, rw_2, en_2, wy_2, wh_2, bi_2, ed_2, sz_2, md_2, bd_2, Lc_2, la_2, lk_2, lh_2, ld_2, fa, pl, (mo + 1), (lm.set (mo : Int).toNat (Int32.ofInt x)), rfl, ms6, gs6, by omega, by omega, (fun _ => ⟨(okk (by omega)).1, fun j a b => if q : j = mo then (by rw [q, ges5]; have e8 := pz1_3 (by omega) rfl; have c8 := rgs4 1 (by decide) (by decide); have l8 := lgs4 1 (by decide) (by decide); rw [c8, l8]; omega) else (by rw [(gss5 j a).trans (if_neg q)]; exact (okk (by omega)).2 j a (by omega))⟩), (lgs4 0 (by decide) (by decide)), (rgs4 0 (by decide) (by decide)), (rgs4 1 (by decide) (by decide)), (lgs4 1 (by decide) (by decide)), (fun _ => ⟨by omega, by omega, by have e7 : NEf (gc Lc 1) (gl la 1) = W2 (gc Lc 1) (EN (gc Lc 1) (gl la 1) + 8) := rfl; omega, by omega, by omega⟩), (fun _ => mok9 (by omega)), (fun _ => gss5), (fun h => absurd (by omega) h), (fun h => absurd (by omega) h)⟩
      · refine T.go 2 (fun n9 => (rfl : _ = exe ξ n9 (d + 10) j_M_mount 52 [(0, .ref 137), (1, J x)] [J 3, .ref 137] s4)) ?_
        refine T.callv (as := [J 3]) (r := []) rfl rfl rfl rfl ms4.ob rfl (s_M_frefuse (d + 9) 3 s4 ms4 (by omega)) (fun v3 s7 hqs7 => ?_)
        obtain ⟨z3, c_1, rfl, ms7, fs7, hzz3, hyz3, pz3_0⟩ := hqs7
        have ns7 := ms7.len
        have rs7 := ms7.rg
        have gs7 := gs4.trans fs7
        exact T.ireti rfl rfl ⟨_, c_1, rw_2, en_2, wy_2, wh_2, bi_2, ed_2, sz_2, md_2, bd_2, Lc_2, la_2, lk_2, lh_2, ld_2, fa, pl, mo, lm, rfl, ms7, gs7, by omega, by omega, (pre0.keep rgs4 lgs4 (by decide)), (lgs4 0 (by decide) (by decide)), (rgs4 0 (by decide) (by decide)), (rgs4 1 (by decide) (by decide)), (lgs4 1 (by decide) (by decide)), (fun h => absurd h (by omega)), (fun h => absurd h (by omega)), (fun h => absurd h (by omega)), (fun _ => ⟨rfl, rfl⟩), (fun h q1 q2 q3 q4 => by first | exact nmt9 (by omega) | (exfalso; omega))⟩
    · refine T.go 2 (fun n9 => (rfl : _ = exe ξ n9 (d + 10) j_M_mount 37 [(0, .ref 137), (1, J x)] [J 2, .ref 137] s4)) ?_
      refine T.callv (as := [J 2]) (r := []) rfl rfl rfl rfl ms4.ob rfl (s_M_frefuseFault (d + 8) 2 s4 ms4 (by omega)) (fun v4 s8 hqs8 => ?_)
      obtain ⟨z4, c_2, fa_1, pl_1, rfl, ms8, fs8, hzz4, hyz4, pz4_0⟩ := hqs8
      have ns8 := ms8.len
      have rs8 := ms8.rg
      have gs8 := gs4.trans fs8
      exact T.ireti rfl rfl ⟨_, c_2, rw_2, en_2, wy_2, wh_2, bi_2, ed_2, sz_2, md_2, bd_2, Lc_2, la_2, lk_2, lh_2, ld_2, fa_1, pl_1, mo, lm, rfl, ms8, gs8, by omega, by omega, (pre0.keep rgs4 lgs4 (by decide)), (lgs4 0 (by decide) (by decide)), (rgs4 0 (by decide) (by decide)), (rgs4 1 (by decide) (by decide)), (lgs4 1 (by decide) (by decide)), (fun h => absurd h (by omega)), (fun h => absurd h (by omega)), (fun h => absurd h (by omega)), (fun _ => ⟨rfl, rfl⟩), (fun h q1 q2 q3 q4 => by first | exact nmt9 (by omega) | (exfalso; omega))⟩
