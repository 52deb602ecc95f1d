/-! The model: archive x; which code is thrown. -/
theorem ARX_255 {g o : Int → Int} {f x fo : Int} {lm : List Int32} (hg : B255 g) (h0 : 0 ≤ x) (h : ARX g f lm x o fo) : B255 o := by
  by_cases q : x = 0
  · rw [(h.1 q).1]
    exact hg
  · exact B255_rd hg (h.2 (by omega)).1.1
theorem ARY_w {g r : Int → Int} {f x fr en y : Int} {lm lh ld : List Int32} (h : ARY g f lm x r fr lh ld en) (hg : B255 g) (h0 : 0 ≤ x) (hy : 0 ≤ y ∧ y < en) : ∃ (o : Int → Int) (fo : Int), ARX g f lm x o fo ∧ (0 ≤ y ∧ y < NEf o fo) ∧ (∀ k : Int, 0 ≤ k → k ≤ 42 → W4 r (gl lh y + k) = W4 o (Hj o fo y + k) ∧ W2 r (gl lh y + k) = W2 o (Hj o fo y + k)) ∧ ∀ i : Int, 0 ≤ i → i < W2 o (Hj o fo y + 28) → r (gl lh y + 46 + i) = o (Hj o fo y + 46 + i) := by
  obtain ⟨o, fo, a1, a2, a3, a4, a5, a6⟩ := h
  have ho := ARX_255 hg h0 a1
  have e := (a6 y hy.1 hy.2).1
  have b := (FO_ent ho a4).2 y hy.1 (by omega)
  have w := W2_r ho (Hj o fo y + 28)
  refine ⟨o, fo, a1, ⟨hy.1, by omega⟩, fun k k0 k1 => ?_, fun i i0 i1 => ?_⟩
  · rw [e]
    exact ⟨W4_c a3 (by omega) (by omega), W2_c a3 (by omega) (by omega)⟩
  · rw [e]
    exact a3 _ (by omega) (by omega)

set_option maxHeartbeats 4000000 in
theorem s_M_euse {ξ : Nat → Option (Nat × List Int32)} {c io mo fa pl ns rw en wy wh bi ed sz md bd li wk we : Int} {Lc : List Int64} {la lm ln lh ld lk lt : List Int32} (d : Nat) (x : Int) (σ : qH) (hM : MS σ c io mo fa pl ns rw en wy wh bi ed sz md bd li wk we Lc la lm ln lh ld lk lt) (rx : -2147483648 ≤ x ∧ x ≤ 2147483647) (pre0 : FOn (gc Lc 1) (gl la 1) = 1) (pre1 : 0 ≤ x) (pre2 : x ≤ mo) (pre3 : ∀ j : Int, 0 ≤ j → j < mo → gl lm j < W2 (gc Lc 1) (EN (gc Lc 1) (gl la 1) + 8)) (pre4 : MTS (gc Lc 1) (gl la 1) lm mo) : T ξ (d + 7) j_M_use 0 (lv_args 0 [.ref 137, J x]) [] σ (fun v σ' => ∃ (rw1 : Int) (en1 : Int) (wy1 : Int) (wh1 : Int) (bi1 : Int) (ed1 : Int) (sz1 : Int) (md1 : Int) (bd1 : Int) (Lc1 : List Int64) (la1 : List Int32) (lk1 : List Int32) (lh1 : List Int32) (ld1 : List Int32), v = none ∧ MS σ' c io mo fa pl ns rw1 en1 wy1 wh1 bi1 ed1 sz1 md1 bd1 li wk we Lc1 la1 lm ln lh1 ld1 lk1 lt ∧ FM σ σ' ∧ RG [2, 4] Lc Lc1 ∧ LG [2, 4] la la1 ∧ HD (gc Lc1 rw1) lh1 ld1 en1 ∧ (x = 0 → rw1 = 1 ∧ en1 = W2 (gc Lc 1) (EN (gc Lc 1) (gl la 1) + 8)) ∧ 1 ≤ rw1 ∧ rw1 ≤ 2 ∧ (x = 0 → HDJ (gc Lc 1) (gl la 1) lh1 ld1 en1) ∧ (1 ≤ x → ENx (gc Lc 1) (gl la 1) (gl lm (x - 1)) en1) ∧ ARY (gc Lc 1) (gl la 1) lm x (gc Lc1 rw1) (gl la1 rw1) lh1 ld1 en1) := by
  have r0 := hM.rg
  have n0 := hM.len
  refine T.go 2 (fun n9 => (rfl : _ = exe ξ n9 (d + 7) j_M_use 2 [(0, .ref 137), (1, J x)] [J 1, .ref 137] σ)) ?_
  refine T.callv (as := [J 1]) (r := []) rfl rfl rfl rfl hM.ob rfl (s_M_isFaulty d 1 σ hM (by omega) (by omega) (by omega)) (fun v1 s1 hqs1 => ?_)
  obtain ⟨z1, rw_1, en_1, wy_1, wh_1, lh_1, ld_1, rfl, ms1, fs1, hzz1, hyz1, pz1_0, pz1_1, pz1_2, pz1_3, pz1_4, pz1_5, pz1_6, pz1_7⟩ := hqs1
  have ns1 := ms1.len
  have rs1 := ms1.rg
  have hdz1 : HD (gc Lc rw_1) lh_1 ld_1 en_1 := by rw [pz1_3]; exact fun j a b => ⟨(pz1_5 j a b).1, (pz1_5 j a b).2, (pz1_4 j a b).1, (pz1_4 j a b).2⟩
  have hj1 : HDJ (gc Lc 1) (gl la 1) lh_1 ld_1 en_1 := fun j a b => ⟨pz1_6 j a b, pz1_7 j a b⟩
  refine T.go 2 (fun n9 => (rfl : _ = exe ξ n9 (d + 7) j_M_use 7 [(0, .ref 137), (1, J x), (2, J z1)] [J x] s1)) ?_
  refine T.if_ne rfl rfl (by omega) (fun c1 => ?_) (fun c1 => ?_)
  · refine T.go 2 (fun n9 => (rfl : _ = exe ξ n9 (d + 7) j_M_use 13 [(0, .ref 137), (1, J x), (2, J z1)] [.ref 137, .ref 137] s1)) ?_
    refine T.get rfl rfl rfl ms1.ob rfl ?_
    refine T.go 2 (fun n9 => (rfl : _ = exe ξ n9 (d + 7) j_M_use 18 [(0, .ref 137), (1, J x), (2, J z1)] [J 1, J x, .ref 140, .ref 137] s1)) ?_
    refine T.isub rfl ?_
    refine T.iald rfl rfl ms1.c140 (by omega) (fun z2 hzz2 hyz2 hez2 => ?_)
    have hbz2 := ms1.b140.at hez2 ⟨hzz2, hyz2⟩
    have gzz2 := gl_of hez2 ⟨hzz2, hyz2⟩
    subst gzz2
    have hj := pre3 (x - 1) (by omega) (by omega)
    have hx := hdz1 (gl lm (x - 1)) (by omega) (by omega)
    refine T.callv (as := [J (gl lm (x - 1))]) (r := []) rfl rfl rfl rfl ms1.ob rfl (s_M_fisUnread d (gl lm (x - 1)) s1 ms1 (by omega) (by omega) (by omega) (by omega) (by omega) (by omega) (by omega)) (fun v2 s2 hqs2 => ?_)
    obtain ⟨z3, wy_2, wh_2, bi_1, ed_1, sz_1, md_1, bd_1, Lc_1, la_1, lk_1, rfl, ms2, fs2, hzz3, hyz3, pz3_0, pz3_1, pz3_2, pz3_3⟩ := hqs2
    have ns2 := ms2.len
    have rs2 := ms2.rg
    have gs2 := fs1.trans fs2
    have rgs2 := (RG.refl (S := [2, 4])).trans pz3_0 (by decide)
    have lgs2 := (LG.refl (S := [2, 4])).trans pz3_1 (by decide)
    refine T.go 4 (fun n9 => (rfl : _ = exe ξ n9 (d + 7) j_M_use 27 [(0, .ref 137), (1, J x), (2, J z3)] [J 2, J 4, .ref 137] s2)) ?_
    refine T.callv (as := [J 4, J 2]) (r := []) rfl rfl rfl rfl ms2.ob rfl (s_M_copyRow (d + 6) 4 2 s2 ms2 (by omega) (by omega) (by omega) (by omega) (by omega) (by omega) (by omega)) (fun v3 s3 hqs3 => ?_)
    obtain ⟨Lc_2, la_2, rfl, ms3, fs3, pz4_0, pz4_1, pz4_2, pz4_3⟩ := hqs3
    have ns3 := ms3.len
    have rs3 := ms3.rg
    have gs3 := gs2.trans fs3
    have rgs3 := rgs2.trans pz4_0 (by decide)
    have lgs3 := lgs2.trans pz4_1 (by decide)
    refine T.go 2 (fun n9 => (rfl : _ = exe ξ n9 (d + 7) j_M_use 32 [(0, .ref 137), (1, J x), (2, J z3)] [J 2, .ref 137] s3)) ?_
    refine T.callv (as := [J 2]) (r := []) rfl rfl rfl rfl ms3.ob rfl (s_M_isFaulty d 2 s3 ms3 (by omega) (by omega) (by omega)) (fun v4 s4 hqs4 => ?_)
    obtain ⟨z5, rw_2, en_2, wy_3, wh_3, lh_2, ld_2, rfl, ms4, fs4, hzz5, hyz5, pz5_0, pz5_1, pz5_2, pz5_3, pz5_4, pz5_5, pz5_6, pz5_7⟩ := hqs4
    have ns4 := ms4.len
    have rs4 := ms4.rg
    have gs4 := gs3.trans fs4
    have hdz5 : HD (gc Lc_2 rw_2) lh_2 ld_2 en_2 := by rw [pz5_3]; exact fun j a b => ⟨(pz5_5 j a b).1, (pz5_5 j a b).2, (pz5_4 j a b).1, (pz5_4 j a b).2⟩
    obtain ⟨oq, mq1, mq2⟩ := pre4 (x - 1) (by omega) (by omega)
    have hjy := hj1 (gl lm (x - 1)) (by omega) (by omega)
    rw [← hjy.1, ← hjy.2] at mq1
    rw [← hjy.1] at mq2
    have rwe := pz1_3
    subst rwe
    have zu9 : z3 = 0 := by rcases (by omega : z3 = 0 ∨ z3 = 1) with h | h; (· exact h); (exact absurd mq1 (pz3_3 h oq))
    have ru := pz3_2 zu9
    have q0 := pz5_0
    have q1 := pz5_1
    rw [pz4_2, pz4_3, ru.2.2, ← ru.2.1] at q0 q1
    have e9 := RD_one ru.1 mq1
    rw [← e9, ← ru.2.1] at mq2
    have fo := nm_fo (Lc := Lc_1) (m := md_1)
    have fo2 := fo.2 mq2
    have fo1 := fo.1 fo2
    have enx : ENx (gc Lc 1) (gl la 1) (gl lm (x - 1)) en_2 := ⟨_, ⟨by rw [← hjy.1, ← hjy.2]; exact ru.1, by rw [← hjy.1, ← ru.2.1]; exact fo1.1⟩, by rw [← hjy.1, ← ru.2.1]; exact (q1 (by omega)).trans fo1.2.symm⟩
    have q1e := q1 (by omega)
    have hdj9 : HDJ (nm Lc_1 md_1) md_1 lh_2 ld_2 en_2 := fun j a b => by
      have k6 := pz5_6 j a b
      have k7 := pz5_7 j a b
      rw [pz4_2, pz4_3, ru.2.2, ← ru.2.1] at k6 k7
      have hc := Hj_c (g := gc Lc_1 4) (g' := nm Lc_1 md_1) (f := md_1) (fun k a b => (nm_at ⟨a, b⟩).symm) (gc_r Lc_1 4) fo2 a (by unfold NEf; omega)
      exact ⟨k6.trans hc.1.symm, k7.trans hc.2.symm⟩
    have ary : ARY (gc Lc 1) (gl la 1) lm x (gc Lc_2 rw_2) (gl la_2 rw_2) lh_2 ld_2 en_2 := ⟨nm Lc_1 md_1, md_1, ⟨fun h => absurd h (by omega), fun _ => ⟨⟨by rw [← hjy.1, ← hjy.2]; exact ru.1, by rw [← hjy.1, ← ru.2.1]; exact fo1.1⟩, by rw [← hjy.1]; exact ru.2.1⟩⟩, by rw [pz5_3, pz4_3, ru.2.2, ru.2.1], fun k a b => by rw [pz5_3, pz4_2]; exact (nm_at ⟨a, b⟩).symm, fo1.1, q1e.trans fo1.2.symm, hdj9⟩
    refine T.go 1 (fun n9 => (rfl : _ = exe ξ n9 (d + 7) j_M_use 36 [(0, .ref 137), (1, J x), (2, J z5)] [] s4)) ?_
    exact T.vret rfl rfl ⟨rw_2, en_2, wy_3, wh_3, bi_1, ed_1, sz_1, md_1, bd_1, Lc_2, la_2, lk_1, lh_2, ld_2, rfl, ms4, gs4, rgs3, lgs3, hdz5, by omega, by omega, by omega, (fun h => absurd h (by omega)), (fun _ => enx), ary⟩
  · exact T.vret rfl rfl ⟨rw_1, en_1, wy_1, wh_1, bi, ed, sz, md, bd, Lc, la, lk, lh_1, ld_1, rfl, ms1, fs1, RG.refl, LG.refl, hdz1, by omega, by omega, by omega, (fun _ => hj1), (fun h => absurd h (by omega)), ⟨gc Lc 1, gl la 1, ⟨fun _ => ⟨rfl, rfl⟩, fun h => absurd h (by omega)⟩, by rw [pz1_3], fun k a b => by rw [pz1_3], pre0, pz1_1 (by omega), hj1⟩⟩

set_option maxHeartbeats 4000000 in
theorem s_M_ehasEntry {ξ : Nat → Option (Nat × List Int32)} {c io mo fa pl ns rw en wy wh bi ed sz md bd li wk we : Int} {Lc : List Int64} {la lm ln lh ld lk lt : List Int32} (d : Nat) (x : Int) (y : Int) (σ : qH) (hM : MS σ c io mo fa pl ns rw en wy wh bi ed sz md bd li wk we Lc la lm ln lh ld lk lt) (rx : -2147483648 ≤ x ∧ x ≤ 2147483647) (ry : -2147483648 ≤ y ∧ y ≤ 2147483647) (pre0 : OKM Lc la lm io mo) (pre1 : MTX io (gc Lc 1) (gl la 1) lm mo) : T ξ (d + 8) j_M_hasEntry 0 (lv_args 0 [.ref 137, J x, J y]) [] σ (fun v σ' => ∃ (z : Int) (rw1 : Int) (en1 : Int) (wy1 : Int) (wh1 : Int) (bi1 : Int) (ed1 : Int) (sz1 : Int) (md1 : Int) (bd1 : Int) (Lc1 : List Int64) (la1 : List Int32) (lk1 : List Int32) (lh1 : List Int32) (ld1 : List Int32), v = some (J z) ∧ MS σ' c io mo fa pl ns rw1 en1 wy1 wh1 bi1 ed1 sz1 md1 bd1 li wk we Lc1 la1 lm ln lh1 ld1 lk1 lt ∧ FM σ σ' ∧ 0 ≤ z ∧ z ≤ 1 ∧ RG [2, 4] Lc Lc1 ∧ LG [2, 4] la la1 ∧ (z = 1 → io = 1 ∧ 0 ≤ x ∧ x ≤ mo ∧ 0 ≤ y ∧ y < en1 ∧ 1 ≤ rw1 ∧ rw1 ≤ 2) ∧ (z = 1 → x = 0 → rw1 = 1 ∧ en1 = W2 (gc Lc 1) (EN (gc Lc 1) (gl la 1) + 8)) ∧ (z = 1 → HD (gc Lc1 rw1) lh1 ld1 en1) ∧ (x = 0 → z = 0 → ¬ (io = 1 ∧ 0 ≤ y ∧ y < NEf (gc Lc 1) (gl la 1))) ∧ (z = 1 → x = 0 → HDJ (gc Lc 1) (gl la 1) lh1 ld1 en1) ∧ (z = 1 → ARY (gc Lc 1) (gl la 1) lm x (gc Lc1 rw1) (gl la1 rw1) lh1 ld1 en1) ∧ (z = 0 → NHE (gc Lc 1) (gl la 1) lm io mo x y)) := by
  have r0 := hM.rg
  have n0 := hM.len
  refine T.go 2 (fun n9 => (rfl : _ = exe ξ n9 (d + 8) j_M_hasEntry 2 [(0, .ref 137), (1, J x), (2, J y)] [J x, .ref 137] σ)) ?_
  refine T.callv (as := [J x]) (r := []) rfl rfl rfl rfl hM.ob rfl (s_M_fisArchive (d + 6) x σ hM (by omega)) (fun v1 s1 hqs1 => ?_)
  obtain ⟨z1, rfl, esz1, hzz1, hyz1, pz1_0, pz1_1⟩ := hqs1
  rw [esz1]
  refine T.if_ne rfl rfl (by omega) (fun c1 => ?_) (fun c1 => ?_)
  · refine T.go 2 (fun n9 => (rfl : _ = exe ξ n9 (d + 8) j_M_hasEntry 12 [(0, .ref 137), (1, J x), (2, J y)] [J x, .ref 137] σ)) ?_
    obtain ⟨ok1, ok2⟩ := (pre0.keep (RG.refl (S := [2, 4])) (LG.refl (S := [2, 4])) (by decide)) (by omega)
    have mts := pre1 (by omega)
    refine T.callv (as := [J x]) (r := []) rfl rfl rfl rfl hM.ob rfl (s_M_euse d x σ hM (by omega) (by omega) (by omega) (by omega) ok2 mts) (fun v2 s2 hqs2 => ?_)
    obtain ⟨rw_1, en_1, wy_1, wh_1, bi_1, ed_1, sz_1, md_1, bd_1, Lc_1, la_1, lk_1, lh_1, ld_1, rfl, ms2, fs2, pz2_0, pz2_1, pz2_2, pz2_3, pz2_4, pz2_5, pz2_6, pz2_7, pz2_8⟩ := hqs2
    have ns2 := ms2.len
    have rs2 := ms2.rg
    have rgs2 := (RG.refl (S := [2, 4])).trans pz2_0 (by decide)
    have lgs2 := (LG.refl (S := [2, 4])).trans pz2_1 (by decide)
    refine T.go 3 (fun n9 => (rfl : _ = exe ξ n9 (d + 8) j_M_hasEntry 18 [(0, .ref 137), (1, J x), (2, J y)] [.ref 137, J 0, J y] s2)) ?_
    refine T.get rfl rfl rfl ms2.ob rfl ?_
    refine T.go 1 (fun n9 => (rfl : _ = exe ξ n9 (d + 8) j_M_hasEntry 22 [(0, .ref 137), (1, J x), (2, J y)] [J 1, J en_1, J 0, J y] s2)) ?_
    refine T.isub rfl ?_
    refine T.calls (as := [J y, J 0, J (en_1 - 1)]) (r := []) rfl rfl (by decide) rfl rfl (s_M_in (d + 7) y 0 (en_1 - 1) s2 (by omega) (by omega) (by omega)) (fun v3 s3 hqs3 => ?_)
    obtain ⟨z3, rfl, esz3, hzz3, hyz3, pz3_0, pz3_1⟩ := hqs3
    rw [esz3]
    exact T.iretz rfl rfl (by omega) ⟨_, rw_1, en_1, wy_1, wh_1, bi_1, ed_1, sz_1, md_1, bd_1, Lc_1, la_1, lk_1, lh_1, ld_1, rfl, ms2, fs2, by omega, by omega, rgs2, lgs2, by omega, by omega, (fun _ => pz2_2), (fun h1 h2 q => by subst h1; have e8 := pz2_3 rfl; have e7 : NEf (gc Lc 1) (gl la 1) = W2 (gc Lc 1) (EN (gc Lc 1) (gl la 1) + 8) := rfl; omega), (fun h1 h2 => pz2_6 h2), (fun _ => pz2_8), (fun h q1 q2 q3 => by obtain ⟨o, fo, a1, -, -, -, a5, -⟩ := pz2_8; exact ⟨o, fo, a1, by omega⟩)⟩
  · refine T.go 1 (fun n9 => (rfl : _ = exe ξ n9 (d + 8) j_M_hasEntry 9 [(0, .ref 137), (1, J x), (2, J y)] [J 0] σ)) ?_
    exact T.iretz rfl rfl (by omega) ⟨_, rw, en, wy, wh, bi, ed, sz, md, bd, Lc, la, lk, lh, ld, rfl, hM, FM.refl, by omega, by omega, RG.refl, LG.refl, by omega, by omega, (fun q => by omega), (fun h1 h2 q => by omega), (fun h1 h2 => by exfalso; omega), (fun q => absurd q (by omega)), (fun h q1 q2 q3 => by exfalso; omega)⟩
