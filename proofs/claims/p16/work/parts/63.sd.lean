/-! The model: archive x; which code is thrown. -/
theorem ARX_255 {g o : Int → Int} {f x fo : Int} {lm : List Int32} (hg : B255 g) (h0 : 0 ≤ x) (h : ARX g f lm x o fo) : B255 o := by
  by_cases q : x = 0
  · rw [(h.1 q).1]
    exact hg
  · exact B255_rd hg (h.2 (by omega)).1.1
theorem ARY_w {g r : Int → Int} {f x fr en y : Int} {lm lh ld : List Int32} (h : ARY g f lm x r fr lh ld en) (hg : B255 g) (h0 : 0 ≤ x) (hy : 0 ≤ y ∧ y < en) : ∃ (o : Int → Int) (fo : Int), ARX g f lm x o fo ∧ (0 ≤ y ∧ y < NEf o fo) ∧ (∀ k : Int, 0 ≤ k → k ≤ 42 → W4 r (gl lh y + k) = W4 o (Hj o fo y + k) ∧ W2 r (gl lh y + k) = W2 o (Hj o fo y + k)) ∧ ∀ i : Int, 0 ≤ i → i < W2 o (Hj o fo y + 28) → r (gl lh y + 46 + i) = o (Hj o fo y + 46 + i) := by
  obtain ⟨o, fo, a1, a2, a3, a4, a5, a6⟩ := h
  have ho := ARX_255 hg h0 a1
  have e := (a6 y hy.1 hy.2).1
  have b := (FO_ent ho a4).2 y hy.1 (by omega)
  have w := W2_r ho (Hj o fo y + 28)
  refine ⟨o, fo, a1, ⟨hy.1, by omega⟩, fun k k0 k1 => ?_, fun i i0 i1 => ?_⟩
  · rw [e]
    exact ⟨W4_c a3 (by omega) (by omega), W2_c a3 (by omega) (by omega)⟩
  · rw [e]
    exact a3 _ (by omega) (by omega)

set_option maxHeartbeats 4000000 in
theorem s_M_euse {ξ : Nat → Option (Nat × List Int32)} {c io mo fa pl ns rw en wy wh bi ed sz md bd li wk we : Int} {Lc : List Int64} {la lm ln lh ld lk lt : List Int32} (d : Nat) (x : Int) (σ : qH) (hM : MS σ c io mo fa pl ns rw en wy wh bi ed sz md bd li wk we Lc la lm ln lh ld lk lt) (rx : -2147483648 ≤ x ∧ x ≤ 2147483647) (pre0 : FOn (gc Lc 1) (gl la 1) = 1) (pre1 : 0 ≤ x) (pre2 : x ≤ mo) (pre3 : ∀ j : Int, 0 ≤ j → j < mo → gl lm j < W2 (gc Lc 1) (EN (gc Lc 1) (gl la 1) + 8)) (pre4 : MTS (gc Lc 1) (gl la 1) lm mo) : T ξ (d + 7) j_M_use 0 (lv_args 0 [.ref 137, J x]) [] σ (fun v σ' => ∃ (rw1 : Int) (en1 : Int) (wy1 : Int) (wh1 : Int) (bi1 : Int) (ed1 : Int) (sz1 : Int) (md1 : Int) (bd1 : Int) (Lc1 : List Int64) (la1 : List Int32) (lk1 : List Int32) (lh1 : List Int32) (ld1 : List Int32), v = none ∧ MS σ' c io mo fa pl ns rw1 en1 wy1 wh1 bi1 ed1 sz1 md1 bd1 li wk we Lc1 la1 lm ln lh1 ld1 lk1 lt ∧ FM σ σ' ∧ RG [2, 4] Lc Lc1 ∧ LG [2, 4] la la1 ∧ HD (gc Lc1 rw1) lh1 ld1 en1 ∧ (x = 0 → rw1 = 1 ∧ en1 = W2 (gc Lc 1) (EN (gc Lc 1) (gl la 1) + 8)) ∧ 1 ≤ rw1 ∧ rw1 ≤ 2 ∧ (x = 0 → HDJ (gc Lc 1) (gl la 1) lh1 ld1 en1) ∧ (1 ≤ x → ENx (gc Lc 1) (gl la 1) (gl lm (x - 1)) en1) ∧ ARY (gc Lc 1) (gl la 1) lm x (gc Lc1 rw1) (gl la1 rw1) lh1 ld1 en1) := by
  have r0 := hM.rg
  have n0 := hM.len
  refine T.go 2 (fun n9 => (rfl : _ = exe ξ n9 (d + 7) j_M_use 2 [(0, .ref 137), (1, J x)] [J 1, .ref 137] σ)) ?_
  refine T.callv (as := [J 1]) (r := []) rfl rfl rfl rfl hM.ob rfl (s_M_isFaulty d 1 σ hM (by omega) (by omega) (by omega)) (fun v1 s1 hqs1 => ?_)
  obtain ⟨z1, rw_1, en_1, wy_1, wh_1, lh_1, ld_1, rfl, ms1, fs1, hzz1, hyz1, pz1_0, pz1_1, pz1_2, pz1_3, pz1_4, pz1_5, pz1_6, pz1_7⟩ := hqs1
  have ns1 := ms1.len
  have rs1 := ms1.rg
  have hdz1 : HD (gc Lc rw_1) lh_1 ld_1 en_1 := by rw [pz1_3]; exact fun j a b => ⟨(pz1_5 j a b).1, (pz1_5 j a b).2, (pz1_4 j a b).1, (pz1_4 j a b).2⟩
  have hj1 : HDJ (gc Lc 1) (gl la 1) lh_1 ld_1 en_1 := fun j a b => ⟨pz1_6 j a b, pz1_7 j a b⟩
  refine T.go 2 (fun n9 => (rfl : _ = exe ξ n9 (d + 7) j_M_use 7 [(0, .ref 137), (1, J x), (2, J z1)] [J x] s1)) ?_
  refine T.if_ne rfl rfl (by omega) (fun c1 => ?_) (fun c1 => ?_)
  · refine T.go 2 (fun n9 => (rfl : _ = exe ξ n9 (d + 7) j_M_use 13 [(0, .ref 137), (1, J x), (2, J z1)] [.ref 137, .ref 137] s1)) ?_
    refine T.get rfl rfl rfl ms1.ob rfl ?_
    refine T.go 2 (fun n9 => (rfl : _ = exe ξ n9 (d + 7) j_M_use 18 [(0, .ref 137), (1, J x), (2, J z1)] [J 1, J x, .ref 140, .ref 137] s1)) ?_
    refine T.isub rfl ?_
    refine T.iald rfl rfl ms1.c140 (by omega) (fun z2 hzz2 hyz2 hez2 => ?_)
    have hbz2 := ms1.b140.at hez2 ⟨hzz2, hyz2⟩
    have gzz2 := gl_of hez2 ⟨hzz2, hyz2⟩
    subst gzz2
    have hj := pre3 (x - 1) (by omega) (by omega)
    have hx := hdz1 (gl lm (x - 1)) (by omega) (by omega)
    refine T.callv (as := [J (gl lm (x - 1))]) (r := []) rfl rfl rfl rfl ms1.ob rfl (s_M_fisUnread d (gl lm (x - 1)) s1 ms1 (by omega) (by omega) (by omega) (by omega) (by omega) (by omega) (by omega)) (fun v2 s2 hqs2 => ?_)
    obtain ⟨z3, wy_2, wh_2, bi_1, ed_1, sz_1, md_1, bd_1, Lc_1, la_1, lk_1, rfl, ms2, fs2, hzz3, hyz3, pz3_0, pz3_1, pz3_2, pz3_3⟩ := hqs2
    have ns2 := ms2.len
    have rs2 := ms2.rg
    have gs2 := fs1.trans fs2
    have rgs2 := (RG.refl (S := [2, 4])).trans pz3_0 (by decide)
    have lgs2 := (LG.refl (S := [2, 4])).trans pz3_1 (by decide)
    refine T.go 4 (fun n9 => (rfl : _ = exe ξ n9 (d + 7) j_M_use 27 [(0, .ref 137), (1, J x), (2, J z3)] [J 2, J 4, .ref 137] s2)) ?_
    refine T.callv (as := [J 4, J 2]) (r := []) rfl rfl rfl rfl ms2.ob rfl (s_M_copyRow (d + 6) 4 2 s2 ms2 (by omega) (by omega) (by omega) (by omega) (by omega) (by omega) (by omega)) (fun v3 s3 hqs3 => ?_)
    obtain ⟨Lc_2, la_2, rfl, ms3, fs3, pz4_0, pz4_1, pz4_2, pz4_3⟩ := hqs3
    have ns3 := ms3.len
    have rs3 := ms3.rg
    have gs3 := gs2.trans fs3
    have rgs3 := rgs2.trans pz4_0 (by decide)
    have lgs3 := lgs2.trans pz4_1 (by decide)
    refine T.go 2 (fun n9 => (rfl : _ = exe ξ n9 (d + 7) j_M_use 32 [(0, .ref 137), (1, J x), (2, J z3)] [J 2, .ref 137] s3)) ?_
    refine T.callv (as := [J 2]) (r := []) rfl rfl rfl rfl ms3.ob rfl (s_M_isFaulty d 2 s3 ms3 (by omega) (by omega) (by omega)) (fun v4 s4 hqs4 => ?_)
    obtain ⟨z5, rw_2, en_2, wy_3, wh_3, lh_2, ld_2, rfl, ms4, fs4, hzz5, hyz5, pz5_0, pz5_1, pz5_2, pz5_3, pz5_4, pz5_5, pz5_6, pz5_7⟩ := hqs4
    have ns4 := ms4.len
    have rs4 := ms4.rg
    have gs4 := gs3.trans fs4
    have hdz5 : HD (gc Lc_2 rw_2) lh_2 ld_2 en_2 := by rw [pz5_3]; exact fun j a b => ⟨(pz5_5 j a b).1, (pz5_5 j a b).2, (pz5_4 j a b).1, (pz5_4 j a b).2⟩
    obtain ⟨oq, mq1, mq2⟩ := pre4 (x - 1) (by omega) (by omega)
    have hjy := hj1 (gl lm (x - 1)) (by omega) (by omega)
    rw [← hjy.1, ← hjy.2] at mq1
    rw [← hjy.1] at mq2
    have rwe := pz1_3
    subst rwe
    have zu9 : z3 = 0 := by rcases (by omega : z3 = 0 ∨ z3 = 1) with h | h; (· exact h); (exact absurd mq1 (pz3_3 h oq))
    have ru := pz3_2 zu9
    have q0 := pz5_0
    have q1 := pz5_1
    rw [pz4_2, pz4_3, ru.2.2, ← ru.2.1] at q0 q1
    have e9 := RD_one ru.1 mq1
    rw [← e9, ← ru.2.1] at mq2
    have fo := nm_fo (Lc := Lc_1) (m := md_1)
    have fo2 := fo.2 mq2
    have fo1 := fo.1 fo2
    have enx : ENx (gc Lc 1) (gl la 1) (gl lm (x - 1)) en_2 := ⟨_, ⟨by rw [← hjy.1, ← hjy.2]; exact ru.1, by rw [← hjy.1, ← ru.2.1]; exact fo1.1⟩, by rw [← hjy.1, ← ru.2.1]; exact (q1 (by omega)).trans fo1.2.symm⟩
    have q1e := q1 (by omega)
    have hdj9 : HDJ (nm Lc_1 md_1) md_1 lh_2 ld_2 en_2 := fun j a b => by
      have k6 := pz5_6 j a b
      have k7 := pz5_7 j a b
      rw [pz4_2, pz4_3, ru.2.2, ← ru.2.1] at k6 k7
      have hc := Hj_c (g := gc Lc_1 4) (g' := nm Lc_1 md_1) (f := md_1) (fun k a b => (nm_at ⟨a, b⟩).symm) (gc_r Lc_1 4) fo2 a (by unfold NEf; omega)
      exact ⟨k6.trans hc.1.symm, k7.trans hc.2.symm⟩
    have ary : ARY (gc Lc 1) (gl la 1) lm x (gc Lc_2 rw_2) (gl la_2 rw_2) lh_2 ld_2 en_2 := ⟨nm Lc_1 md_1, md_1, ⟨fun h => absurd h (by omega), fun _ => ⟨⟨by rw [← hjy.1, ← hjy.2]; exact ru.1, by rw [← hjy.1, ← ru.2.1]; exact fo1.1⟩, by rw [← hjy.1]; exact ru.2.1⟩⟩, by rw [pz5_3, pz4_3, ru.2.2, ru.2.1], fun k a b => by rw [pz5_3, pz4_2]; exact (nm_at ⟨a, b⟩).symm, fo1.1, q1e.trans fo1.2.symm, hdj9⟩
    refine T.go 1 (fun n9 => (rfl : _ = exe ξ n9 (d + 7) j_M_use 36 [(0, .ref 137), (1, J x), (2, J z5)] [] s4)) ?_
    exact T.vret rfl rfl ⟨rw_2, en_2, wy_3, wh_3, bi_1, ed_1, sz_1, md_1, bd_1, Lc_2, la_2, lk_1, lh_2, ld_2, rfl, ms4, gs4, rgs3, lgs3, hdz5, by omega, by omega, by omega, (fun h => absurd h (by omega)), (fun _ => enx), ary⟩
  · exact T.vret rfl rfl ⟨rw_1, en_1, wy_1, wh_1, bi, ed, sz, md, bd, Lc, la, lk, lh_1, ld_1, rfl, ms1, fs1, RG.refl, LG.refl, hdz1, by omega, by omega, by omega, (fun _ => hj1), (fun h => absurd h (by omega)), ⟨gc Lc 1, gl la 1, ⟨fun _ => ⟨rfl, rfl⟩, fun h => absurd h (by omega)⟩, by rw [pz1_3], fun k a b => by rw [pz1_3], pre0, pz1_1 (by omega), hj1⟩⟩

set_option maxHeartbeats 4000000 in
theorem s_M_ehasEntry {ξ : Nat → Option (Nat × List Int32)} {c io mo fa pl ns rw en wy wh bi ed sz md bd li wk we : Int} {Lc : List Int64} {la lm ln lh ld lk lt : List Int32} (d : Nat) (x : Int) (y : Int) (σ : qH) (hM : MS σ c io mo fa pl ns rw en wy wh bi ed sz md bd li wk we Lc la lm ln lh ld lk lt) (rx : -2147483648 ≤ x ∧ x ≤ 2147483647) (ry : -2147483648 ≤ y ∧ y ≤ 2147483647) (pre0 : OKM Lc la lm io mo) (pre1 : MTX io (gc Lc 1) (gl la 1) lm mo) : T ξ (d + 8) j_M_hasEntry 0 (lv_args 0 [.ref 137, J x, J y]) [] σ (fun v σ' => ∃ (z : Int) (rw1 : Int) (en1 : Int) (wy1 : Int) (wh1 : Int) (bi1 : Int) (ed1 : Int) (sz1 : Int) (md1 : Int) (bd1 : Int) (Lc1 : List Int64) (la1 : List Int32) (lk1 : List Int32) (lh1 : List Int32) (ld1 : List Int32), v = some (J z) ∧ MS σ' c io mo fa pl ns rw1 en1 wy1 wh1 bi1 ed1 sz1 md1 bd1 li wk we Lc1 la1 lm ln lh1 ld1 lk1 lt ∧ FM σ σ' ∧ 0 ≤ z ∧ z ≤ 1 ∧ RG [2, 4] Lc Lc1 ∧ LG [2, 4] la la1 ∧ (z = 1 → io = 1 ∧ 0 ≤ x ∧ x ≤ mo ∧ 0 ≤ y ∧ y < en1 ∧ 1 ≤ rw1 ∧ rw1 ≤ 2) ∧ (z = 1 → x = 0 → rw1 = 1 ∧ en1 = W2 (gc Lc 1) (EN (gc Lc 1) (gl la 1) + 8)) ∧ (z = 1 → HD (gc Lc1 rw1) lh1 ld1 en1) ∧ (x = 0 → z = 0 → ¬ (io = 1 ∧ 0 ≤ y ∧ y < NEf (gc Lc 1) (gl la 1))) ∧ (z = 1 → x = 0 → HDJ (gc Lc 1) (gl la 1) lh1 ld1 en1) ∧ (z = 1 → ARY (gc Lc 1) (gl la 1) lm x (gc Lc1 rw1) (gl la1 rw1) lh1 ld1 en1) ∧ (z = 0 → NHE (gc Lc 1) (gl la 1) lm io mo x y)) := by
  have r0 := hM.rg
  have n0 := hM.len
  refine T.go 2 (fun n9 => (rfl : _ = exe ξ n9 (d + 8) j_M_hasEntry 2 [(0, .ref 137), (1, J x), (2, J y)] [J x, .ref 137] σ)) ?_
  refine T.callv (as := [J x]) (r := []) rfl rfl rfl rfl hM.ob rfl (s_M_fisArchive (d + 6) x σ hM (by omega)) (fun v1 s1 hqs1 => ?_)
  obtain ⟨z1, rfl, esz1, hzz1, hyz1, pz1_0, pz1_1⟩ := hqs1
  rw [esz1]
  refine T.if_ne rfl rfl (by omega) (fun c1 => ?_) (fun c1 => ?_)
  · refine T.go 2 (fun n9 => (rfl : _ = exe ξ n9 (d + 8) j_M_hasEntry 12 [(0, .ref 137), (1, J x), (2, J y)] [J x, .ref 137] σ)) ?_
    obtain ⟨ok1, ok2⟩ := (pre0.keep (RG.refl (S := [2, 4])) (LG.refl (S := [2, 4])) (by decide)) (by omega)
    have mts := pre1 (by omega)
    refine T.callv (as := [J x]) (r := []) rfl rfl rfl rfl hM.ob rfl (s_M_euse d x σ hM (by omega) (by omega) (by omega) (by omega) ok2 mts) (fun v2 s2 hqs2 => ?_)
    obtain ⟨rw_1, en_1, wy_1, wh_1, bi_1, ed_1, sz_1, md_1, bd_1, Lc_1, la_1, lk_1, lh_1, ld_1, rfl, ms2, fs2, pz2_0, pz2_1, pz2_2, pz2_3, pz2_4, pz2_5, pz2_6, pz2_7, pz2_8⟩ := hqs2
    have ns2 := ms2.len
    have rs2 := ms2.rg
    have rgs2 := (RG.refl (S := [2, 4])).trans pz2_0 (by decide)
    have lgs2 := (LG.refl (S := [2, 4])).trans pz2_1 (by decide)
    refine T.go 3 (fun n9 => (rfl : _ = exe ξ n9 (d + 8) j_M_hasEntry 18 [(0, .ref 137), (1, J x), (2, J y)] [.ref 137, J 0, J y] s2)) ?_
    refine T.get rfl rfl rfl ms2.ob rfl ?_
    refine T.go 1 (fun n9 => (rfl : _ = exe ξ n9 (d + 8) j_M_hasEntry 22 [(0, .ref 137), (1, J x), (2, J y)] [J 1, J en_1, J 0, J y] s2)) ?_
    refine T.isub rfl ?_
    refine T.calls (as := [J y, J 0, J (en_1 - 1)]) (r := []) rfl rfl (by decide) rfl rfl (s_M_in (d + 7) y 0 (en_1 - 1) s2 (by omega) (by omega) (by omega)) (fun v3 s3 hqs3 => ?_)
    obtain ⟨z3, rfl, esz3, hzz3, hyz3, pz3_0, pz3_1⟩ := hqs3
    rw [esz3]
    exact T.iretz rfl rfl (by omega) ⟨_, rw_1, en_1, wy_1, wh_1, bi_1, ed_1, sz_1, md_1, bd_1, Lc_1, la_1, lk_1, lh_1, ld_1, rfl, ms2, fs2, by omega, by omega, rgs2, lgs2, by omega, by omega, (fun _ => pz2_2), (fun h1 h2 q => by subst h1; have e8 := pz2_3 rfl; have e7 : NEf (gc Lc 1) (gl la 1) = W2 (gc Lc 1) (EN (gc Lc 1) (gl la 1) + 8) := rfl; omega), (fun h1 h2 => pz2_6 h2), (fun _ => pz2_8), (fun h q1 q2 q3 => by obtain ⟨o, fo, a1, -, -, -, a5, -⟩ := pz2_8; exact ⟨o, fo, a1, by omega⟩)⟩
  · refine T.go 1 (fun n9 => (rfl : _ = exe ξ n9 (d + 8) j_M_hasEntry 9 [(0, .ref 137), (1, J x), (2, J y)] [J 0] σ)) ?_
    exact T.iretz rfl rfl (by omega) ⟨_, rw, en, wy, wh, bi, ed, sz, md, bd, Lc, la, lk, lh, ld, rfl, hM, FM.refl, by omega, by omega, RG.refl, LG.refl, by omega, by omega, (fun q => by omega), (fun h1 h2 q => by omega), (fun h1 h2 => by exfalso; omega), (fun q => absurd q (by omega)), (fun h q1 q2 q3 => by exfalso; omega)⟩

set_option maxHeartbeats 4000000 in
theorem s_M_eentry {ξ : Nat → Option (Nat × List Int32)} {c io mo fa pl ns rw en wy wh bi ed sz md bd li wk we : Int} {Lc : List Int64} {la lm ln lh ld lk lt : List Int32} (d : Nat) (x : Int) (y : Int) (u : Int) (σ : qH) (hM : MS σ c io mo fa pl ns rw en wy wh bi ed sz md bd li wk we Lc la lm ln lh ld lk lt) (rx : -2147483648 ≤ x ∧ x ≤ 2147483647) (ry : -2147483648 ≤ y ∧ y ≤ 2147483647) (ru : -2147483648 ≤ u ∧ u ≤ 2147483647) (pre0 : OKM Lc la lm io mo) (pre1 : MTX io (gc Lc 1) (gl la 1) lm mo) : T ξ (d + 10) j_M_entry 0 (lv_args 0 [.ref 137, J x, J y, J u]) [] σ (fun v σ' => ∃ (z : Int) (c1 : Int) (rw1 : Int) (en1 : Int) (wy1 : Int) (wh1 : Int) (bi1 : Int) (ed1 : Int) (sz1 : Int) (md1 : Int) (bd1 : Int) (Lc1 : List Int64) (la1 : List Int32) (lk1 : List Int32) (lh1 : List Int32) (ld1 : List Int32), v = some (JL z) ∧ MS σ' c1 io mo fa pl ns rw1 en1 wy1 wh1 bi1 ed1 sz1 md1 bd1 li wk we Lc1 la1 lm ln lh1 ld1 lk1 lt ∧ FM σ σ' ∧ -9223372036854775808 ≤ z ∧ z ≤ 9223372036854775807 ∧ OKM Lc1 la1 lm io mo ∧ gl la1 0 = gl la 0 ∧ gc Lc1 0 = gc Lc 0 ∧ gc Lc1 1 = gc Lc 1 ∧ gl la1 1 = gl la 1 ∧ (c1 = 0 → ENV (gc Lc 1) (gl la 1) lm io mo x y u z) ∧ (c1 = 1 → NHE (gc Lc 1) (gl la 1) lm io mo x y) ∧ (c1 = 2 → YHE (gc Lc 1) (gl la 1) lm io mo x y ∧ (u < 0 ∨ 5 < u)) ∧ (0 ≤ c1 ∧ c1 ≤ 2)) := by
  have r0 := hM.rg
  have n0 := hM.len
  refine T.go 4 (fun n9 => (rfl : _ = exe ξ n9 (d + 10) j_M_entry 4 [(0, .ref 137), (1, J x), (2, J y), (3, J u)] [J y, J x, .ref 137, .ref 137] σ)) ?_
  refine T.callv (as := [J x, J y]) (r := [.ref 137]) rfl rfl rfl rfl hM.ob rfl (s_M_ehasEntry (d + 1) x y σ hM (by omega) (by omega) (pre0.keep (RG.refl (S := [2, 4])) (LG.refl (S := [2, 4])) (by decide)) pre1) (fun v1 s1 hqs1 => ?_)
  obtain ⟨z1, rw_1, en_1, wy_1, wh_1, bi_1, ed_1, sz_1, md_1, bd_1, Lc_1, la_1, lk_1, lh_1, ld_1, rfl, ms1, fs1, hzz1, hyz1, pz1_0, pz1_1, pz1_2, pz1_3, pz1_4, pz1_5, pz1_6, pz1_7, pz1_8⟩ := hqs1
  have ns1 := ms1.len
  have rs1 := ms1.rg
  have rgs1 := (RG.refl (S := [2, 4])).trans pz1_0 (by decide)
  have lgs1 := (LG.refl (S := [2, 4])).trans pz1_1 (by decide)
  refine T.if_ne rfl rfl (by omega) (fun c1 => ?_) (fun c1 => ?_)
  · refine T.go 3 (fun n9 => (rfl : _ = exe ξ n9 (d + 10) j_M_entry 17 [(0, .ref 137), (1, J x), (2, J y), (3, J u)] [J 5, J 0, J u, .ref 137] s1)) ?_
    refine T.calls (as := [J u, J 0, J 5]) (r := [.ref 137]) rfl rfl (by decide) rfl rfl (s_M_in (d + 9) u 0 5 s1 (by omega) (by omega) (by omega)) (fun v2 s2 hqs2 => ?_)
    obtain ⟨z2, rfl, esz2, hzz2, hyz2, pz2_0, pz2_1⟩ := hqs2
    rw [esz2]
    refine T.if_ne rfl rfl (by omega) (fun c2 => ?_) (fun c2 => ?_)
    · refine T.go 1 (fun n9 => (rfl : _ = exe ξ n9 (d + 10) j_M_entry 28 [(0, .ref 137), (1, J x), (2, J y), (3, J u)] [J 0, .ref 137] s1)) ?_
      refine T.mput (c' := 0) (io' := io) (mo' := mo) (fa' := fa) (pl' := pl) (ns' := ns) (rw' := rw_1) (en' := en_1) (wy' := wy_1) (wh' := wh_1) (bi' := bi_1) (ed' := ed_1) (sz' := sz_1) (md' := md_1) (bd' := bd_1) (li' := li) (wk' := wk) (we' := we) ms1 rfl rfl rfl rfl rfl rfl (by omega) (fun s3 ms3 fs3 => ?_)
      have gs3 := fs1.trans fs3
      refine T.go 1 (fun n9 => (rfl : _ = exe ξ n9 (d + 10) j_M_entry 32 [(0, .ref 137), (1, J x), (2, J y), (3, J u)] [.ref 137] s3)) ?_
      refine T.get rfl rfl rfl ms3.ob rfl ?_
      refine T.go 2 (fun n9 => (rfl : _ = exe ξ n9 (d + 10) j_M_entry 41 [(0, .ref 137), (1, J x), (2, J y), (3, J u)] [.ref 137] s3)) ?_
      refine T.get rfl rfl rfl ms3.ob rfl ?_
      refine T.go 1 (fun n9 => (rfl : _ = exe ξ n9 (d + 10) j_M_entry 45 [(0, .ref 137), (1, J x), (2, J y), (3, J u)] [J y, .ref 142] s3)) ?_
      refine T.iald rfl rfl ms3.c142 (by omega) (fun z3 hzz3 hyz3 hez3 => ?_)
      have hbz3 := ms3.b142.at hez3 ⟨hzz3, hyz3⟩
      have gzz3 := gl_of hez3 ⟨hzz3, hyz3⟩
      subst gzz3
      refine T.go 2 (fun n9 => (rfl : _ = exe ξ n9 (d + 10) j_M_entry 49 [(0, .ref 137), (1, J x), (2, J y), (3, J u), (4, J (gl lh_1 y))] [J u] s3)) ?_
      by_cases c3 : u < 0 ∨ 4 < u
      · refine T.jmp rfl rfl (sw_out (off := 87) rfl c3 (by omega) (by rfl)) ?_
        refine T.go 2 (fun n9 => (rfl : _ = exe ξ n9 (d + 10) j_M_entry 138 [(0, .ref 137), (1, J x), (2, J y), (3, J u), (4, J (gl lh_1 y))] [J y, .ref 137] s3)) ?_
        have hd := pz1_4 (by omega)
        have hx := hd y (by omega) (by omega)
        refine T.callv (as := [J y]) (r := []) rfl rfl rfl rfl ms3.ob rfl (s_M_nameLength (d + 7) y s3 ms3 (by omega) (by omega) (by omega)) (fun v3 s4 hqs4 => ?_)
        obtain ⟨z4, rfl, esz4, hzz4, hyz4, pz4_0⟩ := hqs4
        rw [esz4]
        refine T.i2l rfl (by omega) ?_
        exact T.lret rfl rfl ⟨_, 0, rw_1, en_1, wy_1, wh_1, bi_1, ed_1, sz_1, md_1, bd_1, Lc_1, la_1, lk_1, lh_1, ld_1, rfl, ms3, gs3, by omega, by omega, (pre0.keep rgs1 lgs1 (by decide)), (lgs1 0 (by decide) (by decide)), (rgs1 0 (by decide) (by decide)), (rgs1 1 (by decide) (by decide)), (lgs1 1 (by decide) (by decide)), (fun _ => by obtain ⟨o, fo, a1, a2, a3, -⟩ := ARY_w (pz1_7 (by omega)) (gc_r Lc 1) (by omega) (y := y) ⟨by omega, by omega⟩; exact ⟨by omega, by omega, o, fo, a1, a2, by rw [pz4_0 (by omega), (a3 28 (by decide) (by decide)).2, show u = 5 by omega]; rfl⟩), (fun h => absurd h (by omega)), (fun h => absurd h (by omega)), by omega⟩
      by_cases c4 : u = 0
      · refine T.jmp rfl rfl (sw_in (v := 0) (off := 35) c4 (by decide) rfl rfl) ?_
        refine T.go 3 (fun n9 => (rfl : _ = exe ξ n9 (d + 10) j_M_entry 89 [(0, .ref 137), (1, J x), (2, J y), (3, J u), (4, J (gl lh_1 y))] [J 24, J (gl lh_1 y), .ref 137] s3)) ?_
        refine T.iadd rfl ?_
        have hd := pz1_4 (by omega)
        have hx := hd y (by omega) (by omega)
        refine T.callv (as := [J ((gl lh_1 y) + 24)]) (r := []) rfl rfl rfl rfl ms3.ob rfl (s_M_four (d + 7) ((gl lh_1 y) + 24) s3 ms3 (by omega) (by omega) (by omega)) (fun v4 s5 hqs5 => ?_)
        obtain ⟨z5, rfl, esz5, hzz5, hyz5, pz5_0⟩ := hqs5
        rw [esz5]
        exact T.lret rfl rfl ⟨_, 0, rw_1, en_1, wy_1, wh_1, bi_1, ed_1, sz_1, md_1, bd_1, Lc_1, la_1, lk_1, lh_1, ld_1, rfl, ms3, gs3, by omega, by omega, (pre0.keep rgs1 lgs1 (by decide)), (lgs1 0 (by decide) (by decide)), (rgs1 0 (by decide) (by decide)), (rgs1 1 (by decide) (by decide)), (lgs1 1 (by decide) (by decide)), (fun _ => by obtain ⟨o, fo, a1, a2, a3, -⟩ := ARY_w (pz1_7 (by omega)) (gc_r Lc 1) (by omega) (y := y) ⟨by omega, by omega⟩; exact ⟨by omega, by omega, o, fo, a1, a2, by rw [pz5_0 (by omega), (a3 24 (by decide) (by decide)).1, show u = 0 by omega]; rfl⟩), (fun h => absurd h (by omega)), (fun h => absurd h (by omega)), by omega⟩
      by_cases c5 : u = 1
      · refine T.jmp rfl rfl (sw_in (v := 1) (off := 45) c5 (by decide) rfl rfl) ?_
        refine T.go 3 (fun n9 => (rfl : _ = exe ξ n9 (d + 10) j_M_entry 99 [(0, .ref 137), (1, J x), (2, J y), (3, J u), (4, J (gl lh_1 y))] [J 20, J (gl lh_1 y), .ref 137] s3)) ?_
        refine T.iadd rfl ?_
        have hd := pz1_4 (by omega)
        have hx := hd y (by omega) (by omega)
        refine T.callv (as := [J ((gl lh_1 y) + 20)]) (r := []) rfl rfl rfl rfl ms3.ob rfl (s_M_four (d + 7) ((gl lh_1 y) + 20) s3 ms3 (by omega) (by omega) (by omega)) (fun v5 s6 hqs6 => ?_)
        obtain ⟨z6, rfl, esz6, hzz6, hyz6, pz6_0⟩ := hqs6
        rw [esz6]
        exact T.lret rfl rfl ⟨_, 0, rw_1, en_1, wy_1, wh_1, bi_1, ed_1, sz_1, md_1, bd_1, Lc_1, la_1, lk_1, lh_1, ld_1, rfl, ms3, gs3, by omega, by omega, (pre0.keep rgs1 lgs1 (by decide)), (lgs1 0 (by decide) (by decide)), (rgs1 0 (by decide) (by decide)), (rgs1 1 (by decide) (by decide)), (lgs1 1 (by decide) (by decide)), (fun _ => by obtain ⟨o, fo, a1, a2, a3, -⟩ := ARY_w (pz1_7 (by omega)) (gc_r Lc 1) (by omega) (y := y) ⟨by omega, by omega⟩; exact ⟨by omega, by omega, o, fo, a1, a2, by rw [pz6_0 (by omega), (a3 20 (by decide) (by decide)).1, show u = 1 by omega]; rfl⟩), (fun h => absurd h (by omega)), (fun h => absurd h (by omega)), by omega⟩
      by_cases c6 : u = 2
      · refine T.jmp rfl rfl (sw_in (v := 2) (off := 55) c6 (by decide) rfl rfl) ?_
        refine T.go 3 (fun n9 => (rfl : _ = exe ξ n9 (d + 10) j_M_entry 109 [(0, .ref 137), (1, J x), (2, J y), (3, J u), (4, J (gl lh_1 y))] [J 10, J (gl lh_1 y), .ref 137] s3)) ?_
        refine T.iadd rfl ?_
        have hd := pz1_4 (by omega)
        have hx := hd y (by omega) (by omega)
        refine T.callv (as := [J ((gl lh_1 y) + 10)]) (r := []) rfl rfl rfl rfl ms3.ob rfl (s_M_two (d + 8) ((gl lh_1 y) + 10) s3 ms3 (by omega) (by omega) (by omega)) (fun v6 s7 hqs7 => ?_)
        obtain ⟨z7, rfl, esz7, hzz7, hyz7, pz7_0⟩ := hqs7
        rw [esz7]
        refine T.i2l rfl (by omega) ?_
        exact T.lret rfl rfl ⟨_, 0, rw_1, en_1, wy_1, wh_1, bi_1, ed_1, sz_1, md_1, bd_1, Lc_1, la_1, lk_1, lh_1, ld_1, rfl, ms3, gs3, by omega, by omega, (pre0.keep rgs1 lgs1 (by decide)), (lgs1 0 (by decide) (by decide)), (rgs1 0 (by decide) (by decide)), (rgs1 1 (by decide) (by decide)), (lgs1 1 (by decide) (by decide)), (fun _ => by obtain ⟨o, fo, a1, a2, a3, -⟩ := ARY_w (pz1_7 (by omega)) (gc_r Lc 1) (by omega) (y := y) ⟨by omega, by omega⟩; exact ⟨by omega, by omega, o, fo, a1, a2, by rw [pz7_0 (by omega), (a3 10 (by decide) (by decide)).2, show u = 2 by omega]; rfl⟩), (fun h => absurd h (by omega)), (fun h => absurd h (by omega)), by omega⟩
      by_cases c7 : u = 3
      · refine T.jmp rfl rfl (sw_in (v := 3) (off := 66) c7 (by decide) rfl rfl) ?_
        refine T.go 3 (fun n9 => (rfl : _ = exe ξ n9 (d + 10) j_M_entry 120 [(0, .ref 137), (1, J x), (2, J y), (3, J u), (4, J (gl lh_1 y))] [J 16, J (gl lh_1 y), .ref 137] s3)) ?_
        refine T.iadd rfl ?_
        have hd := pz1_4 (by omega)
        have hx := hd y (by omega) (by omega)
        refine T.callv (as := [J ((gl lh_1 y) + 16)]) (r := []) rfl rfl rfl rfl ms3.ob rfl (s_M_four (d + 7) ((gl lh_1 y) + 16) s3 ms3 (by omega) (by omega) (by omega)) (fun v7 s8 hqs8 => ?_)
        obtain ⟨z8, rfl, esz8, hzz8, hyz8, pz8_0⟩ := hqs8
        rw [esz8]
        exact T.lret rfl rfl ⟨_, 0, rw_1, en_1, wy_1, wh_1, bi_1, ed_1, sz_1, md_1, bd_1, Lc_1, la_1, lk_1, lh_1, ld_1, rfl, ms3, gs3, by omega, by omega, (pre0.keep rgs1 lgs1 (by decide)), (lgs1 0 (by decide) (by decide)), (rgs1 0 (by decide) (by decide)), (rgs1 1 (by decide) (by decide)), (lgs1 1 (by decide) (by decide)), (fun _ => by obtain ⟨o, fo, a1, a2, a3, -⟩ := ARY_w (pz1_7 (by omega)) (gc_r Lc 1) (by omega) (y := y) ⟨by omega, by omega⟩; exact ⟨by omega, by omega, o, fo, a1, a2, by rw [pz8_0 (by omega), (a3 16 (by decide) (by decide)).1, show u = 3 by omega]; rfl⟩), (fun h => absurd h (by omega)), (fun h => absurd h (by omega)), by omega⟩
      have c8 : u = 4 := by omega
      refine T.jmp rfl rfl (sw_in (v := 4) (off := 76) c8 (by decide) rfl rfl) ?_
      refine T.go 3 (fun n9 => (rfl : _ = exe ξ n9 (d + 10) j_M_entry 130 [(0, .ref 137), (1, J x), (2, J y), (3, J u), (4, J (gl lh_1 y))] [J 8, J (gl lh_1 y), .ref 137] s3)) ?_
      refine T.iadd rfl ?_
      have hd := pz1_4 (by omega)
      have hx := hd y (by omega) (by omega)
      refine T.callv (as := [J ((gl lh_1 y) + 8)]) (r := []) rfl rfl rfl rfl ms3.ob rfl (s_M_two (d + 8) ((gl lh_1 y) + 8) s3 ms3 (by omega) (by omega) (by omega)) (fun v8 s9 hqs9 => ?_)
      obtain ⟨z9, rfl, esz9, hzz9, hyz9, pz9_0⟩ := hqs9
      rw [esz9]
      refine T.i2l rfl (by omega) ?_
      exact T.lret rfl rfl ⟨_, 0, rw_1, en_1, wy_1, wh_1, bi_1, ed_1, sz_1, md_1, bd_1, Lc_1, la_1, lk_1, lh_1, ld_1, rfl, ms3, gs3, by omega, by omega, (pre0.keep rgs1 lgs1 (by decide)), (lgs1 0 (by decide) (by decide)), (rgs1 0 (by decide) (by decide)), (rgs1 1 (by decide) (by decide)), (lgs1 1 (by decide) (by decide)), (fun _ => by obtain ⟨o, fo, a1, a2, a3, -⟩ := ARY_w (pz1_7 (by omega)) (gc_r Lc 1) (by omega) (y := y) ⟨by omega, by omega⟩; exact ⟨by omega, by omega, o, fo, a1, a2, by rw [pz9_0 (by omega), (a3 8 (by decide) (by decide)).2, show u = 4 by omega]; rfl⟩), (fun h => absurd h (by omega)), (fun h => absurd h (by omega)), by omega⟩
    · refine T.go 2 (fun n9 => (rfl : _ = exe ξ n9 (d + 10) j_M_entry 28 [(0, .ref 137), (1, J x), (2, J y), (3, J u)] [J 2, .ref 137] s1)) ?_
      refine T.mput (c' := 2) (io' := io) (mo' := mo) (fa' := fa) (pl' := pl) (ns' := ns) (rw' := rw_1) (en' := en_1) (wy' := wy_1) (wh' := wh_1) (bi' := bi_1) (ed' := ed_1) (sz' := sz_1) (md' := md_1) (bd' := bd_1) (li' := li) (wk' := wk) (we' := we) ms1 rfl rfl rfl rfl rfl rfl (by omega) (fun s10 ms10 fs10 => ?_)
      have gs10 := fs1.trans fs10
      refine T.go 1 (fun n9 => (rfl : _ = exe ξ n9 (d + 10) j_M_entry 32 [(0, .ref 137), (1, J x), (2, J y), (3, J u)] [.ref 137] s10)) ?_
      refine T.get rfl rfl rfl ms10.ob rfl ?_
      refine T.go 2 (fun n9 => (rfl : _ = exe ξ n9 (d + 10) j_M_entry 39 [(0, .ref 137), (1, J x), (2, J y), (3, J u)] [JL 0] s10)) ?_
      exact T.lret rfl rfl ⟨_, 2, rw_1, en_1, wy_1, wh_1, bi_1, ed_1, sz_1, md_1, bd_1, Lc_1, la_1, lk_1, lh_1, ld_1, rfl, ms10, gs10, by omega, by omega, (pre0.keep rgs1 lgs1 (by decide)), (lgs1 0 (by decide) (by decide)), (rgs1 0 (by decide) (by decide)), (rgs1 1 (by decide) (by decide)), (lgs1 1 (by decide) (by decide)), (fun h => absurd h (by omega)), (fun h => absurd h (by omega)), (fun _ => ⟨by obtain ⟨o, fo, a1, a2, -⟩ := ARY_w (pz1_7 (by omega)) (gc_r Lc 1) (by omega) (y := y) ⟨by omega, by omega⟩; exact ⟨by omega, o, fo, a1, a2.1, a2.2⟩, by omega⟩), by omega⟩
  · refine T.go 2 (fun n9 => (rfl : _ = exe ξ n9 (d + 10) j_M_entry 28 [(0, .ref 137), (1, J x), (2, J y), (3, J u)] [J 1, .ref 137] s1)) ?_
    refine T.mput (c' := 1) (io' := io) (mo' := mo) (fa' := fa) (pl' := pl) (ns' := ns) (rw' := rw_1) (en' := en_1) (wy' := wy_1) (wh' := wh_1) (bi' := bi_1) (ed' := ed_1) (sz' := sz_1) (md' := md_1) (bd' := bd_1) (li' := li) (wk' := wk) (we' := we) ms1 rfl rfl rfl rfl rfl rfl (by omega) (fun s11 ms11 fs11 => ?_)
    have gs11 := fs1.trans fs11
    refine T.go 1 (fun n9 => (rfl : _ = exe ξ n9 (d + 10) j_M_entry 32 [(0, .ref 137), (1, J x), (2, J y), (3, J u)] [.ref 137] s11)) ?_
    refine T.get rfl rfl rfl ms11.ob rfl ?_
    refine T.go 2 (fun n9 => (rfl : _ = exe ξ n9 (d + 10) j_M_entry 39 [(0, .ref 137), (1, J x), (2, J y), (3, J u)] [JL 0] s11)) ?_
    exact T.lret rfl rfl ⟨_, 1, rw_1, en_1, wy_1, wh_1, bi_1, ed_1, sz_1, md_1, bd_1, Lc_1, la_1, lk_1, lh_1, ld_1, rfl, ms11, gs11, by omega, by omega, (pre0.keep rgs1 lgs1 (by decide)), (lgs1 0 (by decide) (by decide)), (rgs1 0 (by decide) (by decide)), (rgs1 1 (by decide) (by decide)), (lgs1 1 (by decide) (by decide)), (fun h => absurd h (by omega)), (fun _ => pz1_8 (by omega)), (fun h => absurd h (by omega)), by omega⟩

set_option maxHeartbeats 4000000 in
theorem s_M_eletter {ξ : Nat → Option (Nat × List Int32)} {c io mo fa pl ns rw en wy wh bi ed sz md bd li wk we : Int} {Lc : List Int64} {la lm ln lh ld lk lt : List Int32} (d : Nat) (x : Int) (y : Int) (u : Int) (σ : qH) (hM : MS σ c io mo fa pl ns rw en wy wh bi ed sz md bd li wk we Lc la lm ln lh ld lk lt) (rx : -2147483648 ≤ x ∧ x ≤ 2147483647) (ry : -2147483648 ≤ y ∧ y ≤ 2147483647) (ru : -2147483648 ≤ u ∧ u ≤ 2147483647) (pre0 : OKM Lc la lm io mo) (pre1 : MTX io (gc Lc 1) (gl la 1) lm mo) : T ξ (d + 10) j_M_letter 0 (lv_args 0 [.ref 137, J x, J y, J u]) [] σ (fun v σ' => ∃ (z : Int) (c1 : Int) (rw1 : Int) (en1 : Int) (wy1 : Int) (wh1 : Int) (bi1 : Int) (ed1 : Int) (sz1 : Int) (md1 : Int) (bd1 : Int) (Lc1 : List Int64) (la1 : List Int32) (lk1 : List Int32) (lh1 : List Int32) (ld1 : List Int32), v = some (J z) ∧ MS σ' c1 io mo fa pl ns rw1 en1 wy1 wh1 bi1 ed1 sz1 md1 bd1 li wk we Lc1 la1 lm ln lh1 ld1 lk1 lt ∧ FM σ σ' ∧ -2147483648 ≤ z ∧ z ≤ 2147483647 ∧ OKM Lc1 la1 lm io mo ∧ gl la1 0 = gl la 0 ∧ gc Lc1 0 = gc Lc 0 ∧ gc Lc1 1 = gc Lc 1 ∧ gl la1 1 = gl la 1 ∧ (c1 = 0 → LTV (gc Lc 1) (gl la 1) lm io mo x y u z) ∧ (c1 = 1 → NHE (gc Lc 1) (gl la 1) lm io mo x y) ∧ (0 ≤ c1 ∧ c1 ≤ 1)) := by
  have r0 := hM.rg
  have n0 := hM.len
  refine T.go 4 (fun n9 => (rfl : _ = exe ξ n9 (d + 10) j_M_letter 4 [(0, .ref 137), (1, J x), (2, J y), (3, J u)] [J y, J x, .ref 137, .ref 137] σ)) ?_
  refine T.callv (as := [J x, J y]) (r := [.ref 137]) rfl rfl rfl rfl hM.ob rfl (s_M_ehasEntry (d + 1) x y σ hM (by omega) (by omega) (pre0.keep (RG.refl (S := [2, 4])) (LG.refl (S := [2, 4])) (by decide)) pre1) (fun v1 s1 hqs1 => ?_)
  obtain ⟨z1, rw_1, en_1, wy_1, wh_1, bi_1, ed_1, sz_1, md_1, bd_1, Lc_1, la_1, lk_1, lh_1, ld_1, rfl, ms1, fs1, hzz1, hyz1, pz1_0, pz1_1, pz1_2, pz1_3, pz1_4, pz1_5, pz1_6, pz1_7, pz1_8⟩ := hqs1
  have ns1 := ms1.len
  have rs1 := ms1.rg
  have rgs1 := (RG.refl (S := [2, 4])).trans pz1_0 (by decide)
  have lgs1 := (LG.refl (S := [2, 4])).trans pz1_1 (by decide)
  refine T.if_eq rfl rfl (by omega) (fun c1 => ?_) (fun c1 => ?_)
  · refine T.go 1 (fun n9 => (rfl : _ = exe ξ n9 (d + 10) j_M_letter 15 [(0, .ref 137), (1, J x), (2, J y), (3, J u)] [J 1, .ref 137] s1)) ?_
    refine T.mput (c' := 1) (io' := io) (mo' := mo) (fa' := fa) (pl' := pl) (ns' := ns) (rw' := rw_1) (en' := en_1) (wy' := wy_1) (wh' := wh_1) (bi' := bi_1) (ed' := ed_1) (sz' := sz_1) (md' := md_1) (bd' := bd_1) (li' := li) (wk' := wk) (we' := we) ms1 rfl rfl rfl rfl rfl rfl (by omega) (fun s2 ms2 fs2 => ?_)
    have gs2 := fs1.trans fs2
    refine T.go 1 (fun n9 => (rfl : _ = exe ξ n9 (d + 10) j_M_letter 19 [(0, .ref 137), (1, J x), (2, J y), (3, J u)] [.ref 137] s2)) ?_
    refine T.get rfl rfl rfl ms2.ob rfl ?_
    refine T.go 2 (fun n9 => (rfl : _ = exe ξ n9 (d + 10) j_M_letter 26 [(0, .ref 137), (1, J x), (2, J y), (3, J u)] [J 0] s2)) ?_
    exact T.ireti rfl rfl ⟨_, 1, rw_1, en_1, wy_1, wh_1, bi_1, ed_1, sz_1, md_1, bd_1, Lc_1, la_1, lk_1, lh_1, ld_1, rfl, ms2, gs2, by omega, by omega, (pre0.keep rgs1 lgs1 (by decide)), (lgs1 0 (by decide) (by decide)), (rgs1 0 (by decide) (by decide)), (rgs1 1 (by decide) (by decide)), (lgs1 1 (by decide) (by decide)), (fun h => absurd h (by omega)), (fun _ => pz1_8 (by omega)), by omega⟩
  · refine T.go 2 (fun n9 => (rfl : _ = exe ξ n9 (d + 10) j_M_letter 15 [(0, .ref 137), (1, J x), (2, J y), (3, J u)] [J 0, .ref 137] s1)) ?_
    refine T.mput (c' := 0) (io' := io) (mo' := mo) (fa' := fa) (pl' := pl) (ns' := ns) (rw' := rw_1) (en' := en_1) (wy' := wy_1) (wh' := wh_1) (bi' := bi_1) (ed' := ed_1) (sz' := sz_1) (md' := md_1) (bd' := bd_1) (li' := li) (wk' := wk) (we' := we) ms1 rfl rfl rfl rfl rfl rfl (by omega) (fun s3 ms3 fs3 => ?_)
    have gs3 := fs1.trans fs3
    refine T.go 1 (fun n9 => (rfl : _ = exe ξ n9 (d + 10) j_M_letter 19 [(0, .ref 137), (1, J x), (2, J y), (3, J u)] [.ref 137] s3)) ?_
    refine T.get rfl rfl rfl ms3.ob rfl ?_
    refine T.go 5 (fun n9 => (rfl : _ = exe ξ n9 (d + 10) j_M_letter 31 [(0, .ref 137), (1, J x), (2, J y), (3, J u)] [J y, .ref 137, J 0, J u] s3)) ?_
    have hd := pz1_4 (by omega)
    have hx := hd y (by omega) (by omega)
    refine T.callv (as := [J y]) (r := [J 0, J u]) rfl rfl rfl rfl ms3.ob rfl (s_M_nameLength (d + 7) y s3 ms3 (by omega) (by omega) (by omega)) (fun v2 s4 hqs4 => ?_)
    obtain ⟨z2, rfl, esz2, hzz2, hyz2, pz2_0⟩ := hqs4
    rw [esz2]
    refine T.go 1 (fun n9 => (rfl : _ = exe ξ n9 (d + 10) j_M_letter 35 [(0, .ref 137), (1, J x), (2, J y), (3, J u)] [J 1, J z2, J 0, J u] s3)) ?_
    refine T.isub rfl ?_
    refine T.calls (as := [J u, J 0, J (z2 - 1)]) (r := []) rfl rfl (by decide) rfl rfl (s_M_in (d + 9) u 0 (z2 - 1) s3 (by omega) (by omega) (by omega)) (fun v3 s5 hqs5 => ?_)
    obtain ⟨z3, rfl, esz3, hzz3, hyz3, pz3_0, pz3_1⟩ := hqs5
    rw [esz3]
    refine T.if_eq rfl rfl (by omega) (fun c2 => ?_) (fun c2 => ?_)
    · refine T.go 1 (fun n9 => (rfl : _ = exe ξ n9 (d + 10) j_M_letter 65 [(0, .ref 137), (1, J x), (2, J y), (3, J u)] [J (-1)] s3)) ?_
      exact T.ireti rfl rfl ⟨_, 0, rw_1, en_1, wy_1, wh_1, bi_1, ed_1, sz_1, md_1, bd_1, Lc_1, la_1, lk_1, lh_1, ld_1, rfl, ms3, gs3, by omega, by omega, (pre0.keep rgs1 lgs1 (by decide)), (lgs1 0 (by decide) (by decide)), (rgs1 0 (by decide) (by decide)), (rgs1 1 (by decide) (by decide)), (lgs1 1 (by decide) (by decide)), (fun _ => by obtain ⟨o, fo, a1, a2, a3, a4⟩ := ARY_w (pz1_7 (by omega)) (gc_r Lc 1) (by omega) (y := y) ⟨by omega, by omega⟩; have n8 := (pz2_0 (by omega)).trans (a3 28 (by decide) (by decide)).2; exact ⟨by omega, o, fo, a1, a2, by unfold LTv; rw [if_neg (by omega)]⟩), (fun h => absurd h (by omega)), by omega⟩
    · refine T.go 2 (fun n9 => (rfl : _ = exe ξ n9 (d + 10) j_M_letter 44 [(0, .ref 137), (1, J x), (2, J y), (3, J u)] [.ref 137, .ref 137] s3)) ?_
      refine T.get rfl rfl rfl ms3.ob rfl ?_
      refine T.go 1 (fun n9 => (rfl : _ = exe ξ n9 (d + 10) j_M_letter 48 [(0, .ref 137), (1, J x), (2, J y), (3, J u)] [.ref 137, J rw_1, .ref 137] s3)) ?_
      refine T.get rfl rfl rfl ms3.ob rfl ?_
      refine T.go 1 (fun n9 => (rfl : _ = exe ξ n9 (d + 10) j_M_letter 52 [(0, .ref 137), (1, J x), (2, J y), (3, J u)] [J y, .ref 142, J rw_1, .ref 137] s3)) ?_
      refine T.iald rfl rfl ms3.c142 (by omega) (fun z4 hzz4 hyz4 hez4 => ?_)
      have hbz4 := ms3.b142.at hez4 ⟨hzz4, hyz4⟩
      have gzz4 := gl_of hez4 ⟨hzz4, hyz4⟩
      subst gzz4
      refine T.go 1 (fun n9 => (rfl : _ = exe ξ n9 (d + 10) j_M_letter 55 [(0, .ref 137), (1, J x), (2, J y), (3, J u)] [J 46, J (gl lh_1 y), J rw_1, .ref 137] s3)) ?_
      refine T.iadd rfl ?_
      refine T.go 1 (fun n9 => (rfl : _ = exe ξ n9 (d + 10) j_M_letter 57 [(0, .ref 137), (1, J x), (2, J y), (3, J u)] [J u, J ((gl lh_1 y) + 46), J rw_1, .ref 137] s3)) ?_
      refine T.iadd rfl ?_
      refine T.callv (as := [J rw_1, J (((gl lh_1 y) + 46) + u)]) (r := []) rfl rfl rfl rfl ms3.ob rfl (s_M_get (d + 9) rw_1 (((gl lh_1 y) + 46) + u) s3 ms3 (by omega)) (fun v4 s6 hqs6 => ?_)
      obtain ⟨z5, rfl, esz5, hzz5, hyz5, pz5_0⟩ := hqs6
      rw [esz5]
      refine T.go 1 (fun n9 => (rfl : _ = exe ξ n9 (d + 10) j_M_letter 65 [(0, .ref 137), (1, J x), (2, J y), (3, J u)] [J z5] s3)) ?_
      exact T.ireti rfl rfl ⟨_, 0, rw_1, en_1, wy_1, wh_1, bi_1, ed_1, sz_1, md_1, bd_1, Lc_1, la_1, lk_1, lh_1, ld_1, rfl, ms3, gs3, by omega, by omega, (pre0.keep rgs1 lgs1 (by decide)), (lgs1 0 (by decide) (by decide)), (rgs1 0 (by decide) (by decide)), (rgs1 1 (by decide) (by decide)), (lgs1 1 (by decide) (by decide)), (fun _ => by obtain ⟨o, fo, a1, a2, a3, a4⟩ := ARY_w (pz1_7 (by omega)) (gc_r Lc 1) (by omega) (y := y) ⟨by omega, by omega⟩; have n8 := (pz2_0 (by omega)).trans (a3 28 (by decide) (by decide)).2; exact ⟨by omega, o, fo, a1, a2, by unfold LTv; rw [if_pos ⟨by omega, by omega⟩, ← a4 u (by omega) (by omega), pz5_0]; exact (gc_at ⟨by omega, by omega⟩).symm⟩), (fun h => absurd h (by omega)), by omega⟩

set_option maxHeartbeats 4000000 in
theorem s_M_emount {ξ : Nat → Option (Nat × List Int32)} {c io mo fa pl ns rw en wy wh bi ed sz md bd li wk we : Int} {Lc : List Int64} {la lm ln lh ld lk lt : List Int32} (d : Nat) (x : Int) (σ : qH) (hM : MS σ c io mo fa pl ns rw en wy wh bi ed sz md bd li wk we Lc la lm ln lh ld lk lt) (rx : -2147483648 ≤ x ∧ x ≤ 2147483647) (pre0 : OKM Lc la lm io mo) (pre1 : MTX io (gc Lc 1) (gl la 1) lm mo) : T ξ (d + 10) j_M_mount 0 (lv_args 0 [.ref 137, J x]) [] σ (fun v σ' => ∃ (z : Int) (c1 : Int) (rw1 : Int) (en1 : Int) (wy1 : Int) (wh1 : Int) (bi1 : Int) (ed1 : Int) (sz1 : Int) (md1 : Int) (bd1 : Int) (Lc1 : List Int64) (la1 : List Int32) (lk1 : List Int32) (lh1 : List Int32) (ld1 : List Int32) (fa1 : Int) (pl1 : Int) (mo1 : Int) (lm1 : List Int32), v = some (J z) ∧ MS σ' c1 io mo1 fa1 pl1 ns rw1 en1 wy1 wh1 bi1 ed1 sz1 md1 bd1 li wk we Lc1 la1 lm1 ln lh1 ld1 lk1 lt ∧ FM σ σ' ∧ -2147483648 ≤ z ∧ z ≤ 2147483647 ∧ OKM Lc1 la1 lm1 io mo1 ∧ gl la1 0 = gl la 0 ∧ gc Lc1 0 = gc Lc 0 ∧ gc Lc1 1 = gc Lc 1 ∧ gl la1 1 = gl la 1 ∧ (c1 = 0 → io = 1 ∧ 0 ≤ x ∧ x < NEf (gc Lc 1) (gl la 1) ∧ mo < 6 ∧ mo1 = mo + 1) ∧ (c1 = 0 → MOK (gc Lc 1) (gl la 1) x) ∧ (c1 = 0 → MSET lm lm1 mo x) ∧ (c1 ≠ 0 → mo1 = mo ∧ lm1 = lm) ∧ (c1 ≠ 0 → io = 1 → 0 ≤ x → x < NEf (gc Lc 1) (gl la 1) → mo < 6 → NMT (gc Lc 1) (gl la 1) x) ∧ (c1 = 0 → z = mo1) ∧ (c1 = 1 → ¬ (io = 1 ∧ 0 ≤ x ∧ x < NEf (gc Lc 1) (gl la 1))) ∧ (c1 = 2 → (io = 1 ∧ 0 ≤ x ∧ x < NEf (gc Lc 1) (gl la 1)) ∧ NMT (gc Lc 1) (gl la 1) x) ∧ (c1 = 3 → (io = 1 ∧ 0 ≤ x ∧ x < NEf (gc Lc 1) (gl la 1)) ∧ MOK (gc Lc 1) (gl la 1) x ∧ mo = 6) ∧ (0 ≤ c1 ∧ c1 ≤ 3)) := by
  have r0 := hM.rg
  have n0 := hM.len
  refine T.go 4 (fun n9 => (rfl : _ = exe ξ n9 (d + 10) j_M_mount 4 [(0, .ref 137), (1, J x)] [J x, J 0, .ref 137, .ref 137] σ)) ?_
  refine T.callv (as := [J 0, J x]) (r := [.ref 137]) rfl rfl rfl rfl hM.ob rfl (s_M_fhasEntry (d + 1) 0 x σ hM (by omega) (by omega) (pre0.keep (RG.refl (S := [2, 4])) (LG.refl (S := [2, 4])) (by decide)) pre1) (fun v1 s1 hqs1 => ?_)
  obtain ⟨z1, rw_1, en_1, wy_1, wh_1, bi_1, ed_1, sz_1, md_1, bd_1, Lc_1, la_1, lk_1, lh_1, ld_1, rfl, ms1, fs1, hzz1, hyz1, pz1_0, pz1_1, pz1_2, pz1_3, pz1_4, pz1_5, pz1_6⟩ := hqs1
  have ns1 := ms1.len
  have rs1 := ms1.rg
  have rgs1 := (RG.refl (S := [2, 4])).trans pz1_0 (by decide)
  have lgs1 := (LG.refl (S := [2, 4])).trans pz1_1 (by decide)
  refine T.if_eq rfl rfl (by omega) (fun c1 => ?_) (fun c1 => ?_)
  · refine T.go 1 (fun n9 => (rfl : _ = exe ξ n9 (d + 10) j_M_mount 15 [(0, .ref 137), (1, J x)] [J 1, .ref 137] s1)) ?_
    refine T.mput (c' := 1) (io' := io) (mo' := mo) (fa' := fa) (pl' := pl) (ns' := ns) (rw' := rw_1) (en' := en_1) (wy' := wy_1) (wh' := wh_1) (bi' := bi_1) (ed' := ed_1) (sz' := sz_1) (md' := md_1) (bd' := bd_1) (li' := li) (wk' := wk) (we' := we) ms1 rfl rfl rfl rfl rfl rfl (by omega) (fun s2 ms2 fs2 => ?_)
    have gs2 := fs1.trans fs2
    refine T.go 1 (fun n9 => (rfl : _ = exe ξ n9 (d + 10) j_M_mount 19 [(0, .ref 137), (1, J x)] [.ref 137] s2)) ?_
    refine T.get rfl rfl rfl ms2.ob rfl ?_
    refine T.go 2 (fun n9 => (rfl : _ = exe ξ n9 (d + 10) j_M_mount 26 [(0, .ref 137), (1, J x)] [J 0] s2)) ?_
    exact T.ireti rfl rfl ⟨_, 1, rw_1, en_1, wy_1, wh_1, bi_1, ed_1, sz_1, md_1, bd_1, Lc_1, la_1, lk_1, lh_1, ld_1, fa, pl, mo, lm, rfl, ms2, gs2, by omega, by omega, (pre0.keep rgs1 lgs1 (by decide)), (lgs1 0 (by decide) (by decide)), (rgs1 0 (by decide) (by decide)), (rgs1 1 (by decide) (by decide)), (lgs1 1 (by decide) (by decide)), (fun h => absurd h (by omega)), (fun h => absurd h (by omega)), (fun h => absurd h (by omega)), (fun _ => ⟨rfl, rfl⟩), (fun h q1 q2 q3 q4 => by exfalso; have := pz1_5 rfl (by omega); omega), by omega, (fun _ q => by have := pz1_5 rfl (by omega); omega), (fun h => absurd h (by omega)), (fun h => absurd h (by omega)), by omega⟩
  · refine T.go 2 (fun n9 => (rfl : _ = exe ξ n9 (d + 10) j_M_mount 15 [(0, .ref 137), (1, J x)] [J 0, .ref 137] s1)) ?_
    refine T.mput (c' := 0) (io' := io) (mo' := mo) (fa' := fa) (pl' := pl) (ns' := ns) (rw' := rw_1) (en' := en_1) (wy' := wy_1) (wh' := wh_1) (bi' := bi_1) (ed' := ed_1) (sz' := sz_1) (md' := md_1) (bd' := bd_1) (li' := li) (wk' := wk) (we' := we) ms1 rfl rfl rfl rfl rfl rfl (by omega) (fun s3 ms3 fs3 => ?_)
    have gs3 := fs1.trans fs3
    refine T.go 1 (fun n9 => (rfl : _ = exe ξ n9 (d + 10) j_M_mount 19 [(0, .ref 137), (1, J x)] [.ref 137] s3)) ?_
    refine T.get rfl rfl rfl ms3.ob rfl ?_
    refine T.go 3 (fun n9 => (rfl : _ = exe ξ n9 (d + 10) j_M_mount 29 [(0, .ref 137), (1, J x)] [J x, .ref 137] s3)) ?_
    have hd := pz1_4 (by omega)
    have hx := hd x (by omega) (by omega)
    have hdj := pz1_6 (by omega) rfl x (by omega) (by omega)
    have rwe := (pz1_3 (by omega) rfl).1
    have ene := (pz1_3 (by omega) rfl).2
    have cg1 := rgs1 1 (by decide) (by decide)
    refine T.callv (as := [J x]) (r := []) rfl rfl rfl rfl ms3.ob rfl (s_M_fisNoMount (d + 2) x s3 ms3 (by omega) (by omega) (by omega) (by omega) (by omega) (by omega) (by omega)) (fun v2 s4 hqs4 => ?_)
    obtain ⟨z2, rw_2, en_2, wy_2, wh_2, bi_2, ed_2, sz_2, md_2, bd_2, Lc_2, la_2, lk_2, lh_2, ld_2, rfl, ms4, fs4, hzz2, hyz2, pz2_0, pz2_1, pz2_2, pz2_3⟩ := hqs4
    have ns4 := ms4.len
    have rs4 := ms4.rg
    have gs4 := gs3.trans fs4
    have rgs4 := rgs1.trans pz2_0 (by decide)
    have lgs4 := lgs1.trans pz2_1 (by decide)
    rw [rwe, cg1, hdj.1, hdj.2] at pz2_2 pz2_3
    have mok9 : z2 = 0 → MOK (gc Lc 1) (gl la 1) x := fun h => by obtain ⟨o, h1, h2, -⟩ := pz2_2 h; exact ⟨o, h1, h2⟩
    have nmt9 : z2 = 1 → NMT (gc Lc 1) (gl la 1) x := pz2_3
    refine T.if_eq rfl rfl (by omega) (fun c2 => ?_) (fun c2 => ?_)
    · refine T.go 1 (fun n9 => (rfl : _ = exe ξ n9 (d + 10) j_M_mount 42 [(0, .ref 137), (1, J x)] [.ref 137] s4)) ?_
      refine T.get rfl rfl rfl ms4.ob rfl ?_
      refine T.go 1 (fun n9 => (rfl : _ = exe ξ n9 (d + 10) j_M_mount 47 [(0, .ref 137), (1, J x)] [J 6, J mo] s4)) ?_
      refine T.icmp_ne rfl rfl (by omega) (by omega) (fun c3 => ?_) (fun c3 => ?_)
      · refine T.go 1 (fun n9 => (rfl : _ = exe ξ n9 (d + 10) j_M_mount 57 [(0, .ref 137), (1, J x)] [.ref 137] s4)) ?_
        refine T.get rfl rfl rfl ms4.ob rfl ?_
        refine T.go 1 (fun n9 => (rfl : _ = exe ξ n9 (d + 10) j_M_mount 61 [(0, .ref 137), (1, J x)] [.ref 137, .ref 140] s4)) ?_
        refine T.get rfl rfl rfl ms4.ob rfl ?_
        refine T.go 1 (fun n9 => (rfl : _ = exe ξ n9 (d + 10) j_M_mount 65 [(0, .ref 137), (1, J x)] [J x, J mo, .ref 140] s4)) ?_
        refine T.mast140 ms4 rfl (by omega) (by omega) (fun s5 ms5 fs5 => ?_)
        have ns5 := ms5.len
        have gs5 := gs4.trans fs5
        have gss5 : ∀ j : Int, 0 ≤ j → gl (lm.set (mo : Int).toNat (Int32.ofInt x)) j = if j = mo then x else gl lm j := fun j hj => gl_set ⟨by omega, by omega⟩ ⟨by omega, by omega⟩ hj
        have ges5 : gl (lm.set (mo : Int).toNat (Int32.ofInt x)) mo = x := (gss5 mo (by omega)).trans (if_pos rfl)
        have okk := pre0.keep rgs4 lgs4 (by decide)
        refine T.go 2 (fun n9 => (rfl : _ = exe ξ n9 (d + 10) j_M_mount 68 [(0, .ref 137), (1, J x)] [.ref 137, .ref 137] s5)) ?_
        refine T.get rfl rfl rfl ms5.ob rfl ?_
        refine T.go 1 (fun n9 => (rfl : _ = exe ξ n9 (d + 10) j_M_mount 72 [(0, .ref 137), (1, J x)] [J 1, J mo, .ref 137] s5)) ?_
        refine T.iadd rfl ?_
        refine T.mput (c' := 0) (io' := io) (mo' := mo + 1) (fa' := fa) (pl' := pl) (ns' := ns) (rw' := rw_2) (en' := en_2) (wy' := wy_2) (wh' := wh_2) (bi' := bi_2) (ed' := ed_2) (sz' := sz_2) (md' := md_2) (bd' := bd_2) (li' := li) (wk' := wk) (we' := we) ms5 rfl rfl rfl rfl rfl rfl (by omega) (fun s6 ms6 fs6 => ?_)
        have gs6 := gs5.trans fs6
        refine T.go 1 (fun n9 => (rfl : _ = exe ξ n9 (d + 10) j_M_mount 77 [(0, .ref 137), (1, J x)] [.ref 137] s6)) ?_
        refine T.get rfl rfl rfl ms6.ob rfl ?_
        exact T.ireti rfl rfl ⟨_, 0, rw_2, en_2, wy_2, wh_2, bi_2, ed_2, sz_2, md_2, bd_2, Lc_2, la_2, lk_2, lh_2, ld_2, fa, pl, (mo + 1), (lm.set (mo : Int).toNat (Int32.ofInt x)), rfl, ms6, gs6, by omega, by omega, (fun _ => ⟨(okk (by omega)).1, fun j a b => if q : j = mo then (by rw [q, ges5]; have e8 := pz1_3 (by omega) rfl; have c8 := rgs4 1 (by decide) (by decide); have l8 := lgs4 1 (by decide) (by decide); rw [c8, l8]; omega) else (by rw [(gss5 j a).trans (if_neg q)]; exact (okk (by omega)).2 j a (by omega))⟩), (lgs4 0 (by decide) (by decide)), (rgs4 0 (by decide) (by decide)), (rgs4 1 (by decide) (by decide)), (lgs4 1 (by decide) (by decide)), (fun _ => ⟨by omega, by omega, by have e7 : NEf (gc Lc 1) (gl la 1) = W2 (gc Lc 1) (EN (gc Lc 1) (gl la 1) + 8) := rfl; omega, by omega, by omega⟩), (fun _ => mok9 (by omega)), (fun _ => gss5), (fun h => absurd (by omega) h), (fun h => absurd (by omega) h), by omega, (fun h => absurd h (by omega)), (fun h => absurd h (by omega)), (fun h => absurd h (by omega)), by omega⟩
      · refine T.go 2 (fun n9 => (rfl : _ = exe ξ n9 (d + 10) j_M_mount 52 [(0, .ref 137), (1, J x)] [J 3, .ref 137] s4)) ?_
        refine T.callv (as := [J 3]) (r := []) rfl rfl rfl rfl ms4.ob rfl (s_M_frefuse (d + 9) 3 s4 ms4 (by omega)) (fun v3 s7 hqs7 => ?_)
        obtain ⟨z3, c_1, rfl, ms7, fs7, hzz3, hyz3, pz3_0⟩ := hqs7
        have ns7 := ms7.len
        have rs7 := ms7.rg
        have gs7 := gs4.trans fs7
        exact T.ireti rfl rfl ⟨_, c_1, rw_2, en_2, wy_2, wh_2, bi_2, ed_2, sz_2, md_2, bd_2, Lc_2, la_2, lk_2, lh_2, ld_2, fa, pl, mo, lm, rfl, ms7, gs7, by omega, by omega, (pre0.keep rgs4 lgs4 (by decide)), (lgs4 0 (by decide) (by decide)), (rgs4 0 (by decide) (by decide)), (rgs4 1 (by decide) (by decide)), (lgs4 1 (by decide) (by decide)), (fun h => absurd h (by omega)), (fun h => absurd h (by omega)), (fun h => absurd h (by omega)), (fun _ => ⟨rfl, rfl⟩), (fun h q1 q2 q3 q4 => by first | exact nmt9 (by omega) | (exfalso; omega)), by omega, (fun h => absurd h (by omega)), (fun h => ⟨⟨by omega, by omega, by have e7 : NEf (gc Lc 1) (gl la 1) = W2 (gc Lc 1) (EN (gc Lc 1) (gl la 1) + 8) := rfl; omega⟩, nmt9 (by omega)⟩), (fun h => ⟨⟨by omega, by omega, by have e7 : NEf (gc Lc 1) (gl la 1) = W2 (gc Lc 1) (EN (gc Lc 1) (gl la 1) + 8) := rfl; omega⟩, mok9 (by omega), by omega⟩), by omega⟩
    · refine T.go 2 (fun n9 => (rfl : _ = exe ξ n9 (d + 10) j_M_mount 37 [(0, .ref 137), (1, J x)] [J 2, .ref 137] s4)) ?_
      refine T.callv (as := [J 2]) (r := []) rfl rfl rfl rfl ms4.ob rfl (s_M_frefuseFault (d + 8) 2 s4 ms4 (by omega)) (fun v4 s8 hqs8 => ?_)
      obtain ⟨z4, c_2, fa_1, pl_1, rfl, ms8, fs8, hzz4, hyz4, pz4_0⟩ := hqs8
      have ns8 := ms8.len
      have rs8 := ms8.rg
      have gs8 := gs4.trans fs8
      exact T.ireti rfl rfl ⟨_, c_2, rw_2, en_2, wy_2, wh_2, bi_2, ed_2, sz_2, md_2, bd_2, Lc_2, la_2, lk_2, lh_2, ld_2, fa_1, pl_1, mo, lm, rfl, ms8, gs8, by omega, by omega, (pre0.keep rgs4 lgs4 (by decide)), (lgs4 0 (by decide) (by decide)), (rgs4 0 (by decide) (by decide)), (rgs4 1 (by decide) (by decide)), (lgs4 1 (by decide) (by decide)), (fun h => absurd h (by omega)), (fun h => absurd h (by omega)), (fun h => absurd h (by omega)), (fun _ => ⟨rfl, rfl⟩), (fun h q1 q2 q3 q4 => by first | exact nmt9 (by omega) | (exfalso; omega)), by omega, (fun h => absurd h (by omega)), (fun h => ⟨⟨by omega, by omega, by have e7 : NEf (gc Lc 1) (gl la 1) = W2 (gc Lc 1) (EN (gc Lc 1) (gl la 1) + 8) := rfl; omega⟩, nmt9 (by omega)⟩), (fun h => ⟨⟨by omega, by omega, by have e7 : NEf (gc Lc 1) (gl la 1) = W2 (gc Lc 1) (EN (gc Lc 1) (gl la 1) + 8) := rfl; omega⟩, mok9 (by omega), by omega⟩), by omega⟩

set_option maxHeartbeats 4000000 in
theorem s_M_eindex {ξ : Nat → Option (Nat × List Int32)} {c io mo fa pl ns rw en wy wh bi ed sz md bd li wk we : Int} {Lc : List Int64} {la lm ln lh ld lk lt : List Int32} (d : Nat)  (σ : qH) (hM : MS σ c io mo fa pl ns rw en wy wh bi ed sz md bd li wk we Lc la lm ln lh ld lk lt) (pre0 : OKM Lc la lm io mo) : T ξ (d + 10) j_M_index 0 (lv_args 0 [.ref 137]) [] σ (fun v σ' => ∃ (z : Int) (c1 : Int) (fa1 : Int) (pl1 : Int) (mo1 : Int) (lm1 : List Int32) (rw1 : Int) (en1 : Int) (wy1 : Int) (wh1 : Int) (bi1 : Int) (ed1 : Int) (sz1 : Int) (md1 : Int) (bd1 : Int) (Lc1 : List Int64) (la1 : List Int32) (lk1 : List Int32) (lh1 : List Int32) (ld1 : List Int32) (lt1 : List Int32) (li1 : Int), v = some (J z) ∧ MS σ' c1 io mo1 fa1 pl1 ns rw1 en1 wy1 wh1 bi1 ed1 sz1 md1 bd1 li1 wk we Lc1 la1 lm1 ln lh1 ld1 lk1 lt1 ∧ FM σ σ' ∧ -2147483648 ≤ z ∧ z ≤ 2147483647 ∧ OKM Lc1 la1 lm1 io mo1 ∧ gl la1 0 = gl la 0 ∧ gc Lc1 0 = gc Lc 0 ∧ gc Lc1 1 = gc Lc 1 ∧ gl la1 1 = gl la 1 ∧ (c1 = 0 → io = 1 ∧ IXM (gc Lc 1) (gl la 1) lm1 mo1) ∧ (c1 ≠ 0 → mo1 = mo ∧ lm1 = lm) ∧ (c1 ≠ 0 → io = 1 → NIX (gc Lc 1) (gl la 1)) ∧ (c1 = 0 → z = mo1) ∧ (c1 = 1 → io ≠ 1) ∧ (c1 = 2 → io = 1 ∧ NIX (gc Lc 1) (gl la 1)) ∧ (0 ≤ c1 ∧ c1 ≤ 2)) := by
  have r0 := hM.rg
  have n0 := hM.len
  have loop48 : ∀ (f48 : Nat) (k : Int) (c9 : Int) (mo9 : Int) (lm9 : List Int32) (rw9 : Int) (en9 : Int) (wy9 : Int) (wh9 : Int) (bi9 : Int) (ed9 : Int) (sz9 : Int) (md9 : Int) (bd9 : Int) (Lc9 : List Int64) (la9 : List Int32) (lk9 : List Int32) (lh9 : List Int32) (ld9 : List Int32) (lt9 : List Int32) (li9 : Int) (τ : qH), MS τ c9 io mo9 fa pl ns rw9 en9 wy9 wh9 bi9 ed9 sz9 md9 bd9 li9 wk we Lc9 la9 lm9 ln lh9 ld9 lk9 lt9 → FM σ τ → RG [2, 4, 5] Lc Lc9 → LG [2, 4, 5] la la9 → 0 ≤ k → k ≤ li9 → (mo9 = li9 ∧ c9 = 0) → (∀ j : Int, 0 ≤ j → j < k → gl lm9 j = gl lt9 j) → (∀ j : Int, 0 ≤ j → j < li9 → gl lt9 j < W2 (gc Lc9 1) (EN (gc Lc9 1) (gl la9 1) + 8)) → io = 1 → IXM (gc Lc 1) (gl la 1) lt9 li9 → (li9 - k).toNat < f48 → T ξ (d + 10) j_M_index 48 [(0, .ref 137), (1, J k)] [] τ (fun v σ' => ∃ (z : Int) (c1 : Int) (fa1 : Int) (pl1 : Int) (mo1 : Int) (lm1 : List Int32) (rw1 : Int) (en1 : Int) (wy1 : Int) (wh1 : Int) (bi1 : Int) (ed1 : Int) (sz1 : Int) (md1 : Int) (bd1 : Int) (Lc1 : List Int64) (la1 : List Int32) (lk1 : List Int32) (lh1 : List Int32) (ld1 : List Int32) (lt1 : List Int32) (li1 : Int), v = some (J z) ∧ MS σ' c1 io mo1 fa1 pl1 ns rw1 en1 wy1 wh1 bi1 ed1 sz1 md1 bd1 li1 wk we Lc1 la1 lm1 ln lh1 ld1 lk1 lt1 ∧ FM σ σ' ∧ -2147483648 ≤ z ∧ z ≤ 2147483647 ∧ OKM Lc1 la1 lm1 io mo1 ∧ gl la1 0 = gl la 0 ∧ gc Lc1 0 = gc Lc 0 ∧ gc Lc1 1 = gc Lc 1 ∧ gl la1 1 = gl la 1 ∧ (c1 = 0 → io = 1 ∧ IXM (gc Lc 1) (gl la 1) lm1 mo1) ∧ (c1 ≠ 0 → mo1 = mo ∧ lm1 = lm) ∧ (c1 ≠ 0 → io = 1 → NIX (gc Lc 1) (gl la 1)) ∧ (c1 = 0 → z = mo1) ∧ (c1 = 1 → io ≠ 1) ∧ (c1 = 2 → io = 1 ∧ NIX (gc Lc 1) (gl la 1)) ∧ (0 ≤ c1 ∧ c1 ≤ 2)) := by
    intro f48
    induction f48 with
    | zero => intro k c9 mo9 lm9 rw9 en9 wy9 wh9 bi9 ed9 sz9 md9 bd9 Lc9 la9 lk9 lh9 ld9 lt9 li9 τ mτ fτ gτ kτ i0 i1 i2 i3 i4 i5 i6 hm48; omega
    | succ f48 ih48 =>
      intro k c9 mo9 lm9 rw9 en9 wy9 wh9 bi9 ed9 sz9 md9 bd9 Lc9 la9 lk9 lh9 ld9 lt9 li9 τ mτ fτ gτ kτ i0 i1 i2 i3 i4 i5 i6 hm48
      have rτ := mτ.rg
      have nτ := mτ.len
      refine T.go 2 (fun n9 => (rfl : _ = exe ξ n9 (d + 10) j_M_index 50 [(0, .ref 137), (1, J k)] [.ref 137, J k] τ)) ?_
      refine T.get rfl rfl rfl mτ.ob rfl ?_
      refine T.icmp_ge rfl rfl (by omega) (by omega) (fun c1 => ?_) (fun c1 => ?_)
      · refine T.go 1 (fun n9 => (rfl : _ = exe ξ n9 (d + 10) j_M_index 75 [(0, .ref 137), (1, J k)] [.ref 137] τ)) ?_
        refine T.get rfl rfl rfl mτ.ob rfl ?_
        exact T.ireti rfl rfl ⟨_, c9, fa, pl, mo9, lm9, rw9, en9, wy9, wh9, bi9, ed9, sz9, md9, bd9, Lc9, la9, lk9, lh9, ld9, lt9, li9, rfl, mτ, fτ, by omega, by omega, (by have kk := pre0.keep gτ kτ (by decide); exact fun _ => ⟨(kk (by omega)).1, fun j a b => by rw [i3 j a (by omega)]; exact i4 j a (by omega)⟩), (kτ 0 (by decide) (by decide)), (gτ 0 (by decide) (by decide)), (gτ 1 (by decide) (by decide)), (kτ 1 (by decide) (by decide)), (fun _ => ⟨by omega, ⟨by rw [show mo9 = li9 by omega]; exact i6.1, fun i a b => by rw [i3 i a (by omega)]; exact i6.2 i a (by omega)⟩⟩), (fun h => absurd (by omega) h), (fun h => absurd (by omega) h), by omega, by omega, (fun h => absurd h (by omega)), by omega⟩
      · refine T.go 1 (fun n9 => (rfl : _ = exe ξ n9 (d + 10) j_M_index 57 [(0, .ref 137), (1, J k)] [.ref 137] τ)) ?_
        refine T.get rfl rfl rfl mτ.ob rfl ?_
        refine T.go 2 (fun n9 => (rfl : _ = exe ξ n9 (d + 10) j_M_index 62 [(0, .ref 137), (1, J k)] [.ref 137, J k, .ref 140] τ)) ?_
        refine T.get rfl rfl rfl mτ.ob rfl ?_
        refine T.go 1 (fun n9 => (rfl : _ = exe ξ n9 (d + 10) j_M_index 66 [(0, .ref 137), (1, J k)] [J k, .ref 145, J k, .ref 140] τ)) ?_
        refine T.iald rfl rfl mτ.c145 (by omega) (fun z1 hzz1 hyz1 hez1 => ?_)
        have hbz1 := mτ.b145.at hez1 ⟨hzz1, hyz1⟩
        have gzz1 := gl_of hez1 ⟨hzz1, hyz1⟩
        subst gzz1
        refine T.mast140 mτ rfl (by omega) (by omega) (fun s1 ms1 fs1 => ?_)
        have ns1 := ms1.len
        have gs1 := fτ.trans fs1
        have gss1 : ∀ j : Int, 0 ≤ j → gl (lm9.set (k : Int).toNat (Int32.ofInt (gl lt9 k))) j = if j = k then gl lt9 k else gl lm9 j := fun j hj => gl_set ⟨by omega, by omega⟩ ⟨by omega, by omega⟩ hj
        have ges1 : gl (lm9.set (k : Int).toNat (Int32.ofInt (gl lt9 k))) k = gl lt9 k := (gss1 k (by omega)).trans (if_pos rfl)
        refine T.iinc (lv' := [(0, .ref 137), (1, J (k + 1))]) rfl rfl rfl rfl ?_
        refine T.go 1 (fun n9 => (rfl : _ = exe ξ n9 (d + 10) j_M_index 48 [(0, .ref 137), (1, J (k + 1))] [] s1)) ?_
        exact ih48  (k + 1) c9 mo9 (lm9.set (k : Int).toNat (Int32.ofInt (gl lt9 k))) rw9 en9 wy9 wh9 bi9 ed9 sz9 md9 bd9 Lc9 la9 lk9 lh9 ld9 lt9 li9 s1 ms1 gs1 gτ kτ (by omega) (by omega) (by omega) (fun j a b => if q : j = k then (by rw [q]; exact ges1) else ((gss1 j a).trans (if_neg q)).trans (i3 j a (by omega))) i4 (by omega) i6 (by omega)
  refine T.go 2 (fun n9 => (rfl : _ = exe ξ n9 (d + 10) j_M_index 2 [(0, .ref 137)] [.ref 137, .ref 137] σ)) ?_
  refine T.get rfl rfl rfl hM.ob rfl ?_
  refine T.if_eq rfl rfl (by omega) (fun c2 => ?_) (fun c2 => ?_)
  · refine T.go 1 (fun n9 => (rfl : _ = exe ξ n9 (d + 10) j_M_index 13 [(0, .ref 137)] [J 1, .ref 137] σ)) ?_
    refine T.mput (c' := 1) (io' := io) (mo' := mo) (fa' := fa) (pl' := pl) (ns' := ns) (rw' := rw) (en' := en) (wy' := wy) (wh' := wh) (bi' := bi) (ed' := ed) (sz' := sz) (md' := md) (bd' := bd) (li' := li) (wk' := wk) (we' := we) hM rfl rfl rfl rfl rfl rfl (by omega) (fun s2 ms2 fs2 => ?_)
    refine T.go 1 (fun n9 => (rfl : _ = exe ξ n9 (d + 10) j_M_index 17 [(0, .ref 137)] [.ref 137] s2)) ?_
    refine T.get rfl rfl rfl ms2.ob rfl ?_
    refine T.go 2 (fun n9 => (rfl : _ = exe ξ n9 (d + 10) j_M_index 24 [(0, .ref 137)] [J 0] s2)) ?_
    exact T.ireti rfl rfl ⟨_, 1, fa, pl, mo, lm, rw, en, wy, wh, bi, ed, sz, md, bd, Lc, la, lk, lh, ld, lt, li, rfl, ms2, fs2, by omega, by omega, (pre0.keep (RG.refl (S := [2, 4, 5])) (LG.refl (S := [2, 4, 5])) (by decide)), ((LG.refl (S := [2, 4, 5])) 0 (by decide) (by decide)), ((RG.refl (S := [2, 4, 5])) 0 (by decide) (by decide)), ((RG.refl (S := [2, 4, 5])) 1 (by decide) (by decide)), ((LG.refl (S := [2, 4, 5])) 1 (by decide) (by decide)), (fun h => absurd h (by omega)), (fun _ => ⟨rfl, rfl⟩), (fun _ h => by exfalso; omega), by omega, by omega, (fun h => absurd h (by omega)), by omega⟩
  · refine T.go 2 (fun n9 => (rfl : _ = exe ξ n9 (d + 10) j_M_index 13 [(0, .ref 137)] [J 0, .ref 137] σ)) ?_
    refine T.mput (c' := 0) (io' := io) (mo' := mo) (fa' := fa) (pl' := pl) (ns' := ns) (rw' := rw) (en' := en) (wy' := wy) (wh' := wh) (bi' := bi) (ed' := ed) (sz' := sz) (md' := md) (bd' := bd) (li' := li) (wk' := wk) (we' := we) hM rfl rfl rfl rfl rfl rfl (by omega) (fun s3 ms3 fs3 => ?_)
    refine T.go 1 (fun n9 => (rfl : _ = exe ξ n9 (d + 10) j_M_index 17 [(0, .ref 137)] [.ref 137] s3)) ?_
    refine T.get rfl rfl rfl ms3.ob rfl ?_
    refine T.go 2 (fun n9 => (rfl : _ = exe ξ n9 (d + 10) j_M_index 26 [(0, .ref 137)] [.ref 137] s3)) ?_
    have okk := pre0 (by omega)
    have ok1 := okk.1
    refine T.callv (as := []) (r := []) rfl rfl rfl rfl ms3.ob rfl (s_M_fisIndexWrong d  s3 ms3 (by omega)) (fun v1 s4 hqs4 => ?_)
    obtain ⟨z2, rw_1, en_1, wy_1, wh_1, bi_1, ed_1, sz_1, md_1, bd_1, Lc_1, la_1, lk_1, lh_1, ld_1, lt_1, li_1, rfl, ms4, fs4, hzz2, hyz2, pz2_0, pz2_1, pz2_2, pz2_3, pz2_4⟩ := hqs4
    have ns4 := ms4.len
    have rs4 := ms4.rg
    have gs4 := fs3.trans fs4
    have rgs4 := (RG.refl (S := [2, 4, 5])).trans pz2_0 (by decide)
    have lgs4 := (LG.refl (S := [2, 4, 5])).trans pz2_1 (by decide)
    refine T.if_eq rfl rfl (by omega) (fun c3 => ?_) (fun c3 => ?_)
    · refine T.go 2 (fun n9 => (rfl : _ = exe ξ n9 (d + 10) j_M_index 40 [(0, .ref 137)] [.ref 137, .ref 137] s4)) ?_
      refine T.get rfl rfl rfl ms4.ob rfl ?_
      refine T.mput (c' := 0) (io' := io) (mo' := li_1) (fa' := fa) (pl' := pl) (ns' := ns) (rw' := rw_1) (en' := en_1) (wy' := wy_1) (wh' := wh_1) (bi' := bi_1) (ed' := ed_1) (sz' := sz_1) (md' := md_1) (bd' := bd_1) (li' := li_1) (wk' := wk) (we' := we) ms4 rfl rfl rfl rfl rfl rfl (by omega) (fun s5 ms5 fs5 => ?_)
      have gs5 := gs4.trans fs5
      refine T.go 2 (fun n9 => (rfl : _ = exe ξ n9 (d + 10) j_M_index 48 [(0, .ref 137), (1, J 0)] [] s5)) ?_
      exact loop48 _ 0 0 li_1 lm rw_1 en_1 wy_1 wh_1 bi_1 ed_1 sz_1 md_1 bd_1 Lc_1 la_1 lk_1 lh_1 ld_1 lt_1 li_1 s5 ms5 gs5 rgs4 lgs4 (by omega) (by omega) (by omega) (fun j a b => absurd b (by omega)) (fun j a b => by have c8 := pz2_0 1 (by decide) (by decide); have l8 := pz2_1 1 (by decide) (by decide); rw [c8, l8]; exact pz2_2 (by omega) j a b) (by omega) (pz2_3 (by omega)) (Nat.lt_succ_self _)
    · refine T.go 2 (fun n9 => (rfl : _ = exe ξ n9 (d + 10) j_M_index 34 [(0, .ref 137)] [J 2, .ref 137] s4)) ?_
      refine T.callv (as := [J 2]) (r := []) rfl rfl rfl rfl ms4.ob rfl (s_M_frefuseFault (d + 8) 2 s4 ms4 (by omega)) (fun v2 s6 hqs6 => ?_)
      obtain ⟨z3, c_1, fa_1, pl_1, rfl, ms6, fs6, hzz3, hyz3, pz3_0⟩ := hqs6
      have ns6 := ms6.len
      have rs6 := ms6.rg
      have gs6 := gs4.trans fs6
      exact T.ireti rfl rfl ⟨_, c_1, fa_1, pl_1, mo, lm, rw_1, en_1, wy_1, wh_1, bi_1, ed_1, sz_1, md_1, bd_1, Lc_1, la_1, lk_1, lh_1, ld_1, lt_1, li_1, rfl, ms6, gs6, by omega, by omega, (pre0.keep rgs4 lgs4 (by decide)), (lgs4 0 (by decide) (by decide)), (rgs4 0 (by decide) (by decide)), (rgs4 1 (by decide) (by decide)), (lgs4 1 (by decide) (by decide)), (fun h => absurd h (by omega)), (fun _ => ⟨rfl, rfl⟩), (fun _ _ => pz2_4 (by omega)), by omega, by omega, (fun _ => ⟨by omega, pz2_4 (by omega)⟩), by omega⟩
