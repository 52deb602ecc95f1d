/-! The model: mounting. -/
set_option maxHeartbeats 4000000 in
theorem s_M_fisNoMount {ξ : Nat → Option (Nat × List Int32)} {c io mo fa pl ns rw en wy wh bi ed sz md bd li wk we : Int} {Lc : List Int64} {la lm ln lh ld lk lt : List Int32} (d : Nat) (x : Int) (σ : qH) (hM : MS σ c io mo fa pl ns rw en wy wh bi ed sz md bd li wk we Lc la lm ln lh ld lk lt) (rx : -2147483648 ≤ x ∧ x ≤ 2147483647) (pre0 : 0 ≤ x) (pre1 : x ≤ 63) (pre2 : gl lh x ≤ 7932) (pre3 : 0 ≤ gl ld x) (pre4 : gl ld x + W4 (gc Lc rw) (gl lh x + 20) ≤ 8000) (pre5 : rw ≤ 3) : T ξ (d + 7) j_M_isNoMount 0 (lv_args 0 [.ref 137, J x]) [] σ (fun v σ' => ∃ (z : Int) (rw1 : Int) (en1 : Int) (wy1 : Int) (wh1 : Int) (bi1 : Int) (ed1 : Int) (sz1 : Int) (md1 : Int) (bd1 : Int) (Lc1 : List Int64) (la1 : List Int32) (lk1 : List Int32) (lh1 : List Int32) (ld1 : List Int32), v = some (J z) ∧ MS σ' c io mo fa pl ns rw1 en1 wy1 wh1 bi1 ed1 sz1 md1 bd1 li wk we Lc1 la1 lm ln lh1 ld1 lk1 lt ∧ FM σ σ' ∧ 0 ≤ z ∧ z ≤ 1 ∧ RG [2, 4] Lc Lc1 ∧ LG [2, 4] la la1 ∧ (z = 0 → MNx (gc Lc rw) (gl lh x) (gl ld x) en1) ∧ (z = 1 → NMx (gc Lc rw) (gl lh x) (gl ld x))) := by
  have r0 := hM.rg
  have n0 := hM.len
  refine T.go 2 (fun n9 => (rfl : _ = exe ξ n9 (d + 7) j_M_isNoMount 2 [(0, .ref 137), (1, J x)] [J x, .ref 137] σ)) ?_
  refine T.callv (as := [J x]) (r := []) rfl rfl rfl rfl hM.ob rfl (s_M_fisUnread d x σ hM (by omega) (by omega) (by omega) (by omega) (by omega) (by omega) (by omega)) (fun v1 s1 hqs1 => ?_)
  obtain ⟨z1, wy_1, wh_1, bi_1, ed_1, sz_1, md_1, bd_1, Lc_1, la_1, lk_1, rfl, ms1, fs1, hzz1, hyz1, pz1_0, pz1_1, pz1_2, pz1_3⟩ := hqs1
  have ns1 := ms1.len
  have rs1 := ms1.rg
  have rgs1 := (RG.refl (S := [2, 4])).trans pz1_0 (by decide)
  have lgs1 := (LG.refl (S := [2, 4])).trans pz1_1 (by decide)
  refine T.if_eq rfl rfl (by omega) (fun c1 => ?_) (fun c1 => ?_)
  · refine T.go 3 (fun n9 => (rfl : _ = exe ξ n9 (d + 7) j_M_isNoMount 13 [(0, .ref 137), (1, J x)] [J 2, J 4, .ref 137] s1)) ?_
    refine T.callv (as := [J 4, J 2]) (r := []) rfl rfl rfl rfl ms1.ob rfl (s_M_copyRow (d + 6) 4 2 s1 ms1 (by omega) (by omega) (by omega) (by omega) (by omega) (by omega) (by omega)) (fun v2 s2 hqs2 => ?_)
    obtain ⟨Lc_2, la_2, rfl, ms2, fs2, pz2_0, pz2_1, pz2_2, pz2_3⟩ := hqs2
    have ns2 := ms2.len
    have rs2 := ms2.rg
    have gs2 := fs1.trans fs2
    have rgs2 := rgs1.trans pz2_0 (by decide)
    have lgs2 := lgs1.trans pz2_1 (by decide)
    refine T.go 2 (fun n9 => (rfl : _ = exe ξ n9 (d + 7) j_M_isNoMount 18 [(0, .ref 137), (1, J x)] [J 2, .ref 137] s2)) ?_
    refine T.callv (as := [J 2]) (r := []) rfl rfl rfl rfl ms2.ob rfl (s_M_isFaulty d 2 s2 ms2 (by omega) (by omega) (by omega)) (fun v3 s3 hqs3 => ?_)
    obtain ⟨z3, rw_1, en_1, wy_2, wh_2, lh_1, ld_1, rfl, ms3, fs3, hzz3, hyz3, pz3_0, pz3_1, pz3_2, pz3_3, pz3_4, pz3_5, pz3_6, pz3_7⟩ := hqs3
    have ns3 := ms3.len
    have rs3 := ms3.rg
    have gs3 := gs2.trans fs3
    have ru := pz1_2 (by omega)
    have q0 := pz3_0
    have q1 := pz3_1
    rw [pz2_2, pz2_3, ru.2.2, ← ru.2.1] at q0 q1
    have fo := nm_fo (Lc := Lc_1) (m := md_1)
    have f01 := FOn_01 (gc Lc_1 4) md_1
    exact T.iretz rfl rfl (by omega) ⟨_, rw_1, en_1, wy_2, wh_2, bi_1, ed_1, sz_1, md_1, bd_1, Lc_2, la_2, lk_1, lh_1, ld_1, rfl, ms3, gs3, by omega, by omega, rgs2, lgs2, (fun h => by have f1 := fo.1 (by omega); refine ⟨_, ru.1, ?_, ?_⟩; (· rw [← ru.2.1]; exact f1.1); (rw [← ru.2.1]; exact (q1 (by omega)).trans f1.2.symm)), (fun h o q => by have e9 := RD_one ru.1 q.1; have q9 := q.2; rw [← e9, ← ru.2.1] at q9; have := fo.2 q9; omega)⟩
  · refine T.go 1 (fun n9 => (rfl : _ = exe ξ n9 (d + 7) j_M_isNoMount 9 [(0, .ref 137), (1, J x)] [J 1] s1)) ?_
    exact T.iretz rfl rfl (by omega) ⟨_, rw, en, wy_1, wh_1, bi_1, ed_1, sz_1, md_1, bd_1, Lc_1, la_1, lk_1, lh, ld, rfl, ms1, fs1, by omega, by omega, rgs1, lgs1, (fun h => absurd h (by omega)), (fun _ o q => pz1_3 (by omega) o q.1)⟩
