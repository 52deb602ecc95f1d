/-! The model: archives used; counted. -/
set_option maxHeartbeats 4000000 in
theorem s_M_fuse {ξ : Nat → Option (Nat × List Int32)} {c io mo fa pl ns rw en wy wh bi ed sz md bd li wk we : Int} {Lc : List Int64} {la lm ln lh ld lk lt : List Int32} (d : Nat) (x : Int) (σ : qH) (hM : MS σ c io mo fa pl ns rw en wy wh bi ed sz md bd li wk we Lc la lm ln lh ld lk lt) (rx : -2147483648 ≤ x ∧ x ≤ 2147483647) (pre0 : FOn (gc Lc 1) (gl la 1) = 1) (pre1 : 0 ≤ x) (pre2 : x ≤ mo) (pre3 : ∀ j : Int, 0 ≤ j → j < mo → gl lm j < W2 (gc Lc 1) (EN (gc Lc 1) (gl la 1) + 8)) (pre4 : MTS (gc Lc 1) (gl la 1) lm mo) : T ξ (d + 7) j_M_use 0 (lv_args 0 [.ref 137, J x]) [] σ (fun v σ' => ∃ (rw1 : Int) (en1 : Int) (wy1 : Int) (wh1 : Int) (bi1 : Int) (ed1 : Int) (sz1 : Int) (md1 : Int) (bd1 : Int) (Lc1 : List Int64) (la1 : List Int32) (lk1 : List Int32) (lh1 : List Int32) (ld1 : List Int32), v = none ∧ MS σ' c io mo fa pl ns rw1 en1 wy1 wh1 bi1 ed1 sz1 md1 bd1 li wk we Lc1 la1 lm ln lh1 ld1 lk1 lt ∧ FM σ σ' ∧ RG [2, 4] Lc Lc1 ∧ LG [2, 4] la la1 ∧ HD (gc Lc1 rw1) lh1 ld1 en1 ∧ (x = 0 → rw1 = 1 ∧ en1 = W2 (gc Lc 1) (EN (gc Lc 1) (gl la 1) + 8)) ∧ 1 ≤ rw1 ∧ rw1 ≤ 2 ∧ (x = 0 → HDJ (gc Lc 1) (gl la 1) lh1 ld1 en1) ∧ (1 ≤ x → ENx (gc Lc 1) (gl la 1) (gl lm (x - 1)) en1)) := by
  have r0 := hM.rg
  have n0 := hM.len
  refine T.go 2 (fun n9 => (rfl : _ = exe ξ n9 (d + 7) j_M_use 2 [(0, .ref 137), (1, J x)] [J 1, .ref 137] σ)) ?_
  refine T.callv (as := [J 1]) (r := []) rfl rfl rfl rfl hM.ob rfl (s_M_isFaulty d 1 σ hM (by omega) (by omega) (by omega)) (fun v1 s1 hqs1 => ?_)
  obtain ⟨z1, rw_1, en_1, wy_1, wh_1, lh_1, ld_1, rfl, ms1, fs1, hzz1, hyz1, pz1_0, pz1_1, pz1_2, pz1_3, pz1_4, pz1_5, pz1_6, pz1_7⟩ := hqs1
  have ns1 := ms1.len
  have rs1 := ms1.rg
  have hdz1 : HD (gc Lc rw_1) lh_1 ld_1 en_1 := by rw [pz1_3]; exact fun j a b => ⟨(pz1_5 j a b).1, (pz1_5 j a b).2, (pz1_4 j a b).1, (pz1_4 j a b).2⟩
  have hj1 : HDJ (gc Lc 1) (gl la 1) lh_1 ld_1 en_1 := fun j a b => ⟨pz1_6 j a b, pz1_7 j a b⟩
  refine T.go 2 (fun n9 => (rfl : _ = exe ξ n9 (d + 7) j_M_use 7 [(0, .ref 137), (1, J x), (2, J z1)] [J x] s1)) ?_
  refine T.if_ne rfl rfl (by omega) (fun c1 => ?_) (fun c1 => ?_)
  · refine T.go 2 (fun n9 => (rfl : _ = exe ξ n9 (d + 7) j_M_use 13 [(0, .ref 137), (1, J x), (2, J z1)] [.ref 137, .ref 137] s1)) ?_
    refine T.get rfl rfl rfl ms1.ob rfl ?_
    refine T.go 2 (fun n9 => (rfl : _ = exe ξ n9 (d + 7) j_M_use 18 [(0, .ref 137), (1, J x), (2, J z1)] [J 1, J x, .ref 140, .ref 137] s1)) ?_
    refine T.isub rfl ?_
    refine T.iald rfl rfl ms1.c140 (by omega) (fun z2 hzz2 hyz2 hez2 => ?_)
    have hbz2 := ms1.b140.at hez2 ⟨hzz2, hyz2⟩
    have gzz2 := gl_of hez2 ⟨hzz2, hyz2⟩
    subst gzz2
    have hj := pre3 (x - 1) (by omega) (by omega)
    have hx := hdz1 (gl lm (x - 1)) (by omega) (by omega)
    refine T.callv (as := [J (gl lm (x - 1))]) (r := []) rfl rfl rfl rfl ms1.ob rfl (s_M_fisUnread d (gl lm (x - 1)) s1 ms1 (by omega) (by omega) (by omega) (by omega) (by omega) (by omega) (by omega)) (fun v2 s2 hqs2 => ?_)
    obtain ⟨z3, wy_2, wh_2, bi_1, ed_1, sz_1, md_1, bd_1, Lc_1, la_1, lk_1, rfl, ms2, fs2, hzz3, hyz3, pz3_0, pz3_1, pz3_2, pz3_3⟩ := hqs2
    have ns2 := ms2.len
    have rs2 := ms2.rg
    have gs2 := fs1.trans fs2
    have rgs2 := (RG.refl (S := [2, 4])).trans pz3_0 (by decide)
    have lgs2 := (LG.refl (S := [2, 4])).trans pz3_1 (by decide)
    refine T.go 4 (fun n9 => (rfl : _ = exe ξ n9 (d + 7) j_M_use 27 [(0, .ref 137), (1, J x), (2, J z3)] [J 2, J 4, .ref 137] s2)) ?_
    refine T.callv (as := [J 4, J 2]) (r := []) rfl rfl rfl rfl ms2.ob rfl (s_M_copyRow (d + 6) 4 2 s2 ms2 (by omega) (by omega) (by omega) (by omega) (by omega) (by omega) (by omega)) (fun v3 s3 hqs3 => ?_)
    obtain ⟨Lc_2, la_2, rfl, ms3, fs3, pz4_0, pz4_1, pz4_2, pz4_3⟩ := hqs3
    have ns3 := ms3.len
    have rs3 := ms3.rg
    have gs3 := gs2.trans fs3
    have rgs3 := rgs2.trans pz4_0 (by decide)
    have lgs3 := lgs2.trans pz4_1 (by decide)
    refine T.go 2 (fun n9 => (rfl : _ = exe ξ n9 (d + 7) j_M_use 32 [(0, .ref 137), (1, J x), (2, J z3)] [J 2, .ref 137] s3)) ?_
    refine T.callv (as := [J 2]) (r := []) rfl rfl rfl rfl ms3.ob rfl (s_M_isFaulty d 2 s3 ms3 (by omega) (by omega) (by omega)) (fun v4 s4 hqs4 => ?_)
    obtain ⟨z5, rw_2, en_2, wy_3, wh_3, lh_2, ld_2, rfl, ms4, fs4, hzz5, hyz5, pz5_0, pz5_1, pz5_2, pz5_3, pz5_4, pz5_5, pz5_6, pz5_7⟩ := hqs4
    have ns4 := ms4.len
    have rs4 := ms4.rg
    have gs4 := gs3.trans fs4
    have hdz5 : HD (gc Lc_2 rw_2) lh_2 ld_2 en_2 := by rw [pz5_3]; exact fun j a b => ⟨(pz5_5 j a b).1, (pz5_5 j a b).2, (pz5_4 j a b).1, (pz5_4 j a b).2⟩
    obtain ⟨oq, mq1, mq2⟩ := pre4 (x - 1) (by omega) (by omega)
    have hjy := hj1 (gl lm (x - 1)) (by omega) (by omega)
    rw [← hjy.1, ← hjy.2] at mq1
    rw [← hjy.1] at mq2
    have rwe := pz1_3
    subst rwe
    have zu9 : z3 = 0 := by rcases (by omega : z3 = 0 ∨ z3 = 1) with h | h; (· exact h); (exact absurd mq1 (pz3_3 h oq))
    have ru := pz3_2 zu9
    have q0 := pz5_0
    have q1 := pz5_1
    rw [pz4_2, pz4_3, ru.2.2, ← ru.2.1] at q0 q1
    have e9 := RD_one ru.1 mq1
    rw [← e9, ← ru.2.1] at mq2
    have fo := nm_fo (Lc := Lc_1) (m := md_1)
    have fo2 := fo.2 mq2
    have fo1 := fo.1 fo2
    have enx : ENx (gc Lc 1) (gl la 1) (gl lm (x - 1)) en_2 := ⟨_, ⟨by rw [← hjy.1, ← hjy.2]; exact ru.1, by rw [← hjy.1, ← ru.2.1]; exact fo1.1⟩, by rw [← hjy.1, ← ru.2.1]; exact (q1 (by omega)).trans fo1.2.symm⟩
    refine T.go 1 (fun n9 => (rfl : _ = exe ξ n9 (d + 7) j_M_use 36 [(0, .ref 137), (1, J x), (2, J z5)] [] s4)) ?_
    exact T.vret rfl rfl ⟨rw_2, en_2, wy_3, wh_3, bi_1, ed_1, sz_1, md_1, bd_1, Lc_2, la_2, lk_1, lh_2, ld_2, rfl, ms4, gs4, rgs3, lgs3, hdz5, by omega, by omega, by omega, (fun h => absurd h (by omega)), (fun _ => enx)⟩
  · exact T.vret rfl rfl ⟨rw_1, en_1, wy_1, wh_1, bi, ed, sz, md, bd, Lc, la, lk, lh_1, ld_1, rfl, ms1, fs1, RG.refl, LG.refl, hdz1, by omega, by omega, by omega, (fun _ => hj1), (fun h => absurd h (by omega))⟩

set_option maxHeartbeats 4000000 in
theorem s_M_fisArchive {ξ : Nat → Option (Nat × List Int32)} {c io mo fa pl ns rw en wy wh bi ed sz md bd li wk we : Int} {Lc : List Int64} {la lm ln lh ld lk lt : List Int32} (d : Nat) (x : Int) (σ : qH) (hM : MS σ c io mo fa pl ns rw en wy wh bi ed sz md bd li wk we Lc la lm ln lh ld lk lt) (rx : -2147483648 ≤ x ∧ x ≤ 2147483647) : T ξ (d + 1) j_M_isArchive 0 (lv_args 0 [.ref 137, J x]) [] σ (fun v σ' => ∃ (z : Int), v = some (J z) ∧ σ' = σ ∧ 0 ≤ z ∧ z ≤ 1 ∧ (z = 1 → io = 1 ∧ 0 ≤ x ∧ x ≤ mo) ∧ (z = 0 → ¬ (io = 1 ∧ 0 ≤ x ∧ x ≤ mo))) := by
  have r0 := hM.rg
  have n0 := hM.len
  refine T.go 1 (fun n9 => (rfl : _ = exe ξ n9 (d + 1) j_M_isArchive 1 [(0, .ref 137), (1, J x)] [.ref 137] σ)) ?_
  refine T.get rfl rfl rfl hM.ob rfl ?_
  refine T.if_eq rfl rfl (by omega) (fun c1 => ?_) (fun c1 => ?_)
  · refine T.go 1 (fun n9 => (rfl : _ = exe ξ n9 (d + 1) j_M_isArchive 24 [(0, .ref 137), (1, J x)] [J 0] σ)) ?_
    exact T.iretz rfl rfl (by omega) ⟨_, rfl, rfl, by omega, by omega, by omega, by omega⟩
  · refine T.go 3 (fun n9 => (rfl : _ = exe ξ n9 (d + 1) j_M_isArchive 10 [(0, .ref 137), (1, J x)] [.ref 137, J 0, J x] σ)) ?_
    refine T.get rfl rfl rfl hM.ob rfl ?_
    refine T.calls (as := [J x, J 0, J mo]) (r := []) rfl rfl (by decide) rfl rfl (s_M_in d x 0 mo σ (by omega) (by omega) (by omega)) (fun v1 s1 hqs1 => ?_)
    obtain ⟨z1, rfl, esz1, hzz1, hyz1, pz1_0, pz1_1⟩ := hqs1
    rw [esz1]
    refine T.if_eq rfl rfl (by omega) (fun c2 => ?_) (fun c2 => ?_)
    · refine T.go 1 (fun n9 => (rfl : _ = exe ξ n9 (d + 1) j_M_isArchive 24 [(0, .ref 137), (1, J x)] [J 0] σ)) ?_
      exact T.iretz rfl rfl (by omega) ⟨_, rfl, rfl, by omega, by omega, by omega, by omega⟩
    · refine T.go 2 (fun n9 => (rfl : _ = exe ξ n9 (d + 1) j_M_isArchive 24 [(0, .ref 137), (1, J x)] [J 1] σ)) ?_
      exact T.iretz rfl rfl (by omega) ⟨_, rfl, rfl, by omega, by omega, by omega, by omega⟩
