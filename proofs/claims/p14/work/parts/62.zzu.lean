/-! The model: index. -/
set_option maxHeartbeats 4000000 in
theorem s_M_fisIndexWrong {ξ : Nat → Option (Nat × List Int32)} {c io mo fa pl ns rw en wy wh bi ed sz md bd li wk we : Int} {Lc : List Int64} {la lm ln lh ld lk lt : List Int32} (d : Nat)  (σ : qH) (hM : MS σ c io mo fa pl ns rw en wy wh bi ed sz md bd li wk we Lc la lm ln lh ld lk lt) (pre0 : FOn (gc Lc 1) (gl la 1) = 1) : T ξ (d + 9) j_M_isIndexWrong 0 (lv_args 0 [.ref 137]) [] σ (fun v σ' => ∃ (z : Int) (rw1 : Int) (en1 : Int) (wy1 : Int) (wh1 : Int) (bi1 : Int) (ed1 : Int) (sz1 : Int) (md1 : Int) (bd1 : Int) (Lc1 : List Int64) (la1 : List Int32) (lk1 : List Int32) (lh1 : List Int32) (ld1 : List Int32) (lt1 : List Int32) (li1 : Int), v = some (J z) ∧ MS σ' c io mo fa pl ns rw1 en1 wy1 wh1 bi1 ed1 sz1 md1 bd1 li1 wk we Lc1 la1 lm ln lh1 ld1 lk1 lt1 ∧ FM σ σ' ∧ 0 ≤ z ∧ z ≤ 1 ∧ RG [2, 4, 5] Lc Lc1 ∧ LG [2, 4, 5] la la1 ∧ (z = 0 → ∀ j : Int, 0 ≤ j → j < li1 → gl lt1 j < W2 (gc Lc 1) (EN (gc Lc 1) (gl la 1) + 8)) ∧ (z = 0 → IXM (gc Lc 1) (gl la 1) lt1 li1) ∧ (z = 1 → NIX (gc Lc 1) (gl la 1))) := by
  have r0 := hM.rg
  have n0 := hM.len
  have loop47 : ∀ (f47 : Nat) (u1 : Int) (u2 : Int) (f3 : Int) (rw9 : Int) (en9 : Int) (wy9 : Int) (wh9 : Int) (bi9 : Int) (ed9 : Int) (sz9 : Int) (md9 : Int) (bd9 : Int) (Lc9 : List Int64) (la9 : List Int32) (lk9 : List Int32) (lh9 : List Int32) (ld9 : List Int32) (lt9 : List Int32) (li9 : Int) (τ : qH), MS τ c io mo fa pl ns rw9 en9 wy9 wh9 bi9 ed9 sz9 md9 bd9 li9 wk we Lc9 la9 lm ln lh9 ld9 lk9 lt9 → FM σ τ → RG [2, 4, 5] Lc Lc9 → LG [2, 4, 5] la la9 → 0 ≤ f3 → f3 ≤ gl la9 5 → -10 ≤ u1 → u1 ≤ 10 → (-10 ≤ u2 ∧ u2 ≤ 100) → (0 ≤ li9 ∧ li9 ≤ 6) → IXR (gc Lc 1) (gl la 1) (gc Lc9 5) (gl la9 5) lt9 li9 f3 → (∀ j : Int, 0 ≤ j → j < li9 → gl lt9 j < W2 (gc Lc 1) (EN (gc Lc 1) (gl la 1) + 8)) → (gl la9 5 - f3).toNat < f47 → T ξ (d + 9) j_M_isIndexWrong 47 [(0, .ref 137), (1, J u1), (2, J u2), (3, J f3)] [] τ (fun v σ' => ∃ (z : Int) (rw1 : Int) (en1 : Int) (wy1 : Int) (wh1 : Int) (bi1 : Int) (ed1 : Int) (sz1 : Int) (md1 : Int) (bd1 : Int) (Lc1 : List Int64) (la1 : List Int32) (lk1 : List Int32) (lh1 : List Int32) (ld1 : List Int32) (lt1 : List Int32) (li1 : Int), v = some (J z) ∧ MS σ' c io mo fa pl ns rw1 en1 wy1 wh1 bi1 ed1 sz1 md1 bd1 li1 wk we Lc1 la1 lm ln lh1 ld1 lk1 lt1 ∧ FM σ σ' ∧ 0 ≤ z ∧ z ≤ 1 ∧ RG [2, 4, 5] Lc Lc1 ∧ LG [2, 4, 5] la la1 ∧ (z = 0 → ∀ j : Int, 0 ≤ j → j < li1 → gl lt1 j < W2 (gc Lc 1) (EN (gc Lc 1) (gl la 1) + 8)) ∧ (z = 0 → IXM (gc Lc 1) (gl la 1) lt1 li1) ∧ (z = 1 → NIX (gc Lc 1) (gl la 1))) := by
    intro f47
    induction f47 with
    | zero => intro u1 u2 f3 rw9 en9 wy9 wh9 bi9 ed9 sz9 md9 bd9 Lc9 la9 lk9 lh9 ld9 lt9 li9 τ mτ fτ gτ kτ i0 i1 i2 i3 i4 i5 i6 i7 hm47; omega
    | succ f47 ih47 =>
      intro u1 u2 f3 rw9 en9 wy9 wh9 bi9 ed9 sz9 md9 bd9 Lc9 la9 lk9 lh9 ld9 lt9 li9 τ mτ fτ gτ kτ i0 i1 i2 i3 i4 i5 i6 i7 hm47
      have rτ := mτ.rg
      have nτ := mτ.len
      have loop60 : ∀ (f60 : Nat) (t4 : Int), f3 ≤ t4 → t4 ≤ gl la9 5 → f3 < gl la9 5 → N10 (gc Lc9 5) f3 t4 → (gl la9 5 - t4).toNat < f60 → T ξ (d + 9) j_M_isIndexWrong 60 [(0, .ref 137), (1, J u1), (2, J u2), (3, J f3), (4, J t4)] [] τ (fun v σ' => ∃ (z : Int) (rw1 : Int) (en1 : Int) (wy1 : Int) (wh1 : Int) (bi1 : Int) (ed1 : Int) (sz1 : Int) (md1 : Int) (bd1 : Int) (Lc1 : List Int64) (la1 : List Int32) (lk1 : List Int32) (lh1 : List Int32) (ld1 : List Int32) (lt1 : List Int32) (li1 : Int), v = some (J z) ∧ MS σ' c io mo fa pl ns rw1 en1 wy1 wh1 bi1 ed1 sz1 md1 bd1 li1 wk we Lc1 la1 lm ln lh1 ld1 lk1 lt1 ∧ FM σ σ' ∧ 0 ≤ z ∧ z ≤ 1 ∧ RG [2, 4, 5] Lc Lc1 ∧ LG [2, 4, 5] la la1 ∧ (z = 0 → ∀ j : Int, 0 ≤ j → j < li1 → gl lt1 j < W2 (gc Lc 1) (EN (gc Lc 1) (gl la 1) + 8)) ∧ (z = 0 → IXM (gc Lc 1) (gl la 1) lt1 li1) ∧ (z = 1 → NIX (gc Lc 1) (gl la 1))) := by
        intro f60
        induction f60 with
        | zero => intro t4 j0 j1 j2 j3 hm60; omega
        | succ f60 ih60 =>
          intro t4 j0 j1 j2 j3 hm60
          refine T.go 2 (fun n9 => (rfl : _ = exe ξ n9 (d + 9) j_M_isIndexWrong 63 [(0, .ref 137), (1, J u1), (2, J u2), (3, J f3), (4, J t4)] [.ref 137, J t4] τ)) ?_
          refine T.get rfl rfl rfl mτ.ob rfl ?_
          refine T.go 1 (fun n9 => (rfl : _ = exe ξ n9 (d + 9) j_M_isIndexWrong 67 [(0, .ref 137), (1, J u1), (2, J u2), (3, J f3), (4, J t4)] [J 5, .ref 139, J t4] τ)) ?_
          refine T.iald rfl rfl mτ.c139 (by omega) (fun z1 hzz1 hyz1 hez1 => ?_)
          have hbz1 := mτ.b139.at hez1 ⟨hzz1, hyz1⟩
          have gzz1 := gl_of hez1 ⟨hzz1, hyz1⟩
          subst gzz1
          refine T.icmp_ge rfl rfl (by omega) (by omega) (fun c1 => ?_) (fun c1 => ?_)
          · refine T.go 2 (fun n9 => (rfl : _ = exe ξ n9 (d + 9) j_M_isIndexWrong 92 [(0, .ref 137), (1, J u1), (2, J u2), (3, J f3), (4, J t4)] [.ref 137, J t4] τ)) ?_
            refine T.get rfl rfl rfl mτ.ob rfl ?_
            refine T.go 1 (fun n9 => (rfl : _ = exe ξ n9 (d + 9) j_M_isIndexWrong 96 [(0, .ref 137), (1, J u1), (2, J u2), (3, J f3), (4, J t4)] [J 5, .ref 139, J t4] τ)) ?_
            refine T.iald rfl rfl mτ.c139 (by omega) (fun z2 hzz2 hyz2 hez2 => ?_)
            have hbz2 := mτ.b139.at hez2 ⟨hzz2, hyz2⟩
            have gzz2 := gl_of hez2 ⟨hzz2, hyz2⟩
            subst gzz2
            refine T.icmp_ne rfl rfl (by omega) (by omega) (fun c2 => ?_) (fun c2 => ?_)
            · refine T.go 3 (fun n9 => (rfl : _ = exe ξ n9 (d + 9) j_M_isIndexWrong 115 [(0, .ref 137), (1, J u1), (2, J u2), (3, J f3), (4, J t4)] [J t4, J f3, .ref 137] τ)) ?_
              have c9 := gτ 1 (by decide) (by decide)
              have l9 := kτ 1 (by decide) (by decide)
              have f9 : FOn (gc Lc9 1) (gl la9 1) = 1 := by rw [c9, l9]; exact pre0
              have n9 : W2 (gc Lc9 1) (EN (gc Lc9 1) (gl la9 1) + 8) = W2 (gc Lc 1) (EN (gc Lc 1) (gl la 1) + 8) := by rw [c9, l9]
              refine T.callv (as := [J f3, J t4]) (r := []) rfl rfl rfl rfl mτ.ob rfl (s_M_fisLineWrong d f3 t4 τ mτ (by omega) (by omega) (by omega) (by omega) (by omega) (by omega) (by omega) (by omega) j3) (fun v1 s1 hqs1 => ?_)
              obtain ⟨z3, rw_1, en_1, wy_1, wh_1, bi_1, ed_1, sz_1, md_1, bd_1, Lc_1, la_1, lk_1, lh_1, ld_1, lt_1, rfl, ms1, fs1, hzz3, hyz3, pz3_0, pz3_1, pz3_2, pz3_3, pz3_4, pz3_5⟩ := hqs1
              have ns1 := ms1.len
              have rs1 := ms1.rg
              have gs1 := fτ.trans fs1
              have rgs1 := gτ.trans pz3_0 (by decide)
              have lgs1 := kτ.trans pz3_1 (by decide)
              have l5 := pz3_1 5 (by decide) (by decide)
              refine T.if_eq rfl rfl (by omega) (fun c3 => ?_) (fun c3 => ?_)
              · refine T.go 2 (fun n9 => (rfl : _ = exe ξ n9 (d + 9) j_M_isIndexWrong 125 [(0, .ref 137), (1, J u1), (2, J u2), (3, J f3), (4, J t4)] [.ref 137, .ref 137] s1)) ?_
                refine T.get rfl rfl rfl ms1.ob rfl ?_
                refine T.go 1 (fun n9 => (rfl : _ = exe ξ n9 (d + 9) j_M_isIndexWrong 129 [(0, .ref 137), (1, J u1), (2, J u2), (3, J f3), (4, J t4)] [J 1, J li9, .ref 137] s1)) ?_
                refine T.iadd rfl ?_
                refine T.mput (c' := c) (io' := io) (mo' := mo) (fa' := fa) (pl' := pl) (ns' := ns) (rw' := rw_1) (en' := en_1) (wy' := wy_1) (wh' := wh_1) (bi' := bi_1) (ed' := ed_1) (sz' := sz_1) (md' := md_1) (bd' := bd_1) (li' := li9 + 1) (wk' := wk) (we' := we) ms1 rfl rfl rfl rfl rfl rfl (by omega) (fun s2 ms2 fs2 => ?_)
                have gs2 := gs1.trans fs2
                refine T.go 2 (fun n9 => (rfl : _ = exe ξ n9 (d + 9) j_M_isIndexWrong 136 [(0, .ref 137), (1, J u1), (2, J u2), (3, J f3), (4, J t4)] [J 1, J t4] s2)) ?_
                refine T.iadd rfl ?_
                refine T.go 2 (fun n9 => (rfl : _ = exe ξ n9 (d + 9) j_M_isIndexWrong 47 [(0, .ref 137), (1, J u1), (2, J u2), (3, J (t4 + 1)), (4, J t4)] [] s2)) ?_
                refine T.drop (lv := [(0, .ref 137), (1, J u1), (2, J u2), (3, J (t4 + 1))]) [(4, J t4)] (by simp) ?_
                exact ih47  u1 u2 (t4 + 1) rw_1 en_1 wy_1 wh_1 bi_1 ed_1 sz_1 md_1 bd_1 Lc_1 la_1 lk_1 lh_1 ld_1 lt_1 (li9 + 1) s2 ms2 gs2 rgs1 lgs1 (by omega) (by omega) (by omega) (by omega) (by omega) (by omega) (IXR_s i6 (by omega) (by omega) (by have t := pz3_4 (by omega); rw [c9, l9] at t; exact t) pz3_3 (pz3_0 5 (by decide) (by decide)) (pz3_1 5 (by decide) (by decide))) (fun j a b => if q : j = li9 then (by have := pz3_2 (by omega); rw [q]; omega) else (by rw [pz3_3 j a (by omega)]; exact i7 j a (by omega))) (by omega)
              · refine T.go 1 (fun n9 => (rfl : _ = exe ξ n9 (d + 9) j_M_isIndexWrong 122 [(0, .ref 137), (1, J u1), (2, J u2), (3, J f3), (4, J t4)] [J 1] s1)) ?_
                exact T.iretz rfl rfl (by omega) ⟨_, rw_1, en_1, wy_1, wh_1, bi_1, ed_1, sz_1, md_1, bd_1, Lc_1, la_1, lk_1, lh_1, ld_1, lt_1, li9, rfl, ms1, gs1, by omega, by omega, rgs1, lgs1, (fun q => absurd q (by omega)), (fun q => absurd q (by omega)), (fun _ => IXR_no pre0 i6 (by omega) (by omega) (by omega) (by have t := pz3_5 (by omega); rw [c9, l9] at t; exact t))⟩
            · refine T.go 3 (fun n9 => (rfl : _ = exe ξ n9 (d + 9) j_M_isIndexWrong 104 [(0, .ref 137), (1, J u1), (2, J u2), (3, J f3), (4, J t4)] [.ref 137, J 11, .ref 137] τ)) ?_
              refine T.get rfl rfl rfl mτ.ob rfl ?_
              refine T.callv (as := [J 11, J li9]) (r := []) rfl rfl rfl rfl mτ.ob rfl (s_M_isWrong (d + 8) 11 li9 τ mτ (by omega) (by omega)) (fun v2 s3 hqs3 => ?_)
              obtain ⟨z4, wy_2, wh_2, rfl, ms3, fs3, hzz4, hyz4⟩ := hqs3
              have ns3 := ms3.len
              have rs3 := ms3.rg
              have gs3 := fτ.trans fs3
              exact T.iretz rfl rfl (by omega) ⟨_, rw9, en9, wy_2, wh_2, bi9, ed9, sz9, md9, bd9, Lc9, la9, lk9, lh9, ld9, lt9, li9, rfl, ms3, gs3, by omega, by omega, gτ, kτ, (fun q => absurd q (by omega)), (fun q => absurd q (by omega)), (fun _ => IXR_no pre0 i6 (by omega) (by omega) (by omega) (Or.inr (Or.inl (NLN_10 (by rw [show gl la9 5 = t4 by omega]; exact j3) (by omega)))))⟩
          · refine T.go 3 (fun n9 => (rfl : _ = exe ξ n9 (d + 9) j_M_isIndexWrong 75 [(0, .ref 137), (1, J u1), (2, J u2), (3, J f3), (4, J t4)] [J t4, J 5, .ref 137] τ)) ?_
            refine T.callv (as := [J 5, J t4]) (r := []) rfl rfl rfl rfl mτ.ob rfl (s_M_get (d + 8) 5 t4 τ mτ (by omega)) (fun v3 s4 hqs4 => ?_)
            obtain ⟨z5, rfl, esz5, hzz5, hyz5, pz5_0⟩ := hqs4
            rw [esz5]
            have gg := gc_at (Lc := Lc9) (r := 5) (k := t4) (by omega)
            rw [← pz5_0] at gg
            refine T.go 1 (fun n9 => (rfl : _ = exe ξ n9 (d + 9) j_M_isIndexWrong 80 [(0, .ref 137), (1, J u1), (2, J u2), (3, J f3), (4, J t4)] [J 10, J z5] τ)) ?_
            refine T.icmp_eq rfl rfl (by omega) (by omega) (fun c4 => ?_) (fun c4 => ?_)
            · refine T.go 2 (fun n9 => (rfl : _ = exe ξ n9 (d + 9) j_M_isIndexWrong 92 [(0, .ref 137), (1, J u1), (2, J u2), (3, J f3), (4, J t4)] [.ref 137, J t4] τ)) ?_
              refine T.get rfl rfl rfl mτ.ob rfl ?_
              refine T.go 1 (fun n9 => (rfl : _ = exe ξ n9 (d + 9) j_M_isIndexWrong 96 [(0, .ref 137), (1, J u1), (2, J u2), (3, J f3), (4, J t4)] [J 5, .ref 139, J t4] τ)) ?_
              refine T.iald rfl rfl mτ.c139 (by omega) (fun z6 hzz6 hyz6 hez6 => ?_)
              have hbz6 := mτ.b139.at hez6 ⟨hzz6, hyz6⟩
              have gzz6 := gl_of hez6 ⟨hzz6, hyz6⟩
              subst gzz6
              refine T.icmp_ne rfl rfl (by omega) (by omega) (fun c5 => ?_) (fun c5 => ?_)
              · refine T.go 3 (fun n9 => (rfl : _ = exe ξ n9 (d + 9) j_M_isIndexWrong 115 [(0, .ref 137), (1, J u1), (2, J u2), (3, J f3), (4, J t4)] [J t4, J f3, .ref 137] τ)) ?_
                have c9 := gτ 1 (by decide) (by decide)
                have l9 := kτ 1 (by decide) (by decide)
                have f9 : FOn (gc Lc9 1) (gl la9 1) = 1 := by rw [c9, l9]; exact pre0
                have n9 : W2 (gc Lc9 1) (EN (gc Lc9 1) (gl la9 1) + 8) = W2 (gc Lc 1) (EN (gc Lc 1) (gl la 1) + 8) := by rw [c9, l9]
                refine T.callv (as := [J f3, J t4]) (r := []) rfl rfl rfl rfl mτ.ob rfl (s_M_fisLineWrong d f3 t4 τ mτ (by omega) (by omega) (by omega) (by omega) (by omega) (by omega) (by omega) (by omega) j3) (fun v4 s5 hqs5 => ?_)
                obtain ⟨z7, rw_2, en_2, wy_3, wh_3, bi_2, ed_2, sz_2, md_2, bd_2, Lc_2, la_2, lk_2, lh_2, ld_2, lt_2, rfl, ms5, fs5, hzz7, hyz7, pz7_0, pz7_1, pz7_2, pz7_3, pz7_4, pz7_5⟩ := hqs5
                have ns5 := ms5.len
                have rs5 := ms5.rg
                have gs5 := fτ.trans fs5
                have rgs5 := gτ.trans pz7_0 (by decide)
                have lgs5 := kτ.trans pz7_1 (by decide)
                have l5 := pz7_1 5 (by decide) (by decide)
                refine T.if_eq rfl rfl (by omega) (fun c6 => ?_) (fun c6 => ?_)
                · refine T.go 2 (fun n9 => (rfl : _ = exe ξ n9 (d + 9) j_M_isIndexWrong 125 [(0, .ref 137), (1, J u1), (2, J u2), (3, J f3), (4, J t4)] [.ref 137, .ref 137] s5)) ?_
                  refine T.get rfl rfl rfl ms5.ob rfl ?_
                  refine T.go 1 (fun n9 => (rfl : _ = exe ξ n9 (d + 9) j_M_isIndexWrong 129 [(0, .ref 137), (1, J u1), (2, J u2), (3, J f3), (4, J t4)] [J 1, J li9, .ref 137] s5)) ?_
                  refine T.iadd rfl ?_
                  refine T.mput (c' := c) (io' := io) (mo' := mo) (fa' := fa) (pl' := pl) (ns' := ns) (rw' := rw_2) (en' := en_2) (wy' := wy_3) (wh' := wh_3) (bi' := bi_2) (ed' := ed_2) (sz' := sz_2) (md' := md_2) (bd' := bd_2) (li' := li9 + 1) (wk' := wk) (we' := we) ms5 rfl rfl rfl rfl rfl rfl (by omega) (fun s6 ms6 fs6 => ?_)
                  have gs6 := gs5.trans fs6
                  refine T.go 2 (fun n9 => (rfl : _ = exe ξ n9 (d + 9) j_M_isIndexWrong 136 [(0, .ref 137), (1, J u1), (2, J u2), (3, J f3), (4, J t4)] [J 1, J t4] s6)) ?_
                  refine T.iadd rfl ?_
                  refine T.go 2 (fun n9 => (rfl : _ = exe ξ n9 (d + 9) j_M_isIndexWrong 47 [(0, .ref 137), (1, J u1), (2, J u2), (3, J (t4 + 1)), (4, J t4)] [] s6)) ?_
                  refine T.drop (lv := [(0, .ref 137), (1, J u1), (2, J u2), (3, J (t4 + 1))]) [(4, J t4)] (by simp) ?_
                  exact ih47  u1 u2 (t4 + 1) rw_2 en_2 wy_3 wh_3 bi_2 ed_2 sz_2 md_2 bd_2 Lc_2 la_2 lk_2 lh_2 ld_2 lt_2 (li9 + 1) s6 ms6 gs6 rgs5 lgs5 (by omega) (by omega) (by omega) (by omega) (by omega) (by omega) (IXR_s i6 (by omega) (by omega) (by have t := pz7_4 (by omega); rw [c9, l9] at t; exact t) pz7_3 (pz7_0 5 (by decide) (by decide)) (pz7_1 5 (by decide) (by decide))) (fun j a b => if q : j = li9 then (by have := pz7_2 (by omega); rw [q]; omega) else (by rw [pz7_3 j a (by omega)]; exact i7 j a (by omega))) (by omega)
                · refine T.go 1 (fun n9 => (rfl : _ = exe ξ n9 (d + 9) j_M_isIndexWrong 122 [(0, .ref 137), (1, J u1), (2, J u2), (3, J f3), (4, J t4)] [J 1] s5)) ?_
                  exact T.iretz rfl rfl (by omega) ⟨_, rw_2, en_2, wy_3, wh_3, bi_2, ed_2, sz_2, md_2, bd_2, Lc_2, la_2, lk_2, lh_2, ld_2, lt_2, li9, rfl, ms5, gs5, by omega, by omega, rgs5, lgs5, (fun q => absurd q (by omega)), (fun q => absurd q (by omega)), (fun _ => IXR_no pre0 i6 (by omega) (by omega) (by omega) (by have t := pz7_5 (by omega); rw [c9, l9] at t; exact t))⟩
              · refine T.go 3 (fun n9 => (rfl : _ = exe ξ n9 (d + 9) j_M_isIndexWrong 104 [(0, .ref 137), (1, J u1), (2, J u2), (3, J f3), (4, J t4)] [.ref 137, J 11, .ref 137] τ)) ?_
                refine T.get rfl rfl rfl mτ.ob rfl ?_
                refine T.callv (as := [J 11, J li9]) (r := []) rfl rfl rfl rfl mτ.ob rfl (s_M_isWrong (d + 8) 11 li9 τ mτ (by omega) (by omega)) (fun v5 s7 hqs7 => ?_)
                obtain ⟨z8, wy_4, wh_4, rfl, ms7, fs7, hzz8, hyz8⟩ := hqs7
                have ns7 := ms7.len
                have rs7 := ms7.rg
                have gs7 := fτ.trans fs7
                exact T.iretz rfl rfl (by omega) ⟨_, rw9, en9, wy_4, wh_4, bi9, ed9, sz9, md9, bd9, Lc9, la9, lk9, lh9, ld9, lt9, li9, rfl, ms7, gs7, by omega, by omega, gτ, kτ, (fun q => absurd q (by omega)), (fun q => absurd q (by omega)), (fun _ => IXR_no pre0 i6 (by omega) (by omega) (by omega) (Or.inr (Or.inl (NLN_10 (by rw [show gl la9 5 = t4 by omega]; exact j3) (by omega)))))⟩
            · refine T.iinc (lv' := [(0, .ref 137), (1, J u1), (2, J u2), (3, J f3), (4, J (t4 + 1))]) rfl rfl rfl rfl ?_
              refine T.go 1 (fun n9 => (rfl : _ = exe ξ n9 (d + 9) j_M_isIndexWrong 60 [(0, .ref 137), (1, J u1), (2, J u2), (3, J f3), (4, J (t4 + 1))] [] τ)) ?_
              exact ih60  (t4 + 1)  (by omega) (by omega) (by omega) (N10_s j3 (by omega)) (by omega)
      refine T.go 2 (fun n9 => (rfl : _ = exe ξ n9 (d + 9) j_M_isIndexWrong 49 [(0, .ref 137), (1, J u1), (2, J u2), (3, J f3)] [.ref 137, J f3] τ)) ?_
      refine T.get rfl rfl rfl mτ.ob rfl ?_
      refine T.go 1 (fun n9 => (rfl : _ = exe ξ n9 (d + 9) j_M_isIndexWrong 53 [(0, .ref 137), (1, J u1), (2, J u2), (3, J f3)] [J 5, .ref 139, J f3] τ)) ?_
      refine T.iald rfl rfl mτ.c139 (by omega) (fun z9 hzz9 hyz9 hez9 => ?_)
      have hbz9 := mτ.b139.at hez9 ⟨hzz9, hyz9⟩
      have gzz9 := gl_of hez9 ⟨hzz9, hyz9⟩
      subst gzz9
      refine T.icmp_ge rfl rfl (by omega) (by omega) (fun c7 => ?_) (fun c7 => ?_)
      · refine T.go 1 (fun n9 => (rfl : _ = exe ξ n9 (d + 9) j_M_isIndexWrong 142 [(0, .ref 137), (1, J u1), (2, J u2), (3, J f3)] [J 0] τ)) ?_
        exact T.iretz rfl rfl (by omega) ⟨_, rw9, en9, wy9, wh9, bi9, ed9, sz9, md9, bd9, Lc9, la9, lk9, lh9, ld9, lt9, li9, rfl, mτ, fτ, by omega, by omega, gτ, kτ, (fun _ => i7), (fun _ => IXR_end i6 (by omega) (by omega) (by omega)), (fun q => absurd q (by omega))⟩
      · refine T.go 2 (fun n9 => (rfl : _ = exe ξ n9 (d + 9) j_M_isIndexWrong 60 [(0, .ref 137), (1, J u1), (2, J u2), (3, J f3), (4, J f3)] [] τ)) ?_
        exact loop60 _ f3  (by omega) (by omega) (by omega) N10_0 (Nat.lt_succ_self _)
  refine T.go 2 (fun n9 => (rfl : _ = exe ξ n9 (d + 9) j_M_isIndexWrong 2 [(0, .ref 137)] [J 1, .ref 137] σ)) ?_
  refine T.callv (as := [J 1]) (r := []) rfl rfl rfl rfl hM.ob rfl (s_M_isFaulty (d + 2) 1 σ hM (by omega) (by omega) (by omega)) (fun v6 s8 hqs8 => ?_)
  obtain ⟨z10, rw_3, en_3, wy_5, wh_5, lh_3, ld_3, rfl, ms8, fs8, hzz10, hyz10, pz10_0, pz10_1, pz10_2, pz10_3, pz10_4, pz10_5, pz10_6, pz10_7⟩ := hqs8
  have ns8 := ms8.len
  have rs8 := ms8.rg
  have hdz10 : HD (gc Lc rw_3) lh_3 ld_3 en_3 := by rw [pz10_3]; exact fun j a b => ⟨(pz10_5 j a b).1, (pz10_5 j a b).2, (pz10_4 j a b).1, (pz10_4 j a b).2⟩
  have hj1 : HDJ (gc Lc 1) (gl la 1) lh_3 ld_3 en_3 := fun j a b => ⟨pz10_6 j a b, pz10_7 j a b⟩
  have ene : en_3 = NEf (gc Lc 1) (gl la 1) := pz10_1 (by omega)
  refine T.go 3 (fun n9 => (rfl : _ = exe ξ n9 (d + 9) j_M_isIndexWrong 8 [(0, .ref 137), (1, J z10)] [J 0, .ref 137] s8)) ?_
  refine T.callv (as := [J 0]) (r := []) rfl rfl rfl rfl ms8.ob rfl (s_M_flistNamed (d + 5) 0 s8 ms8 (by omega) (by omega) hdz10) (fun v7 s9 hqs9 => ?_)
  obtain ⟨z11, rfl, esz11, hzz11, hyz11, pz11_0⟩ := hqs9
  rw [esz11]
  have rwe := pz10_3
  rw [rwe] at pz11_0
  have lkn := LK_nmd (g := gc Lc 1) (u := ixn) (f := gl la 1) (s := 0) (n := 9) (hs := gl lh_3) ene (by omega) (fun j a b => (hj1 j a (by omega)).1)
  rw [← pz11_0] at lkn
  have lkr : z11 = -1 ∨ 0 ≤ z11 ∧ z11 < en_3 := by rcases Decidable.em (z11 = -1) with h | h; (· exact Or.inl h); (have t := lkn.1 h; have t1 := t.1; have t2 := t.2.1; exact Or.inr ⟨t1, by omega⟩)
  have lk9 : z11 = -1 → NNM (gc Lc 1) (gl la 1) ixn 0 9 := lkn.2
  have lk8 : z11 ≠ -1 → NMD (gc Lc 1) (gl la 1) ixn 0 9 z11 := lkn.1
  clear lkn
  refine T.go 2 (fun n9 => (rfl : _ = exe ξ n9 (d + 9) j_M_isIndexWrong 13 [(0, .ref 137), (1, J z10), (2, J z11)] [J z11] s8)) ?_
  refine T.if_ge rfl rfl (by omega) (fun c8 => ?_) (fun c8 => ?_)
  · refine T.go 2 (fun n9 => (rfl : _ = exe ξ n9 (d + 9) j_M_isIndexWrong 26 [(0, .ref 137), (1, J z10), (2, J z11)] [J z11, .ref 137] s8)) ?_
    have hx := hdz10 z11 (by omega) (by omega)
    have hjx := hj1 z11 (by omega) (by omega)
    have nm1 := lk8 (by omega)
    refine T.callv (as := [J z11]) (r := []) rfl rfl rfl rfl ms8.ob rfl (s_M_fisUnread (d + 2) z11 s8 ms8 (by omega) (by omega) (by omega) (by omega) (by omega) (by omega) (by omega)) (fun v8 s10 hqs10 => ?_)
    obtain ⟨z12, wy_6, wh_6, bi_3, ed_3, sz_3, md_3, bd_3, Lc_3, la_3, lk_3, rfl, ms10, fs10, hzz12, hyz12, pz12_0, pz12_1, pz12_2, pz12_3⟩ := hqs10
    have ns10 := ms10.len
    have rs10 := ms10.rg
    have gs10 := fs8.trans fs10
    have rgs10 := (RG.refl (S := [2, 4, 5])).trans pz12_0 (by decide)
    have lgs10 := (LG.refl (S := [2, 4, 5])).trans pz12_1 (by decide)
    rw [rwe, hjx.1, hjx.2] at pz12_2 pz12_3
    refine T.if_eq rfl rfl (by omega) (fun c9 => ?_) (fun c9 => ?_)
    · refine T.go 3 (fun n9 => (rfl : _ = exe ξ n9 (d + 9) j_M_isIndexWrong 37 [(0, .ref 137), (1, J z10), (2, J z11)] [J 5, J 4, .ref 137] s10)) ?_
      refine T.callv (as := [J 4, J 5]) (r := []) rfl rfl rfl rfl ms10.ob rfl (s_M_copyRow (d + 8) 4 5 s10 ms10 (by omega) (by omega) (by omega) (by omega) (by omega) (by omega) (by omega)) (fun v9 s11 hqs11 => ?_)
      obtain ⟨Lc_4, la_4, rfl, ms11, fs11, pz13_0, pz13_1, pz13_2, pz13_3⟩ := hqs11
      have ns11 := ms11.len
      have rs11 := ms11.rg
      have gs11 := gs10.trans fs11
      have rgs11 := rgs10.trans pz13_0 (by decide)
      have lgs11 := lgs10.trans pz13_1 (by decide)
      refine T.go 2 (fun n9 => (rfl : _ = exe ξ n9 (d + 9) j_M_isIndexWrong 42 [(0, .ref 137), (1, J z10), (2, J z11)] [J 0, .ref 137] s11)) ?_
      refine T.mput (c' := c) (io' := io) (mo' := mo) (fa' := fa) (pl' := pl) (ns' := ns) (rw' := rw_3) (en' := en_3) (wy' := wy_6) (wh' := wh_6) (bi' := bi_3) (ed' := ed_3) (sz' := sz_3) (md' := md_3) (bd' := bd_3) (li' := 0) (wk' := wk) (we' := we) ms11 rfl rfl rfl rfl rfl rfl (by omega) (fun s12 ms12 fs12 => ?_)
      have gs12 := gs11.trans fs12
      refine T.go 2 (fun n9 => (rfl : _ = exe ξ n9 (d + 9) j_M_isIndexWrong 47 [(0, .ref 137), (1, J z10), (2, J z11), (3, J 0)] [] s12)) ?_
      have lb5 := gl_b ms12.b139 5
      exact loop47 _ z10 z11 0 rw_3 en_3 wy_6 wh_6 bi_3 ed_3 sz_3 md_3 bd_3 Lc_4 la_4 lk_3 lh_3 ld_3 lt 0 s12 ms12 gs12 rgs11 lgs11 (by omega) (by omega) (by omega) (by omega) (by omega) (by omega) (by have ru := pz12_2 (by omega); refine ⟨z11, _, ⟨nm1, ru.1⟩, ?_, ?_, rfl, fun i a b => absurd b (by omega)⟩; (· rw [pz13_3]; exact ru.2.2); (intro k a b; rw [pz13_2]; exact (if_pos ⟨a, by rw [pz13_3, ru.2.2, ← ru.2.1] at b; exact b⟩).symm)) (fun j a b => absurd b (by omega)) (Nat.lt_succ_self _)
    · refine T.go 1 (fun n9 => (rfl : _ = exe ξ n9 (d + 9) j_M_isIndexWrong 33 [(0, .ref 137), (1, J z10), (2, J z11)] [J 1] s10)) ?_
      exact T.iretz rfl rfl (by omega) ⟨_, rw_3, en_3, wy_6, wh_6, bi_3, ed_3, sz_3, md_3, bd_3, Lc_3, la_3, lk_3, lh_3, ld_3, lt, li, rfl, ms10, gs10, by omega, by omega, rgs10, lgs10, (fun q => absurd q (by omega)), (fun q => absurd q (by omega)), (fun _ => NIX_b pre0 nm1 (pz12_3 (by omega)))⟩
  · refine T.go 3 (fun n9 => (rfl : _ = exe ξ n9 (d + 9) j_M_isIndexWrong 20 [(0, .ref 137), (1, J z10), (2, J z11)] [J (-1), J 11, .ref 137] s8)) ?_
    refine T.callv (as := [J 11, J (-1)]) (r := []) rfl rfl rfl rfl ms8.ob rfl (s_M_isWrong (d + 8) 11 (-1) s8 ms8 (by omega) (by omega)) (fun v10 s13 hqs13 => ?_)
    obtain ⟨z14, wy_7, wh_7, rfl, ms13, fs13, hzz14, hyz14⟩ := hqs13
    have ns13 := ms13.len
    have rs13 := ms13.rg
    have gs13 := fs8.trans fs13
    exact T.iretz rfl rfl (by omega) ⟨_, rw_3, en_3, wy_7, wh_7, bi, ed, sz, md, bd, Lc, la, lk, lh_3, ld_3, lt, li, rfl, ms13, gs13, by omega, by omega, RG.refl, LG.refl, (fun q => absurd q (by omega)), (fun q => absurd q (by omega)), (fun _ => NIX_a (lk9 (by omega)))⟩
