/-! The model: a block of signs; a packed row. -/
set_option maxHeartbeats 4000000 in
theorem s_M_fcodedBlock {ξ : Nat → Option (Nat × List Int32)} {c io mo fa pl ns rw en wy wh bi ed sz md bd li wk we : Int} {Lc : List Int64} {la lm ln lh ld lk lt : List Int32} (d : Nat) (x : Int) (σ : qH) (hM : MS σ c io mo fa pl ns rw en wy wh bi ed sz md bd li wk we Lc la lm ln lh ld lk lt) (rx : -2147483648 ≤ x ∧ x ≤ 2147483647) (pre0 : 0 ≤ bi) (pre1 : bi ≤ ed) (pre2 : ed ≤ 64000) (pre3 : ed % 8 = 0) (pre4 : 0 ≤ md) (pre5 : md ≤ sz) (pre6 : sz ≤ 8000) (pre7 : 0 ≤ x) (pre8 : x ≤ 1) (pre9 : bd = 0) (pre10 : rw ≤ 3) : T ξ (d + 4) j_M_codedBlock 0 (lv_args 0 [.ref 137, J x]) [] σ (fun v σ' => ∃ (bi1 : Int) (md1 : Int) (bd1 : Int) (Lc1 : List Int64) (lk1 : List Int32), v = none ∧ MS σ' c io mo fa pl ns rw en wy wh bi1 ed sz md1 bd1 li wk we Lc1 la lm ln lh ld lk1 lt ∧ FM σ σ' ∧ RG [4] Lc Lc1 ∧ bi ≤ bi1 ∧ bi1 ≤ ed ∧ md ≤ md1 ∧ md1 ≤ sz ∧ ((bd1 = 0 ∧ CX (gc Lc rw) ed sz x bi md (nm Lc md) (true, bi1, md1, nm Lc1 md1)) ∨ (bd1 = 1 ∧ ∀ u : US, ¬ CX (gc Lc rw) ed sz x bi md (nm Lc md) u))) := by
  have r0 := hM.rg
  have n0 := hM.len
  have bvA := BV_r (gc Lc rw) bi 5
  have bvB := BV_r (gc Lc rw) (bi + 5) 5
  have bvp : P2 ((5 : Nat) : Int) = 32 := by decide
  have e2_5 : P2 5 = 32 := by decide
  have loop141 : ∀ (f141 : Nat) (n2 : Int) (n3 : Int) (m4 : Int) (bi9 : Int) (md9 : Int) (bd9 : Int) (Lc9 : List Int64) (lk9 : List Int32) (τ : qH), MS τ c io mo fa pl ns rw en wy wh bi9 ed sz md9 bd9 li wk we Lc9 la lm ln lh ld lk9 lt → FM σ τ → RG [4] Lc Lc9 → bi ≤ bi9 → bi9 ≤ ed → md ≤ md9 → md9 ≤ sz → (257 ≤ n2 ∧ n2 ≤ 288) → (1 ≤ n3 ∧ n3 ≤ 32) → (0 ≤ m4 ∧ m4 ≤ 1) → (bd9 = 0 → m4 = 1 → ∀ u : US, FX (gc Lc rw) ed sz (lkf lk9 0) n2.toNat (lkf lk9 300) n3.toNat bi9 md9 (nm Lc9 md9) u ↔ CX (gc Lc rw) ed sz x bi md (nm Lc md) u) → (bd9 = 0 → m4 = 0 → CX (gc Lc rw) ed sz x bi md (nm Lc md) (true, bi9, md9, nm Lc9 md9)) → (bd9 = 1 → ∀ u : US, ¬ CX (gc Lc rw) ed sz x bi md (nm Lc md) u) → (ed - bi9 + 1 - bd9).toNat < f141 → T ξ (d + 4) j_M_codedBlock 141 [(0, .ref 137), (1, J x), (2, J n2), (3, J n3), (4, J m4)] [] τ (fun v σ' => ∃ (bi1 : Int) (md1 : Int) (bd1 : Int) (Lc1 : List Int64) (lk1 : List Int32), v = none ∧ MS σ' c io mo fa pl ns rw en wy wh bi1 ed sz md1 bd1 li wk we Lc1 la lm ln lh ld lk1 lt ∧ FM σ σ' ∧ RG [4] Lc Lc1 ∧ bi ≤ bi1 ∧ bi1 ≤ ed ∧ md ≤ md1 ∧ md1 ≤ sz ∧ ((bd1 = 0 ∧ CX (gc Lc rw) ed sz x bi md (nm Lc md) (true, bi1, md1, nm Lc1 md1)) ∨ (bd1 = 1 ∧ ∀ u : US, ¬ CX (gc Lc rw) ed sz x bi md (nm Lc md) u))) := by
    intro f141
    induction f141 with
    | zero => intro n2 n3 m4 bi9 md9 bd9 Lc9 lk9 τ mτ fτ gτ i0 i1 i2 i3 i4 i5 i6 i7 i8 i9 hm141; omega
    | succ f141 ih141 =>
      intro n2 n3 m4 bi9 md9 bd9 Lc9 lk9 τ mτ fτ gτ i0 i1 i2 i3 i4 i5 i6 i7 i8 i9 hm141
      have rτ := mτ.rg
      have nτ := mτ.len
      refine T.go 1 (fun n9 => (rfl : _ = exe ξ n9 (d + 4) j_M_codedBlock 143 [(0, .ref 137), (1, J x), (2, J n2), (3, J n3), (4, J m4)] [J m4] τ)) ?_
      refine T.if_eq rfl rfl (by omega) (fun c1 => ?_) (fun c1 => ?_)
      · exact T.vret rfl rfl ⟨bi9, md9, bd9, Lc9, lk9, rfl, mτ, fτ, gτ, by omega, by omega, by omega, by omega, (by rcases (by omega : bd9 = 0 ∨ bd9 = 1) with h | h; (· exact Or.inl ⟨h, i8 h (by omega)⟩); (· exact Or.inr ⟨h, i9 h⟩))⟩
      · refine T.go 1 (fun n9 => (rfl : _ = exe ξ n9 (d + 4) j_M_codedBlock 147 [(0, .ref 137), (1, J x), (2, J n2), (3, J n3), (4, J m4)] [.ref 137] τ)) ?_
        refine T.get rfl rfl rfl mτ.ob rfl ?_
        refine T.if_ne rfl rfl (by omega) (fun c2 => ?_) (fun c2 => ?_)
        · exact T.vret rfl rfl ⟨bi9, md9, bd9, Lc9, lk9, rfl, mτ, fτ, gτ, by omega, by omega, by omega, by omega, (by rcases (by omega : bd9 = 0 ∨ bd9 = 1) with h | h; (· exact Or.inl ⟨h, i8 h (by omega)⟩); (· exact Or.inr ⟨h, i9 h⟩))⟩
        · refine T.go 3 (fun n9 => (rfl : _ = exe ξ n9 (d + 4) j_M_codedBlock 156 [(0, .ref 137), (1, J x), (2, J n2), (3, J n3), (4, J m4)] [J n2, J 0, .ref 137] τ)) ?_
          refine T.callv (as := [J 0, J n2]) (r := []) rfl rfl rfl rfl mτ.ob rfl (s_M_fsign (d + 1) 0 n2 τ mτ (by omega) (by omega) (by omega) (by omega) (by omega) (by omega) (by omega) (by omega) (by omega) (by omega)) (fun v1 s1 hqs1 => ?_)
          obtain ⟨z1, bi_1, bd_1, rfl, ms1, fs1, hzz1, hyz1, pz1_0, pz1_1, pz1_2⟩ := hqs1
          have ns1 := ms1.len
          have rs1 := ms1.rg
          have gs1 := fτ.trans fs1
          have cg := gτ rw (by omega) (fun q => by have := List.mem_singleton.mp q; omega)
          rw [cg] at pz1_2
          obtain ⟨W9, hW9⟩ : ∃ W, SG (gc Lc rw) ed (lkf lk9 0) n2.toNat 15 bi9 0 0 = W := ⟨_, rfl⟩
          rw [hW9] at pz1_2
          have rW9 := SG_r (g := gc Lc rw) (e := ed) (L := lkf lk9 0) (n := n2.toNat) 15 bi9 0 0 (Int.le_refl _)
          rw [hW9] at rW9
          rcases pz1_2 with ⟨taz1, tbz1, tcz1, tdz1⟩ | ⟨taz1, tbz1⟩
          · subst tbz1
            refine T.go 3 (fun n9 => (rfl : _ = exe ξ n9 (d + 4) j_M_codedBlock 166 [(0, .ref 137), (1, J x), (2, J n2), (3, J n3), (4, J m4), (5, J (W9.1))] [J 256, J (W9.1)] s1)) ?_
            refine T.icmp_eq rfl rfl (by omega) (by omega) (fun c3 => ?_) (fun c3 => ?_)
            · refine T.go 3 (fun n9 => (rfl : _ = exe ξ n9 (d + 4) j_M_codedBlock 177 [(0, .ref 137), (1, J x), (2, J n2), (3, J n3), (4, J 0), (5, J (W9.1))] [.ref 137] s1)) ?_
              refine T.get rfl rfl rfl ms1.ob rfl ?_
              refine T.if_ne rfl rfl (by omega) (fun c4 => ?_) (fun c4 => ?_)
              · exfalso
                omega
              · refine T.go 2 (fun n9 => (rfl : _ = exe ξ n9 (d + 4) j_M_codedBlock 188 [(0, .ref 137), (1, J x), (2, J n2), (3, J n3), (4, J 0), (5, J (W9.1))] [J 256, J (W9.1)] s1)) ?_
                refine T.icmp_ne rfl rfl (by omega) (by omega) (fun c5 => ?_) (fun c5 => ?_)
                · exfalso
                  omega
                · refine T.go 1 (fun n9 => (rfl : _ = exe ξ n9 (d + 4) j_M_codedBlock 141 [(0, .ref 137), (1, J x), (2, J n2), (3, J n3), (4, J 0), (5, J (W9.1))] [] s1)) ?_
                  refine T.drop (lv := [(0, .ref 137), (1, J x), (2, J n2), (3, J n3), (4, J 0)]) [(5, J (W9.1))] (by simp) ?_
                  exact ih141  n2 n3 0 bi_1 md9 bd_1 Lc9 lk9 s1 ms1 gs1 gτ (by omega) (by omega) (by omega) (by omega) (by omega) (by omega) (by omega) (fun _ h => absurd h (by decide)) (fun _ _ => by rw [show bi_1 = W9.2 by omega]; exact (i7 (by omega) (by omega) _).mp (FX_end hW9 (by omega) (by omega))) (fun h => absurd h (by omega)) (by omega)
            · refine T.go 4 (fun n9 => (rfl : _ = exe ξ n9 (d + 4) j_M_codedBlock 177 [(0, .ref 137), (1, J x), (2, J n2), (3, J n3), (4, J 1), (5, J (W9.1))] [.ref 137] s1)) ?_
              refine T.get rfl rfl rfl ms1.ob rfl ?_
              refine T.if_ne rfl rfl (by omega) (fun c6 => ?_) (fun c6 => ?_)
              · exfalso
                omega
              · refine T.go 2 (fun n9 => (rfl : _ = exe ξ n9 (d + 4) j_M_codedBlock 188 [(0, .ref 137), (1, J x), (2, J n2), (3, J n3), (4, J 1), (5, J (W9.1))] [J 256, J (W9.1)] s1)) ?_
                refine T.icmp_ne rfl rfl (by omega) (by omega) (fun c7 => ?_) (fun c7 => ?_)
                · refine T.go 2 (fun n9 => (rfl : _ = exe ξ n9 (d + 4) j_M_codedBlock 199 [(0, .ref 137), (1, J x), (2, J n2), (3, J n3), (4, J 1), (5, J (W9.1))] [J 256, J (W9.1)] s1)) ?_
                  refine T.icmp_ge rfl rfl (by omega) (by omega) (fun c8 => ?_) (fun c8 => ?_)
                  · refine T.go 3 (fun n9 => (rfl : _ = exe ξ n9 (d + 4) j_M_codedBlock 215 [(0, .ref 137), (1, J x), (2, J n2), (3, J n3), (4, J 1), (5, J (W9.1))] [J n3, J (W9.1), .ref 137] s1)) ?_
                    refine T.callv (as := [J (W9.1), J n3]) (r := []) rfl rfl rfl rfl ms1.ob rfl (s_M_fcopied d (W9.1) n3 s1 ms1 (by omega) (by omega) (by omega) (by omega) (by omega) (by omega) (by omega) (by omega) (by omega) (by omega) (by omega) (by omega) (by omega) (by omega) (by omega)) (fun v2 s2 hqs2 => ?_)
                    obtain ⟨bi_2, md_1, bd_2, Lc_1, rfl, ms2, fs2, pz2_0, pz2_1, pz2_2, pz2_3, pz2_4, pz2_5⟩ := hqs2
                    have ns2 := ms2.len
                    have rs2 := ms2.rg
                    have gs2 := gs1.trans fs2
                    have rgs2 := gτ.trans pz2_0 (by decide)
                    rw [cg, show bi_1 = W9.2 by omega] at pz2_5
                    rcases pz2_5 with ⟨ua, ub, uc, ud, ue⟩ | ⟨ua, ub⟩
                    · have fkz2 := ua
                      refine T.go 1 (fun n9 => (rfl : _ = exe ξ n9 (d + 4) j_M_codedBlock 141 [(0, .ref 137), (1, J x), (2, J n2), (3, J n3), (4, J 1), (5, J (W9.1))] [] s2)) ?_
                      refine T.drop (lv := [(0, .ref 137), (1, J x), (2, J n2), (3, J n3), (4, J 1)]) [(5, J (W9.1))] (by simp) ?_
                      exact ih141  n2 n3 1 bi_2 md_1 bd_2 Lc_1 lk9 s2 ms2 gs2 rgs2 (by omega) (by omega) (by omega) (by omega) (by omega) (by omega) (by omega) (fun _ _ u => by rw [← i7 (by omega) (by omega) u, FX_cpy hW9 (by omega) ub (by omega), uc, ue, ud]) (fun _ h => absurd h (by decide)) (fun h => absurd h (by omega)) (by omega)
                    · have fkz2 := ua
                      refine T.go 1 (fun n9 => (rfl : _ = exe ξ n9 (d + 4) j_M_codedBlock 141 [(0, .ref 137), (1, J x), (2, J n2), (3, J n3), (4, J 1), (5, J (W9.1))] [] s2)) ?_
                      refine T.drop (lv := [(0, .ref 137), (1, J x), (2, J n2), (3, J n3), (4, J 1)]) [(5, J (W9.1))] (by simp) ?_
                      exact ih141  n2 n3 1 bi_2 md_1 bd_2 Lc_1 lk9 s2 ms2 gs2 rgs2 (by omega) (by omega) (by omega) (by omega) (by omega) (by omega) (by omega) (fun h => absurd h (by omega)) (fun _ h => absurd h (by decide)) (fun _ u q => FX_noC hW9 (by omega) ub (by omega) ((i7 (by omega) (by omega) u).mpr q)) (by omega)
                  · refine T.go 2 (fun n9 => (rfl : _ = exe ξ n9 (d + 4) j_M_codedBlock 205 [(0, .ref 137), (1, J x), (2, J n2), (3, J n3), (4, J 1), (5, J (W9.1))] [J (W9.1), .ref 137] s1)) ?_
                    refine T.callv (as := [J (W9.1)]) (r := []) rfl rfl rfl rfl ms1.ob rfl (s_M_fout (d + 2) (W9.1) s1 ms1 (by omega) (by omega) (by omega) (by omega)) (fun v3 s3 hqs3 => ?_)
                    obtain ⟨md_2, bd_3, Lc_2, rfl, ms3, fs3, pz3_0, pz3_1, pz3_2, pz3_3, pz3_4, pz3_5⟩ := hqs3
                    have ns3 := ms3.len
                    have rs3 := ms3.rg
                    have gs3 := gs1.trans fs3
                    have rgs3 := gτ.trans pz3_0 (by decide)
                    refine T.go 2 (fun n9 => (rfl : _ = exe ξ n9 (d + 4) j_M_codedBlock 141 [(0, .ref 137), (1, J x), (2, J n2), (3, J n3), (4, J 1), (5, J (W9.1))] [] s3)) ?_
                    refine T.drop (lv := [(0, .ref 137), (1, J x), (2, J n2), (3, J n3), (4, J 1)]) [(5, J (W9.1))] (by simp) ?_
                    exact ih141  n2 n3 1 bi_1 md_2 bd_3 Lc_2 lk9 s3 ms3 gs3 rgs3 (by omega) (by omega) (by omega) (by omega) (by omega) (by omega) (by omega) (fun h _ u => by rw [← i7 (by omega) (by omega) u, FX_lit hW9 (by omega) (by omega) (by omega) (by omega), show md_2 = md9 + 1 by omega, pz3_1 (by omega), show W9.1 % 256 = W9.1 by omega, show bi_1 = W9.2 by omega]) (fun _ h => absurd h (by decide)) (fun h u q => FX_noW hW9 (by omega) (by omega) ((i7 (by omega) (by omega) u).mpr q)) (by omega)
                · exfalso
                  omega
          · have fkz1 := taz1
            refine T.go 3 (fun n9 => (rfl : _ = exe ξ n9 (d + 4) j_M_codedBlock 166 [(0, .ref 137), (1, J x), (2, J n2), (3, J n3), (4, J m4), (5, J z1)] [J 256, J z1] s1)) ?_
            refine T.icmp_eq rfl rfl (by omega) (by omega) (fun c9 => ?_) (fun c9 => ?_)
            · refine T.go 3 (fun n9 => (rfl : _ = exe ξ n9 (d + 4) j_M_codedBlock 177 [(0, .ref 137), (1, J x), (2, J n2), (3, J n3), (4, J 0), (5, J z1)] [.ref 137] s1)) ?_
              refine T.get rfl rfl rfl ms1.ob rfl ?_
              refine T.if_ne rfl rfl (by omega) (fun c10 => ?_) (fun c10 => ?_)
              · refine T.drop (lv := [(0, .ref 137), (1, J x), (2, J n2), (3, J n3), (4, J 0)]) [(5, J z1)] (by simp) ?_
                exact ih141  n2 n3 0 bi_1 md9 bd_1 Lc9 lk9 s1 ms1 gs1 gτ (by omega) (by omega) (by omega) (by omega) (by omega) (by omega) (by omega) (fun h => absurd h (by omega)) (fun h => absurd h (by omega)) (fun _ u q => FX_noW hW9 (by omega) (by omega) ((i7 (by omega) (by omega) u).mpr q)) (by omega)
              · exfalso
                omega
            · refine T.go 4 (fun n9 => (rfl : _ = exe ξ n9 (d + 4) j_M_codedBlock 177 [(0, .ref 137), (1, J x), (2, J n2), (3, J n3), (4, J 1), (5, J z1)] [.ref 137] s1)) ?_
              refine T.get rfl rfl rfl ms1.ob rfl ?_
              refine T.if_ne rfl rfl (by omega) (fun c11 => ?_) (fun c11 => ?_)
              · refine T.drop (lv := [(0, .ref 137), (1, J x), (2, J n2), (3, J n3), (4, J 1)]) [(5, J z1)] (by simp) ?_
                exact ih141  n2 n3 1 bi_1 md9 bd_1 Lc9 lk9 s1 ms1 gs1 gτ (by omega) (by omega) (by omega) (by omega) (by omega) (by omega) (by omega) (fun h => absurd h (by omega)) (fun _ h => absurd h (by decide)) (fun _ u q => FX_noW hW9 (by omega) (by omega) ((i7 (by omega) (by omega) u).mpr q)) (by omega)
              · exfalso
                omega
  refine T.go 5 (fun n9 => (rfl : _ = exe ξ n9 (d + 4) j_M_codedBlock 8 [(0, .ref 137), (1, J x), (2, J 288), (3, J 32)] [J x] σ)) ?_
  refine T.if_eq rfl rfl (by omega) (fun c12 => ?_) (fun c12 => ?_)
  · refine T.go 1 (fun n9 => (rfl : _ = exe ξ n9 (d + 4) j_M_codedBlock 135 [(0, .ref 137), (1, J x), (2, J 288), (3, J 32)] [.ref 137] σ)) ?_
    refine T.callv (as := []) (r := []) rfl rfl rfl rfl hM.ob rfl (s_M_ffixedCodes (d + 3)  σ hM ) (fun v4 s4 hqs4 => ?_)
    obtain ⟨lk_1, rfl, ms4, fs4, pz4_0, pz4_1⟩ := hqs4
    have ns4 := ms4.len
    have rs4 := ms4.rg
    refine T.go 2 (fun n9 => (rfl : _ = exe ξ n9 (d + 4) j_M_codedBlock 141 [(0, .ref 137), (1, J x), (2, J 288), (3, J 32), (4, J 1)] [] s4)) ?_
    exact loop141 _ 288 32 1 bi md bd Lc lk_1 s4 ms4 fs4 RG.refl (by omega) (by omega) (by omega) (by omega) (by omega) (by omega) (by omega) (fun _ _ u => CX_fix (by omega) pz4_0 pz4_1 (by omega) (by omega) (by omega)) (fun _ h => absurd h (by omega)) (fun h => absurd h (by omega)) (Nat.lt_succ_self _)
  · refine T.go 3 (fun n9 => (rfl : _ = exe ξ n9 (d + 4) j_M_codedBlock 16 [(0, .ref 137), (1, J x), (2, J 288), (3, J 32)] [J 5, .ref 137, J 257] σ)) ?_
    refine T.callv (as := [J 5]) (r := [J 257]) rfl rfl rfl rfl hM.ob rfl (s_M_ftake (d + 2) 5 σ hM (by omega) (by omega) (by omega) (by omega) (by omega) (by omega) (by omega)) (fun v5 s5 hqs5 => ?_)
    obtain ⟨z5, bi_3, bd_4, rfl, ms5, fs5, hzz5, hyz5, pz5_0, pz5_1, pz5_2⟩ := hqs5
    have ns5 := ms5.len
    have rs5 := ms5.rg
    rw [show (5 : Int).toNat = 5 from rfl] at pz5_2
    rcases pz5_2 with ⟨taz5, tbz5, tcz5, tdz5, tez5⟩ | ⟨taz5, tbz5⟩
    · have fkz5 := taz5
      refine T.iadd rfl ?_
      refine T.go 4 (fun n9 => (rfl : _ = exe ξ n9 (d + 4) j_M_codedBlock 24 [(0, .ref 137), (1, J x), (2, J (257 + z5)), (3, J 32)] [J 5, .ref 137, J 1] s5)) ?_
      refine T.callv (as := [J 5]) (r := [J 1]) rfl rfl rfl rfl ms5.ob rfl (s_M_ftake (d + 2) 5 s5 ms5 (by omega) (by omega) (by omega) (by omega) (by omega) (by omega) (by omega)) (fun v6 s6 hqs6 => ?_)
      obtain ⟨z6, bi_4, bd_5, rfl, ms6, fs6, hzz6, hyz6, pz6_0, pz6_1, pz6_2⟩ := hqs6
      have ns6 := ms6.len
      have rs6 := ms6.rg
      have gs6 := fs5.trans fs6
      rw [show (5 : Int).toNat = 5 from rfl] at pz6_2
      rcases pz6_2 with ⟨taz6, tbz6, tcz6, tdz6, tez6⟩ | ⟨taz6, tbz6⟩
      · rw [show bi_3 = bi + 5 by omega] at tcz6
        refine T.iadd rfl ?_
        refine T.go 3 (fun n9 => (rfl : _ = exe ξ n9 (d + 4) j_M_codedBlock 31 [(0, .ref 137), (1, J x), (2, J (257 + z5)), (3, J (1 + z6))] [.ref 137, .ref 137] s6)) ?_
        refine T.get rfl rfl rfl ms6.ob rfl ?_
        refine T.if_ne rfl rfl (by omega) (fun c13 => ?_) (fun c13 => ?_)
        · exfalso
          omega
        · refine T.go 2 (fun n9 => (rfl : _ = exe ξ n9 (d + 4) j_M_codedBlock 41 [(0, .ref 137), (1, J x), (2, J (257 + z5)), (3, J (1 + z6))] [J 286, J (257 + z5), .ref 137] s6)) ?_
          refine T.icmp_gt rfl rfl (by omega) (by omega) (fun c14 => ?_) (fun c14 => ?_)
          · refine T.go 2 (fun n9 => (rfl : _ = exe ξ n9 (d + 4) j_M_codedBlock 55 [(0, .ref 137), (1, J x), (2, J (257 + z5)), (3, J (1 + z6))] [J 1, .ref 137] s6)) ?_
            refine T.mput (c' := c) (io' := io) (mo' := mo) (fa' := fa) (pl' := pl) (ns' := ns) (rw' := rw) (en' := en) (wy' := wy) (wh' := wh) (bi' := bi_4) (ed' := ed) (sz' := sz) (md' := md) (bd' := 1) (li' := li) (wk' := wk) (we' := we) ms6 rfl rfl rfl rfl rfl rfl (by omega) (fun s7 ms7 fs7 => ?_)
            have gs7 := gs6.trans fs7
            refine T.go 1 (fun n9 => (rfl : _ = exe ξ n9 (d + 4) j_M_codedBlock 59 [(0, .ref 137), (1, J x), (2, J (257 + z5)), (3, J (1 + z6))] [.ref 137] s7)) ?_
            refine T.get rfl rfl rfl ms7.ob rfl ?_
            refine T.go 3 (fun n9 => (rfl : _ = exe ξ n9 (d + 4) j_M_codedBlock 73 [(0, .ref 137), (1, J x), (2, J (257 + z5)), (3, J (1 + z6))] [.ref 137, .ref 137] s7)) ?_
            refine T.get rfl rfl rfl ms7.ob rfl ?_
            refine T.go 3 (fun n9 => (rfl : _ = exe ξ n9 (d + 4) j_M_codedBlock 128 [(0, .ref 137), (1, J x), (2, J (257 + z5)), (3, J (1 + z6))] [J 1, .ref 137] s7)) ?_
            refine T.mput (c' := c) (io' := io) (mo' := mo) (fa' := fa) (pl' := pl) (ns' := ns) (rw' := rw) (en' := en) (wy' := wy) (wh' := wh) (bi' := bi_4) (ed' := ed) (sz' := sz) (md' := md) (bd' := 1) (li' := li) (wk' := wk) (we' := we) ms7 rfl rfl rfl rfl rfl rfl (by omega) (fun s8 ms8 fs8 => ?_)
            have gs8 := gs7.trans fs8
            refine T.go 3 (fun n9 => (rfl : _ = exe ξ n9 (d + 4) j_M_codedBlock 141 [(0, .ref 137), (1, J x), (2, J (257 + z5)), (3, J (1 + z6)), (4, J 1)] [] s8)) ?_
            exact loop141 _ (257 + z5) (1 + z6) 1 bi_4 md 1 Lc lk s8 ms8 gs8 RG.refl (by omega) (by omega) (by omega) (by omega) (by omega) (by omega) (by omega) (fun h => absurd h (by omega)) (fun _ h => absurd h (by omega)) (fun _ u => CX_no (by omega) (fun q => by have q0 := q.1; have q1 := q.2.1; have q2 := q.2.2.1; unfold hlQ at q1; unfold hdQ at q2; omega)) (Nat.lt_succ_self _)
          · refine T.go 2 (fun n9 => (rfl : _ = exe ξ n9 (d + 4) j_M_codedBlock 47 [(0, .ref 137), (1, J x), (2, J (257 + z5)), (3, J (1 + z6))] [J 30, J (1 + z6), .ref 137] s6)) ?_
            refine T.icmp_le rfl rfl (by omega) (by omega) (fun c15 => ?_) (fun c15 => ?_)
            · refine T.go 1 (fun n9 => (rfl : _ = exe ξ n9 (d + 4) j_M_codedBlock 55 [(0, .ref 137), (1, J x), (2, J (257 + z5)), (3, J (1 + z6))] [J 0, .ref 137] s6)) ?_
              refine T.mput (c' := c) (io' := io) (mo' := mo) (fa' := fa) (pl' := pl) (ns' := ns) (rw' := rw) (en' := en) (wy' := wy) (wh' := wh) (bi' := bi_4) (ed' := ed) (sz' := sz) (md' := md) (bd' := 0) (li' := li) (wk' := wk) (we' := we) ms6 rfl rfl rfl rfl rfl rfl (by omega) (fun s9 ms9 fs9 => ?_)
              have gs9 := gs6.trans fs9
              refine T.go 1 (fun n9 => (rfl : _ = exe ξ n9 (d + 4) j_M_codedBlock 59 [(0, .ref 137), (1, J x), (2, J (257 + z5)), (3, J (1 + z6))] [.ref 137] s9)) ?_
              refine T.get rfl rfl rfl ms9.ob rfl ?_
              refine T.go 4 (fun n9 => (rfl : _ = exe ξ n9 (d + 4) j_M_codedBlock 68 [(0, .ref 137), (1, J x), (2, J (257 + z5)), (3, J (1 + z6))] [J (1 + z6), J (257 + z5), .ref 137] s9)) ?_
              refine T.callv (as := [J (257 + z5), J (1 + z6)]) (r := []) rfl rfl rfl rfl ms9.ob rfl (s_M_ftoldCodes d (257 + z5) (1 + z6) s9 ms9 (by omega) (by omega) (by omega) (by omega) (by omega) (by omega) (by omega) (by omega) (by omega) (by omega) (by omega)) (fun v7 s10 hqs10 => ?_)
              obtain ⟨bi_5, bd_6, lk_2, rfl, ms10, fs10, pz7_0, pz7_1, pz7_2⟩ := hqs10
              have ns10 := ms10.len
              have rs10 := ms10.rg
              have gs10 := gs9.trans fs10
              have uh : 257 + z5 = hlQ (gc Lc rw) bi := by unfold hlQ; omega
              have ud : 1 + z6 = hdQ (gc Lc rw) bi := by unfold hdQ; omega
              rw [show bi_4 = bi + 10 by omega, uh, ud, ← TQ_TT] at pz7_2
              rcases pz7_2 with ⟨taz7, tbz7, tcz7, tdz7, tez7⟩ | ⟨taz7, tbz7⟩
              · have tg1 := tbz7
                refine T.go 2 (fun n9 => (rfl : _ = exe ξ n9 (d + 4) j_M_codedBlock 73 [(0, .ref 137), (1, J x), (2, J (257 + z5)), (3, J (1 + z6))] [.ref 137, .ref 137] s10)) ?_
                refine T.get rfl rfl rfl ms10.ob rfl ?_
                refine T.if_ne rfl rfl (by omega) (fun c16 => ?_) (fun c16 => ?_)
                · exfalso
                  omega
                · refine T.go 3 (fun n9 => (rfl : _ = exe ξ n9 (d + 4) j_M_codedBlock 82 [(0, .ref 137), (1, J x), (2, J (257 + z5)), (3, J (1 + z6))] [J (257 + z5), J 0, .ref 137, .ref 137] s10)) ?_
                  refine T.callv (as := [J 0, J (257 + z5)]) (r := [.ref 137]) rfl rfl rfl rfl ms10.ob rfl (s_M_fisComplete (d + 2) 0 (257 + z5) s10 ms10 (by omega) (by omega) (by omega) (by omega) (by omega)) (fun v8 s11 hqs11 => ?_)
                  obtain ⟨z8, rfl, esz8, hzz8, hyz8, pz8_0⟩ := hqs11
                  rw [esz8]
                  refine T.if_eq rfl rfl (by omega) (fun c17 => ?_) (fun c17 => ?_)
                  · refine T.go 2 (fun n9 => (rfl : _ = exe ξ n9 (d + 4) j_M_codedBlock 128 [(0, .ref 137), (1, J x), (2, J (257 + z5)), (3, J (1 + z6))] [J 1, .ref 137] s10)) ?_
                    refine T.mput (c' := c) (io' := io) (mo' := mo) (fa' := fa) (pl' := pl) (ns' := ns) (rw' := rw) (en' := en) (wy' := wy) (wh' := wh) (bi' := bi_5) (ed' := ed) (sz' := sz) (md' := md) (bd' := 1) (li' := li) (wk' := wk) (we' := we) ms10 rfl rfl rfl rfl rfl rfl (by omega) (fun s12 ms12 fs12 => ?_)
                    have gs12 := gs10.trans fs12
                    refine T.go 3 (fun n9 => (rfl : _ = exe ξ n9 (d + 4) j_M_codedBlock 141 [(0, .ref 137), (1, J x), (2, J (257 + z5)), (3, J (1 + z6)), (4, J 1)] [] s12)) ?_
                    rw [uh] at pz8_0
                    have e256 := tdz7 256 (by omega) (by omega)
                    exact loop141 _ (257 + z5) (1 + z6) 1 bi_5 md 1 Lc lk_2 s12 ms12 gs12 RG.refl (by omega) (by omega) (by omega) (by omega) (by omega) (by omega) (by omega) (fun h => absurd h (by omega)) (fun _ h => absurd h (by omega)) (fun _ u => CX_no (by omega) (fun q => by first | exact absurd ((pz8_0).mpr (((OKQ_congr (L := lkf lk_2 0) (L' := (TQ (gc Lc rw) ed bi).2.2) (fun j a b => by show gl lk_2 (0 + j) = _; rw [Int.zero_add]; exact tdz7 j a (by omega)))).mpr (DQ_TG.mp q).2.2.2.2.1)) (by omega) | exact (DQ_TG.mp q).2.2.2.1 (by rw [← e256]; omega))) (Nat.lt_succ_self _)
                  · refine T.go 1 (fun n9 => (rfl : _ = exe ξ n9 (d + 4) j_M_codedBlock 89 [(0, .ref 137), (1, J x), (2, J (257 + z5)), (3, J (1 + z6))] [.ref 137, .ref 137] s10)) ?_
                    refine T.get rfl rfl rfl ms10.ob rfl ?_
                    refine T.go 1 (fun n9 => (rfl : _ = exe ξ n9 (d + 4) j_M_codedBlock 95 [(0, .ref 137), (1, J x), (2, J (257 + z5)), (3, J (1 + z6))] [J 256, .ref 144, .ref 137] s10)) ?_
                    refine T.iald rfl rfl ms10.c144 (by omega) (fun z9 hzz9 hyz9 hez9 => ?_)
                    have gzz9 := gl_of hez9 ⟨hzz9, hyz9⟩
                    subst gzz9
                    refine T.if_eq rfl rfl (by omega) (fun c18 => ?_) (fun c18 => ?_)
                    · refine T.go 2 (fun n9 => (rfl : _ = exe ξ n9 (d + 4) j_M_codedBlock 128 [(0, .ref 137), (1, J x), (2, J (257 + z5)), (3, J (1 + z6))] [J 1, .ref 137] s10)) ?_
                      refine T.mput (c' := c) (io' := io) (mo' := mo) (fa' := fa) (pl' := pl) (ns' := ns) (rw' := rw) (en' := en) (wy' := wy) (wh' := wh) (bi' := bi_5) (ed' := ed) (sz' := sz) (md' := md) (bd' := 1) (li' := li) (wk' := wk) (we' := we) ms10 rfl rfl rfl rfl rfl rfl (by omega) (fun s13 ms13 fs13 => ?_)
                      have gs13 := gs10.trans fs13
                      refine T.go 3 (fun n9 => (rfl : _ = exe ξ n9 (d + 4) j_M_codedBlock 141 [(0, .ref 137), (1, J x), (2, J (257 + z5)), (3, J (1 + z6)), (4, J 1)] [] s13)) ?_
                      rw [uh] at pz8_0
                      have e256 := tdz7 256 (by omega) (by omega)
                      exact loop141 _ (257 + z5) (1 + z6) 1 bi_5 md 1 Lc lk_2 s13 ms13 gs13 RG.refl (by omega) (by omega) (by omega) (by omega) (by omega) (by omega) (by omega) (fun h => absurd h (by omega)) (fun _ h => absurd h (by omega)) (fun _ u => CX_no (by omega) (fun q => by first | exact absurd ((pz8_0).mpr (((OKQ_congr (L := lkf lk_2 0) (L' := (TQ (gc Lc rw) ed bi).2.2) (fun j a b => by show gl lk_2 (0 + j) = _; rw [Int.zero_add]; exact tdz7 j a (by omega)))).mpr (DQ_TG.mp q).2.2.2.2.1)) (by omega) | exact (DQ_TG.mp q).2.2.2.1 (by rw [← e256]; omega))) (Nat.lt_succ_self _)
                    · refine T.go 3 (fun n9 => (rfl : _ = exe ξ n9 (d + 4) j_M_codedBlock 104 [(0, .ref 137), (1, J x), (2, J (257 + z5)), (3, J (1 + z6))] [J (1 + z6), J 300, .ref 137, .ref 137] s10)) ?_
                      refine T.callv (as := [J 300, J (1 + z6)]) (r := [.ref 137]) rfl rfl rfl rfl ms10.ob rfl (s_M_fisComplete (d + 2) 300 (1 + z6) s10 ms10 (by omega) (by omega) (by omega) (by omega) (by omega)) (fun v9 s14 hqs14 => ?_)
                      obtain ⟨z10, rfl, esz10, hzz10, hyz10, pz10_0⟩ := hqs14
                      rw [esz10]
                      refine T.if_ne rfl rfl (by omega) (fun c19 => ?_) (fun c19 => ?_)
                      · refine T.go 1 (fun n9 => (rfl : _ = exe ξ n9 (d + 4) j_M_codedBlock 128 [(0, .ref 137), (1, J x), (2, J (257 + z5)), (3, J (1 + z6))] [J 0, .ref 137] s10)) ?_
                        refine T.mput (c' := c) (io' := io) (mo' := mo) (fa' := fa) (pl' := pl) (ns' := ns) (rw' := rw) (en' := en) (wy' := wy) (wh' := wh) (bi' := bi_5) (ed' := ed) (sz' := sz) (md' := md) (bd' := 0) (li' := li) (wk' := wk) (we' := we) ms10 rfl rfl rfl rfl rfl rfl (by omega) (fun s15 ms15 fs15 => ?_)
                        have gs15 := gs10.trans fs15
                        refine T.go 3 (fun n9 => (rfl : _ = exe ξ n9 (d + 4) j_M_codedBlock 141 [(0, .ref 137), (1, J x), (2, J (257 + z5)), (3, J (1 + z6)), (4, J 1)] [] s15)) ?_
                        rw [uh] at pz8_0
                        rw [ud] at pz10_0
                        have e256 := tdz7 256 (by omega) (by omega)
                        have hdq : DQ (gc Lc rw) ed bi := (DQ_TG.mpr ⟨by omega, by omega, tg1, fun q => by rw [← e256] at q; omega, (((OKQ_congr (L := lkf lk_2 0) (L' := (TQ (gc Lc rw) ed bi).2.2) (fun j a b => by show gl lk_2 (0 + j) = _; rw [Int.zero_add]; exact tdz7 j a (by omega)))).mp ((pz8_0).mp (by omega))), Or.inl (((OKQ_congr (L := lkf lk_2 300) (L' := fun j => (TQ (gc Lc rw) ed bi).2.2 (hlQ (gc Lc rw) bi + j)) (fun j a b => tez7 j a (by omega)))).mp ((pz10_0).mp (by omega)))⟩)
                        exact loop141 _ (257 + z5) (1 + z6) 1 bi_5 md 0 Lc lk_2 s15 ms15 gs15 RG.refl (by omega) (by omega) (by omega) (by omega) (by omega) (by omega) (by omega) (fun _ _ u => by rw [uh, ud]; exact CX_dyn (by omega) hdq tcz7 tdz7 tez7 (by omega) (by omega) (by omega)) (fun _ h => absurd h (by omega)) (fun h => absurd h (by omega)) (Nat.lt_succ_self _)
                      · refine T.go 4 (fun n9 => (rfl : _ = exe ξ n9 (d + 4) j_M_codedBlock 116 [(0, .ref 137), (1, J x), (2, J (257 + z5)), (3, J (1 + z6))] [J 0, J (1 + z6), J 300, .ref 137, .ref 137] s10)) ?_
                        refine T.callv (as := [J 300, J (1 + z6), J 0]) (r := [.ref 137]) rfl rfl rfl rfl ms10.ob rfl (s_M_fmany (d + 3) 300 (1 + z6) 0 s10 ms10 (by omega) (by omega) (by omega) (by omega) (by omega) (by omega)) (fun v10 s16 hqs16 => ?_)
                        obtain ⟨z11, rfl, esz11, hzz11, hyz11, pz11_0⟩ := hqs16
                        rw [esz11]
                        refine T.go 1 (fun n9 => (rfl : _ = exe ξ n9 (d + 4) j_M_codedBlock 120 [(0, .ref 137), (1, J x), (2, J (257 + z5)), (3, J (1 + z6))] [J (1 + z6), J z11, .ref 137] s10)) ?_
                        refine T.icmp_ge rfl rfl (by omega) (by omega) (fun c20 => ?_) (fun c20 => ?_)
                        · refine T.go 1 (fun n9 => (rfl : _ = exe ξ n9 (d + 4) j_M_codedBlock 128 [(0, .ref 137), (1, J x), (2, J (257 + z5)), (3, J (1 + z6))] [J 0, .ref 137] s10)) ?_
                          refine T.mput (c' := c) (io' := io) (mo' := mo) (fa' := fa) (pl' := pl) (ns' := ns) (rw' := rw) (en' := en) (wy' := wy) (wh' := wh) (bi' := bi_5) (ed' := ed) (sz' := sz) (md' := md) (bd' := 0) (li' := li) (wk' := wk) (we' := we) ms10 rfl rfl rfl rfl rfl rfl (by omega) (fun s17 ms17 fs17 => ?_)
                          have gs17 := gs10.trans fs17
                          refine T.go 3 (fun n9 => (rfl : _ = exe ξ n9 (d + 4) j_M_codedBlock 141 [(0, .ref 137), (1, J x), (2, J (257 + z5)), (3, J (1 + z6)), (4, J 1)] [] s17)) ?_
                          rw [uh] at pz8_0
                          rw [ud] at pz10_0
                          rw [ud] at pz11_0
                          have e256 := tdz7 256 (by omega) (by omega)
                          have hdq : DQ (gc Lc rw) ed bi := (DQ_TG.mpr ⟨by omega, by omega, tg1, fun q => by rw [← e256] at q; omega, (((OKQ_congr (L := lkf lk_2 0) (L' := (TQ (gc Lc rw) ed bi).2.2) (fun j a b => by show gl lk_2 (0 + j) = _; rw [Int.zero_add]; exact tdz7 j a (by omega)))).mp ((pz8_0).mp (by omega))), Or.inr ((THQ_many (L := lkf lk_2 300) (L' := fun j => (TQ (gc Lc rw) ed bi).2.2 (hlQ (gc Lc rw) bi + j)) (n := (hdQ (gc Lc rw) bi).toNat) (fun j a b => tez7 j a (by omega)) (fun j => TQ_r _ _ _ _)).mp (by omega))⟩)
                          exact loop141 _ (257 + z5) (1 + z6) 1 bi_5 md 0 Lc lk_2 s17 ms17 gs17 RG.refl (by omega) (by omega) (by omega) (by omega) (by omega) (by omega) (by omega) (fun _ _ u => by rw [uh, ud]; exact CX_dyn (by omega) hdq tcz7 tdz7 tez7 (by omega) (by omega) (by omega)) (fun _ h => absurd h (by omega)) (fun h => absurd h (by omega)) (Nat.lt_succ_self _)
                        · refine T.go 2 (fun n9 => (rfl : _ = exe ξ n9 (d + 4) j_M_codedBlock 128 [(0, .ref 137), (1, J x), (2, J (257 + z5)), (3, J (1 + z6))] [J 1, .ref 137] s10)) ?_
                          refine T.mput (c' := c) (io' := io) (mo' := mo) (fa' := fa) (pl' := pl) (ns' := ns) (rw' := rw) (en' := en) (wy' := wy) (wh' := wh) (bi' := bi_5) (ed' := ed) (sz' := sz) (md' := md) (bd' := 1) (li' := li) (wk' := wk) (we' := we) ms10 rfl rfl rfl rfl rfl rfl (by omega) (fun s18 ms18 fs18 => ?_)
                          have gs18 := gs10.trans fs18
                          refine T.go 3 (fun n9 => (rfl : _ = exe ξ n9 (d + 4) j_M_codedBlock 141 [(0, .ref 137), (1, J x), (2, J (257 + z5)), (3, J (1 + z6)), (4, J 1)] [] s18)) ?_
                          rw [uh] at pz8_0
                          rw [ud] at pz10_0
                          rw [ud] at pz11_0
                          exact loop141 _ (257 + z5) (1 + z6) 1 bi_5 md 1 Lc lk_2 s18 ms18 gs18 RG.refl (by omega) (by omega) (by omega) (by omega) (by omega) (by omega) (by omega) (fun h => absurd h (by omega)) (fun _ h => absurd h (by omega)) (fun _ u => CX_no (by omega) (fun q => (DQ_TG.mp q).2.2.2.2.2.elim (fun q9 => absurd ((pz10_0).mpr (((OKQ_congr (L := lkf lk_2 300) (L' := fun j => (TQ (gc Lc rw) ed bi).2.2 (hlQ (gc Lc rw) bi + j)) (fun j a b => tez7 j a (by omega)))).mpr q9)) (by omega)) (fun q9 => absurd ((THQ_many (L := lkf lk_2 300) (L' := fun j => (TQ (gc Lc rw) ed bi).2.2 (hlQ (gc Lc rw) bi + j)) (n := (hdQ (gc Lc rw) bi).toNat) (fun j a b => tez7 j a (by omega)) (fun j => TQ_r _ _ _ _)).mpr q9) (by omega)))) (Nat.lt_succ_self _)
              · have fkz7 := taz7
                refine T.go 2 (fun n9 => (rfl : _ = exe ξ n9 (d + 4) j_M_codedBlock 73 [(0, .ref 137), (1, J x), (2, J (257 + z5)), (3, J (1 + z6))] [.ref 137, .ref 137] s10)) ?_
                refine T.get rfl rfl rfl ms10.ob rfl ?_
                refine T.if_ne rfl rfl (by omega) (fun c21 => ?_) (fun c21 => ?_)
                · refine T.go 2 (fun n9 => (rfl : _ = exe ξ n9 (d + 4) j_M_codedBlock 128 [(0, .ref 137), (1, J x), (2, J (257 + z5)), (3, J (1 + z6))] [J 1, .ref 137] s10)) ?_
                  refine T.mput (c' := c) (io' := io) (mo' := mo) (fa' := fa) (pl' := pl) (ns' := ns) (rw' := rw) (en' := en) (wy' := wy) (wh' := wh) (bi' := bi_5) (ed' := ed) (sz' := sz) (md' := md) (bd' := 1) (li' := li) (wk' := wk) (we' := we) ms10 rfl rfl rfl rfl rfl rfl (by omega) (fun s19 ms19 fs19 => ?_)
                  have gs19 := gs10.trans fs19
                  refine T.go 3 (fun n9 => (rfl : _ = exe ξ n9 (d + 4) j_M_codedBlock 141 [(0, .ref 137), (1, J x), (2, J (257 + z5)), (3, J (1 + z6)), (4, J 1)] [] s19)) ?_
                  exact loop141 _ (257 + z5) (1 + z6) 1 bi_5 md 1 Lc lk_2 s19 ms19 gs19 RG.refl (by omega) (by omega) (by omega) (by omega) (by omega) (by omega) (by omega) (fun h => absurd h (by omega)) (fun _ h => absurd h (by omega)) (fun _ u => CX_no (by omega) (fun q => tbz7 (DQ_TG.mp q).2.2.1)) (Nat.lt_succ_self _)
                · exfalso
                  omega
            · refine T.go 2 (fun n9 => (rfl : _ = exe ξ n9 (d + 4) j_M_codedBlock 55 [(0, .ref 137), (1, J x), (2, J (257 + z5)), (3, J (1 + z6))] [J 1, .ref 137] s6)) ?_
              refine T.mput (c' := c) (io' := io) (mo' := mo) (fa' := fa) (pl' := pl) (ns' := ns) (rw' := rw) (en' := en) (wy' := wy) (wh' := wh) (bi' := bi_4) (ed' := ed) (sz' := sz) (md' := md) (bd' := 1) (li' := li) (wk' := wk) (we' := we) ms6 rfl rfl rfl rfl rfl rfl (by omega) (fun s20 ms20 fs20 => ?_)
              have gs20 := gs6.trans fs20
              refine T.go 1 (fun n9 => (rfl : _ = exe ξ n9 (d + 4) j_M_codedBlock 59 [(0, .ref 137), (1, J x), (2, J (257 + z5)), (3, J (1 + z6))] [.ref 137] s20)) ?_
              refine T.get rfl rfl rfl ms20.ob rfl ?_
              refine T.go 3 (fun n9 => (rfl : _ = exe ξ n9 (d + 4) j_M_codedBlock 73 [(0, .ref 137), (1, J x), (2, J (257 + z5)), (3, J (1 + z6))] [.ref 137, .ref 137] s20)) ?_
              refine T.get rfl rfl rfl ms20.ob rfl ?_
              refine T.go 3 (fun n9 => (rfl : _ = exe ξ n9 (d + 4) j_M_codedBlock 128 [(0, .ref 137), (1, J x), (2, J (257 + z5)), (3, J (1 + z6))] [J 1, .ref 137] s20)) ?_
              refine T.mput (c' := c) (io' := io) (mo' := mo) (fa' := fa) (pl' := pl) (ns' := ns) (rw' := rw) (en' := en) (wy' := wy) (wh' := wh) (bi' := bi_4) (ed' := ed) (sz' := sz) (md' := md) (bd' := 1) (li' := li) (wk' := wk) (we' := we) ms20 rfl rfl rfl rfl rfl rfl (by omega) (fun s21 ms21 fs21 => ?_)
              have gs21 := gs20.trans fs21
              refine T.go 3 (fun n9 => (rfl : _ = exe ξ n9 (d + 4) j_M_codedBlock 141 [(0, .ref 137), (1, J x), (2, J (257 + z5)), (3, J (1 + z6)), (4, J 1)] [] s21)) ?_
              exact loop141 _ (257 + z5) (1 + z6) 1 bi_4 md 1 Lc lk s21 ms21 gs21 RG.refl (by omega) (by omega) (by omega) (by omega) (by omega) (by omega) (by omega) (fun h => absurd h (by omega)) (fun _ h => absurd h (by omega)) (fun _ u => CX_no (by omega) (fun q => by have q0 := q.1; have q1 := q.2.1; have q2 := q.2.2.1; unfold hlQ at q1; unfold hdQ at q2; omega)) (Nat.lt_succ_self _)
      · have fkz6 := taz6
        refine T.iadd rfl ?_
        refine T.go 3 (fun n9 => (rfl : _ = exe ξ n9 (d + 4) j_M_codedBlock 31 [(0, .ref 137), (1, J x), (2, J (257 + z5)), (3, J (1 + z6))] [.ref 137, .ref 137] s6)) ?_
        refine T.get rfl rfl rfl ms6.ob rfl ?_
        refine T.if_ne rfl rfl (by omega) (fun c22 => ?_) (fun c22 => ?_)
        · refine T.go 2 (fun n9 => (rfl : _ = exe ξ n9 (d + 4) j_M_codedBlock 55 [(0, .ref 137), (1, J x), (2, J (257 + z5)), (3, J (1 + z6))] [J 1, .ref 137] s6)) ?_
          refine T.mput (c' := c) (io' := io) (mo' := mo) (fa' := fa) (pl' := pl) (ns' := ns) (rw' := rw) (en' := en) (wy' := wy) (wh' := wh) (bi' := bi_4) (ed' := ed) (sz' := sz) (md' := md) (bd' := 1) (li' := li) (wk' := wk) (we' := we) ms6 rfl rfl rfl rfl rfl rfl (by omega) (fun s22 ms22 fs22 => ?_)
          have gs22 := gs6.trans fs22
          refine T.go 1 (fun n9 => (rfl : _ = exe ξ n9 (d + 4) j_M_codedBlock 59 [(0, .ref 137), (1, J x), (2, J (257 + z5)), (3, J (1 + z6))] [.ref 137] s22)) ?_
          refine T.get rfl rfl rfl ms22.ob rfl ?_
          refine T.go 3 (fun n9 => (rfl : _ = exe ξ n9 (d + 4) j_M_codedBlock 73 [(0, .ref 137), (1, J x), (2, J (257 + z5)), (3, J (1 + z6))] [.ref 137, .ref 137] s22)) ?_
          refine T.get rfl rfl rfl ms22.ob rfl ?_
          refine T.go 3 (fun n9 => (rfl : _ = exe ξ n9 (d + 4) j_M_codedBlock 128 [(0, .ref 137), (1, J x), (2, J (257 + z5)), (3, J (1 + z6))] [J 1, .ref 137] s22)) ?_
          refine T.mput (c' := c) (io' := io) (mo' := mo) (fa' := fa) (pl' := pl) (ns' := ns) (rw' := rw) (en' := en) (wy' := wy) (wh' := wh) (bi' := bi_4) (ed' := ed) (sz' := sz) (md' := md) (bd' := 1) (li' := li) (wk' := wk) (we' := we) ms22 rfl rfl rfl rfl rfl rfl (by omega) (fun s23 ms23 fs23 => ?_)
          have gs23 := gs22.trans fs23
          refine T.go 3 (fun n9 => (rfl : _ = exe ξ n9 (d + 4) j_M_codedBlock 141 [(0, .ref 137), (1, J x), (2, J (257 + z5)), (3, J (1 + z6)), (4, J 1)] [] s23)) ?_
          exact loop141 _ (257 + z5) (1 + z6) 1 bi_4 md 1 Lc lk s23 ms23 gs23 RG.refl (by omega) (by omega) (by omega) (by omega) (by omega) (by omega) (by omega) (fun h => absurd h (by omega)) (fun _ h => absurd h (by omega)) (fun _ u => CX_no (by omega) (fun q => by have q0 := q.1; have q1 := q.2.1; have q2 := q.2.2.1; unfold hlQ at q1; unfold hdQ at q2; omega)) (Nat.lt_succ_self _)
        · exfalso
          omega
    · have fkz5 := taz5
      refine T.iadd rfl ?_
      refine T.go 4 (fun n9 => (rfl : _ = exe ξ n9 (d + 4) j_M_codedBlock 24 [(0, .ref 137), (1, J x), (2, J (257 + z5)), (3, J 32)] [J 5, .ref 137, J 1] s5)) ?_
      refine T.callv (as := [J 5]) (r := [J 1]) rfl rfl rfl rfl ms5.ob rfl (s_M_take (d + 2) 5 s5 ms5 (by omega) (by omega) (by omega) (by omega) (by omega) (by omega) (by omega)) (fun v11 s24 hqs24 => ?_)
      obtain ⟨z12, bi_6, bd_7, rfl, ms24, fs24, hzz12, hyz12, pz12_0, pz12_1, pz12_2, pz12_3, pz12_4⟩ := hqs24
      have ns24 := ms24.len
      have rs24 := ms24.rg
      have gs24 := fs5.trans fs24
      refine T.iadd rfl ?_
      refine T.go 3 (fun n9 => (rfl : _ = exe ξ n9 (d + 4) j_M_codedBlock 31 [(0, .ref 137), (1, J x), (2, J (257 + z5)), (3, J (1 + z12))] [.ref 137, .ref 137] s24)) ?_
      refine T.get rfl rfl rfl ms24.ob rfl ?_
      refine T.if_ne rfl rfl (by omega) (fun c23 => ?_) (fun c23 => ?_)
      · refine T.go 2 (fun n9 => (rfl : _ = exe ξ n9 (d + 4) j_M_codedBlock 55 [(0, .ref 137), (1, J x), (2, J (257 + z5)), (3, J (1 + z12))] [J 1, .ref 137] s24)) ?_
        refine T.mput (c' := c) (io' := io) (mo' := mo) (fa' := fa) (pl' := pl) (ns' := ns) (rw' := rw) (en' := en) (wy' := wy) (wh' := wh) (bi' := bi_6) (ed' := ed) (sz' := sz) (md' := md) (bd' := 1) (li' := li) (wk' := wk) (we' := we) ms24 rfl rfl rfl rfl rfl rfl (by omega) (fun s25 ms25 fs25 => ?_)
        have gs25 := gs24.trans fs25
        refine T.go 1 (fun n9 => (rfl : _ = exe ξ n9 (d + 4) j_M_codedBlock 59 [(0, .ref 137), (1, J x), (2, J (257 + z5)), (3, J (1 + z12))] [.ref 137] s25)) ?_
        refine T.get rfl rfl rfl ms25.ob rfl ?_
        refine T.go 3 (fun n9 => (rfl : _ = exe ξ n9 (d + 4) j_M_codedBlock 73 [(0, .ref 137), (1, J x), (2, J (257 + z5)), (3, J (1 + z12))] [.ref 137, .ref 137] s25)) ?_
        refine T.get rfl rfl rfl ms25.ob rfl ?_
        refine T.go 3 (fun n9 => (rfl : _ = exe ξ n9 (d + 4) j_M_codedBlock 128 [(0, .ref 137), (1, J x), (2, J (257 + z5)), (3, J (1 + z12))] [J 1, .ref 137] s25)) ?_
        refine T.mput (c' := c) (io' := io) (mo' := mo) (fa' := fa) (pl' := pl) (ns' := ns) (rw' := rw) (en' := en) (wy' := wy) (wh' := wh) (bi' := bi_6) (ed' := ed) (sz' := sz) (md' := md) (bd' := 1) (li' := li) (wk' := wk) (we' := we) ms25 rfl rfl rfl rfl rfl rfl (by omega) (fun s26 ms26 fs26 => ?_)
        have gs26 := gs25.trans fs26
        refine T.go 3 (fun n9 => (rfl : _ = exe ξ n9 (d + 4) j_M_codedBlock 141 [(0, .ref 137), (1, J x), (2, J (257 + z5)), (3, J (1 + z12)), (4, J 1)] [] s26)) ?_
        exact loop141 _ (257 + z5) (1 + z12) 1 bi_6 md 1 Lc lk s26 ms26 gs26 RG.refl (by omega) (by omega) (by omega) (by omega) (by omega) (by omega) (by omega) (fun h => absurd h (by omega)) (fun _ h => absurd h (by omega)) (fun _ u => CX_no (by omega) (fun q => by have q0 := q.1; have q1 := q.2.1; have q2 := q.2.2.1; unfold hlQ at q1; unfold hdQ at q2; omega)) (Nat.lt_succ_self _)
      · exfalso
        omega

set_option maxHeartbeats 4000000 in
theorem s_M_finflate {ξ : Nat → Option (Nat × List Int32)} {c io mo fa pl ns rw en wy wh bi ed sz md bd li wk we : Int} {Lc : List Int64} {la lm ln lh ld lk lt : List Int32} (d : Nat)  (σ : qH) (hM : MS σ c io mo fa pl ns rw en wy wh bi ed sz md bd li wk we Lc la lm ln lh ld lk lt) (pre0 : 0 ≤ bi) (pre1 : bi ≤ ed) (pre2 : ed ≤ 64000) (pre3 : ed % 8 = 0) (pre4 : 0 ≤ md) (pre5 : md ≤ sz) (pre6 : sz ≤ 8000) (pre7 : bd = 0) (pre8 : rw ≤ 3) : T ξ (d + 5) j_M_inflate 0 (lv_args 0 [.ref 137]) [] σ (fun v σ' => ∃ (bi1 : Int) (md1 : Int) (bd1 : Int) (Lc1 : List Int64) (lk1 : List Int32), v = none ∧ MS σ' c io mo fa pl ns rw en wy wh bi1 ed sz md1 bd1 li wk we Lc1 la lm ln lh ld lk1 lt ∧ FM σ σ' ∧ RG [4] Lc Lc1 ∧ md ≤ md1 ∧ md1 ≤ sz ∧ ((bd1 = 0 ∧ md1 = sz ∧ ∃ v : US, INF (gc Lc rw) ed sz 64001 bi md (nm Lc md) v ∧ v.2.2.1 = sz ∧ ed - v.2.1 ≤ 7 ∧ nm Lc1 md1 = v.2.2.2) ∨ (bd1 = 1 ∧ ∀ v : US, INF (gc Lc rw) ed sz 64001 bi md (nm Lc md) v → ¬ (v.2.2.1 = sz ∧ ed - v.2.1 ≤ 7)))) := by
  have r0 := hM.rg
  have n0 := hM.len
  have loop2 : ∀ (f2 : Nat) (m1 : Int) (bi9 : Int) (md9 : Int) (bd9 : Int) (Lc9 : List Int64) (lk9 : List Int32) (τ : qH), MS τ c io mo fa pl ns rw en wy wh bi9 ed sz md9 bd9 li wk we Lc9 la lm ln lh ld lk9 lt → FM σ τ → RG [4] Lc Lc9 → bi ≤ bi9 → bi9 ≤ ed → md ≤ md9 → md9 ≤ sz → (0 ≤ m1 ∧ m1 ≤ 1) → (bd9 = 0 → m1 = 1 → ∀ u : US, INF (gc Lc rw) ed sz (ed - bi9 + 1).toNat bi9 md9 (nm Lc9 md9) u ↔ INF (gc Lc rw) ed sz 64001 bi md (nm Lc md) u) → (bd9 = 0 → m1 = 0 → INF (gc Lc rw) ed sz 64001 bi md (nm Lc md) (true, bi9, md9, nm Lc9 md9)) → (bd9 = 1 → ∀ u : US, ¬ INF (gc Lc rw) ed sz 64001 bi md (nm Lc md) u) → (ed - bi9 + 1 - bd9).toNat < f2 → T ξ (d + 5) j_M_inflate 2 [(0, .ref 137), (1, J m1)] [] τ (fun v σ' => ∃ (bi1 : Int) (md1 : Int) (bd1 : Int) (Lc1 : List Int64) (lk1 : List Int32), v = none ∧ MS σ' c io mo fa pl ns rw en wy wh bi1 ed sz md1 bd1 li wk we Lc1 la lm ln lh ld lk1 lt ∧ FM σ σ' ∧ RG [4] Lc Lc1 ∧ md ≤ md1 ∧ md1 ≤ sz ∧ ((bd1 = 0 ∧ md1 = sz ∧ ∃ v : US, INF (gc Lc rw) ed sz 64001 bi md (nm Lc md) v ∧ v.2.2.1 = sz ∧ ed - v.2.1 ≤ 7 ∧ nm Lc1 md1 = v.2.2.2) ∨ (bd1 = 1 ∧ ∀ v : US, INF (gc Lc rw) ed sz 64001 bi md (nm Lc md) v → ¬ (v.2.2.1 = sz ∧ ed - v.2.1 ≤ 7)))) := by
    intro f2
    induction f2 with
    | zero => intro m1 bi9 md9 bd9 Lc9 lk9 τ mτ fτ gτ i0 i1 i2 i3 i4 i5 i6 i7 hm2; omega
    | succ f2 ih2 =>
      intro m1 bi9 md9 bd9 Lc9 lk9 τ mτ fτ gτ i0 i1 i2 i3 i4 i5 i6 i7 hm2
      have rτ := mτ.rg
      have nτ := mτ.len
      refine T.go 1 (fun n9 => (rfl : _ = exe ξ n9 (d + 5) j_M_inflate 3 [(0, .ref 137), (1, J m1)] [J m1] τ)) ?_
      refine T.if_eq rfl rfl (by omega) (fun c1 => ?_) (fun c1 => ?_)
      · refine T.go 2 (fun n9 => (rfl : _ = exe ξ n9 (d + 5) j_M_inflate 94 [(0, .ref 137), (1, J m1)] [.ref 137, .ref 137] τ)) ?_
        refine T.get rfl rfl rfl mτ.ob rfl ?_
        refine T.if_ne rfl rfl (by omega) (fun c2 => ?_) (fun c2 => ?_)
        · refine T.go 2 (fun n9 => (rfl : _ = exe ξ n9 (d + 5) j_M_inflate 130 [(0, .ref 137), (1, J m1)] [J 1, .ref 137] τ)) ?_
          refine T.mput (c' := c) (io' := io) (mo' := mo) (fa' := fa) (pl' := pl) (ns' := ns) (rw' := rw) (en' := en) (wy' := wy) (wh' := wh) (bi' := bi9) (ed' := ed) (sz' := sz) (md' := md9) (bd' := 1) (li' := li) (wk' := wk) (we' := we) mτ rfl rfl rfl rfl rfl rfl (by omega) (fun s1 ms1 fs1 => ?_)
          have gs1 := fτ.trans fs1
          exact T.vret rfl rfl ⟨bi9, md9, 1, Lc9, lk9, rfl, ms1, gs1, gτ, by omega, by omega, (Or.inr ⟨rfl, fun v hv hv2 => by rcases (by omega : bd9 = 0 ∨ bd9 = 1) with h | h; (· have h6 := INF_one _ (i6 h (by omega)) hv; rw [← h6] at hv2; have h7 : md9 = sz := hv2.1; have h8 : ed - bi9 ≤ 7 := hv2.2; omega); (· exact i7 h v hv)⟩)⟩
        · refine T.go 1 (fun n9 => (rfl : _ = exe ξ n9 (d + 5) j_M_inflate 101 [(0, .ref 137), (1, J m1)] [.ref 137, .ref 137] τ)) ?_
          refine T.get rfl rfl rfl mτ.ob rfl ?_
          refine T.go 1 (fun n9 => (rfl : _ = exe ξ n9 (d + 5) j_M_inflate 105 [(0, .ref 137), (1, J m1)] [.ref 137, J md9, .ref 137] τ)) ?_
          refine T.get rfl rfl rfl mτ.ob rfl ?_
          refine T.icmp_ne rfl rfl (by omega) (by omega) (fun c3 => ?_) (fun c3 => ?_)
          · refine T.go 2 (fun n9 => (rfl : _ = exe ξ n9 (d + 5) j_M_inflate 130 [(0, .ref 137), (1, J m1)] [J 1, .ref 137] τ)) ?_
            refine T.mput (c' := c) (io' := io) (mo' := mo) (fa' := fa) (pl' := pl) (ns' := ns) (rw' := rw) (en' := en) (wy' := wy) (wh' := wh) (bi' := bi9) (ed' := ed) (sz' := sz) (md' := md9) (bd' := 1) (li' := li) (wk' := wk) (we' := we) mτ rfl rfl rfl rfl rfl rfl (by omega) (fun s2 ms2 fs2 => ?_)
            have gs2 := fτ.trans fs2
            exact T.vret rfl rfl ⟨bi9, md9, 1, Lc9, lk9, rfl, ms2, gs2, gτ, by omega, by omega, (Or.inr ⟨rfl, fun v hv hv2 => by rcases (by omega : bd9 = 0 ∨ bd9 = 1) with h | h; (· have h6 := INF_one _ (i6 h (by omega)) hv; rw [← h6] at hv2; have h7 : md9 = sz := hv2.1; have h8 : ed - bi9 ≤ 7 := hv2.2; omega); (· exact i7 h v hv)⟩)⟩
          · refine T.go 1 (fun n9 => (rfl : _ = exe ξ n9 (d + 5) j_M_inflate 112 [(0, .ref 137), (1, J m1)] [.ref 137, .ref 137] τ)) ?_
            refine T.get rfl rfl rfl mτ.ob rfl ?_
            refine T.go 1 (fun n9 => (rfl : _ = exe ξ n9 (d + 5) j_M_inflate 116 [(0, .ref 137), (1, J m1)] [.ref 137, J ed, .ref 137] τ)) ?_
            refine T.get rfl rfl rfl mτ.ob rfl ?_
            refine T.isub rfl ?_
            refine T.go 1 (fun n9 => (rfl : _ = exe ξ n9 (d + 5) j_M_inflate 122 [(0, .ref 137), (1, J m1)] [J 7, J (ed - bi9), .ref 137] τ)) ?_
            refine T.icmp_le rfl rfl (by omega) (by omega) (fun c4 => ?_) (fun c4 => ?_)
            · refine T.go 1 (fun n9 => (rfl : _ = exe ξ n9 (d + 5) j_M_inflate 130 [(0, .ref 137), (1, J m1)] [J 0, .ref 137] τ)) ?_
              refine T.mput (c' := c) (io' := io) (mo' := mo) (fa' := fa) (pl' := pl) (ns' := ns) (rw' := rw) (en' := en) (wy' := wy) (wh' := wh) (bi' := bi9) (ed' := ed) (sz' := sz) (md' := md9) (bd' := 0) (li' := li) (wk' := wk) (we' := we) mτ rfl rfl rfl rfl rfl rfl (by omega) (fun s3 ms3 fs3 => ?_)
              have gs3 := fτ.trans fs3
              exact T.vret rfl rfl ⟨bi9, md9, 0, Lc9, lk9, rfl, ms3, gs3, gτ, by omega, by omega, (Or.inl ⟨rfl, by omega, _, i6 (by omega) (by omega), by show md9 = sz; omega, by show ed - bi9 ≤ 7; omega, rfl⟩)⟩
            · refine T.go 2 (fun n9 => (rfl : _ = exe ξ n9 (d + 5) j_M_inflate 130 [(0, .ref 137), (1, J m1)] [J 1, .ref 137] τ)) ?_
              refine T.mput (c' := c) (io' := io) (mo' := mo) (fa' := fa) (pl' := pl) (ns' := ns) (rw' := rw) (en' := en) (wy' := wy) (wh' := wh) (bi' := bi9) (ed' := ed) (sz' := sz) (md' := md9) (bd' := 1) (li' := li) (wk' := wk) (we' := we) mτ rfl rfl rfl rfl rfl rfl (by omega) (fun s4 ms4 fs4 => ?_)
              have gs4 := fτ.trans fs4
              exact T.vret rfl rfl ⟨bi9, md9, 1, Lc9, lk9, rfl, ms4, gs4, gτ, by omega, by omega, (Or.inr ⟨rfl, fun v hv hv2 => by rcases (by omega : bd9 = 0 ∨ bd9 = 1) with h | h; (· have h6 := INF_one _ (i6 h (by omega)) hv; rw [← h6] at hv2; have h7 : md9 = sz := hv2.1; have h8 : ed - bi9 ≤ 7 := hv2.2; omega); (· exact i7 h v hv)⟩)⟩
      · refine T.go 1 (fun n9 => (rfl : _ = exe ξ n9 (d + 5) j_M_inflate 7 [(0, .ref 137), (1, J m1)] [.ref 137] τ)) ?_
        refine T.get rfl rfl rfl mτ.ob rfl ?_
        refine T.if_ne rfl rfl (by omega) (fun c5 => ?_) (fun c5 => ?_)
        · refine T.go 2 (fun n9 => (rfl : _ = exe ξ n9 (d + 5) j_M_inflate 94 [(0, .ref 137), (1, J m1)] [.ref 137, .ref 137] τ)) ?_
          refine T.get rfl rfl rfl mτ.ob rfl ?_
          refine T.if_ne rfl rfl (by omega) (fun c6 => ?_) (fun c6 => ?_)
          · refine T.go 2 (fun n9 => (rfl : _ = exe ξ n9 (d + 5) j_M_inflate 130 [(0, .ref 137), (1, J m1)] [J 1, .ref 137] τ)) ?_
            refine T.mput (c' := c) (io' := io) (mo' := mo) (fa' := fa) (pl' := pl) (ns' := ns) (rw' := rw) (en' := en) (wy' := wy) (wh' := wh) (bi' := bi9) (ed' := ed) (sz' := sz) (md' := md9) (bd' := 1) (li' := li) (wk' := wk) (we' := we) mτ rfl rfl rfl rfl rfl rfl (by omega) (fun s5 ms5 fs5 => ?_)
            have gs5 := fτ.trans fs5
            exact T.vret rfl rfl ⟨bi9, md9, 1, Lc9, lk9, rfl, ms5, gs5, gτ, by omega, by omega, (Or.inr ⟨rfl, fun v hv hv2 => by rcases (by omega : bd9 = 0 ∨ bd9 = 1) with h | h; (· have h6 := INF_one _ (i6 h (by omega)) hv; rw [← h6] at hv2; have h7 : md9 = sz := hv2.1; have h8 : ed - bi9 ≤ 7 := hv2.2; omega); (· exact i7 h v hv)⟩)⟩
          · refine T.go 1 (fun n9 => (rfl : _ = exe ξ n9 (d + 5) j_M_inflate 101 [(0, .ref 137), (1, J m1)] [.ref 137, .ref 137] τ)) ?_
            refine T.get rfl rfl rfl mτ.ob rfl ?_
            refine T.go 1 (fun n9 => (rfl : _ = exe ξ n9 (d + 5) j_M_inflate 105 [(0, .ref 137), (1, J m1)] [.ref 137, J md9, .ref 137] τ)) ?_
            refine T.get rfl rfl rfl mτ.ob rfl ?_
            refine T.icmp_ne rfl rfl (by omega) (by omega) (fun c7 => ?_) (fun c7 => ?_)
            · refine T.go 2 (fun n9 => (rfl : _ = exe ξ n9 (d + 5) j_M_inflate 130 [(0, .ref 137), (1, J m1)] [J 1, .ref 137] τ)) ?_
              refine T.mput (c' := c) (io' := io) (mo' := mo) (fa' := fa) (pl' := pl) (ns' := ns) (rw' := rw) (en' := en) (wy' := wy) (wh' := wh) (bi' := bi9) (ed' := ed) (sz' := sz) (md' := md9) (bd' := 1) (li' := li) (wk' := wk) (we' := we) mτ rfl rfl rfl rfl rfl rfl (by omega) (fun s6 ms6 fs6 => ?_)
              have gs6 := fτ.trans fs6
              exact T.vret rfl rfl ⟨bi9, md9, 1, Lc9, lk9, rfl, ms6, gs6, gτ, by omega, by omega, (Or.inr ⟨rfl, fun v hv hv2 => by rcases (by omega : bd9 = 0 ∨ bd9 = 1) with h | h; (· have h6 := INF_one _ (i6 h (by omega)) hv; rw [← h6] at hv2; have h7 : md9 = sz := hv2.1; have h8 : ed - bi9 ≤ 7 := hv2.2; omega); (· exact i7 h v hv)⟩)⟩
            · refine T.go 1 (fun n9 => (rfl : _ = exe ξ n9 (d + 5) j_M_inflate 112 [(0, .ref 137), (1, J m1)] [.ref 137, .ref 137] τ)) ?_
              refine T.get rfl rfl rfl mτ.ob rfl ?_
              refine T.go 1 (fun n9 => (rfl : _ = exe ξ n9 (d + 5) j_M_inflate 116 [(0, .ref 137), (1, J m1)] [.ref 137, J ed, .ref 137] τ)) ?_
              refine T.get rfl rfl rfl mτ.ob rfl ?_
              refine T.isub rfl ?_
              refine T.go 1 (fun n9 => (rfl : _ = exe ξ n9 (d + 5) j_M_inflate 122 [(0, .ref 137), (1, J m1)] [J 7, J (ed - bi9), .ref 137] τ)) ?_
              refine T.icmp_le rfl rfl (by omega) (by omega) (fun c8 => ?_) (fun c8 => ?_)
              · refine T.go 1 (fun n9 => (rfl : _ = exe ξ n9 (d + 5) j_M_inflate 130 [(0, .ref 137), (1, J m1)] [J 0, .ref 137] τ)) ?_
                refine T.mput (c' := c) (io' := io) (mo' := mo) (fa' := fa) (pl' := pl) (ns' := ns) (rw' := rw) (en' := en) (wy' := wy) (wh' := wh) (bi' := bi9) (ed' := ed) (sz' := sz) (md' := md9) (bd' := 0) (li' := li) (wk' := wk) (we' := we) mτ rfl rfl rfl rfl rfl rfl (by omega) (fun s7 ms7 fs7 => ?_)
                have gs7 := fτ.trans fs7
                exact T.vret rfl rfl ⟨bi9, md9, 0, Lc9, lk9, rfl, ms7, gs7, gτ, by omega, by omega, (Or.inl ⟨rfl, by omega, _, i6 (by omega) (by omega), by show md9 = sz; omega, by show ed - bi9 ≤ 7; omega, rfl⟩)⟩
              · refine T.go 2 (fun n9 => (rfl : _ = exe ξ n9 (d + 5) j_M_inflate 130 [(0, .ref 137), (1, J m1)] [J 1, .ref 137] τ)) ?_
                refine T.mput (c' := c) (io' := io) (mo' := mo) (fa' := fa) (pl' := pl) (ns' := ns) (rw' := rw) (en' := en) (wy' := wy) (wh' := wh) (bi' := bi9) (ed' := ed) (sz' := sz) (md' := md9) (bd' := 1) (li' := li) (wk' := wk) (we' := we) mτ rfl rfl rfl rfl rfl rfl (by omega) (fun s8 ms8 fs8 => ?_)
                have gs8 := fτ.trans fs8
                exact T.vret rfl rfl ⟨bi9, md9, 1, Lc9, lk9, rfl, ms8, gs8, gτ, by omega, by omega, (Or.inr ⟨rfl, fun v hv hv2 => by rcases (by omega : bd9 = 0 ∨ bd9 = 1) with h | h; (· have h6 := INF_one _ (i6 h (by omega)) hv; rw [← h6] at hv2; have h7 : md9 = sz := hv2.1; have h8 : ed - bi9 ≤ 7 := hv2.2; omega); (· exact i7 h v hv)⟩)⟩
        · refine T.go 2 (fun n9 => (rfl : _ = exe ξ n9 (d + 5) j_M_inflate 15 [(0, .ref 137), (1, J m1)] [J 1, .ref 137] τ)) ?_
          refine T.callv (as := [J 1]) (r := []) rfl rfl rfl rfl mτ.ob rfl (s_M_ftake (d + 3) 1 τ mτ (by omega) (by omega) (by omega) (by omega) (by omega) (by omega) (by omega)) (fun v1 s9 hqs9 => ?_)
          obtain ⟨z1, bi_1, bd_1, rfl, ms9, fs9, hzz1, hyz1, pz1_0, pz1_1, pz1_2⟩ := hqs9
          have ns9 := ms9.len
          have rs9 := ms9.rg
          have gs9 := fτ.trans fs9
          have cgz1 := gτ rw (by omega) (fun q => by have := List.mem_singleton.mp q; omega)
          rw [cgz1, show (1 : Int).toNat = 1 from rfl] at pz1_2
          rcases pz1_2 with ⟨taz1, tbz1, tcz1, tdz1, tez1⟩ | ⟨taz1, tbz1⟩
          · have bt9 := BV_1 (gc Lc rw) bi9
            have bt8 := bt_r (gc Lc rw) bi9
            refine T.if_ne rfl rfl (by omega) (fun c9 => ?_) (fun c9 => ?_)
            · refine T.go 4 (fun n9 => (rfl : _ = exe ξ n9 (d + 5) j_M_inflate 29 [(0, .ref 137), (1, J 0)] [J 2, .ref 137] s9)) ?_
              refine T.callv (as := [J 2]) (r := []) rfl rfl rfl rfl ms9.ob rfl (s_M_ftake (d + 3) 2 s9 ms9 (by omega) (by omega) (by omega) (by omega) (by omega) (by omega) (by omega)) (fun v2 s10 hqs10 => ?_)
              obtain ⟨z2, bi_2, bd_2, rfl, ms10, fs10, hzz2, hyz2, pz2_0, pz2_1, pz2_2⟩ := hqs10
              have ns10 := ms10.len
              have rs10 := ms10.rg
              have gs10 := gs9.trans fs10
              have cgz2 := gτ rw (by omega) (fun q => by have := List.mem_singleton.mp q; omega)
              rw [cgz2, show (2 : Int).toNat = 2 from rfl] at pz2_2
              rcases pz2_2 with ⟨taz2, tbz2, tcz2, tdz2, tez2⟩ | ⟨taz2, tbz2⟩
              · rw [show bi_1 = bi9 + 1 by omega] at tcz2
                have bvk := BV_r (gc Lc rw) (bi9 + 1) 2
                have bvp : P2 ((2 : Nat) : Int) = 4 := by decide
                refine T.go 3 (fun n9 => (rfl : _ = exe ξ n9 (d + 5) j_M_inflate 35 [(0, .ref 137), (1, J 0), (2, J z2)] [.ref 137, .ref 137] s10)) ?_
                refine T.get rfl rfl rfl ms10.ob rfl ?_
                refine T.if_ne rfl rfl (by omega) (fun c10 => ?_) (fun c10 => ?_)
                · exfalso
                  omega
                · refine T.go 2 (fun n9 => (rfl : _ = exe ξ n9 (d + 5) j_M_inflate 43 [(0, .ref 137), (1, J 0), (2, J z2)] [J 3, J z2, .ref 137] s10)) ?_
                  refine T.icmp_ne rfl rfl (by omega) (by omega) (fun c11 => ?_) (fun c11 => ?_)
                  · refine T.go 1 (fun n9 => (rfl : _ = exe ξ n9 (d + 5) j_M_inflate 51 [(0, .ref 137), (1, J 0), (2, J z2)] [J 0, .ref 137] s10)) ?_
                    refine T.mput (c' := c) (io' := io) (mo' := mo) (fa' := fa) (pl' := pl) (ns' := ns) (rw' := rw) (en' := en) (wy' := wy) (wh' := wh) (bi' := bi_2) (ed' := ed) (sz' := sz) (md' := md9) (bd' := 0) (li' := li) (wk' := wk) (we' := we) ms10 rfl rfl rfl rfl rfl rfl (by omega) (fun s11 ms11 fs11 => ?_)
                    have gs11 := gs10.trans fs11
                    refine T.go 1 (fun n9 => (rfl : _ = exe ξ n9 (d + 5) j_M_inflate 55 [(0, .ref 137), (1, J 0), (2, J z2)] [.ref 137] s11)) ?_
                    refine T.get rfl rfl rfl ms11.ob rfl ?_
                    refine T.go 2 (fun n9 => (rfl : _ = exe ξ n9 (d + 5) j_M_inflate 65 [(0, .ref 137), (1, J 0), (2, J z2)] [J z2] s11)) ?_
                    refine T.if_ne rfl rfl (by omega) (fun c12 => ?_) (fun c12 => ?_)
                    · refine T.go 3 (fun n9 => (rfl : _ = exe ξ n9 (d + 5) j_M_inflate 78 [(0, .ref 137), (1, J 0), (2, J z2)] [J 2, J z2, .ref 137] s11)) ?_
                      refine T.icmp_ne rfl rfl (by omega) (by omega) (fun c13 => ?_) (fun c13 => ?_)
                      · refine T.go 1 (fun n9 => (rfl : _ = exe ξ n9 (d + 5) j_M_inflate 86 [(0, .ref 137), (1, J 0), (2, J z2)] [J 0, .ref 137] s11)) ?_
                        have cgp := gτ rw (by omega) (fun q => by have := List.mem_singleton.mp q; omega)
                        refine T.callv (as := [J 0]) (r := []) rfl rfl rfl rfl ms11.ob rfl (s_M_fcodedBlock d 0 s11 ms11 (by omega) (by omega) (by omega) (by omega) (by omega) (by omega) (by omega) (by omega) (by omega) (by omega) (by omega) (by omega)) (fun v3 s12 hqs12 => ?_)
                        obtain ⟨bi_3, md_1, bd_3, Lc_1, lk_1, rfl, ms12, fs12, pz3_0, pz3_1, pz3_2, pz3_3, pz3_4, pz3_5⟩ := hqs12
                        have ns12 := ms12.len
                        have rs12 := ms12.rg
                        have gs12 := gs11.trans fs12
                        have rgs12 := gτ.trans pz3_0 (by decide)
                        rw [cgp, show bi_2 = bi9 + 3 by omega] at pz3_5
                        rcases pz3_5 with ⟨ua, ub⟩ | ⟨ua, ub⟩
                        · have fkz3 := ua
                          refine T.go 1 (fun n9 => (rfl : _ = exe ξ n9 (d + 5) j_M_inflate 2 [(0, .ref 137), (1, J 0), (2, J z2)] [] s12)) ?_
                          refine T.drop (lv := [(0, .ref 137), (1, J 0)]) [(2, J z2)] (by simp) ?_
                          have hbk := BK_C (b := bi9) (x := 0) (by omega) (by omega) ub
                          exact ih2  0 bi_3 md_1 bd_3 Lc_1 lk_1 s12 ms12 gs12 rgs12 (by omega) (by omega) (by omega) (by omega) (by omega) (fun _ h => absurd h (by decide)) (fun _ _ => (i5 (by omega) (by omega) _).mp (INFm_1 hbk (by omega) (by omega))) (fun h => absurd h (by omega)) (by omega)
                        · have fkz3 := ua
                          refine T.go 1 (fun n9 => (rfl : _ = exe ξ n9 (d + 5) j_M_inflate 2 [(0, .ref 137), (1, J 0), (2, J z2)] [] s12)) ?_
                          refine T.drop (lv := [(0, .ref 137), (1, J 0)]) [(2, J z2)] (by simp) ?_
                          have hbn : ∀ w9, ¬ BK (gc Lc rw) ed sz bi9 md9 (nm Lc9 md9) w9 := BK_noC (x := 0) (by omega) (by omega) ub
                          exact ih2  0 bi_3 md_1 bd_3 Lc_1 lk_1 s12 ms12 gs12 rgs12 (by omega) (by omega) (by omega) (by omega) (by omega) (fun h => absurd h (by omega)) (fun h => absurd h (by omega)) (fun _ u q => INFm_no hbn (by omega) ((i5 (by omega) (by omega) u).mpr q)) (by omega)
                      · refine T.go 2 (fun n9 => (rfl : _ = exe ξ n9 (d + 5) j_M_inflate 86 [(0, .ref 137), (1, J 0), (2, J z2)] [J 1, .ref 137] s11)) ?_
                        have cgp := gτ rw (by omega) (fun q => by have := List.mem_singleton.mp q; omega)
                        refine T.callv (as := [J 1]) (r := []) rfl rfl rfl rfl ms11.ob rfl (s_M_fcodedBlock d 1 s11 ms11 (by omega) (by omega) (by omega) (by omega) (by omega) (by omega) (by omega) (by omega) (by omega) (by omega) (by omega) (by omega)) (fun v4 s13 hqs13 => ?_)
                        obtain ⟨bi_4, md_2, bd_4, Lc_2, lk_2, rfl, ms13, fs13, pz4_0, pz4_1, pz4_2, pz4_3, pz4_4, pz4_5⟩ := hqs13
                        have ns13 := ms13.len
                        have rs13 := ms13.rg
                        have gs13 := gs11.trans fs13
                        have rgs13 := gτ.trans pz4_0 (by decide)
                        rw [cgp, show bi_2 = bi9 + 3 by omega] at pz4_5
                        rcases pz4_5 with ⟨ua, ub⟩ | ⟨ua, ub⟩
                        · have fkz4 := ua
                          refine T.go 1 (fun n9 => (rfl : _ = exe ξ n9 (d + 5) j_M_inflate 2 [(0, .ref 137), (1, J 0), (2, J z2)] [] s13)) ?_
                          refine T.drop (lv := [(0, .ref 137), (1, J 0)]) [(2, J z2)] (by simp) ?_
                          have hbk := BK_C (b := bi9) (x := 1) (by omega) (by omega) ub
                          exact ih2  0 bi_4 md_2 bd_4 Lc_2 lk_2 s13 ms13 gs13 rgs13 (by omega) (by omega) (by omega) (by omega) (by omega) (fun _ h => absurd h (by decide)) (fun _ _ => (i5 (by omega) (by omega) _).mp (INFm_1 hbk (by omega) (by omega))) (fun h => absurd h (by omega)) (by omega)
                        · have fkz4 := ua
                          refine T.go 1 (fun n9 => (rfl : _ = exe ξ n9 (d + 5) j_M_inflate 2 [(0, .ref 137), (1, J 0), (2, J z2)] [] s13)) ?_
                          refine T.drop (lv := [(0, .ref 137), (1, J 0)]) [(2, J z2)] (by simp) ?_
                          have hbn : ∀ w9, ¬ BK (gc Lc rw) ed sz bi9 md9 (nm Lc9 md9) w9 := BK_noC (x := 1) (by omega) (by omega) ub
                          exact ih2  0 bi_4 md_2 bd_4 Lc_2 lk_2 s13 ms13 gs13 rgs13 (by omega) (by omega) (by omega) (by omega) (by omega) (fun h => absurd h (by omega)) (fun h => absurd h (by omega)) (fun _ u q => INFm_no hbn (by omega) ((i5 (by omega) (by omega) u).mpr q)) (by omega)
                    · refine T.go 1 (fun n9 => (rfl : _ = exe ξ n9 (d + 5) j_M_inflate 69 [(0, .ref 137), (1, J 0), (2, J z2)] [.ref 137] s11)) ?_
                      have cgp := gτ rw (by omega) (fun q => by have := List.mem_singleton.mp q; omega)
                      refine T.callv (as := []) (r := []) rfl rfl rfl rfl ms11.ob rfl (s_M_fplainBlock (d + 2)  s11 ms11 (by omega) (by omega) (by omega) (by omega) (by omega) (by omega) (by omega) (by omega) (by omega)) (fun v5 s14 hqs14 => ?_)
                      obtain ⟨bi_5, md_3, bd_5, Lc_3, rfl, ms14, fs14, pz5_0, pz5_1, pz5_2, pz5_3, pz5_4, pz5_5⟩ := hqs14
                      have ns14 := ms14.len
                      have rs14 := ms14.rg
                      have gs14 := gs11.trans fs14
                      have rgs14 := gτ.trans pz5_0 (by decide)
                      rw [cgp, show bi_2 = bi9 + 3 by omega] at pz5_5
                      rcases pz5_5 with ⟨ua, ub, uc, ud, ue⟩ | ⟨ua, ub⟩
                      · have fkz5 := ua
                        refine T.go 2 (fun n9 => (rfl : _ = exe ξ n9 (d + 5) j_M_inflate 2 [(0, .ref 137), (1, J 0), (2, J z2)] [] s14)) ?_
                        refine T.drop (lv := [(0, .ref 137), (1, J 0)]) [(2, J z2)] (by simp) ?_
                        have hbk := BK_0 (by omega) (by omega) ub
                        exact ih2  0 bi_5 md_3 bd_5 Lc_3 lk9 s14 ms14 gs14 rgs14 (by omega) (by omega) (by omega) (by omega) (by omega) (fun _ h => absurd h (by decide)) (fun _ _ => by rw [US_eta ub uc ud ue]; exact (i5 (by omega) (by omega) _).mp (INFm_1 hbk (by omega) (by omega))) (fun h => absurd h (by omega)) (by omega)
                      · have fkz5 := ua
                        refine T.go 2 (fun n9 => (rfl : _ = exe ξ n9 (d + 5) j_M_inflate 2 [(0, .ref 137), (1, J 0), (2, J z2)] [] s14)) ?_
                        refine T.drop (lv := [(0, .ref 137), (1, J 0)]) [(2, J z2)] (by simp) ?_
                        have hbn : ∀ w9, ¬ BK (gc Lc rw) ed sz bi9 md9 (nm Lc9 md9) w9 := BK_no0 (by omega) ub
                        exact ih2  0 bi_5 md_3 bd_5 Lc_3 lk9 s14 ms14 gs14 rgs14 (by omega) (by omega) (by omega) (by omega) (by omega) (fun h => absurd h (by omega)) (fun h => absurd h (by omega)) (fun _ u q => INFm_no hbn (by omega) ((i5 (by omega) (by omega) u).mpr q)) (by omega)
                  · refine T.go 2 (fun n9 => (rfl : _ = exe ξ n9 (d + 5) j_M_inflate 51 [(0, .ref 137), (1, J 0), (2, J z2)] [J 1, .ref 137] s10)) ?_
                    refine T.mput (c' := c) (io' := io) (mo' := mo) (fa' := fa) (pl' := pl) (ns' := ns) (rw' := rw) (en' := en) (wy' := wy) (wh' := wh) (bi' := bi_2) (ed' := ed) (sz' := sz) (md' := md9) (bd' := 1) (li' := li) (wk' := wk) (we' := we) ms10 rfl rfl rfl rfl rfl rfl (by omega) (fun s15 ms15 fs15 => ?_)
                    have gs15 := gs10.trans fs15
                    refine T.go 1 (fun n9 => (rfl : _ = exe ξ n9 (d + 5) j_M_inflate 55 [(0, .ref 137), (1, J 0), (2, J z2)] [.ref 137] s15)) ?_
                    refine T.get rfl rfl rfl ms15.ob rfl ?_
                    refine T.go 2 (fun n9 => (rfl : _ = exe ξ n9 (d + 5) j_M_inflate 2 [(0, .ref 137), (1, J 0), (2, J z2)] [] s15)) ?_
                    refine T.drop (lv := [(0, .ref 137), (1, J 0)]) [(2, J z2)] (by simp) ?_
                    have hbn : ∀ w9, ¬ BK (gc Lc rw) ed sz bi9 md9 (nm Lc9 md9) w9 := BK_no4 (by omega)
                    exact ih2  0 bi_2 md9 1 Lc9 lk9 s15 ms15 gs15 gτ (by omega) (by omega) (by omega) (by omega) (by omega) (fun h => absurd h (by omega)) (fun h => absurd h (by omega)) (fun _ u q => INFm_no hbn (by omega) ((i5 (by omega) (by omega) u).mpr q)) (by omega)
              · have fkz2 := taz2
                refine T.go 3 (fun n9 => (rfl : _ = exe ξ n9 (d + 5) j_M_inflate 35 [(0, .ref 137), (1, J 0), (2, J z2)] [.ref 137, .ref 137] s10)) ?_
                refine T.get rfl rfl rfl ms10.ob rfl ?_
                refine T.if_ne rfl rfl (by omega) (fun c14 => ?_) (fun c14 => ?_)
                · refine T.go 2 (fun n9 => (rfl : _ = exe ξ n9 (d + 5) j_M_inflate 51 [(0, .ref 137), (1, J 0), (2, J z2)] [J 1, .ref 137] s10)) ?_
                  refine T.mput (c' := c) (io' := io) (mo' := mo) (fa' := fa) (pl' := pl) (ns' := ns) (rw' := rw) (en' := en) (wy' := wy) (wh' := wh) (bi' := bi_2) (ed' := ed) (sz' := sz) (md' := md9) (bd' := 1) (li' := li) (wk' := wk) (we' := we) ms10 rfl rfl rfl rfl rfl rfl (by omega) (fun s16 ms16 fs16 => ?_)
                  have gs16 := gs10.trans fs16
                  refine T.go 1 (fun n9 => (rfl : _ = exe ξ n9 (d + 5) j_M_inflate 55 [(0, .ref 137), (1, J 0), (2, J z2)] [.ref 137] s16)) ?_
                  refine T.get rfl rfl rfl ms16.ob rfl ?_
                  refine T.go 2 (fun n9 => (rfl : _ = exe ξ n9 (d + 5) j_M_inflate 2 [(0, .ref 137), (1, J 0), (2, J z2)] [] s16)) ?_
                  refine T.drop (lv := [(0, .ref 137), (1, J 0)]) [(2, J z2)] (by simp) ?_
                  have hbn : ∀ w9, ¬ BK (gc Lc rw) ed sz bi9 md9 (nm Lc9 md9) w9 := BK_noE (by omega)
                  exact ih2  0 bi_2 md9 1 Lc9 lk9 s16 ms16 gs16 gτ (by omega) (by omega) (by omega) (by omega) (by omega) (fun h => absurd h (by omega)) (fun h => absurd h (by omega)) (fun _ u q => INFm_no hbn (by omega) ((i5 (by omega) (by omega) u).mpr q)) (by omega)
                · exfalso
                  omega
            · refine T.go 5 (fun n9 => (rfl : _ = exe ξ n9 (d + 5) j_M_inflate 29 [(0, .ref 137), (1, J 1)] [J 2, .ref 137] s9)) ?_
              refine T.callv (as := [J 2]) (r := []) rfl rfl rfl rfl ms9.ob rfl (s_M_ftake (d + 3) 2 s9 ms9 (by omega) (by omega) (by omega) (by omega) (by omega) (by omega) (by omega)) (fun v6 s17 hqs17 => ?_)
              obtain ⟨z6, bi_6, bd_6, rfl, ms17, fs17, hzz6, hyz6, pz6_0, pz6_1, pz6_2⟩ := hqs17
              have ns17 := ms17.len
              have rs17 := ms17.rg
              have gs17 := gs9.trans fs17
              have cgz6 := gτ rw (by omega) (fun q => by have := List.mem_singleton.mp q; omega)
              rw [cgz6, show (2 : Int).toNat = 2 from rfl] at pz6_2
              rcases pz6_2 with ⟨taz6, tbz6, tcz6, tdz6, tez6⟩ | ⟨taz6, tbz6⟩
              · rw [show bi_1 = bi9 + 1 by omega] at tcz6
                have bvk := BV_r (gc Lc rw) (bi9 + 1) 2
                have bvp : P2 ((2 : Nat) : Int) = 4 := by decide
                refine T.go 3 (fun n9 => (rfl : _ = exe ξ n9 (d + 5) j_M_inflate 35 [(0, .ref 137), (1, J 1), (2, J z6)] [.ref 137, .ref 137] s17)) ?_
                refine T.get rfl rfl rfl ms17.ob rfl ?_
                refine T.if_ne rfl rfl (by omega) (fun c15 => ?_) (fun c15 => ?_)
                · exfalso
                  omega
                · refine T.go 2 (fun n9 => (rfl : _ = exe ξ n9 (d + 5) j_M_inflate 43 [(0, .ref 137), (1, J 1), (2, J z6)] [J 3, J z6, .ref 137] s17)) ?_
                  refine T.icmp_ne rfl rfl (by omega) (by omega) (fun c16 => ?_) (fun c16 => ?_)
                  · refine T.go 1 (fun n9 => (rfl : _ = exe ξ n9 (d + 5) j_M_inflate 51 [(0, .ref 137), (1, J 1), (2, J z6)] [J 0, .ref 137] s17)) ?_
                    refine T.mput (c' := c) (io' := io) (mo' := mo) (fa' := fa) (pl' := pl) (ns' := ns) (rw' := rw) (en' := en) (wy' := wy) (wh' := wh) (bi' := bi_6) (ed' := ed) (sz' := sz) (md' := md9) (bd' := 0) (li' := li) (wk' := wk) (we' := we) ms17 rfl rfl rfl rfl rfl rfl (by omega) (fun s18 ms18 fs18 => ?_)
                    have gs18 := gs17.trans fs18
                    refine T.go 1 (fun n9 => (rfl : _ = exe ξ n9 (d + 5) j_M_inflate 55 [(0, .ref 137), (1, J 1), (2, J z6)] [.ref 137] s18)) ?_
                    refine T.get rfl rfl rfl ms18.ob rfl ?_
                    refine T.go 2 (fun n9 => (rfl : _ = exe ξ n9 (d + 5) j_M_inflate 65 [(0, .ref 137), (1, J 1), (2, J z6)] [J z6] s18)) ?_
                    refine T.if_ne rfl rfl (by omega) (fun c17 => ?_) (fun c17 => ?_)
                    · refine T.go 3 (fun n9 => (rfl : _ = exe ξ n9 (d + 5) j_M_inflate 78 [(0, .ref 137), (1, J 1), (2, J z6)] [J 2, J z6, .ref 137] s18)) ?_
                      refine T.icmp_ne rfl rfl (by omega) (by omega) (fun c18 => ?_) (fun c18 => ?_)
                      · refine T.go 1 (fun n9 => (rfl : _ = exe ξ n9 (d + 5) j_M_inflate 86 [(0, .ref 137), (1, J 1), (2, J z6)] [J 0, .ref 137] s18)) ?_
                        have cgp := gτ rw (by omega) (fun q => by have := List.mem_singleton.mp q; omega)
                        refine T.callv (as := [J 0]) (r := []) rfl rfl rfl rfl ms18.ob rfl (s_M_fcodedBlock d 0 s18 ms18 (by omega) (by omega) (by omega) (by omega) (by omega) (by omega) (by omega) (by omega) (by omega) (by omega) (by omega) (by omega)) (fun v7 s19 hqs19 => ?_)
                        obtain ⟨bi_7, md_4, bd_7, Lc_4, lk_3, rfl, ms19, fs19, pz7_0, pz7_1, pz7_2, pz7_3, pz7_4, pz7_5⟩ := hqs19
                        have ns19 := ms19.len
                        have rs19 := ms19.rg
                        have gs19 := gs18.trans fs19
                        have rgs19 := gτ.trans pz7_0 (by decide)
                        rw [cgp, show bi_6 = bi9 + 3 by omega] at pz7_5
                        rcases pz7_5 with ⟨ua, ub⟩ | ⟨ua, ub⟩
                        · have fkz7 := ua
                          refine T.go 1 (fun n9 => (rfl : _ = exe ξ n9 (d + 5) j_M_inflate 2 [(0, .ref 137), (1, J 1), (2, J z6)] [] s19)) ?_
                          refine T.drop (lv := [(0, .ref 137), (1, J 1)]) [(2, J z6)] (by simp) ?_
                          have hbk := BK_C (b := bi9) (x := 0) (by omega) (by omega) ub
                          exact ih2  1 bi_7 md_4 bd_7 Lc_4 lk_3 s19 ms19 gs19 rgs19 (by omega) (by omega) (by omega) (by omega) (by omega) (fun _ _ u => by rw [← i5 (by omega) (by omega) u, INFm_0 hbk (by omega) (by omega)]) (fun _ h => absurd h (by decide)) (fun h => absurd h (by omega)) (by omega)
                        · have fkz7 := ua
                          refine T.go 1 (fun n9 => (rfl : _ = exe ξ n9 (d + 5) j_M_inflate 2 [(0, .ref 137), (1, J 1), (2, J z6)] [] s19)) ?_
                          refine T.drop (lv := [(0, .ref 137), (1, J 1)]) [(2, J z6)] (by simp) ?_
                          have hbn : ∀ w9, ¬ BK (gc Lc rw) ed sz bi9 md9 (nm Lc9 md9) w9 := BK_noC (x := 0) (by omega) (by omega) ub
                          exact ih2  1 bi_7 md_4 bd_7 Lc_4 lk_3 s19 ms19 gs19 rgs19 (by omega) (by omega) (by omega) (by omega) (by omega) (fun h => absurd h (by omega)) (fun h => absurd h (by omega)) (fun _ u q => INFm_no hbn (by omega) ((i5 (by omega) (by omega) u).mpr q)) (by omega)
                      · refine T.go 2 (fun n9 => (rfl : _ = exe ξ n9 (d + 5) j_M_inflate 86 [(0, .ref 137), (1, J 1), (2, J z6)] [J 1, .ref 137] s18)) ?_
                        have cgp := gτ rw (by omega) (fun q => by have := List.mem_singleton.mp q; omega)
                        refine T.callv (as := [J 1]) (r := []) rfl rfl rfl rfl ms18.ob rfl (s_M_fcodedBlock d 1 s18 ms18 (by omega) (by omega) (by omega) (by omega) (by omega) (by omega) (by omega) (by omega) (by omega) (by omega) (by omega) (by omega)) (fun v8 s20 hqs20 => ?_)
                        obtain ⟨bi_8, md_5, bd_8, Lc_5, lk_4, rfl, ms20, fs20, pz8_0, pz8_1, pz8_2, pz8_3, pz8_4, pz8_5⟩ := hqs20
                        have ns20 := ms20.len
                        have rs20 := ms20.rg
                        have gs20 := gs18.trans fs20
                        have rgs20 := gτ.trans pz8_0 (by decide)
                        rw [cgp, show bi_6 = bi9 + 3 by omega] at pz8_5
                        rcases pz8_5 with ⟨ua, ub⟩ | ⟨ua, ub⟩
                        · have fkz8 := ua
                          refine T.go 1 (fun n9 => (rfl : _ = exe ξ n9 (d + 5) j_M_inflate 2 [(0, .ref 137), (1, J 1), (2, J z6)] [] s20)) ?_
                          refine T.drop (lv := [(0, .ref 137), (1, J 1)]) [(2, J z6)] (by simp) ?_
                          have hbk := BK_C (b := bi9) (x := 1) (by omega) (by omega) ub
                          exact ih2  1 bi_8 md_5 bd_8 Lc_5 lk_4 s20 ms20 gs20 rgs20 (by omega) (by omega) (by omega) (by omega) (by omega) (fun _ _ u => by rw [← i5 (by omega) (by omega) u, INFm_0 hbk (by omega) (by omega)]) (fun _ h => absurd h (by decide)) (fun h => absurd h (by omega)) (by omega)
                        · have fkz8 := ua
                          refine T.go 1 (fun n9 => (rfl : _ = exe ξ n9 (d + 5) j_M_inflate 2 [(0, .ref 137), (1, J 1), (2, J z6)] [] s20)) ?_
                          refine T.drop (lv := [(0, .ref 137), (1, J 1)]) [(2, J z6)] (by simp) ?_
                          have hbn : ∀ w9, ¬ BK (gc Lc rw) ed sz bi9 md9 (nm Lc9 md9) w9 := BK_noC (x := 1) (by omega) (by omega) ub
                          exact ih2  1 bi_8 md_5 bd_8 Lc_5 lk_4 s20 ms20 gs20 rgs20 (by omega) (by omega) (by omega) (by omega) (by omega) (fun h => absurd h (by omega)) (fun h => absurd h (by omega)) (fun _ u q => INFm_no hbn (by omega) ((i5 (by omega) (by omega) u).mpr q)) (by omega)
                    · refine T.go 1 (fun n9 => (rfl : _ = exe ξ n9 (d + 5) j_M_inflate 69 [(0, .ref 137), (1, J 1), (2, J z6)] [.ref 137] s18)) ?_
                      have cgp := gτ rw (by omega) (fun q => by have := List.mem_singleton.mp q; omega)
                      refine T.callv (as := []) (r := []) rfl rfl rfl rfl ms18.ob rfl (s_M_fplainBlock (d + 2)  s18 ms18 (by omega) (by omega) (by omega) (by omega) (by omega) (by omega) (by omega) (by omega) (by omega)) (fun v9 s21 hqs21 => ?_)
                      obtain ⟨bi_9, md_6, bd_9, Lc_6, rfl, ms21, fs21, pz9_0, pz9_1, pz9_2, pz9_3, pz9_4, pz9_5⟩ := hqs21
                      have ns21 := ms21.len
                      have rs21 := ms21.rg
                      have gs21 := gs18.trans fs21
                      have rgs21 := gτ.trans pz9_0 (by decide)
                      rw [cgp, show bi_6 = bi9 + 3 by omega] at pz9_5
                      rcases pz9_5 with ⟨ua, ub, uc, ud, ue⟩ | ⟨ua, ub⟩
                      · have fkz9 := ua
                        refine T.go 2 (fun n9 => (rfl : _ = exe ξ n9 (d + 5) j_M_inflate 2 [(0, .ref 137), (1, J 1), (2, J z6)] [] s21)) ?_
                        refine T.drop (lv := [(0, .ref 137), (1, J 1)]) [(2, J z6)] (by simp) ?_
                        have hbk := BK_0 (by omega) (by omega) ub
                        exact ih2  1 bi_9 md_6 bd_9 Lc_6 lk9 s21 ms21 gs21 rgs21 (by omega) (by omega) (by omega) (by omega) (by omega) (fun _ _ u => by rw [← i5 (by omega) (by omega) u, INFm_0 hbk (by omega) (by omega), ← uc, ← ud, ← ue]) (fun _ h => absurd h (by decide)) (fun h => absurd h (by omega)) (by omega)
                      · have fkz9 := ua
                        refine T.go 2 (fun n9 => (rfl : _ = exe ξ n9 (d + 5) j_M_inflate 2 [(0, .ref 137), (1, J 1), (2, J z6)] [] s21)) ?_
                        refine T.drop (lv := [(0, .ref 137), (1, J 1)]) [(2, J z6)] (by simp) ?_
                        have hbn : ∀ w9, ¬ BK (gc Lc rw) ed sz bi9 md9 (nm Lc9 md9) w9 := BK_no0 (by omega) ub
                        exact ih2  1 bi_9 md_6 bd_9 Lc_6 lk9 s21 ms21 gs21 rgs21 (by omega) (by omega) (by omega) (by omega) (by omega) (fun h => absurd h (by omega)) (fun h => absurd h (by omega)) (fun _ u q => INFm_no hbn (by omega) ((i5 (by omega) (by omega) u).mpr q)) (by omega)
                  · refine T.go 2 (fun n9 => (rfl : _ = exe ξ n9 (d + 5) j_M_inflate 51 [(0, .ref 137), (1, J 1), (2, J z6)] [J 1, .ref 137] s17)) ?_
                    refine T.mput (c' := c) (io' := io) (mo' := mo) (fa' := fa) (pl' := pl) (ns' := ns) (rw' := rw) (en' := en) (wy' := wy) (wh' := wh) (bi' := bi_6) (ed' := ed) (sz' := sz) (md' := md9) (bd' := 1) (li' := li) (wk' := wk) (we' := we) ms17 rfl rfl rfl rfl rfl rfl (by omega) (fun s22 ms22 fs22 => ?_)
                    have gs22 := gs17.trans fs22
                    refine T.go 1 (fun n9 => (rfl : _ = exe ξ n9 (d + 5) j_M_inflate 55 [(0, .ref 137), (1, J 1), (2, J z6)] [.ref 137] s22)) ?_
                    refine T.get rfl rfl rfl ms22.ob rfl ?_
                    refine T.go 2 (fun n9 => (rfl : _ = exe ξ n9 (d + 5) j_M_inflate 2 [(0, .ref 137), (1, J 1), (2, J z6)] [] s22)) ?_
                    refine T.drop (lv := [(0, .ref 137), (1, J 1)]) [(2, J z6)] (by simp) ?_
                    have hbn : ∀ w9, ¬ BK (gc Lc rw) ed sz bi9 md9 (nm Lc9 md9) w9 := BK_no4 (by omega)
                    exact ih2  1 bi_6 md9 1 Lc9 lk9 s22 ms22 gs22 gτ (by omega) (by omega) (by omega) (by omega) (by omega) (fun h => absurd h (by omega)) (fun h => absurd h (by omega)) (fun _ u q => INFm_no hbn (by omega) ((i5 (by omega) (by omega) u).mpr q)) (by omega)
              · have fkz6 := taz6
                refine T.go 3 (fun n9 => (rfl : _ = exe ξ n9 (d + 5) j_M_inflate 35 [(0, .ref 137), (1, J 1), (2, J z6)] [.ref 137, .ref 137] s17)) ?_
                refine T.get rfl rfl rfl ms17.ob rfl ?_
                refine T.if_ne rfl rfl (by omega) (fun c19 => ?_) (fun c19 => ?_)
                · refine T.go 2 (fun n9 => (rfl : _ = exe ξ n9 (d + 5) j_M_inflate 51 [(0, .ref 137), (1, J 1), (2, J z6)] [J 1, .ref 137] s17)) ?_
                  refine T.mput (c' := c) (io' := io) (mo' := mo) (fa' := fa) (pl' := pl) (ns' := ns) (rw' := rw) (en' := en) (wy' := wy) (wh' := wh) (bi' := bi_6) (ed' := ed) (sz' := sz) (md' := md9) (bd' := 1) (li' := li) (wk' := wk) (we' := we) ms17 rfl rfl rfl rfl rfl rfl (by omega) (fun s23 ms23 fs23 => ?_)
                  have gs23 := gs17.trans fs23
                  refine T.go 1 (fun n9 => (rfl : _ = exe ξ n9 (d + 5) j_M_inflate 55 [(0, .ref 137), (1, J 1), (2, J z6)] [.ref 137] s23)) ?_
                  refine T.get rfl rfl rfl ms23.ob rfl ?_
                  refine T.go 2 (fun n9 => (rfl : _ = exe ξ n9 (d + 5) j_M_inflate 2 [(0, .ref 137), (1, J 1), (2, J z6)] [] s23)) ?_
                  refine T.drop (lv := [(0, .ref 137), (1, J 1)]) [(2, J z6)] (by simp) ?_
                  have hbn : ∀ w9, ¬ BK (gc Lc rw) ed sz bi9 md9 (nm Lc9 md9) w9 := BK_noE (by omega)
                  exact ih2  1 bi_6 md9 1 Lc9 lk9 s23 ms23 gs23 gτ (by omega) (by omega) (by omega) (by omega) (by omega) (fun h => absurd h (by omega)) (fun h => absurd h (by omega)) (fun _ u q => INFm_no hbn (by omega) ((i5 (by omega) (by omega) u).mpr q)) (by omega)
                · exfalso
                  omega
          · have fkz1 := taz1
            refine T.if_ne rfl rfl (by omega) (fun c20 => ?_) (fun c20 => ?_)
            · refine T.go 4 (fun n9 => (rfl : _ = exe ξ n9 (d + 5) j_M_inflate 29 [(0, .ref 137), (1, J 0)] [J 2, .ref 137] s9)) ?_
              refine T.callv (as := [J 2]) (r := []) rfl rfl rfl rfl ms9.ob rfl (s_M_take (d + 3) 2 s9 ms9 (by omega) (by omega) (by omega) (by omega) (by omega) (by omega) (by omega)) (fun v10 s24 hqs24 => ?_)
              obtain ⟨z10, bi_10, bd_10, rfl, ms24, fs24, hzz10, hyz10, pz10_0, pz10_1, pz10_2, pz10_3, pz10_4⟩ := hqs24
              have ns24 := ms24.len
              have rs24 := ms24.rg
              have gs24 := gs9.trans fs24
              refine T.go 3 (fun n9 => (rfl : _ = exe ξ n9 (d + 5) j_M_inflate 35 [(0, .ref 137), (1, J 0), (2, J z10)] [.ref 137, .ref 137] s24)) ?_
              refine T.get rfl rfl rfl ms24.ob rfl ?_
              refine T.if_ne rfl rfl (by omega) (fun c21 => ?_) (fun c21 => ?_)
              · refine T.go 2 (fun n9 => (rfl : _ = exe ξ n9 (d + 5) j_M_inflate 51 [(0, .ref 137), (1, J 0), (2, J z10)] [J 1, .ref 137] s24)) ?_
                refine T.mput (c' := c) (io' := io) (mo' := mo) (fa' := fa) (pl' := pl) (ns' := ns) (rw' := rw) (en' := en) (wy' := wy) (wh' := wh) (bi' := bi_10) (ed' := ed) (sz' := sz) (md' := md9) (bd' := 1) (li' := li) (wk' := wk) (we' := we) ms24 rfl rfl rfl rfl rfl rfl (by omega) (fun s25 ms25 fs25 => ?_)
                have gs25 := gs24.trans fs25
                refine T.go 1 (fun n9 => (rfl : _ = exe ξ n9 (d + 5) j_M_inflate 55 [(0, .ref 137), (1, J 0), (2, J z10)] [.ref 137] s25)) ?_
                refine T.get rfl rfl rfl ms25.ob rfl ?_
                refine T.go 2 (fun n9 => (rfl : _ = exe ξ n9 (d + 5) j_M_inflate 2 [(0, .ref 137), (1, J 0), (2, J z10)] [] s25)) ?_
                refine T.drop (lv := [(0, .ref 137), (1, J 0)]) [(2, J z10)] (by simp) ?_
                have hbn : ∀ w9, ¬ BK (gc Lc rw) ed sz bi9 md9 (nm Lc9 md9) w9 := BK_noE (by omega)
                exact ih2  0 bi_10 md9 1 Lc9 lk9 s25 ms25 gs25 gτ (by omega) (by omega) (by omega) (by omega) (by omega) (fun h => absurd h (by omega)) (fun h => absurd h (by omega)) (fun _ u q => INFm_no hbn (by omega) ((i5 (by omega) (by omega) u).mpr q)) (by omega)
              · exfalso
                omega
            · refine T.go 5 (fun n9 => (rfl : _ = exe ξ n9 (d + 5) j_M_inflate 29 [(0, .ref 137), (1, J 1)] [J 2, .ref 137] s9)) ?_
              refine T.callv (as := [J 2]) (r := []) rfl rfl rfl rfl ms9.ob rfl (s_M_take (d + 3) 2 s9 ms9 (by omega) (by omega) (by omega) (by omega) (by omega) (by omega) (by omega)) (fun v11 s26 hqs26 => ?_)
              obtain ⟨z11, bi_11, bd_11, rfl, ms26, fs26, hzz11, hyz11, pz11_0, pz11_1, pz11_2, pz11_3, pz11_4⟩ := hqs26
              have ns26 := ms26.len
              have rs26 := ms26.rg
              have gs26 := gs9.trans fs26
              refine T.go 3 (fun n9 => (rfl : _ = exe ξ n9 (d + 5) j_M_inflate 35 [(0, .ref 137), (1, J 1), (2, J z11)] [.ref 137, .ref 137] s26)) ?_
              refine T.get rfl rfl rfl ms26.ob rfl ?_
              refine T.if_ne rfl rfl (by omega) (fun c22 => ?_) (fun c22 => ?_)
              · refine T.go 2 (fun n9 => (rfl : _ = exe ξ n9 (d + 5) j_M_inflate 51 [(0, .ref 137), (1, J 1), (2, J z11)] [J 1, .ref 137] s26)) ?_
                refine T.mput (c' := c) (io' := io) (mo' := mo) (fa' := fa) (pl' := pl) (ns' := ns) (rw' := rw) (en' := en) (wy' := wy) (wh' := wh) (bi' := bi_11) (ed' := ed) (sz' := sz) (md' := md9) (bd' := 1) (li' := li) (wk' := wk) (we' := we) ms26 rfl rfl rfl rfl rfl rfl (by omega) (fun s27 ms27 fs27 => ?_)
                have gs27 := gs26.trans fs27
                refine T.go 1 (fun n9 => (rfl : _ = exe ξ n9 (d + 5) j_M_inflate 55 [(0, .ref 137), (1, J 1), (2, J z11)] [.ref 137] s27)) ?_
                refine T.get rfl rfl rfl ms27.ob rfl ?_
                refine T.go 2 (fun n9 => (rfl : _ = exe ξ n9 (d + 5) j_M_inflate 2 [(0, .ref 137), (1, J 1), (2, J z11)] [] s27)) ?_
                refine T.drop (lv := [(0, .ref 137), (1, J 1)]) [(2, J z11)] (by simp) ?_
                have hbn : ∀ w9, ¬ BK (gc Lc rw) ed sz bi9 md9 (nm Lc9 md9) w9 := BK_noE (by omega)
                exact ih2  1 bi_11 md9 1 Lc9 lk9 s27 ms27 gs27 gτ (by omega) (by omega) (by omega) (by omega) (by omega) (fun h => absurd h (by omega)) (fun h => absurd h (by omega)) (fun _ u q => INFm_no hbn (by omega) ((i5 (by omega) (by omega) u).mpr q)) (by omega)
              · exfalso
                omega
  refine T.go 2 (fun n9 => (rfl : _ = exe ξ n9 (d + 5) j_M_inflate 2 [(0, .ref 137), (1, J 1)] [] σ)) ?_
  exact loop2 _ 1 bi md bd Lc lk σ hM FM.refl RG.refl (by omega) (by omega) (by omega) (by omega) (by omega) (fun _ _ u => INFm_all (by omega) (by omega)) (fun _ h => absurd h (by decide)) (fun h => absurd h (by omega)) (Nat.lt_succ_self _)
