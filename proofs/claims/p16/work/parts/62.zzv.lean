/-! The model: index. -/
set_option maxHeartbeats 4000000 in
theorem s_M_findex {ξ : Nat → Option (Nat × List Int32)} {c io mo fa pl ns rw en wy wh bi ed sz md bd li wk we : Int} {Lc : List Int64} {la lm ln lh ld lk lt : List Int32} (d : Nat)  (σ : qH) (hM : MS σ c io mo fa pl ns rw en wy wh bi ed sz md bd li wk we Lc la lm ln lh ld lk lt) (pre0 : OKM Lc la lm io mo) : T ξ (d + 10) j_M_index 0 (lv_args 0 [.ref 137]) [] σ (fun v σ' => ∃ (z : Int) (c1 : Int) (fa1 : Int) (pl1 : Int) (mo1 : Int) (lm1 : List Int32) (rw1 : Int) (en1 : Int) (wy1 : Int) (wh1 : Int) (bi1 : Int) (ed1 : Int) (sz1 : Int) (md1 : Int) (bd1 : Int) (Lc1 : List Int64) (la1 : List Int32) (lk1 : List Int32) (lh1 : List Int32) (ld1 : List Int32) (lt1 : List Int32) (li1 : Int), v = some (J z) ∧ MS σ' c1 io mo1 fa1 pl1 ns rw1 en1 wy1 wh1 bi1 ed1 sz1 md1 bd1 li1 wk we Lc1 la1 lm1 ln lh1 ld1 lk1 lt1 ∧ FM σ σ' ∧ -2147483648 ≤ z ∧ z ≤ 2147483647 ∧ OKM Lc1 la1 lm1 io mo1 ∧ gl la1 0 = gl la 0 ∧ gc Lc1 0 = gc Lc 0 ∧ gc Lc1 1 = gc Lc 1 ∧ gl la1 1 = gl la 1 ∧ (c1 = 0 → io = 1 ∧ IXM (gc Lc 1) (gl la 1) lm1 mo1) ∧ (c1 ≠ 0 → mo1 = mo ∧ lm1 = lm) ∧ (c1 ≠ 0 → io = 1 → NIX (gc Lc 1) (gl la 1))) := by
  have r0 := hM.rg
  have n0 := hM.len
  have loop48 : ∀ (f48 : Nat) (k : Int) (c9 : Int) (mo9 : Int) (lm9 : List Int32) (rw9 : Int) (en9 : Int) (wy9 : Int) (wh9 : Int) (bi9 : Int) (ed9 : Int) (sz9 : Int) (md9 : Int) (bd9 : Int) (Lc9 : List Int64) (la9 : List Int32) (lk9 : List Int32) (lh9 : List Int32) (ld9 : List Int32) (lt9 : List Int32) (li9 : Int) (τ : qH), MS τ c9 io mo9 fa pl ns rw9 en9 wy9 wh9 bi9 ed9 sz9 md9 bd9 li9 wk we Lc9 la9 lm9 ln lh9 ld9 lk9 lt9 → FM σ τ → RG [2, 4, 5] Lc Lc9 → LG [2, 4, 5] la la9 → 0 ≤ k → k ≤ li9 → (mo9 = li9 ∧ c9 = 0) → (∀ j : Int, 0 ≤ j → j < k → gl lm9 j = gl lt9 j) → (∀ j : Int, 0 ≤ j → j < li9 → gl lt9 j < W2 (gc Lc9 1) (EN (gc Lc9 1) (gl la9 1) + 8)) → io = 1 → IXM (gc Lc 1) (gl la 1) lt9 li9 → (li9 - k).toNat < f48 → T ξ (d + 10) j_M_index 48 [(0, .ref 137), (1, J k)] [] τ (fun v σ' => ∃ (z : Int) (c1 : Int) (fa1 : Int) (pl1 : Int) (mo1 : Int) (lm1 : List Int32) (rw1 : Int) (en1 : Int) (wy1 : Int) (wh1 : Int) (bi1 : Int) (ed1 : Int) (sz1 : Int) (md1 : Int) (bd1 : Int) (Lc1 : List Int64) (la1 : List Int32) (lk1 : List Int32) (lh1 : List Int32) (ld1 : List Int32) (lt1 : List Int32) (li1 : Int), v = some (J z) ∧ MS σ' c1 io mo1 fa1 pl1 ns rw1 en1 wy1 wh1 bi1 ed1 sz1 md1 bd1 li1 wk we Lc1 la1 lm1 ln lh1 ld1 lk1 lt1 ∧ FM σ σ' ∧ -2147483648 ≤ z ∧ z ≤ 2147483647 ∧ OKM Lc1 la1 lm1 io mo1 ∧ gl la1 0 = gl la 0 ∧ gc Lc1 0 = gc Lc 0 ∧ gc Lc1 1 = gc Lc 1 ∧ gl la1 1 = gl la 1 ∧ (c1 = 0 → io = 1 ∧ IXM (gc Lc 1) (gl la 1) lm1 mo1) ∧ (c1 ≠ 0 → mo1 = mo ∧ lm1 = lm) ∧ (c1 ≠ 0 → io = 1 → NIX (gc Lc 1) (gl la 1))) := by
    intro f48
    induction f48 with
    | zero => intro k c9 mo9 lm9 rw9 en9 wy9 wh9 bi9 ed9 sz9 md9 bd9 Lc9 la9 lk9 lh9 ld9 lt9 li9 τ mτ fτ gτ kτ i0 i1 i2 i3 i4 i5 i6 hm48; omega
    | succ f48 ih48 =>
      intro k c9 mo9 lm9 rw9 en9 wy9 wh9 bi9 ed9 sz9 md9 bd9 Lc9 la9 lk9 lh9 ld9 lt9 li9 τ mτ fτ gτ kτ i0 i1 i2 i3 i4 i5 i6 hm48
      have rτ := mτ.rg
      have nτ := mτ.len
      refine T.go 2 (fun n9 => (rfl : _ = exe ξ n9 (d + 10) j_M_index 50 [(0, .ref 137), (1, J k)] [.ref 137, J k] τ)) ?_
      refine T.get rfl rfl rfl mτ.ob rfl ?_
      refine T.icmp_ge rfl rfl (by omega) (by omega) (fun c1 => ?_) (fun c1 => ?_)
      · refine T.go 1 (fun n9 => (rfl : _ = exe ξ n9 (d + 10) j_M_index 75 [(0, .ref 137), (1, J k)] [.ref 137] τ)) ?_
        refine T.get rfl rfl rfl mτ.ob rfl ?_
        exact T.ireti rfl rfl ⟨_, c9, fa, pl, mo9, lm9, rw9, en9, wy9, wh9, bi9, ed9, sz9, md9, bd9, Lc9, la9, lk9, lh9, ld9, lt9, li9, rfl, mτ, fτ, by omega, by omega, (by have kk := pre0.keep gτ kτ (by decide); exact fun _ => ⟨(kk (by omega)).1, fun j a b => by rw [i3 j a (by omega)]; exact i4 j a (by omega)⟩), (kτ 0 (by decide) (by decide)), (gτ 0 (by decide) (by decide)), (gτ 1 (by decide) (by decide)), (kτ 1 (by decide) (by decide)), (fun _ => ⟨by omega, ⟨by rw [show mo9 = li9 by omega]; exact i6.1, fun i a b => by rw [i3 i a (by omega)]; exact i6.2 i a (by omega)⟩⟩), (fun h => absurd (by omega) h), (fun h => absurd (by omega) h)⟩
      · refine T.go 1 (fun n9 => (rfl : _ = exe ξ n9 (d + 10) j_M_index 57 [(0, .ref 137), (1, J k)] [.ref 137] τ)) ?_
        refine T.get rfl rfl rfl mτ.ob rfl ?_
        refine T.go 2 (fun n9 => (rfl : _ = exe ξ n9 (d + 10) j_M_index 62 [(0, .ref 137), (1, J k)] [.ref 137, J k, .ref 140] τ)) ?_
        refine T.get rfl rfl rfl mτ.ob rfl ?_
        refine T.go 1 (fun n9 => (rfl : _ = exe ξ n9 (d + 10) j_M_index 66 [(0, .ref 137), (1, J k)] [J k, .ref 145, J k, .ref 140] τ)) ?_
        refine T.iald rfl rfl mτ.c145 (by omega) (fun z1 hzz1 hyz1 hez1 => ?_)
        have hbz1 := mτ.b145.at hez1 ⟨hzz1, hyz1⟩
        have gzz1 := gl_of hez1 ⟨hzz1, hyz1⟩
        subst gzz1
        refine T.mast140 mτ rfl (by omega) (by omega) (fun s1 ms1 fs1 => ?_)
        have ns1 := ms1.len
        have gs1 := fτ.trans fs1
        have gss1 : ∀ j : Int, 0 ≤ j → gl (lm9.set (k : Int).toNat (Int32.ofInt (gl lt9 k))) j = if j = k then gl lt9 k else gl lm9 j := fun j hj => gl_set ⟨by omega, by omega⟩ ⟨by omega, by omega⟩ hj
        have ges1 : gl (lm9.set (k : Int).toNat (Int32.ofInt (gl lt9 k))) k = gl lt9 k := (gss1 k (by omega)).trans (if_pos rfl)
        refine T.iinc (lv' := [(0, .ref 137), (1, J (k + 1))]) rfl rfl rfl rfl ?_
        refine T.go 1 (fun n9 => (rfl : _ = exe ξ n9 (d + 10) j_M_index 48 [(0, .ref 137), (1, J (k + 1))] [] s1)) ?_
        exact ih48  (k + 1) c9 mo9 (lm9.set (k : Int).toNat (Int32.ofInt (gl lt9 k))) rw9 en9 wy9 wh9 bi9 ed9 sz9 md9 bd9 Lc9 la9 lk9 lh9 ld9 lt9 li9 s1 ms1 gs1 gτ kτ (by omega) (by omega) (by omega) (fun j a b => if q : j = k then (by rw [q]; exact ges1) else ((gss1 j a).trans (if_neg q)).trans (i3 j a (by omega))) i4 (by omega) i6 (by omega)
  refine T.go 2 (fun n9 => (rfl : _ = exe ξ n9 (d + 10) j_M_index 2 [(0, .ref 137)] [.ref 137, .ref 137] σ)) ?_
  refine T.get rfl rfl rfl hM.ob rfl ?_
  refine T.if_eq rfl rfl (by omega) (fun c2 => ?_) (fun c2 => ?_)
  · refine T.go 1 (fun n9 => (rfl : _ = exe ξ n9 (d + 10) j_M_index 13 [(0, .ref 137)] [J 1, .ref 137] σ)) ?_
    refine T.mput (c' := 1) (io' := io) (mo' := mo) (fa' := fa) (pl' := pl) (ns' := ns) (rw' := rw) (en' := en) (wy' := wy) (wh' := wh) (bi' := bi) (ed' := ed) (sz' := sz) (md' := md) (bd' := bd) (li' := li) (wk' := wk) (we' := we) hM rfl rfl rfl rfl rfl rfl (by omega) (fun s2 ms2 fs2 => ?_)
    refine T.go 1 (fun n9 => (rfl : _ = exe ξ n9 (d + 10) j_M_index 17 [(0, .ref 137)] [.ref 137] s2)) ?_
    refine T.get rfl rfl rfl ms2.ob rfl ?_
    refine T.go 2 (fun n9 => (rfl : _ = exe ξ n9 (d + 10) j_M_index 24 [(0, .ref 137)] [J 0] s2)) ?_
    exact T.ireti rfl rfl ⟨_, 1, fa, pl, mo, lm, rw, en, wy, wh, bi, ed, sz, md, bd, Lc, la, lk, lh, ld, lt, li, rfl, ms2, fs2, by omega, by omega, (pre0.keep (RG.refl (S := [2, 4, 5])) (LG.refl (S := [2, 4, 5])) (by decide)), ((LG.refl (S := [2, 4, 5])) 0 (by decide) (by decide)), ((RG.refl (S := [2, 4, 5])) 0 (by decide) (by decide)), ((RG.refl (S := [2, 4, 5])) 1 (by decide) (by decide)), ((LG.refl (S := [2, 4, 5])) 1 (by decide) (by decide)), (fun h => absurd h (by omega)), (fun _ => ⟨rfl, rfl⟩), (fun _ h => by exfalso; omega)⟩
  · refine T.go 2 (fun n9 => (rfl : _ = exe ξ n9 (d + 10) j_M_index 13 [(0, .ref 137)] [J 0, .ref 137] σ)) ?_
    refine T.mput (c' := 0) (io' := io) (mo' := mo) (fa' := fa) (pl' := pl) (ns' := ns) (rw' := rw) (en' := en) (wy' := wy) (wh' := wh) (bi' := bi) (ed' := ed) (sz' := sz) (md' := md) (bd' := bd) (li' := li) (wk' := wk) (we' := we) hM rfl rfl rfl rfl rfl rfl (by omega) (fun s3 ms3 fs3 => ?_)
    refine T.go 1 (fun n9 => (rfl : _ = exe ξ n9 (d + 10) j_M_index 17 [(0, .ref 137)] [.ref 137] s3)) ?_
    refine T.get rfl rfl rfl ms3.ob rfl ?_
    refine T.go 2 (fun n9 => (rfl : _ = exe ξ n9 (d + 10) j_M_index 26 [(0, .ref 137)] [.ref 137] s3)) ?_
    have okk := pre0 (by omega)
    have ok1 := okk.1
    refine T.callv (as := []) (r := []) rfl rfl rfl rfl ms3.ob rfl (s_M_fisIndexWrong d  s3 ms3 (by omega)) (fun v1 s4 hqs4 => ?_)
    obtain ⟨z2, rw_1, en_1, wy_1, wh_1, bi_1, ed_1, sz_1, md_1, bd_1, Lc_1, la_1, lk_1, lh_1, ld_1, lt_1, li_1, rfl, ms4, fs4, hzz2, hyz2, pz2_0, pz2_1, pz2_2, pz2_3, pz2_4⟩ := hqs4
    have ns4 := ms4.len
    have rs4 := ms4.rg
    have gs4 := fs3.trans fs4
    have rgs4 := (RG.refl (S := [2, 4, 5])).trans pz2_0 (by decide)
    have lgs4 := (LG.refl (S := [2, 4, 5])).trans pz2_1 (by decide)
    refine T.if_eq rfl rfl (by omega) (fun c3 => ?_) (fun c3 => ?_)
    · refine T.go 2 (fun n9 => (rfl : _ = exe ξ n9 (d + 10) j_M_index 40 [(0, .ref 137)] [.ref 137, .ref 137] s4)) ?_
      refine T.get rfl rfl rfl ms4.ob rfl ?_
      refine T.mput (c' := 0) (io' := io) (mo' := li_1) (fa' := fa) (pl' := pl) (ns' := ns) (rw' := rw_1) (en' := en_1) (wy' := wy_1) (wh' := wh_1) (bi' := bi_1) (ed' := ed_1) (sz' := sz_1) (md' := md_1) (bd' := bd_1) (li' := li_1) (wk' := wk) (we' := we) ms4 rfl rfl rfl rfl rfl rfl (by omega) (fun s5 ms5 fs5 => ?_)
      have gs5 := gs4.trans fs5
      refine T.go 2 (fun n9 => (rfl : _ = exe ξ n9 (d + 10) j_M_index 48 [(0, .ref 137), (1, J 0)] [] s5)) ?_
      exact loop48 _ 0 0 li_1 lm rw_1 en_1 wy_1 wh_1 bi_1 ed_1 sz_1 md_1 bd_1 Lc_1 la_1 lk_1 lh_1 ld_1 lt_1 li_1 s5 ms5 gs5 rgs4 lgs4 (by omega) (by omega) (by omega) (fun j a b => absurd b (by omega)) (fun j a b => by have c8 := pz2_0 1 (by decide) (by decide); have l8 := pz2_1 1 (by decide) (by decide); rw [c8, l8]; exact pz2_2 (by omega) j a b) (by omega) (pz2_3 (by omega)) (Nat.lt_succ_self _)
    · refine T.go 2 (fun n9 => (rfl : _ = exe ξ n9 (d + 10) j_M_index 34 [(0, .ref 137)] [J 2, .ref 137] s4)) ?_
      refine T.callv (as := [J 2]) (r := []) rfl rfl rfl rfl ms4.ob rfl (s_M_frefuseFault (d + 8) 2 s4 ms4 (by omega)) (fun v2 s6 hqs6 => ?_)
      obtain ⟨z3, c_1, fa_1, pl_1, rfl, ms6, fs6, hzz3, hyz3, pz3_0⟩ := hqs6
      have ns6 := ms6.len
      have rs6 := ms6.rg
      have gs6 := gs4.trans fs6
      exact T.ireti rfl rfl ⟨_, c_1, fa_1, pl_1, mo, lm, rw_1, en_1, wy_1, wh_1, bi_1, ed_1, sz_1, md_1, bd_1, Lc_1, la_1, lk_1, lh_1, ld_1, lt_1, li_1, rfl, ms6, gs6, by omega, by omega, (pre0.keep rgs4 lgs4 (by decide)), (lgs4 0 (by decide) (by decide)), (rgs4 0 (by decide) (by decide)), (rgs4 1 (by decide) (by decide)), (lgs4 1 (by decide) (by decide)), (fun h => absurd h (by omega)), (fun _ => ⟨rfl, rfl⟩), (fun _ _ => pz2_4 (by omega))⟩
