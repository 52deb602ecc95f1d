/-! The manifest: the model, the value. -/
/-- the value of a line: what stands behind its name -/
def VAL (l : List Int) : List Int := l.drop ((NML l).toNat + 2)
/-- k bytes of v are laid into g, b is the next one -/
def KVI (v : List Int) (g : Int → Int) (k b : Int) (r : List Int) : Prop := k.toNat ≤ v.length ∧ (∀ i : Nat, i < k.toNat → g i = v.getD i (-1)) ∧ ((b = -1 ∧ v.drop k.toNat = [] ∧ r = []) ∨ (0 ≤ b ∧ v.drop k.toNat = b :: r))
theorem KVI_0 {v r : List Int} {g : Int → Int} {b : Int} (h : STQ b v r) : KVI v g 0 b r := ⟨Nat.zero_le _, fun i q => absurd q (Nat.not_lt_zero i), h.elim (fun a => Or.inl ⟨a.1, a.2.1, a.2.2⟩) (fun a => Or.inr ⟨a.1, a.2⟩)⟩
theorem KVI_s {v r r' : List Int} {g g' : Int → Int} {k b z : Int} (h : KVI v g k b r) (h0 : 0 ≤ k) (hb : 0 ≤ b) (hg : g' = updG g k b) (q : STQ z r r') : KVI v g' (k + 1) z r' := by
  rw [KVI, show (k + 1).toNat = k.toNat + 1 by omega]
  rcases h.2.2 with ⟨a, -, -⟩ | ⟨a, c⟩
  · omega
  · have hl : k.toNat < v.length := by
      rcases Nat.lt_or_ge k.toNat v.length with q | q
      · exact q
      · rw [List.drop_eq_nil_iff.mpr q] at c
        cases c
    refine ⟨hl, fun i hi => ?_, ?_⟩
    · rw [hg]
      unfold updG
      by_cases e : (i : Int) = k
      · rw [if_pos e, show i = k.toNat by omega]
        exact (gd_drop c).symm
      · rw [if_neg e]
        exact h.2.1 i (by omega)
    · rcases q with ⟨q1, q2, q3⟩ | ⟨q1, q2⟩
      · exact Or.inl ⟨q1, by rw [drop_1 c, q2], q3⟩
      · exact Or.inr ⟨q1, by rw [drop_1 c, q2]⟩
/-- the row has v, k bytes -/
def KVL (v : List Int) (g : Int → Int) (k : Int) : Prop := (v.length : Int) = k ∧ ∀ i : Nat, (i : Int) < k → g i = v.getD i (-1)
theorem KVI_end {v r : List Int} {g : Int → Int} {k b : Int} (h : KVI v g k b r) (h0 : 0 ≤ k) (hb : b < 0) : KVL v g k := by
  rcases h.2.2 with ⟨-, c, -⟩ | ⟨a, -⟩
  · have e : v.length ≤ k.toNat := List.drop_eq_nil_iff.mp c
    have e2 := h.1
    exact ⟨by omega, fun i hi => h.2.1 i (by omega)⟩
  · omega
theorem DRP_s {l r r' : List Int} {k z : Int} (h : l.drop k.toNat = r) (h0 : 0 ≤ k) (q : STQ z r r') : l.drop (k + 1).toNat = r' := by
  rw [show (k + 1).toNat = k.toNat + 1 by omega]
  rcases q with ⟨-, q2, q3⟩ | ⟨-, q2⟩
  · rw [q2] at h
    rw [drop_10 h, q3]
  · rw [q2] at h
    exact drop_1 h

set_option maxHeartbeats 4000000 in
theorem s_M_ekeepValue {ξ : Nat → Option (Nat × List Int32)} {c io mo fa pl ns rw en wy wh bi ed sz md bd li wk we : Int} {Lc : List Int64} {la lm ln lh ld lk lt : List Int32} (d : Nat) (x : Int) (y : Int) (σ : qH) (hM : MS σ c io mo fa pl ns rw en wy wh bi ed sz md bd li wk we Lc la lm ln lh ld lk lt) (rx : -2147483648 ≤ x ∧ x ≤ 2147483647) (ry : -2147483648 ≤ y ∧ y ≤ 2147483647) (pre0 : 0 ≤ x) (pre1 : x ≤ 8000) (pre2 : y ≤ 8000) : T ξ (d + 4) j_M_keepValue 0 (lv_args 0 [.ref 137, J x, J y]) [] σ (fun v σ' => ∃ (z : Int) (wk1 : Int) (we1 : Int) (Lc1 : List Int64) (la1 : List Int32), v = some (J z) ∧ MS σ' c io mo fa pl ns rw en wy wh bi ed sz md bd li wk1 we1 Lc1 la1 lm ln lh ld lk lt ∧ FM σ σ' ∧ 0 ≤ z ∧ z ≤ 8000 ∧ RG [6] Lc Lc1 ∧ LG [6] la la1 ∧ KVL (VAL (LIN (gc Lc 5) (gl la 5) y x)) (gc Lc1 6) z ∧ gl la1 6 = z) := by
  have r0 := hM.rg
  have n0 := hM.len
  have h5 := gl_b hM.b139 5
  have loop46 : ∀ (f46 : Nat) (n : Int) (k : Int) (b5 : Int) (wk9 : Int) (we9 : Int) (Lc9 : List Int64) (τ : qH), MS τ c io mo fa pl ns rw en wy wh bi ed sz md bd li wk9 we9 Lc9 la lm ln lh ld lk lt → FM σ τ → RG [6] Lc Lc9 → 0 ≤ wk9 → wk9 ≤ we9 + 1 → 0 ≤ we9 → we9 ≤ 8000 → 0 ≤ k → (b5 = -1 ∨ k + 1 ≤ wk9 ∧ wk9 ≤ 8000) → k ≤ 8000 → k ≤ wk9 → -1 ≤ b5 → b5 ≤ 255 → KVI (VAL (LIN (gc Lc 5) (gl la 5) y x)) (gc Lc9 6) k b5 (REM (gc Lc 5) (gl la 5) y wk9 we9) → (2 * (8001 - wk9) + (b5 + 256) / 256).toNat < f46 → T ξ (d + 4) j_M_keepValue 46 [(0, .ref 137), (1, J x), (2, J y), (3, J n), (4, J k), (5, J b5)] [] τ (fun v σ' => ∃ (z : Int) (wk1 : Int) (we1 : Int) (Lc1 : List Int64) (la1 : List Int32), v = some (J z) ∧ MS σ' c io mo fa pl ns rw en wy wh bi ed sz md bd li wk1 we1 Lc1 la1 lm ln lh ld lk lt ∧ FM σ σ' ∧ 0 ≤ z ∧ z ≤ 8000 ∧ RG [6] Lc Lc1 ∧ LG [6] la la1 ∧ KVL (VAL (LIN (gc Lc 5) (gl la 5) y x)) (gc Lc1 6) z ∧ gl la1 6 = z) := by
    intro f46
    induction f46 with
    | zero => intro n k b5 wk9 we9 Lc9 τ mτ fτ gτ i0 i1 i2 i3 i4 i5 i6 i7 i8 i9 i10 hm46; omega
    | succ f46 ih46 =>
      intro n k b5 wk9 we9 Lc9 τ mτ fτ gτ i0 i1 i2 i3 i4 i5 i6 i7 i8 i9 i10 hm46
      have rτ := mτ.rg
      have nτ := mτ.len
      refine T.go 1 (fun n9 => (rfl : _ = exe ξ n9 (d + 4) j_M_keepValue 48 [(0, .ref 137), (1, J x), (2, J y), (3, J n), (4, J k), (5, J b5)] [J b5] τ)) ?_
      refine T.if_lt rfl rfl (by omega) (fun c1 => ?_) (fun c1 => ?_)
      · refine T.go 1 (fun n9 => (rfl : _ = exe ξ n9 (d + 4) j_M_keepValue 75 [(0, .ref 137), (1, J x), (2, J y), (3, J n), (4, J k), (5, J b5)] [.ref 137] τ)) ?_
        refine T.get rfl rfl rfl mτ.ob rfl ?_
        refine T.go 2 (fun n9 => (rfl : _ = exe ξ n9 (d + 4) j_M_keepValue 82 [(0, .ref 137), (1, J x), (2, J y), (3, J n), (4, J k), (5, J b5)] [J k, J 6, .ref 139] τ)) ?_
        refine T.mast139 mτ rfl (by omega) (by omega) (fun s1 ms1 fs1 => ?_)
        have ns1 := ms1.len
        have gs1 := fτ.trans fs1
        have lgs1 := (LG.refl (S := [6])).trans (LG.set (S := [6]) (A := la) (x := 6) (v := Int32.ofInt k) (by decide) (by decide)) (fun _ z => z)
        have gss1 : ∀ j : Int, 0 ≤ j → gl (la.set (6 : Int).toNat (Int32.ofInt k)) j = if j = 6 then k else gl la j := fun j hj => gl_set ⟨by omega, by omega⟩ ⟨by omega, by omega⟩ hj
        have ges1 : gl (la.set (6 : Int).toNat (Int32.ofInt k)) 6 = k := (gss1 6 (by omega)).trans (if_pos rfl)
        refine T.go 1 (fun n9 => (rfl : _ = exe ξ n9 (d + 4) j_M_keepValue 85 [(0, .ref 137), (1, J x), (2, J y), (3, J n), (4, J k), (5, J b5)] [J k] s1)) ?_
        exact T.ireti rfl rfl ⟨_, wk9, we9, Lc9, (la.set (6 : Int).toNat (Int32.ofInt k)), rfl, ms1, gs1, by omega, by omega, gτ, lgs1, (by have e := KVI_end i10 (by omega) (by omega); exact e), ges1⟩
      · refine T.go 4 (fun n9 => (rfl : _ = exe ξ n9 (d + 4) j_M_keepValue 58 [(0, .ref 137), (1, J x), (2, J y), (3, J n), (4, J k), (5, J b5)] [J b5, J k, J 6, .ref 137] τ)) ?_
        refine T.callv (as := [J 6, J k, J b5]) (r := []) rfl rfl rfl rfl mτ.ob rfl (s_M_fput (d + 3) 6 k b5 τ mτ (by omega) (by omega) (by omega) (by omega) (by omega) (by omega) (by omega)) (fun v1 s2 hqs2 => ?_)
        obtain ⟨Lc_1, rfl, ms2, fs2, pz1_0, pz1_1⟩ := hqs2
        have ns2 := ms2.len
        have rs2 := ms2.rg
        have gs2 := fτ.trans fs2
        have rgs2 := gτ.trans pz1_0 (by decide)
        refine T.iinc (lv' := [(0, .ref 137), (1, J x), (2, J y), (3, J n), (4, J (k + 1)), (5, J b5)]) rfl rfl rfl rfl ?_
        refine T.go 2 (fun n9 => (rfl : _ = exe ξ n9 (d + 4) j_M_keepValue 66 [(0, .ref 137), (1, J x), (2, J y), (3, J n), (4, J (k + 1)), (5, J b5)] [J y, .ref 137] s2)) ?_
        refine T.callv (as := [J y]) (r := []) rfl rfl rfl rfl ms2.ob rfl (s_M_estep (d + 1) y s2 ms2 (by omega) (by omega) (by omega) (by omega) (by omega) (by omega)) (fun v2 s3 hqs3 => ?_)
        obtain ⟨z2, wk_1, we_1, rfl, ms3, fs3, hzz2, hyz2, pz2_0, pz2_1, pz2_2, pz2_3, pz2_4, pz2_5⟩ := hqs3
        have ns3 := ms3.len
        have rs3 := ms3.rg
        have gs3 := gs2.trans fs3
        have stz2 := pz2_5
        have q5z2 := rgs2 5 (by decide) (by decide)
        rw [q5z2] at stz2
        refine T.go 2 (fun n9 => (rfl : _ = exe ξ n9 (d + 4) j_M_keepValue 46 [(0, .ref 137), (1, J x), (2, J y), (3, J n), (4, J (k + 1)), (5, J z2)] [] s3)) ?_
        exact ih46  n (k + 1) z2 wk_1 we_1 Lc_1 s3 ms3 gs3 rgs2 (by omega) (by omega) (by omega) (by omega) (by omega) (by omega) (by omega) (by omega) (by omega) (by omega) (KVI_s i10 (by omega) (by omega) (by have e := pz1_1; rw [show b5 % 256 = b5 by omega] at e; exact e) stz2) (by omega)
  have loop15 : ∀ (f15 : Nat) (n : Int) (k : Int) (wk9 : Int) (we9 : Int) (τ : qH), MS τ c io mo fa pl ns rw en wy wh bi ed sz md bd li wk9 we9 Lc la lm ln lh ld lk lt → FM σ τ → 0 ≤ wk9 → wk9 ≤ we9 + 1 → 0 ≤ we9 → we9 ≤ 8000 → 0 ≤ n → n ≤ 8001 → 0 ≤ k → k ≤ n + 2 → (LIN (gc Lc 5) (gl la 5) y x).drop k.toNat = (REM (gc Lc 5) (gl la 5) y wk9 we9) → n = NML (LIN (gc Lc 5) (gl la 5) y x) → (n + 2 - k).toNat < f15 → T ξ (d + 4) j_M_keepValue 15 [(0, .ref 137), (1, J x), (2, J y), (3, J n), (4, J k)] [] τ (fun v σ' => ∃ (z : Int) (wk1 : Int) (we1 : Int) (Lc1 : List Int64) (la1 : List Int32), v = some (J z) ∧ MS σ' c io mo fa pl ns rw en wy wh bi ed sz md bd li wk1 we1 Lc1 la1 lm ln lh ld lk lt ∧ FM σ σ' ∧ 0 ≤ z ∧ z ≤ 8000 ∧ RG [6] Lc Lc1 ∧ LG [6] la la1 ∧ KVL (VAL (LIN (gc Lc 5) (gl la 5) y x)) (gc Lc1 6) z ∧ gl la1 6 = z) := by
    intro f15
    induction f15 with
    | zero => intro n k wk9 we9 τ mτ fτ i0 i1 i2 i3 i4 i5 i6 i7 i8 i9 hm15; omega
    | succ f15 ih15 =>
      intro n k wk9 we9 τ mτ fτ i0 i1 i2 i3 i4 i5 i6 i7 i8 i9 hm15
      have rτ := mτ.rg
      have nτ := mτ.len
      refine T.go 3 (fun n9 => (rfl : _ = exe ξ n9 (d + 4) j_M_keepValue 19 [(0, .ref 137), (1, J x), (2, J y), (3, J n), (4, J k)] [J 2, J n, J k] τ)) ?_
      refine T.iadd rfl ?_
      refine T.icmp_ge rfl rfl (by omega) (by omega) (fun c2 => ?_) (fun c2 => ?_)
      · refine T.go 4 (fun n9 => (rfl : _ = exe ξ n9 (d + 4) j_M_keepValue 41 [(0, .ref 137), (1, J x), (2, J y), (3, J n), (4, J 0)] [J y, .ref 137] τ)) ?_
        refine T.callv (as := [J y]) (r := []) rfl rfl rfl rfl mτ.ob rfl (s_M_estep (d + 1) y τ mτ (by omega) (by omega) (by omega) (by omega) (by omega) (by omega)) (fun v3 s4 hqs4 => ?_)
        obtain ⟨z3, wk_2, we_2, rfl, ms4, fs4, hzz3, hyz3, pz3_0, pz3_1, pz3_2, pz3_3, pz3_4, pz3_5⟩ := hqs4
        have ns4 := ms4.len
        have rs4 := ms4.rg
        have gs4 := fτ.trans fs4
        have stz3 := pz3_5
        refine T.go 1 (fun n9 => (rfl : _ = exe ξ n9 (d + 4) j_M_keepValue 46 [(0, .ref 137), (1, J x), (2, J y), (3, J n), (4, J 0), (5, J z3)] [] s4)) ?_
        exact loop46 _ n 0 z3 wk_2 we_2 Lc s4 ms4 gs4 RG.refl (by omega) (by omega) (by omega) (by omega) (by omega) (by omega) (by omega) (by omega) (by omega) (by omega) (KVI_0 (by unfold VAL; rw [← i9, show n.toNat + 2 = k.toNat by omega, i8]; exact stz3)) (Nat.lt_succ_self _)
      · refine T.go 2 (fun n9 => (rfl : _ = exe ξ n9 (d + 4) j_M_keepValue 25 [(0, .ref 137), (1, J x), (2, J y), (3, J n), (4, J k)] [J y, .ref 137] τ)) ?_
        refine T.callv (as := [J y]) (r := []) rfl rfl rfl rfl mτ.ob rfl (s_M_estep (d + 1) y τ mτ (by omega) (by omega) (by omega) (by omega) (by omega) (by omega)) (fun v4 s5 hqs5 => ?_)
        obtain ⟨z4, wk_3, we_3, rfl, ms5, fs5, hzz4, hyz4, pz4_0, pz4_1, pz4_2, pz4_3, pz4_4, pz4_5⟩ := hqs5
        have ns5 := ms5.len
        have rs5 := ms5.rg
        have gs5 := fτ.trans fs5
        have stz4 := pz4_5
        refine T.go 1 (fun n9 => (rfl : _ = exe ξ n9 (d + 4) j_M_keepValue 30 [(0, .ref 137), (1, J x), (2, J y), (3, J n), (4, J k), (5, J z4)] [] s5)) ?_
        refine T.iinc (lv' := [(0, .ref 137), (1, J x), (2, J y), (3, J n), (4, J (k + 1)), (5, J z4)]) rfl rfl rfl rfl ?_
        refine T.go 1 (fun n9 => (rfl : _ = exe ξ n9 (d + 4) j_M_keepValue 15 [(0, .ref 137), (1, J x), (2, J y), (3, J n), (4, J (k + 1)), (5, J z4)] [] s5)) ?_
        refine T.drop (lv := [(0, .ref 137), (1, J x), (2, J y), (3, J n), (4, J (k + 1))]) [(5, J z4)] (by simp) ?_
        exact ih15  n (k + 1) wk_3 we_3 s5 ms5 gs5 (by omega) (by omega) (by omega) (by omega) (by omega) (by omega) (by omega) (by omega) (DRP_s i8 (by omega) stz4) i9 (by omega)
  refine T.go 3 (fun n9 => (rfl : _ = exe ξ n9 (d + 4) j_M_keepValue 3 [(0, .ref 137), (1, J x), (2, J y)] [J y, J x, .ref 137] σ)) ?_
  refine T.callv (as := [J x, J y]) (r := []) rfl rfl rfl rfl hM.ob rfl (s_M_enameOf d x y σ hM (by omega) (by omega) (by omega) (by omega) (by omega)) (fun v5 s6 hqs6 => ?_)
  obtain ⟨z5, wk_4, we_4, rfl, ms6, fs6, hzz5, hyz5, pz5_0, pz5_1, pz5_2, pz5_3, pz5_4⟩ := hqs6
  have ns6 := ms6.len
  have rs6 := ms6.rg
  refine T.go 3 (fun n9 => (rfl : _ = exe ξ n9 (d + 4) j_M_keepValue 9 [(0, .ref 137), (1, J x), (2, J y), (3, J z5)] [J x, .ref 137] s6)) ?_
  refine T.callv (as := [J x]) (r := []) rfl rfl rfl rfl ms6.ob rfl (s_M_eenter (d + 1) x s6 ms6 (by omega) (by omega) (by omega)) (fun v6 s7 hqs7 => ?_)
  obtain ⟨wk_5, we_5, rfl, ms7, fs7, pz6_0, pz6_1, pz6_2, pz6_3⟩ := hqs7
  have ns7 := ms7.len
  have rs7 := ms7.rg
  have gs7 := fs6.trans fs7
  refine T.go 2 (fun n9 => (rfl : _ = exe ξ n9 (d + 4) j_M_keepValue 15 [(0, .ref 137), (1, J x), (2, J y), (3, J z5), (4, J 0)] [] s7)) ?_
  exact loop15 _ z5 0 wk_5 we_5 s7 ms7 gs7 (by omega) (by omega) (by omega) (by omega) (by omega) (by omega) (by omega) (by omega) (pz6_3 y).symm pz5_0 (Nat.lt_succ_self _)
