/-! class Unpacker, whatever is asked of it. -/
set_option maxRecDepth 10000 in
set_option maxHeartbeats 4000000 in
theorem s_U_takeBits {ξ : Nat → Option (Nat × List Int32)} (d : Nat) (s t : Nat) (n : Int) (σ : qH) (hK : K σ)  (hs : s ∈ RwL) (ht : t ∈ RwL) (hst : s ≠ t) (hU : UL s t σ) (rn : -2147483648 ≤ n ∧ n ≤ 2147483647) : T ξ d j_U_takeBits 0 (lv_args 0 [.ref 17, J n]) [] σ (fun v σ' => ∃ z : Int, v = some (J z) ∧ Fr [17] σ σ' ∧ -2147483648 ≤ z ∧ z ≤ 2147483647 ∧ UL s t σ' ∧ (n ≤ 16 → 0 ≤ z ∧ z ≤ 65535)) := by
  have loop4 : ∀ (f : Nat) (g : Int) (i : Int) (τ : qH), Fr [17] σ τ → UL s t τ → -2147483648 ≤ g → g ≤ 2147483647 → 0 ≤ i → i ≤ 2147483647 → (n ≤ 16 → 0 ≤ g ∧ g ≤ 65535) → (n - i).toNat < f → T ξ d j_U_takeBits 4 [(0, .ref 17), (1, J n), (2, J g), (3, J i)] [] τ (fun v σ' => ∃ z : Int, v = some (J z) ∧ Fr [17] σ σ' ∧ -2147483648 ≤ z ∧ z ≤ 2147483647 ∧ UL s t σ' ∧ (n ≤ 16 → 0 ≤ z ∧ z ≤ 65535)) := by
    intro f
    induction f with
    | zero => intro g i τ hτ uτ i0 i1 i2 i3 i4 hm; omega
    | succ f ih =>
      intro g i τ hτ uτ i0 i1 i2 i3 i4 hm
      refine T.go 2 (fun n9 => (rfl : _ = exe ξ n9 d j_U_takeBits 6 [(0, .ref 17), (1, J n), (2, J g), (3, J i)] [J n, J i] τ)) ?_
      refine T.icmp_ge rfl rfl (by omega) (by omega) (fun c1 => ?_) (fun c1 => ?_)
      · refine T.go 1 (fun n9 => (rfl : _ = exe ξ n9 d j_U_takeBits 73 [(0, .ref 17), (1, J n), (2, J g), (3, J i)] [J g] τ)) ?_
        exact T.ireti rfl rfl ⟨_, rfl, hτ, by omega, by omega, uτ, by omega⟩
      · refine T.go 1 (fun n9 => (rfl : _ = exe ξ n9 d j_U_takeBits 10 [(0, .ref 17), (1, J n), (2, J g), (3, J i)] [.ref 17] τ)) ?_
        obtain ⟨wx1, bix1, bex1, rox1, mx1, nx1, bx1, lx1, hux1, hrx1, hbx1, ⟨fx1a, fx1b, fx1c, fx1d, fx1e, fx1f, fx1g, fx1h, fx1i, fx1j⟩, ⟨fx1k, fx1l, fx1m, fx1n⟩, fx1o, fx1p⟩ := UL.unf hτ.1 uτ hs
        refine T.get rfl rfl rfl hux1 rfl ?_
        refine T.go 1 (fun n9 => (rfl : _ = exe ξ n9 d j_U_takeBits 14 [(0, .ref 17), (1, J n), (2, J g), (3, J i)] [.ref 17, J bix1] τ)) ?_
        refine T.get rfl rfl rfl hux1 rfl ?_
        refine T.icmp_lt rfl rfl (by omega) (by omega) (fun c2 => ?_) (fun c2 => ?_)
        · refine T.go 2 (fun n9 => (rfl : _ = exe ξ n9 d j_U_takeBits 29 [(0, .ref 17), (1, J n), (2, J g), (3, J i)] [.ref 17, J g] τ)) ?_
          refine T.get rfl rfl rfl hux1 rfl ?_
          refine T.get rfl rfl rfl hrx1 rfl ?_
          refine T.go 1 (fun n9 => (rfl : _ = exe ξ n9 d j_U_takeBits 36 [(0, .ref 17), (1, J n), (2, J g), (3, J i)] [.ref 17, .ref bx1, J g] τ)) ?_
          refine T.get rfl rfl rfl hux1 rfl ?_
          refine T.go 1 (fun n9 => (rfl : _ = exe ξ n9 d j_U_takeBits 40 [(0, .ref 17), (1, J n), (2, J g), (3, J i)] [J 3, J bix1, .ref bx1, J g] τ)) ?_
          refine T.ishr (p := 8) 3 rfl (by decide) (by decide) (by omega) ?_
          refine T.bald rfl (blt_f fx1o) hbx1 (by omega) (fun z2 hzz2 hyz2 hez2 => ?_)
          refine T.go 1 (fun n9 => (rfl : _ = exe ξ n9 d j_U_takeBits 43 [(0, .ref 17), (1, J n), (2, J g), (3, J i)] [.ref 17, J z2, J g] τ)) ?_
          refine T.get rfl rfl rfl hux1 rfl ?_
          refine T.go 1 (fun n9 => (rfl : _ = exe ξ n9 d j_U_takeBits 48 [(0, .ref 17), (1, J n), (2, J g), (3, J i)] [J 7, J bix1, J z2, J g] τ)) ?_
          refine T.iandm (p := 8) 3 rfl (by decide) (by decide) (by decide) (by omega) ?_
          refine T.some1 rfl rfl (fun z4 hzz4 hyz4 _ => ?_)
          refine T.go 1 (fun n9 => (rfl : _ = exe ξ n9 d j_U_takeBits 51 [(0, .ref 17), (1, J n), (2, J g), (3, J i)] [J 1, J z4, J g] τ)) ?_
          refine T.iandm (p := 2) 1 rfl (by decide) (by decide) (by decide) (by omega) ?_
          refine T.go 1 (fun n9 => (rfl : _ = exe ξ n9 d j_U_takeBits 53 [(0, .ref 17), (1, J n), (2, J g), (3, J i)] [J i, J (z4 % 2), J g] τ)) ?_
          refine T.ishlx rfl (fun z6 hzz6 hyz6 hwz6 => ?_)
          refine T.iorx rfl (by omega) (by omega) (fun z7 hzz7 hyz7 hwz7 => ?_)
          refine T.go 3 (fun n9 => (rfl : _ = exe ξ n9 d j_U_takeBits 58 [(0, .ref 17), (1, J n), (2, J z7), (3, J i)] [.ref 17, .ref 17] τ)) ?_
          refine T.get rfl rfl rfl hux1 rfl ?_
          refine T.go 1 (fun n9 => (rfl : _ = exe ξ n9 d j_U_takeBits 62 [(0, .ref 17), (1, J n), (2, J z7), (3, J i)] [J 1, J bix1, .ref 17] τ)) ?_
          refine T.iadd rfl ?_
          refine T.putF (w := [17]) rfl rfl hux1 rfl rfl rfl (fs' := [.ref 18, .ref 19, .ref 23, .ref 27, .ref 31, .ref 35, .ref s, .ref t, J wx1, J (bix1 + 1), J bex1, J rox1]) rfl (Fr.other hτ.1 hux1 rfl (show okU _ from ⟨_, _, _, _, _, _, rfl, hs, ht, by omega⟩) (by decide) (Or.inl (by decide)) (fun _ z => by cases z) (by simp)) (fun s1 hs1 hcs1 hos1 => ?_)
          have gs1 := hτ.trans hs1
          have k1 := hos1 ((by decide : ∀ u ∈ RwL, u ≠ 17) _ hs) hrx1
          have k2 := hos1 (q_dif hbx1 hux1 (fun z => by cases z)) hbx1
          refine T.iinc (lv' := [(0, .ref 17), (1, J n), (2, J z7), (3, J (i + 1))]) rfl rfl rfl rfl ?_
          refine T.go 1 (fun n9 => (rfl : _ = exe ξ n9 d j_U_takeBits 4 [(0, .ref 17), (1, J n), (2, J z7), (3, J (i + 1))] [] s1)) ?_
          have hU1 : UL s t s1 := ⟨_, _, _, _, _, _, _, _, hcs1, k1, k2, by omega⟩
          exact ih  z7 (i + 1) s1 gs1 hU1 (by omega) (by omega) (by omega) (by omega) (by omega) (by omega)
        · refine T.go 2 (fun n9 => (rfl : _ = exe ξ n9 d j_U_takeBits 22 [(0, .ref 17), (1, J n), (2, J g), (3, J i)] [J 1, .ref 17] τ)) ?_
          refine T.putF (w := [17]) rfl rfl hux1 rfl rfl rfl (fs' := [.ref 18, .ref 19, .ref 23, .ref 27, .ref 31, .ref 35, .ref s, .ref t, J wx1, J bix1, J bex1, J 1]) rfl (Fr.other hτ.1 hux1 rfl (show okU _ from ⟨_, _, _, _, _, _, rfl, hs, ht, by omega⟩) (by decide) (Or.inl (by decide)) (fun _ z => by cases z) (by simp)) (fun s2 hs2 hcs2 hos2 => ?_)
          have gs2 := hτ.trans hs2
          have k3 := hos2 ((by decide : ∀ u ∈ RwL, u ≠ 17) _ hs) hrx1
          have k4 := hos2 (q_dif hbx1 hux1 (fun z => by cases z)) hbx1
          refine T.go 1 (fun n9 => (rfl : _ = exe ξ n9 d j_U_takeBits 26 [(0, .ref 17), (1, J n), (2, J g), (3, J i)] [J 0] s2)) ?_
          have hU2 : UL s t s2 := ⟨_, _, _, _, _, _, _, _, hcs2, k3, k4, by omega⟩
          exact T.ireti rfl rfl ⟨_, rfl, gs2, by omega, by omega, hU2, by omega⟩
  refine T.go 4 (fun n9 => (rfl : _ = exe ξ n9 d j_U_takeBits 4 [(0, .ref 17), (1, J n), (2, J 0), (3, J 0)] [] σ)) ?_
  exact loop4 _ 0 0 σ (Fr.refl hK) hU (by omega) (by omega) (by omega) (by omega) (by omega) (Nat.lt_succ_self _)

set_option maxRecDepth 10000 in
set_option maxHeartbeats 4000000 in
theorem s_U_nextSign {ξ : Nat → Option (Nat × List Int32)} (d : Nat) (s t : Nat) (c : Nat) (σ : qH) (hK : K σ) (hc : c ∈ CdL) (hs : s ∈ RwL) (ht : t ∈ RwL) (hst : s ≠ t) (hU : UL s t σ) : T ξ d j_U_nextSign 0 (lv_args 0 [.ref 17, .ref c]) [] σ (fun v σ' => ∃ z : Int, v = some (J z) ∧ Fr [17] σ σ' ∧ -2147483648 ≤ z ∧ z ≤ 2147483647 ∧ UL s t σ') := by
  have lc := CdL_lt2 c hc
  have loop10 : ∀ (f : Nat) (u : Int) (g : Int) (p : Int) (k : Int) (τ : qH), Fr [17] σ τ → UL s t τ → -2147483648 ≤ u → u ≤ 2147483647 → -2147483648 ≤ g → g ≤ 2147483647 → -2147483648 ≤ p → p ≤ 2147483647 → 1 ≤ k → k ≤ 16 → (16 - k).toNat < f → T ξ d j_U_nextSign 10 [(0, .ref 17), (1, .ref c), (2, J u), (3, J g), (4, J p), (5, J k)] [] τ (fun v σ' => ∃ z : Int, v = some (J z) ∧ Fr [17] σ σ' ∧ -2147483648 ≤ z ∧ z ≤ 2147483647 ∧ UL s t σ') := by
    intro f
    induction f with
    | zero => intro u g p k τ hτ uτ i0 i1 i2 i3 i4 i5 i6 i7 hm; omega
    | succ f ih =>
      intro u g p k τ hτ uτ i0 i1 i2 i3 i4 i5 i6 i7 hm
      refine T.go 2 (fun n9 => (rfl : _ = exe ξ n9 d j_U_nextSign 14 [(0, .ref 17), (1, .ref c), (2, J u), (3, J g), (4, J p), (5, J k)] [J 15, J k] τ)) ?_
      refine T.icmp_gt rfl rfl (by omega) (by omega) (fun c1 => ?_) (fun c1 => ?_)
      · refine T.go 1 (fun n9 => (rfl : _ = exe ξ n9 d j_U_nextSign 142 [(0, .ref 17), (1, .ref c), (2, J u), (3, J g), (4, J p), (5, J k)] [J (-1)] τ)) ?_
        exact T.ireti rfl rfl ⟨_, rfl, hτ, by omega, by omega, uτ⟩
      · refine T.go 1 (fun n9 => (rfl : _ = exe ξ n9 d j_U_nextSign 18 [(0, .ref 17), (1, .ref c), (2, J u), (3, J g), (4, J p), (5, J k)] [.ref 17] τ)) ?_
        obtain ⟨wx1, bix1, bex1, rox1, mx1, nx1, bx1, lx1, hux1, hrx1, hbx1, ⟨fx1a, fx1b, fx1c, fx1d, fx1e, fx1f, fx1g, fx1h, fx1i, fx1j⟩, ⟨fx1k, fx1l, fx1m, fx1n⟩, fx1o, fx1p⟩ := UL.unf hτ.1 uτ hs
        refine T.get rfl rfl rfl hux1 rfl ?_
        refine T.go 1 (fun n9 => (rfl : _ = exe ξ n9 d j_U_nextSign 22 [(0, .ref 17), (1, .ref c), (2, J u), (3, J g), (4, J p), (5, J k)] [.ref 17, J bix1] τ)) ?_
        refine T.get rfl rfl rfl hux1 rfl ?_
        refine T.icmp_ge rfl rfl (by omega) (by omega) (fun c2 => ?_) (fun c2 => ?_)
        · refine T.go 1 (fun n9 => (rfl : _ = exe ξ n9 d j_U_nextSign 142 [(0, .ref 17), (1, .ref c), (2, J u), (3, J g), (4, J p), (5, J k)] [J (-1)] τ)) ?_
          exact T.ireti rfl rfl ⟨_, rfl, hτ, by omega, by omega, uτ⟩
        · refine T.go 2 (fun n9 => (rfl : _ = exe ξ n9 d j_U_nextSign 30 [(0, .ref 17), (1, .ref c), (2, J u), (3, J g), (4, J p), (5, J k)] [.ref 17, J u] τ)) ?_
          refine T.get rfl rfl rfl hux1 rfl ?_
          refine T.get rfl rfl rfl hrx1 rfl ?_
          refine T.go 1 (fun n9 => (rfl : _ = exe ξ n9 d j_U_nextSign 37 [(0, .ref 17), (1, .ref c), (2, J u), (3, J g), (4, J p), (5, J k)] [.ref 17, .ref bx1, J u] τ)) ?_
          refine T.get rfl rfl rfl hux1 rfl ?_
          refine T.go 1 (fun n9 => (rfl : _ = exe ξ n9 d j_U_nextSign 41 [(0, .ref 17), (1, .ref c), (2, J u), (3, J g), (4, J p), (5, J k)] [J 3, J bix1, .ref bx1, J u] τ)) ?_
          refine T.ishr (p := 8) 3 rfl (by decide) (by decide) (by omega) ?_
          refine T.bald rfl (blt_f fx1o) hbx1 (by omega) (fun z2 hzz2 hyz2 hez2 => ?_)
          refine T.go 1 (fun n9 => (rfl : _ = exe ξ n9 d j_U_nextSign 44 [(0, .ref 17), (1, .ref c), (2, J u), (3, J g), (4, J p), (5, J k)] [.ref 17, J z2, J u] τ)) ?_
          refine T.get rfl rfl rfl hux1 rfl ?_
          refine T.go 1 (fun n9 => (rfl : _ = exe ξ n9 d j_U_nextSign 49 [(0, .ref 17), (1, .ref c), (2, J u), (3, J g), (4, J p), (5, J k)] [J 7, J bix1, J z2, J u] τ)) ?_
          refine T.iandm (p := 8) 3 rfl (by decide) (by decide) (by decide) (by omega) ?_
          refine T.some1 rfl rfl (fun z4 hzz4 hyz4 _ => ?_)
          refine T.go 1 (fun n9 => (rfl : _ = exe ξ n9 d j_U_nextSign 52 [(0, .ref 17), (1, .ref c), (2, J u), (3, J g), (4, J p), (5, J k)] [J 1, J z4, J u] τ)) ?_
          refine T.iandm (p := 2) 1 rfl (by decide) (by decide) (by decide) (by omega) ?_
          refine T.iorx rfl (by omega) (by omega) (fun z6 hzz6 hyz6 hwz6 => ?_)
          refine T.go 3 (fun n9 => (rfl : _ = exe ξ n9 d j_U_nextSign 57 [(0, .ref 17), (1, .ref c), (2, J z6), (3, J g), (4, J p), (5, J k)] [.ref 17, .ref 17] τ)) ?_
          refine T.get rfl rfl rfl hux1 rfl ?_
          refine T.go 1 (fun n9 => (rfl : _ = exe ξ n9 d j_U_nextSign 61 [(0, .ref 17), (1, .ref c), (2, J z6), (3, J g), (4, J p), (5, J k)] [J 1, J bix1, .ref 17] τ)) ?_
          refine T.iadd rfl ?_
          refine T.putF (w := [17]) rfl rfl hux1 rfl rfl rfl (fs' := [.ref 18, .ref 19, .ref 23, .ref 27, .ref 31, .ref 35, .ref s, .ref t, J wx1, J (bix1 + 1), J bex1, J rox1]) rfl (Fr.other hτ.1 hux1 rfl (show okU _ from ⟨_, _, _, _, _, _, rfl, hs, ht, by omega⟩) (by decide) (Or.inl (by decide)) (fun _ z => by cases z) (by simp)) (fun s1 hs1 hcs1 hos1 => ?_)
          have gs1 := hτ.trans hs1
          have k1 := hos1 ((by decide : ∀ u ∈ RwL, u ≠ 17) _ hs) hrx1
          have k2 := hos1 (q_dif hbx1 hux1 (fun z => by cases z)) hbx1
          refine T.go 1 (fun n9 => (rfl : _ = exe ξ n9 d j_U_nextSign 66 [(0, .ref 17), (1, .ref c), (2, J z6), (3, J g), (4, J p), (5, J k)] [.ref c] s1)) ?_
          have hcx2 := hs1.1.cod (c := c) hc
          refine T.get rfl rfl rfl hcx2 rfl ?_
          refine T.go 1 (fun n9 => (rfl : _ = exe ξ n9 d j_U_nextSign 71 [(0, .ref 17), (1, .ref c), (2, J z6), (3, J g), (4, J p), (5, J k)] [J k, .ref (c + 1)] s1)) ?_
          obtain ⟨lx3, hix3, elx3⟩ := hs1.1.ints (kdX_cd _ hc).2.1
          refine T.iald rfl (blt_f (by omega)) hix3 (by omega) (fun z7 hzz7 hyz7 hez7 => ?_)
          refine T.go 3 (fun n9 => (rfl : _ = exe ξ n9 d j_U_nextSign 77 [(0, .ref 17), (1, .ref c), (2, J z6), (3, J g), (4, J p), (5, J k), (6, J z7)] [J z6, J p] s1)) ?_
          refine T.iadd rfl ?_
          refine T.norm (fun z8 hzz8 hyz8 hwz8 => ?_)
          refine T.go 1 (fun n9 => (rfl : _ = exe ξ n9 d j_U_nextSign 79 [(0, .ref 17), (1, .ref c), (2, J z6), (3, J g), (4, J p), (5, J k), (6, J z7)] [J g, J z8] s1)) ?_
          refine T.isub rfl ?_
          refine T.norm (fun z9 hzz9 hyz9 hwz9 => ?_)
          refine T.go 3 (fun n9 => (rfl : _ = exe ξ n9 d j_U_nextSign 84 [(0, .ref 17), (1, .ref c), (2, J z6), (3, J g), (4, J p), (5, J k), (6, J z7), (7, J z9)] [J g, J z6] s1)) ?_
          refine T.isub rfl ?_
          refine T.norm (fun z10 hzz10 hyz10 hwz10 => ?_)
          refine T.go 1 (fun n9 => (rfl : _ = exe ξ n9 d j_U_nextSign 87 [(0, .ref 17), (1, .ref c), (2, J z6), (3, J g), (4, J p), (5, J k), (6, J z7), (7, J z9)] [J z7, J z10] s1)) ?_
          refine T.icmp_ge rfl rfl (by omega) (by omega) (fun c3 => ?_) (fun c3 => ?_)
          · refine T.go 2 (fun n9 => (rfl : _ = exe ξ n9 d j_U_nextSign 121 [(0, .ref 17), (1, .ref c), (2, J z6), (3, J g), (4, J p), (5, J k), (6, J z7), (7, J z9)] [J z7, J p] s1)) ?_
            refine T.iadd rfl ?_
            refine T.norm (fun z11 hzz11 hyz11 hwz11 => ?_)
            refine T.go 3 (fun n9 => (rfl : _ = exe ξ n9 d j_U_nextSign 127 [(0, .ref 17), (1, .ref c), (2, J z6), (3, J g), (4, J z11), (5, J k), (6, J z7), (7, J z9)] [J z7, J g] s1)) ?_
            refine T.iadd rfl ?_
            refine T.norm (fun z12 hzz12 hyz12 hwz12 => ?_)
            refine T.go 1 (fun n9 => (rfl : _ = exe ξ n9 d j_U_nextSign 129 [(0, .ref 17), (1, .ref c), (2, J z6), (3, J g), (4, J z11), (5, J k), (6, J z7), (7, J z9)] [J 1, J z12] s1)) ?_
            refine T.some1 rfl rfl (fun z13 hzz13 hyz13 _ => ?_)
            refine T.go 3 (fun n9 => (rfl : _ = exe ξ n9 d j_U_nextSign 133 [(0, .ref 17), (1, .ref c), (2, J z6), (3, J z13), (4, J z11), (5, J k), (6, J z7), (7, J z9)] [J 1, J z6] s1)) ?_
            refine T.some1 rfl rfl (fun z14 hzz14 hyz14 _ => ?_)
            refine T.go 1 (fun n9 => (rfl : _ = exe ξ n9 d j_U_nextSign 135 [(0, .ref 17), (1, .ref c), (2, J z14), (3, J z13), (4, J z11), (5, J k), (6, J z7), (7, J z9)] [] s1)) ?_
            refine T.iinc (lv' := [(0, .ref 17), (1, .ref c), (2, J z14), (3, J z13), (4, J z11), (5, J (k + 1)), (6, J z7), (7, J z9)]) rfl rfl rfl rfl ?_
            refine T.go 1 (fun n9 => (rfl : _ = exe ξ n9 d j_U_nextSign 10 [(0, .ref 17), (1, .ref c), (2, J z14), (3, J z13), (4, J z11), (5, J (k + 1)), (6, J z7), (7, J z9)] [] s1)) ?_
            refine T.drop (lv := [(0, .ref 17), (1, .ref c), (2, J z14), (3, J z13), (4, J z11), (5, J (k + 1))]) [(6, J z7), (7, J z9)] (by simp) ?_
            have hU1 : UL s t s1 := ⟨_, _, _, _, _, _, _, _, hcs1, k1, k2, by omega⟩
            exact ih  z14 z13 z11 (k + 1) s1 gs1 hU1 (by omega) (by omega) (by omega) (by omega) (by omega) (by omega) (by omega) (by omega) (by omega)
          · refine T.go 1 (fun n9 => (rfl : _ = exe ξ n9 d j_U_nextSign 92 [(0, .ref 17), (1, .ref c), (2, J z6), (3, J g), (4, J p), (5, J k), (6, J z7), (7, J z9)] [J z9] s1)) ?_
            refine T.if_lt rfl rfl (by omega) (fun c4 => ?_) (fun c4 => ?_)
            · refine T.go 1 (fun n9 => (rfl : _ = exe ξ n9 d j_U_nextSign 116 [(0, .ref 17), (1, .ref c), (2, J z6), (3, J g), (4, J p), (5, J k), (6, J z7), (7, J z9)] [J (-1)] s1)) ?_
              have hU2 : UL s t s1 := ⟨_, _, _, _, _, _, _, _, hcs1, k1, k2, by omega⟩
              exact T.ireti rfl rfl ⟨_, rfl, gs1, by omega, by omega, hU2⟩
            · refine T.go 2 (fun n9 => (rfl : _ = exe ξ n9 d j_U_nextSign 98 [(0, .ref 17), (1, .ref c), (2, J z6), (3, J g), (4, J p), (5, J k), (6, J z7), (7, J z9)] [.ref c, J z9] s1)) ?_
              refine T.get rfl rfl rfl hcx2 rfl ?_
              obtain ⟨qx4, kqx4, lqx4⟩ := (kdX_cd _ hc).2.2.2
              obtain ⟨lx4, hix4, elx4⟩ := hs1.1.ints kqx4
              refine T.ilen rfl (blt_f (by omega)) hix4 ?_
              refine T.icmp_ge rfl rfl (by omega) (by omega) (fun c5 => ?_) (fun c5 => ?_)
              · refine T.go 1 (fun n9 => (rfl : _ = exe ξ n9 d j_U_nextSign 116 [(0, .ref 17), (1, .ref c), (2, J z6), (3, J g), (4, J p), (5, J k), (6, J z7), (7, J z9)] [J (-1)] s1)) ?_
                have hU3 : UL s t s1 := ⟨_, _, _, _, _, _, _, _, hcs1, k1, k2, by omega⟩
                exact T.ireti rfl rfl ⟨_, rfl, gs1, by omega, by omega, hU3⟩
              · refine T.go 1 (fun n9 => (rfl : _ = exe ξ n9 d j_U_nextSign 106 [(0, .ref 17), (1, .ref c), (2, J z6), (3, J g), (4, J p), (5, J k), (6, J z7), (7, J z9)] [.ref c] s1)) ?_
                refine T.get rfl rfl rfl hcx2 rfl ?_
                refine T.go 1 (fun n9 => (rfl : _ = exe ξ n9 d j_U_nextSign 111 [(0, .ref 17), (1, .ref c), (2, J z6), (3, J g), (4, J p), (5, J k), (6, J z7), (7, J z9)] [J z9, .ref (c + 3)] s1)) ?_
                refine T.iald rfl (blt_f (by omega)) hix4 (by omega) (fun z15 hzz15 hyz15 hez15 => ?_)
                refine T.go 1 (fun n9 => (rfl : _ = exe ξ n9 d j_U_nextSign 116 [(0, .ref 17), (1, .ref c), (2, J z6), (3, J g), (4, J p), (5, J k), (6, J z7), (7, J z9)] [J z15] s1)) ?_
                have hU4 : UL s t s1 := ⟨_, _, _, _, _, _, _, _, hcs1, k1, k2, by omega⟩
                exact T.ireti rfl rfl ⟨_, rfl, gs1, by omega, by omega, hU4⟩
  refine T.go 8 (fun n9 => (rfl : _ = exe ξ n9 d j_U_nextSign 10 [(0, .ref 17), (1, .ref c), (2, J 0), (3, J 0), (4, J 0), (5, J 1)] [] σ)) ?_
  exact loop10 _ 0 0 0 1 σ (Fr.refl hK) hU (by omega) (by omega) (by omega) (by omega) (by omega) (by omega) (by omega) (by omega) (Nat.lt_succ_self _)

set_option maxRecDepth 10000 in
set_option maxHeartbeats 4000000 in
theorem s_U_copyPlain {ξ : Nat → Option (Nat × List Int32)} (d : Nat) (s t : Nat)  (σ : qH) (hK : K σ)  (hs : s ∈ RwL) (ht : t ∈ RwL) (hst : s ≠ t) (hU : UL s t σ) : T ξ (d + 2) j_U_copyPlain 0 (lv_args 0 [.ref 17]) [] σ (fun v σ' => ∃ z : Int, v = some (J z) ∧ Fr [17, t] σ σ' ∧ 0 ≤ z ∧ z ≤ 1 ∧ UL s t σ') := by
  refine T.go 2 (fun n9 => (rfl : _ = exe ξ n9 (d + 2) j_U_copyPlain 2 [(0, .ref 17)] [.ref 17, .ref 17] σ)) ?_
  obtain ⟨wx1, bix1, bex1, rox1, mx1, nx1, bx1, lx1, hux1, hrx1, hbx1, ⟨fx1a, fx1b, fx1c, fx1d, fx1e, fx1f, fx1g, fx1h, fx1i, fx1j⟩, ⟨fx1k, fx1l, fx1m, fx1n⟩, fx1o, fx1p⟩ := UL.unf hK hU hs
  refine T.get rfl rfl rfl hux1 rfl ?_
  refine T.go 1 (fun n9 => (rfl : _ = exe ξ n9 (d + 2) j_U_copyPlain 7 [(0, .ref 17)] [J 7, J bix1, .ref 17] σ)) ?_
  refine T.iadd rfl ?_
  refine T.go 1 (fun n9 => (rfl : _ = exe ξ n9 (d + 2) j_U_copyPlain 10 [(0, .ref 17)] [J (-8), J (bix1 + 7), .ref 17] σ)) ?_
  refine T.iand8 rfl (by omega) ?_
  refine T.putF (w := [17, t]) rfl rfl hux1 rfl rfl rfl (fs' := [.ref 18, .ref 19, .ref 23, .ref 27, .ref 31, .ref 35, .ref s, .ref t, J wx1, J ((bix1 + 7) - (bix1 + 7) % 8), J bex1, J rox1]) rfl (Fr.other hK hux1 rfl (show okU _ from ⟨_, _, _, _, _, _, rfl, hs, ht, by omega⟩) (by decide) (Or.inl (by decide)) (fun _ z => by cases z) (by simp)) (fun s1 hs1 hcs1 hos1 => ?_)
  have k1 := hos1 ((by decide : ∀ u ∈ RwL, u ≠ 17) _ hs) hrx1
  have k2 := hos1 (q_dif hbx1 hux1 (fun z => by cases z)) hbx1
  refine T.go 2 (fun n9 => (rfl : _ = exe ξ n9 (d + 2) j_U_copyPlain 17 [(0, .ref 17)] [J 16, .ref 17] s1)) ?_
  have hU1 : UL s t s1 := ⟨_, _, _, _, _, _, _, _, hcs1, k1, k2, by omega⟩
  refine T.callv (as := [J 16]) (r := []) rfl rfl rfl rfl hcs1 rfl (s_U_takeBits (d + 1) s t 16 s1 hs1.1  hs ht hst hU1 (by omega)) (fun v1 s2 hqs2 => ?_)
  obtain ⟨z2, rfl, hs2, hzz2, hyz2, pz2_0, pz2_1⟩ := hqs2
  have es2 := hs2
  have hs2 := hs2.sub (w' := [17, t]) (List.forall_mem_cons.mpr ⟨(by simp), (fun _ h => by cases h)⟩)
  have k3 := es2.b.1 _ _ (nm_c ((by decide : ∀ u ∈ RwL, u ≠ 17) _ hs) nm_0) (fun l z => by cases z) k1
  have gs2 := hs1.trans hs2
  refine T.go 3 (fun n9 => (rfl : _ = exe ξ n9 (d + 2) j_U_copyPlain 24 [(0, .ref 17), (1, J z2)] [J 16, .ref 17] s2)) ?_
  obtain ⟨wx2, bix2, bex2, rox2, mx2, nx2, bx2, lx2, hux2, hrx2, hbx2, ⟨fx2a, fx2b, fx2c, fx2d, fx2e, fx2f, fx2g, fx2h, fx2i, fx2j⟩, ⟨fx2k, fx2l, fx2m, fx2n⟩, fx2o, fx2p⟩ := UL.unf hs2.1 pz2_0 hs
  refine T.callv (as := [J 16]) (r := []) rfl rfl rfl rfl hux2 rfl (s_U_takeBits (d + 1) s t 16 s2 hs2.1  hs ht hst pz2_0 (by omega)) (fun v2 s3 hqs3 => ?_)
  obtain ⟨z3, rfl, hs3, hzz3, hyz3, pz3_0, pz3_1⟩ := hqs3
  have es3 := hs3
  have hs3 := hs3.sub (w' := [17, t]) (List.forall_mem_cons.mpr ⟨(by simp), (fun _ h => by cases h)⟩)
  have k4 := es3.b.1 _ _ (nm_c ((by decide : ∀ u ∈ RwL, u ≠ 17) _ hs) nm_0) (fun l z => by cases z) hrx2
  have gs3 := gs2.trans hs3
  refine T.go 2 (fun n9 => (rfl : _ = exe ξ n9 (d + 2) j_U_copyPlain 29 [(0, .ref 17), (1, J z2), (2, J z3)] [.ref 17] s3)) ?_
  obtain ⟨wx3, bix3, bex3, rox3, mx3, nx3, bx3, lx3, hux3, hrx3, hbx3, ⟨fx3a, fx3b, fx3c, fx3d, fx3e, fx3f, fx3g, fx3h, fx3i, fx3j⟩, ⟨fx3k, fx3l, fx3m, fx3n⟩, fx3o, fx3p⟩ := UL.unf hs3.1 pz3_0 hs
  refine T.get rfl rfl rfl hux3 rfl ?_
  refine T.if_ne rfl rfl (by omega) (fun c1 => ?_) (fun c1 => ?_)
  · refine T.go 1 (fun n9 => (rfl : _ = exe ξ n9 (d + 2) j_U_copyPlain 75 [(0, .ref 17), (1, J z2), (2, J z3)] [J 0] s3)) ?_
    exact T.iretz rfl rfl (by omega) ⟨_, rfl, gs3, by omega, by omega, pz3_0⟩
  · refine T.go 2 (fun n9 => (rfl : _ = exe ξ n9 (d + 2) j_U_copyPlain 38 [(0, .ref 17), (1, J z2), (2, J z3)] [J 65535, J z2] s3)) ?_
    refine T.some1 rfl rfl (fun z4 hzz4 hyz4 _ => ?_)
    refine T.go 1 (fun n9 => (rfl : _ = exe ξ n9 (d + 2) j_U_copyPlain 40 [(0, .ref 17), (1, J z2), (2, J z3)] [J z3, J z4] s3)) ?_
    refine T.icmp_ne rfl rfl (by omega) (by omega) (fun c2 => ?_) (fun c2 => ?_)
    · refine T.go 1 (fun n9 => (rfl : _ = exe ξ n9 (d + 2) j_U_copyPlain 75 [(0, .ref 17), (1, J z2), (2, J z3)] [J 0] s3)) ?_
      exact T.iretz rfl rfl (by omega) ⟨_, rfl, gs3, by omega, by omega, pz3_0⟩
    · refine T.go 2 (fun n9 => (rfl : _ = exe ξ n9 (d + 2) j_U_copyPlain 45 [(0, .ref 17), (1, J z2), (2, J z3)] [.ref 17, J z2] s3)) ?_
      refine T.get rfl rfl rfl hux3 rfl ?_
      refine T.go 1 (fun n9 => (rfl : _ = exe ξ n9 (d + 2) j_U_copyPlain 49 [(0, .ref 17), (1, J z2), (2, J z3)] [.ref 17, J bex3, J z2] s3)) ?_
      refine T.get rfl rfl rfl hux3 rfl ?_
      refine T.isub rfl ?_
      refine T.go 1 (fun n9 => (rfl : _ = exe ξ n9 (d + 2) j_U_copyPlain 54 [(0, .ref 17), (1, J z2), (2, J z3)] [J 3, J (bex3 - bix3), J z2] s3)) ?_
      refine T.ishr (p := 8) 3 rfl (by decide) (by decide) (by omega) ?_
      refine T.icmp_gt rfl rfl (by omega) (by omega) (fun c3 => ?_) (fun c3 => ?_)
      · refine T.go 1 (fun n9 => (rfl : _ = exe ξ n9 (d + 2) j_U_copyPlain 75 [(0, .ref 17), (1, J z2), (2, J z3)] [J 0] s3)) ?_
        exact T.iretz rfl rfl (by omega) ⟨_, rfl, gs3, by omega, by omega, pz3_0⟩
      · refine T.go 2 (fun n9 => (rfl : _ = exe ξ n9 (d + 2) j_U_copyPlain 60 [(0, .ref 17), (1, J z2), (2, J z3)] [.ref 17, J z2] s3)) ?_
        refine T.get rfl rfl rfl hux3 rfl ?_
        refine T.go 1 (fun n9 => (rfl : _ = exe ξ n9 (d + 2) j_U_copyPlain 64 [(0, .ref 17), (1, J z2), (2, J z3)] [.ref 17, J wx3, J z2] s3)) ?_
        refine T.get rfl rfl rfl hux3 rfl ?_
        obtain ⟨mx4, nx4, bx4, lx4, hrx4, hbx4, fx4a, fx4b, fx4c, fx4d, fx4e, fx4g, fx4h, fx4i⟩ := hs3.1.row ht
        refine T.get rfl rfl rfl hrx4 rfl ?_
        refine T.isub rfl ?_
        refine T.icmp_le rfl rfl (by omega) (by omega) (fun c4 => ?_) (fun c4 => ?_)
        · refine T.go 2 (fun n9 => (rfl : _ = exe ξ n9 (d + 2) j_U_copyPlain 78 [(0, .ref 17), (1, J z2), (2, J z3)] [.ref 17, .ref 17] s3)) ?_
          refine T.get rfl rfl rfl hux3 rfl ?_
          refine T.go 2 (fun n9 => (rfl : _ = exe ξ n9 (d + 2) j_U_copyPlain 84 [(0, .ref 17), (1, J z2), (2, J z3)] [J z2, J 8, J bix3, .ref 17] s3)) ?_
          refine T.imul rfl ?_
          refine T.iadd rfl ?_
          refine T.putF (w := [17, t]) rfl rfl hux3 rfl rfl rfl (fs' := [.ref 18, .ref 19, .ref 23, .ref 27, .ref 31, .ref 35, .ref s, .ref t, J wx3, J (bix3 + (8 * z2)), J bex3, J rox3]) rfl (Fr.other hs3.1 hux3 rfl (show okU _ from ⟨_, _, _, _, _, _, rfl, hs, ht, by omega⟩) (by decide) (Or.inl (by decide)) (fun _ z => by cases z) (by simp)) (fun s4 hs4 hcs4 hos4 => ?_)
          have gs4 := gs3.trans hs4
          have k5 := hos4 ((by decide : ∀ u ∈ RwL, u ≠ 17) _ hs) hrx3
          have k6 := hos4 (q_dif hbx3 hux3 (fun z => by cases z)) hbx3
          have k7 := hos4 ((by decide : ∀ u ∈ RwL, u ≠ 17) _ ht) hrx4
          have k8 := hos4 (q_dif hbx4 hux3 (fun z => by cases z)) hbx4
          refine T.go 1 (fun n9 => (rfl : _ = exe ξ n9 (d + 2) j_U_copyPlain 90 [(0, .ref 17), (1, J z2), (2, J z3)] [.ref 17] s4)) ?_
          refine T.get rfl rfl rfl hcs4 rfl ?_
          refine T.go 1 (fun n9 => (rfl : _ = exe ξ n9 (d + 2) j_U_copyPlain 94 [(0, .ref 17), (1, J z2), (2, J z3)] [.ref 17, .ref t] s4)) ?_
          refine T.get rfl rfl rfl hcs4 rfl ?_
          refine T.go 1 (fun n9 => (rfl : _ = exe ξ n9 (d + 2) j_U_copyPlain 98 [(0, .ref 17), (1, J z2), (2, J z3)] [.ref 17, .ref s, .ref t] s4)) ?_
          refine T.get rfl rfl rfl hcs4 rfl ?_
          refine T.go 1 (fun n9 => (rfl : _ = exe ξ n9 (d + 2) j_U_copyPlain 102 [(0, .ref 17), (1, J z2), (2, J z3)] [J 3, J (bix3 + (8 * z2)), .ref s, .ref t] s4)) ?_
          refine T.ishr (p := 8) 3 rfl (by decide) (by decide) (by omega) ?_
          refine T.go 1 (fun n9 => (rfl : _ = exe ξ n9 (d + 2) j_U_copyPlain 104 [(0, .ref 17), (1, J z2), (2, J z3)] [J z2, J ((bix3 + (8 * z2)) / 8), .ref s, .ref t] s4)) ?_
          refine T.isub rfl ?_
          refine T.go 1 (fun n9 => (rfl : _ = exe ξ n9 (d + 2) j_U_copyPlain 106 [(0, .ref 17), (1, J z2), (2, J z3)] [J z2, J (((bix3 + (8 * z2)) / 8) - z2), .ref s, .ref t] s4)) ?_
          have hU4 : UL s t s4 := ⟨_, _, _, _, _, _, _, _, hcs4, k5, k6, by omega⟩
          refine T.callv (as := [.ref s, J (((bix3 + (8 * z2)) / 8) - z2), J z2]) (r := []) rfl rfl rfl (RwL_lt _ ht).2.2.1 k7 rfl (s_R_addPart d t s (((bix3 + (8 * z2)) / 8) - z2) z2 s4 hs4.1 ht hs hst (by omega) (by omega)) (fun v3 s5 hqs5 => ?_)
          obtain ⟨z7, rfl, hs5, hzz7, hyz7, pz7_0⟩ := hqs5
          have es5 := hs5
          have hs5 := hs5.sub (w' := [17, t]) (List.forall_mem_cons.mpr ⟨(by simp), (fun _ h => by cases h)⟩)
          have k9 := es5.b.1 _ _ (nm_c ((by decide : ∀ v ∈ RwL, (17 : Nat) ≠ v) _ ht) nm_0) (fun l z => by cases z) hcs4
          have k10 := es5.b.1 _ _ (nm_c hst nm_0) (fun l z => by cases z) k5
          have gs5 := gs4.trans hs5
          have hU5 := UL.row hU4 hs5 pz7_0 hs hst ht
          exact T.iretz rfl rfl (by omega) ⟨_, rfl, gs5, by omega, by omega, hU5⟩
        · refine T.go 1 (fun n9 => (rfl : _ = exe ξ n9 (d + 2) j_U_copyPlain 75 [(0, .ref 17), (1, J z2), (2, J z3)] [J 0] s3)) ?_
          exact T.iretz rfl rfl (by omega) ⟨_, rfl, gs3, by omega, by omega, pz3_0⟩

set_option maxRecDepth 10000 in
set_option maxHeartbeats 4000000 in
theorem s_U_tellLengths {ξ : Nat → Option (Nat × List Int32)} (d : Nat) (s t : Nat) (n : Int) (σ : qH) (hK : K σ)  (hs : s ∈ RwL) (ht : t ∈ RwL) (hst : s ≠ t) (hU : UL s t σ) (rn : -2147483648 ≤ n ∧ n ≤ 2147483647) : T ξ (d + 2) j_U_tellLengths 0 (lv_args 0 [.ref 17, J n]) [] σ (fun v σ' => ∃ z : Int, v = some (J z) ∧ Fr [17, 18] σ σ' ∧ 0 ≤ z ∧ z ≤ 1 ∧ UL s t σ') := by
  have loop15 : ∀ (f : Nat) (k : Int) (i : Int) (τ : qH), Fr [17, 18] σ τ → UL s t τ → 0 ≤ k → n ≤ 320 → 0 ≤ i → i ≤ 2147483647 → (k ≤ n ∨ k = 0) → (n - i).toNat < f → T ξ (d + 2) j_U_tellLengths 15 [(0, .ref 17), (1, J n), (2, J k), (3, J i)] [] τ (fun v σ' => ∃ z : Int, v = some (J z) ∧ Fr [17, 18] σ σ' ∧ 0 ≤ z ∧ z ≤ 1 ∧ UL s t σ') := by
    intro f
    induction f with
    | zero => intro k i τ hτ uτ i0 i1 i2 i3 i4 hm; omega
    | succ f ih =>
      intro k i τ hτ uτ i0 i1 i2 i3 i4 hm
      refine T.go 2 (fun n9 => (rfl : _ = exe ξ n9 (d + 2) j_U_tellLengths 17 [(0, .ref 17), (1, J n), (2, J k), (3, J i)] [J n, J i] τ)) ?_
      refine T.icmp_ge rfl rfl (by omega) (by omega) (fun c1 => ?_) (fun c1 => ?_)
      · refine T.go 2 (fun n9 => (rfl : _ = exe ξ n9 (d + 2) j_U_tellLengths 186 [(0, .ref 17), (1, J n), (2, J k), (3, J i)] [J n, J k] τ)) ?_
        refine T.icmp_ne rfl rfl (by omega) (by omega) (fun c2 => ?_) (fun c2 => ?_)
        · refine T.go 1 (fun n9 => (rfl : _ = exe ξ n9 (d + 2) j_U_tellLengths 194 [(0, .ref 17), (1, J n), (2, J k), (3, J i)] [J 0] τ)) ?_
          exact T.iretz rfl rfl (by omega) ⟨_, rfl, hτ, by omega, by omega, uτ⟩
        · refine T.go 2 (fun n9 => (rfl : _ = exe ξ n9 (d + 2) j_U_tellLengths 194 [(0, .ref 17), (1, J n), (2, J k), (3, J i)] [J 1] τ)) ?_
          exact T.iretz rfl rfl (by omega) ⟨_, rfl, hτ, by omega, by omega, uτ⟩
      · refine T.go 2 (fun n9 => (rfl : _ = exe ξ n9 (d + 2) j_U_tellLengths 22 [(0, .ref 17), (1, J n), (2, J k), (3, J i)] [J n, J k] τ)) ?_
        refine T.icmp_ge rfl rfl (by omega) (by omega) (fun c3 => ?_) (fun c3 => ?_)
        · refine T.go 2 (fun n9 => (rfl : _ = exe ξ n9 (d + 2) j_U_tellLengths 186 [(0, .ref 17), (1, J n), (2, J k), (3, J i)] [J n, J k] τ)) ?_
          refine T.icmp_ne rfl rfl (by omega) (by omega) (fun c4 => ?_) (fun c4 => ?_)
          · refine T.go 1 (fun n9 => (rfl : _ = exe ξ n9 (d + 2) j_U_tellLengths 194 [(0, .ref 17), (1, J n), (2, J k), (3, J i)] [J 0] τ)) ?_
            exact T.iretz rfl rfl (by omega) ⟨_, rfl, hτ, by omega, by omega, uτ⟩
          · refine T.go 2 (fun n9 => (rfl : _ = exe ξ n9 (d + 2) j_U_tellLengths 194 [(0, .ref 17), (1, J n), (2, J k), (3, J i)] [J 1] τ)) ?_
            exact T.iretz rfl rfl (by omega) ⟨_, rfl, hτ, by omega, by omega, uτ⟩
        · refine T.go 2 (fun n9 => (rfl : _ = exe ξ n9 (d + 2) j_U_tellLengths 27 [(0, .ref 17), (1, J n), (2, J k), (3, J i)] [.ref 17, .ref 17] τ)) ?_
          obtain ⟨wx1, bix1, bex1, rox1, mx1, nx1, bx1, lx1, hux1, hrx1, hbx1, ⟨fx1a, fx1b, fx1c, fx1d, fx1e, fx1f, fx1g, fx1h, fx1i, fx1j⟩, ⟨fx1k, fx1l, fx1m, fx1n⟩, fx1o, fx1p⟩ := UL.unf hτ.1 uτ hs
          refine T.get rfl rfl rfl hux1 rfl ?_
          refine T.callv (as := [.ref 19]) (r := []) rfl rfl rfl rfl hux1 rfl (s_U_nextSign (d + 1) s t 19 τ hτ.1 (by decide) hs ht hst uτ ) (fun v1 s1 hqs1 => ?_)
          obtain ⟨z1, rfl, hs1, hzz1, hyz1, pz1_0⟩ := hqs1
          have es1 := hs1
          have hs1 := hs1.sub (w' := [17, 18]) (List.forall_mem_cons.mpr ⟨(by simp), (fun _ h => by cases h)⟩)
          have k1 := es1.b.1 _ _ (nm_c ((by decide : ∀ u ∈ RwL, u ≠ 17) _ hs) nm_0) (fun l z => by cases z) hrx1
          have gs1 := hτ.trans hs1
          refine T.go 2 (fun n9 => (rfl : _ = exe ξ n9 (d + 2) j_U_tellLengths 37 [(0, .ref 17), (1, J n), (2, J k), (3, J i), (4, J z1)] [J z1] s1)) ?_
          refine T.if_lt rfl rfl (by omega) (fun c5 => ?_) (fun c5 => ?_)
          · refine T.go 1 (fun n9 => (rfl : _ = exe ξ n9 (d + 2) j_U_tellLengths 52 [(0, .ref 17), (1, J n), (2, J k), (3, J i), (4, J z1)] [J 0] s1)) ?_
            exact T.iretz rfl rfl (by omega) ⟨_, rfl, gs1, by omega, by omega, pz1_0⟩
          · refine T.go 2 (fun n9 => (rfl : _ = exe ξ n9 (d + 2) j_U_tellLengths 44 [(0, .ref 17), (1, J n), (2, J k), (3, J i), (4, J z1)] [J 16, J z1] s1)) ?_
            refine T.icmp_ne rfl rfl (by omega) (by omega) (fun c6 => ?_) (fun c6 => ?_)
            · refine T.go 2 (fun n9 => (rfl : _ = exe ξ n9 (d + 2) j_U_tellLengths 57 [(0, .ref 17), (1, J n), (2, J k), (3, J i), (4, J z1)] [J 16, J z1] s1)) ?_
              refine T.icmp_ge rfl rfl (by omega) (by omega) (fun c7 => ?_) (fun c7 => ?_)
              · refine T.go 2 (fun n9 => (rfl : _ = exe ξ n9 (d + 2) j_U_tellLengths 69 [(0, .ref 17), (1, J n), (2, J k), (3, J i), (4, J z1)] [J 16, J z1] s1)) ?_
                refine T.icmp_ne rfl rfl (by omega) (by omega) (fun c8 => ?_) (fun c8 => ?_)
                · refine T.go 4 (fun n9 => (rfl : _ = exe ξ n9 (d + 2) j_U_tellLengths 90 [(0, .ref 17), (1, J n), (2, J k), (3, J i), (4, J z1), (5, J 0)] [J 16, J z1] s1)) ?_
                  refine T.icmp_ge rfl rfl (by omega) (by omega) (fun c9 => ?_) (fun c9 => ?_)
                  · refine T.go 2 (fun n9 => (rfl : _ = exe ξ n9 (d + 2) j_U_tellLengths 101 [(0, .ref 17), (1, J n), (2, J k), (3, J i), (4, J z1), (5, J 0)] [J 16, J z1] s1)) ?_
                    refine T.icmp_ne rfl rfl (by omega) (by omega) (fun c10 => ?_) (fun c10 => ?_)
                    · refine T.go 2 (fun n9 => (rfl : _ = exe ξ n9 (d + 2) j_U_tellLengths 118 [(0, .ref 17), (1, J n), (2, J k), (3, J i), (4, J z1), (5, J 0)] [J 17, J z1] s1)) ?_
                      refine T.icmp_ne rfl rfl (by omega) (by omega) (fun c11 => ?_) (fun c11 => ?_)
                      · refine T.go 3 (fun n9 => (rfl : _ = exe ξ n9 (d + 2) j_U_tellLengths 136 [(0, .ref 17), (1, J n), (2, J k), (3, J i), (4, J z1), (5, J 0)] [J 7, .ref 17, J 11] s1)) ?_
                        obtain ⟨wx2, bix2, bex2, rox2, mx2, nx2, bx2, lx2, hux2, hrx2, hbx2, ⟨fx2a, fx2b, fx2c, fx2d, fx2e, fx2f, fx2g, fx2h, fx2i, fx2j⟩, ⟨fx2k, fx2l, fx2m, fx2n⟩, fx2o, fx2p⟩ := UL.unf hs1.1 pz1_0 hs
                        refine T.callv (as := [J 7]) (r := [J 11]) rfl rfl rfl rfl hux2 rfl (s_U_takeBits (d + 1) s t 7 s1 hs1.1  hs ht hst pz1_0 (by omega)) (fun v2 s2 hqs2 => ?_)
                        obtain ⟨z2, rfl, hs2, hzz2, hyz2, pz2_0, pz2_1⟩ := hqs2
                        have es2 := hs2
                        have hs2 := hs2.sub (w' := [17, 18]) (List.forall_mem_cons.mpr ⟨(by simp), (fun _ h => by cases h)⟩)
                        have k2 := es2.b.1 _ _ (nm_c ((by decide : ∀ u ∈ RwL, u ≠ 17) _ hs) nm_0) (fun l z => by cases z) hrx2
                        have gs2 := gs1.trans hs2
                        refine T.iadd rfl ?_
                        refine T.go 2 (fun n9 => (rfl : _ = exe ξ n9 (d + 2) j_U_tellLengths 143 [(0, .ref 17), (1, J n), (2, J k), (3, J i), (4, J z1), (5, J 0), (6, J (11 + z2))] [.ref 17] s2)) ?_
                        obtain ⟨wx3, bix3, bex3, rox3, mx3, nx3, bx3, lx3, hux3, hrx3, hbx3, ⟨fx3a, fx3b, fx3c, fx3d, fx3e, fx3f, fx3g, fx3h, fx3i, fx3j⟩, ⟨fx3k, fx3l, fx3m, fx3n⟩, fx3o, fx3p⟩ := UL.unf hs2.1 pz2_0 hs
                        refine T.get rfl rfl rfl hux3 rfl ?_
                        refine T.if_ne rfl rfl (by omega) (fun c12 => ?_) (fun c12 => ?_)
                        · refine T.go 1 (fun n9 => (rfl : _ = exe ξ n9 (d + 2) j_U_tellLengths 158 [(0, .ref 17), (1, J n), (2, J k), (3, J i), (4, J z1), (5, J 0), (6, J (11 + z2))] [J 0] s2)) ?_
                          exact T.iretz rfl rfl (by omega) ⟨_, rfl, gs2, by omega, by omega, pz2_0⟩
                        · refine T.go 3 (fun n9 => (rfl : _ = exe ξ n9 (d + 2) j_U_tellLengths 153 [(0, .ref 17), (1, J n), (2, J k), (3, J i), (4, J z1), (5, J 0), (6, J (11 + z2))] [J k, J n, J (11 + z2)] s2)) ?_
                          refine T.isub rfl ?_
                          refine T.icmp_le rfl rfl (by omega) (by omega) (fun c13 => ?_) (fun c13 => ?_)
                          · refine T.go 1 (fun n9 => (rfl : _ = exe ξ n9 (d + 2) j_U_tellLengths 160 [(0, .ref 17), (1, J n), (2, J k), (3, J i), (4, J z1), (5, J 0), (6, J (11 + z2))] [.ref 17] s2)) ?_
                            refine T.get rfl rfl rfl hux3 rfl ?_
                            refine T.go 3 (fun n9 => (rfl : _ = exe ξ n9 (d + 2) j_U_tellLengths 167 [(0, .ref 17), (1, J n), (2, J k), (3, J i), (4, J z1), (5, J 0), (6, J (11 + z2))] [J (11 + z2), J k, J k, .ref 18] s2)) ?_
                            refine T.iadd rfl ?_
                            refine T.go 1 (fun n9 => (rfl : _ = exe ξ n9 (d + 2) j_U_tellLengths 170 [(0, .ref 17), (1, J n), (2, J k), (3, J i), (4, J z1), (5, J 0), (6, J (11 + z2))] [J 0, J (k + (11 + z2)), J k, .ref 18] s2)) ?_
                            refine T.calls (as := [.ref 18, J k, J (k + (11 + z2)), J 0]) (r := []) rfl rfl (by decide) rfl rfl (s_J_fill d 18 k (k + (11 + z2)) 0 s2 hs2.1 kdX_18 (by decide) rfl (by decide) (Or.inl (by decide)) (by omega)) (fun v3 s3 hqs3 => ?_)
                            obtain ⟨rfl, hs3, pz3_0⟩ := hqs3
                            have es3 := hs3
                            have hs3 := hs3.sub (w' := [17, 18]) (List.forall_mem_cons.mpr ⟨(by simp), (fun _ h => by cases h)⟩)
                            have k3 := es3.b.1 _ _ (nm_c ((by decide : ∀ u ∈ RwL, u ≠ 18) _ hs) nm_0) (fun l z => by cases z) hrx3
                            have k4 := es3.b.1 _ _ (nm_c (by decide) nm_0) (fun l z => by cases z) hux3
                            have gs3 := gs2.trans hs3
                            have hU3 := UL.ints pz2_0 pz3_0
                            refine T.go 2 (fun n9 => (rfl : _ = exe ξ n9 (d + 2) j_U_tellLengths 176 [(0, .ref 17), (1, J n), (2, J k), (3, J i), (4, J z1), (5, J 0), (6, J (11 + z2))] [J (11 + z2), J k] s3)) ?_
                            refine T.iadd rfl ?_
                            refine T.go 1 (fun n9 => (rfl : _ = exe ξ n9 (d + 2) j_U_tellLengths 178 [(0, .ref 17), (1, J n), (2, J (k + (11 + z2))), (3, J i), (4, J z1), (5, J 0), (6, J (11 + z2))] [] s3)) ?_
                            refine T.iinc (lv' := [(0, .ref 17), (1, J n), (2, J (k + (11 + z2))), (3, J (i + 1)), (4, J z1), (5, J 0), (6, J (11 + z2))]) rfl rfl rfl rfl ?_
                            refine T.go 1 (fun n9 => (rfl : _ = exe ξ n9 (d + 2) j_U_tellLengths 15 [(0, .ref 17), (1, J n), (2, J (k + (11 + z2))), (3, J (i + 1)), (4, J z1), (5, J 0), (6, J (11 + z2))] [] s3)) ?_
                            refine T.drop (lv := [(0, .ref 17), (1, J n), (2, J (k + (11 + z2))), (3, J (i + 1))]) [(4, J z1), (5, J 0), (6, J (11 + z2))] (by simp) ?_
                            exact ih  (k + (11 + z2)) (i + 1) s3 gs3 hU3 (by omega) (by omega) (by omega) (by omega) (by omega) (by omega)
                          · refine T.go 1 (fun n9 => (rfl : _ = exe ξ n9 (d + 2) j_U_tellLengths 158 [(0, .ref 17), (1, J n), (2, J k), (3, J i), (4, J z1), (5, J 0), (6, J (11 + z2))] [J 0] s2)) ?_
                            exact T.iretz rfl rfl (by omega) ⟨_, rfl, gs2, by omega, by omega, pz2_0⟩
                      · refine T.go 3 (fun n9 => (rfl : _ = exe ξ n9 (d + 2) j_U_tellLengths 124 [(0, .ref 17), (1, J n), (2, J k), (3, J i), (4, J z1), (5, J 0)] [J 3, .ref 17, J 3] s1)) ?_
                        obtain ⟨wx4, bix4, bex4, rox4, mx4, nx4, bx4, lx4, hux4, hrx4, hbx4, ⟨fx4a, fx4b, fx4c, fx4d, fx4e, fx4f, fx4g, fx4h, fx4i, fx4j⟩, ⟨fx4k, fx4l, fx4m, fx4n⟩, fx4o, fx4p⟩ := UL.unf hs1.1 pz1_0 hs
                        refine T.callv (as := [J 3]) (r := [J 3]) rfl rfl rfl rfl hux4 rfl (s_U_takeBits (d + 1) s t 3 s1 hs1.1  hs ht hst pz1_0 (by omega)) (fun v4 s4 hqs4 => ?_)
                        obtain ⟨z4, rfl, hs4, hzz4, hyz4, pz4_0, pz4_1⟩ := hqs4
                        have es4 := hs4
                        have hs4 := hs4.sub (w' := [17, 18]) (List.forall_mem_cons.mpr ⟨(by simp), (fun _ h => by cases h)⟩)
                        have k5 := es4.b.1 _ _ (nm_c ((by decide : ∀ u ∈ RwL, u ≠ 17) _ hs) nm_0) (fun l z => by cases z) hrx4
                        have gs4 := gs1.trans hs4
                        refine T.iadd rfl ?_
                        refine T.go 3 (fun n9 => (rfl : _ = exe ξ n9 (d + 2) j_U_tellLengths 143 [(0, .ref 17), (1, J n), (2, J k), (3, J i), (4, J z1), (5, J 0), (6, J (3 + z4))] [.ref 17] s4)) ?_
                        obtain ⟨wx5, bix5, bex5, rox5, mx5, nx5, bx5, lx5, hux5, hrx5, hbx5, ⟨fx5a, fx5b, fx5c, fx5d, fx5e, fx5f, fx5g, fx5h, fx5i, fx5j⟩, ⟨fx5k, fx5l, fx5m, fx5n⟩, fx5o, fx5p⟩ := UL.unf hs4.1 pz4_0 hs
                        refine T.get rfl rfl rfl hux5 rfl ?_
                        refine T.if_ne rfl rfl (by omega) (fun c14 => ?_) (fun c14 => ?_)
                        · refine T.go 1 (fun n9 => (rfl : _ = exe ξ n9 (d + 2) j_U_tellLengths 158 [(0, .ref 17), (1, J n), (2, J k), (3, J i), (4, J z1), (5, J 0), (6, J (3 + z4))] [J 0] s4)) ?_
                          exact T.iretz rfl rfl (by omega) ⟨_, rfl, gs4, by omega, by omega, pz4_0⟩
                        · refine T.go 3 (fun n9 => (rfl : _ = exe ξ n9 (d + 2) j_U_tellLengths 153 [(0, .ref 17), (1, J n), (2, J k), (3, J i), (4, J z1), (5, J 0), (6, J (3 + z4))] [J k, J n, J (3 + z4)] s4)) ?_
                          refine T.isub rfl ?_
                          refine T.icmp_le rfl rfl (by omega) (by omega) (fun c15 => ?_) (fun c15 => ?_)
                          · refine T.go 1 (fun n9 => (rfl : _ = exe ξ n9 (d + 2) j_U_tellLengths 160 [(0, .ref 17), (1, J n), (2, J k), (3, J i), (4, J z1), (5, J 0), (6, J (3 + z4))] [.ref 17] s4)) ?_
                            refine T.get rfl rfl rfl hux5 rfl ?_
                            refine T.go 3 (fun n9 => (rfl : _ = exe ξ n9 (d + 2) j_U_tellLengths 167 [(0, .ref 17), (1, J n), (2, J k), (3, J i), (4, J z1), (5, J 0), (6, J (3 + z4))] [J (3 + z4), J k, J k, .ref 18] s4)) ?_
                            refine T.iadd rfl ?_
                            refine T.go 1 (fun n9 => (rfl : _ = exe ξ n9 (d + 2) j_U_tellLengths 170 [(0, .ref 17), (1, J n), (2, J k), (3, J i), (4, J z1), (5, J 0), (6, J (3 + z4))] [J 0, J (k + (3 + z4)), J k, .ref 18] s4)) ?_
                            refine T.calls (as := [.ref 18, J k, J (k + (3 + z4)), J 0]) (r := []) rfl rfl (by decide) rfl rfl (s_J_fill d 18 k (k + (3 + z4)) 0 s4 hs4.1 kdX_18 (by decide) rfl (by decide) (Or.inl (by decide)) (by omega)) (fun v5 s5 hqs5 => ?_)
                            obtain ⟨rfl, hs5, pz5_0⟩ := hqs5
                            have es5 := hs5
                            have hs5 := hs5.sub (w' := [17, 18]) (List.forall_mem_cons.mpr ⟨(by simp), (fun _ h => by cases h)⟩)
                            have k6 := es5.b.1 _ _ (nm_c ((by decide : ∀ u ∈ RwL, u ≠ 18) _ hs) nm_0) (fun l z => by cases z) hrx5
                            have k7 := es5.b.1 _ _ (nm_c (by decide) nm_0) (fun l z => by cases z) hux5
                            have gs5 := gs4.trans hs5
                            have hU5 := UL.ints pz4_0 pz5_0
                            refine T.go 2 (fun n9 => (rfl : _ = exe ξ n9 (d + 2) j_U_tellLengths 176 [(0, .ref 17), (1, J n), (2, J k), (3, J i), (4, J z1), (5, J 0), (6, J (3 + z4))] [J (3 + z4), J k] s5)) ?_
                            refine T.iadd rfl ?_
                            refine T.go 1 (fun n9 => (rfl : _ = exe ξ n9 (d + 2) j_U_tellLengths 178 [(0, .ref 17), (1, J n), (2, J (k + (3 + z4))), (3, J i), (4, J z1), (5, J 0), (6, J (3 + z4))] [] s5)) ?_
                            refine T.iinc (lv' := [(0, .ref 17), (1, J n), (2, J (k + (3 + z4))), (3, J (i + 1)), (4, J z1), (5, J 0), (6, J (3 + z4))]) rfl rfl rfl rfl ?_
                            refine T.go 1 (fun n9 => (rfl : _ = exe ξ n9 (d + 2) j_U_tellLengths 15 [(0, .ref 17), (1, J n), (2, J (k + (3 + z4))), (3, J (i + 1)), (4, J z1), (5, J 0), (6, J (3 + z4))] [] s5)) ?_
                            refine T.drop (lv := [(0, .ref 17), (1, J n), (2, J (k + (3 + z4))), (3, J (i + 1))]) [(4, J z1), (5, J 0), (6, J (3 + z4))] (by simp) ?_
                            exact ih  (k + (3 + z4)) (i + 1) s5 gs5 hU5 (by omega) (by omega) (by omega) (by omega) (by omega) (by omega)
                          · refine T.go 1 (fun n9 => (rfl : _ = exe ξ n9 (d + 2) j_U_tellLengths 158 [(0, .ref 17), (1, J n), (2, J k), (3, J i), (4, J z1), (5, J 0), (6, J (3 + z4))] [J 0] s4)) ?_
                            exact T.iretz rfl rfl (by omega) ⟨_, rfl, gs4, by omega, by omega, pz4_0⟩
                    · refine T.go 3 (fun n9 => (rfl : _ = exe ξ n9 (d + 2) j_U_tellLengths 107 [(0, .ref 17), (1, J n), (2, J k), (3, J i), (4, J z1), (5, J 0)] [J 2, .ref 17, J 3] s1)) ?_
                      obtain ⟨wx6, bix6, bex6, rox6, mx6, nx6, bx6, lx6, hux6, hrx6, hbx6, ⟨fx6a, fx6b, fx6c, fx6d, fx6e, fx6f, fx6g, fx6h, fx6i, fx6j⟩, ⟨fx6k, fx6l, fx6m, fx6n⟩, fx6o, fx6p⟩ := UL.unf hs1.1 pz1_0 hs
                      refine T.callv (as := [J 2]) (r := [J 3]) rfl rfl rfl rfl hux6 rfl (s_U_takeBits (d + 1) s t 2 s1 hs1.1  hs ht hst pz1_0 (by omega)) (fun v6 s6 hqs6 => ?_)
                      obtain ⟨z6, rfl, hs6, hzz6, hyz6, pz6_0, pz6_1⟩ := hqs6
                      have es6 := hs6
                      have hs6 := hs6.sub (w' := [17, 18]) (List.forall_mem_cons.mpr ⟨(by simp), (fun _ h => by cases h)⟩)
                      have k8 := es6.b.1 _ _ (nm_c ((by decide : ∀ u ∈ RwL, u ≠ 17) _ hs) nm_0) (fun l z => by cases z) hrx6
                      have gs6 := gs1.trans hs6
                      refine T.iadd rfl ?_
                      refine T.go 3 (fun n9 => (rfl : _ = exe ξ n9 (d + 2) j_U_tellLengths 143 [(0, .ref 17), (1, J n), (2, J k), (3, J i), (4, J z1), (5, J 0), (6, J (3 + z6))] [.ref 17] s6)) ?_
                      obtain ⟨wx7, bix7, bex7, rox7, mx7, nx7, bx7, lx7, hux7, hrx7, hbx7, ⟨fx7a, fx7b, fx7c, fx7d, fx7e, fx7f, fx7g, fx7h, fx7i, fx7j⟩, ⟨fx7k, fx7l, fx7m, fx7n⟩, fx7o, fx7p⟩ := UL.unf hs6.1 pz6_0 hs
                      refine T.get rfl rfl rfl hux7 rfl ?_
                      refine T.if_ne rfl rfl (by omega) (fun c16 => ?_) (fun c16 => ?_)
                      · refine T.go 1 (fun n9 => (rfl : _ = exe ξ n9 (d + 2) j_U_tellLengths 158 [(0, .ref 17), (1, J n), (2, J k), (3, J i), (4, J z1), (5, J 0), (6, J (3 + z6))] [J 0] s6)) ?_
                        exact T.iretz rfl rfl (by omega) ⟨_, rfl, gs6, by omega, by omega, pz6_0⟩
                      · refine T.go 3 (fun n9 => (rfl : _ = exe ξ n9 (d + 2) j_U_tellLengths 153 [(0, .ref 17), (1, J n), (2, J k), (3, J i), (4, J z1), (5, J 0), (6, J (3 + z6))] [J k, J n, J (3 + z6)] s6)) ?_
                        refine T.isub rfl ?_
                        refine T.icmp_le rfl rfl (by omega) (by omega) (fun c17 => ?_) (fun c17 => ?_)
                        · refine T.go 1 (fun n9 => (rfl : _ = exe ξ n9 (d + 2) j_U_tellLengths 160 [(0, .ref 17), (1, J n), (2, J k), (3, J i), (4, J z1), (5, J 0), (6, J (3 + z6))] [.ref 17] s6)) ?_
                          refine T.get rfl rfl rfl hux7 rfl ?_
                          refine T.go 3 (fun n9 => (rfl : _ = exe ξ n9 (d + 2) j_U_tellLengths 167 [(0, .ref 17), (1, J n), (2, J k), (3, J i), (4, J z1), (5, J 0), (6, J (3 + z6))] [J (3 + z6), J k, J k, .ref 18] s6)) ?_
                          refine T.iadd rfl ?_
                          refine T.go 1 (fun n9 => (rfl : _ = exe ξ n9 (d + 2) j_U_tellLengths 170 [(0, .ref 17), (1, J n), (2, J k), (3, J i), (4, J z1), (5, J 0), (6, J (3 + z6))] [J 0, J (k + (3 + z6)), J k, .ref 18] s6)) ?_
                          refine T.calls (as := [.ref 18, J k, J (k + (3 + z6)), J 0]) (r := []) rfl rfl (by decide) rfl rfl (s_J_fill d 18 k (k + (3 + z6)) 0 s6 hs6.1 kdX_18 (by decide) rfl (by decide) (Or.inl (by decide)) (by omega)) (fun v7 s7 hqs7 => ?_)
                          obtain ⟨rfl, hs7, pz7_0⟩ := hqs7
                          have es7 := hs7
                          have hs7 := hs7.sub (w' := [17, 18]) (List.forall_mem_cons.mpr ⟨(by simp), (fun _ h => by cases h)⟩)
                          have k9 := es7.b.1 _ _ (nm_c ((by decide : ∀ u ∈ RwL, u ≠ 18) _ hs) nm_0) (fun l z => by cases z) hrx7
                          have k10 := es7.b.1 _ _ (nm_c (by decide) nm_0) (fun l z => by cases z) hux7
                          have gs7 := gs6.trans hs7
                          have hU7 := UL.ints pz6_0 pz7_0
                          refine T.go 2 (fun n9 => (rfl : _ = exe ξ n9 (d + 2) j_U_tellLengths 176 [(0, .ref 17), (1, J n), (2, J k), (3, J i), (4, J z1), (5, J 0), (6, J (3 + z6))] [J (3 + z6), J k] s7)) ?_
                          refine T.iadd rfl ?_
                          refine T.go 1 (fun n9 => (rfl : _ = exe ξ n9 (d + 2) j_U_tellLengths 178 [(0, .ref 17), (1, J n), (2, J (k + (3 + z6))), (3, J i), (4, J z1), (5, J 0), (6, J (3 + z6))] [] s7)) ?_
                          refine T.iinc (lv' := [(0, .ref 17), (1, J n), (2, J (k + (3 + z6))), (3, J (i + 1)), (4, J z1), (5, J 0), (6, J (3 + z6))]) rfl rfl rfl rfl ?_
                          refine T.go 1 (fun n9 => (rfl : _ = exe ξ n9 (d + 2) j_U_tellLengths 15 [(0, .ref 17), (1, J n), (2, J (k + (3 + z6))), (3, J (i + 1)), (4, J z1), (5, J 0), (6, J (3 + z6))] [] s7)) ?_
                          refine T.drop (lv := [(0, .ref 17), (1, J n), (2, J (k + (3 + z6))), (3, J (i + 1))]) [(4, J z1), (5, J 0), (6, J (3 + z6))] (by simp) ?_
                          exact ih  (k + (3 + z6)) (i + 1) s7 gs7 hU7 (by omega) (by omega) (by omega) (by omega) (by omega) (by omega)
                        · refine T.go 1 (fun n9 => (rfl : _ = exe ξ n9 (d + 2) j_U_tellLengths 158 [(0, .ref 17), (1, J n), (2, J k), (3, J i), (4, J z1), (5, J 0), (6, J (3 + z6))] [J 0] s6)) ?_
                          exact T.iretz rfl rfl (by omega) ⟨_, rfl, gs6, by omega, by omega, pz6_0⟩
                  · refine T.go 4 (fun n9 => (rfl : _ = exe ξ n9 (d + 2) j_U_tellLengths 143 [(0, .ref 17), (1, J n), (2, J k), (3, J i), (4, J z1), (5, J 0), (6, J 1)] [.ref 17] s1)) ?_
                    obtain ⟨wx8, bix8, bex8, rox8, mx8, nx8, bx8, lx8, hux8, hrx8, hbx8, ⟨fx8a, fx8b, fx8c, fx8d, fx8e, fx8f, fx8g, fx8h, fx8i, fx8j⟩, ⟨fx8k, fx8l, fx8m, fx8n⟩, fx8o, fx8p⟩ := UL.unf hs1.1 pz1_0 hs
                    refine T.get rfl rfl rfl hux8 rfl ?_
                    refine T.if_ne rfl rfl (by omega) (fun c18 => ?_) (fun c18 => ?_)
                    · refine T.go 1 (fun n9 => (rfl : _ = exe ξ n9 (d + 2) j_U_tellLengths 158 [(0, .ref 17), (1, J n), (2, J k), (3, J i), (4, J z1), (5, J 0), (6, J 1)] [J 0] s1)) ?_
                      exact T.iretz rfl rfl (by omega) ⟨_, rfl, gs1, by omega, by omega, pz1_0⟩
                    · refine T.go 3 (fun n9 => (rfl : _ = exe ξ n9 (d + 2) j_U_tellLengths 153 [(0, .ref 17), (1, J n), (2, J k), (3, J i), (4, J z1), (5, J 0), (6, J 1)] [J k, J n, J 1] s1)) ?_
                      refine T.isub rfl ?_
                      refine T.icmp_le rfl rfl (by omega) (by omega) (fun c19 => ?_) (fun c19 => ?_)
                      · refine T.go 1 (fun n9 => (rfl : _ = exe ξ n9 (d + 2) j_U_tellLengths 160 [(0, .ref 17), (1, J n), (2, J k), (3, J i), (4, J z1), (5, J 0), (6, J 1)] [.ref 17] s1)) ?_
                        refine T.get rfl rfl rfl hux8 rfl ?_
                        refine T.go 3 (fun n9 => (rfl : _ = exe ξ n9 (d + 2) j_U_tellLengths 167 [(0, .ref 17), (1, J n), (2, J k), (3, J i), (4, J z1), (5, J 0), (6, J 1)] [J 1, J k, J k, .ref 18] s1)) ?_
                        refine T.iadd rfl ?_
                        refine T.go 1 (fun n9 => (rfl : _ = exe ξ n9 (d + 2) j_U_tellLengths 170 [(0, .ref 17), (1, J n), (2, J k), (3, J i), (4, J z1), (5, J 0), (6, J 1)] [J 0, J (k + 1), J k, .ref 18] s1)) ?_
                        refine T.calls (as := [.ref 18, J k, J (k + 1), J 0]) (r := []) rfl rfl (by decide) rfl rfl (s_J_fill d 18 k (k + 1) 0 s1 hs1.1 kdX_18 (by decide) rfl (by decide) (Or.inl (by decide)) (by omega)) (fun v8 s8 hqs8 => ?_)
                        obtain ⟨rfl, hs8, pz8_0⟩ := hqs8
                        have es8 := hs8
                        have hs8 := hs8.sub (w' := [17, 18]) (List.forall_mem_cons.mpr ⟨(by simp), (fun _ h => by cases h)⟩)
                        have k11 := es8.b.1 _ _ (nm_c ((by decide : ∀ u ∈ RwL, u ≠ 18) _ hs) nm_0) (fun l z => by cases z) hrx8
                        have k12 := es8.b.1 _ _ (nm_c (by decide) nm_0) (fun l z => by cases z) hux8
                        have gs8 := gs1.trans hs8
                        have hU8 := UL.ints pz1_0 pz8_0
                        refine T.go 2 (fun n9 => (rfl : _ = exe ξ n9 (d + 2) j_U_tellLengths 176 [(0, .ref 17), (1, J n), (2, J k), (3, J i), (4, J z1), (5, J 0), (6, J 1)] [J 1, J k] s8)) ?_
                        refine T.iadd rfl ?_
                        refine T.go 1 (fun n9 => (rfl : _ = exe ξ n9 (d + 2) j_U_tellLengths 178 [(0, .ref 17), (1, J n), (2, J (k + 1)), (3, J i), (4, J z1), (5, J 0), (6, J 1)] [] s8)) ?_
                        refine T.iinc (lv' := [(0, .ref 17), (1, J n), (2, J (k + 1)), (3, J (i + 1)), (4, J z1), (5, J 0), (6, J 1)]) rfl rfl rfl rfl ?_
                        refine T.go 1 (fun n9 => (rfl : _ = exe ξ n9 (d + 2) j_U_tellLengths 15 [(0, .ref 17), (1, J n), (2, J (k + 1)), (3, J (i + 1)), (4, J z1), (5, J 0), (6, J 1)] [] s8)) ?_
                        refine T.drop (lv := [(0, .ref 17), (1, J n), (2, J (k + 1)), (3, J (i + 1))]) [(4, J z1), (5, J 0), (6, J 1)] (by simp) ?_
                        exact ih  (k + 1) (i + 1) s8 gs8 hU8 (by omega) (by omega) (by omega) (by omega) (by omega) (by omega)
                      · refine T.go 1 (fun n9 => (rfl : _ = exe ξ n9 (d + 2) j_U_tellLengths 158 [(0, .ref 17), (1, J n), (2, J k), (3, J i), (4, J z1), (5, J 0), (6, J 1)] [J 0] s1)) ?_
                        exact T.iretz rfl rfl (by omega) ⟨_, rfl, gs1, by omega, by omega, pz1_0⟩
                · refine T.go 1 (fun n9 => (rfl : _ = exe ξ n9 (d + 2) j_U_tellLengths 73 [(0, .ref 17), (1, J n), (2, J k), (3, J i), (4, J z1)] [.ref 17] s1)) ?_
                  obtain ⟨wx9, bix9, bex9, rox9, mx9, nx9, bx9, lx9, hux9, hrx9, hbx9, ⟨fx9a, fx9b, fx9c, fx9d, fx9e, fx9f, fx9g, fx9h, fx9i, fx9j⟩, ⟨fx9k, fx9l, fx9m, fx9n⟩, fx9o, fx9p⟩ := UL.unf hs1.1 pz1_0 hs
                  refine T.get rfl rfl rfl hux9 rfl ?_
                  refine T.go 2 (fun n9 => (rfl : _ = exe ξ n9 (d + 2) j_U_tellLengths 78 [(0, .ref 17), (1, J n), (2, J k), (3, J i), (4, J z1)] [J 1, J k, .ref 18] s1)) ?_
                  refine T.isub rfl ?_
                  obtain ⟨lx10, hix10, elx10⟩ := hs1.1.ints kdX_18
                  refine T.iald rfl rfl hix10 (by omega) (fun z9 hzz9 hyz9 hez9 => ?_)
                  refine T.go 4 (fun n9 => (rfl : _ = exe ξ n9 (d + 2) j_U_tellLengths 90 [(0, .ref 17), (1, J n), (2, J k), (3, J i), (4, J z1), (5, J z9)] [J 16, J z1] s1)) ?_
                  refine T.icmp_ge rfl rfl (by omega) (by omega) (fun c20 => ?_) (fun c20 => ?_)
                  · refine T.go 2 (fun n9 => (rfl : _ = exe ξ n9 (d + 2) j_U_tellLengths 101 [(0, .ref 17), (1, J n), (2, J k), (3, J i), (4, J z1), (5, J z9)] [J 16, J z1] s1)) ?_
                    refine T.icmp_ne rfl rfl (by omega) (by omega) (fun c21 => ?_) (fun c21 => ?_)
                    · refine T.go 2 (fun n9 => (rfl : _ = exe ξ n9 (d + 2) j_U_tellLengths 118 [(0, .ref 17), (1, J n), (2, J k), (3, J i), (4, J z1), (5, J z9)] [J 17, J z1] s1)) ?_
                      refine T.icmp_ne rfl rfl (by omega) (by omega) (fun c22 => ?_) (fun c22 => ?_)
                      · refine T.go 3 (fun n9 => (rfl : _ = exe ξ n9 (d + 2) j_U_tellLengths 136 [(0, .ref 17), (1, J n), (2, J k), (3, J i), (4, J z1), (5, J z9)] [J 7, .ref 17, J 11] s1)) ?_
                        refine T.callv (as := [J 7]) (r := [J 11]) rfl rfl rfl rfl hux9 rfl (s_U_takeBits (d + 1) s t 7 s1 hs1.1  hs ht hst pz1_0 (by omega)) (fun v9 s9 hqs9 => ?_)
                        obtain ⟨z10, rfl, hs9, hzz10, hyz10, pz10_0, pz10_1⟩ := hqs9
                        have es9 := hs9
                        have hs9 := hs9.sub (w' := [17, 18]) (List.forall_mem_cons.mpr ⟨(by simp), (fun _ h => by cases h)⟩)
                        have k13 := es9.b.1 _ _ (nm_c ((by decide : ∀ u ∈ RwL, u ≠ 17) _ hs) nm_0) (fun l z => by cases z) hrx9
                        have k14 := es9.b.1 _ _ (nm_c (by decide) nm_0) (fun l z => by cases z) hix10
                        have gs9 := gs1.trans hs9
                        refine T.iadd rfl ?_
                        refine T.go 2 (fun n9 => (rfl : _ = exe ξ n9 (d + 2) j_U_tellLengths 143 [(0, .ref 17), (1, J n), (2, J k), (3, J i), (4, J z1), (5, J z9), (6, J (11 + z10))] [.ref 17] s9)) ?_
                        obtain ⟨wx11, bix11, bex11, rox11, mx11, nx11, bx11, lx11, hux11, hrx11, hbx11, ⟨fx11a, fx11b, fx11c, fx11d, fx11e, fx11f, fx11g, fx11h, fx11i, fx11j⟩, ⟨fx11k, fx11l, fx11m, fx11n⟩, fx11o, fx11p⟩ := UL.unf hs9.1 pz10_0 hs
                        refine T.get rfl rfl rfl hux11 rfl ?_
                        refine T.if_ne rfl rfl (by omega) (fun c23 => ?_) (fun c23 => ?_)
                        · refine T.go 1 (fun n9 => (rfl : _ = exe ξ n9 (d + 2) j_U_tellLengths 158 [(0, .ref 17), (1, J n), (2, J k), (3, J i), (4, J z1), (5, J z9), (6, J (11 + z10))] [J 0] s9)) ?_
                          exact T.iretz rfl rfl (by omega) ⟨_, rfl, gs9, by omega, by omega, pz10_0⟩
                        · refine T.go 3 (fun n9 => (rfl : _ = exe ξ n9 (d + 2) j_U_tellLengths 153 [(0, .ref 17), (1, J n), (2, J k), (3, J i), (4, J z1), (5, J z9), (6, J (11 + z10))] [J k, J n, J (11 + z10)] s9)) ?_
                          refine T.isub rfl ?_
                          refine T.icmp_le rfl rfl (by omega) (by omega) (fun c24 => ?_) (fun c24 => ?_)
                          · refine T.go 1 (fun n9 => (rfl : _ = exe ξ n9 (d + 2) j_U_tellLengths 160 [(0, .ref 17), (1, J n), (2, J k), (3, J i), (4, J z1), (5, J z9), (6, J (11 + z10))] [.ref 17] s9)) ?_
                            refine T.get rfl rfl rfl hux11 rfl ?_
                            refine T.go 3 (fun n9 => (rfl : _ = exe ξ n9 (d + 2) j_U_tellLengths 167 [(0, .ref 17), (1, J n), (2, J k), (3, J i), (4, J z1), (5, J z9), (6, J (11 + z10))] [J (11 + z10), J k, J k, .ref 18] s9)) ?_
                            refine T.iadd rfl ?_
                            refine T.go 1 (fun n9 => (rfl : _ = exe ξ n9 (d + 2) j_U_tellLengths 170 [(0, .ref 17), (1, J n), (2, J k), (3, J i), (4, J z1), (5, J z9), (6, J (11 + z10))] [J z9, J (k + (11 + z10)), J k, .ref 18] s9)) ?_
                            refine T.calls (as := [.ref 18, J k, J (k + (11 + z10)), J z9]) (r := []) rfl rfl (by decide) rfl rfl (s_J_fill d 18 k (k + (11 + z10)) z9 s9 hs9.1 kdX_18 (by decide) rfl (by decide) (Or.inl (by decide)) (by omega)) (fun v10 s10 hqs10 => ?_)
                            obtain ⟨rfl, hs10, pz11_0⟩ := hqs10
                            have es10 := hs10
                            have hs10 := hs10.sub (w' := [17, 18]) (List.forall_mem_cons.mpr ⟨(by simp), (fun _ h => by cases h)⟩)
                            have k15 := es10.b.1 _ _ (nm_c ((by decide : ∀ u ∈ RwL, u ≠ 18) _ hs) nm_0) (fun l z => by cases z) hrx11
                            have k16 := es10.b.1 _ _ (nm_c (by decide) nm_0) (fun l z => by cases z) hux11
                            have gs10 := gs9.trans hs10
                            have hU10 := UL.ints pz10_0 pz11_0
                            refine T.go 2 (fun n9 => (rfl : _ = exe ξ n9 (d + 2) j_U_tellLengths 176 [(0, .ref 17), (1, J n), (2, J k), (3, J i), (4, J z1), (5, J z9), (6, J (11 + z10))] [J (11 + z10), J k] s10)) ?_
                            refine T.iadd rfl ?_
                            refine T.go 1 (fun n9 => (rfl : _ = exe ξ n9 (d + 2) j_U_tellLengths 178 [(0, .ref 17), (1, J n), (2, J (k + (11 + z10))), (3, J i), (4, J z1), (5, J z9), (6, J (11 + z10))] [] s10)) ?_
                            refine T.iinc (lv' := [(0, .ref 17), (1, J n), (2, J (k + (11 + z10))), (3, J (i + 1)), (4, J z1), (5, J z9), (6, J (11 + z10))]) rfl rfl rfl rfl ?_
                            refine T.go 1 (fun n9 => (rfl : _ = exe ξ n9 (d + 2) j_U_tellLengths 15 [(0, .ref 17), (1, J n), (2, J (k + (11 + z10))), (3, J (i + 1)), (4, J z1), (5, J z9), (6, J (11 + z10))] [] s10)) ?_
                            refine T.drop (lv := [(0, .ref 17), (1, J n), (2, J (k + (11 + z10))), (3, J (i + 1))]) [(4, J z1), (5, J z9), (6, J (11 + z10))] (by simp) ?_
                            exact ih  (k + (11 + z10)) (i + 1) s10 gs10 hU10 (by omega) (by omega) (by omega) (by omega) (by omega) (by omega)
                          · refine T.go 1 (fun n9 => (rfl : _ = exe ξ n9 (d + 2) j_U_tellLengths 158 [(0, .ref 17), (1, J n), (2, J k), (3, J i), (4, J z1), (5, J z9), (6, J (11 + z10))] [J 0] s9)) ?_
                            exact T.iretz rfl rfl (by omega) ⟨_, rfl, gs9, by omega, by omega, pz10_0⟩
                      · refine T.go 3 (fun n9 => (rfl : _ = exe ξ n9 (d + 2) j_U_tellLengths 124 [(0, .ref 17), (1, J n), (2, J k), (3, J i), (4, J z1), (5, J z9)] [J 3, .ref 17, J 3] s1)) ?_
                        refine T.callv (as := [J 3]) (r := [J 3]) rfl rfl rfl rfl hux9 rfl (s_U_takeBits (d + 1) s t 3 s1 hs1.1  hs ht hst pz1_0 (by omega)) (fun v11 s11 hqs11 => ?_)
                        obtain ⟨z12, rfl, hs11, hzz12, hyz12, pz12_0, pz12_1⟩ := hqs11
                        have es11 := hs11
                        have hs11 := hs11.sub (w' := [17, 18]) (List.forall_mem_cons.mpr ⟨(by simp), (fun _ h => by cases h)⟩)
                        have k17 := es11.b.1 _ _ (nm_c ((by decide : ∀ u ∈ RwL, u ≠ 17) _ hs) nm_0) (fun l z => by cases z) hrx9
                        have k18 := es11.b.1 _ _ (nm_c (by decide) nm_0) (fun l z => by cases z) hix10
                        have gs11 := gs1.trans hs11
                        refine T.iadd rfl ?_
                        refine T.go 3 (fun n9 => (rfl : _ = exe ξ n9 (d + 2) j_U_tellLengths 143 [(0, .ref 17), (1, J n), (2, J k), (3, J i), (4, J z1), (5, J z9), (6, J (3 + z12))] [.ref 17] s11)) ?_
                        obtain ⟨wx12, bix12, bex12, rox12, mx12, nx12, bx12, lx12, hux12, hrx12, hbx12, ⟨fx12a, fx12b, fx12c, fx12d, fx12e, fx12f, fx12g, fx12h, fx12i, fx12j⟩, ⟨fx12k, fx12l, fx12m, fx12n⟩, fx12o, fx12p⟩ := UL.unf hs11.1 pz12_0 hs
                        refine T.get rfl rfl rfl hux12 rfl ?_
                        refine T.if_ne rfl rfl (by omega) (fun c25 => ?_) (fun c25 => ?_)
                        · refine T.go 1 (fun n9 => (rfl : _ = exe ξ n9 (d + 2) j_U_tellLengths 158 [(0, .ref 17), (1, J n), (2, J k), (3, J i), (4, J z1), (5, J z9), (6, J (3 + z12))] [J 0] s11)) ?_
                          exact T.iretz rfl rfl (by omega) ⟨_, rfl, gs11, by omega, by omega, pz12_0⟩
                        · refine T.go 3 (fun n9 => (rfl : _ = exe ξ n9 (d + 2) j_U_tellLengths 153 [(0, .ref 17), (1, J n), (2, J k), (3, J i), (4, J z1), (5, J z9), (6, J (3 + z12))] [J k, J n, J (3 + z12)] s11)) ?_
                          refine T.isub rfl ?_
                          refine T.icmp_le rfl rfl (by omega) (by omega) (fun c26 => ?_) (fun c26 => ?_)
                          · refine T.go 1 (fun n9 => (rfl : _ = exe ξ n9 (d + 2) j_U_tellLengths 160 [(0, .ref 17), (1, J n), (2, J k), (3, J i), (4, J z1), (5, J z9), (6, J (3 + z12))] [.ref 17] s11)) ?_
                            refine T.get rfl rfl rfl hux12 rfl ?_
                            refine T.go 3 (fun n9 => (rfl : _ = exe ξ n9 (d + 2) j_U_tellLengths 167 [(0, .ref 17), (1, J n), (2, J k), (3, J i), (4, J z1), (5, J z9), (6, J (3 + z12))] [J (3 + z12), J k, J k, .ref 18] s11)) ?_
                            refine T.iadd rfl ?_
                            refine T.go 1 (fun n9 => (rfl : _ = exe ξ n9 (d + 2) j_U_tellLengths 170 [(0, .ref 17), (1, J n), (2, J k), (3, J i), (4, J z1), (5, J z9), (6, J (3 + z12))] [J z9, J (k + (3 + z12)), J k, .ref 18] s11)) ?_
                            refine T.calls (as := [.ref 18, J k, J (k + (3 + z12)), J z9]) (r := []) rfl rfl (by decide) rfl rfl (s_J_fill d 18 k (k + (3 + z12)) z9 s11 hs11.1 kdX_18 (by decide) rfl (by decide) (Or.inl (by decide)) (by omega)) (fun v12 s12 hqs12 => ?_)
                            obtain ⟨rfl, hs12, pz13_0⟩ := hqs12
                            have es12 := hs12
                            have hs12 := hs12.sub (w' := [17, 18]) (List.forall_mem_cons.mpr ⟨(by simp), (fun _ h => by cases h)⟩)
                            have k19 := es12.b.1 _ _ (nm_c ((by decide : ∀ u ∈ RwL, u ≠ 18) _ hs) nm_0) (fun l z => by cases z) hrx12
                            have k20 := es12.b.1 _ _ (nm_c (by decide) nm_0) (fun l z => by cases z) hux12
                            have gs12 := gs11.trans hs12
                            have hU12 := UL.ints pz12_0 pz13_0
                            refine T.go 2 (fun n9 => (rfl : _ = exe ξ n9 (d + 2) j_U_tellLengths 176 [(0, .ref 17), (1, J n), (2, J k), (3, J i), (4, J z1), (5, J z9), (6, J (3 + z12))] [J (3 + z12), J k] s12)) ?_
                            refine T.iadd rfl ?_
                            refine T.go 1 (fun n9 => (rfl : _ = exe ξ n9 (d + 2) j_U_tellLengths 178 [(0, .ref 17), (1, J n), (2, J (k + (3 + z12))), (3, J i), (4, J z1), (5, J z9), (6, J (3 + z12))] [] s12)) ?_
                            refine T.iinc (lv' := [(0, .ref 17), (1, J n), (2, J (k + (3 + z12))), (3, J (i + 1)), (4, J z1), (5, J z9), (6, J (3 + z12))]) rfl rfl rfl rfl ?_
                            refine T.go 1 (fun n9 => (rfl : _ = exe ξ n9 (d + 2) j_U_tellLengths 15 [(0, .ref 17), (1, J n), (2, J (k + (3 + z12))), (3, J (i + 1)), (4, J z1), (5, J z9), (6, J (3 + z12))] [] s12)) ?_
                            refine T.drop (lv := [(0, .ref 17), (1, J n), (2, J (k + (3 + z12))), (3, J (i + 1))]) [(4, J z1), (5, J z9), (6, J (3 + z12))] (by simp) ?_
                            exact ih  (k + (3 + z12)) (i + 1) s12 gs12 hU12 (by omega) (by omega) (by omega) (by omega) (by omega) (by omega)
                          · refine T.go 1 (fun n9 => (rfl : _ = exe ξ n9 (d + 2) j_U_tellLengths 158 [(0, .ref 17), (1, J n), (2, J k), (3, J i), (4, J z1), (5, J z9), (6, J (3 + z12))] [J 0] s11)) ?_
                            exact T.iretz rfl rfl (by omega) ⟨_, rfl, gs11, by omega, by omega, pz12_0⟩
                    · refine T.go 3 (fun n9 => (rfl : _ = exe ξ n9 (d + 2) j_U_tellLengths 107 [(0, .ref 17), (1, J n), (2, J k), (3, J i), (4, J z1), (5, J z9)] [J 2, .ref 17, J 3] s1)) ?_
                      refine T.callv (as := [J 2]) (r := [J 3]) rfl rfl rfl rfl hux9 rfl (s_U_takeBits (d + 1) s t 2 s1 hs1.1  hs ht hst pz1_0 (by omega)) (fun v13 s13 hqs13 => ?_)
                      obtain ⟨z14, rfl, hs13, hzz14, hyz14, pz14_0, pz14_1⟩ := hqs13
                      have es13 := hs13
                      have hs13 := hs13.sub (w' := [17, 18]) (List.forall_mem_cons.mpr ⟨(by simp), (fun _ h => by cases h)⟩)
                      have k21 := es13.b.1 _ _ (nm_c ((by decide : ∀ u ∈ RwL, u ≠ 17) _ hs) nm_0) (fun l z => by cases z) hrx9
                      have k22 := es13.b.1 _ _ (nm_c (by decide) nm_0) (fun l z => by cases z) hix10
                      have gs13 := gs1.trans hs13
                      refine T.iadd rfl ?_
                      refine T.go 3 (fun n9 => (rfl : _ = exe ξ n9 (d + 2) j_U_tellLengths 143 [(0, .ref 17), (1, J n), (2, J k), (3, J i), (4, J z1), (5, J z9), (6, J (3 + z14))] [.ref 17] s13)) ?_
                      obtain ⟨wx13, bix13, bex13, rox13, mx13, nx13, bx13, lx13, hux13, hrx13, hbx13, ⟨fx13a, fx13b, fx13c, fx13d, fx13e, fx13f, fx13g, fx13h, fx13i, fx13j⟩, ⟨fx13k, fx13l, fx13m, fx13n⟩, fx13o, fx13p⟩ := UL.unf hs13.1 pz14_0 hs
                      refine T.get rfl rfl rfl hux13 rfl ?_
                      refine T.if_ne rfl rfl (by omega) (fun c27 => ?_) (fun c27 => ?_)
                      · refine T.go 1 (fun n9 => (rfl : _ = exe ξ n9 (d + 2) j_U_tellLengths 158 [(0, .ref 17), (1, J n), (2, J k), (3, J i), (4, J z1), (5, J z9), (6, J (3 + z14))] [J 0] s13)) ?_
                        exact T.iretz rfl rfl (by omega) ⟨_, rfl, gs13, by omega, by omega, pz14_0⟩
                      · refine T.go 3 (fun n9 => (rfl : _ = exe ξ n9 (d + 2) j_U_tellLengths 153 [(0, .ref 17), (1, J n), (2, J k), (3, J i), (4, J z1), (5, J z9), (6, J (3 + z14))] [J k, J n, J (3 + z14)] s13)) ?_
                        refine T.isub rfl ?_
                        refine T.icmp_le rfl rfl (by omega) (by omega) (fun c28 => ?_) (fun c28 => ?_)
                        · refine T.go 1 (fun n9 => (rfl : _ = exe ξ n9 (d + 2) j_U_tellLengths 160 [(0, .ref 17), (1, J n), (2, J k), (3, J i), (4, J z1), (5, J z9), (6, J (3 + z14))] [.ref 17] s13)) ?_
                          refine T.get rfl rfl rfl hux13 rfl ?_
                          refine T.go 3 (fun n9 => (rfl : _ = exe ξ n9 (d + 2) j_U_tellLengths 167 [(0, .ref 17), (1, J n), (2, J k), (3, J i), (4, J z1), (5, J z9), (6, J (3 + z14))] [J (3 + z14), J k, J k, .ref 18] s13)) ?_
                          refine T.iadd rfl ?_
                          refine T.go 1 (fun n9 => (rfl : _ = exe ξ n9 (d + 2) j_U_tellLengths 170 [(0, .ref 17), (1, J n), (2, J k), (3, J i), (4, J z1), (5, J z9), (6, J (3 + z14))] [J z9, J (k + (3 + z14)), J k, .ref 18] s13)) ?_
                          refine T.calls (as := [.ref 18, J k, J (k + (3 + z14)), J z9]) (r := []) rfl rfl (by decide) rfl rfl (s_J_fill d 18 k (k + (3 + z14)) z9 s13 hs13.1 kdX_18 (by decide) rfl (by decide) (Or.inl (by decide)) (by omega)) (fun v14 s14 hqs14 => ?_)
                          obtain ⟨rfl, hs14, pz15_0⟩ := hqs14
                          have es14 := hs14
                          have hs14 := hs14.sub (w' := [17, 18]) (List.forall_mem_cons.mpr ⟨(by simp), (fun _ h => by cases h)⟩)
                          have k23 := es14.b.1 _ _ (nm_c ((by decide : ∀ u ∈ RwL, u ≠ 18) _ hs) nm_0) (fun l z => by cases z) hrx13
                          have k24 := es14.b.1 _ _ (nm_c (by decide) nm_0) (fun l z => by cases z) hux13
                          have gs14 := gs13.trans hs14
                          have hU14 := UL.ints pz14_0 pz15_0
                          refine T.go 2 (fun n9 => (rfl : _ = exe ξ n9 (d + 2) j_U_tellLengths 176 [(0, .ref 17), (1, J n), (2, J k), (3, J i), (4, J z1), (5, J z9), (6, J (3 + z14))] [J (3 + z14), J k] s14)) ?_
                          refine T.iadd rfl ?_
                          refine T.go 1 (fun n9 => (rfl : _ = exe ξ n9 (d + 2) j_U_tellLengths 178 [(0, .ref 17), (1, J n), (2, J (k + (3 + z14))), (3, J i), (4, J z1), (5, J z9), (6, J (3 + z14))] [] s14)) ?_
                          refine T.iinc (lv' := [(0, .ref 17), (1, J n), (2, J (k + (3 + z14))), (3, J (i + 1)), (4, J z1), (5, J z9), (6, J (3 + z14))]) rfl rfl rfl rfl ?_
                          refine T.go 1 (fun n9 => (rfl : _ = exe ξ n9 (d + 2) j_U_tellLengths 15 [(0, .ref 17), (1, J n), (2, J (k + (3 + z14))), (3, J (i + 1)), (4, J z1), (5, J z9), (6, J (3 + z14))] [] s14)) ?_
                          refine T.drop (lv := [(0, .ref 17), (1, J n), (2, J (k + (3 + z14))), (3, J (i + 1))]) [(4, J z1), (5, J z9), (6, J (3 + z14))] (by simp) ?_
                          exact ih  (k + (3 + z14)) (i + 1) s14 gs14 hU14 (by omega) (by omega) (by omega) (by omega) (by omega) (by omega)
                        · refine T.go 1 (fun n9 => (rfl : _ = exe ξ n9 (d + 2) j_U_tellLengths 158 [(0, .ref 17), (1, J n), (2, J k), (3, J i), (4, J z1), (5, J z9), (6, J (3 + z14))] [J 0] s13)) ?_
                          exact T.iretz rfl rfl (by omega) ⟨_, rfl, gs13, by omega, by omega, pz14_0⟩
                  · refine T.go 4 (fun n9 => (rfl : _ = exe ξ n9 (d + 2) j_U_tellLengths 143 [(0, .ref 17), (1, J n), (2, J k), (3, J i), (4, J z1), (5, J z9), (6, J 1)] [.ref 17] s1)) ?_
                    refine T.get rfl rfl rfl hux9 rfl ?_
                    refine T.if_ne rfl rfl (by omega) (fun c29 => ?_) (fun c29 => ?_)
                    · refine T.go 1 (fun n9 => (rfl : _ = exe ξ n9 (d + 2) j_U_tellLengths 158 [(0, .ref 17), (1, J n), (2, J k), (3, J i), (4, J z1), (5, J z9), (6, J 1)] [J 0] s1)) ?_
                      exact T.iretz rfl rfl (by omega) ⟨_, rfl, gs1, by omega, by omega, pz1_0⟩
                    · refine T.go 3 (fun n9 => (rfl : _ = exe ξ n9 (d + 2) j_U_tellLengths 153 [(0, .ref 17), (1, J n), (2, J k), (3, J i), (4, J z1), (5, J z9), (6, J 1)] [J k, J n, J 1] s1)) ?_
                      refine T.isub rfl ?_
                      refine T.icmp_le rfl rfl (by omega) (by omega) (fun c30 => ?_) (fun c30 => ?_)
                      · refine T.go 1 (fun n9 => (rfl : _ = exe ξ n9 (d + 2) j_U_tellLengths 160 [(0, .ref 17), (1, J n), (2, J k), (3, J i), (4, J z1), (5, J z9), (6, J 1)] [.ref 17] s1)) ?_
                        refine T.get rfl rfl rfl hux9 rfl ?_
                        refine T.go 3 (fun n9 => (rfl : _ = exe ξ n9 (d + 2) j_U_tellLengths 167 [(0, .ref 17), (1, J n), (2, J k), (3, J i), (4, J z1), (5, J z9), (6, J 1)] [J 1, J k, J k, .ref 18] s1)) ?_
                        refine T.iadd rfl ?_
                        refine T.go 1 (fun n9 => (rfl : _ = exe ξ n9 (d + 2) j_U_tellLengths 170 [(0, .ref 17), (1, J n), (2, J k), (3, J i), (4, J z1), (5, J z9), (6, J 1)] [J z9, J (k + 1), J k, .ref 18] s1)) ?_
                        refine T.calls (as := [.ref 18, J k, J (k + 1), J z9]) (r := []) rfl rfl (by decide) rfl rfl (s_J_fill d 18 k (k + 1) z9 s1 hs1.1 kdX_18 (by decide) rfl (by decide) (Or.inl (by decide)) (by omega)) (fun v15 s15 hqs15 => ?_)
                        obtain ⟨rfl, hs15, pz16_0⟩ := hqs15
                        have es15 := hs15
                        have hs15 := hs15.sub (w' := [17, 18]) (List.forall_mem_cons.mpr ⟨(by simp), (fun _ h => by cases h)⟩)
                        have k25 := es15.b.1 _ _ (nm_c ((by decide : ∀ u ∈ RwL, u ≠ 18) _ hs) nm_0) (fun l z => by cases z) hrx9
                        have k26 := es15.b.1 _ _ (nm_c (by decide) nm_0) (fun l z => by cases z) hux9
                        have gs15 := gs1.trans hs15
                        have hU15 := UL.ints pz1_0 pz16_0
                        refine T.go 2 (fun n9 => (rfl : _ = exe ξ n9 (d + 2) j_U_tellLengths 176 [(0, .ref 17), (1, J n), (2, J k), (3, J i), (4, J z1), (5, J z9), (6, J 1)] [J 1, J k] s15)) ?_
                        refine T.iadd rfl ?_
                        refine T.go 1 (fun n9 => (rfl : _ = exe ξ n9 (d + 2) j_U_tellLengths 178 [(0, .ref 17), (1, J n), (2, J (k + 1)), (3, J i), (4, J z1), (5, J z9), (6, J 1)] [] s15)) ?_
                        refine T.iinc (lv' := [(0, .ref 17), (1, J n), (2, J (k + 1)), (3, J (i + 1)), (4, J z1), (5, J z9), (6, J 1)]) rfl rfl rfl rfl ?_
                        refine T.go 1 (fun n9 => (rfl : _ = exe ξ n9 (d + 2) j_U_tellLengths 15 [(0, .ref 17), (1, J n), (2, J (k + 1)), (3, J (i + 1)), (4, J z1), (5, J z9), (6, J 1)] [] s15)) ?_
                        refine T.drop (lv := [(0, .ref 17), (1, J n), (2, J (k + 1)), (3, J (i + 1))]) [(4, J z1), (5, J z9), (6, J 1)] (by simp) ?_
                        exact ih  (k + 1) (i + 1) s15 gs15 hU15 (by omega) (by omega) (by omega) (by omega) (by omega) (by omega)
                      · refine T.go 1 (fun n9 => (rfl : _ = exe ξ n9 (d + 2) j_U_tellLengths 158 [(0, .ref 17), (1, J n), (2, J k), (3, J i), (4, J z1), (5, J z9), (6, J 1)] [J 0] s1)) ?_
                        exact T.iretz rfl rfl (by omega) ⟨_, rfl, gs1, by omega, by omega, pz1_0⟩
              · refine T.go 5 (fun n9 => (rfl : _ = exe ξ n9 (d + 2) j_U_tellLengths 90 [(0, .ref 17), (1, J n), (2, J k), (3, J i), (4, J z1), (5, J z1)] [J 16, J z1] s1)) ?_
                refine T.icmp_ge rfl rfl (by omega) (by omega) (fun c31 => ?_) (fun c31 => ?_)
                · refine T.go 2 (fun n9 => (rfl : _ = exe ξ n9 (d + 2) j_U_tellLengths 101 [(0, .ref 17), (1, J n), (2, J k), (3, J i), (4, J z1), (5, J z1)] [J 16, J z1] s1)) ?_
                  refine T.icmp_ne rfl rfl (by omega) (by omega) (fun c32 => ?_) (fun c32 => ?_)
                  · refine T.go 2 (fun n9 => (rfl : _ = exe ξ n9 (d + 2) j_U_tellLengths 118 [(0, .ref 17), (1, J n), (2, J k), (3, J i), (4, J z1), (5, J z1)] [J 17, J z1] s1)) ?_
                    refine T.icmp_ne rfl rfl (by omega) (by omega) (fun c33 => ?_) (fun c33 => ?_)
                    · refine T.go 3 (fun n9 => (rfl : _ = exe ξ n9 (d + 2) j_U_tellLengths 136 [(0, .ref 17), (1, J n), (2, J k), (3, J i), (4, J z1), (5, J z1)] [J 7, .ref 17, J 11] s1)) ?_
                      obtain ⟨wx14, bix14, bex14, rox14, mx14, nx14, bx14, lx14, hux14, hrx14, hbx14, ⟨fx14a, fx14b, fx14c, fx14d, fx14e, fx14f, fx14g, fx14h, fx14i, fx14j⟩, ⟨fx14k, fx14l, fx14m, fx14n⟩, fx14o, fx14p⟩ := UL.unf hs1.1 pz1_0 hs
                      refine T.callv (as := [J 7]) (r := [J 11]) rfl rfl rfl rfl hux14 rfl (s_U_takeBits (d + 1) s t 7 s1 hs1.1  hs ht hst pz1_0 (by omega)) (fun v16 s16 hqs16 => ?_)
                      obtain ⟨z17, rfl, hs16, hzz17, hyz17, pz17_0, pz17_1⟩ := hqs16
                      have es16 := hs16
                      have hs16 := hs16.sub (w' := [17, 18]) (List.forall_mem_cons.mpr ⟨(by simp), (fun _ h => by cases h)⟩)
                      have k27 := es16.b.1 _ _ (nm_c ((by decide : ∀ u ∈ RwL, u ≠ 17) _ hs) nm_0) (fun l z => by cases z) hrx14
                      have gs16 := gs1.trans hs16
                      refine T.iadd rfl ?_
                      refine T.go 2 (fun n9 => (rfl : _ = exe ξ n9 (d + 2) j_U_tellLengths 143 [(0, .ref 17), (1, J n), (2, J k), (3, J i), (4, J z1), (5, J z1), (6, J (11 + z17))] [.ref 17] s16)) ?_
                      obtain ⟨wx15, bix15, bex15, rox15, mx15, nx15, bx15, lx15, hux15, hrx15, hbx15, ⟨fx15a, fx15b, fx15c, fx15d, fx15e, fx15f, fx15g, fx15h, fx15i, fx15j⟩, ⟨fx15k, fx15l, fx15m, fx15n⟩, fx15o, fx15p⟩ := UL.unf hs16.1 pz17_0 hs
                      refine T.get rfl rfl rfl hux15 rfl ?_
                      refine T.if_ne rfl rfl (by omega) (fun c34 => ?_) (fun c34 => ?_)
                      · refine T.go 1 (fun n9 => (rfl : _ = exe ξ n9 (d + 2) j_U_tellLengths 158 [(0, .ref 17), (1, J n), (2, J k), (3, J i), (4, J z1), (5, J z1), (6, J (11 + z17))] [J 0] s16)) ?_
                        exact T.iretz rfl rfl (by omega) ⟨_, rfl, gs16, by omega, by omega, pz17_0⟩
                      · refine T.go 3 (fun n9 => (rfl : _ = exe ξ n9 (d + 2) j_U_tellLengths 153 [(0, .ref 17), (1, J n), (2, J k), (3, J i), (4, J z1), (5, J z1), (6, J (11 + z17))] [J k, J n, J (11 + z17)] s16)) ?_
                        refine T.isub rfl ?_
                        refine T.icmp_le rfl rfl (by omega) (by omega) (fun c35 => ?_) (fun c35 => ?_)
                        · refine T.go 1 (fun n9 => (rfl : _ = exe ξ n9 (d + 2) j_U_tellLengths 160 [(0, .ref 17), (1, J n), (2, J k), (3, J i), (4, J z1), (5, J z1), (6, J (11 + z17))] [.ref 17] s16)) ?_
                          refine T.get rfl rfl rfl hux15 rfl ?_
                          refine T.go 3 (fun n9 => (rfl : _ = exe ξ n9 (d + 2) j_U_tellLengths 167 [(0, .ref 17), (1, J n), (2, J k), (3, J i), (4, J z1), (5, J z1), (6, J (11 + z17))] [J (11 + z17), J k, J k, .ref 18] s16)) ?_
                          refine T.iadd rfl ?_
                          refine T.go 1 (fun n9 => (rfl : _ = exe ξ n9 (d + 2) j_U_tellLengths 170 [(0, .ref 17), (1, J n), (2, J k), (3, J i), (4, J z1), (5, J z1), (6, J (11 + z17))] [J z1, J (k + (11 + z17)), J k, .ref 18] s16)) ?_
                          refine T.calls (as := [.ref 18, J k, J (k + (11 + z17)), J z1]) (r := []) rfl rfl (by decide) rfl rfl (s_J_fill d 18 k (k + (11 + z17)) z1 s16 hs16.1 kdX_18 (by decide) rfl (by decide) (Or.inl (by decide)) (by omega)) (fun v17 s17 hqs17 => ?_)
                          obtain ⟨rfl, hs17, pz18_0⟩ := hqs17
                          have es17 := hs17
                          have hs17 := hs17.sub (w' := [17, 18]) (List.forall_mem_cons.mpr ⟨(by simp), (fun _ h => by cases h)⟩)
                          have k28 := es17.b.1 _ _ (nm_c ((by decide : ∀ u ∈ RwL, u ≠ 18) _ hs) nm_0) (fun l z => by cases z) hrx15
                          have k29 := es17.b.1 _ _ (nm_c (by decide) nm_0) (fun l z => by cases z) hux15
                          have gs17 := gs16.trans hs17
                          have hU17 := UL.ints pz17_0 pz18_0
                          refine T.go 2 (fun n9 => (rfl : _ = exe ξ n9 (d + 2) j_U_tellLengths 176 [(0, .ref 17), (1, J n), (2, J k), (3, J i), (4, J z1), (5, J z1), (6, J (11 + z17))] [J (11 + z17), J k] s17)) ?_
                          refine T.iadd rfl ?_
                          refine T.go 1 (fun n9 => (rfl : _ = exe ξ n9 (d + 2) j_U_tellLengths 178 [(0, .ref 17), (1, J n), (2, J (k + (11 + z17))), (3, J i), (4, J z1), (5, J z1), (6, J (11 + z17))] [] s17)) ?_
                          refine T.iinc (lv' := [(0, .ref 17), (1, J n), (2, J (k + (11 + z17))), (3, J (i + 1)), (4, J z1), (5, J z1), (6, J (11 + z17))]) rfl rfl rfl rfl ?_
                          refine T.go 1 (fun n9 => (rfl : _ = exe ξ n9 (d + 2) j_U_tellLengths 15 [(0, .ref 17), (1, J n), (2, J (k + (11 + z17))), (3, J (i + 1)), (4, J z1), (5, J z1), (6, J (11 + z17))] [] s17)) ?_
                          refine T.drop (lv := [(0, .ref 17), (1, J n), (2, J (k + (11 + z17))), (3, J (i + 1))]) [(4, J z1), (5, J z1), (6, J (11 + z17))] (by simp) ?_
                          exact ih  (k + (11 + z17)) (i + 1) s17 gs17 hU17 (by omega) (by omega) (by omega) (by omega) (by omega) (by omega)
                        · refine T.go 1 (fun n9 => (rfl : _ = exe ξ n9 (d + 2) j_U_tellLengths 158 [(0, .ref 17), (1, J n), (2, J k), (3, J i), (4, J z1), (5, J z1), (6, J (11 + z17))] [J 0] s16)) ?_
                          exact T.iretz rfl rfl (by omega) ⟨_, rfl, gs16, by omega, by omega, pz17_0⟩
                    · refine T.go 3 (fun n9 => (rfl : _ = exe ξ n9 (d + 2) j_U_tellLengths 124 [(0, .ref 17), (1, J n), (2, J k), (3, J i), (4, J z1), (5, J z1)] [J 3, .ref 17, J 3] s1)) ?_
                      obtain ⟨wx16, bix16, bex16, rox16, mx16, nx16, bx16, lx16, hux16, hrx16, hbx16, ⟨fx16a, fx16b, fx16c, fx16d, fx16e, fx16f, fx16g, fx16h, fx16i, fx16j⟩, ⟨fx16k, fx16l, fx16m, fx16n⟩, fx16o, fx16p⟩ := UL.unf hs1.1 pz1_0 hs
                      refine T.callv (as := [J 3]) (r := [J 3]) rfl rfl rfl rfl hux16 rfl (s_U_takeBits (d + 1) s t 3 s1 hs1.1  hs ht hst pz1_0 (by omega)) (fun v18 s18 hqs18 => ?_)
                      obtain ⟨z19, rfl, hs18, hzz19, hyz19, pz19_0, pz19_1⟩ := hqs18
                      have es18 := hs18
                      have hs18 := hs18.sub (w' := [17, 18]) (List.forall_mem_cons.mpr ⟨(by simp), (fun _ h => by cases h)⟩)
                      have k30 := es18.b.1 _ _ (nm_c ((by decide : ∀ u ∈ RwL, u ≠ 17) _ hs) nm_0) (fun l z => by cases z) hrx16
                      have gs18 := gs1.trans hs18
                      refine T.iadd rfl ?_
                      refine T.go 3 (fun n9 => (rfl : _ = exe ξ n9 (d + 2) j_U_tellLengths 143 [(0, .ref 17), (1, J n), (2, J k), (3, J i), (4, J z1), (5, J z1), (6, J (3 + z19))] [.ref 17] s18)) ?_
                      obtain ⟨wx17, bix17, bex17, rox17, mx17, nx17, bx17, lx17, hux17, hrx17, hbx17, ⟨fx17a, fx17b, fx17c, fx17d, fx17e, fx17f, fx17g, fx17h, fx17i, fx17j⟩, ⟨fx17k, fx17l, fx17m, fx17n⟩, fx17o, fx17p⟩ := UL.unf hs18.1 pz19_0 hs
                      refine T.get rfl rfl rfl hux17 rfl ?_
                      refine T.if_ne rfl rfl (by omega) (fun c36 => ?_) (fun c36 => ?_)
                      · refine T.go 1 (fun n9 => (rfl : _ = exe ξ n9 (d + 2) j_U_tellLengths 158 [(0, .ref 17), (1, J n), (2, J k), (3, J i), (4, J z1), (5, J z1), (6, J (3 + z19))] [J 0] s18)) ?_
                        exact T.iretz rfl rfl (by omega) ⟨_, rfl, gs18, by omega, by omega, pz19_0⟩
                      · refine T.go 3 (fun n9 => (rfl : _ = exe ξ n9 (d + 2) j_U_tellLengths 153 [(0, .ref 17), (1, J n), (2, J k), (3, J i), (4, J z1), (5, J z1), (6, J (3 + z19))] [J k, J n, J (3 + z19)] s18)) ?_
                        refine T.isub rfl ?_
                        refine T.icmp_le rfl rfl (by omega) (by omega) (fun c37 => ?_) (fun c37 => ?_)
                        · refine T.go 1 (fun n9 => (rfl : _ = exe ξ n9 (d + 2) j_U_tellLengths 160 [(0, .ref 17), (1, J n), (2, J k), (3, J i), (4, J z1), (5, J z1), (6, J (3 + z19))] [.ref 17] s18)) ?_
                          refine T.get rfl rfl rfl hux17 rfl ?_
                          refine T.go 3 (fun n9 => (rfl : _ = exe ξ n9 (d + 2) j_U_tellLengths 167 [(0, .ref 17), (1, J n), (2, J k), (3, J i), (4, J z1), (5, J z1), (6, J (3 + z19))] [J (3 + z19), J k, J k, .ref 18] s18)) ?_
                          refine T.iadd rfl ?_
                          refine T.go 1 (fun n9 => (rfl : _ = exe ξ n9 (d + 2) j_U_tellLengths 170 [(0, .ref 17), (1, J n), (2, J k), (3, J i), (4, J z1), (5, J z1), (6, J (3 + z19))] [J z1, J (k + (3 + z19)), J k, .ref 18] s18)) ?_
                          refine T.calls (as := [.ref 18, J k, J (k + (3 + z19)), J z1]) (r := []) rfl rfl (by decide) rfl rfl (s_J_fill d 18 k (k + (3 + z19)) z1 s18 hs18.1 kdX_18 (by decide) rfl (by decide) (Or.inl (by decide)) (by omega)) (fun v19 s19 hqs19 => ?_)
                          obtain ⟨rfl, hs19, pz20_0⟩ := hqs19
                          have es19 := hs19
                          have hs19 := hs19.sub (w' := [17, 18]) (List.forall_mem_cons.mpr ⟨(by simp), (fun _ h => by cases h)⟩)
                          have k31 := es19.b.1 _ _ (nm_c ((by decide : ∀ u ∈ RwL, u ≠ 18) _ hs) nm_0) (fun l z => by cases z) hrx17
                          have k32 := es19.b.1 _ _ (nm_c (by decide) nm_0) (fun l z => by cases z) hux17
                          have gs19 := gs18.trans hs19
                          have hU19 := UL.ints pz19_0 pz20_0
                          refine T.go 2 (fun n9 => (rfl : _ = exe ξ n9 (d + 2) j_U_tellLengths 176 [(0, .ref 17), (1, J n), (2, J k), (3, J i), (4, J z1), (5, J z1), (6, J (3 + z19))] [J (3 + z19), J k] s19)) ?_
                          refine T.iadd rfl ?_
                          refine T.go 1 (fun n9 => (rfl : _ = exe ξ n9 (d + 2) j_U_tellLengths 178 [(0, .ref 17), (1, J n), (2, J (k + (3 + z19))), (3, J i), (4, J z1), (5, J z1), (6, J (3 + z19))] [] s19)) ?_
                          refine T.iinc (lv' := [(0, .ref 17), (1, J n), (2, J (k + (3 + z19))), (3, J (i + 1)), (4, J z1), (5, J z1), (6, J (3 + z19))]) rfl rfl rfl rfl ?_
                          refine T.go 1 (fun n9 => (rfl : _ = exe ξ n9 (d + 2) j_U_tellLengths 15 [(0, .ref 17), (1, J n), (2, J (k + (3 + z19))), (3, J (i + 1)), (4, J z1), (5, J z1), (6, J (3 + z19))] [] s19)) ?_
                          refine T.drop (lv := [(0, .ref 17), (1, J n), (2, J (k + (3 + z19))), (3, J (i + 1))]) [(4, J z1), (5, J z1), (6, J (3 + z19))] (by simp) ?_
                          exact ih  (k + (3 + z19)) (i + 1) s19 gs19 hU19 (by omega) (by omega) (by omega) (by omega) (by omega) (by omega)
                        · refine T.go 1 (fun n9 => (rfl : _ = exe ξ n9 (d + 2) j_U_tellLengths 158 [(0, .ref 17), (1, J n), (2, J k), (3, J i), (4, J z1), (5, J z1), (6, J (3 + z19))] [J 0] s18)) ?_
                          exact T.iretz rfl rfl (by omega) ⟨_, rfl, gs18, by omega, by omega, pz19_0⟩
                  · refine T.go 3 (fun n9 => (rfl : _ = exe ξ n9 (d + 2) j_U_tellLengths 107 [(0, .ref 17), (1, J n), (2, J k), (3, J i), (4, J z1), (5, J z1)] [J 2, .ref 17, J 3] s1)) ?_
                    obtain ⟨wx18, bix18, bex18, rox18, mx18, nx18, bx18, lx18, hux18, hrx18, hbx18, ⟨fx18a, fx18b, fx18c, fx18d, fx18e, fx18f, fx18g, fx18h, fx18i, fx18j⟩, ⟨fx18k, fx18l, fx18m, fx18n⟩, fx18o, fx18p⟩ := UL.unf hs1.1 pz1_0 hs
                    refine T.callv (as := [J 2]) (r := [J 3]) rfl rfl rfl rfl hux18 rfl (s_U_takeBits (d + 1) s t 2 s1 hs1.1  hs ht hst pz1_0 (by omega)) (fun v20 s20 hqs20 => ?_)
                    obtain ⟨z21, rfl, hs20, hzz21, hyz21, pz21_0, pz21_1⟩ := hqs20
                    have es20 := hs20
                    have hs20 := hs20.sub (w' := [17, 18]) (List.forall_mem_cons.mpr ⟨(by simp), (fun _ h => by cases h)⟩)
                    have k33 := es20.b.1 _ _ (nm_c ((by decide : ∀ u ∈ RwL, u ≠ 17) _ hs) nm_0) (fun l z => by cases z) hrx18
                    have gs20 := gs1.trans hs20
                    refine T.iadd rfl ?_
                    refine T.go 3 (fun n9 => (rfl : _ = exe ξ n9 (d + 2) j_U_tellLengths 143 [(0, .ref 17), (1, J n), (2, J k), (3, J i), (4, J z1), (5, J z1), (6, J (3 + z21))] [.ref 17] s20)) ?_
                    obtain ⟨wx19, bix19, bex19, rox19, mx19, nx19, bx19, lx19, hux19, hrx19, hbx19, ⟨fx19a, fx19b, fx19c, fx19d, fx19e, fx19f, fx19g, fx19h, fx19i, fx19j⟩, ⟨fx19k, fx19l, fx19m, fx19n⟩, fx19o, fx19p⟩ := UL.unf hs20.1 pz21_0 hs
                    refine T.get rfl rfl rfl hux19 rfl ?_
                    refine T.if_ne rfl rfl (by omega) (fun c38 => ?_) (fun c38 => ?_)
                    · refine T.go 1 (fun n9 => (rfl : _ = exe ξ n9 (d + 2) j_U_tellLengths 158 [(0, .ref 17), (1, J n), (2, J k), (3, J i), (4, J z1), (5, J z1), (6, J (3 + z21))] [J 0] s20)) ?_
                      exact T.iretz rfl rfl (by omega) ⟨_, rfl, gs20, by omega, by omega, pz21_0⟩
                    · refine T.go 3 (fun n9 => (rfl : _ = exe ξ n9 (d + 2) j_U_tellLengths 153 [(0, .ref 17), (1, J n), (2, J k), (3, J i), (4, J z1), (5, J z1), (6, J (3 + z21))] [J k, J n, J (3 + z21)] s20)) ?_
                      refine T.isub rfl ?_
                      refine T.icmp_le rfl rfl (by omega) (by omega) (fun c39 => ?_) (fun c39 => ?_)
                      · refine T.go 1 (fun n9 => (rfl : _ = exe ξ n9 (d + 2) j_U_tellLengths 160 [(0, .ref 17), (1, J n), (2, J k), (3, J i), (4, J z1), (5, J z1), (6, J (3 + z21))] [.ref 17] s20)) ?_
                        refine T.get rfl rfl rfl hux19 rfl ?_
                        refine T.go 3 (fun n9 => (rfl : _ = exe ξ n9 (d + 2) j_U_tellLengths 167 [(0, .ref 17), (1, J n), (2, J k), (3, J i), (4, J z1), (5, J z1), (6, J (3 + z21))] [J (3 + z21), J k, J k, .ref 18] s20)) ?_
                        refine T.iadd rfl ?_
                        refine T.go 1 (fun n9 => (rfl : _ = exe ξ n9 (d + 2) j_U_tellLengths 170 [(0, .ref 17), (1, J n), (2, J k), (3, J i), (4, J z1), (5, J z1), (6, J (3 + z21))] [J z1, J (k + (3 + z21)), J k, .ref 18] s20)) ?_
                        refine T.calls (as := [.ref 18, J k, J (k + (3 + z21)), J z1]) (r := []) rfl rfl (by decide) rfl rfl (s_J_fill d 18 k (k + (3 + z21)) z1 s20 hs20.1 kdX_18 (by decide) rfl (by decide) (Or.inl (by decide)) (by omega)) (fun v21 s21 hqs21 => ?_)
                        obtain ⟨rfl, hs21, pz22_0⟩ := hqs21
                        have es21 := hs21
                        have hs21 := hs21.sub (w' := [17, 18]) (List.forall_mem_cons.mpr ⟨(by simp), (fun _ h => by cases h)⟩)
                        have k34 := es21.b.1 _ _ (nm_c ((by decide : ∀ u ∈ RwL, u ≠ 18) _ hs) nm_0) (fun l z => by cases z) hrx19
                        have k35 := es21.b.1 _ _ (nm_c (by decide) nm_0) (fun l z => by cases z) hux19
                        have gs21 := gs20.trans hs21
                        have hU21 := UL.ints pz21_0 pz22_0
                        refine T.go 2 (fun n9 => (rfl : _ = exe ξ n9 (d + 2) j_U_tellLengths 176 [(0, .ref 17), (1, J n), (2, J k), (3, J i), (4, J z1), (5, J z1), (6, J (3 + z21))] [J (3 + z21), J k] s21)) ?_
                        refine T.iadd rfl ?_
                        refine T.go 1 (fun n9 => (rfl : _ = exe ξ n9 (d + 2) j_U_tellLengths 178 [(0, .ref 17), (1, J n), (2, J (k + (3 + z21))), (3, J i), (4, J z1), (5, J z1), (6, J (3 + z21))] [] s21)) ?_
                        refine T.iinc (lv' := [(0, .ref 17), (1, J n), (2, J (k + (3 + z21))), (3, J (i + 1)), (4, J z1), (5, J z1), (6, J (3 + z21))]) rfl rfl rfl rfl ?_
                        refine T.go 1 (fun n9 => (rfl : _ = exe ξ n9 (d + 2) j_U_tellLengths 15 [(0, .ref 17), (1, J n), (2, J (k + (3 + z21))), (3, J (i + 1)), (4, J z1), (5, J z1), (6, J (3 + z21))] [] s21)) ?_
                        refine T.drop (lv := [(0, .ref 17), (1, J n), (2, J (k + (3 + z21))), (3, J (i + 1))]) [(4, J z1), (5, J z1), (6, J (3 + z21))] (by simp) ?_
                        exact ih  (k + (3 + z21)) (i + 1) s21 gs21 hU21 (by omega) (by omega) (by omega) (by omega) (by omega) (by omega)
                      · refine T.go 1 (fun n9 => (rfl : _ = exe ξ n9 (d + 2) j_U_tellLengths 158 [(0, .ref 17), (1, J n), (2, J k), (3, J i), (4, J z1), (5, J z1), (6, J (3 + z21))] [J 0] s20)) ?_
                        exact T.iretz rfl rfl (by omega) ⟨_, rfl, gs20, by omega, by omega, pz21_0⟩
                · refine T.go 4 (fun n9 => (rfl : _ = exe ξ n9 (d + 2) j_U_tellLengths 143 [(0, .ref 17), (1, J n), (2, J k), (3, J i), (4, J z1), (5, J z1), (6, J 1)] [.ref 17] s1)) ?_
                  obtain ⟨wx20, bix20, bex20, rox20, mx20, nx20, bx20, lx20, hux20, hrx20, hbx20, ⟨fx20a, fx20b, fx20c, fx20d, fx20e, fx20f, fx20g, fx20h, fx20i, fx20j⟩, ⟨fx20k, fx20l, fx20m, fx20n⟩, fx20o, fx20p⟩ := UL.unf hs1.1 pz1_0 hs
                  refine T.get rfl rfl rfl hux20 rfl ?_
                  refine T.if_ne rfl rfl (by omega) (fun c40 => ?_) (fun c40 => ?_)
                  · refine T.go 1 (fun n9 => (rfl : _ = exe ξ n9 (d + 2) j_U_tellLengths 158 [(0, .ref 17), (1, J n), (2, J k), (3, J i), (4, J z1), (5, J z1), (6, J 1)] [J 0] s1)) ?_
                    exact T.iretz rfl rfl (by omega) ⟨_, rfl, gs1, by omega, by omega, pz1_0⟩
                  · refine T.go 3 (fun n9 => (rfl : _ = exe ξ n9 (d + 2) j_U_tellLengths 153 [(0, .ref 17), (1, J n), (2, J k), (3, J i), (4, J z1), (5, J z1), (6, J 1)] [J k, J n, J 1] s1)) ?_
                    refine T.isub rfl ?_
                    refine T.icmp_le rfl rfl (by omega) (by omega) (fun c41 => ?_) (fun c41 => ?_)
                    · refine T.go 1 (fun n9 => (rfl : _ = exe ξ n9 (d + 2) j_U_tellLengths 160 [(0, .ref 17), (1, J n), (2, J k), (3, J i), (4, J z1), (5, J z1), (6, J 1)] [.ref 17] s1)) ?_
                      refine T.get rfl rfl rfl hux20 rfl ?_
                      refine T.go 3 (fun n9 => (rfl : _ = exe ξ n9 (d + 2) j_U_tellLengths 167 [(0, .ref 17), (1, J n), (2, J k), (3, J i), (4, J z1), (5, J z1), (6, J 1)] [J 1, J k, J k, .ref 18] s1)) ?_
                      refine T.iadd rfl ?_
                      refine T.go 1 (fun n9 => (rfl : _ = exe ξ n9 (d + 2) j_U_tellLengths 170 [(0, .ref 17), (1, J n), (2, J k), (3, J i), (4, J z1), (5, J z1), (6, J 1)] [J z1, J (k + 1), J k, .ref 18] s1)) ?_
                      refine T.calls (as := [.ref 18, J k, J (k + 1), J z1]) (r := []) rfl rfl (by decide) rfl rfl (s_J_fill d 18 k (k + 1) z1 s1 hs1.1 kdX_18 (by decide) rfl (by decide) (Or.inl (by decide)) (by omega)) (fun v22 s22 hqs22 => ?_)
                      obtain ⟨rfl, hs22, pz23_0⟩ := hqs22
                      have es22 := hs22
                      have hs22 := hs22.sub (w' := [17, 18]) (List.forall_mem_cons.mpr ⟨(by simp), (fun _ h => by cases h)⟩)
                      have k36 := es22.b.1 _ _ (nm_c ((by decide : ∀ u ∈ RwL, u ≠ 18) _ hs) nm_0) (fun l z => by cases z) hrx20
                      have k37 := es22.b.1 _ _ (nm_c (by decide) nm_0) (fun l z => by cases z) hux20
                      have gs22 := gs1.trans hs22
                      have hU22 := UL.ints pz1_0 pz23_0
                      refine T.go 2 (fun n9 => (rfl : _ = exe ξ n9 (d + 2) j_U_tellLengths 176 [(0, .ref 17), (1, J n), (2, J k), (3, J i), (4, J z1), (5, J z1), (6, J 1)] [J 1, J k] s22)) ?_
                      refine T.iadd rfl ?_
                      refine T.go 1 (fun n9 => (rfl : _ = exe ξ n9 (d + 2) j_U_tellLengths 178 [(0, .ref 17), (1, J n), (2, J (k + 1)), (3, J i), (4, J z1), (5, J z1), (6, J 1)] [] s22)) ?_
                      refine T.iinc (lv' := [(0, .ref 17), (1, J n), (2, J (k + 1)), (3, J (i + 1)), (4, J z1), (5, J z1), (6, J 1)]) rfl rfl rfl rfl ?_
                      refine T.go 1 (fun n9 => (rfl : _ = exe ξ n9 (d + 2) j_U_tellLengths 15 [(0, .ref 17), (1, J n), (2, J (k + 1)), (3, J (i + 1)), (4, J z1), (5, J z1), (6, J 1)] [] s22)) ?_
                      refine T.drop (lv := [(0, .ref 17), (1, J n), (2, J (k + 1)), (3, J (i + 1))]) [(4, J z1), (5, J z1), (6, J 1)] (by simp) ?_
                      exact ih  (k + 1) (i + 1) s22 gs22 hU22 (by omega) (by omega) (by omega) (by omega) (by omega) (by omega)
                    · refine T.go 1 (fun n9 => (rfl : _ = exe ξ n9 (d + 2) j_U_tellLengths 158 [(0, .ref 17), (1, J n), (2, J k), (3, J i), (4, J z1), (5, J z1), (6, J 1)] [J 0] s1)) ?_
                      exact T.iretz rfl rfl (by omega) ⟨_, rfl, gs1, by omega, by omega, pz1_0⟩
            · refine T.go 1 (fun n9 => (rfl : _ = exe ξ n9 (d + 2) j_U_tellLengths 48 [(0, .ref 17), (1, J n), (2, J k), (3, J i), (4, J z1)] [J k] s1)) ?_
              refine T.if_ne rfl rfl (by omega) (fun c42 => ?_) (fun c42 => ?_)
              · refine T.go 2 (fun n9 => (rfl : _ = exe ξ n9 (d + 2) j_U_tellLengths 57 [(0, .ref 17), (1, J n), (2, J k), (3, J i), (4, J z1)] [J 16, J z1] s1)) ?_
                refine T.icmp_ge rfl rfl (by omega) (by omega) (fun c43 => ?_) (fun c43 => ?_)
                · refine T.go 2 (fun n9 => (rfl : _ = exe ξ n9 (d + 2) j_U_tellLengths 69 [(0, .ref 17), (1, J n), (2, J k), (3, J i), (4, J z1)] [J 16, J z1] s1)) ?_
                  refine T.icmp_ne rfl rfl (by omega) (by omega) (fun c44 => ?_) (fun c44 => ?_)
                  · refine T.go 4 (fun n9 => (rfl : _ = exe ξ n9 (d + 2) j_U_tellLengths 90 [(0, .ref 17), (1, J n), (2, J k), (3, J i), (4, J z1), (5, J 0)] [J 16, J z1] s1)) ?_
                    refine T.icmp_ge rfl rfl (by omega) (by omega) (fun c45 => ?_) (fun c45 => ?_)
                    · refine T.go 2 (fun n9 => (rfl : _ = exe ξ n9 (d + 2) j_U_tellLengths 101 [(0, .ref 17), (1, J n), (2, J k), (3, J i), (4, J z1), (5, J 0)] [J 16, J z1] s1)) ?_
                      refine T.icmp_ne rfl rfl (by omega) (by omega) (fun c46 => ?_) (fun c46 => ?_)
                      · refine T.go 2 (fun n9 => (rfl : _ = exe ξ n9 (d + 2) j_U_tellLengths 118 [(0, .ref 17), (1, J n), (2, J k), (3, J i), (4, J z1), (5, J 0)] [J 17, J z1] s1)) ?_
                        refine T.icmp_ne rfl rfl (by omega) (by omega) (fun c47 => ?_) (fun c47 => ?_)
                        · refine T.go 3 (fun n9 => (rfl : _ = exe ξ n9 (d + 2) j_U_tellLengths 136 [(0, .ref 17), (1, J n), (2, J k), (3, J i), (4, J z1), (5, J 0)] [J 7, .ref 17, J 11] s1)) ?_
                          obtain ⟨wx21, bix21, bex21, rox21, mx21, nx21, bx21, lx21, hux21, hrx21, hbx21, ⟨fx21a, fx21b, fx21c, fx21d, fx21e, fx21f, fx21g, fx21h, fx21i, fx21j⟩, ⟨fx21k, fx21l, fx21m, fx21n⟩, fx21o, fx21p⟩ := UL.unf hs1.1 pz1_0 hs
                          refine T.callv (as := [J 7]) (r := [J 11]) rfl rfl rfl rfl hux21 rfl (s_U_takeBits (d + 1) s t 7 s1 hs1.1  hs ht hst pz1_0 (by omega)) (fun v23 s23 hqs23 => ?_)
                          obtain ⟨z24, rfl, hs23, hzz24, hyz24, pz24_0, pz24_1⟩ := hqs23
                          have es23 := hs23
                          have hs23 := hs23.sub (w' := [17, 18]) (List.forall_mem_cons.mpr ⟨(by simp), (fun _ h => by cases h)⟩)
                          have k38 := es23.b.1 _ _ (nm_c ((by decide : ∀ u ∈ RwL, u ≠ 17) _ hs) nm_0) (fun l z => by cases z) hrx21
                          have gs23 := gs1.trans hs23
                          refine T.iadd rfl ?_
                          refine T.go 2 (fun n9 => (rfl : _ = exe ξ n9 (d + 2) j_U_tellLengths 143 [(0, .ref 17), (1, J n), (2, J k), (3, J i), (4, J z1), (5, J 0), (6, J (11 + z24))] [.ref 17] s23)) ?_
                          obtain ⟨wx22, bix22, bex22, rox22, mx22, nx22, bx22, lx22, hux22, hrx22, hbx22, ⟨fx22a, fx22b, fx22c, fx22d, fx22e, fx22f, fx22g, fx22h, fx22i, fx22j⟩, ⟨fx22k, fx22l, fx22m, fx22n⟩, fx22o, fx22p⟩ := UL.unf hs23.1 pz24_0 hs
                          refine T.get rfl rfl rfl hux22 rfl ?_
                          refine T.if_ne rfl rfl (by omega) (fun c48 => ?_) (fun c48 => ?_)
                          · refine T.go 1 (fun n9 => (rfl : _ = exe ξ n9 (d + 2) j_U_tellLengths 158 [(0, .ref 17), (1, J n), (2, J k), (3, J i), (4, J z1), (5, J 0), (6, J (11 + z24))] [J 0] s23)) ?_
                            exact T.iretz rfl rfl (by omega) ⟨_, rfl, gs23, by omega, by omega, pz24_0⟩
                          · refine T.go 3 (fun n9 => (rfl : _ = exe ξ n9 (d + 2) j_U_tellLengths 153 [(0, .ref 17), (1, J n), (2, J k), (3, J i), (4, J z1), (5, J 0), (6, J (11 + z24))] [J k, J n, J (11 + z24)] s23)) ?_
                            refine T.isub rfl ?_
                            refine T.icmp_le rfl rfl (by omega) (by omega) (fun c49 => ?_) (fun c49 => ?_)
                            · refine T.go 1 (fun n9 => (rfl : _ = exe ξ n9 (d + 2) j_U_tellLengths 160 [(0, .ref 17), (1, J n), (2, J k), (3, J i), (4, J z1), (5, J 0), (6, J (11 + z24))] [.ref 17] s23)) ?_
                              refine T.get rfl rfl rfl hux22 rfl ?_
                              refine T.go 3 (fun n9 => (rfl : _ = exe ξ n9 (d + 2) j_U_tellLengths 167 [(0, .ref 17), (1, J n), (2, J k), (3, J i), (4, J z1), (5, J 0), (6, J (11 + z24))] [J (11 + z24), J k, J k, .ref 18] s23)) ?_
                              refine T.iadd rfl ?_
                              refine T.go 1 (fun n9 => (rfl : _ = exe ξ n9 (d + 2) j_U_tellLengths 170 [(0, .ref 17), (1, J n), (2, J k), (3, J i), (4, J z1), (5, J 0), (6, J (11 + z24))] [J 0, J (k + (11 + z24)), J k, .ref 18] s23)) ?_
                              refine T.calls (as := [.ref 18, J k, J (k + (11 + z24)), J 0]) (r := []) rfl rfl (by decide) rfl rfl (s_J_fill d 18 k (k + (11 + z24)) 0 s23 hs23.1 kdX_18 (by decide) rfl (by decide) (Or.inl (by decide)) (by omega)) (fun v24 s24 hqs24 => ?_)
                              obtain ⟨rfl, hs24, pz25_0⟩ := hqs24
                              have es24 := hs24
                              have hs24 := hs24.sub (w' := [17, 18]) (List.forall_mem_cons.mpr ⟨(by simp), (fun _ h => by cases h)⟩)
                              have k39 := es24.b.1 _ _ (nm_c ((by decide : ∀ u ∈ RwL, u ≠ 18) _ hs) nm_0) (fun l z => by cases z) hrx22
                              have k40 := es24.b.1 _ _ (nm_c (by decide) nm_0) (fun l z => by cases z) hux22
                              have gs24 := gs23.trans hs24
                              have hU24 := UL.ints pz24_0 pz25_0
                              refine T.go 2 (fun n9 => (rfl : _ = exe ξ n9 (d + 2) j_U_tellLengths 176 [(0, .ref 17), (1, J n), (2, J k), (3, J i), (4, J z1), (5, J 0), (6, J (11 + z24))] [J (11 + z24), J k] s24)) ?_
                              refine T.iadd rfl ?_
                              refine T.go 1 (fun n9 => (rfl : _ = exe ξ n9 (d + 2) j_U_tellLengths 178 [(0, .ref 17), (1, J n), (2, J (k + (11 + z24))), (3, J i), (4, J z1), (5, J 0), (6, J (11 + z24))] [] s24)) ?_
                              refine T.iinc (lv' := [(0, .ref 17), (1, J n), (2, J (k + (11 + z24))), (3, J (i + 1)), (4, J z1), (5, J 0), (6, J (11 + z24))]) rfl rfl rfl rfl ?_
                              refine T.go 1 (fun n9 => (rfl : _ = exe ξ n9 (d + 2) j_U_tellLengths 15 [(0, .ref 17), (1, J n), (2, J (k + (11 + z24))), (3, J (i + 1)), (4, J z1), (5, J 0), (6, J (11 + z24))] [] s24)) ?_
                              refine T.drop (lv := [(0, .ref 17), (1, J n), (2, J (k + (11 + z24))), (3, J (i + 1))]) [(4, J z1), (5, J 0), (6, J (11 + z24))] (by simp) ?_
                              exact ih  (k + (11 + z24)) (i + 1) s24 gs24 hU24 (by omega) (by omega) (by omega) (by omega) (by omega) (by omega)
                            · refine T.go 1 (fun n9 => (rfl : _ = exe ξ n9 (d + 2) j_U_tellLengths 158 [(0, .ref 17), (1, J n), (2, J k), (3, J i), (4, J z1), (5, J 0), (6, J (11 + z24))] [J 0] s23)) ?_
                              exact T.iretz rfl rfl (by omega) ⟨_, rfl, gs23, by omega, by omega, pz24_0⟩
                        · refine T.go 3 (fun n9 => (rfl : _ = exe ξ n9 (d + 2) j_U_tellLengths 124 [(0, .ref 17), (1, J n), (2, J k), (3, J i), (4, J z1), (5, J 0)] [J 3, .ref 17, J 3] s1)) ?_
                          obtain ⟨wx23, bix23, bex23, rox23, mx23, nx23, bx23, lx23, hux23, hrx23, hbx23, ⟨fx23a, fx23b, fx23c, fx23d, fx23e, fx23f, fx23g, fx23h, fx23i, fx23j⟩, ⟨fx23k, fx23l, fx23m, fx23n⟩, fx23o, fx23p⟩ := UL.unf hs1.1 pz1_0 hs
                          refine T.callv (as := [J 3]) (r := [J 3]) rfl rfl rfl rfl hux23 rfl (s_U_takeBits (d + 1) s t 3 s1 hs1.1  hs ht hst pz1_0 (by omega)) (fun v25 s25 hqs25 => ?_)
                          obtain ⟨z26, rfl, hs25, hzz26, hyz26, pz26_0, pz26_1⟩ := hqs25
                          have es25 := hs25
                          have hs25 := hs25.sub (w' := [17, 18]) (List.forall_mem_cons.mpr ⟨(by simp), (fun _ h => by cases h)⟩)
                          have k41 := es25.b.1 _ _ (nm_c ((by decide : ∀ u ∈ RwL, u ≠ 17) _ hs) nm_0) (fun l z => by cases z) hrx23
                          have gs25 := gs1.trans hs25
                          refine T.iadd rfl ?_
                          refine T.go 3 (fun n9 => (rfl : _ = exe ξ n9 (d + 2) j_U_tellLengths 143 [(0, .ref 17), (1, J n), (2, J k), (3, J i), (4, J z1), (5, J 0), (6, J (3 + z26))] [.ref 17] s25)) ?_
                          obtain ⟨wx24, bix24, bex24, rox24, mx24, nx24, bx24, lx24, hux24, hrx24, hbx24, ⟨fx24a, fx24b, fx24c, fx24d, fx24e, fx24f, fx24g, fx24h, fx24i, fx24j⟩, ⟨fx24k, fx24l, fx24m, fx24n⟩, fx24o, fx24p⟩ := UL.unf hs25.1 pz26_0 hs
                          refine T.get rfl rfl rfl hux24 rfl ?_
                          refine T.if_ne rfl rfl (by omega) (fun c50 => ?_) (fun c50 => ?_)
                          · refine T.go 1 (fun n9 => (rfl : _ = exe ξ n9 (d + 2) j_U_tellLengths 158 [(0, .ref 17), (1, J n), (2, J k), (3, J i), (4, J z1), (5, J 0), (6, J (3 + z26))] [J 0] s25)) ?_
                            exact T.iretz rfl rfl (by omega) ⟨_, rfl, gs25, by omega, by omega, pz26_0⟩
                          · refine T.go 3 (fun n9 => (rfl : _ = exe ξ n9 (d + 2) j_U_tellLengths 153 [(0, .ref 17), (1, J n), (2, J k), (3, J i), (4, J z1), (5, J 0), (6, J (3 + z26))] [J k, J n, J (3 + z26)] s25)) ?_
                            refine T.isub rfl ?_
                            refine T.icmp_le rfl rfl (by omega) (by omega) (fun c51 => ?_) (fun c51 => ?_)
                            · refine T.go 1 (fun n9 => (rfl : _ = exe ξ n9 (d + 2) j_U_tellLengths 160 [(0, .ref 17), (1, J n), (2, J k), (3, J i), (4, J z1), (5, J 0), (6, J (3 + z26))] [.ref 17] s25)) ?_
                              refine T.get rfl rfl rfl hux24 rfl ?_
                              refine T.go 3 (fun n9 => (rfl : _ = exe ξ n9 (d + 2) j_U_tellLengths 167 [(0, .ref 17), (1, J n), (2, J k), (3, J i), (4, J z1), (5, J 0), (6, J (3 + z26))] [J (3 + z26), J k, J k, .ref 18] s25)) ?_
                              refine T.iadd rfl ?_
                              refine T.go 1 (fun n9 => (rfl : _ = exe ξ n9 (d + 2) j_U_tellLengths 170 [(0, .ref 17), (1, J n), (2, J k), (3, J i), (4, J z1), (5, J 0), (6, J (3 + z26))] [J 0, J (k + (3 + z26)), J k, .ref 18] s25)) ?_
                              refine T.calls (as := [.ref 18, J k, J (k + (3 + z26)), J 0]) (r := []) rfl rfl (by decide) rfl rfl (s_J_fill d 18 k (k + (3 + z26)) 0 s25 hs25.1 kdX_18 (by decide) rfl (by decide) (Or.inl (by decide)) (by omega)) (fun v26 s26 hqs26 => ?_)
                              obtain ⟨rfl, hs26, pz27_0⟩ := hqs26
                              have es26 := hs26
                              have hs26 := hs26.sub (w' := [17, 18]) (List.forall_mem_cons.mpr ⟨(by simp), (fun _ h => by cases h)⟩)
                              have k42 := es26.b.1 _ _ (nm_c ((by decide : ∀ u ∈ RwL, u ≠ 18) _ hs) nm_0) (fun l z => by cases z) hrx24
                              have k43 := es26.b.1 _ _ (nm_c (by decide) nm_0) (fun l z => by cases z) hux24
                              have gs26 := gs25.trans hs26
                              have hU26 := UL.ints pz26_0 pz27_0
                              refine T.go 2 (fun n9 => (rfl : _ = exe ξ n9 (d + 2) j_U_tellLengths 176 [(0, .ref 17), (1, J n), (2, J k), (3, J i), (4, J z1), (5, J 0), (6, J (3 + z26))] [J (3 + z26), J k] s26)) ?_
                              refine T.iadd rfl ?_
                              refine T.go 1 (fun n9 => (rfl : _ = exe ξ n9 (d + 2) j_U_tellLengths 178 [(0, .ref 17), (1, J n), (2, J (k + (3 + z26))), (3, J i), (4, J z1), (5, J 0), (6, J (3 + z26))] [] s26)) ?_
                              refine T.iinc (lv' := [(0, .ref 17), (1, J n), (2, J (k + (3 + z26))), (3, J (i + 1)), (4, J z1), (5, J 0), (6, J (3 + z26))]) rfl rfl rfl rfl ?_
                              refine T.go 1 (fun n9 => (rfl : _ = exe ξ n9 (d + 2) j_U_tellLengths 15 [(0, .ref 17), (1, J n), (2, J (k + (3 + z26))), (3, J (i + 1)), (4, J z1), (5, J 0), (6, J (3 + z26))] [] s26)) ?_
                              refine T.drop (lv := [(0, .ref 17), (1, J n), (2, J (k + (3 + z26))), (3, J (i + 1))]) [(4, J z1), (5, J 0), (6, J (3 + z26))] (by simp) ?_
                              exact ih  (k + (3 + z26)) (i + 1) s26 gs26 hU26 (by omega) (by omega) (by omega) (by omega) (by omega) (by omega)
                            · refine T.go 1 (fun n9 => (rfl : _ = exe ξ n9 (d + 2) j_U_tellLengths 158 [(0, .ref 17), (1, J n), (2, J k), (3, J i), (4, J z1), (5, J 0), (6, J (3 + z26))] [J 0] s25)) ?_
                              exact T.iretz rfl rfl (by omega) ⟨_, rfl, gs25, by omega, by omega, pz26_0⟩
                      · refine T.go 3 (fun n9 => (rfl : _ = exe ξ n9 (d + 2) j_U_tellLengths 107 [(0, .ref 17), (1, J n), (2, J k), (3, J i), (4, J z1), (5, J 0)] [J 2, .ref 17, J 3] s1)) ?_
                        obtain ⟨wx25, bix25, bex25, rox25, mx25, nx25, bx25, lx25, hux25, hrx25, hbx25, ⟨fx25a, fx25b, fx25c, fx25d, fx25e, fx25f, fx25g, fx25h, fx25i, fx25j⟩, ⟨fx25k, fx25l, fx25m, fx25n⟩, fx25o, fx25p⟩ := UL.unf hs1.1 pz1_0 hs
                        refine T.callv (as := [J 2]) (r := [J 3]) rfl rfl rfl rfl hux25 rfl (s_U_takeBits (d + 1) s t 2 s1 hs1.1  hs ht hst pz1_0 (by omega)) (fun v27 s27 hqs27 => ?_)
                        obtain ⟨z28, rfl, hs27, hzz28, hyz28, pz28_0, pz28_1⟩ := hqs27
                        have es27 := hs27
                        have hs27 := hs27.sub (w' := [17, 18]) (List.forall_mem_cons.mpr ⟨(by simp), (fun _ h => by cases h)⟩)
                        have k44 := es27.b.1 _ _ (nm_c ((by decide : ∀ u ∈ RwL, u ≠ 17) _ hs) nm_0) (fun l z => by cases z) hrx25
                        have gs27 := gs1.trans hs27
                        refine T.iadd rfl ?_
                        refine T.go 3 (fun n9 => (rfl : _ = exe ξ n9 (d + 2) j_U_tellLengths 143 [(0, .ref 17), (1, J n), (2, J k), (3, J i), (4, J z1), (5, J 0), (6, J (3 + z28))] [.ref 17] s27)) ?_
                        obtain ⟨wx26, bix26, bex26, rox26, mx26, nx26, bx26, lx26, hux26, hrx26, hbx26, ⟨fx26a, fx26b, fx26c, fx26d, fx26e, fx26f, fx26g, fx26h, fx26i, fx26j⟩, ⟨fx26k, fx26l, fx26m, fx26n⟩, fx26o, fx26p⟩ := UL.unf hs27.1 pz28_0 hs
                        refine T.get rfl rfl rfl hux26 rfl ?_
                        refine T.if_ne rfl rfl (by omega) (fun c52 => ?_) (fun c52 => ?_)
                        · refine T.go 1 (fun n9 => (rfl : _ = exe ξ n9 (d + 2) j_U_tellLengths 158 [(0, .ref 17), (1, J n), (2, J k), (3, J i), (4, J z1), (5, J 0), (6, J (3 + z28))] [J 0] s27)) ?_
                          exact T.iretz rfl rfl (by omega) ⟨_, rfl, gs27, by omega, by omega, pz28_0⟩
                        · refine T.go 3 (fun n9 => (rfl : _ = exe ξ n9 (d + 2) j_U_tellLengths 153 [(0, .ref 17), (1, J n), (2, J k), (3, J i), (4, J z1), (5, J 0), (6, J (3 + z28))] [J k, J n, J (3 + z28)] s27)) ?_
                          refine T.isub rfl ?_
                          refine T.icmp_le rfl rfl (by omega) (by omega) (fun c53 => ?_) (fun c53 => ?_)
                          · refine T.go 1 (fun n9 => (rfl : _ = exe ξ n9 (d + 2) j_U_tellLengths 160 [(0, .ref 17), (1, J n), (2, J k), (3, J i), (4, J z1), (5, J 0), (6, J (3 + z28))] [.ref 17] s27)) ?_
                            refine T.get rfl rfl rfl hux26 rfl ?_
                            refine T.go 3 (fun n9 => (rfl : _ = exe ξ n9 (d + 2) j_U_tellLengths 167 [(0, .ref 17), (1, J n), (2, J k), (3, J i), (4, J z1), (5, J 0), (6, J (3 + z28))] [J (3 + z28), J k, J k, .ref 18] s27)) ?_
                            refine T.iadd rfl ?_
                            refine T.go 1 (fun n9 => (rfl : _ = exe ξ n9 (d + 2) j_U_tellLengths 170 [(0, .ref 17), (1, J n), (2, J k), (3, J i), (4, J z1), (5, J 0), (6, J (3 + z28))] [J 0, J (k + (3 + z28)), J k, .ref 18] s27)) ?_
                            refine T.calls (as := [.ref 18, J k, J (k + (3 + z28)), J 0]) (r := []) rfl rfl (by decide) rfl rfl (s_J_fill d 18 k (k + (3 + z28)) 0 s27 hs27.1 kdX_18 (by decide) rfl (by decide) (Or.inl (by decide)) (by omega)) (fun v28 s28 hqs28 => ?_)
                            obtain ⟨rfl, hs28, pz29_0⟩ := hqs28
                            have es28 := hs28
                            have hs28 := hs28.sub (w' := [17, 18]) (List.forall_mem_cons.mpr ⟨(by simp), (fun _ h => by cases h)⟩)
                            have k45 := es28.b.1 _ _ (nm_c ((by decide : ∀ u ∈ RwL, u ≠ 18) _ hs) nm_0) (fun l z => by cases z) hrx26
                            have k46 := es28.b.1 _ _ (nm_c (by decide) nm_0) (fun l z => by cases z) hux26
                            have gs28 := gs27.trans hs28
                            have hU28 := UL.ints pz28_0 pz29_0
                            refine T.go 2 (fun n9 => (rfl : _ = exe ξ n9 (d + 2) j_U_tellLengths 176 [(0, .ref 17), (1, J n), (2, J k), (3, J i), (4, J z1), (5, J 0), (6, J (3 + z28))] [J (3 + z28), J k] s28)) ?_
                            refine T.iadd rfl ?_
                            refine T.go 1 (fun n9 => (rfl : _ = exe ξ n9 (d + 2) j_U_tellLengths 178 [(0, .ref 17), (1, J n), (2, J (k + (3 + z28))), (3, J i), (4, J z1), (5, J 0), (6, J (3 + z28))] [] s28)) ?_
                            refine T.iinc (lv' := [(0, .ref 17), (1, J n), (2, J (k + (3 + z28))), (3, J (i + 1)), (4, J z1), (5, J 0), (6, J (3 + z28))]) rfl rfl rfl rfl ?_
                            refine T.go 1 (fun n9 => (rfl : _ = exe ξ n9 (d + 2) j_U_tellLengths 15 [(0, .ref 17), (1, J n), (2, J (k + (3 + z28))), (3, J (i + 1)), (4, J z1), (5, J 0), (6, J (3 + z28))] [] s28)) ?_
                            refine T.drop (lv := [(0, .ref 17), (1, J n), (2, J (k + (3 + z28))), (3, J (i + 1))]) [(4, J z1), (5, J 0), (6, J (3 + z28))] (by simp) ?_
                            exact ih  (k + (3 + z28)) (i + 1) s28 gs28 hU28 (by omega) (by omega) (by omega) (by omega) (by omega) (by omega)
                          · refine T.go 1 (fun n9 => (rfl : _ = exe ξ n9 (d + 2) j_U_tellLengths 158 [(0, .ref 17), (1, J n), (2, J k), (3, J i), (4, J z1), (5, J 0), (6, J (3 + z28))] [J 0] s27)) ?_
                            exact T.iretz rfl rfl (by omega) ⟨_, rfl, gs27, by omega, by omega, pz28_0⟩
                    · refine T.go 4 (fun n9 => (rfl : _ = exe ξ n9 (d + 2) j_U_tellLengths 143 [(0, .ref 17), (1, J n), (2, J k), (3, J i), (4, J z1), (5, J 0), (6, J 1)] [.ref 17] s1)) ?_
                      obtain ⟨wx27, bix27, bex27, rox27, mx27, nx27, bx27, lx27, hux27, hrx27, hbx27, ⟨fx27a, fx27b, fx27c, fx27d, fx27e, fx27f, fx27g, fx27h, fx27i, fx27j⟩, ⟨fx27k, fx27l, fx27m, fx27n⟩, fx27o, fx27p⟩ := UL.unf hs1.1 pz1_0 hs
                      refine T.get rfl rfl rfl hux27 rfl ?_
                      refine T.if_ne rfl rfl (by omega) (fun c54 => ?_) (fun c54 => ?_)
                      · refine T.go 1 (fun n9 => (rfl : _ = exe ξ n9 (d + 2) j_U_tellLengths 158 [(0, .ref 17), (1, J n), (2, J k), (3, J i), (4, J z1), (5, J 0), (6, J 1)] [J 0] s1)) ?_
                        exact T.iretz rfl rfl (by omega) ⟨_, rfl, gs1, by omega, by omega, pz1_0⟩
                      · refine T.go 3 (fun n9 => (rfl : _ = exe ξ n9 (d + 2) j_U_tellLengths 153 [(0, .ref 17), (1, J n), (2, J k), (3, J i), (4, J z1), (5, J 0), (6, J 1)] [J k, J n, J 1] s1)) ?_
                        refine T.isub rfl ?_
                        refine T.icmp_le rfl rfl (by omega) (by omega) (fun c55 => ?_) (fun c55 => ?_)
                        · refine T.go 1 (fun n9 => (rfl : _ = exe ξ n9 (d + 2) j_U_tellLengths 160 [(0, .ref 17), (1, J n), (2, J k), (3, J i), (4, J z1), (5, J 0), (6, J 1)] [.ref 17] s1)) ?_
                          refine T.get rfl rfl rfl hux27 rfl ?_
                          refine T.go 3 (fun n9 => (rfl : _ = exe ξ n9 (d + 2) j_U_tellLengths 167 [(0, .ref 17), (1, J n), (2, J k), (3, J i), (4, J z1), (5, J 0), (6, J 1)] [J 1, J k, J k, .ref 18] s1)) ?_
                          refine T.iadd rfl ?_
                          refine T.go 1 (fun n9 => (rfl : _ = exe ξ n9 (d + 2) j_U_tellLengths 170 [(0, .ref 17), (1, J n), (2, J k), (3, J i), (4, J z1), (5, J 0), (6, J 1)] [J 0, J (k + 1), J k, .ref 18] s1)) ?_
                          refine T.calls (as := [.ref 18, J k, J (k + 1), J 0]) (r := []) rfl rfl (by decide) rfl rfl (s_J_fill d 18 k (k + 1) 0 s1 hs1.1 kdX_18 (by decide) rfl (by decide) (Or.inl (by decide)) (by omega)) (fun v29 s29 hqs29 => ?_)
                          obtain ⟨rfl, hs29, pz30_0⟩ := hqs29
                          have es29 := hs29
                          have hs29 := hs29.sub (w' := [17, 18]) (List.forall_mem_cons.mpr ⟨(by simp), (fun _ h => by cases h)⟩)
                          have k47 := es29.b.1 _ _ (nm_c ((by decide : ∀ u ∈ RwL, u ≠ 18) _ hs) nm_0) (fun l z => by cases z) hrx27
                          have k48 := es29.b.1 _ _ (nm_c (by decide) nm_0) (fun l z => by cases z) hux27
                          have gs29 := gs1.trans hs29
                          have hU29 := UL.ints pz1_0 pz30_0
                          refine T.go 2 (fun n9 => (rfl : _ = exe ξ n9 (d + 2) j_U_tellLengths 176 [(0, .ref 17), (1, J n), (2, J k), (3, J i), (4, J z1), (5, J 0), (6, J 1)] [J 1, J k] s29)) ?_
                          refine T.iadd rfl ?_
                          refine T.go 1 (fun n9 => (rfl : _ = exe ξ n9 (d + 2) j_U_tellLengths 178 [(0, .ref 17), (1, J n), (2, J (k + 1)), (3, J i), (4, J z1), (5, J 0), (6, J 1)] [] s29)) ?_
                          refine T.iinc (lv' := [(0, .ref 17), (1, J n), (2, J (k + 1)), (3, J (i + 1)), (4, J z1), (5, J 0), (6, J 1)]) rfl rfl rfl rfl ?_
                          refine T.go 1 (fun n9 => (rfl : _ = exe ξ n9 (d + 2) j_U_tellLengths 15 [(0, .ref 17), (1, J n), (2, J (k + 1)), (3, J (i + 1)), (4, J z1), (5, J 0), (6, J 1)] [] s29)) ?_
                          refine T.drop (lv := [(0, .ref 17), (1, J n), (2, J (k + 1)), (3, J (i + 1))]) [(4, J z1), (5, J 0), (6, J 1)] (by simp) ?_
                          exact ih  (k + 1) (i + 1) s29 gs29 hU29 (by omega) (by omega) (by omega) (by omega) (by omega) (by omega)
                        · refine T.go 1 (fun n9 => (rfl : _ = exe ξ n9 (d + 2) j_U_tellLengths 158 [(0, .ref 17), (1, J n), (2, J k), (3, J i), (4, J z1), (5, J 0), (6, J 1)] [J 0] s1)) ?_
                          exact T.iretz rfl rfl (by omega) ⟨_, rfl, gs1, by omega, by omega, pz1_0⟩
                  · refine T.go 1 (fun n9 => (rfl : _ = exe ξ n9 (d + 2) j_U_tellLengths 73 [(0, .ref 17), (1, J n), (2, J k), (3, J i), (4, J z1)] [.ref 17] s1)) ?_
                    obtain ⟨wx28, bix28, bex28, rox28, mx28, nx28, bx28, lx28, hux28, hrx28, hbx28, ⟨fx28a, fx28b, fx28c, fx28d, fx28e, fx28f, fx28g, fx28h, fx28i, fx28j⟩, ⟨fx28k, fx28l, fx28m, fx28n⟩, fx28o, fx28p⟩ := UL.unf hs1.1 pz1_0 hs
                    refine T.get rfl rfl rfl hux28 rfl ?_
                    refine T.go 2 (fun n9 => (rfl : _ = exe ξ n9 (d + 2) j_U_tellLengths 78 [(0, .ref 17), (1, J n), (2, J k), (3, J i), (4, J z1)] [J 1, J k, .ref 18] s1)) ?_
                    refine T.isub rfl ?_
                    obtain ⟨lx29, hix29, elx29⟩ := hs1.1.ints kdX_18
                    refine T.iald rfl rfl hix29 (by omega) (fun z31 hzz31 hyz31 hez31 => ?_)
                    refine T.go 4 (fun n9 => (rfl : _ = exe ξ n9 (d + 2) j_U_tellLengths 90 [(0, .ref 17), (1, J n), (2, J k), (3, J i), (4, J z1), (5, J z31)] [J 16, J z1] s1)) ?_
                    refine T.icmp_ge rfl rfl (by omega) (by omega) (fun c56 => ?_) (fun c56 => ?_)
                    · refine T.go 2 (fun n9 => (rfl : _ = exe ξ n9 (d + 2) j_U_tellLengths 101 [(0, .ref 17), (1, J n), (2, J k), (3, J i), (4, J z1), (5, J z31)] [J 16, J z1] s1)) ?_
                      refine T.icmp_ne rfl rfl (by omega) (by omega) (fun c57 => ?_) (fun c57 => ?_)
                      · refine T.go 2 (fun n9 => (rfl : _ = exe ξ n9 (d + 2) j_U_tellLengths 118 [(0, .ref 17), (1, J n), (2, J k), (3, J i), (4, J z1), (5, J z31)] [J 17, J z1] s1)) ?_
                        refine T.icmp_ne rfl rfl (by omega) (by omega) (fun c58 => ?_) (fun c58 => ?_)
                        · refine T.go 3 (fun n9 => (rfl : _ = exe ξ n9 (d + 2) j_U_tellLengths 136 [(0, .ref 17), (1, J n), (2, J k), (3, J i), (4, J z1), (5, J z31)] [J 7, .ref 17, J 11] s1)) ?_
                          refine T.callv (as := [J 7]) (r := [J 11]) rfl rfl rfl rfl hux28 rfl (s_U_takeBits (d + 1) s t 7 s1 hs1.1  hs ht hst pz1_0 (by omega)) (fun v30 s30 hqs30 => ?_)
                          obtain ⟨z32, rfl, hs30, hzz32, hyz32, pz32_0, pz32_1⟩ := hqs30
                          have es30 := hs30
                          have hs30 := hs30.sub (w' := [17, 18]) (List.forall_mem_cons.mpr ⟨(by simp), (fun _ h => by cases h)⟩)
                          have k49 := es30.b.1 _ _ (nm_c ((by decide : ∀ u ∈ RwL, u ≠ 17) _ hs) nm_0) (fun l z => by cases z) hrx28
                          have k50 := es30.b.1 _ _ (nm_c (by decide) nm_0) (fun l z => by cases z) hix29
                          have gs30 := gs1.trans hs30
                          refine T.iadd rfl ?_
                          refine T.go 2 (fun n9 => (rfl : _ = exe ξ n9 (d + 2) j_U_tellLengths 143 [(0, .ref 17), (1, J n), (2, J k), (3, J i), (4, J z1), (5, J z31), (6, J (11 + z32))] [.ref 17] s30)) ?_
                          obtain ⟨wx30, bix30, bex30, rox30, mx30, nx30, bx30, lx30, hux30, hrx30, hbx30, ⟨fx30a, fx30b, fx30c, fx30d, fx30e, fx30f, fx30g, fx30h, fx30i, fx30j⟩, ⟨fx30k, fx30l, fx30m, fx30n⟩, fx30o, fx30p⟩ := UL.unf hs30.1 pz32_0 hs
                          refine T.get rfl rfl rfl hux30 rfl ?_
                          refine T.if_ne rfl rfl (by omega) (fun c59 => ?_) (fun c59 => ?_)
                          · refine T.go 1 (fun n9 => (rfl : _ = exe ξ n9 (d + 2) j_U_tellLengths 158 [(0, .ref 17), (1, J n), (2, J k), (3, J i), (4, J z1), (5, J z31), (6, J (11 + z32))] [J 0] s30)) ?_
                            exact T.iretz rfl rfl (by omega) ⟨_, rfl, gs30, by omega, by omega, pz32_0⟩
                          · refine T.go 3 (fun n9 => (rfl : _ = exe ξ n9 (d + 2) j_U_tellLengths 153 [(0, .ref 17), (1, J n), (2, J k), (3, J i), (4, J z1), (5, J z31), (6, J (11 + z32))] [J k, J n, J (11 + z32)] s30)) ?_
                            refine T.isub rfl ?_
                            refine T.icmp_le rfl rfl (by omega) (by omega) (fun c60 => ?_) (fun c60 => ?_)
                            · refine T.go 1 (fun n9 => (rfl : _ = exe ξ n9 (d + 2) j_U_tellLengths 160 [(0, .ref 17), (1, J n), (2, J k), (3, J i), (4, J z1), (5, J z31), (6, J (11 + z32))] [.ref 17] s30)) ?_
                              refine T.get rfl rfl rfl hux30 rfl ?_
                              refine T.go 3 (fun n9 => (rfl : _ = exe ξ n9 (d + 2) j_U_tellLengths 167 [(0, .ref 17), (1, J n), (2, J k), (3, J i), (4, J z1), (5, J z31), (6, J (11 + z32))] [J (11 + z32), J k, J k, .ref 18] s30)) ?_
                              refine T.iadd rfl ?_
                              refine T.go 1 (fun n9 => (rfl : _ = exe ξ n9 (d + 2) j_U_tellLengths 170 [(0, .ref 17), (1, J n), (2, J k), (3, J i), (4, J z1), (5, J z31), (6, J (11 + z32))] [J z31, J (k + (11 + z32)), J k, .ref 18] s30)) ?_
                              refine T.calls (as := [.ref 18, J k, J (k + (11 + z32)), J z31]) (r := []) rfl rfl (by decide) rfl rfl (s_J_fill d 18 k (k + (11 + z32)) z31 s30 hs30.1 kdX_18 (by decide) rfl (by decide) (Or.inl (by decide)) (by omega)) (fun v31 s31 hqs31 => ?_)
                              obtain ⟨rfl, hs31, pz33_0⟩ := hqs31
                              have es31 := hs31
                              have hs31 := hs31.sub (w' := [17, 18]) (List.forall_mem_cons.mpr ⟨(by simp), (fun _ h => by cases h)⟩)
                              have k51 := es31.b.1 _ _ (nm_c ((by decide : ∀ u ∈ RwL, u ≠ 18) _ hs) nm_0) (fun l z => by cases z) hrx30
                              have k52 := es31.b.1 _ _ (nm_c (by decide) nm_0) (fun l z => by cases z) hux30
                              have gs31 := gs30.trans hs31
                              have hU31 := UL.ints pz32_0 pz33_0
                              refine T.go 2 (fun n9 => (rfl : _ = exe ξ n9 (d + 2) j_U_tellLengths 176 [(0, .ref 17), (1, J n), (2, J k), (3, J i), (4, J z1), (5, J z31), (6, J (11 + z32))] [J (11 + z32), J k] s31)) ?_
                              refine T.iadd rfl ?_
                              refine T.go 1 (fun n9 => (rfl : _ = exe ξ n9 (d + 2) j_U_tellLengths 178 [(0, .ref 17), (1, J n), (2, J (k + (11 + z32))), (3, J i), (4, J z1), (5, J z31), (6, J (11 + z32))] [] s31)) ?_
                              refine T.iinc (lv' := [(0, .ref 17), (1, J n), (2, J (k + (11 + z32))), (3, J (i + 1)), (4, J z1), (5, J z31), (6, J (11 + z32))]) rfl rfl rfl rfl ?_
                              refine T.go 1 (fun n9 => (rfl : _ = exe ξ n9 (d + 2) j_U_tellLengths 15 [(0, .ref 17), (1, J n), (2, J (k + (11 + z32))), (3, J (i + 1)), (4, J z1), (5, J z31), (6, J (11 + z32))] [] s31)) ?_
                              refine T.drop (lv := [(0, .ref 17), (1, J n), (2, J (k + (11 + z32))), (3, J (i + 1))]) [(4, J z1), (5, J z31), (6, J (11 + z32))] (by simp) ?_
                              exact ih  (k + (11 + z32)) (i + 1) s31 gs31 hU31 (by omega) (by omega) (by omega) (by omega) (by omega) (by omega)
                            · refine T.go 1 (fun n9 => (rfl : _ = exe ξ n9 (d + 2) j_U_tellLengths 158 [(0, .ref 17), (1, J n), (2, J k), (3, J i), (4, J z1), (5, J z31), (6, J (11 + z32))] [J 0] s30)) ?_
                              exact T.iretz rfl rfl (by omega) ⟨_, rfl, gs30, by omega, by omega, pz32_0⟩
                        · refine T.go 3 (fun n9 => (rfl : _ = exe ξ n9 (d + 2) j_U_tellLengths 124 [(0, .ref 17), (1, J n), (2, J k), (3, J i), (4, J z1), (5, J z31)] [J 3, .ref 17, J 3] s1)) ?_
                          refine T.callv (as := [J 3]) (r := [J 3]) rfl rfl rfl rfl hux28 rfl (s_U_takeBits (d + 1) s t 3 s1 hs1.1  hs ht hst pz1_0 (by omega)) (fun v32 s32 hqs32 => ?_)
                          obtain ⟨z34, rfl, hs32, hzz34, hyz34, pz34_0, pz34_1⟩ := hqs32
                          have es32 := hs32
                          have hs32 := hs32.sub (w' := [17, 18]) (List.forall_mem_cons.mpr ⟨(by simp), (fun _ h => by cases h)⟩)
                          have k53 := es32.b.1 _ _ (nm_c ((by decide : ∀ u ∈ RwL, u ≠ 17) _ hs) nm_0) (fun l z => by cases z) hrx28
                          have k54 := es32.b.1 _ _ (nm_c (by decide) nm_0) (fun l z => by cases z) hix29
                          have gs32 := gs1.trans hs32
                          refine T.iadd rfl ?_
                          refine T.go 3 (fun n9 => (rfl : _ = exe ξ n9 (d + 2) j_U_tellLengths 143 [(0, .ref 17), (1, J n), (2, J k), (3, J i), (4, J z1), (5, J z31), (6, J (3 + z34))] [.ref 17] s32)) ?_
                          obtain ⟨wx31, bix31, bex31, rox31, mx31, nx31, bx31, lx31, hux31, hrx31, hbx31, ⟨fx31a, fx31b, fx31c, fx31d, fx31e, fx31f, fx31g, fx31h, fx31i, fx31j⟩, ⟨fx31k, fx31l, fx31m, fx31n⟩, fx31o, fx31p⟩ := UL.unf hs32.1 pz34_0 hs
                          refine T.get rfl rfl rfl hux31 rfl ?_
                          refine T.if_ne rfl rfl (by omega) (fun c61 => ?_) (fun c61 => ?_)
                          · refine T.go 1 (fun n9 => (rfl : _ = exe ξ n9 (d + 2) j_U_tellLengths 158 [(0, .ref 17), (1, J n), (2, J k), (3, J i), (4, J z1), (5, J z31), (6, J (3 + z34))] [J 0] s32)) ?_
                            exact T.iretz rfl rfl (by omega) ⟨_, rfl, gs32, by omega, by omega, pz34_0⟩
                          · refine T.go 3 (fun n9 => (rfl : _ = exe ξ n9 (d + 2) j_U_tellLengths 153 [(0, .ref 17), (1, J n), (2, J k), (3, J i), (4, J z1), (5, J z31), (6, J (3 + z34))] [J k, J n, J (3 + z34)] s32)) ?_
                            refine T.isub rfl ?_
                            refine T.icmp_le rfl rfl (by omega) (by omega) (fun c62 => ?_) (fun c62 => ?_)
                            · refine T.go 1 (fun n9 => (rfl : _ = exe ξ n9 (d + 2) j_U_tellLengths 160 [(0, .ref 17), (1, J n), (2, J k), (3, J i), (4, J z1), (5, J z31), (6, J (3 + z34))] [.ref 17] s32)) ?_
                              refine T.get rfl rfl rfl hux31 rfl ?_
                              refine T.go 3 (fun n9 => (rfl : _ = exe ξ n9 (d + 2) j_U_tellLengths 167 [(0, .ref 17), (1, J n), (2, J k), (3, J i), (4, J z1), (5, J z31), (6, J (3 + z34))] [J (3 + z34), J k, J k, .ref 18] s32)) ?_
                              refine T.iadd rfl ?_
                              refine T.go 1 (fun n9 => (rfl : _ = exe ξ n9 (d + 2) j_U_tellLengths 170 [(0, .ref 17), (1, J n), (2, J k), (3, J i), (4, J z1), (5, J z31), (6, J (3 + z34))] [J z31, J (k + (3 + z34)), J k, .ref 18] s32)) ?_
                              refine T.calls (as := [.ref 18, J k, J (k + (3 + z34)), J z31]) (r := []) rfl rfl (by decide) rfl rfl (s_J_fill d 18 k (k + (3 + z34)) z31 s32 hs32.1 kdX_18 (by decide) rfl (by decide) (Or.inl (by decide)) (by omega)) (fun v33 s33 hqs33 => ?_)
                              obtain ⟨rfl, hs33, pz35_0⟩ := hqs33
                              have es33 := hs33
                              have hs33 := hs33.sub (w' := [17, 18]) (List.forall_mem_cons.mpr ⟨(by simp), (fun _ h => by cases h)⟩)
                              have k55 := es33.b.1 _ _ (nm_c ((by decide : ∀ u ∈ RwL, u ≠ 18) _ hs) nm_0) (fun l z => by cases z) hrx31
                              have k56 := es33.b.1 _ _ (nm_c (by decide) nm_0) (fun l z => by cases z) hux31
                              have gs33 := gs32.trans hs33
                              have hU33 := UL.ints pz34_0 pz35_0
                              refine T.go 2 (fun n9 => (rfl : _ = exe ξ n9 (d + 2) j_U_tellLengths 176 [(0, .ref 17), (1, J n), (2, J k), (3, J i), (4, J z1), (5, J z31), (6, J (3 + z34))] [J (3 + z34), J k] s33)) ?_
                              refine T.iadd rfl ?_
                              refine T.go 1 (fun n9 => (rfl : _ = exe ξ n9 (d + 2) j_U_tellLengths 178 [(0, .ref 17), (1, J n), (2, J (k + (3 + z34))), (3, J i), (4, J z1), (5, J z31), (6, J (3 + z34))] [] s33)) ?_
                              refine T.iinc (lv' := [(0, .ref 17), (1, J n), (2, J (k + (3 + z34))), (3, J (i + 1)), (4, J z1), (5, J z31), (6, J (3 + z34))]) rfl rfl rfl rfl ?_
                              refine T.go 1 (fun n9 => (rfl : _ = exe ξ n9 (d + 2) j_U_tellLengths 15 [(0, .ref 17), (1, J n), (2, J (k + (3 + z34))), (3, J (i + 1)), (4, J z1), (5, J z31), (6, J (3 + z34))] [] s33)) ?_
                              refine T.drop (lv := [(0, .ref 17), (1, J n), (2, J (k + (3 + z34))), (3, J (i + 1))]) [(4, J z1), (5, J z31), (6, J (3 + z34))] (by simp) ?_
                              exact ih  (k + (3 + z34)) (i + 1) s33 gs33 hU33 (by omega) (by omega) (by omega) (by omega) (by omega) (by omega)
                            · refine T.go 1 (fun n9 => (rfl : _ = exe ξ n9 (d + 2) j_U_tellLengths 158 [(0, .ref 17), (1, J n), (2, J k), (3, J i), (4, J z1), (5, J z31), (6, J (3 + z34))] [J 0] s32)) ?_
                              exact T.iretz rfl rfl (by omega) ⟨_, rfl, gs32, by omega, by omega, pz34_0⟩
                      · refine T.go 3 (fun n9 => (rfl : _ = exe ξ n9 (d + 2) j_U_tellLengths 107 [(0, .ref 17), (1, J n), (2, J k), (3, J i), (4, J z1), (5, J z31)] [J 2, .ref 17, J 3] s1)) ?_
                        refine T.callv (as := [J 2]) (r := [J 3]) rfl rfl rfl rfl hux28 rfl (s_U_takeBits (d + 1) s t 2 s1 hs1.1  hs ht hst pz1_0 (by omega)) (fun v34 s34 hqs34 => ?_)
                        obtain ⟨z36, rfl, hs34, hzz36, hyz36, pz36_0, pz36_1⟩ := hqs34
                        have es34 := hs34
                        have hs34 := hs34.sub (w' := [17, 18]) (List.forall_mem_cons.mpr ⟨(by simp), (fun _ h => by cases h)⟩)
                        have k57 := es34.b.1 _ _ (nm_c ((by decide : ∀ u ∈ RwL, u ≠ 17) _ hs) nm_0) (fun l z => by cases z) hrx28
                        have k58 := es34.b.1 _ _ (nm_c (by decide) nm_0) (fun l z => by cases z) hix29
                        have gs34 := gs1.trans hs34
                        refine T.iadd rfl ?_
                        refine T.go 3 (fun n9 => (rfl : _ = exe ξ n9 (d + 2) j_U_tellLengths 143 [(0, .ref 17), (1, J n), (2, J k), (3, J i), (4, J z1), (5, J z31), (6, J (3 + z36))] [.ref 17] s34)) ?_
                        obtain ⟨wx32, bix32, bex32, rox32, mx32, nx32, bx32, lx32, hux32, hrx32, hbx32, ⟨fx32a, fx32b, fx32c, fx32d, fx32e, fx32f, fx32g, fx32h, fx32i, fx32j⟩, ⟨fx32k, fx32l, fx32m, fx32n⟩, fx32o, fx32p⟩ := UL.unf hs34.1 pz36_0 hs
                        refine T.get rfl rfl rfl hux32 rfl ?_
                        refine T.if_ne rfl rfl (by omega) (fun c63 => ?_) (fun c63 => ?_)
                        · refine T.go 1 (fun n9 => (rfl : _ = exe ξ n9 (d + 2) j_U_tellLengths 158 [(0, .ref 17), (1, J n), (2, J k), (3, J i), (4, J z1), (5, J z31), (6, J (3 + z36))] [J 0] s34)) ?_
                          exact T.iretz rfl rfl (by omega) ⟨_, rfl, gs34, by omega, by omega, pz36_0⟩
                        · refine T.go 3 (fun n9 => (rfl : _ = exe ξ n9 (d + 2) j_U_tellLengths 153 [(0, .ref 17), (1, J n), (2, J k), (3, J i), (4, J z1), (5, J z31), (6, J (3 + z36))] [J k, J n, J (3 + z36)] s34)) ?_
                          refine T.isub rfl ?_
                          refine T.icmp_le rfl rfl (by omega) (by omega) (fun c64 => ?_) (fun c64 => ?_)
                          · refine T.go 1 (fun n9 => (rfl : _ = exe ξ n9 (d + 2) j_U_tellLengths 160 [(0, .ref 17), (1, J n), (2, J k), (3, J i), (4, J z1), (5, J z31), (6, J (3 + z36))] [.ref 17] s34)) ?_
                            refine T.get rfl rfl rfl hux32 rfl ?_
                            refine T.go 3 (fun n9 => (rfl : _ = exe ξ n9 (d + 2) j_U_tellLengths 167 [(0, .ref 17), (1, J n), (2, J k), (3, J i), (4, J z1), (5, J z31), (6, J (3 + z36))] [J (3 + z36), J k, J k, .ref 18] s34)) ?_
                            refine T.iadd rfl ?_
                            refine T.go 1 (fun n9 => (rfl : _ = exe ξ n9 (d + 2) j_U_tellLengths 170 [(0, .ref 17), (1, J n), (2, J k), (3, J i), (4, J z1), (5, J z31), (6, J (3 + z36))] [J z31, J (k + (3 + z36)), J k, .ref 18] s34)) ?_
                            refine T.calls (as := [.ref 18, J k, J (k + (3 + z36)), J z31]) (r := []) rfl rfl (by decide) rfl rfl (s_J_fill d 18 k (k + (3 + z36)) z31 s34 hs34.1 kdX_18 (by decide) rfl (by decide) (Or.inl (by decide)) (by omega)) (fun v35 s35 hqs35 => ?_)
                            obtain ⟨rfl, hs35, pz37_0⟩ := hqs35
                            have es35 := hs35
                            have hs35 := hs35.sub (w' := [17, 18]) (List.forall_mem_cons.mpr ⟨(by simp), (fun _ h => by cases h)⟩)
                            have k59 := es35.b.1 _ _ (nm_c ((by decide : ∀ u ∈ RwL, u ≠ 18) _ hs) nm_0) (fun l z => by cases z) hrx32
                            have k60 := es35.b.1 _ _ (nm_c (by decide) nm_0) (fun l z => by cases z) hux32
                            have gs35 := gs34.trans hs35
                            have hU35 := UL.ints pz36_0 pz37_0
                            refine T.go 2 (fun n9 => (rfl : _ = exe ξ n9 (d + 2) j_U_tellLengths 176 [(0, .ref 17), (1, J n), (2, J k), (3, J i), (4, J z1), (5, J z31), (6, J (3 + z36))] [J (3 + z36), J k] s35)) ?_
                            refine T.iadd rfl ?_
                            refine T.go 1 (fun n9 => (rfl : _ = exe ξ n9 (d + 2) j_U_tellLengths 178 [(0, .ref 17), (1, J n), (2, J (k + (3 + z36))), (3, J i), (4, J z1), (5, J z31), (6, J (3 + z36))] [] s35)) ?_
                            refine T.iinc (lv' := [(0, .ref 17), (1, J n), (2, J (k + (3 + z36))), (3, J (i + 1)), (4, J z1), (5, J z31), (6, J (3 + z36))]) rfl rfl rfl rfl ?_
                            refine T.go 1 (fun n9 => (rfl : _ = exe ξ n9 (d + 2) j_U_tellLengths 15 [(0, .ref 17), (1, J n), (2, J (k + (3 + z36))), (3, J (i + 1)), (4, J z1), (5, J z31), (6, J (3 + z36))] [] s35)) ?_
                            refine T.drop (lv := [(0, .ref 17), (1, J n), (2, J (k + (3 + z36))), (3, J (i + 1))]) [(4, J z1), (5, J z31), (6, J (3 + z36))] (by simp) ?_
                            exact ih  (k + (3 + z36)) (i + 1) s35 gs35 hU35 (by omega) (by omega) (by omega) (by omega) (by omega) (by omega)
                          · refine T.go 1 (fun n9 => (rfl : _ = exe ξ n9 (d + 2) j_U_tellLengths 158 [(0, .ref 17), (1, J n), (2, J k), (3, J i), (4, J z1), (5, J z31), (6, J (3 + z36))] [J 0] s34)) ?_
                            exact T.iretz rfl rfl (by omega) ⟨_, rfl, gs34, by omega, by omega, pz36_0⟩
                    · refine T.go 4 (fun n9 => (rfl : _ = exe ξ n9 (d + 2) j_U_tellLengths 143 [(0, .ref 17), (1, J n), (2, J k), (3, J i), (4, J z1), (5, J z31), (6, J 1)] [.ref 17] s1)) ?_
                      refine T.get rfl rfl rfl hux28 rfl ?_
                      refine T.if_ne rfl rfl (by omega) (fun c65 => ?_) (fun c65 => ?_)
                      · refine T.go 1 (fun n9 => (rfl : _ = exe ξ n9 (d + 2) j_U_tellLengths 158 [(0, .ref 17), (1, J n), (2, J k), (3, J i), (4, J z1), (5, J z31), (6, J 1)] [J 0] s1)) ?_
                        exact T.iretz rfl rfl (by omega) ⟨_, rfl, gs1, by omega, by omega, pz1_0⟩
                      · refine T.go 3 (fun n9 => (rfl : _ = exe ξ n9 (d + 2) j_U_tellLengths 153 [(0, .ref 17), (1, J n), (2, J k), (3, J i), (4, J z1), (5, J z31), (6, J 1)] [J k, J n, J 1] s1)) ?_
                        refine T.isub rfl ?_
                        refine T.icmp_le rfl rfl (by omega) (by omega) (fun c66 => ?_) (fun c66 => ?_)
                        · refine T.go 1 (fun n9 => (rfl : _ = exe ξ n9 (d + 2) j_U_tellLengths 160 [(0, .ref 17), (1, J n), (2, J k), (3, J i), (4, J z1), (5, J z31), (6, J 1)] [.ref 17] s1)) ?_
                          refine T.get rfl rfl rfl hux28 rfl ?_
                          refine T.go 3 (fun n9 => (rfl : _ = exe ξ n9 (d + 2) j_U_tellLengths 167 [(0, .ref 17), (1, J n), (2, J k), (3, J i), (4, J z1), (5, J z31), (6, J 1)] [J 1, J k, J k, .ref 18] s1)) ?_
                          refine T.iadd rfl ?_
                          refine T.go 1 (fun n9 => (rfl : _ = exe ξ n9 (d + 2) j_U_tellLengths 170 [(0, .ref 17), (1, J n), (2, J k), (3, J i), (4, J z1), (5, J z31), (6, J 1)] [J z31, J (k + 1), J k, .ref 18] s1)) ?_
                          refine T.calls (as := [.ref 18, J k, J (k + 1), J z31]) (r := []) rfl rfl (by decide) rfl rfl (s_J_fill d 18 k (k + 1) z31 s1 hs1.1 kdX_18 (by decide) rfl (by decide) (Or.inl (by decide)) (by omega)) (fun v36 s36 hqs36 => ?_)
                          obtain ⟨rfl, hs36, pz38_0⟩ := hqs36
                          have es36 := hs36
                          have hs36 := hs36.sub (w' := [17, 18]) (List.forall_mem_cons.mpr ⟨(by simp), (fun _ h => by cases h)⟩)
                          have k61 := es36.b.1 _ _ (nm_c ((by decide : ∀ u ∈ RwL, u ≠ 18) _ hs) nm_0) (fun l z => by cases z) hrx28
                          have k62 := es36.b.1 _ _ (nm_c (by decide) nm_0) (fun l z => by cases z) hux28
                          have gs36 := gs1.trans hs36
                          have hU36 := UL.ints pz1_0 pz38_0
                          refine T.go 2 (fun n9 => (rfl : _ = exe ξ n9 (d + 2) j_U_tellLengths 176 [(0, .ref 17), (1, J n), (2, J k), (3, J i), (4, J z1), (5, J z31), (6, J 1)] [J 1, J k] s36)) ?_
                          refine T.iadd rfl ?_
                          refine T.go 1 (fun n9 => (rfl : _ = exe ξ n9 (d + 2) j_U_tellLengths 178 [(0, .ref 17), (1, J n), (2, J (k + 1)), (3, J i), (4, J z1), (5, J z31), (6, J 1)] [] s36)) ?_
                          refine T.iinc (lv' := [(0, .ref 17), (1, J n), (2, J (k + 1)), (3, J (i + 1)), (4, J z1), (5, J z31), (6, J 1)]) rfl rfl rfl rfl ?_
                          refine T.go 1 (fun n9 => (rfl : _ = exe ξ n9 (d + 2) j_U_tellLengths 15 [(0, .ref 17), (1, J n), (2, J (k + 1)), (3, J (i + 1)), (4, J z1), (5, J z31), (6, J 1)] [] s36)) ?_
                          refine T.drop (lv := [(0, .ref 17), (1, J n), (2, J (k + 1)), (3, J (i + 1))]) [(4, J z1), (5, J z31), (6, J 1)] (by simp) ?_
                          exact ih  (k + 1) (i + 1) s36 gs36 hU36 (by omega) (by omega) (by omega) (by omega) (by omega) (by omega)
                        · refine T.go 1 (fun n9 => (rfl : _ = exe ξ n9 (d + 2) j_U_tellLengths 158 [(0, .ref 17), (1, J n), (2, J k), (3, J i), (4, J z1), (5, J z31), (6, J 1)] [J 0] s1)) ?_
                          exact T.iretz rfl rfl (by omega) ⟨_, rfl, gs1, by omega, by omega, pz1_0⟩
                · refine T.go 5 (fun n9 => (rfl : _ = exe ξ n9 (d + 2) j_U_tellLengths 90 [(0, .ref 17), (1, J n), (2, J k), (3, J i), (4, J z1), (5, J z1)] [J 16, J z1] s1)) ?_
                  refine T.icmp_ge rfl rfl (by omega) (by omega) (fun c67 => ?_) (fun c67 => ?_)
                  · refine T.go 2 (fun n9 => (rfl : _ = exe ξ n9 (d + 2) j_U_tellLengths 101 [(0, .ref 17), (1, J n), (2, J k), (3, J i), (4, J z1), (5, J z1)] [J 16, J z1] s1)) ?_
                    refine T.icmp_ne rfl rfl (by omega) (by omega) (fun c68 => ?_) (fun c68 => ?_)
                    · refine T.go 2 (fun n9 => (rfl : _ = exe ξ n9 (d + 2) j_U_tellLengths 118 [(0, .ref 17), (1, J n), (2, J k), (3, J i), (4, J z1), (5, J z1)] [J 17, J z1] s1)) ?_
                      refine T.icmp_ne rfl rfl (by omega) (by omega) (fun c69 => ?_) (fun c69 => ?_)
                      · refine T.go 3 (fun n9 => (rfl : _ = exe ξ n9 (d + 2) j_U_tellLengths 136 [(0, .ref 17), (1, J n), (2, J k), (3, J i), (4, J z1), (5, J z1)] [J 7, .ref 17, J 11] s1)) ?_
                        obtain ⟨wx33, bix33, bex33, rox33, mx33, nx33, bx33, lx33, hux33, hrx33, hbx33, ⟨fx33a, fx33b, fx33c, fx33d, fx33e, fx33f, fx33g, fx33h, fx33i, fx33j⟩, ⟨fx33k, fx33l, fx33m, fx33n⟩, fx33o, fx33p⟩ := UL.unf hs1.1 pz1_0 hs
                        refine T.callv (as := [J 7]) (r := [J 11]) rfl rfl rfl rfl hux33 rfl (s_U_takeBits (d + 1) s t 7 s1 hs1.1  hs ht hst pz1_0 (by omega)) (fun v37 s37 hqs37 => ?_)
                        obtain ⟨z39, rfl, hs37, hzz39, hyz39, pz39_0, pz39_1⟩ := hqs37
                        have es37 := hs37
                        have hs37 := hs37.sub (w' := [17, 18]) (List.forall_mem_cons.mpr ⟨(by simp), (fun _ h => by cases h)⟩)
                        have k63 := es37.b.1 _ _ (nm_c ((by decide : ∀ u ∈ RwL, u ≠ 17) _ hs) nm_0) (fun l z => by cases z) hrx33
                        have gs37 := gs1.trans hs37
                        refine T.iadd rfl ?_
                        refine T.go 2 (fun n9 => (rfl : _ = exe ξ n9 (d + 2) j_U_tellLengths 143 [(0, .ref 17), (1, J n), (2, J k), (3, J i), (4, J z1), (5, J z1), (6, J (11 + z39))] [.ref 17] s37)) ?_
                        obtain ⟨wx34, bix34, bex34, rox34, mx34, nx34, bx34, lx34, hux34, hrx34, hbx34, ⟨fx34a, fx34b, fx34c, fx34d, fx34e, fx34f, fx34g, fx34h, fx34i, fx34j⟩, ⟨fx34k, fx34l, fx34m, fx34n⟩, fx34o, fx34p⟩ := UL.unf hs37.1 pz39_0 hs
                        refine T.get rfl rfl rfl hux34 rfl ?_
                        refine T.if_ne rfl rfl (by omega) (fun c70 => ?_) (fun c70 => ?_)
                        · refine T.go 1 (fun n9 => (rfl : _ = exe ξ n9 (d + 2) j_U_tellLengths 158 [(0, .ref 17), (1, J n), (2, J k), (3, J i), (4, J z1), (5, J z1), (6, J (11 + z39))] [J 0] s37)) ?_
                          exact T.iretz rfl rfl (by omega) ⟨_, rfl, gs37, by omega, by omega, pz39_0⟩
                        · refine T.go 3 (fun n9 => (rfl : _ = exe ξ n9 (d + 2) j_U_tellLengths 153 [(0, .ref 17), (1, J n), (2, J k), (3, J i), (4, J z1), (5, J z1), (6, J (11 + z39))] [J k, J n, J (11 + z39)] s37)) ?_
                          refine T.isub rfl ?_
                          refine T.icmp_le rfl rfl (by omega) (by omega) (fun c71 => ?_) (fun c71 => ?_)
                          · refine T.go 1 (fun n9 => (rfl : _ = exe ξ n9 (d + 2) j_U_tellLengths 160 [(0, .ref 17), (1, J n), (2, J k), (3, J i), (4, J z1), (5, J z1), (6, J (11 + z39))] [.ref 17] s37)) ?_
                            refine T.get rfl rfl rfl hux34 rfl ?_
                            refine T.go 3 (fun n9 => (rfl : _ = exe ξ n9 (d + 2) j_U_tellLengths 167 [(0, .ref 17), (1, J n), (2, J k), (3, J i), (4, J z1), (5, J z1), (6, J (11 + z39))] [J (11 + z39), J k, J k, .ref 18] s37)) ?_
                            refine T.iadd rfl ?_
                            refine T.go 1 (fun n9 => (rfl : _ = exe ξ n9 (d + 2) j_U_tellLengths 170 [(0, .ref 17), (1, J n), (2, J k), (3, J i), (4, J z1), (5, J z1), (6, J (11 + z39))] [J z1, J (k + (11 + z39)), J k, .ref 18] s37)) ?_
                            refine T.calls (as := [.ref 18, J k, J (k + (11 + z39)), J z1]) (r := []) rfl rfl (by decide) rfl rfl (s_J_fill d 18 k (k + (11 + z39)) z1 s37 hs37.1 kdX_18 (by decide) rfl (by decide) (Or.inl (by decide)) (by omega)) (fun v38 s38 hqs38 => ?_)
                            obtain ⟨rfl, hs38, pz40_0⟩ := hqs38
                            have es38 := hs38
                            have hs38 := hs38.sub (w' := [17, 18]) (List.forall_mem_cons.mpr ⟨(by simp), (fun _ h => by cases h)⟩)
                            have k64 := es38.b.1 _ _ (nm_c ((by decide : ∀ u ∈ RwL, u ≠ 18) _ hs) nm_0) (fun l z => by cases z) hrx34
                            have k65 := es38.b.1 _ _ (nm_c (by decide) nm_0) (fun l z => by cases z) hux34
                            have gs38 := gs37.trans hs38
                            have hU38 := UL.ints pz39_0 pz40_0
                            refine T.go 2 (fun n9 => (rfl : _ = exe ξ n9 (d + 2) j_U_tellLengths 176 [(0, .ref 17), (1, J n), (2, J k), (3, J i), (4, J z1), (5, J z1), (6, J (11 + z39))] [J (11 + z39), J k] s38)) ?_
                            refine T.iadd rfl ?_
                            refine T.go 1 (fun n9 => (rfl : _ = exe ξ n9 (d + 2) j_U_tellLengths 178 [(0, .ref 17), (1, J n), (2, J (k + (11 + z39))), (3, J i), (4, J z1), (5, J z1), (6, J (11 + z39))] [] s38)) ?_
                            refine T.iinc (lv' := [(0, .ref 17), (1, J n), (2, J (k + (11 + z39))), (3, J (i + 1)), (4, J z1), (5, J z1), (6, J (11 + z39))]) rfl rfl rfl rfl ?_
                            refine T.go 1 (fun n9 => (rfl : _ = exe ξ n9 (d + 2) j_U_tellLengths 15 [(0, .ref 17), (1, J n), (2, J (k + (11 + z39))), (3, J (i + 1)), (4, J z1), (5, J z1), (6, J (11 + z39))] [] s38)) ?_
                            refine T.drop (lv := [(0, .ref 17), (1, J n), (2, J (k + (11 + z39))), (3, J (i + 1))]) [(4, J z1), (5, J z1), (6, J (11 + z39))] (by simp) ?_
                            exact ih  (k + (11 + z39)) (i + 1) s38 gs38 hU38 (by omega) (by omega) (by omega) (by omega) (by omega) (by omega)
                          · refine T.go 1 (fun n9 => (rfl : _ = exe ξ n9 (d + 2) j_U_tellLengths 158 [(0, .ref 17), (1, J n), (2, J k), (3, J i), (4, J z1), (5, J z1), (6, J (11 + z39))] [J 0] s37)) ?_
                            exact T.iretz rfl rfl (by omega) ⟨_, rfl, gs37, by omega, by omega, pz39_0⟩
                      · refine T.go 3 (fun n9 => (rfl : _ = exe ξ n9 (d + 2) j_U_tellLengths 124 [(0, .ref 17), (1, J n), (2, J k), (3, J i), (4, J z1), (5, J z1)] [J 3, .ref 17, J 3] s1)) ?_
                        obtain ⟨wx35, bix35, bex35, rox35, mx35, nx35, bx35, lx35, hux35, hrx35, hbx35, ⟨fx35a, fx35b, fx35c, fx35d, fx35e, fx35f, fx35g, fx35h, fx35i, fx35j⟩, ⟨fx35k, fx35l, fx35m, fx35n⟩, fx35o, fx35p⟩ := UL.unf hs1.1 pz1_0 hs
                        refine T.callv (as := [J 3]) (r := [J 3]) rfl rfl rfl rfl hux35 rfl (s_U_takeBits (d + 1) s t 3 s1 hs1.1  hs ht hst pz1_0 (by omega)) (fun v39 s39 hqs39 => ?_)
                        obtain ⟨z41, rfl, hs39, hzz41, hyz41, pz41_0, pz41_1⟩ := hqs39
                        have es39 := hs39
                        have hs39 := hs39.sub (w' := [17, 18]) (List.forall_mem_cons.mpr ⟨(by simp), (fun _ h => by cases h)⟩)
                        have k66 := es39.b.1 _ _ (nm_c ((by decide : ∀ u ∈ RwL, u ≠ 17) _ hs) nm_0) (fun l z => by cases z) hrx35
                        have gs39 := gs1.trans hs39
                        refine T.iadd rfl ?_
                        refine T.go 3 (fun n9 => (rfl : _ = exe ξ n9 (d + 2) j_U_tellLengths 143 [(0, .ref 17), (1, J n), (2, J k), (3, J i), (4, J z1), (5, J z1), (6, J (3 + z41))] [.ref 17] s39)) ?_
                        obtain ⟨wx36, bix36, bex36, rox36, mx36, nx36, bx36, lx36, hux36, hrx36, hbx36, ⟨fx36a, fx36b, fx36c, fx36d, fx36e, fx36f, fx36g, fx36h, fx36i, fx36j⟩, ⟨fx36k, fx36l, fx36m, fx36n⟩, fx36o, fx36p⟩ := UL.unf hs39.1 pz41_0 hs
                        refine T.get rfl rfl rfl hux36 rfl ?_
                        refine T.if_ne rfl rfl (by omega) (fun c72 => ?_) (fun c72 => ?_)
                        · refine T.go 1 (fun n9 => (rfl : _ = exe ξ n9 (d + 2) j_U_tellLengths 158 [(0, .ref 17), (1, J n), (2, J k), (3, J i), (4, J z1), (5, J z1), (6, J (3 + z41))] [J 0] s39)) ?_
                          exact T.iretz rfl rfl (by omega) ⟨_, rfl, gs39, by omega, by omega, pz41_0⟩
                        · refine T.go 3 (fun n9 => (rfl : _ = exe ξ n9 (d + 2) j_U_tellLengths 153 [(0, .ref 17), (1, J n), (2, J k), (3, J i), (4, J z1), (5, J z1), (6, J (3 + z41))] [J k, J n, J (3 + z41)] s39)) ?_
                          refine T.isub rfl ?_
                          refine T.icmp_le rfl rfl (by omega) (by omega) (fun c73 => ?_) (fun c73 => ?_)
                          · refine T.go 1 (fun n9 => (rfl : _ = exe ξ n9 (d + 2) j_U_tellLengths 160 [(0, .ref 17), (1, J n), (2, J k), (3, J i), (4, J z1), (5, J z1), (6, J (3 + z41))] [.ref 17] s39)) ?_
                            refine T.get rfl rfl rfl hux36 rfl ?_
                            refine T.go 3 (fun n9 => (rfl : _ = exe ξ n9 (d + 2) j_U_tellLengths 167 [(0, .ref 17), (1, J n), (2, J k), (3, J i), (4, J z1), (5, J z1), (6, J (3 + z41))] [J (3 + z41), J k, J k, .ref 18] s39)) ?_
                            refine T.iadd rfl ?_
                            refine T.go 1 (fun n9 => (rfl : _ = exe ξ n9 (d + 2) j_U_tellLengths 170 [(0, .ref 17), (1, J n), (2, J k), (3, J i), (4, J z1), (5, J z1), (6, J (3 + z41))] [J z1, J (k + (3 + z41)), J k, .ref 18] s39)) ?_
                            refine T.calls (as := [.ref 18, J k, J (k + (3 + z41)), J z1]) (r := []) rfl rfl (by decide) rfl rfl (s_J_fill d 18 k (k + (3 + z41)) z1 s39 hs39.1 kdX_18 (by decide) rfl (by decide) (Or.inl (by decide)) (by omega)) (fun v40 s40 hqs40 => ?_)
                            obtain ⟨rfl, hs40, pz42_0⟩ := hqs40
                            have es40 := hs40
                            have hs40 := hs40.sub (w' := [17, 18]) (List.forall_mem_cons.mpr ⟨(by simp), (fun _ h => by cases h)⟩)
                            have k67 := es40.b.1 _ _ (nm_c ((by decide : ∀ u ∈ RwL, u ≠ 18) _ hs) nm_0) (fun l z => by cases z) hrx36
                            have k68 := es40.b.1 _ _ (nm_c (by decide) nm_0) (fun l z => by cases z) hux36
                            have gs40 := gs39.trans hs40
                            have hU40 := UL.ints pz41_0 pz42_0
                            refine T.go 2 (fun n9 => (rfl : _ = exe ξ n9 (d + 2) j_U_tellLengths 176 [(0, .ref 17), (1, J n), (2, J k), (3, J i), (4, J z1), (5, J z1), (6, J (3 + z41))] [J (3 + z41), J k] s40)) ?_
                            refine T.iadd rfl ?_
                            refine T.go 1 (fun n9 => (rfl : _ = exe ξ n9 (d + 2) j_U_tellLengths 178 [(0, .ref 17), (1, J n), (2, J (k + (3 + z41))), (3, J i), (4, J z1), (5, J z1), (6, J (3 + z41))] [] s40)) ?_
                            refine T.iinc (lv' := [(0, .ref 17), (1, J n), (2, J (k + (3 + z41))), (3, J (i + 1)), (4, J z1), (5, J z1), (6, J (3 + z41))]) rfl rfl rfl rfl ?_
                            refine T.go 1 (fun n9 => (rfl : _ = exe ξ n9 (d + 2) j_U_tellLengths 15 [(0, .ref 17), (1, J n), (2, J (k + (3 + z41))), (3, J (i + 1)), (4, J z1), (5, J z1), (6, J (3 + z41))] [] s40)) ?_
                            refine T.drop (lv := [(0, .ref 17), (1, J n), (2, J (k + (3 + z41))), (3, J (i + 1))]) [(4, J z1), (5, J z1), (6, J (3 + z41))] (by simp) ?_
                            exact ih  (k + (3 + z41)) (i + 1) s40 gs40 hU40 (by omega) (by omega) (by omega) (by omega) (by omega) (by omega)
                          · refine T.go 1 (fun n9 => (rfl : _ = exe ξ n9 (d + 2) j_U_tellLengths 158 [(0, .ref 17), (1, J n), (2, J k), (3, J i), (4, J z1), (5, J z1), (6, J (3 + z41))] [J 0] s39)) ?_
                            exact T.iretz rfl rfl (by omega) ⟨_, rfl, gs39, by omega, by omega, pz41_0⟩
                    · refine T.go 3 (fun n9 => (rfl : _ = exe ξ n9 (d + 2) j_U_tellLengths 107 [(0, .ref 17), (1, J n), (2, J k), (3, J i), (4, J z1), (5, J z1)] [J 2, .ref 17, J 3] s1)) ?_
                      obtain ⟨wx37, bix37, bex37, rox37, mx37, nx37, bx37, lx37, hux37, hrx37, hbx37, ⟨fx37a, fx37b, fx37c, fx37d, fx37e, fx37f, fx37g, fx37h, fx37i, fx37j⟩, ⟨fx37k, fx37l, fx37m, fx37n⟩, fx37o, fx37p⟩ := UL.unf hs1.1 pz1_0 hs
                      refine T.callv (as := [J 2]) (r := [J 3]) rfl rfl rfl rfl hux37 rfl (s_U_takeBits (d + 1) s t 2 s1 hs1.1  hs ht hst pz1_0 (by omega)) (fun v41 s41 hqs41 => ?_)
                      obtain ⟨z43, rfl, hs41, hzz43, hyz43, pz43_0, pz43_1⟩ := hqs41
                      have es41 := hs41
                      have hs41 := hs41.sub (w' := [17, 18]) (List.forall_mem_cons.mpr ⟨(by simp), (fun _ h => by cases h)⟩)
                      have k69 := es41.b.1 _ _ (nm_c ((by decide : ∀ u ∈ RwL, u ≠ 17) _ hs) nm_0) (fun l z => by cases z) hrx37
                      have gs41 := gs1.trans hs41
                      refine T.iadd rfl ?_
                      refine T.go 3 (fun n9 => (rfl : _ = exe ξ n9 (d + 2) j_U_tellLengths 143 [(0, .ref 17), (1, J n), (2, J k), (3, J i), (4, J z1), (5, J z1), (6, J (3 + z43))] [.ref 17] s41)) ?_
                      obtain ⟨wx38, bix38, bex38, rox38, mx38, nx38, bx38, lx38, hux38, hrx38, hbx38, ⟨fx38a, fx38b, fx38c, fx38d, fx38e, fx38f, fx38g, fx38h, fx38i, fx38j⟩, ⟨fx38k, fx38l, fx38m, fx38n⟩, fx38o, fx38p⟩ := UL.unf hs41.1 pz43_0 hs
                      refine T.get rfl rfl rfl hux38 rfl ?_
                      refine T.if_ne rfl rfl (by omega) (fun c74 => ?_) (fun c74 => ?_)
                      · refine T.go 1 (fun n9 => (rfl : _ = exe ξ n9 (d + 2) j_U_tellLengths 158 [(0, .ref 17), (1, J n), (2, J k), (3, J i), (4, J z1), (5, J z1), (6, J (3 + z43))] [J 0] s41)) ?_
                        exact T.iretz rfl rfl (by omega) ⟨_, rfl, gs41, by omega, by omega, pz43_0⟩
                      · refine T.go 3 (fun n9 => (rfl : _ = exe ξ n9 (d + 2) j_U_tellLengths 153 [(0, .ref 17), (1, J n), (2, J k), (3, J i), (4, J z1), (5, J z1), (6, J (3 + z43))] [J k, J n, J (3 + z43)] s41)) ?_
                        refine T.isub rfl ?_
                        refine T.icmp_le rfl rfl (by omega) (by omega) (fun c75 => ?_) (fun c75 => ?_)
                        · refine T.go 1 (fun n9 => (rfl : _ = exe ξ n9 (d + 2) j_U_tellLengths 160 [(0, .ref 17), (1, J n), (2, J k), (3, J i), (4, J z1), (5, J z1), (6, J (3 + z43))] [.ref 17] s41)) ?_
                          refine T.get rfl rfl rfl hux38 rfl ?_
                          refine T.go 3 (fun n9 => (rfl : _ = exe ξ n9 (d + 2) j_U_tellLengths 167 [(0, .ref 17), (1, J n), (2, J k), (3, J i), (4, J z1), (5, J z1), (6, J (3 + z43))] [J (3 + z43), J k, J k, .ref 18] s41)) ?_
                          refine T.iadd rfl ?_
                          refine T.go 1 (fun n9 => (rfl : _ = exe ξ n9 (d + 2) j_U_tellLengths 170 [(0, .ref 17), (1, J n), (2, J k), (3, J i), (4, J z1), (5, J z1), (6, J (3 + z43))] [J z1, J (k + (3 + z43)), J k, .ref 18] s41)) ?_
                          refine T.calls (as := [.ref 18, J k, J (k + (3 + z43)), J z1]) (r := []) rfl rfl (by decide) rfl rfl (s_J_fill d 18 k (k + (3 + z43)) z1 s41 hs41.1 kdX_18 (by decide) rfl (by decide) (Or.inl (by decide)) (by omega)) (fun v42 s42 hqs42 => ?_)
                          obtain ⟨rfl, hs42, pz44_0⟩ := hqs42
                          have es42 := hs42
                          have hs42 := hs42.sub (w' := [17, 18]) (List.forall_mem_cons.mpr ⟨(by simp), (fun _ h => by cases h)⟩)
                          have k70 := es42.b.1 _ _ (nm_c ((by decide : ∀ u ∈ RwL, u ≠ 18) _ hs) nm_0) (fun l z => by cases z) hrx38
                          have k71 := es42.b.1 _ _ (nm_c (by decide) nm_0) (fun l z => by cases z) hux38
                          have gs42 := gs41.trans hs42
                          have hU42 := UL.ints pz43_0 pz44_0
                          refine T.go 2 (fun n9 => (rfl : _ = exe ξ n9 (d + 2) j_U_tellLengths 176 [(0, .ref 17), (1, J n), (2, J k), (3, J i), (4, J z1), (5, J z1), (6, J (3 + z43))] [J (3 + z43), J k] s42)) ?_
                          refine T.iadd rfl ?_
                          refine T.go 1 (fun n9 => (rfl : _ = exe ξ n9 (d + 2) j_U_tellLengths 178 [(0, .ref 17), (1, J n), (2, J (k + (3 + z43))), (3, J i), (4, J z1), (5, J z1), (6, J (3 + z43))] [] s42)) ?_
                          refine T.iinc (lv' := [(0, .ref 17), (1, J n), (2, J (k + (3 + z43))), (3, J (i + 1)), (4, J z1), (5, J z1), (6, J (3 + z43))]) rfl rfl rfl rfl ?_
                          refine T.go 1 (fun n9 => (rfl : _ = exe ξ n9 (d + 2) j_U_tellLengths 15 [(0, .ref 17), (1, J n), (2, J (k + (3 + z43))), (3, J (i + 1)), (4, J z1), (5, J z1), (6, J (3 + z43))] [] s42)) ?_
                          refine T.drop (lv := [(0, .ref 17), (1, J n), (2, J (k + (3 + z43))), (3, J (i + 1))]) [(4, J z1), (5, J z1), (6, J (3 + z43))] (by simp) ?_
                          exact ih  (k + (3 + z43)) (i + 1) s42 gs42 hU42 (by omega) (by omega) (by omega) (by omega) (by omega) (by omega)
                        · refine T.go 1 (fun n9 => (rfl : _ = exe ξ n9 (d + 2) j_U_tellLengths 158 [(0, .ref 17), (1, J n), (2, J k), (3, J i), (4, J z1), (5, J z1), (6, J (3 + z43))] [J 0] s41)) ?_
                          exact T.iretz rfl rfl (by omega) ⟨_, rfl, gs41, by omega, by omega, pz43_0⟩
                  · refine T.go 4 (fun n9 => (rfl : _ = exe ξ n9 (d + 2) j_U_tellLengths 143 [(0, .ref 17), (1, J n), (2, J k), (3, J i), (4, J z1), (5, J z1), (6, J 1)] [.ref 17] s1)) ?_
                    obtain ⟨wx39, bix39, bex39, rox39, mx39, nx39, bx39, lx39, hux39, hrx39, hbx39, ⟨fx39a, fx39b, fx39c, fx39d, fx39e, fx39f, fx39g, fx39h, fx39i, fx39j⟩, ⟨fx39k, fx39l, fx39m, fx39n⟩, fx39o, fx39p⟩ := UL.unf hs1.1 pz1_0 hs
                    refine T.get rfl rfl rfl hux39 rfl ?_
                    refine T.if_ne rfl rfl (by omega) (fun c76 => ?_) (fun c76 => ?_)
                    · refine T.go 1 (fun n9 => (rfl : _ = exe ξ n9 (d + 2) j_U_tellLengths 158 [(0, .ref 17), (1, J n), (2, J k), (3, J i), (4, J z1), (5, J z1), (6, J 1)] [J 0] s1)) ?_
                      exact T.iretz rfl rfl (by omega) ⟨_, rfl, gs1, by omega, by omega, pz1_0⟩
                    · refine T.go 3 (fun n9 => (rfl : _ = exe ξ n9 (d + 2) j_U_tellLengths 153 [(0, .ref 17), (1, J n), (2, J k), (3, J i), (4, J z1), (5, J z1), (6, J 1)] [J k, J n, J 1] s1)) ?_
                      refine T.isub rfl ?_
                      refine T.icmp_le rfl rfl (by omega) (by omega) (fun c77 => ?_) (fun c77 => ?_)
                      · refine T.go 1 (fun n9 => (rfl : _ = exe ξ n9 (d + 2) j_U_tellLengths 160 [(0, .ref 17), (1, J n), (2, J k), (3, J i), (4, J z1), (5, J z1), (6, J 1)] [.ref 17] s1)) ?_
                        refine T.get rfl rfl rfl hux39 rfl ?_
                        refine T.go 3 (fun n9 => (rfl : _ = exe ξ n9 (d + 2) j_U_tellLengths 167 [(0, .ref 17), (1, J n), (2, J k), (3, J i), (4, J z1), (5, J z1), (6, J 1)] [J 1, J k, J k, .ref 18] s1)) ?_
                        refine T.iadd rfl ?_
                        refine T.go 1 (fun n9 => (rfl : _ = exe ξ n9 (d + 2) j_U_tellLengths 170 [(0, .ref 17), (1, J n), (2, J k), (3, J i), (4, J z1), (5, J z1), (6, J 1)] [J z1, J (k + 1), J k, .ref 18] s1)) ?_
                        refine T.calls (as := [.ref 18, J k, J (k + 1), J z1]) (r := []) rfl rfl (by decide) rfl rfl (s_J_fill d 18 k (k + 1) z1 s1 hs1.1 kdX_18 (by decide) rfl (by decide) (Or.inl (by decide)) (by omega)) (fun v43 s43 hqs43 => ?_)
                        obtain ⟨rfl, hs43, pz45_0⟩ := hqs43
                        have es43 := hs43
                        have hs43 := hs43.sub (w' := [17, 18]) (List.forall_mem_cons.mpr ⟨(by simp), (fun _ h => by cases h)⟩)
                        have k72 := es43.b.1 _ _ (nm_c ((by decide : ∀ u ∈ RwL, u ≠ 18) _ hs) nm_0) (fun l z => by cases z) hrx39
                        have k73 := es43.b.1 _ _ (nm_c (by decide) nm_0) (fun l z => by cases z) hux39
                        have gs43 := gs1.trans hs43
                        have hU43 := UL.ints pz1_0 pz45_0
                        refine T.go 2 (fun n9 => (rfl : _ = exe ξ n9 (d + 2) j_U_tellLengths 176 [(0, .ref 17), (1, J n), (2, J k), (3, J i), (4, J z1), (5, J z1), (6, J 1)] [J 1, J k] s43)) ?_
                        refine T.iadd rfl ?_
                        refine T.go 1 (fun n9 => (rfl : _ = exe ξ n9 (d + 2) j_U_tellLengths 178 [(0, .ref 17), (1, J n), (2, J (k + 1)), (3, J i), (4, J z1), (5, J z1), (6, J 1)] [] s43)) ?_
                        refine T.iinc (lv' := [(0, .ref 17), (1, J n), (2, J (k + 1)), (3, J (i + 1)), (4, J z1), (5, J z1), (6, J 1)]) rfl rfl rfl rfl ?_
                        refine T.go 1 (fun n9 => (rfl : _ = exe ξ n9 (d + 2) j_U_tellLengths 15 [(0, .ref 17), (1, J n), (2, J (k + 1)), (3, J (i + 1)), (4, J z1), (5, J z1), (6, J 1)] [] s43)) ?_
                        refine T.drop (lv := [(0, .ref 17), (1, J n), (2, J (k + 1)), (3, J (i + 1))]) [(4, J z1), (5, J z1), (6, J 1)] (by simp) ?_
                        exact ih  (k + 1) (i + 1) s43 gs43 hU43 (by omega) (by omega) (by omega) (by omega) (by omega) (by omega)
                      · refine T.go 1 (fun n9 => (rfl : _ = exe ξ n9 (d + 2) j_U_tellLengths 158 [(0, .ref 17), (1, J n), (2, J k), (3, J i), (4, J z1), (5, J z1), (6, J 1)] [J 0] s1)) ?_
                        exact T.iretz rfl rfl (by omega) ⟨_, rfl, gs1, by omega, by omega, pz1_0⟩
              · refine T.go 1 (fun n9 => (rfl : _ = exe ξ n9 (d + 2) j_U_tellLengths 52 [(0, .ref 17), (1, J n), (2, J k), (3, J i), (4, J z1)] [J 0] s1)) ?_
                exact T.iretz rfl rfl (by omega) ⟨_, rfl, gs1, by omega, by omega, pz1_0⟩
  refine T.go 2 (fun n9 => (rfl : _ = exe ξ n9 (d + 2) j_U_tellLengths 2 [(0, .ref 17), (1, J n)] [.ref 17, J n] σ)) ?_
  obtain ⟨wx40, bix40, bex40, rox40, mx40, nx40, bx40, lx40, hux40, hrx40, hbx40, ⟨fx40a, fx40b, fx40c, fx40d, fx40e, fx40f, fx40g, fx40h, fx40i, fx40j⟩, ⟨fx40k, fx40l, fx40m, fx40n⟩, fx40o, fx40p⟩ := UL.unf hK hU hs
  refine T.get rfl rfl rfl hux40 rfl ?_
  obtain ⟨lx41, hix41, elx41⟩ := hK.ints kdX_18
  refine T.ilen rfl rfl hix41 ?_
  refine T.icmp_le rfl rfl (by omega) (by omega) (fun c78 => ?_) (fun c78 => ?_)
  · refine T.go 4 (fun n9 => (rfl : _ = exe ξ n9 (d + 2) j_U_tellLengths 15 [(0, .ref 17), (1, J n), (2, J 0), (3, J 0)] [] σ)) ?_
    exact loop15 _ 0 0 σ (Fr.refl hK) hU (by omega) (by omega) (by omega) (by omega) (by omega) (Nat.lt_succ_self _)
  · refine T.go 1 (fun n9 => (rfl : _ = exe ξ n9 (d + 2) j_U_tellLengths 10 [(0, .ref 17), (1, J n)] [J 0] σ)) ?_
    exact T.iretz rfl rfl (by omega) ⟨_, rfl, (Fr.refl hK), by omega, by omega, hU⟩

set_option maxRecDepth 10000 in
set_option maxHeartbeats 4000000 in
theorem s_U_copyBack {ξ : Nat → Option (Nat × List Int32)} (hX : XT ξ) (d : Nat) (s t : Nat) (x : Int) (c : Nat) (σ : qH) (hK : K σ) (hc : c ∈ CdL) (hs : s ∈ RwL) (ht : t ∈ RwL) (hst : s ≠ t) (hU : UL s t σ) (rx : -2147483648 ≤ x ∧ x ≤ 2147483647) : T ξ (d + 1) j_U_copyBack 0 (lv_args 0 [.ref 17, J x, .ref c]) [] σ (fun v σ' => ∃ z : Int, v = some (J z) ∧ Fr [17, t] σ σ' ∧ 0 ≤ z ∧ z ≤ 1 ∧ UL s t σ') := by
  have hX0 := hX
  obtain ⟨⟨X1, hX1, lX1⟩, ⟨X2, hX2, lX2⟩, ⟨X3, hX3, lX3⟩, ⟨X4, hX4, lX4⟩, ⟨X5, hX5, lX5⟩, ⟨X6, hX6, lX6⟩⟩ := hX
  have lY1 : X1.length = 19 := by rw [lX1]; rfl
  have lY2 : X2.length = 29 := by rw [lX2]; rfl
  have lY3 : X3.length = 29 := by rw [lX3]; rfl
  have lY4 : X4.length = 30 := by rw [lX4]; rfl
  have lY5 : X5.length = 30 := by rw [lX5]; rfl
  have lY6 : X6.length = 16 := by rw [lX6]; rfl
  have loop112 : ∀ (f : Nat) (n3 : Int) (w4 : Int) (k5 : Int) (i : Int) (τ : qH), Fr [17, t] σ τ → UL s t τ → -2147483648 ≤ n3 → n3 ≤ 2147483647 → -2147483648 ≤ k5 → k5 ≤ 2147483647 → 0 ≤ i → i ≤ 2147483647 → (n3 - i).toNat < f → T ξ (d + 1) j_U_copyBack 112 [(0, .ref 17), (1, J x), (2, .ref c), (3, J n3), (4, J w4), (5, J k5), (6, J i)] [] τ (fun v σ' => ∃ z : Int, v = some (J z) ∧ Fr [17, t] σ σ' ∧ 0 ≤ z ∧ z ≤ 1 ∧ UL s t σ') := by
    intro f
    induction f with
    | zero => intro n3 w4 k5 i τ hτ uτ i0 i1 i2 i3 i4 i5 hm; omega
    | succ f ih =>
      intro n3 w4 k5 i τ hτ uτ i0 i1 i2 i3 i4 i5 hm
      refine T.go 2 (fun n9 => (rfl : _ = exe ξ n9 (d + 1) j_U_copyBack 115 [(0, .ref 17), (1, J x), (2, .ref c), (3, J n3), (4, J w4), (5, J k5), (6, J i)] [J n3, J i] τ)) ?_
      refine T.icmp_ge rfl rfl (by omega) (by omega) (fun c1 => ?_) (fun c1 => ?_)
      · refine T.go 1 (fun n9 => (rfl : _ = exe ξ n9 (d + 1) j_U_copyBack 150 [(0, .ref 17), (1, J x), (2, .ref c), (3, J n3), (4, J w4), (5, J k5), (6, J i)] [J 1] τ)) ?_
        exact T.iretz rfl rfl (by omega) ⟨_, rfl, hτ, by omega, by omega, uτ⟩
      · refine T.go 1 (fun n9 => (rfl : _ = exe ξ n9 (d + 1) j_U_copyBack 119 [(0, .ref 17), (1, J x), (2, .ref c), (3, J n3), (4, J w4), (5, J k5), (6, J i)] [.ref 17] τ)) ?_
        obtain ⟨wx1, bix1, bex1, rox1, mx1, nx1, bx1, lx1, hux1, hrx1, hbx1, ⟨fx1a, fx1b, fx1c, fx1d, fx1e, fx1f, fx1g, fx1h, fx1i, fx1j⟩, ⟨fx1k, fx1l, fx1m, fx1n⟩, fx1o, fx1p⟩ := UL.unf hτ.1 uτ hs
        refine T.get rfl rfl rfl hux1 rfl ?_
        refine T.go 1 (fun n9 => (rfl : _ = exe ξ n9 (d + 1) j_U_copyBack 123 [(0, .ref 17), (1, J x), (2, .ref c), (3, J n3), (4, J w4), (5, J k5), (6, J i)] [.ref 17, .ref t] τ)) ?_
        refine T.get rfl rfl rfl hux1 rfl ?_
        refine T.go 1 (fun n9 => (rfl : _ = exe ξ n9 (d + 1) j_U_copyBack 127 [(0, .ref 17), (1, J x), (2, .ref c), (3, J n3), (4, J w4), (5, J k5), (6, J i)] [.ref 17, .ref t, .ref t] τ)) ?_
        refine T.get rfl rfl rfl hux1 rfl ?_
        obtain ⟨mx2, nx2, bx2, lx2, hrx2, hbx2, fx2a, fx2b, fx2c, fx2d, fx2e, fx2g, fx2h, fx2i⟩ := hτ.1.row ht
        refine T.get rfl rfl rfl hrx2 rfl ?_
        refine T.go 1 (fun n9 => (rfl : _ = exe ξ n9 (d + 1) j_U_copyBack 135 [(0, .ref 17), (1, J x), (2, .ref c), (3, J n3), (4, J w4), (5, J k5), (6, J i)] [J k5, J nx2, .ref t, .ref t] τ)) ?_
        refine T.isub rfl ?_
        refine T.norm (fun z1 hzz1 hyz1 hwz1 => ?_)
        refine T.callv (as := [J z1]) (r := [.ref t]) rfl rfl rfl (RwL_lt _ ht).2.2.1 hrx2 rfl (s_R_at d t z1 τ hτ.1 ht  (by omega)) (fun v1 s1 hqs1 => ?_)
        obtain ⟨z2, rfl, esz2, hzz2, hyz2⟩ := hqs1
        rw [esz2]
        refine T.callv (as := [J z2]) (r := []) rfl rfl rfl (RwL_lt _ ht).2.2.1 hrx2 rfl (s_R_add d t z2 τ hτ.1 ht  (by omega)) (fun v2 s2 hqs2 => ?_)
        obtain ⟨z3, rfl, hs2, hzz3, hyz3, pz3_0, pz3_1⟩ := hqs2
        have es2 := hs2
        have hs2 := hs2.sub (w' := [17, t]) (List.forall_mem_cons.mpr ⟨(by simp), (fun _ h => by cases h)⟩)
        have k1 := es2.b.1 _ _ (nm_c ((by decide : ∀ v ∈ RwL, (17 : Nat) ≠ v) _ ht) nm_0) (fun l z => by cases z) hux1
        have k2 := es2.b.1 _ _ (nm_c hst nm_0) (fun l z => by cases z) hrx1
        have gs2 := hτ.trans hs2
        have hU1 := UL.row uτ hs2 pz3_0 hs hst ht
        refine T.go 1 (fun n9 => (rfl : _ = exe ξ n9 (d + 1) j_U_copyBack 143 [(0, .ref 17), (1, J x), (2, .ref c), (3, J n3), (4, J w4), (5, J k5), (6, J i)] [] s2)) ?_
        refine T.iinc (lv' := [(0, .ref 17), (1, J x), (2, .ref c), (3, J n3), (4, J w4), (5, J k5), (6, J (i + 1))]) rfl rfl rfl rfl ?_
        refine T.go 1 (fun n9 => (rfl : _ = exe ξ n9 (d + 1) j_U_copyBack 112 [(0, .ref 17), (1, J x), (2, .ref c), (3, J n3), (4, J w4), (5, J k5), (6, J (i + 1))] [] s2)) ?_
        exact ih  n3 w4 k5 (i + 1) s2 gs2 hU1 (by omega) (by omega) (by omega) (by omega) (by omega) (by omega) (by omega)
  refine T.go 1 (fun n9 => (rfl : _ = exe ξ n9 (d + 1) j_U_copyBack 1 [(0, .ref 17), (1, J x), (2, .ref c)] [J x] σ)) ?_
  refine T.if_lt rfl rfl (by omega) (fun c2 => ?_) (fun c2 => ?_)
  · refine T.go 1 (fun n9 => (rfl : _ = exe ξ n9 (d + 1) j_U_copyBack 13 [(0, .ref 17), (1, J x), (2, .ref c)] [J 0] σ)) ?_
    exact T.iretz rfl rfl (by omega) ⟨_, rfl, (Fr.refl hK), by omega, by omega, hU⟩
  · refine T.go 2 (fun n9 => (rfl : _ = exe ξ n9 (d + 1) j_U_copyBack 8 [(0, .ref 17), (1, J x), (2, .ref c)] [.ref 2, J x] σ)) ?_
    refine T.xlen rfl rfl hX2 ?_
    refine T.icmp_lt rfl rfl (by omega) (by omega) (fun c3 => ?_) (fun c3 => ?_)
    · refine T.go 2 (fun n9 => (rfl : _ = exe ξ n9 (d + 1) j_U_copyBack 18 [(0, .ref 17), (1, J x), (2, .ref c)] [J x, .ref 2] σ)) ?_
      refine T.xld rfl rfl hX2 (by omega) (fun z4 hzz4 hyz4 hez4 => ?_)
      refine T.go 3 (fun n9 => (rfl : _ = exe ξ n9 (d + 1) j_U_copyBack 24 [(0, .ref 17), (1, J x), (2, .ref c)] [J x, .ref 3, .ref 17, J z4] σ)) ?_
      refine T.xld rfl rfl hX3 (by omega) (fun z5 hzz5 hyz5 hez5 => ?_)
      obtain ⟨wx3, bix3, bex3, rox3, mx3, nx3, bx3, lx3, hux3, hrx3, hbx3, ⟨fx3a, fx3b, fx3c, fx3d, fx3e, fx3f, fx3g, fx3h, fx3i, fx3j⟩, ⟨fx3k, fx3l, fx3m, fx3n⟩, fx3o, fx3p⟩ := UL.unf hK hU hs
      refine T.callv (as := [J z5]) (r := [J z4]) rfl rfl rfl rfl hux3 rfl (s_U_takeBits d s t z5 σ hK  hs ht hst hU (by omega)) (fun v3 s3 hqs3 => ?_)
      obtain ⟨z6, rfl, hs3, hzz6, hyz6, pz6_0, pz6_1⟩ := hqs3
      have es3 := hs3
      have hs3 := hs3.sub (w' := [17, t]) (List.forall_mem_cons.mpr ⟨(by simp), (fun _ h => by cases h)⟩)
      have k3 := es3.b.1 _ _ (nm_c ((by decide : ∀ u ∈ RwL, u ≠ 17) _ hs) nm_0) (fun l z => by cases z) hrx3
      refine T.iadd rfl ?_
      refine T.norm (fun z7 hzz7 hyz7 hwz7 => ?_)
      refine T.go 3 (fun n9 => (rfl : _ = exe ξ n9 (d + 1) j_U_copyBack 32 [(0, .ref 17), (1, J x), (2, .ref c), (3, J z7)] [.ref c, .ref 17] s3)) ?_
      obtain ⟨wx4, bix4, bex4, rox4, mx4, nx4, bx4, lx4, hux4, hrx4, hbx4, ⟨fx4a, fx4b, fx4c, fx4d, fx4e, fx4f, fx4g, fx4h, fx4i, fx4j⟩, ⟨fx4k, fx4l, fx4m, fx4n⟩, fx4o, fx4p⟩ := UL.unf hs3.1 pz6_0 hs
      refine T.callv (as := [.ref c]) (r := []) rfl rfl rfl rfl hux4 rfl (s_U_nextSign d s t c s3 hs3.1 hc hs ht hst pz6_0 ) (fun v4 s4 hqs4 => ?_)
      obtain ⟨z8, rfl, hs4, hzz8, hyz8, pz8_0⟩ := hqs4
      have es4 := hs4
      have hs4 := hs4.sub (w' := [17, t]) (List.forall_mem_cons.mpr ⟨(by simp), (fun _ h => by cases h)⟩)
      have k4 := es4.b.1 _ _ (nm_c ((by decide : ∀ u ∈ RwL, u ≠ 17) _ hs) nm_0) (fun l z => by cases z) hrx4
      have gs4 := hs3.trans hs4
      refine T.go 2 (fun n9 => (rfl : _ = exe ξ n9 (d + 1) j_U_copyBack 39 [(0, .ref 17), (1, J x), (2, .ref c), (3, J z7), (4, J z8)] [J z8] s4)) ?_
      refine T.if_lt rfl rfl (by omega) (fun c4 => ?_) (fun c4 => ?_)
      · refine T.go 1 (fun n9 => (rfl : _ = exe ξ n9 (d + 1) j_U_copyBack 52 [(0, .ref 17), (1, J x), (2, .ref c), (3, J z7), (4, J z8)] [J 0] s4)) ?_
        exact T.iretz rfl rfl (by omega) ⟨_, rfl, gs4, by omega, by omega, pz8_0⟩
      · refine T.go 2 (fun n9 => (rfl : _ = exe ξ n9 (d + 1) j_U_copyBack 47 [(0, .ref 17), (1, J x), (2, .ref c), (3, J z7), (4, J z8)] [.ref 4, J z8] s4)) ?_
        refine T.xlen rfl rfl hX4 ?_
        refine T.icmp_lt rfl rfl (by omega) (by omega) (fun c5 => ?_) (fun c5 => ?_)
        · refine T.go 2 (fun n9 => (rfl : _ = exe ξ n9 (d + 1) j_U_copyBack 58 [(0, .ref 17), (1, J x), (2, .ref c), (3, J z7), (4, J z8)] [J z8, .ref 4] s4)) ?_
          refine T.xld rfl rfl hX4 (by omega) (fun z9 hzz9 hyz9 hez9 => ?_)
          refine T.go 3 (fun n9 => (rfl : _ = exe ξ n9 (d + 1) j_U_copyBack 65 [(0, .ref 17), (1, J x), (2, .ref c), (3, J z7), (4, J z8)] [J z8, .ref 5, .ref 17, J z9] s4)) ?_
          refine T.xld rfl rfl hX5 (by omega) (fun z10 hzz10 hyz10 hez10 => ?_)
          obtain ⟨wx5, bix5, bex5, rox5, mx5, nx5, bx5, lx5, hux5, hrx5, hbx5, ⟨fx5a, fx5b, fx5c, fx5d, fx5e, fx5f, fx5g, fx5h, fx5i, fx5j⟩, ⟨fx5k, fx5l, fx5m, fx5n⟩, fx5o, fx5p⟩ := UL.unf hs4.1 pz8_0 hs
          refine T.callv (as := [J z10]) (r := [J z9]) rfl rfl rfl rfl hux5 rfl (s_U_takeBits d s t z10 s4 hs4.1  hs ht hst pz8_0 (by omega)) (fun v5 s5 hqs5 => ?_)
          obtain ⟨z11, rfl, hs5, hzz11, hyz11, pz11_0, pz11_1⟩ := hqs5
          have es5 := hs5
          have hs5 := hs5.sub (w' := [17, t]) (List.forall_mem_cons.mpr ⟨(by simp), (fun _ h => by cases h)⟩)
          have k5 := es5.b.1 _ _ (nm_c ((by decide : ∀ u ∈ RwL, u ≠ 17) _ hs) nm_0) (fun l z => by cases z) hrx5
          have gs5 := gs4.trans hs5
          refine T.iadd rfl ?_
          refine T.norm (fun z12 hzz12 hyz12 hwz12 => ?_)
          refine T.go 2 (fun n9 => (rfl : _ = exe ξ n9 (d + 1) j_U_copyBack 73 [(0, .ref 17), (1, J x), (2, .ref c), (3, J z7), (4, J z8), (5, J z12)] [.ref 17] s5)) ?_
          obtain ⟨wx6, bix6, bex6, rox6, mx6, nx6, bx6, lx6, hux6, hrx6, hbx6, ⟨fx6a, fx6b, fx6c, fx6d, fx6e, fx6f, fx6g, fx6h, fx6i, fx6j⟩, ⟨fx6k, fx6l, fx6m, fx6n⟩, fx6o, fx6p⟩ := UL.unf hs5.1 pz11_0 hs
          refine T.get rfl rfl rfl hux6 rfl ?_
          refine T.if_ne rfl rfl (by omega) (fun c6 => ?_) (fun c6 => ?_)
          · refine T.go 1 (fun n9 => (rfl : _ = exe ξ n9 (d + 1) j_U_copyBack 108 [(0, .ref 17), (1, J x), (2, .ref c), (3, J z7), (4, J z8), (5, J z12)] [J 0] s5)) ?_
            exact T.iretz rfl rfl (by omega) ⟨_, rfl, gs5, by omega, by omega, pz11_0⟩
          · refine T.go 2 (fun n9 => (rfl : _ = exe ξ n9 (d + 1) j_U_copyBack 82 [(0, .ref 17), (1, J x), (2, .ref c), (3, J z7), (4, J z8), (5, J z12)] [.ref 17, J z12] s5)) ?_
            refine T.get rfl rfl rfl hux6 rfl ?_
            obtain ⟨mx7, nx7, bx7, lx7, hrx7, hbx7, fx7a, fx7b, fx7c, fx7d, fx7e, fx7g, fx7h, fx7i⟩ := hs5.1.row ht
            refine T.get rfl rfl rfl hrx7 rfl ?_
            refine T.icmp_gt rfl rfl (by omega) (by omega) (fun c7 => ?_) (fun c7 => ?_)
            · refine T.go 1 (fun n9 => (rfl : _ = exe ξ n9 (d + 1) j_U_copyBack 108 [(0, .ref 17), (1, J x), (2, .ref c), (3, J z7), (4, J z8), (5, J z12)] [J 0] s5)) ?_
              exact T.iretz rfl rfl (by omega) ⟨_, rfl, gs5, by omega, by omega, pz11_0⟩
            · refine T.go 2 (fun n9 => (rfl : _ = exe ξ n9 (d + 1) j_U_copyBack 93 [(0, .ref 17), (1, J x), (2, .ref c), (3, J z7), (4, J z8), (5, J z12)] [.ref 17, J z7] s5)) ?_
              refine T.get rfl rfl rfl hux6 rfl ?_
              refine T.go 1 (fun n9 => (rfl : _ = exe ξ n9 (d + 1) j_U_copyBack 97 [(0, .ref 17), (1, J x), (2, .ref c), (3, J z7), (4, J z8), (5, J z12)] [.ref 17, J wx6, J z7] s5)) ?_
              refine T.get rfl rfl rfl hux6 rfl ?_
              refine T.get rfl rfl rfl hrx7 rfl ?_
              refine T.isub rfl ?_
              refine T.icmp_le rfl rfl (by omega) (by omega) (fun c8 => ?_) (fun c8 => ?_)
              · refine T.go 2 (fun n9 => (rfl : _ = exe ξ n9 (d + 1) j_U_copyBack 112 [(0, .ref 17), (1, J x), (2, .ref c), (3, J z7), (4, J z8), (5, J z12), (6, J 0)] [] s5)) ?_
                exact loop112 _ z7 z8 z12 0 s5 gs5 pz11_0 (by omega) (by omega) (by omega) (by omega) (by omega) (by omega) (Nat.lt_succ_self _)
              · refine T.go 1 (fun n9 => (rfl : _ = exe ξ n9 (d + 1) j_U_copyBack 108 [(0, .ref 17), (1, J x), (2, .ref c), (3, J z7), (4, J z8), (5, J z12)] [J 0] s5)) ?_
                exact T.iretz rfl rfl (by omega) ⟨_, rfl, gs5, by omega, by omega, pz11_0⟩
        · refine T.go 1 (fun n9 => (rfl : _ = exe ξ n9 (d + 1) j_U_copyBack 52 [(0, .ref 17), (1, J x), (2, .ref c), (3, J z7), (4, J z8)] [J 0] s4)) ?_
          exact T.iretz rfl rfl (by omega) ⟨_, rfl, gs4, by omega, by omega, pz8_0⟩
    · refine T.go 1 (fun n9 => (rfl : _ = exe ξ n9 (d + 1) j_U_copyBack 13 [(0, .ref 17), (1, J x), (2, .ref c)] [J 0] σ)) ?_
      exact T.iretz rfl rfl (by omega) ⟨_, rfl, (Fr.refl hK), by omega, by omega, hU⟩

set_option maxRecDepth 10000 in
set_option maxHeartbeats 4000000 in
theorem s_U_followSigns {ξ : Nat → Option (Nat × List Int32)} (hX : XT ξ) (d : Nat) (s t : Nat) (c : Nat) (e : Nat) (σ : qH) (hK : K σ) (hc : c ∈ CdL) (he : e ∈ CdL) (hs : s ∈ RwL) (ht : t ∈ RwL) (hst : s ≠ t) (hU : UL s t σ) : T ξ (d + 2) j_U_followSigns 0 (lv_args 0 [.ref 17, .ref c, .ref e]) [] σ (fun v σ' => ∃ z : Int, v = some (J z) ∧ Fr [17, t] σ σ' ∧ 0 ≤ z ∧ z ≤ 1 ∧ UL s t σ') := by
  have hX0 := hX
  obtain ⟨⟨X1, hX1, lX1⟩, ⟨X2, hX2, lX2⟩, ⟨X3, hX3, lX3⟩, ⟨X4, hX4, lX4⟩, ⟨X5, hX5, lX5⟩, ⟨X6, hX6, lX6⟩⟩ := hX
  have lY1 : X1.length = 19 := by rw [lX1]; rfl
  have lY2 : X2.length = 29 := by rw [lX2]; rfl
  have lY3 : X3.length = 29 := by rw [lX3]; rfl
  have lY4 : X4.length = 30 := by rw [lX4]; rfl
  have lY5 : X5.length = 30 := by rw [lX5]; rfl
  have lY6 : X6.length = 16 := by rw [lX6]; rfl
  have loop2 : ∀ (f : Nat) (i : Int) (τ : qH), Fr [17, t] σ τ → UL s t τ → 0 ≤ i → i ≤ 64001 → (64001 - i).toNat < f → T ξ (d + 2) j_U_followSigns 2 [(0, .ref 17), (1, .ref c), (2, .ref e), (3, J i)] [] τ (fun v σ' => ∃ z : Int, v = some (J z) ∧ Fr [17, t] σ σ' ∧ 0 ≤ z ∧ z ≤ 1 ∧ UL s t σ') := by
    intro f
    induction f with
    | zero => intro i τ hτ uτ i0 i1 hm; omega
    | succ f ih =>
      intro i τ hτ uτ i0 i1 hm
      refine T.go 2 (fun n9 => (rfl : _ = exe ξ n9 (d + 2) j_U_followSigns 5 [(0, .ref 17), (1, .ref c), (2, .ref e), (3, J i)] [J 64000, J i] τ)) ?_
      refine T.icmp_gt rfl rfl (by omega) (by omega) (fun c1 => ?_) (fun c1 => ?_)
      · refine T.go 1 (fun n9 => (rfl : _ = exe ξ n9 (d + 2) j_U_followSigns 103 [(0, .ref 17), (1, .ref c), (2, .ref e), (3, J i)] [J 0] τ)) ?_
        exact T.iretz rfl rfl (by omega) ⟨_, rfl, hτ, by omega, by omega, uτ⟩
      · refine T.go 2 (fun n9 => (rfl : _ = exe ξ n9 (d + 2) j_U_followSigns 10 [(0, .ref 17), (1, .ref c), (2, .ref e), (3, J i)] [.ref c, .ref 17] τ)) ?_
        obtain ⟨wx1, bix1, bex1, rox1, mx1, nx1, bx1, lx1, hux1, hrx1, hbx1, ⟨fx1a, fx1b, fx1c, fx1d, fx1e, fx1f, fx1g, fx1h, fx1i, fx1j⟩, ⟨fx1k, fx1l, fx1m, fx1n⟩, fx1o, fx1p⟩ := UL.unf hτ.1 uτ hs
        refine T.callv (as := [.ref c]) (r := []) rfl rfl rfl rfl hux1 rfl (s_U_nextSign (d + 1) s t c τ hτ.1 hc hs ht hst uτ ) (fun v1 s1 hqs1 => ?_)
        obtain ⟨z1, rfl, hs1, hzz1, hyz1, pz1_0⟩ := hqs1
        have es1 := hs1
        have hs1 := hs1.sub (w' := [17, t]) (List.forall_mem_cons.mpr ⟨(by simp), (fun _ h => by cases h)⟩)
        have k1 := es1.b.1 _ _ (nm_c ((by decide : ∀ u ∈ RwL, u ≠ 17) _ hs) nm_0) (fun l z => by cases z) hrx1
        have gs1 := hτ.trans hs1
        refine T.go 3 (fun n9 => (rfl : _ = exe ξ n9 (d + 2) j_U_followSigns 20 [(0, .ref 17), (1, .ref c), (2, .ref e), (3, J i), (4, J z1)] [J 256, J z1] s1)) ?_
        refine T.icmp_ne rfl rfl (by omega) (by omega) (fun c2 => ?_) (fun c2 => ?_)
        · refine T.go 1 (fun n9 => (rfl : _ = exe ξ n9 (d + 2) j_U_followSigns 27 [(0, .ref 17), (1, .ref c), (2, .ref e), (3, J i), (4, J z1)] [J z1] s1)) ?_
          refine T.if_ge rfl rfl (by omega) (fun c3 => ?_) (fun c3 => ?_)
          · refine T.go 2 (fun n9 => (rfl : _ = exe ξ n9 (d + 2) j_U_followSigns 37 [(0, .ref 17), (1, .ref c), (2, .ref e), (3, J i), (4, J z1)] [J 256, J z1] s1)) ?_
            refine T.icmp_ge rfl rfl (by omega) (by omega) (fun c4 => ?_) (fun c4 => ?_)
            · refine T.go 3 (fun n9 => (rfl : _ = exe ξ n9 (d + 2) j_U_followSigns 80 [(0, .ref 17), (1, .ref c), (2, .ref e), (3, J i), (4, J z1)] [J 256, J z1, .ref 17] s1)) ?_
              refine T.isub rfl ?_
              refine T.go 1 (fun n9 => (rfl : _ = exe ξ n9 (d + 2) j_U_followSigns 82 [(0, .ref 17), (1, .ref c), (2, .ref e), (3, J i), (4, J z1)] [J 1, J (z1 - 256), .ref 17] s1)) ?_
              refine T.isub rfl ?_
              refine T.go 1 (fun n9 => (rfl : _ = exe ξ n9 (d + 2) j_U_followSigns 84 [(0, .ref 17), (1, .ref c), (2, .ref e), (3, J i), (4, J z1)] [.ref e, J ((z1 - 256) - 1), .ref 17] s1)) ?_
              obtain ⟨wx2, bix2, bex2, rox2, mx2, nx2, bx2, lx2, hux2, hrx2, hbx2, ⟨fx2a, fx2b, fx2c, fx2d, fx2e, fx2f, fx2g, fx2h, fx2i, fx2j⟩, ⟨fx2k, fx2l, fx2m, fx2n⟩, fx2o, fx2p⟩ := UL.unf hs1.1 pz1_0 hs
              refine T.callv (as := [J ((z1 - 256) - 1), .ref e]) (r := []) rfl rfl rfl rfl hux2 rfl (s_U_copyBack hX0 d s t ((z1 - 256) - 1) e s1 hs1.1 he hs ht hst pz1_0 (by omega)) (fun v2 s2 hqs2 => ?_)
              obtain ⟨z2, rfl, hs2, hzz2, hyz2, pz2_0⟩ := hqs2
              have es2 := hs2
              have k2 := es2.b.1 _ _ (nm_c ((by decide : ∀ u ∈ RwL, u ≠ 17) _ hs) (nm_c hst nm_0)) (fun l z => by cases z) hrx2
              have gs2 := gs1.trans hs2
              refine T.go 2 (fun n9 => (rfl : _ = exe ξ n9 (d + 2) j_U_followSigns 91 [(0, .ref 17), (1, .ref c), (2, .ref e), (3, J i), (4, J z1), (5, J z2)] [J z2] s2)) ?_
              refine T.if_ne rfl rfl (by omega) (fun c5 => ?_) (fun c5 => ?_)
              · refine T.iinc (lv' := [(0, .ref 17), (1, .ref c), (2, .ref e), (3, J (i + 1)), (4, J z1), (5, J z2)]) rfl rfl rfl rfl ?_
                refine T.go 1 (fun n9 => (rfl : _ = exe ξ n9 (d + 2) j_U_followSigns 2 [(0, .ref 17), (1, .ref c), (2, .ref e), (3, J (i + 1)), (4, J z1), (5, J z2)] [] s2)) ?_
                refine T.drop (lv := [(0, .ref 17), (1, .ref c), (2, .ref e), (3, J (i + 1))]) [(4, J z1), (5, J z2)] (by simp) ?_
                exact ih  (i + 1) s2 gs2 pz2_0 (by omega) (by omega) (by omega)
              · refine T.go 1 (fun n9 => (rfl : _ = exe ξ n9 (d + 2) j_U_followSigns 95 [(0, .ref 17), (1, .ref c), (2, .ref e), (3, J i), (4, J z1), (5, J z2)] [J 0] s2)) ?_
                exact T.iretz rfl rfl (by omega) ⟨_, rfl, gs2, by omega, by omega, pz2_0⟩
            · refine T.go 1 (fun n9 => (rfl : _ = exe ξ n9 (d + 2) j_U_followSigns 41 [(0, .ref 17), (1, .ref c), (2, .ref e), (3, J i), (4, J z1)] [.ref 17] s1)) ?_
              obtain ⟨wx3, bix3, bex3, rox3, mx3, nx3, bx3, lx3, hux3, hrx3, hbx3, ⟨fx3a, fx3b, fx3c, fx3d, fx3e, fx3f, fx3g, fx3h, fx3i, fx3j⟩, ⟨fx3k, fx3l, fx3m, fx3n⟩, fx3o, fx3p⟩ := UL.unf hs1.1 pz1_0 hs
              refine T.get rfl rfl rfl hux3 rfl ?_
              obtain ⟨mx4, nx4, bx4, lx4, hrx4, hbx4, fx4a, fx4b, fx4c, fx4d, fx4e, fx4g, fx4h, fx4i⟩ := hs1.1.row ht
              refine T.get rfl rfl rfl hrx4 rfl ?_
              refine T.go 1 (fun n9 => (rfl : _ = exe ξ n9 (d + 2) j_U_followSigns 48 [(0, .ref 17), (1, .ref c), (2, .ref e), (3, J i), (4, J z1)] [.ref 17, J nx4] s1)) ?_
              refine T.get rfl rfl rfl hux3 rfl ?_
              refine T.icmp_ge rfl rfl (by omega) (by omega) (fun c6 => ?_) (fun c6 => ?_)
              · refine T.go 6 (fun n9 => (rfl : _ = exe ξ n9 (d + 2) j_U_followSigns 95 [(0, .ref 17), (1, .ref c), (2, .ref e), (3, J i), (4, J z1), (5, J 0)] [J 0] s1)) ?_
                exact T.iretz rfl rfl (by omega) ⟨_, rfl, gs1, by omega, by omega, pz1_0⟩
              · refine T.go 1 (fun n9 => (rfl : _ = exe ξ n9 (d + 2) j_U_followSigns 55 [(0, .ref 17), (1, .ref c), (2, .ref e), (3, J i), (4, J z1)] [.ref 17] s1)) ?_
                refine T.get rfl rfl rfl hux3 rfl ?_
                refine T.go 1 (fun n9 => (rfl : _ = exe ξ n9 (d + 2) j_U_followSigns 60 [(0, .ref 17), (1, .ref c), (2, .ref e), (3, J i), (4, J z1)] [J z1, .ref t] s1)) ?_
                refine T.callv (as := [J z1]) (r := []) rfl rfl rfl (RwL_lt _ ht).2.2.1 hrx4 rfl (s_R_add (d + 1) t z1 s1 hs1.1 ht  (by omega)) (fun v3 s3 hqs3 => ?_)
                obtain ⟨z3, rfl, hs3, hzz3, hyz3, pz3_0, pz3_1⟩ := hqs3
                have es3 := hs3
                have hs3 := hs3.sub (w' := [17, t]) (List.forall_mem_cons.mpr ⟨(by simp), (fun _ h => by cases h)⟩)
                have k3 := es3.b.1 _ _ (nm_c hst nm_0) (fun l z => by cases z) hrx3
                have k4 := es3.b.1 _ _ (nm_c ((by decide : ∀ v ∈ RwL, (17 : Nat) ≠ v) _ ht) nm_0) (fun l z => by cases z) hux3
                have gs3 := gs1.trans hs3
                have hU3 := UL.row pz1_0 hs3 pz3_0 hs hst ht
                refine T.if_eq rfl rfl (by omega) (fun c7 => ?_) (fun c7 => ?_)
                · refine T.go 6 (fun n9 => (rfl : _ = exe ξ n9 (d + 2) j_U_followSigns 95 [(0, .ref 17), (1, .ref c), (2, .ref e), (3, J i), (4, J z1), (5, J 0)] [J 0] s3)) ?_
                  exact T.iretz rfl rfl (by omega) ⟨_, rfl, gs3, by omega, by omega, hU3⟩
                · refine T.go 5 (fun n9 => (rfl : _ = exe ξ n9 (d + 2) j_U_followSigns 96 [(0, .ref 17), (1, .ref c), (2, .ref e), (3, J i), (4, J z1), (5, J 1)] [] s3)) ?_
                  refine T.iinc (lv' := [(0, .ref 17), (1, .ref c), (2, .ref e), (3, J (i + 1)), (4, J z1), (5, J 1)]) rfl rfl rfl rfl ?_
                  refine T.go 1 (fun n9 => (rfl : _ = exe ξ n9 (d + 2) j_U_followSigns 2 [(0, .ref 17), (1, .ref c), (2, .ref e), (3, J (i + 1)), (4, J z1), (5, J 1)] [] s3)) ?_
                  refine T.drop (lv := [(0, .ref 17), (1, .ref c), (2, .ref e), (3, J (i + 1))]) [(4, J z1), (5, J 1)] (by simp) ?_
                  exact ih  (i + 1) s3 gs3 hU3 (by omega) (by omega) (by omega)
          · refine T.go 1 (fun n9 => (rfl : _ = exe ξ n9 (d + 2) j_U_followSigns 31 [(0, .ref 17), (1, .ref c), (2, .ref e), (3, J i), (4, J z1)] [J 0] s1)) ?_
            exact T.iretz rfl rfl (by omega) ⟨_, rfl, gs1, by omega, by omega, pz1_0⟩
        · refine T.go 1 (fun n9 => (rfl : _ = exe ξ n9 (d + 2) j_U_followSigns 24 [(0, .ref 17), (1, .ref c), (2, .ref e), (3, J i), (4, J z1)] [J 1] s1)) ?_
          exact T.iretz rfl rfl (by omega) ⟨_, rfl, gs1, by omega, by omega, pz1_0⟩
  refine T.go 2 (fun n9 => (rfl : _ = exe ξ n9 (d + 2) j_U_followSigns 2 [(0, .ref 17), (1, .ref c), (2, .ref e), (3, J 0)] [] σ)) ?_
  exact loop2 _ 0 σ (Fr.refl hK) hU (by omega) (by omega) (Nat.lt_succ_self _)

set_option maxRecDepth 10000 in
set_option maxHeartbeats 4000000 in
theorem s_U_learnCodes {ξ : Nat → Option (Nat × List Int32)} (hX : XT ξ) (d : Nat) (s t : Nat)  (σ : qH) (hK : K σ)  (hs : s ∈ RwL) (ht : t ∈ RwL) (hst : s ≠ t) (hU : UL s t σ) : T ξ (d + 3) j_U_learnCodes 0 (lv_args 0 [.ref 17]) [] σ (fun v σ' => ∃ z : Int, v = some (J z) ∧ Fr [17, 18, 20, 21, 22, 24, 25, 26, 28, 29, 30] σ σ' ∧ 0 ≤ z ∧ z ≤ 1 ∧ UL s t σ') := by
  have hX0 := hX
  obtain ⟨⟨X1, hX1, lX1⟩, ⟨X2, hX2, lX2⟩, ⟨X3, hX3, lX3⟩, ⟨X4, hX4, lX4⟩, ⟨X5, hX5, lX5⟩, ⟨X6, hX6, lX6⟩⟩ := hX
  have lY1 : X1.length = 19 := by rw [lX1]; rfl
  have lY2 : X2.length = 29 := by rw [lX2]; rfl
  have lY3 : X3.length = 29 := by rw [lX3]; rfl
  have lY4 : X4.length = 30 := by rw [lX4]; rfl
  have lY5 : X5.length = 30 := by rw [lX5]; rfl
  have lY6 : X6.length = 16 := by rw [lX6]; rfl
  have loop59 : ∀ (f : Nat) (a1 : Int) (a2 : Int) (a3 : Int) (i : Int) (τ : qH), Fr [17, 18, 20, 21, 22, 24, 25, 26, 28, 29, 30] σ τ → UL s t τ → 0 ≤ a1 → a1 ≤ 286 → 0 ≤ a2 → a2 ≤ 30 → 0 ≤ a3 → a3 ≤ 70000 → 0 ≤ i → i ≤ 19 → (19 - i).toNat < f → T ξ (d + 3) j_U_learnCodes 59 [(0, .ref 17), (1, J a1), (2, J a2), (3, J a3), (4, J i)] [] τ (fun v σ' => ∃ z : Int, v = some (J z) ∧ Fr [17, 18, 20, 21, 22, 24, 25, 26, 28, 29, 30] σ σ' ∧ 0 ≤ z ∧ z ≤ 1 ∧ UL s t σ') := by
    intro f
    induction f with
    | zero => intro a1 a2 a3 i τ hτ uτ i0 i1 i2 i3 i4 i5 i6 i7 hm; omega
    | succ f ih =>
      intro a1 a2 a3 i τ hτ uτ i0 i1 i2 i3 i4 i5 i6 i7 hm
      refine T.go 2 (fun n9 => (rfl : _ = exe ξ n9 (d + 3) j_U_learnCodes 62 [(0, .ref 17), (1, J a1), (2, J a2), (3, J a3), (4, J i)] [J a3, J i] τ)) ?_
      refine T.icmp_ge rfl rfl (by omega) (by omega) (fun c1 => ?_) (fun c1 => ?_)
      · refine T.go 1 (fun n9 => (rfl : _ = exe ξ n9 (d + 3) j_U_learnCodes 97 [(0, .ref 17), (1, J a1), (2, J a2), (3, J a3), (4, J i)] [.ref 17] τ)) ?_
        obtain ⟨wx1, bix1, bex1, rox1, mx1, nx1, bx1, lx1, hux1, hrx1, hbx1, ⟨fx1a, fx1b, fx1c, fx1d, fx1e, fx1f, fx1g, fx1h, fx1i, fx1j⟩, ⟨fx1k, fx1l, fx1m, fx1n⟩, fx1o, fx1p⟩ := UL.unf hτ.1 uτ hs
        refine T.get rfl rfl rfl hux1 rfl ?_
        refine T.if_ne rfl rfl (by omega) (fun c2 => ?_) (fun c2 => ?_)
        · refine T.go 1 (fun n9 => (rfl : _ = exe ξ n9 (d + 3) j_U_learnCodes 183 [(0, .ref 17), (1, J a1), (2, J a2), (3, J a3), (4, J i)] [J 0] τ)) ?_
          exact T.iretz rfl rfl (by omega) ⟨_, rfl, hτ, by omega, by omega, uτ⟩
        · refine T.go 1 (fun n9 => (rfl : _ = exe ξ n9 (d + 3) j_U_learnCodes 104 [(0, .ref 17), (1, J a1), (2, J a2), (3, J a3), (4, J i)] [.ref 17] τ)) ?_
          refine T.get rfl rfl rfl hux1 rfl ?_
          refine T.go 1 (fun n9 => (rfl : _ = exe ξ n9 (d + 3) j_U_learnCodes 108 [(0, .ref 17), (1, J a1), (2, J a2), (3, J a3), (4, J i)] [.ref 17, .ref 19] τ)) ?_
          refine T.get rfl rfl rfl hux1 rfl ?_
          refine T.go 2 (fun n9 => (rfl : _ = exe ξ n9 (d + 3) j_U_learnCodes 115 [(0, .ref 17), (1, J a1), (2, J a2), (3, J a3), (4, J i)] [.ref 1, J 0, .ref 18, .ref 19] τ)) ?_
          refine T.xlen rfl rfl hX1 ?_
          refine T.go 1 (fun n9 => (rfl : _ = exe ξ n9 (d + 3) j_U_learnCodes 117 [(0, .ref 17), (1, J a1), (2, J a2), (3, J a3), (4, J i)] [J 0, J (X1.length), J 0, .ref 18, .ref 19] τ)) ?_
          have hcx2 := hτ.1.cod (c := 19) (by decide)
          refine T.callv (as := [.ref 18, J 0, J (X1.length), J 0]) (r := []) rfl rfl rfl rfl hcx2 rfl (s_C_learn (d + 1) 19 0 (X1.length) 0 τ hτ.1 (by decide) (by omega)) (fun v1 s1 hqs1 => ?_)
          obtain ⟨z1, rfl, hs1, hzz1, hyz1, pz1_0⟩ := hqs1
          have es1 := hs1
          have hs1 := hs1.sub (w' := [17, 18, 20, 21, 22, 24, 25, 26, 28, 29, 30]) (List.forall_mem_cons.mpr ⟨(by simp), (List.forall_mem_cons.mpr ⟨(by simp), (List.forall_mem_cons.mpr ⟨(by simp), (fun _ h => by cases h)⟩)⟩)⟩)
          have k1 := es1.b.1 _ _ (nm_c (by decide) (nm_c (by decide) (nm_c (by decide) nm_0))) (fun l z => by cases z) hux1
          have k2 := es1.b.1 _ _ (nm_c ((by decide : ∀ u ∈ RwL, u ≠ 20) _ hs) (nm_c ((by decide : ∀ u ∈ RwL, u ≠ 21) _ hs) (nm_c ((by decide : ∀ u ∈ RwL, u ≠ 22) _ hs) nm_0))) (fun l z => by cases z) hrx1
          have k3 := es1.b.1 _ _ (nm_c (by decide) (nm_c (by decide) (nm_c (by decide) nm_0))) (fun l z => by cases z) hcx2
          have gs1 := hτ.trans hs1
          have hU1 := UL.ints uτ pz1_0
          refine T.if_eq rfl rfl (by omega) (fun c3 => ?_) (fun c3 => ?_)
          · refine T.go 1 (fun n9 => (rfl : _ = exe ξ n9 (d + 3) j_U_learnCodes 183 [(0, .ref 17), (1, J a1), (2, J a2), (3, J a3), (4, J i)] [J 0] s1)) ?_
            exact T.iretz rfl rfl (by omega) ⟨_, rfl, gs1, by omega, by omega, hU1⟩
          · refine T.go 3 (fun n9 => (rfl : _ = exe ξ n9 (d + 3) j_U_learnCodes 126 [(0, .ref 17), (1, J a1), (2, J a2), (3, J a3), (4, J i)] [J a2, J a1, .ref 17] s1)) ?_
            refine T.iadd rfl ?_
            refine T.callv (as := [J (a1 + a2)]) (r := []) rfl rfl rfl rfl k1 rfl (s_U_tellLengths d s t (a1 + a2) s1 hs1.1  hs ht hst hU1 (by omega)) (fun v2 s2 hqs2 => ?_)
            obtain ⟨z2, rfl, hs2, hzz2, hyz2, pz2_0⟩ := hqs2
            have es2 := hs2
            have hs2 := hs2.sub (w' := [17, 18, 20, 21, 22, 24, 25, 26, 28, 29, 30]) (List.forall_mem_cons.mpr ⟨(by simp), (List.forall_mem_cons.mpr ⟨(by simp), (fun _ h => by cases h)⟩)⟩)
            have k4 := es2.b.1 _ _ (nm_c ((by decide : ∀ u ∈ RwL, u ≠ 17) _ hs) (nm_c ((by decide : ∀ u ∈ RwL, u ≠ 18) _ hs) nm_0)) (fun l z => by cases z) k2
            have k5 := es2.b.1 _ _ (nm_c (by decide) (nm_c (by decide) nm_0)) (fun l z => by cases z) k3
            have gs2 := gs1.trans hs2
            refine T.if_eq rfl rfl (by omega) (fun c4 => ?_) (fun c4 => ?_)
            · refine T.go 1 (fun n9 => (rfl : _ = exe ξ n9 (d + 3) j_U_learnCodes 183 [(0, .ref 17), (1, J a1), (2, J a2), (3, J a3), (4, J i)] [J 0] s2)) ?_
              exact T.iretz rfl rfl (by omega) ⟨_, rfl, gs2, by omega, by omega, pz2_0⟩
            · refine T.go 1 (fun n9 => (rfl : _ = exe ξ n9 (d + 3) j_U_learnCodes 134 [(0, .ref 17), (1, J a1), (2, J a2), (3, J a3), (4, J i)] [.ref 17] s2)) ?_
              obtain ⟨wx3, bix3, bex3, rox3, mx3, nx3, bx3, lx3, hux3, hrx3, hbx3, ⟨fx3a, fx3b, fx3c, fx3d, fx3e, fx3f, fx3g, fx3h, fx3i, fx3j⟩, ⟨fx3k, fx3l, fx3m, fx3n⟩, fx3o, fx3p⟩ := UL.unf hs2.1 pz2_0 hs
              refine T.get rfl rfl rfl hux3 rfl ?_
              refine T.go 1 (fun n9 => (rfl : _ = exe ξ n9 (d + 3) j_U_learnCodes 140 [(0, .ref 17), (1, J a1), (2, J a2), (3, J a3), (4, J i)] [J 256, .ref 18] s2)) ?_
              obtain ⟨lx4, hix4, elx4⟩ := hs2.1.ints kdX_18
              refine T.iald rfl rfl hix4 (by omega) (fun z3 hzz3 hyz3 hez3 => ?_)
              refine T.if_eq rfl rfl (by omega) (fun c5 => ?_) (fun c5 => ?_)
              · refine T.go 1 (fun n9 => (rfl : _ = exe ξ n9 (d + 3) j_U_learnCodes 183 [(0, .ref 17), (1, J a1), (2, J a2), (3, J a3), (4, J i)] [J 0] s2)) ?_
                exact T.iretz rfl rfl (by omega) ⟨_, rfl, gs2, by omega, by omega, pz2_0⟩
              · refine T.go 1 (fun n9 => (rfl : _ = exe ξ n9 (d + 3) j_U_learnCodes 145 [(0, .ref 17), (1, J a1), (2, J a2), (3, J a3), (4, J i)] [.ref 17] s2)) ?_
                refine T.get rfl rfl rfl hux3 rfl ?_
                refine T.go 1 (fun n9 => (rfl : _ = exe ξ n9 (d + 3) j_U_learnCodes 149 [(0, .ref 17), (1, J a1), (2, J a2), (3, J a3), (4, J i)] [.ref 17, .ref 23] s2)) ?_
                refine T.get rfl rfl rfl hux3 rfl ?_
                refine T.go 3 (fun n9 => (rfl : _ = exe ξ n9 (d + 3) j_U_learnCodes 155 [(0, .ref 17), (1, J a1), (2, J a2), (3, J a3), (4, J i)] [J 0, J a1, J 0, .ref 18, .ref 23] s2)) ?_
                have hcx5 := hs2.1.cod (c := 23) (by decide)
                refine T.callv (as := [.ref 18, J 0, J a1, J 0]) (r := []) rfl rfl rfl rfl hcx5 rfl (s_C_learn (d + 1) 23 0 a1 0 s2 hs2.1 (by decide) (by omega)) (fun v3 s3 hqs3 => ?_)
                obtain ⟨z4, rfl, hs3, hzz4, hyz4, pz4_0⟩ := hqs3
                have es3 := hs3
                have hs3 := hs3.sub (w' := [17, 18, 20, 21, 22, 24, 25, 26, 28, 29, 30]) (List.forall_mem_cons.mpr ⟨(by simp), (List.forall_mem_cons.mpr ⟨(by simp), (List.forall_mem_cons.mpr ⟨(by simp), (fun _ h => by cases h)⟩)⟩)⟩)
                have k6 := es3.b.1 _ _ (nm_c ((by decide : ∀ u ∈ RwL, u ≠ 24) _ hs) (nm_c ((by decide : ∀ u ∈ RwL, u ≠ 25) _ hs) (nm_c ((by decide : ∀ u ∈ RwL, u ≠ 26) _ hs) nm_0))) (fun l z => by cases z) hrx3
                have k7 := es3.b.1 _ _ (nm_c (by decide) (nm_c (by decide) (nm_c (by decide) nm_0))) (fun l z => by cases z) k5
                have k8 := es3.b.1 _ _ (nm_c (by decide) (nm_c (by decide) (nm_c (by decide) nm_0))) (fun l z => by cases z) hux3
                have k9 := es3.b.1 _ _ (nm_c (by decide) (nm_c (by decide) (nm_c (by decide) nm_0))) (fun l z => by cases z) hix4
                have k10 := es3.b.1 _ _ (nm_c (by decide) (nm_c (by decide) (nm_c (by decide) nm_0))) (fun l z => by cases z) hcx5
                have gs3 := gs2.trans hs3
                have hU3 := UL.ints pz2_0 pz4_0
                refine T.if_eq rfl rfl (by omega) (fun c6 => ?_) (fun c6 => ?_)
                · refine T.go 1 (fun n9 => (rfl : _ = exe ξ n9 (d + 3) j_U_learnCodes 183 [(0, .ref 17), (1, J a1), (2, J a2), (3, J a3), (4, J i)] [J 0] s3)) ?_
                  exact T.iretz rfl rfl (by omega) ⟨_, rfl, gs3, by omega, by omega, hU3⟩
                · refine T.go 1 (fun n9 => (rfl : _ = exe ξ n9 (d + 3) j_U_learnCodes 162 [(0, .ref 17), (1, J a1), (2, J a2), (3, J a3), (4, J i)] [.ref 17] s3)) ?_
                  refine T.get rfl rfl rfl k8 rfl ?_
                  refine T.go 1 (fun n9 => (rfl : _ = exe ξ n9 (d + 3) j_U_learnCodes 166 [(0, .ref 17), (1, J a1), (2, J a2), (3, J a3), (4, J i)] [.ref 17, .ref 27] s3)) ?_
                  refine T.get rfl rfl rfl k8 rfl ?_
                  refine T.go 3 (fun n9 => (rfl : _ = exe ξ n9 (d + 3) j_U_learnCodes 172 [(0, .ref 17), (1, J a1), (2, J a2), (3, J a3), (4, J i)] [J 1, J a2, J a1, .ref 18, .ref 27] s3)) ?_
                  have hcx6 := hs3.1.cod (c := 27) (by decide)
                  refine T.callv (as := [.ref 18, J a1, J a2, J 1]) (r := []) rfl rfl rfl rfl hcx6 rfl (s_C_learn (d + 1) 27 a1 a2 1 s3 hs3.1 (by decide) (by omega)) (fun v4 s4 hqs4 => ?_)
                  obtain ⟨z5, rfl, hs4, hzz5, hyz5, pz5_0⟩ := hqs4
                  have es4 := hs4
                  have hs4 := hs4.sub (w' := [17, 18, 20, 21, 22, 24, 25, 26, 28, 29, 30]) (List.forall_mem_cons.mpr ⟨(by simp), (List.forall_mem_cons.mpr ⟨(by simp), (List.forall_mem_cons.mpr ⟨(by simp), (fun _ h => by cases h)⟩)⟩)⟩)
                  have k11 := es4.b.1 _ _ (nm_c ((by decide : ∀ u ∈ RwL, u ≠ 28) _ hs) (nm_c ((by decide : ∀ u ∈ RwL, u ≠ 29) _ hs) (nm_c ((by decide : ∀ u ∈ RwL, u ≠ 30) _ hs) nm_0))) (fun l z => by cases z) k6
                  have k12 := es4.b.1 _ _ (nm_c (by decide) (nm_c (by decide) (nm_c (by decide) nm_0))) (fun l z => by cases z) k7
                  have k13 := es4.b.1 _ _ (nm_c (by decide) (nm_c (by decide) (nm_c (by decide) nm_0))) (fun l z => by cases z) k8
                  have k14 := es4.b.1 _ _ (nm_c (by decide) (nm_c (by decide) (nm_c (by decide) nm_0))) (fun l z => by cases z) k9
                  have k15 := es4.b.1 _ _ (nm_c (by decide) (nm_c (by decide) (nm_c (by decide) nm_0))) (fun l z => by cases z) k10
                  have k16 := es4.b.1 _ _ (nm_c (by decide) (nm_c (by decide) (nm_c (by decide) nm_0))) (fun l z => by cases z) hcx6
                  have gs4 := gs3.trans hs4
                  have hU4 := UL.ints hU3 pz5_0
                  refine T.if_eq rfl rfl (by omega) (fun c7 => ?_) (fun c7 => ?_)
                  · refine T.go 1 (fun n9 => (rfl : _ = exe ξ n9 (d + 3) j_U_learnCodes 183 [(0, .ref 17), (1, J a1), (2, J a2), (3, J a3), (4, J i)] [J 0] s4)) ?_
                    exact T.iretz rfl rfl (by omega) ⟨_, rfl, gs4, by omega, by omega, hU4⟩
                  · refine T.go 2 (fun n9 => (rfl : _ = exe ξ n9 (d + 3) j_U_learnCodes 183 [(0, .ref 17), (1, J a1), (2, J a2), (3, J a3), (4, J i)] [J 1] s4)) ?_
                    exact T.iretz rfl rfl (by omega) ⟨_, rfl, gs4, by omega, by omega, hU4⟩
      · refine T.go 2 (fun n9 => (rfl : _ = exe ξ n9 (d + 3) j_U_learnCodes 70 [(0, .ref 17), (1, J a1), (2, J a2), (3, J a3), (4, J i)] [.ref 1, J i] τ)) ?_
        refine T.xlen rfl rfl hX1 ?_
        refine T.icmp_ge rfl rfl (by omega) (by omega) (fun c8 => ?_) (fun c8 => ?_)
        · refine T.go 1 (fun n9 => (rfl : _ = exe ξ n9 (d + 3) j_U_learnCodes 97 [(0, .ref 17), (1, J a1), (2, J a2), (3, J a3), (4, J i)] [.ref 17] τ)) ?_
          obtain ⟨wx7, bix7, bex7, rox7, mx7, nx7, bx7, lx7, hux7, hrx7, hbx7, ⟨fx7a, fx7b, fx7c, fx7d, fx7e, fx7f, fx7g, fx7h, fx7i, fx7j⟩, ⟨fx7k, fx7l, fx7m, fx7n⟩, fx7o, fx7p⟩ := UL.unf hτ.1 uτ hs
          refine T.get rfl rfl rfl hux7 rfl ?_
          refine T.if_ne rfl rfl (by omega) (fun c9 => ?_) (fun c9 => ?_)
          · refine T.go 1 (fun n9 => (rfl : _ = exe ξ n9 (d + 3) j_U_learnCodes 183 [(0, .ref 17), (1, J a1), (2, J a2), (3, J a3), (4, J i)] [J 0] τ)) ?_
            exact T.iretz rfl rfl (by omega) ⟨_, rfl, hτ, by omega, by omega, uτ⟩
          · refine T.go 1 (fun n9 => (rfl : _ = exe ξ n9 (d + 3) j_U_learnCodes 104 [(0, .ref 17), (1, J a1), (2, J a2), (3, J a3), (4, J i)] [.ref 17] τ)) ?_
            refine T.get rfl rfl rfl hux7 rfl ?_
            refine T.go 1 (fun n9 => (rfl : _ = exe ξ n9 (d + 3) j_U_learnCodes 108 [(0, .ref 17), (1, J a1), (2, J a2), (3, J a3), (4, J i)] [.ref 17, .ref 19] τ)) ?_
            refine T.get rfl rfl rfl hux7 rfl ?_
            refine T.go 2 (fun n9 => (rfl : _ = exe ξ n9 (d + 3) j_U_learnCodes 115 [(0, .ref 17), (1, J a1), (2, J a2), (3, J a3), (4, J i)] [.ref 1, J 0, .ref 18, .ref 19] τ)) ?_
            refine T.xlen rfl rfl hX1 ?_
            refine T.go 1 (fun n9 => (rfl : _ = exe ξ n9 (d + 3) j_U_learnCodes 117 [(0, .ref 17), (1, J a1), (2, J a2), (3, J a3), (4, J i)] [J 0, J (X1.length), J 0, .ref 18, .ref 19] τ)) ?_
            have hcx8 := hτ.1.cod (c := 19) (by decide)
            refine T.callv (as := [.ref 18, J 0, J (X1.length), J 0]) (r := []) rfl rfl rfl rfl hcx8 rfl (s_C_learn (d + 1) 19 0 (X1.length) 0 τ hτ.1 (by decide) (by omega)) (fun v5 s5 hqs5 => ?_)
            obtain ⟨z6, rfl, hs5, hzz6, hyz6, pz6_0⟩ := hqs5
            have es5 := hs5
            have hs5 := hs5.sub (w' := [17, 18, 20, 21, 22, 24, 25, 26, 28, 29, 30]) (List.forall_mem_cons.mpr ⟨(by simp), (List.forall_mem_cons.mpr ⟨(by simp), (List.forall_mem_cons.mpr ⟨(by simp), (fun _ h => by cases h)⟩)⟩)⟩)
            have k17 := es5.b.1 _ _ (nm_c (by decide) (nm_c (by decide) (nm_c (by decide) nm_0))) (fun l z => by cases z) hux7
            have k18 := es5.b.1 _ _ (nm_c ((by decide : ∀ u ∈ RwL, u ≠ 20) _ hs) (nm_c ((by decide : ∀ u ∈ RwL, u ≠ 21) _ hs) (nm_c ((by decide : ∀ u ∈ RwL, u ≠ 22) _ hs) nm_0))) (fun l z => by cases z) hrx7
            have k19 := es5.b.1 _ _ (nm_c (by decide) (nm_c (by decide) (nm_c (by decide) nm_0))) (fun l z => by cases z) hcx8
            have gs5 := hτ.trans hs5
            have hU5 := UL.ints uτ pz6_0
            refine T.if_eq rfl rfl (by omega) (fun c10 => ?_) (fun c10 => ?_)
            · refine T.go 1 (fun n9 => (rfl : _ = exe ξ n9 (d + 3) j_U_learnCodes 183 [(0, .ref 17), (1, J a1), (2, J a2), (3, J a3), (4, J i)] [J 0] s5)) ?_
              exact T.iretz rfl rfl (by omega) ⟨_, rfl, gs5, by omega, by omega, hU5⟩
            · refine T.go 3 (fun n9 => (rfl : _ = exe ξ n9 (d + 3) j_U_learnCodes 126 [(0, .ref 17), (1, J a1), (2, J a2), (3, J a3), (4, J i)] [J a2, J a1, .ref 17] s5)) ?_
              refine T.iadd rfl ?_
              refine T.callv (as := [J (a1 + a2)]) (r := []) rfl rfl rfl rfl k17 rfl (s_U_tellLengths d s t (a1 + a2) s5 hs5.1  hs ht hst hU5 (by omega)) (fun v6 s6 hqs6 => ?_)
              obtain ⟨z7, rfl, hs6, hzz7, hyz7, pz7_0⟩ := hqs6
              have es6 := hs6
              have hs6 := hs6.sub (w' := [17, 18, 20, 21, 22, 24, 25, 26, 28, 29, 30]) (List.forall_mem_cons.mpr ⟨(by simp), (List.forall_mem_cons.mpr ⟨(by simp), (fun _ h => by cases h)⟩)⟩)
              have k20 := es6.b.1 _ _ (nm_c ((by decide : ∀ u ∈ RwL, u ≠ 17) _ hs) (nm_c ((by decide : ∀ u ∈ RwL, u ≠ 18) _ hs) nm_0)) (fun l z => by cases z) k18
              have k21 := es6.b.1 _ _ (nm_c (by decide) (nm_c (by decide) nm_0)) (fun l z => by cases z) k19
              have gs6 := gs5.trans hs6
              refine T.if_eq rfl rfl (by omega) (fun c11 => ?_) (fun c11 => ?_)
              · refine T.go 1 (fun n9 => (rfl : _ = exe ξ n9 (d + 3) j_U_learnCodes 183 [(0, .ref 17), (1, J a1), (2, J a2), (3, J a3), (4, J i)] [J 0] s6)) ?_
                exact T.iretz rfl rfl (by omega) ⟨_, rfl, gs6, by omega, by omega, pz7_0⟩
              · refine T.go 1 (fun n9 => (rfl : _ = exe ξ n9 (d + 3) j_U_learnCodes 134 [(0, .ref 17), (1, J a1), (2, J a2), (3, J a3), (4, J i)] [.ref 17] s6)) ?_
                obtain ⟨wx9, bix9, bex9, rox9, mx9, nx9, bx9, lx9, hux9, hrx9, hbx9, ⟨fx9a, fx9b, fx9c, fx9d, fx9e, fx9f, fx9g, fx9h, fx9i, fx9j⟩, ⟨fx9k, fx9l, fx9m, fx9n⟩, fx9o, fx9p⟩ := UL.unf hs6.1 pz7_0 hs
                refine T.get rfl rfl rfl hux9 rfl ?_
                refine T.go 1 (fun n9 => (rfl : _ = exe ξ n9 (d + 3) j_U_learnCodes 140 [(0, .ref 17), (1, J a1), (2, J a2), (3, J a3), (4, J i)] [J 256, .ref 18] s6)) ?_
                obtain ⟨lx10, hix10, elx10⟩ := hs6.1.ints kdX_18
                refine T.iald rfl rfl hix10 (by omega) (fun z8 hzz8 hyz8 hez8 => ?_)
                refine T.if_eq rfl rfl (by omega) (fun c12 => ?_) (fun c12 => ?_)
                · refine T.go 1 (fun n9 => (rfl : _ = exe ξ n9 (d + 3) j_U_learnCodes 183 [(0, .ref 17), (1, J a1), (2, J a2), (3, J a3), (4, J i)] [J 0] s6)) ?_
                  exact T.iretz rfl rfl (by omega) ⟨_, rfl, gs6, by omega, by omega, pz7_0⟩
                · refine T.go 1 (fun n9 => (rfl : _ = exe ξ n9 (d + 3) j_U_learnCodes 145 [(0, .ref 17), (1, J a1), (2, J a2), (3, J a3), (4, J i)] [.ref 17] s6)) ?_
                  refine T.get rfl rfl rfl hux9 rfl ?_
                  refine T.go 1 (fun n9 => (rfl : _ = exe ξ n9 (d + 3) j_U_learnCodes 149 [(0, .ref 17), (1, J a1), (2, J a2), (3, J a3), (4, J i)] [.ref 17, .ref 23] s6)) ?_
                  refine T.get rfl rfl rfl hux9 rfl ?_
                  refine T.go 3 (fun n9 => (rfl : _ = exe ξ n9 (d + 3) j_U_learnCodes 155 [(0, .ref 17), (1, J a1), (2, J a2), (3, J a3), (4, J i)] [J 0, J a1, J 0, .ref 18, .ref 23] s6)) ?_
                  have hcx11 := hs6.1.cod (c := 23) (by decide)
                  refine T.callv (as := [.ref 18, J 0, J a1, J 0]) (r := []) rfl rfl rfl rfl hcx11 rfl (s_C_learn (d + 1) 23 0 a1 0 s6 hs6.1 (by decide) (by omega)) (fun v7 s7 hqs7 => ?_)
                  obtain ⟨z9, rfl, hs7, hzz9, hyz9, pz9_0⟩ := hqs7
                  have es7 := hs7
                  have hs7 := hs7.sub (w' := [17, 18, 20, 21, 22, 24, 25, 26, 28, 29, 30]) (List.forall_mem_cons.mpr ⟨(by simp), (List.forall_mem_cons.mpr ⟨(by simp), (List.forall_mem_cons.mpr ⟨(by simp), (fun _ h => by cases h)⟩)⟩)⟩)
                  have k22 := es7.b.1 _ _ (nm_c ((by decide : ∀ u ∈ RwL, u ≠ 24) _ hs) (nm_c ((by decide : ∀ u ∈ RwL, u ≠ 25) _ hs) (nm_c ((by decide : ∀ u ∈ RwL, u ≠ 26) _ hs) nm_0))) (fun l z => by cases z) hrx9
                  have k23 := es7.b.1 _ _ (nm_c (by decide) (nm_c (by decide) (nm_c (by decide) nm_0))) (fun l z => by cases z) k21
                  have k24 := es7.b.1 _ _ (nm_c (by decide) (nm_c (by decide) (nm_c (by decide) nm_0))) (fun l z => by cases z) hux9
                  have k25 := es7.b.1 _ _ (nm_c (by decide) (nm_c (by decide) (nm_c (by decide) nm_0))) (fun l z => by cases z) hix10
                  have k26 := es7.b.1 _ _ (nm_c (by decide) (nm_c (by decide) (nm_c (by decide) nm_0))) (fun l z => by cases z) hcx11
                  have gs7 := gs6.trans hs7
                  have hU7 := UL.ints pz7_0 pz9_0
                  refine T.if_eq rfl rfl (by omega) (fun c13 => ?_) (fun c13 => ?_)
                  · refine T.go 1 (fun n9 => (rfl : _ = exe ξ n9 (d + 3) j_U_learnCodes 183 [(0, .ref 17), (1, J a1), (2, J a2), (3, J a3), (4, J i)] [J 0] s7)) ?_
                    exact T.iretz rfl rfl (by omega) ⟨_, rfl, gs7, by omega, by omega, hU7⟩
                  · refine T.go 1 (fun n9 => (rfl : _ = exe ξ n9 (d + 3) j_U_learnCodes 162 [(0, .ref 17), (1, J a1), (2, J a2), (3, J a3), (4, J i)] [.ref 17] s7)) ?_
                    refine T.get rfl rfl rfl k24 rfl ?_
                    refine T.go 1 (fun n9 => (rfl : _ = exe ξ n9 (d + 3) j_U_learnCodes 166 [(0, .ref 17), (1, J a1), (2, J a2), (3, J a3), (4, J i)] [.ref 17, .ref 27] s7)) ?_
                    refine T.get rfl rfl rfl k24 rfl ?_
                    refine T.go 3 (fun n9 => (rfl : _ = exe ξ n9 (d + 3) j_U_learnCodes 172 [(0, .ref 17), (1, J a1), (2, J a2), (3, J a3), (4, J i)] [J 1, J a2, J a1, .ref 18, .ref 27] s7)) ?_
                    have hcx12 := hs7.1.cod (c := 27) (by decide)
                    refine T.callv (as := [.ref 18, J a1, J a2, J 1]) (r := []) rfl rfl rfl rfl hcx12 rfl (s_C_learn (d + 1) 27 a1 a2 1 s7 hs7.1 (by decide) (by omega)) (fun v8 s8 hqs8 => ?_)
                    obtain ⟨z10, rfl, hs8, hzz10, hyz10, pz10_0⟩ := hqs8
                    have es8 := hs8
                    have hs8 := hs8.sub (w' := [17, 18, 20, 21, 22, 24, 25, 26, 28, 29, 30]) (List.forall_mem_cons.mpr ⟨(by simp), (List.forall_mem_cons.mpr ⟨(by simp), (List.forall_mem_cons.mpr ⟨(by simp), (fun _ h => by cases h)⟩)⟩)⟩)
                    have k27 := es8.b.1 _ _ (nm_c ((by decide : ∀ u ∈ RwL, u ≠ 28) _ hs) (nm_c ((by decide : ∀ u ∈ RwL, u ≠ 29) _ hs) (nm_c ((by decide : ∀ u ∈ RwL, u ≠ 30) _ hs) nm_0))) (fun l z => by cases z) k22
                    have k28 := es8.b.1 _ _ (nm_c (by decide) (nm_c (by decide) (nm_c (by decide) nm_0))) (fun l z => by cases z) k23
                    have k29 := es8.b.1 _ _ (nm_c (by decide) (nm_c (by decide) (nm_c (by decide) nm_0))) (fun l z => by cases z) k24
                    have k30 := es8.b.1 _ _ (nm_c (by decide) (nm_c (by decide) (nm_c (by decide) nm_0))) (fun l z => by cases z) k25
                    have k31 := es8.b.1 _ _ (nm_c (by decide) (nm_c (by decide) (nm_c (by decide) nm_0))) (fun l z => by cases z) k26
                    have k32 := es8.b.1 _ _ (nm_c (by decide) (nm_c (by decide) (nm_c (by decide) nm_0))) (fun l z => by cases z) hcx12
                    have gs8 := gs7.trans hs8
                    have hU8 := UL.ints hU7 pz10_0
                    refine T.if_eq rfl rfl (by omega) (fun c14 => ?_) (fun c14 => ?_)
                    · refine T.go 1 (fun n9 => (rfl : _ = exe ξ n9 (d + 3) j_U_learnCodes 183 [(0, .ref 17), (1, J a1), (2, J a2), (3, J a3), (4, J i)] [J 0] s8)) ?_
                      exact T.iretz rfl rfl (by omega) ⟨_, rfl, gs8, by omega, by omega, hU8⟩
                    · refine T.go 2 (fun n9 => (rfl : _ = exe ξ n9 (d + 3) j_U_learnCodes 183 [(0, .ref 17), (1, J a1), (2, J a2), (3, J a3), (4, J i)] [J 1] s8)) ?_
                      exact T.iretz rfl rfl (by omega) ⟨_, rfl, gs8, by omega, by omega, hU8⟩
        · refine T.go 1 (fun n9 => (rfl : _ = exe ξ n9 (d + 3) j_U_learnCodes 75 [(0, .ref 17), (1, J a1), (2, J a2), (3, J a3), (4, J i)] [.ref 17] τ)) ?_
          obtain ⟨wx13, bix13, bex13, rox13, mx13, nx13, bx13, lx13, hux13, hrx13, hbx13, ⟨fx13a, fx13b, fx13c, fx13d, fx13e, fx13f, fx13g, fx13h, fx13i, fx13j⟩, ⟨fx13k, fx13l, fx13m, fx13n⟩, fx13o, fx13p⟩ := UL.unf hτ.1 uτ hs
          refine T.get rfl rfl rfl hux13 rfl ?_
          refine T.go 2 (fun n9 => (rfl : _ = exe ξ n9 (d + 3) j_U_learnCodes 83 [(0, .ref 17), (1, J a1), (2, J a2), (3, J a3), (4, J i)] [J i, .ref 1, .ref 18] τ)) ?_
          refine T.xld rfl rfl hX1 (by omega) (fun z11 hzz11 hyz11 hez11 => ?_)
          have loz11 := LO_at lX1 (by omega) ⟨hzz11, hyz11⟩ hez11
          refine T.go 2 (fun n9 => (rfl : _ = exe ξ n9 (d + 3) j_U_learnCodes 86 [(0, .ref 17), (1, J a1), (2, J a2), (3, J a3), (4, J i)] [J 3, .ref 17, J z11, .ref 18] τ)) ?_
          refine T.callv (as := [J 3]) (r := [J z11, .ref 18]) rfl rfl rfl rfl hux13 rfl (s_U_takeBits (d + 2) s t 3 τ hτ.1  hs ht hst uτ (by omega)) (fun v9 s9 hqs9 => ?_)
          obtain ⟨z12, rfl, hs9, hzz12, hyz12, pz12_0, pz12_1⟩ := hqs9
          have es9 := hs9
          have hs9 := hs9.sub (w' := [17, 18, 20, 21, 22, 24, 25, 26, 28, 29, 30]) (List.forall_mem_cons.mpr ⟨(by simp), (fun _ h => by cases h)⟩)
          have k33 := es9.b.1 _ _ (nm_c ((by decide : ∀ u ∈ RwL, u ≠ 17) _ hs) nm_0) (fun l z => by cases z) hrx13
          have gs9 := hτ.trans hs9
          obtain ⟨lx14, hix14, elx14⟩ := hs9.1.ints kdX_18
          obtain ⟨wx15, bix15, bex15, rox15, mx15, nx15, bx15, lx15, hux15, hrx15, hbx15, ⟨fx15a, fx15b, fx15c, fx15d, fx15e, fx15f, fx15g, fx15h, fx15i, fx15j⟩, ⟨fx15k, fx15l, fx15m, fx15n⟩, fx15o, fx15p⟩ := UL.unf hs9.1 pz12_0 hs
          refine T.iastF (w := [17, 18, 20, 21, 22, 24, 25, 26, 28, 29, 30]) rfl hs9.1 hix14 (by omega) (by decide) (Or.inl (by decide)) (by simp) (fun s10 hs10 hcs10 hos10 => ?_)
          have els10 : (lx14.set (z11 : Int).toNat (Int32.ofInt z12)).length = 320 := List.length_set.trans elx14
          have gs10 := gs9.trans hs10
          have k34 := hos10 ((by decide : ∀ u ∈ RwL, u ≠ 18) _ hs) hrx15
          have k35 := hos10 (by decide) hux15
          have k36 := hos10 (q_dif hbx15 hix14 (fun z => by cases z)) hbx15
          refine T.iinc (lv' := [(0, .ref 17), (1, J a1), (2, J a2), (3, J a3), (4, J (i + 1))]) rfl rfl rfl rfl ?_
          refine T.go 1 (fun n9 => (rfl : _ = exe ξ n9 (d + 3) j_U_learnCodes 59 [(0, .ref 17), (1, J a1), (2, J a2), (3, J a3), (4, J (i + 1))] [] s10)) ?_
          have hU10 : UL s t s10 := ⟨_, _, _, _, _, _, _, _, k35, k34, k36, by omega⟩
          exact ih  a1 a2 a3 (i + 1) s10 gs10 hU10 (by omega) (by omega) (by omega) (by omega) (by omega) (by omega) (by omega) (by omega) (by omega)
  refine T.go 2 (fun n9 => (rfl : _ = exe ξ n9 (d + 3) j_U_learnCodes 2 [(0, .ref 17)] [J 5, .ref 17] σ)) ?_
  obtain ⟨wx16, bix16, bex16, rox16, mx16, nx16, bx16, lx16, hux16, hrx16, hbx16, ⟨fx16a, fx16b, fx16c, fx16d, fx16e, fx16f, fx16g, fx16h, fx16i, fx16j⟩, ⟨fx16k, fx16l, fx16m, fx16n⟩, fx16o, fx16p⟩ := UL.unf hK hU hs
  refine T.callv (as := [J 5]) (r := []) rfl rfl rfl rfl hux16 rfl (s_U_takeBits (d + 2) s t 5 σ hK  hs ht hst hU (by omega)) (fun v10 s11 hqs11 => ?_)
  obtain ⟨z13, rfl, hs11, hzz13, hyz13, pz13_0, pz13_1⟩ := hqs11
  have es11 := hs11
  have hs11 := hs11.sub (w' := [17, 18, 20, 21, 22, 24, 25, 26, 28, 29, 30]) (List.forall_mem_cons.mpr ⟨(by simp), (fun _ h => by cases h)⟩)
  have k37 := es11.b.1 _ _ (nm_c ((by decide : ∀ u ∈ RwL, u ≠ 17) _ hs) nm_0) (fun l z => by cases z) hrx16
  refine T.go 1 (fun n9 => (rfl : _ = exe ξ n9 (d + 3) j_U_learnCodes 8 [(0, .ref 17)] [J 257, J z13] s11)) ?_
  refine T.iadd rfl ?_
  refine T.go 3 (fun n9 => (rfl : _ = exe ξ n9 (d + 3) j_U_learnCodes 12 [(0, .ref 17), (1, J (z13 + 257))] [J 5, .ref 17] s11)) ?_
  obtain ⟨wx17, bix17, bex17, rox17, mx17, nx17, bx17, lx17, hux17, hrx17, hbx17, ⟨fx17a, fx17b, fx17c, fx17d, fx17e, fx17f, fx17g, fx17h, fx17i, fx17j⟩, ⟨fx17k, fx17l, fx17m, fx17n⟩, fx17o, fx17p⟩ := UL.unf hs11.1 pz13_0 hs
  refine T.callv (as := [J 5]) (r := []) rfl rfl rfl rfl hux17 rfl (s_U_takeBits (d + 2) s t 5 s11 hs11.1  hs ht hst pz13_0 (by omega)) (fun v11 s12 hqs12 => ?_)
  obtain ⟨z14, rfl, hs12, hzz14, hyz14, pz14_0, pz14_1⟩ := hqs12
  have es12 := hs12
  have hs12 := hs12.sub (w' := [17, 18, 20, 21, 22, 24, 25, 26, 28, 29, 30]) (List.forall_mem_cons.mpr ⟨(by simp), (fun _ h => by cases h)⟩)
  have k38 := es12.b.1 _ _ (nm_c ((by decide : ∀ u ∈ RwL, u ≠ 17) _ hs) nm_0) (fun l z => by cases z) hrx17
  have gs12 := hs11.trans hs12
  refine T.go 1 (fun n9 => (rfl : _ = exe ξ n9 (d + 3) j_U_learnCodes 16 [(0, .ref 17), (1, J (z13 + 257))] [J 1, J z14] s12)) ?_
  refine T.iadd rfl ?_
  refine T.go 3 (fun n9 => (rfl : _ = exe ξ n9 (d + 3) j_U_learnCodes 20 [(0, .ref 17), (1, J (z13 + 257)), (2, J (z14 + 1))] [J 4, .ref 17] s12)) ?_
  obtain ⟨wx18, bix18, bex18, rox18, mx18, nx18, bx18, lx18, hux18, hrx18, hbx18, ⟨fx18a, fx18b, fx18c, fx18d, fx18e, fx18f, fx18g, fx18h, fx18i, fx18j⟩, ⟨fx18k, fx18l, fx18m, fx18n⟩, fx18o, fx18p⟩ := UL.unf hs12.1 pz14_0 hs
  refine T.callv (as := [J 4]) (r := []) rfl rfl rfl rfl hux18 rfl (s_U_takeBits (d + 2) s t 4 s12 hs12.1  hs ht hst pz14_0 (by omega)) (fun v12 s13 hqs13 => ?_)
  obtain ⟨z15, rfl, hs13, hzz15, hyz15, pz15_0, pz15_1⟩ := hqs13
  have es13 := hs13
  have hs13 := hs13.sub (w' := [17, 18, 20, 21, 22, 24, 25, 26, 28, 29, 30]) (List.forall_mem_cons.mpr ⟨(by simp), (fun _ h => by cases h)⟩)
  have k39 := es13.b.1 _ _ (nm_c ((by decide : ∀ u ∈ RwL, u ≠ 17) _ hs) nm_0) (fun l z => by cases z) hrx18
  have gs13 := gs12.trans hs13
  refine T.go 1 (fun n9 => (rfl : _ = exe ξ n9 (d + 3) j_U_learnCodes 24 [(0, .ref 17), (1, J (z13 + 257)), (2, J (z14 + 1))] [J 4, J z15] s13)) ?_
  refine T.iadd rfl ?_
  refine T.go 2 (fun n9 => (rfl : _ = exe ξ n9 (d + 3) j_U_learnCodes 27 [(0, .ref 17), (1, J (z13 + 257)), (2, J (z14 + 1)), (3, J (z15 + 4))] [.ref 17] s13)) ?_
  obtain ⟨wx19, bix19, bex19, rox19, mx19, nx19, bx19, lx19, hux19, hrx19, hbx19, ⟨fx19a, fx19b, fx19c, fx19d, fx19e, fx19f, fx19g, fx19h, fx19i, fx19j⟩, ⟨fx19k, fx19l, fx19m, fx19n⟩, fx19o, fx19p⟩ := UL.unf hs13.1 pz15_0 hs
  refine T.get rfl rfl rfl hux19 rfl ?_
  refine T.if_ne rfl rfl (by omega) (fun c15 => ?_) (fun c15 => ?_)
  · refine T.go 1 (fun n9 => (rfl : _ = exe ξ n9 (d + 3) j_U_learnCodes 47 [(0, .ref 17), (1, J (z13 + 257)), (2, J (z14 + 1)), (3, J (z15 + 4))] [J 0] s13)) ?_
    exact T.iretz rfl rfl (by omega) ⟨_, rfl, gs13, by omega, by omega, pz15_0⟩
  · refine T.go 2 (fun n9 => (rfl : _ = exe ξ n9 (d + 3) j_U_learnCodes 37 [(0, .ref 17), (1, J (z13 + 257)), (2, J (z14 + 1)), (3, J (z15 + 4))] [J 286, J (z13 + 257)] s13)) ?_
    refine T.icmp_gt rfl rfl (by omega) (by omega) (fun c16 => ?_) (fun c16 => ?_)
    · refine T.go 1 (fun n9 => (rfl : _ = exe ξ n9 (d + 3) j_U_learnCodes 47 [(0, .ref 17), (1, J (z13 + 257)), (2, J (z14 + 1)), (3, J (z15 + 4))] [J 0] s13)) ?_
      exact T.iretz rfl rfl (by omega) ⟨_, rfl, gs13, by omega, by omega, pz15_0⟩
    · refine T.go 2 (fun n9 => (rfl : _ = exe ξ n9 (d + 3) j_U_learnCodes 43 [(0, .ref 17), (1, J (z13 + 257)), (2, J (z14 + 1)), (3, J (z15 + 4))] [J 30, J (z14 + 1)] s13)) ?_
      refine T.icmp_le rfl rfl (by omega) (by omega) (fun c17 => ?_) (fun c17 => ?_)
      · refine T.go 1 (fun n9 => (rfl : _ = exe ξ n9 (d + 3) j_U_learnCodes 49 [(0, .ref 17), (1, J (z13 + 257)), (2, J (z14 + 1)), (3, J (z15 + 4))] [.ref 17] s13)) ?_
        refine T.get rfl rfl rfl hux19 rfl ?_
        refine T.go 1 (fun n9 => (rfl : _ = exe ξ n9 (d + 3) j_U_learnCodes 53 [(0, .ref 17), (1, J (z13 + 257)), (2, J (z14 + 1)), (3, J (z15 + 4))] [J 0, .ref 18] s13)) ?_
        refine T.calls (as := [.ref 18, J 0]) (r := []) rfl rfl (by decide) rfl rfl (s_J_fill2 (d + 2) 18 0 s13 hs13.1 kdX_18 (by decide) rfl (by decide) (Or.inl (by decide))) (fun v13 s14 hqs14 => ?_)
        obtain ⟨rfl, hs14, pz16_0⟩ := hqs14
        have es14 := hs14
        have hs14 := hs14.sub (w' := [17, 18, 20, 21, 22, 24, 25, 26, 28, 29, 30]) (List.forall_mem_cons.mpr ⟨(by simp), (fun _ h => by cases h)⟩)
        have k40 := es14.b.1 _ _ (nm_c ((by decide : ∀ u ∈ RwL, u ≠ 18) _ hs) nm_0) (fun l z => by cases z) hrx19
        have k41 := es14.b.1 _ _ (nm_c (by decide) nm_0) (fun l z => by cases z) hux19
        have gs14 := gs13.trans hs14
        have hU14 := UL.ints pz15_0 pz16_0
        refine T.go 2 (fun n9 => (rfl : _ = exe ξ n9 (d + 3) j_U_learnCodes 59 [(0, .ref 17), (1, J (z13 + 257)), (2, J (z14 + 1)), (3, J (z15 + 4)), (4, J 0)] [] s14)) ?_
        exact loop59 _ (z13 + 257) (z14 + 1) (z15 + 4) 0 s14 gs14 hU14 (by omega) (by omega) (by omega) (by omega) (by omega) (by omega) (by omega) (by omega) (Nat.lt_succ_self _)
      · refine T.go 1 (fun n9 => (rfl : _ = exe ξ n9 (d + 3) j_U_learnCodes 47 [(0, .ref 17), (1, J (z13 + 257)), (2, J (z14 + 1)), (3, J (z15 + 4))] [J 0] s13)) ?_
        exact T.iretz rfl rfl (by omega) ⟨_, rfl, gs13, by omega, by omega, pz15_0⟩

set_option maxRecDepth 10000 in
set_option maxHeartbeats 4000000 in
theorem s_U_unpack {ξ : Nat → Option (Nat × List Int32)} (hX : XT ξ) (d : Nat) (o : Nat) (x : Int) (n : Int) (q : Nat) (u : Int) (σ : qH) (hK : K σ) (ho : o ∈ RwL) (hq : q ∈ RwL) (hoq : o ≠ q) (rx : -2147483648 ≤ x ∧ x ≤ 2147483647) (rn : -2147483648 ≤ n ∧ n ≤ 2147483647) (ru : -2147483648 ≤ u ∧ u ≤ 2147483647) (pre0 : -100000 ≤ u) (pre1 : u ≤ 8000) : T ξ (d + 4) j_U_unpack 0 (lv_args 0 [.ref 17, .ref o, J x, J n, .ref q, J u]) [] σ (fun v σ' => ∃ z : Int, v = some (J z) ∧ Fr [17, 18, 20, 21, 22, 24, 25, 26, 28, 29, 30, q] σ σ' ∧ 0 ≤ z ∧ z ≤ 1) := by
  have hX0 := hX
  obtain ⟨⟨X1, hX1, lX1⟩, ⟨X2, hX2, lX2⟩, ⟨X3, hX3, lX3⟩, ⟨X4, hX4, lX4⟩, ⟨X5, hX5, lX5⟩, ⟨X6, hX6, lX6⟩⟩ := hX
  have lY1 : X1.length = 19 := by rw [lX1]; rfl
  have lY2 : X2.length = 29 := by rw [lX2]; rfl
  have lY3 : X3.length = 29 := by rw [lX3]; rfl
  have lY4 : X4.length = 30 := by rw [lX4]; rfl
  have lY5 : X5.length = 30 := by rw [lX5]; rfl
  have lY6 : X6.length = 16 := by rw [lX6]; rfl
  obtain ⟨mx1, nx1, bx1, lx1, hrx1, hbx1, fx1a, fx1b, fx1c, fx1d, fx1e, fx1g, fx1h, fx1i⟩ := hK.row ho
  have loop74 : ∀ (f : Nat) (e : Int) (i : Int) (τ : qH), Fr [17, 18, 20, 21, 22, 24, 25, 26, 28, 29, 30, q] σ τ → UL o q τ → 0 ≤ e → e ≤ 1 → 0 ≤ i → i ≤ 64001 → (64001 - i).toNat < f → T ξ (d + 4) j_U_unpack 74 [(0, .ref 17), (1, .ref o), (2, J x), (3, J n), (4, .ref q), (5, J u), (6, J e), (7, J i)] [] τ (fun v σ' => ∃ z : Int, v = some (J z) ∧ Fr [17, 18, 20, 21, 22, 24, 25, 26, 28, 29, 30, q] σ σ' ∧ 0 ≤ z ∧ z ≤ 1) := by
    intro f
    induction f with
    | zero => intro e i τ hτ uτ i0 i1 i2 i3 hm; omega
    | succ f ih =>
      intro e i τ hτ uτ i0 i1 i2 i3 hm
      refine T.go 2 (fun n9 => (rfl : _ = exe ξ n9 (d + 4) j_U_unpack 78 [(0, .ref 17), (1, .ref o), (2, J x), (3, J n), (4, .ref q), (5, J u), (6, J e), (7, J i)] [J 64000, J i] τ)) ?_
      refine T.icmp_gt rfl rfl (by omega) (by omega) (fun c1 => ?_) (fun c1 => ?_)
      · refine T.go 1 (fun n9 => (rfl : _ = exe ξ n9 (d + 4) j_U_unpack 199 [(0, .ref 17), (1, .ref o), (2, J x), (3, J n), (4, .ref q), (5, J u), (6, J e), (7, J i)] [J e] τ)) ?_
        refine T.if_eq rfl rfl (by omega) (fun c2 => ?_) (fun c2 => ?_)
        · refine T.go 1 (fun n9 => (rfl : _ = exe ξ n9 (d + 4) j_U_unpack 235 [(0, .ref 17), (1, .ref o), (2, J x), (3, J n), (4, .ref q), (5, J u), (6, J e), (7, J i)] [J 0] τ)) ?_
          exact T.iretz rfl rfl (by omega) ⟨_, rfl, hτ, by omega, by omega⟩
        · refine T.go 1 (fun n9 => (rfl : _ = exe ξ n9 (d + 4) j_U_unpack 203 [(0, .ref 17), (1, .ref o), (2, J x), (3, J n), (4, .ref q), (5, J u), (6, J e), (7, J i)] [.ref 17] τ)) ?_
          obtain ⟨wx2, bix2, bex2, rox2, mx2, nx2, bx2, lx2, hux2, hrx2, hbx2, ⟨fx2a, fx2b, fx2c, fx2d, fx2e, fx2f, fx2g, fx2h, fx2i, fx2j⟩, ⟨fx2k, fx2l, fx2m, fx2n⟩, fx2o, fx2p⟩ := UL.unf hτ.1 uτ ho
          refine T.get rfl rfl rfl hux2 rfl ?_
          obtain ⟨mx3, nx3, bx3, lx3, hrx3, hbx3, fx3a, fx3b, fx3c, fx3d, fx3e, fx3g, fx3h, fx3i⟩ := hτ.1.row hq
          refine T.get rfl rfl rfl hrx3 rfl ?_
          refine T.go 1 (fun n9 => (rfl : _ = exe ξ n9 (d + 4) j_U_unpack 210 [(0, .ref 17), (1, .ref o), (2, J x), (3, J n), (4, .ref q), (5, J u), (6, J e), (7, J i)] [.ref 17, J nx3] τ)) ?_
          refine T.get rfl rfl rfl hux2 rfl ?_
          refine T.icmp_ne rfl rfl (by omega) (by omega) (fun c3 => ?_) (fun c3 => ?_)
          · refine T.go 1 (fun n9 => (rfl : _ = exe ξ n9 (d + 4) j_U_unpack 235 [(0, .ref 17), (1, .ref o), (2, J x), (3, J n), (4, .ref q), (5, J u), (6, J e), (7, J i)] [J 0] τ)) ?_
            exact T.iretz rfl rfl (by omega) ⟨_, rfl, hτ, by omega, by omega⟩
          · refine T.go 1 (fun n9 => (rfl : _ = exe ξ n9 (d + 4) j_U_unpack 217 [(0, .ref 17), (1, .ref o), (2, J x), (3, J n), (4, .ref q), (5, J u), (6, J e), (7, J i)] [.ref 17] τ)) ?_
            refine T.get rfl rfl rfl hux2 rfl ?_
            refine T.go 1 (fun n9 => (rfl : _ = exe ξ n9 (d + 4) j_U_unpack 221 [(0, .ref 17), (1, .ref o), (2, J x), (3, J n), (4, .ref q), (5, J u), (6, J e), (7, J i)] [.ref 17, J bix2] τ)) ?_
            refine T.get rfl rfl rfl hux2 rfl ?_
            refine T.go 1 (fun n9 => (rfl : _ = exe ξ n9 (d + 4) j_U_unpack 226 [(0, .ref 17), (1, .ref o), (2, J x), (3, J n), (4, .ref q), (5, J u), (6, J e), (7, J i)] [J 8, J bex2, J bix2] τ)) ?_
            refine T.isub rfl ?_
            refine T.icmp_le rfl rfl (by omega) (by omega) (fun c4 => ?_) (fun c4 => ?_)
            · refine T.go 1 (fun n9 => (rfl : _ = exe ξ n9 (d + 4) j_U_unpack 235 [(0, .ref 17), (1, .ref o), (2, J x), (3, J n), (4, .ref q), (5, J u), (6, J e), (7, J i)] [J 0] τ)) ?_
              exact T.iretz rfl rfl (by omega) ⟨_, rfl, hτ, by omega, by omega⟩
            · refine T.go 2 (fun n9 => (rfl : _ = exe ξ n9 (d + 4) j_U_unpack 235 [(0, .ref 17), (1, .ref o), (2, J x), (3, J n), (4, .ref q), (5, J u), (6, J e), (7, J i)] [J 1] τ)) ?_
              exact T.iretz rfl rfl (by omega) ⟨_, rfl, hτ, by omega, by omega⟩
      · refine T.go 1 (fun n9 => (rfl : _ = exe ξ n9 (d + 4) j_U_unpack 83 [(0, .ref 17), (1, .ref o), (2, J x), (3, J n), (4, .ref q), (5, J u), (6, J e), (7, J i)] [J e] τ)) ?_
        refine T.if_ne rfl rfl (by omega) (fun c5 => ?_) (fun c5 => ?_)
        · refine T.go 1 (fun n9 => (rfl : _ = exe ξ n9 (d + 4) j_U_unpack 199 [(0, .ref 17), (1, .ref o), (2, J x), (3, J n), (4, .ref q), (5, J u), (6, J e), (7, J i)] [J e] τ)) ?_
          refine T.if_eq rfl rfl (by omega) (fun c6 => ?_) (fun c6 => ?_)
          · refine T.go 1 (fun n9 => (rfl : _ = exe ξ n9 (d + 4) j_U_unpack 235 [(0, .ref 17), (1, .ref o), (2, J x), (3, J n), (4, .ref q), (5, J u), (6, J e), (7, J i)] [J 0] τ)) ?_
            exact T.iretz rfl rfl (by omega) ⟨_, rfl, hτ, by omega, by omega⟩
          · refine T.go 1 (fun n9 => (rfl : _ = exe ξ n9 (d + 4) j_U_unpack 203 [(0, .ref 17), (1, .ref o), (2, J x), (3, J n), (4, .ref q), (5, J u), (6, J e), (7, J i)] [.ref 17] τ)) ?_
            obtain ⟨wx4, bix4, bex4, rox4, mx4, nx4, bx4, lx4, hux4, hrx4, hbx4, ⟨fx4a, fx4b, fx4c, fx4d, fx4e, fx4f, fx4g, fx4h, fx4i, fx4j⟩, ⟨fx4k, fx4l, fx4m, fx4n⟩, fx4o, fx4p⟩ := UL.unf hτ.1 uτ ho
            refine T.get rfl rfl rfl hux4 rfl ?_
            obtain ⟨mx5, nx5, bx5, lx5, hrx5, hbx5, fx5a, fx5b, fx5c, fx5d, fx5e, fx5g, fx5h, fx5i⟩ := hτ.1.row hq
            refine T.get rfl rfl rfl hrx5 rfl ?_
            refine T.go 1 (fun n9 => (rfl : _ = exe ξ n9 (d + 4) j_U_unpack 210 [(0, .ref 17), (1, .ref o), (2, J x), (3, J n), (4, .ref q), (5, J u), (6, J e), (7, J i)] [.ref 17, J nx5] τ)) ?_
            refine T.get rfl rfl rfl hux4 rfl ?_
            refine T.icmp_ne rfl rfl (by omega) (by omega) (fun c7 => ?_) (fun c7 => ?_)
            · refine T.go 1 (fun n9 => (rfl : _ = exe ξ n9 (d + 4) j_U_unpack 235 [(0, .ref 17), (1, .ref o), (2, J x), (3, J n), (4, .ref q), (5, J u), (6, J e), (7, J i)] [J 0] τ)) ?_
              exact T.iretz rfl rfl (by omega) ⟨_, rfl, hτ, by omega, by omega⟩
            · refine T.go 1 (fun n9 => (rfl : _ = exe ξ n9 (d + 4) j_U_unpack 217 [(0, .ref 17), (1, .ref o), (2, J x), (3, J n), (4, .ref q), (5, J u), (6, J e), (7, J i)] [.ref 17] τ)) ?_
              refine T.get rfl rfl rfl hux4 rfl ?_
              refine T.go 1 (fun n9 => (rfl : _ = exe ξ n9 (d + 4) j_U_unpack 221 [(0, .ref 17), (1, .ref o), (2, J x), (3, J n), (4, .ref q), (5, J u), (6, J e), (7, J i)] [.ref 17, J bix4] τ)) ?_
              refine T.get rfl rfl rfl hux4 rfl ?_
              refine T.go 1 (fun n9 => (rfl : _ = exe ξ n9 (d + 4) j_U_unpack 226 [(0, .ref 17), (1, .ref o), (2, J x), (3, J n), (4, .ref q), (5, J u), (6, J e), (7, J i)] [J 8, J bex4, J bix4] τ)) ?_
              refine T.isub rfl ?_
              refine T.icmp_le rfl rfl (by omega) (by omega) (fun c8 => ?_) (fun c8 => ?_)
              · refine T.go 1 (fun n9 => (rfl : _ = exe ξ n9 (d + 4) j_U_unpack 235 [(0, .ref 17), (1, .ref o), (2, J x), (3, J n), (4, .ref q), (5, J u), (6, J e), (7, J i)] [J 0] τ)) ?_
                exact T.iretz rfl rfl (by omega) ⟨_, rfl, hτ, by omega, by omega⟩
              · refine T.go 2 (fun n9 => (rfl : _ = exe ξ n9 (d + 4) j_U_unpack 235 [(0, .ref 17), (1, .ref o), (2, J x), (3, J n), (4, .ref q), (5, J u), (6, J e), (7, J i)] [J 1] τ)) ?_
                exact T.iretz rfl rfl (by omega) ⟨_, rfl, hτ, by omega, by omega⟩
        · refine T.go 2 (fun n9 => (rfl : _ = exe ξ n9 (d + 4) j_U_unpack 88 [(0, .ref 17), (1, .ref o), (2, J x), (3, J n), (4, .ref q), (5, J u), (6, J e), (7, J i)] [J 1, .ref 17] τ)) ?_
          obtain ⟨wx6, bix6, bex6, rox6, mx6, nx6, bx6, lx6, hux6, hrx6, hbx6, ⟨fx6a, fx6b, fx6c, fx6d, fx6e, fx6f, fx6g, fx6h, fx6i, fx6j⟩, ⟨fx6k, fx6l, fx6m, fx6n⟩, fx6o, fx6p⟩ := UL.unf hτ.1 uτ ho
          refine T.callv (as := [J 1]) (r := []) rfl rfl rfl rfl hux6 rfl (s_U_takeBits (d + 3) o q 1 τ hτ.1  ho hq hoq uτ (by omega)) (fun v1 s1 hqs1 => ?_)
          obtain ⟨z1, rfl, hs1, hzz1, hyz1, pz1_0, pz1_1⟩ := hqs1
          have es1 := hs1
          have hs1 := hs1.sub (w' := [17, 18, 20, 21, 22, 24, 25, 26, 28, 29, 30, q]) (List.forall_mem_cons.mpr ⟨(by simp), (fun _ h => by cases h)⟩)
          have k1 := es1.b.1 _ _ (nm_c ((by decide : ∀ u ∈ RwL, u ≠ 17) _ ho) nm_0) (fun l z => by cases z) hrx6
          have gs1 := hτ.trans hs1
          refine T.go 1 (fun n9 => (rfl : _ = exe ξ n9 (d + 4) j_U_unpack 92 [(0, .ref 17), (1, .ref o), (2, J x), (3, J n), (4, .ref q), (5, J u), (6, J e), (7, J i)] [J 1, J z1] s1)) ?_
          refine T.icmp_ne rfl rfl (by omega) (by omega) (fun c9 => ?_) (fun c9 => ?_)
          · refine T.go 4 (fun n9 => (rfl : _ = exe ξ n9 (d + 4) j_U_unpack 104 [(0, .ref 17), (1, .ref o), (2, J x), (3, J n), (4, .ref q), (5, J u), (6, J 0), (7, J i)] [J 2, .ref 17] s1)) ?_
            obtain ⟨wx7, bix7, bex7, rox7, mx7, nx7, bx7, lx7, hux7, hrx7, hbx7, ⟨fx7a, fx7b, fx7c, fx7d, fx7e, fx7f, fx7g, fx7h, fx7i, fx7j⟩, ⟨fx7k, fx7l, fx7m, fx7n⟩, fx7o, fx7p⟩ := UL.unf hs1.1 pz1_0 ho
            refine T.callv (as := [J 2]) (r := []) rfl rfl rfl rfl hux7 rfl (s_U_takeBits (d + 3) o q 2 s1 hs1.1  ho hq hoq pz1_0 (by omega)) (fun v2 s2 hqs2 => ?_)
            obtain ⟨z2, rfl, hs2, hzz2, hyz2, pz2_0, pz2_1⟩ := hqs2
            have es2 := hs2
            have hs2 := hs2.sub (w' := [17, 18, 20, 21, 22, 24, 25, 26, 28, 29, 30, q]) (List.forall_mem_cons.mpr ⟨(by simp), (fun _ h => by cases h)⟩)
            have k2 := es2.b.1 _ _ (nm_c ((by decide : ∀ u ∈ RwL, u ≠ 17) _ ho) nm_0) (fun l z => by cases z) hrx7
            have gs2 := gs1.trans hs2
            refine T.go 2 (fun n9 => (rfl : _ = exe ξ n9 (d + 4) j_U_unpack 111 [(0, .ref 17), (1, .ref o), (2, J x), (3, J n), (4, .ref q), (5, J u), (6, J 0), (7, J i), (8, J z2)] [J z2] s2)) ?_
            refine T.if_ne rfl rfl (by omega) (fun c10 => ?_) (fun c10 => ?_)
            · refine T.go 2 (fun n9 => (rfl : _ = exe ξ n9 (d + 4) j_U_unpack 124 [(0, .ref 17), (1, .ref o), (2, J x), (3, J n), (4, .ref q), (5, J u), (6, J 0), (7, J i), (8, J z2)] [J 1, J z2] s2)) ?_
              refine T.icmp_ne rfl rfl (by omega) (by omega) (fun c11 => ?_) (fun c11 => ?_)
              · refine T.go 2 (fun n9 => (rfl : _ = exe ξ n9 (d + 4) j_U_unpack 145 [(0, .ref 17), (1, .ref o), (2, J x), (3, J n), (4, .ref q), (5, J u), (6, J 0), (7, J i), (8, J z2)] [J 2, J z2] s2)) ?_
                refine T.icmp_ne rfl rfl (by omega) (by omega) (fun c12 => ?_) (fun c12 => ?_)
                · refine T.go 3 (fun n9 => (rfl : _ = exe ξ n9 (d + 4) j_U_unpack 178 [(0, .ref 17), (1, .ref o), (2, J x), (3, J n), (4, .ref q), (5, J u), (6, J 0), (7, J i), (8, J z2), (9, J 0)] [.ref 17] s2)) ?_
                  obtain ⟨wx8, bix8, bex8, rox8, mx8, nx8, bx8, lx8, hux8, hrx8, hbx8, ⟨fx8a, fx8b, fx8c, fx8d, fx8e, fx8f, fx8g, fx8h, fx8i, fx8j⟩, ⟨fx8k, fx8l, fx8m, fx8n⟩, fx8o, fx8p⟩ := UL.unf hs2.1 pz2_0 ho
                  refine T.get rfl rfl rfl hux8 rfl ?_
                  refine T.if_ne rfl rfl (by omega) (fun c13 => ?_) (fun c13 => ?_)
                  · refine T.go 1 (fun n9 => (rfl : _ = exe ξ n9 (d + 4) j_U_unpack 190 [(0, .ref 17), (1, .ref o), (2, J x), (3, J n), (4, .ref q), (5, J u), (6, J 0), (7, J i), (8, J z2), (9, J 0)] [J 0] s2)) ?_
                    exact T.iretz rfl rfl (by omega) ⟨_, rfl, gs2, by omega, by omega⟩
                  · refine T.go 3 (fun n9 => (rfl : _ = exe ξ n9 (d + 4) j_U_unpack 190 [(0, .ref 17), (1, .ref o), (2, J x), (3, J n), (4, .ref q), (5, J u), (6, J 0), (7, J i), (8, J z2), (9, J 0)] [J 0] s2)) ?_
                    exact T.iretz rfl rfl (by omega) ⟨_, rfl, gs2, by omega, by omega⟩
                · refine T.go 1 (fun n9 => (rfl : _ = exe ξ n9 (d + 4) j_U_unpack 149 [(0, .ref 17), (1, .ref o), (2, J x), (3, J n), (4, .ref q), (5, J u), (6, J 0), (7, J i), (8, J z2)] [.ref 17] s2)) ?_
                  obtain ⟨wx9, bix9, bex9, rox9, mx9, nx9, bx9, lx9, hux9, hrx9, hbx9, ⟨fx9a, fx9b, fx9c, fx9d, fx9e, fx9f, fx9g, fx9h, fx9i, fx9j⟩, ⟨fx9k, fx9l, fx9m, fx9n⟩, fx9o, fx9p⟩ := UL.unf hs2.1 pz2_0 ho
                  refine T.callv (as := []) (r := []) rfl rfl rfl rfl hux9 rfl (s_U_learnCodes hX0 d o q  s2 hs2.1  ho hq hoq pz2_0 ) (fun v3 s3 hqs3 => ?_)
                  obtain ⟨z3, rfl, hs3, hzz3, hyz3, pz3_0⟩ := hqs3
                  have es3 := hs3
                  have hs3 := hs3.sub (w' := [17, 18, 20, 21, 22, 24, 25, 26, 28, 29, 30, q]) (List.forall_mem_cons.mpr ⟨(by simp), (List.forall_mem_cons.mpr ⟨(by simp), (List.forall_mem_cons.mpr ⟨(by simp), (List.forall_mem_cons.mpr ⟨(by simp), (List.forall_mem_cons.mpr ⟨(by simp), (List.forall_mem_cons.mpr ⟨(by simp), (List.forall_mem_cons.mpr ⟨(by simp), (List.forall_mem_cons.mpr ⟨(by simp), (List.forall_mem_cons.mpr ⟨(by simp), (List.forall_mem_cons.mpr ⟨(by simp), (List.forall_mem_cons.mpr ⟨(by simp), (fun _ h => by cases h)⟩)⟩)⟩)⟩)⟩)⟩)⟩)⟩)⟩)⟩)⟩)
                  have k3 := es3.b.1 _ _ (nm_c ((by decide : ∀ u ∈ RwL, u ≠ 17) _ ho) (nm_c ((by decide : ∀ u ∈ RwL, u ≠ 18) _ ho) (nm_c ((by decide : ∀ u ∈ RwL, u ≠ 20) _ ho) (nm_c ((by decide : ∀ u ∈ RwL, u ≠ 21) _ ho) (nm_c ((by decide : ∀ u ∈ RwL, u ≠ 22) _ ho) (nm_c ((by decide : ∀ u ∈ RwL, u ≠ 24) _ ho) (nm_c ((by decide : ∀ u ∈ RwL, u ≠ 25) _ ho) (nm_c ((by decide : ∀ u ∈ RwL, u ≠ 26) _ ho) (nm_c ((by decide : ∀ u ∈ RwL, u ≠ 28) _ ho) (nm_c ((by decide : ∀ u ∈ RwL, u ≠ 29) _ ho) (nm_c ((by decide : ∀ u ∈ RwL, u ≠ 30) _ ho) nm_0))))))))))) (fun l z => by cases z) hrx9
                  have gs3 := gs2.trans hs3
                  refine T.if_eq rfl rfl (by omega) (fun c14 => ?_) (fun c14 => ?_)
                  · refine T.go 3 (fun n9 => (rfl : _ = exe ξ n9 (d + 4) j_U_unpack 178 [(0, .ref 17), (1, .ref o), (2, J x), (3, J n), (4, .ref q), (5, J u), (6, J 0), (7, J i), (8, J z2), (9, J 0)] [.ref 17] s3)) ?_
                    obtain ⟨wx10, bix10, bex10, rox10, mx10, nx10, bx10, lx10, hux10, hrx10, hbx10, ⟨fx10a, fx10b, fx10c, fx10d, fx10e, fx10f, fx10g, fx10h, fx10i, fx10j⟩, ⟨fx10k, fx10l, fx10m, fx10n⟩, fx10o, fx10p⟩ := UL.unf hs3.1 pz3_0 ho
                    refine T.get rfl rfl rfl hux10 rfl ?_
                    refine T.if_ne rfl rfl (by omega) (fun c15 => ?_) (fun c15 => ?_)
                    · refine T.go 1 (fun n9 => (rfl : _ = exe ξ n9 (d + 4) j_U_unpack 190 [(0, .ref 17), (1, .ref o), (2, J x), (3, J n), (4, .ref q), (5, J u), (6, J 0), (7, J i), (8, J z2), (9, J 0)] [J 0] s3)) ?_
                      exact T.iretz rfl rfl (by omega) ⟨_, rfl, gs3, by omega, by omega⟩
                    · refine T.go 3 (fun n9 => (rfl : _ = exe ξ n9 (d + 4) j_U_unpack 190 [(0, .ref 17), (1, .ref o), (2, J x), (3, J n), (4, .ref q), (5, J u), (6, J 0), (7, J i), (8, J z2), (9, J 0)] [J 0] s3)) ?_
                      exact T.iretz rfl rfl (by omega) ⟨_, rfl, gs3, by omega, by omega⟩
                  · refine T.go 2 (fun n9 => (rfl : _ = exe ξ n9 (d + 4) j_U_unpack 157 [(0, .ref 17), (1, .ref o), (2, J x), (3, J n), (4, .ref q), (5, J u), (6, J 0), (7, J i), (8, J z2)] [.ref 17, .ref 17] s3)) ?_
                    obtain ⟨wx11, bix11, bex11, rox11, mx11, nx11, bx11, lx11, hux11, hrx11, hbx11, ⟨fx11a, fx11b, fx11c, fx11d, fx11e, fx11f, fx11g, fx11h, fx11i, fx11j⟩, ⟨fx11k, fx11l, fx11m, fx11n⟩, fx11o, fx11p⟩ := UL.unf hs3.1 pz3_0 ho
                    refine T.get rfl rfl rfl hux11 rfl ?_
                    refine T.go 1 (fun n9 => (rfl : _ = exe ξ n9 (d + 4) j_U_unpack 161 [(0, .ref 17), (1, .ref o), (2, J x), (3, J n), (4, .ref q), (5, J u), (6, J 0), (7, J i), (8, J z2)] [.ref 17, .ref 23, .ref 17] s3)) ?_
                    refine T.get rfl rfl rfl hux11 rfl ?_
                    refine T.callv (as := [.ref 23, .ref 27]) (r := []) rfl rfl rfl rfl hux11 rfl (s_U_followSigns hX0 (d + 1) o q 23 27 s3 hs3.1 (by decide) (by decide) ho hq hoq pz3_0 ) (fun v4 s4 hqs4 => ?_)
                    obtain ⟨z4, rfl, hs4, hzz4, hyz4, pz4_0⟩ := hqs4
                    have es4 := hs4
                    have hs4 := hs4.sub (w' := [17, 18, 20, 21, 22, 24, 25, 26, 28, 29, 30, q]) (List.forall_mem_cons.mpr ⟨(by simp), (List.forall_mem_cons.mpr ⟨(by simp), (fun _ h => by cases h)⟩)⟩)
                    have k4 := es4.b.1 _ _ (nm_c ((by decide : ∀ u ∈ RwL, u ≠ 17) _ ho) (nm_c hoq nm_0)) (fun l z => by cases z) hrx11
                    have gs4 := gs3.trans hs4
                    refine T.if_eq rfl rfl (by omega) (fun c16 => ?_) (fun c16 => ?_)
                    · refine T.go 3 (fun n9 => (rfl : _ = exe ξ n9 (d + 4) j_U_unpack 178 [(0, .ref 17), (1, .ref o), (2, J x), (3, J n), (4, .ref q), (5, J u), (6, J 0), (7, J i), (8, J z2), (9, J 0)] [.ref 17] s4)) ?_
                      obtain ⟨wx12, bix12, bex12, rox12, mx12, nx12, bx12, lx12, hux12, hrx12, hbx12, ⟨fx12a, fx12b, fx12c, fx12d, fx12e, fx12f, fx12g, fx12h, fx12i, fx12j⟩, ⟨fx12k, fx12l, fx12m, fx12n⟩, fx12o, fx12p⟩ := UL.unf hs4.1 pz4_0 ho
                      refine T.get rfl rfl rfl hux12 rfl ?_
                      refine T.if_ne rfl rfl (by omega) (fun c17 => ?_) (fun c17 => ?_)
                      · refine T.go 1 (fun n9 => (rfl : _ = exe ξ n9 (d + 4) j_U_unpack 190 [(0, .ref 17), (1, .ref o), (2, J x), (3, J n), (4, .ref q), (5, J u), (6, J 0), (7, J i), (8, J z2), (9, J 0)] [J 0] s4)) ?_
                        exact T.iretz rfl rfl (by omega) ⟨_, rfl, gs4, by omega, by omega⟩
                      · refine T.go 3 (fun n9 => (rfl : _ = exe ξ n9 (d + 4) j_U_unpack 190 [(0, .ref 17), (1, .ref o), (2, J x), (3, J n), (4, .ref q), (5, J u), (6, J 0), (7, J i), (8, J z2), (9, J 0)] [J 0] s4)) ?_
                        exact T.iretz rfl rfl (by omega) ⟨_, rfl, gs4, by omega, by omega⟩
                    · refine T.go 4 (fun n9 => (rfl : _ = exe ξ n9 (d + 4) j_U_unpack 178 [(0, .ref 17), (1, .ref o), (2, J x), (3, J n), (4, .ref q), (5, J u), (6, J 0), (7, J i), (8, J z2), (9, J 1)] [.ref 17] s4)) ?_
                      obtain ⟨wx13, bix13, bex13, rox13, mx13, nx13, bx13, lx13, hux13, hrx13, hbx13, ⟨fx13a, fx13b, fx13c, fx13d, fx13e, fx13f, fx13g, fx13h, fx13i, fx13j⟩, ⟨fx13k, fx13l, fx13m, fx13n⟩, fx13o, fx13p⟩ := UL.unf hs4.1 pz4_0 ho
                      refine T.get rfl rfl rfl hux13 rfl ?_
                      refine T.if_ne rfl rfl (by omega) (fun c18 => ?_) (fun c18 => ?_)
                      · refine T.go 1 (fun n9 => (rfl : _ = exe ξ n9 (d + 4) j_U_unpack 190 [(0, .ref 17), (1, .ref o), (2, J x), (3, J n), (4, .ref q), (5, J u), (6, J 0), (7, J i), (8, J z2), (9, J 1)] [J 0] s4)) ?_
                        exact T.iretz rfl rfl (by omega) ⟨_, rfl, gs4, by omega, by omega⟩
                      · refine T.go 2 (fun n9 => (rfl : _ = exe ξ n9 (d + 4) j_U_unpack 191 [(0, .ref 17), (1, .ref o), (2, J x), (3, J n), (4, .ref q), (5, J u), (6, J 0), (7, J i), (8, J z2), (9, J 1)] [] s4)) ?_
                        refine T.iinc (lv' := [(0, .ref 17), (1, .ref o), (2, J x), (3, J n), (4, .ref q), (5, J u), (6, J 0), (7, J (i + 1)), (8, J z2), (9, J 1)]) rfl rfl rfl rfl ?_
                        refine T.go 1 (fun n9 => (rfl : _ = exe ξ n9 (d + 4) j_U_unpack 74 [(0, .ref 17), (1, .ref o), (2, J x), (3, J n), (4, .ref q), (5, J u), (6, J 0), (7, J (i + 1)), (8, J z2), (9, J 1)] [] s4)) ?_
                        refine T.drop (lv := [(0, .ref 17), (1, .ref o), (2, J x), (3, J n), (4, .ref q), (5, J u), (6, J 0), (7, J (i + 1))]) [(8, J z2), (9, J 1)] (by simp) ?_
                        exact ih  0 (i + 1) s4 gs4 pz4_0 (by omega) (by omega) (by omega) (by omega) (by omega)
              · refine T.go 2 (fun n9 => (rfl : _ = exe ξ n9 (d + 4) j_U_unpack 129 [(0, .ref 17), (1, .ref o), (2, J x), (3, J n), (4, .ref q), (5, J u), (6, J 0), (7, J i), (8, J z2)] [.ref 17, .ref 17] s2)) ?_
                obtain ⟨wx14, bix14, bex14, rox14, mx14, nx14, bx14, lx14, hux14, hrx14, hbx14, ⟨fx14a, fx14b, fx14c, fx14d, fx14e, fx14f, fx14g, fx14h, fx14i, fx14j⟩, ⟨fx14k, fx14l, fx14m, fx14n⟩, fx14o, fx14p⟩ := UL.unf hs2.1 pz2_0 ho
                refine T.get rfl rfl rfl hux14 rfl ?_
                refine T.go 1 (fun n9 => (rfl : _ = exe ξ n9 (d + 4) j_U_unpack 133 [(0, .ref 17), (1, .ref o), (2, J x), (3, J n), (4, .ref q), (5, J u), (6, J 0), (7, J i), (8, J z2)] [.ref 17, .ref 31, .ref 17] s2)) ?_
                refine T.get rfl rfl rfl hux14 rfl ?_
                refine T.callv (as := [.ref 31, .ref 35]) (r := []) rfl rfl rfl rfl hux14 rfl (s_U_followSigns hX0 (d + 1) o q 31 35 s2 hs2.1 (by decide) (by decide) ho hq hoq pz2_0 ) (fun v5 s5 hqs5 => ?_)
                obtain ⟨z5, rfl, hs5, hzz5, hyz5, pz5_0⟩ := hqs5
                have es5 := hs5
                have hs5 := hs5.sub (w' := [17, 18, 20, 21, 22, 24, 25, 26, 28, 29, 30, q]) (List.forall_mem_cons.mpr ⟨(by simp), (List.forall_mem_cons.mpr ⟨(by simp), (fun _ h => by cases h)⟩)⟩)
                have k5 := es5.b.1 _ _ (nm_c ((by decide : ∀ u ∈ RwL, u ≠ 17) _ ho) (nm_c hoq nm_0)) (fun l z => by cases z) hrx14
                have gs5 := gs2.trans hs5
                refine T.go 3 (fun n9 => (rfl : _ = exe ξ n9 (d + 4) j_U_unpack 178 [(0, .ref 17), (1, .ref o), (2, J x), (3, J n), (4, .ref q), (5, J u), (6, J 0), (7, J i), (8, J z2), (9, J z5)] [.ref 17] s5)) ?_
                obtain ⟨wx15, bix15, bex15, rox15, mx15, nx15, bx15, lx15, hux15, hrx15, hbx15, ⟨fx15a, fx15b, fx15c, fx15d, fx15e, fx15f, fx15g, fx15h, fx15i, fx15j⟩, ⟨fx15k, fx15l, fx15m, fx15n⟩, fx15o, fx15p⟩ := UL.unf hs5.1 pz5_0 ho
                refine T.get rfl rfl rfl hux15 rfl ?_
                refine T.if_ne rfl rfl (by omega) (fun c19 => ?_) (fun c19 => ?_)
                · refine T.go 1 (fun n9 => (rfl : _ = exe ξ n9 (d + 4) j_U_unpack 190 [(0, .ref 17), (1, .ref o), (2, J x), (3, J n), (4, .ref q), (5, J u), (6, J 0), (7, J i), (8, J z2), (9, J z5)] [J 0] s5)) ?_
                  exact T.iretz rfl rfl (by omega) ⟨_, rfl, gs5, by omega, by omega⟩
                · refine T.go 1 (fun n9 => (rfl : _ = exe ξ n9 (d + 4) j_U_unpack 186 [(0, .ref 17), (1, .ref o), (2, J x), (3, J n), (4, .ref q), (5, J u), (6, J 0), (7, J i), (8, J z2), (9, J z5)] [J z5] s5)) ?_
                  refine T.if_ne rfl rfl (by omega) (fun c20 => ?_) (fun c20 => ?_)
                  · refine T.iinc (lv' := [(0, .ref 17), (1, .ref o), (2, J x), (3, J n), (4, .ref q), (5, J u), (6, J 0), (7, J (i + 1)), (8, J z2), (9, J z5)]) rfl rfl rfl rfl ?_
                    refine T.go 1 (fun n9 => (rfl : _ = exe ξ n9 (d + 4) j_U_unpack 74 [(0, .ref 17), (1, .ref o), (2, J x), (3, J n), (4, .ref q), (5, J u), (6, J 0), (7, J (i + 1)), (8, J z2), (9, J z5)] [] s5)) ?_
                    refine T.drop (lv := [(0, .ref 17), (1, .ref o), (2, J x), (3, J n), (4, .ref q), (5, J u), (6, J 0), (7, J (i + 1))]) [(8, J z2), (9, J z5)] (by simp) ?_
                    exact ih  0 (i + 1) s5 gs5 pz5_0 (by omega) (by omega) (by omega) (by omega) (by omega)
                  · refine T.go 1 (fun n9 => (rfl : _ = exe ξ n9 (d + 4) j_U_unpack 190 [(0, .ref 17), (1, .ref o), (2, J x), (3, J n), (4, .ref q), (5, J u), (6, J 0), (7, J i), (8, J z2), (9, J z5)] [J 0] s5)) ?_
                    exact T.iretz rfl rfl (by omega) ⟨_, rfl, gs5, by omega, by omega⟩
            · refine T.go 1 (fun n9 => (rfl : _ = exe ξ n9 (d + 4) j_U_unpack 115 [(0, .ref 17), (1, .ref o), (2, J x), (3, J n), (4, .ref q), (5, J u), (6, J 0), (7, J i), (8, J z2)] [.ref 17] s2)) ?_
              obtain ⟨wx16, bix16, bex16, rox16, mx16, nx16, bx16, lx16, hux16, hrx16, hbx16, ⟨fx16a, fx16b, fx16c, fx16d, fx16e, fx16f, fx16g, fx16h, fx16i, fx16j⟩, ⟨fx16k, fx16l, fx16m, fx16n⟩, fx16o, fx16p⟩ := UL.unf hs2.1 pz2_0 ho
              refine T.callv (as := []) (r := []) rfl rfl rfl rfl hux16 rfl (s_U_copyPlain (d + 1) o q  s2 hs2.1  ho hq hoq pz2_0 ) (fun v6 s6 hqs6 => ?_)
              obtain ⟨z6, rfl, hs6, hzz6, hyz6, pz6_0⟩ := hqs6
              have es6 := hs6
              have hs6 := hs6.sub (w' := [17, 18, 20, 21, 22, 24, 25, 26, 28, 29, 30, q]) (List.forall_mem_cons.mpr ⟨(by simp), (List.forall_mem_cons.mpr ⟨(by simp), (fun _ h => by cases h)⟩)⟩)
              have k6 := es6.b.1 _ _ (nm_c ((by decide : ∀ u ∈ RwL, u ≠ 17) _ ho) (nm_c hoq nm_0)) (fun l z => by cases z) hrx16
              have gs6 := gs2.trans hs6
              refine T.go 3 (fun n9 => (rfl : _ = exe ξ n9 (d + 4) j_U_unpack 178 [(0, .ref 17), (1, .ref o), (2, J x), (3, J n), (4, .ref q), (5, J u), (6, J 0), (7, J i), (8, J z2), (9, J z6)] [.ref 17] s6)) ?_
              obtain ⟨wx17, bix17, bex17, rox17, mx17, nx17, bx17, lx17, hux17, hrx17, hbx17, ⟨fx17a, fx17b, fx17c, fx17d, fx17e, fx17f, fx17g, fx17h, fx17i, fx17j⟩, ⟨fx17k, fx17l, fx17m, fx17n⟩, fx17o, fx17p⟩ := UL.unf hs6.1 pz6_0 ho
              refine T.get rfl rfl rfl hux17 rfl ?_
              refine T.if_ne rfl rfl (by omega) (fun c21 => ?_) (fun c21 => ?_)
              · refine T.go 1 (fun n9 => (rfl : _ = exe ξ n9 (d + 4) j_U_unpack 190 [(0, .ref 17), (1, .ref o), (2, J x), (3, J n), (4, .ref q), (5, J u), (6, J 0), (7, J i), (8, J z2), (9, J z6)] [J 0] s6)) ?_
                exact T.iretz rfl rfl (by omega) ⟨_, rfl, gs6, by omega, by omega⟩
              · refine T.go 1 (fun n9 => (rfl : _ = exe ξ n9 (d + 4) j_U_unpack 186 [(0, .ref 17), (1, .ref o), (2, J x), (3, J n), (4, .ref q), (5, J u), (6, J 0), (7, J i), (8, J z2), (9, J z6)] [J z6] s6)) ?_
                refine T.if_ne rfl rfl (by omega) (fun c22 => ?_) (fun c22 => ?_)
                · refine T.iinc (lv' := [(0, .ref 17), (1, .ref o), (2, J x), (3, J n), (4, .ref q), (5, J u), (6, J 0), (7, J (i + 1)), (8, J z2), (9, J z6)]) rfl rfl rfl rfl ?_
                  refine T.go 1 (fun n9 => (rfl : _ = exe ξ n9 (d + 4) j_U_unpack 74 [(0, .ref 17), (1, .ref o), (2, J x), (3, J n), (4, .ref q), (5, J u), (6, J 0), (7, J (i + 1)), (8, J z2), (9, J z6)] [] s6)) ?_
                  refine T.drop (lv := [(0, .ref 17), (1, .ref o), (2, J x), (3, J n), (4, .ref q), (5, J u), (6, J 0), (7, J (i + 1))]) [(8, J z2), (9, J z6)] (by simp) ?_
                  exact ih  0 (i + 1) s6 gs6 pz6_0 (by omega) (by omega) (by omega) (by omega) (by omega)
                · refine T.go 1 (fun n9 => (rfl : _ = exe ξ n9 (d + 4) j_U_unpack 190 [(0, .ref 17), (1, .ref o), (2, J x), (3, J n), (4, .ref q), (5, J u), (6, J 0), (7, J i), (8, J z2), (9, J z6)] [J 0] s6)) ?_
                  exact T.iretz rfl rfl (by omega) ⟨_, rfl, gs6, by omega, by omega⟩
          · refine T.go 5 (fun n9 => (rfl : _ = exe ξ n9 (d + 4) j_U_unpack 104 [(0, .ref 17), (1, .ref o), (2, J x), (3, J n), (4, .ref q), (5, J u), (6, J 1), (7, J i)] [J 2, .ref 17] s1)) ?_
            obtain ⟨wx18, bix18, bex18, rox18, mx18, nx18, bx18, lx18, hux18, hrx18, hbx18, ⟨fx18a, fx18b, fx18c, fx18d, fx18e, fx18f, fx18g, fx18h, fx18i, fx18j⟩, ⟨fx18k, fx18l, fx18m, fx18n⟩, fx18o, fx18p⟩ := UL.unf hs1.1 pz1_0 ho
            refine T.callv (as := [J 2]) (r := []) rfl rfl rfl rfl hux18 rfl (s_U_takeBits (d + 3) o q 2 s1 hs1.1  ho hq hoq pz1_0 (by omega)) (fun v7 s7 hqs7 => ?_)
            obtain ⟨z7, rfl, hs7, hzz7, hyz7, pz7_0, pz7_1⟩ := hqs7
            have es7 := hs7
            have hs7 := hs7.sub (w' := [17, 18, 20, 21, 22, 24, 25, 26, 28, 29, 30, q]) (List.forall_mem_cons.mpr ⟨(by simp), (fun _ h => by cases h)⟩)
            have k7 := es7.b.1 _ _ (nm_c ((by decide : ∀ u ∈ RwL, u ≠ 17) _ ho) nm_0) (fun l z => by cases z) hrx18
            have gs7 := gs1.trans hs7
            refine T.go 2 (fun n9 => (rfl : _ = exe ξ n9 (d + 4) j_U_unpack 111 [(0, .ref 17), (1, .ref o), (2, J x), (3, J n), (4, .ref q), (5, J u), (6, J 1), (7, J i), (8, J z7)] [J z7] s7)) ?_
            refine T.if_ne rfl rfl (by omega) (fun c23 => ?_) (fun c23 => ?_)
            · refine T.go 2 (fun n9 => (rfl : _ = exe ξ n9 (d + 4) j_U_unpack 124 [(0, .ref 17), (1, .ref o), (2, J x), (3, J n), (4, .ref q), (5, J u), (6, J 1), (7, J i), (8, J z7)] [J 1, J z7] s7)) ?_
              refine T.icmp_ne rfl rfl (by omega) (by omega) (fun c24 => ?_) (fun c24 => ?_)
              · refine T.go 2 (fun n9 => (rfl : _ = exe ξ n9 (d + 4) j_U_unpack 145 [(0, .ref 17), (1, .ref o), (2, J x), (3, J n), (4, .ref q), (5, J u), (6, J 1), (7, J i), (8, J z7)] [J 2, J z7] s7)) ?_
                refine T.icmp_ne rfl rfl (by omega) (by omega) (fun c25 => ?_) (fun c25 => ?_)
                · refine T.go 3 (fun n9 => (rfl : _ = exe ξ n9 (d + 4) j_U_unpack 178 [(0, .ref 17), (1, .ref o), (2, J x), (3, J n), (4, .ref q), (5, J u), (6, J 1), (7, J i), (8, J z7), (9, J 0)] [.ref 17] s7)) ?_
                  obtain ⟨wx19, bix19, bex19, rox19, mx19, nx19, bx19, lx19, hux19, hrx19, hbx19, ⟨fx19a, fx19b, fx19c, fx19d, fx19e, fx19f, fx19g, fx19h, fx19i, fx19j⟩, ⟨fx19k, fx19l, fx19m, fx19n⟩, fx19o, fx19p⟩ := UL.unf hs7.1 pz7_0 ho
                  refine T.get rfl rfl rfl hux19 rfl ?_
                  refine T.if_ne rfl rfl (by omega) (fun c26 => ?_) (fun c26 => ?_)
                  · refine T.go 1 (fun n9 => (rfl : _ = exe ξ n9 (d + 4) j_U_unpack 190 [(0, .ref 17), (1, .ref o), (2, J x), (3, J n), (4, .ref q), (5, J u), (6, J 1), (7, J i), (8, J z7), (9, J 0)] [J 0] s7)) ?_
                    exact T.iretz rfl rfl (by omega) ⟨_, rfl, gs7, by omega, by omega⟩
                  · refine T.go 3 (fun n9 => (rfl : _ = exe ξ n9 (d + 4) j_U_unpack 190 [(0, .ref 17), (1, .ref o), (2, J x), (3, J n), (4, .ref q), (5, J u), (6, J 1), (7, J i), (8, J z7), (9, J 0)] [J 0] s7)) ?_
                    exact T.iretz rfl rfl (by omega) ⟨_, rfl, gs7, by omega, by omega⟩
                · refine T.go 1 (fun n9 => (rfl : _ = exe ξ n9 (d + 4) j_U_unpack 149 [(0, .ref 17), (1, .ref o), (2, J x), (3, J n), (4, .ref q), (5, J u), (6, J 1), (7, J i), (8, J z7)] [.ref 17] s7)) ?_
                  obtain ⟨wx20, bix20, bex20, rox20, mx20, nx20, bx20, lx20, hux20, hrx20, hbx20, ⟨fx20a, fx20b, fx20c, fx20d, fx20e, fx20f, fx20g, fx20h, fx20i, fx20j⟩, ⟨fx20k, fx20l, fx20m, fx20n⟩, fx20o, fx20p⟩ := UL.unf hs7.1 pz7_0 ho
                  refine T.callv (as := []) (r := []) rfl rfl rfl rfl hux20 rfl (s_U_learnCodes hX0 d o q  s7 hs7.1  ho hq hoq pz7_0 ) (fun v8 s8 hqs8 => ?_)
                  obtain ⟨z8, rfl, hs8, hzz8, hyz8, pz8_0⟩ := hqs8
                  have es8 := hs8
                  have hs8 := hs8.sub (w' := [17, 18, 20, 21, 22, 24, 25, 26, 28, 29, 30, q]) (List.forall_mem_cons.mpr ⟨(by simp), (List.forall_mem_cons.mpr ⟨(by simp), (List.forall_mem_cons.mpr ⟨(by simp), (List.forall_mem_cons.mpr ⟨(by simp), (List.forall_mem_cons.mpr ⟨(by simp), (List.forall_mem_cons.mpr ⟨(by simp), (List.forall_mem_cons.mpr ⟨(by simp), (List.forall_mem_cons.mpr ⟨(by simp), (List.forall_mem_cons.mpr ⟨(by simp), (List.forall_mem_cons.mpr ⟨(by simp), (List.forall_mem_cons.mpr ⟨(by simp), (fun _ h => by cases h)⟩)⟩)⟩)⟩)⟩)⟩)⟩)⟩)⟩)⟩)⟩)
                  have k8 := es8.b.1 _ _ (nm_c ((by decide : ∀ u ∈ RwL, u ≠ 17) _ ho) (nm_c ((by decide : ∀ u ∈ RwL, u ≠ 18) _ ho) (nm_c ((by decide : ∀ u ∈ RwL, u ≠ 20) _ ho) (nm_c ((by decide : ∀ u ∈ RwL, u ≠ 21) _ ho) (nm_c ((by decide : ∀ u ∈ RwL, u ≠ 22) _ ho) (nm_c ((by decide : ∀ u ∈ RwL, u ≠ 24) _ ho) (nm_c ((by decide : ∀ u ∈ RwL, u ≠ 25) _ ho) (nm_c ((by decide : ∀ u ∈ RwL, u ≠ 26) _ ho) (nm_c ((by decide : ∀ u ∈ RwL, u ≠ 28) _ ho) (nm_c ((by decide : ∀ u ∈ RwL, u ≠ 29) _ ho) (nm_c ((by decide : ∀ u ∈ RwL, u ≠ 30) _ ho) nm_0))))))))))) (fun l z => by cases z) hrx20
                  have gs8 := gs7.trans hs8
                  refine T.if_eq rfl rfl (by omega) (fun c27 => ?_) (fun c27 => ?_)
                  · refine T.go 3 (fun n9 => (rfl : _ = exe ξ n9 (d + 4) j_U_unpack 178 [(0, .ref 17), (1, .ref o), (2, J x), (3, J n), (4, .ref q), (5, J u), (6, J 1), (7, J i), (8, J z7), (9, J 0)] [.ref 17] s8)) ?_
                    obtain ⟨wx21, bix21, bex21, rox21, mx21, nx21, bx21, lx21, hux21, hrx21, hbx21, ⟨fx21a, fx21b, fx21c, fx21d, fx21e, fx21f, fx21g, fx21h, fx21i, fx21j⟩, ⟨fx21k, fx21l, fx21m, fx21n⟩, fx21o, fx21p⟩ := UL.unf hs8.1 pz8_0 ho
                    refine T.get rfl rfl rfl hux21 rfl ?_
                    refine T.if_ne rfl rfl (by omega) (fun c28 => ?_) (fun c28 => ?_)
                    · refine T.go 1 (fun n9 => (rfl : _ = exe ξ n9 (d + 4) j_U_unpack 190 [(0, .ref 17), (1, .ref o), (2, J x), (3, J n), (4, .ref q), (5, J u), (6, J 1), (7, J i), (8, J z7), (9, J 0)] [J 0] s8)) ?_
                      exact T.iretz rfl rfl (by omega) ⟨_, rfl, gs8, by omega, by omega⟩
                    · refine T.go 3 (fun n9 => (rfl : _ = exe ξ n9 (d + 4) j_U_unpack 190 [(0, .ref 17), (1, .ref o), (2, J x), (3, J n), (4, .ref q), (5, J u), (6, J 1), (7, J i), (8, J z7), (9, J 0)] [J 0] s8)) ?_
                      exact T.iretz rfl rfl (by omega) ⟨_, rfl, gs8, by omega, by omega⟩
                  · refine T.go 2 (fun n9 => (rfl : _ = exe ξ n9 (d + 4) j_U_unpack 157 [(0, .ref 17), (1, .ref o), (2, J x), (3, J n), (4, .ref q), (5, J u), (6, J 1), (7, J i), (8, J z7)] [.ref 17, .ref 17] s8)) ?_
                    obtain ⟨wx22, bix22, bex22, rox22, mx22, nx22, bx22, lx22, hux22, hrx22, hbx22, ⟨fx22a, fx22b, fx22c, fx22d, fx22e, fx22f, fx22g, fx22h, fx22i, fx22j⟩, ⟨fx22k, fx22l, fx22m, fx22n⟩, fx22o, fx22p⟩ := UL.unf hs8.1 pz8_0 ho
                    refine T.get rfl rfl rfl hux22 rfl ?_
                    refine T.go 1 (fun n9 => (rfl : _ = exe ξ n9 (d + 4) j_U_unpack 161 [(0, .ref 17), (1, .ref o), (2, J x), (3, J n), (4, .ref q), (5, J u), (6, J 1), (7, J i), (8, J z7)] [.ref 17, .ref 23, .ref 17] s8)) ?_
                    refine T.get rfl rfl rfl hux22 rfl ?_
                    refine T.callv (as := [.ref 23, .ref 27]) (r := []) rfl rfl rfl rfl hux22 rfl (s_U_followSigns hX0 (d + 1) o q 23 27 s8 hs8.1 (by decide) (by decide) ho hq hoq pz8_0 ) (fun v9 s9 hqs9 => ?_)
                    obtain ⟨z9, rfl, hs9, hzz9, hyz9, pz9_0⟩ := hqs9
                    have es9 := hs9
                    have hs9 := hs9.sub (w' := [17, 18, 20, 21, 22, 24, 25, 26, 28, 29, 30, q]) (List.forall_mem_cons.mpr ⟨(by simp), (List.forall_mem_cons.mpr ⟨(by simp), (fun _ h => by cases h)⟩)⟩)
                    have k9 := es9.b.1 _ _ (nm_c ((by decide : ∀ u ∈ RwL, u ≠ 17) _ ho) (nm_c hoq nm_0)) (fun l z => by cases z) hrx22
                    have gs9 := gs8.trans hs9
                    refine T.if_eq rfl rfl (by omega) (fun c29 => ?_) (fun c29 => ?_)
                    · refine T.go 3 (fun n9 => (rfl : _ = exe ξ n9 (d + 4) j_U_unpack 178 [(0, .ref 17), (1, .ref o), (2, J x), (3, J n), (4, .ref q), (5, J u), (6, J 1), (7, J i), (8, J z7), (9, J 0)] [.ref 17] s9)) ?_
                      obtain ⟨wx23, bix23, bex23, rox23, mx23, nx23, bx23, lx23, hux23, hrx23, hbx23, ⟨fx23a, fx23b, fx23c, fx23d, fx23e, fx23f, fx23g, fx23h, fx23i, fx23j⟩, ⟨fx23k, fx23l, fx23m, fx23n⟩, fx23o, fx23p⟩ := UL.unf hs9.1 pz9_0 ho
                      refine T.get rfl rfl rfl hux23 rfl ?_
                      refine T.if_ne rfl rfl (by omega) (fun c30 => ?_) (fun c30 => ?_)
                      · refine T.go 1 (fun n9 => (rfl : _ = exe ξ n9 (d + 4) j_U_unpack 190 [(0, .ref 17), (1, .ref o), (2, J x), (3, J n), (4, .ref q), (5, J u), (6, J 1), (7, J i), (8, J z7), (9, J 0)] [J 0] s9)) ?_
                        exact T.iretz rfl rfl (by omega) ⟨_, rfl, gs9, by omega, by omega⟩
                      · refine T.go 3 (fun n9 => (rfl : _ = exe ξ n9 (d + 4) j_U_unpack 190 [(0, .ref 17), (1, .ref o), (2, J x), (3, J n), (4, .ref q), (5, J u), (6, J 1), (7, J i), (8, J z7), (9, J 0)] [J 0] s9)) ?_
                        exact T.iretz rfl rfl (by omega) ⟨_, rfl, gs9, by omega, by omega⟩
                    · refine T.go 4 (fun n9 => (rfl : _ = exe ξ n9 (d + 4) j_U_unpack 178 [(0, .ref 17), (1, .ref o), (2, J x), (3, J n), (4, .ref q), (5, J u), (6, J 1), (7, J i), (8, J z7), (9, J 1)] [.ref 17] s9)) ?_
                      obtain ⟨wx24, bix24, bex24, rox24, mx24, nx24, bx24, lx24, hux24, hrx24, hbx24, ⟨fx24a, fx24b, fx24c, fx24d, fx24e, fx24f, fx24g, fx24h, fx24i, fx24j⟩, ⟨fx24k, fx24l, fx24m, fx24n⟩, fx24o, fx24p⟩ := UL.unf hs9.1 pz9_0 ho
                      refine T.get rfl rfl rfl hux24 rfl ?_
                      refine T.if_ne rfl rfl (by omega) (fun c31 => ?_) (fun c31 => ?_)
                      · refine T.go 1 (fun n9 => (rfl : _ = exe ξ n9 (d + 4) j_U_unpack 190 [(0, .ref 17), (1, .ref o), (2, J x), (3, J n), (4, .ref q), (5, J u), (6, J 1), (7, J i), (8, J z7), (9, J 1)] [J 0] s9)) ?_
                        exact T.iretz rfl rfl (by omega) ⟨_, rfl, gs9, by omega, by omega⟩
                      · refine T.go 2 (fun n9 => (rfl : _ = exe ξ n9 (d + 4) j_U_unpack 191 [(0, .ref 17), (1, .ref o), (2, J x), (3, J n), (4, .ref q), (5, J u), (6, J 1), (7, J i), (8, J z7), (9, J 1)] [] s9)) ?_
                        refine T.iinc (lv' := [(0, .ref 17), (1, .ref o), (2, J x), (3, J n), (4, .ref q), (5, J u), (6, J 1), (7, J (i + 1)), (8, J z7), (9, J 1)]) rfl rfl rfl rfl ?_
                        refine T.go 1 (fun n9 => (rfl : _ = exe ξ n9 (d + 4) j_U_unpack 74 [(0, .ref 17), (1, .ref o), (2, J x), (3, J n), (4, .ref q), (5, J u), (6, J 1), (7, J (i + 1)), (8, J z7), (9, J 1)] [] s9)) ?_
                        refine T.drop (lv := [(0, .ref 17), (1, .ref o), (2, J x), (3, J n), (4, .ref q), (5, J u), (6, J 1), (7, J (i + 1))]) [(8, J z7), (9, J 1)] (by simp) ?_
                        exact ih  1 (i + 1) s9 gs9 pz9_0 (by omega) (by omega) (by omega) (by omega) (by omega)
              · refine T.go 2 (fun n9 => (rfl : _ = exe ξ n9 (d + 4) j_U_unpack 129 [(0, .ref 17), (1, .ref o), (2, J x), (3, J n), (4, .ref q), (5, J u), (6, J 1), (7, J i), (8, J z7)] [.ref 17, .ref 17] s7)) ?_
                obtain ⟨wx25, bix25, bex25, rox25, mx25, nx25, bx25, lx25, hux25, hrx25, hbx25, ⟨fx25a, fx25b, fx25c, fx25d, fx25e, fx25f, fx25g, fx25h, fx25i, fx25j⟩, ⟨fx25k, fx25l, fx25m, fx25n⟩, fx25o, fx25p⟩ := UL.unf hs7.1 pz7_0 ho
                refine T.get rfl rfl rfl hux25 rfl ?_
                refine T.go 1 (fun n9 => (rfl : _ = exe ξ n9 (d + 4) j_U_unpack 133 [(0, .ref 17), (1, .ref o), (2, J x), (3, J n), (4, .ref q), (5, J u), (6, J 1), (7, J i), (8, J z7)] [.ref 17, .ref 31, .ref 17] s7)) ?_
                refine T.get rfl rfl rfl hux25 rfl ?_
                refine T.callv (as := [.ref 31, .ref 35]) (r := []) rfl rfl rfl rfl hux25 rfl (s_U_followSigns hX0 (d + 1) o q 31 35 s7 hs7.1 (by decide) (by decide) ho hq hoq pz7_0 ) (fun v10 s10 hqs10 => ?_)
                obtain ⟨z10, rfl, hs10, hzz10, hyz10, pz10_0⟩ := hqs10
                have es10 := hs10
                have hs10 := hs10.sub (w' := [17, 18, 20, 21, 22, 24, 25, 26, 28, 29, 30, q]) (List.forall_mem_cons.mpr ⟨(by simp), (List.forall_mem_cons.mpr ⟨(by simp), (fun _ h => by cases h)⟩)⟩)
                have k10 := es10.b.1 _ _ (nm_c ((by decide : ∀ u ∈ RwL, u ≠ 17) _ ho) (nm_c hoq nm_0)) (fun l z => by cases z) hrx25
                have gs10 := gs7.trans hs10
                refine T.go 3 (fun n9 => (rfl : _ = exe ξ n9 (d + 4) j_U_unpack 178 [(0, .ref 17), (1, .ref o), (2, J x), (3, J n), (4, .ref q), (5, J u), (6, J 1), (7, J i), (8, J z7), (9, J z10)] [.ref 17] s10)) ?_
                obtain ⟨wx26, bix26, bex26, rox26, mx26, nx26, bx26, lx26, hux26, hrx26, hbx26, ⟨fx26a, fx26b, fx26c, fx26d, fx26e, fx26f, fx26g, fx26h, fx26i, fx26j⟩, ⟨fx26k, fx26l, fx26m, fx26n⟩, fx26o, fx26p⟩ := UL.unf hs10.1 pz10_0 ho
                refine T.get rfl rfl rfl hux26 rfl ?_
                refine T.if_ne rfl rfl (by omega) (fun c32 => ?_) (fun c32 => ?_)
                · refine T.go 1 (fun n9 => (rfl : _ = exe ξ n9 (d + 4) j_U_unpack 190 [(0, .ref 17), (1, .ref o), (2, J x), (3, J n), (4, .ref q), (5, J u), (6, J 1), (7, J i), (8, J z7), (9, J z10)] [J 0] s10)) ?_
                  exact T.iretz rfl rfl (by omega) ⟨_, rfl, gs10, by omega, by omega⟩
                · refine T.go 1 (fun n9 => (rfl : _ = exe ξ n9 (d + 4) j_U_unpack 186 [(0, .ref 17), (1, .ref o), (2, J x), (3, J n), (4, .ref q), (5, J u), (6, J 1), (7, J i), (8, J z7), (9, J z10)] [J z10] s10)) ?_
                  refine T.if_ne rfl rfl (by omega) (fun c33 => ?_) (fun c33 => ?_)
                  · refine T.iinc (lv' := [(0, .ref 17), (1, .ref o), (2, J x), (3, J n), (4, .ref q), (5, J u), (6, J 1), (7, J (i + 1)), (8, J z7), (9, J z10)]) rfl rfl rfl rfl ?_
                    refine T.go 1 (fun n9 => (rfl : _ = exe ξ n9 (d + 4) j_U_unpack 74 [(0, .ref 17), (1, .ref o), (2, J x), (3, J n), (4, .ref q), (5, J u), (6, J 1), (7, J (i + 1)), (8, J z7), (9, J z10)] [] s10)) ?_
                    refine T.drop (lv := [(0, .ref 17), (1, .ref o), (2, J x), (3, J n), (4, .ref q), (5, J u), (6, J 1), (7, J (i + 1))]) [(8, J z7), (9, J z10)] (by simp) ?_
                    exact ih  1 (i + 1) s10 gs10 pz10_0 (by omega) (by omega) (by omega) (by omega) (by omega)
                  · refine T.go 1 (fun n9 => (rfl : _ = exe ξ n9 (d + 4) j_U_unpack 190 [(0, .ref 17), (1, .ref o), (2, J x), (3, J n), (4, .ref q), (5, J u), (6, J 1), (7, J i), (8, J z7), (9, J z10)] [J 0] s10)) ?_
                    exact T.iretz rfl rfl (by omega) ⟨_, rfl, gs10, by omega, by omega⟩
            · refine T.go 1 (fun n9 => (rfl : _ = exe ξ n9 (d + 4) j_U_unpack 115 [(0, .ref 17), (1, .ref o), (2, J x), (3, J n), (4, .ref q), (5, J u), (6, J 1), (7, J i), (8, J z7)] [.ref 17] s7)) ?_
              obtain ⟨wx27, bix27, bex27, rox27, mx27, nx27, bx27, lx27, hux27, hrx27, hbx27, ⟨fx27a, fx27b, fx27c, fx27d, fx27e, fx27f, fx27g, fx27h, fx27i, fx27j⟩, ⟨fx27k, fx27l, fx27m, fx27n⟩, fx27o, fx27p⟩ := UL.unf hs7.1 pz7_0 ho
              refine T.callv (as := []) (r := []) rfl rfl rfl rfl hux27 rfl (s_U_copyPlain (d + 1) o q  s7 hs7.1  ho hq hoq pz7_0 ) (fun v11 s11 hqs11 => ?_)
              obtain ⟨z11, rfl, hs11, hzz11, hyz11, pz11_0⟩ := hqs11
              have es11 := hs11
              have hs11 := hs11.sub (w' := [17, 18, 20, 21, 22, 24, 25, 26, 28, 29, 30, q]) (List.forall_mem_cons.mpr ⟨(by simp), (List.forall_mem_cons.mpr ⟨(by simp), (fun _ h => by cases h)⟩)⟩)
              have k11 := es11.b.1 _ _ (nm_c ((by decide : ∀ u ∈ RwL, u ≠ 17) _ ho) (nm_c hoq nm_0)) (fun l z => by cases z) hrx27
              have gs11 := gs7.trans hs11
              refine T.go 3 (fun n9 => (rfl : _ = exe ξ n9 (d + 4) j_U_unpack 178 [(0, .ref 17), (1, .ref o), (2, J x), (3, J n), (4, .ref q), (5, J u), (6, J 1), (7, J i), (8, J z7), (9, J z11)] [.ref 17] s11)) ?_
              obtain ⟨wx28, bix28, bex28, rox28, mx28, nx28, bx28, lx28, hux28, hrx28, hbx28, ⟨fx28a, fx28b, fx28c, fx28d, fx28e, fx28f, fx28g, fx28h, fx28i, fx28j⟩, ⟨fx28k, fx28l, fx28m, fx28n⟩, fx28o, fx28p⟩ := UL.unf hs11.1 pz11_0 ho
              refine T.get rfl rfl rfl hux28 rfl ?_
              refine T.if_ne rfl rfl (by omega) (fun c34 => ?_) (fun c34 => ?_)
              · refine T.go 1 (fun n9 => (rfl : _ = exe ξ n9 (d + 4) j_U_unpack 190 [(0, .ref 17), (1, .ref o), (2, J x), (3, J n), (4, .ref q), (5, J u), (6, J 1), (7, J i), (8, J z7), (9, J z11)] [J 0] s11)) ?_
                exact T.iretz rfl rfl (by omega) ⟨_, rfl, gs11, by omega, by omega⟩
              · refine T.go 1 (fun n9 => (rfl : _ = exe ξ n9 (d + 4) j_U_unpack 186 [(0, .ref 17), (1, .ref o), (2, J x), (3, J n), (4, .ref q), (5, J u), (6, J 1), (7, J i), (8, J z7), (9, J z11)] [J z11] s11)) ?_
                refine T.if_ne rfl rfl (by omega) (fun c35 => ?_) (fun c35 => ?_)
                · refine T.iinc (lv' := [(0, .ref 17), (1, .ref o), (2, J x), (3, J n), (4, .ref q), (5, J u), (6, J 1), (7, J (i + 1)), (8, J z7), (9, J z11)]) rfl rfl rfl rfl ?_
                  refine T.go 1 (fun n9 => (rfl : _ = exe ξ n9 (d + 4) j_U_unpack 74 [(0, .ref 17), (1, .ref o), (2, J x), (3, J n), (4, .ref q), (5, J u), (6, J 1), (7, J (i + 1)), (8, J z7), (9, J z11)] [] s11)) ?_
                  refine T.drop (lv := [(0, .ref 17), (1, .ref o), (2, J x), (3, J n), (4, .ref q), (5, J u), (6, J 1), (7, J (i + 1))]) [(8, J z7), (9, J z11)] (by simp) ?_
                  exact ih  1 (i + 1) s11 gs11 pz11_0 (by omega) (by omega) (by omega) (by omega) (by omega)
                · refine T.go 1 (fun n9 => (rfl : _ = exe ξ n9 (d + 4) j_U_unpack 190 [(0, .ref 17), (1, .ref o), (2, J x), (3, J n), (4, .ref q), (5, J u), (6, J 1), (7, J i), (8, J z7), (9, J z11)] [J 0] s11)) ?_
                  exact T.iretz rfl rfl (by omega) ⟨_, rfl, gs11, by omega, by omega⟩
  refine T.go 1 (fun n9 => (rfl : _ = exe ξ n9 (d + 4) j_U_unpack 1 [(0, .ref 17), (1, .ref o), (2, J x), (3, J n), (4, .ref q), (5, J u)] [J x] σ)) ?_
  refine T.if_lt rfl rfl (by omega) (fun c36 => ?_) (fun c36 => ?_)
  · refine T.go 1 (fun n9 => (rfl : _ = exe ξ n9 (d + 4) j_U_unpack 27 [(0, .ref 17), (1, .ref o), (2, J x), (3, J n), (4, .ref q), (5, J u)] [J 0] σ)) ?_
    exact T.iretz rfl rfl (by omega) ⟨_, rfl, (Fr.refl hK), by omega, by omega⟩
  · refine T.go 1 (fun n9 => (rfl : _ = exe ξ n9 (d + 4) j_U_unpack 5 [(0, .ref 17), (1, .ref o), (2, J x), (3, J n), (4, .ref q), (5, J u)] [J n] σ)) ?_
    refine T.if_lt rfl rfl (by omega) (fun c37 => ?_) (fun c37 => ?_)
    · refine T.go 1 (fun n9 => (rfl : _ = exe ξ n9 (d + 4) j_U_unpack 27 [(0, .ref 17), (1, .ref o), (2, J x), (3, J n), (4, .ref q), (5, J u)] [J 0] σ)) ?_
      exact T.iretz rfl rfl (by omega) ⟨_, rfl, (Fr.refl hK), by omega, by omega⟩
    · refine T.go 2 (fun n9 => (rfl : _ = exe ξ n9 (d + 4) j_U_unpack 10 [(0, .ref 17), (1, .ref o), (2, J x), (3, J n), (4, .ref q), (5, J u)] [.ref o, J n] σ)) ?_
      refine T.get rfl rfl rfl hrx1 rfl ?_
      refine T.icmp_gt rfl rfl (by omega) (by omega) (fun c38 => ?_) (fun c38 => ?_)
      · refine T.go 1 (fun n9 => (rfl : _ = exe ξ n9 (d + 4) j_U_unpack 27 [(0, .ref 17), (1, .ref o), (2, J x), (3, J n), (4, .ref q), (5, J u)] [J 0] σ)) ?_
        exact T.iretz rfl rfl (by omega) ⟨_, rfl, (Fr.refl hK), by omega, by omega⟩
      · refine T.go 2 (fun n9 => (rfl : _ = exe ξ n9 (d + 4) j_U_unpack 18 [(0, .ref 17), (1, .ref o), (2, J x), (3, J n), (4, .ref q), (5, J u)] [.ref o, J x] σ)) ?_
        refine T.get rfl rfl rfl hrx1 rfl ?_
        refine T.go 1 (fun n9 => (rfl : _ = exe ξ n9 (d + 4) j_U_unpack 22 [(0, .ref 17), (1, .ref o), (2, J x), (3, J n), (4, .ref q), (5, J u)] [J n, J nx1, J x] σ)) ?_
        refine T.isub rfl ?_
        refine T.icmp_le rfl rfl (by omega) (by omega) (fun c39 => ?_) (fun c39 => ?_)
        · refine T.go 2 (fun n9 => (rfl : _ = exe ξ n9 (d + 4) j_U_unpack 30 [(0, .ref 17), (1, .ref o), (2, J x), (3, J n), (4, .ref q), (5, J u)] [.ref o, .ref 17] σ)) ?_
          obtain ⟨sx29, tx29, wx29, bix29, bex29, rox29, hux29, fx29a, fx29b, fx29c, fx29d, fx29e, fx29f, fx29g, fx29h, fx29i⟩ := hK.unp
          refine T.putF (w := [17, 18, 20, 21, 22, 24, 25, 26, 28, 29, 30, q]) rfl rfl hux29 rfl rfl rfl (fs' := [.ref 18, .ref 19, .ref 23, .ref 27, .ref 31, .ref 35, .ref o, .ref tx29, J wx29, J bix29, J bex29, J rox29]) rfl (Fr.other hK hux29 rfl (show okU _ from ⟨_, _, _, _, _, _, rfl, ho, fx29b, by omega⟩) (by decide) (Or.inl (by decide)) (fun _ z => by cases z) (by simp)) (fun s12 hs12 hcs12 hos12 => ?_)
          have k12 := hos12 ((by decide : ∀ u ∈ RwL, u ≠ 17) _ ho) hrx1
          have k13 := hos12 (q_dif hbx1 hux29 (fun z => by cases z)) hbx1
          refine T.go 2 (fun n9 => (rfl : _ = exe ξ n9 (d + 4) j_U_unpack 36 [(0, .ref 17), (1, .ref o), (2, J x), (3, J n), (4, .ref q), (5, J u)] [.ref q, .ref 17] s12)) ?_
          refine T.putF (w := [17, 18, 20, 21, 22, 24, 25, 26, 28, 29, 30, q]) rfl rfl hcs12 rfl rfl rfl (fs' := [.ref 18, .ref 19, .ref 23, .ref 27, .ref 31, .ref 35, .ref o, .ref q, J wx29, J bix29, J bex29, J rox29]) rfl (Fr.other hs12.1 hcs12 rfl (show okU _ from ⟨_, _, _, _, _, _, rfl, ho, hq, by omega⟩) (by decide) (Or.inl (by decide)) (fun _ z => by cases z) (by simp)) (fun s13 hs13 hcs13 hos13 => ?_)
          have gs13 := hs12.trans hs13
          have k14 := hos13 ((by decide : ∀ u ∈ RwL, u ≠ 17) _ ho) k12
          have k15 := hos13 (q_dif k13 hcs12 (fun z => by cases z)) k13
          refine T.go 2 (fun n9 => (rfl : _ = exe ξ n9 (d + 4) j_U_unpack 42 [(0, .ref 17), (1, .ref o), (2, J x), (3, J n), (4, .ref q), (5, J u)] [J u, .ref 17] s13)) ?_
          refine T.putF (w := [17, 18, 20, 21, 22, 24, 25, 26, 28, 29, 30, q]) rfl rfl hcs13 rfl rfl rfl (fs' := [.ref 18, .ref 19, .ref 23, .ref 27, .ref 31, .ref 35, .ref o, .ref q, J u, J bix29, J bex29, J rox29]) rfl (Fr.other hs13.1 hcs13 rfl (show okU _ from ⟨_, _, _, _, _, _, rfl, ho, hq, by omega⟩) (by decide) (Or.inl (by decide)) (fun _ z => by cases z) (by simp)) (fun s14 hs14 hcs14 hos14 => ?_)
          have gs14 := gs13.trans hs14
          have k16 := hos14 ((by decide : ∀ u ∈ RwL, u ≠ 17) _ ho) k14
          have k17 := hos14 (q_dif k15 hcs13 (fun z => by cases z)) k15
          refine T.go 3 (fun n9 => (rfl : _ = exe ξ n9 (d + 4) j_U_unpack 49 [(0, .ref 17), (1, .ref o), (2, J x), (3, J n), (4, .ref q), (5, J u)] [J x, J 8, .ref 17] s14)) ?_
          refine T.imul rfl ?_
          refine T.putF (w := [17, 18, 20, 21, 22, 24, 25, 26, 28, 29, 30, q]) rfl rfl hcs14 rfl rfl rfl (fs' := [.ref 18, .ref 19, .ref 23, .ref 27, .ref 31, .ref 35, .ref o, .ref q, J u, J (8 * x), J bex29, J rox29]) rfl (Fr.other hs14.1 hcs14 rfl (show okU _ from ⟨_, _, _, _, _, _, rfl, ho, hq, by omega⟩) (by decide) (Or.inl (by decide)) (fun _ z => by cases z) (by simp)) (fun s15 hs15 hcs15 hos15 => ?_)
          have gs15 := gs14.trans hs15
          have k18 := hos15 ((by decide : ∀ u ∈ RwL, u ≠ 17) _ ho) k16
          have k19 := hos15 (q_dif k17 hcs14 (fun z => by cases z)) k17
          refine T.go 4 (fun n9 => (rfl : _ = exe ξ n9 (d + 4) j_U_unpack 58 [(0, .ref 17), (1, .ref o), (2, J x), (3, J n), (4, .ref q), (5, J u)] [J n, J x, J 8, .ref 17] s15)) ?_
          refine T.iadd rfl ?_
          refine T.imul rfl ?_
          refine T.putF (w := [17, 18, 20, 21, 22, 24, 25, 26, 28, 29, 30, q]) rfl rfl hcs15 rfl rfl rfl (fs' := [.ref 18, .ref 19, .ref 23, .ref 27, .ref 31, .ref 35, .ref o, .ref q, J u, J (8 * x), J (8 * (x + n)), J rox29]) rfl (Fr.other hs15.1 hcs15 rfl (show okU _ from ⟨_, _, _, _, _, _, rfl, ho, hq, by omega⟩) (by decide) (Or.inl (by decide)) (fun _ z => by cases z) (by simp)) (fun s16 hs16 hcs16 hos16 => ?_)
          have gs16 := gs15.trans hs16
          have k20 := hos16 ((by decide : ∀ u ∈ RwL, u ≠ 17) _ ho) k18
          have k21 := hos16 (q_dif k19 hcs15 (fun z => by cases z)) k19
          refine T.go 2 (fun n9 => (rfl : _ = exe ξ n9 (d + 4) j_U_unpack 65 [(0, .ref 17), (1, .ref o), (2, J x), (3, J n), (4, .ref q), (5, J u)] [J 0, .ref 17] s16)) ?_
          refine T.putF (w := [17, 18, 20, 21, 22, 24, 25, 26, 28, 29, 30, q]) rfl rfl hcs16 rfl rfl rfl (fs' := [.ref 18, .ref 19, .ref 23, .ref 27, .ref 31, .ref 35, .ref o, .ref q, J u, J (8 * x), J (8 * (x + n)), J 0]) rfl (Fr.other hs16.1 hcs16 rfl (show okU _ from ⟨_, _, _, _, _, _, rfl, ho, hq, by omega⟩) (by decide) (Or.inl (by decide)) (fun _ z => by cases z) (by simp)) (fun s17 hs17 hcs17 hos17 => ?_)
          have gs17 := gs16.trans hs17
          have k22 := hos17 ((by decide : ∀ u ∈ RwL, u ≠ 17) _ ho) k20
          have k23 := hos17 (q_dif k21 hcs16 (fun z => by cases z)) k21
          refine T.go 4 (fun n9 => (rfl : _ = exe ξ n9 (d + 4) j_U_unpack 74 [(0, .ref 17), (1, .ref o), (2, J x), (3, J n), (4, .ref q), (5, J u), (6, J 0), (7, J 0)] [] s17)) ?_
          have hU12 : UL o q s17 := ⟨_, _, _, _, _, _, _, _, hcs17, k22, k23, by omega⟩
          exact loop74 _ 0 0 s17 gs17 hU12 (by omega) (by omega) (by omega) (by omega) (Nat.lt_succ_self _)
        · refine T.go 1 (fun n9 => (rfl : _ = exe ξ n9 (d + 4) j_U_unpack 27 [(0, .ref 17), (1, .ref o), (2, J x), (3, J n), (4, .ref q), (5, J u)] [J 0] σ)) ?_
          exact T.iretz rfl rfl (by omega) ⟨_, rfl, (Fr.refl hK), by omega, by omega⟩
