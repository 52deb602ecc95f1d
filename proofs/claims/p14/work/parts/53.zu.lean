/-! class Unpacker: what it answers, as functions of bytes. -/
set_option maxRecDepth 10000 in
set_option maxHeartbeats 4000000 in
theorem s_U_ftakeBits {ξ : Nat → Option (Nat × List Int32)} (d : Nat) (s t : Nat) (g : Int → Int) (n : Int) (σ : qH) (hK : K σ)  (hs : s ∈ RwL) (ht : t ∈ RwL) (hst : s ≠ t) (hU : UL s t σ) (hNA : NA σ) (hg : AGR σ s g) (rn : -2147483648 ≤ n ∧ n ≤ 2147483647) (pre0 : 0 ≤ n) (pre1 : n ≤ 16) : T ξ d j_U_takeBits 0 (lv_args 0 [.ref 17, J n]) [] σ (fun v σ' => ∃ z : Int, v = some (J z) ∧ Fr [17] σ σ' ∧ 0 ≤ z ∧ z ≤ 65535 ∧ UL s t σ' ∧ ((afld σ 17 9 + n ≤ afld σ 17 10 ∧ z = BV g (afld σ 17 9) n.toNat ∧ afld σ' 17 9 = afld σ 17 9 + n ∧ afld σ' 17 11 = afld σ 17 11) ∨ (afld σ 17 10 < afld σ 17 9 + n ∧ afld σ' 17 11 = 1 ∧ z = 0 ∧ afld σ' 17 9 = afld σ 17 10)) ∧ (afld σ' 17 8 = afld σ 17 8 ∧ afld σ' 17 10 = afld σ 17 10)) := by
  obtain ⟨wx1, bix1, bex1, rox1, mx1, nx1, bx1, lx1, hux1, hrx1, hbx1, ⟨fx1a, fx1b, fx1c, fx1d, fx1e, fx1f, fx1g, fx1h, fx1i, fx1j⟩, ⟨fx1k, fx1l, fx1m, fx1n⟩, fx1o, fx1p⟩ := UL.unf hK hU hs
  have af8x1 := af_of (i := 8) hux1 rfl (by omega)
  subst af8x1
  have af9x1 := af_of (i := 9) hux1 rfl (by omega)
  subst af9x1
  have af10x1 := af_of (i := 10) hux1 rfl (by omega)
  subst af10x1
  have af11x1 := af_of (i := 11) hux1 rfl (by omega)
  subst af11x1
  have ctx1 := CT_of hrx1 hbx1
  have rwx1 := rl_of hrx1 (by omega)
  subst rwx1
  have loop4 : ∀ (f : Nat) (y : Int) (i : Int) (τ : qH), Fr [17] σ τ → UL s t τ → 0 ≤ i → i ≤ n → y = BV g (afld σ 17 9) i.toNat → afld τ 17 9 = afld σ 17 9 + i → afld τ 17 8 = afld σ 17 8 → afld τ 17 10 = afld σ 17 10 → afld τ 17 11 = afld σ 17 11 → afld σ 17 9 + i ≤ afld σ 17 10 → (n - i).toNat < f → T ξ d j_U_takeBits 4 [(0, .ref 17), (1, J n), (2, J y), (3, J i)] [] τ (fun v σ' => ∃ z : Int, v = some (J z) ∧ Fr [17] σ σ' ∧ 0 ≤ z ∧ z ≤ 65535 ∧ UL s t σ' ∧ ((afld σ 17 9 + n ≤ afld σ 17 10 ∧ z = BV g (afld σ 17 9) n.toNat ∧ afld σ' 17 9 = afld σ 17 9 + n ∧ afld σ' 17 11 = afld σ 17 11) ∨ (afld σ 17 10 < afld σ 17 9 + n ∧ afld σ' 17 11 = 1 ∧ z = 0 ∧ afld σ' 17 9 = afld σ 17 10)) ∧ (afld σ' 17 8 = afld σ 17 8 ∧ afld σ' 17 10 = afld σ 17 10)) := by
    intro f
    induction f with
    | zero => intro y i τ hτ uτ i0 i1 i2 i3 i4 i5 i6 i7 hm; omega
    | succ f ih =>
      intro y i τ hτ uτ i0 i1 i2 i3 i4 i5 i6 i7 hm
      have bvr := BV_r g (afld σ 17 9) i.toNat
      rw [Int.toNat_of_nonneg i0, ← i2] at bvr
      have p16 := P2_le (k := i) (by omega)
      refine T.go 2 (fun n9 => (rfl : _ = exe ξ n9 d j_U_takeBits 6 [(0, .ref 17), (1, J n), (2, J y), (3, J i)] [J n, J i] τ)) ?_
      refine T.icmp_ge rfl rfl (by omega) (by omega) (fun c1 => ?_) (fun c1 => ?_)
      · refine T.go 1 (fun n9 => (rfl : _ = exe ξ n9 d j_U_takeBits 73 [(0, .ref 17), (1, J n), (2, J y), (3, J i)] [J y] τ)) ?_
        exact T.ireti rfl rfl ⟨_, rfl, hτ, by omega, by omega, uτ, (Or.inl ⟨by omega, by rw [show n.toNat = i.toNat by omega]; exact i2, by omega, by omega⟩), by omega⟩
      · refine T.go 1 (fun n9 => (rfl : _ = exe ξ n9 d j_U_takeBits 10 [(0, .ref 17), (1, J n), (2, J y), (3, J i)] [.ref 17] τ)) ?_
        obtain ⟨wx2, bix2, bex2, rox2, mx2, nx2, bx2, lx2, hux2, hrx2, hbx2, ⟨fx2a, fx2b, fx2c, fx2d, fx2e, fx2f, fx2g, fx2h, fx2i, fx2j⟩, ⟨fx2k, fx2l, fx2m, fx2n⟩, fx2o, fx2p⟩ := UL.unf hτ.1 uτ hs
        have af8x2 := af_of (i := 8) hux2 rfl (by omega)
        subst af8x2
        have af9x2 := af_of (i := 9) hux2 rfl (by omega)
        subst af9x2
        have af10x2 := af_of (i := 10) hux2 rfl (by omega)
        subst af10x2
        have af11x2 := af_of (i := 11) hux2 rfl (by omega)
        subst af11x2
        have ctx2 := CT_of hrx2 hbx2
        have rwx2 := rl_of hrx2 (by omega)
        subst rwx2
        refine T.get rfl rfl rfl hux2 rfl ?_
        refine T.go 1 (fun n9 => (rfl : _ = exe ξ n9 d j_U_takeBits 14 [(0, .ref 17), (1, J n), (2, J y), (3, J i)] [.ref 17, J (afld τ 17 9)] τ)) ?_
        refine T.get rfl rfl rfl hux2 rfl ?_
        refine T.icmp_lt rfl rfl (by omega) (by omega) (fun c2 => ?_) (fun c2 => ?_)
        · refine T.go 2 (fun n9 => (rfl : _ = exe ξ n9 d j_U_takeBits 29 [(0, .ref 17), (1, J n), (2, J y), (3, J i)] [.ref 17, J y] τ)) ?_
          refine T.get rfl rfl rfl hux2 rfl ?_
          refine T.get rfl rfl rfl hrx2 rfl ?_
          refine T.go 1 (fun n9 => (rfl : _ = exe ξ n9 d j_U_takeBits 36 [(0, .ref 17), (1, J n), (2, J y), (3, J i)] [.ref 17, .ref bx2, J y] τ)) ?_
          refine T.get rfl rfl rfl hux2 rfl ?_
          refine T.go 1 (fun n9 => (rfl : _ = exe ξ n9 d j_U_takeBits 40 [(0, .ref 17), (1, J n), (2, J y), (3, J i)] [J 3, J (afld τ 17 9), .ref bx2, J y] τ)) ?_
          refine T.ishr (p := 8) 3 rfl (by decide) (by decide) (by omega) ?_
          refine T.bald rfl (blt_f fx2o) hbx2 (by omega) (fun z2 hzz2 hyz2 hez2 => ?_)
          have rbz2 := rb_of (x := (afld τ 17 9) / 8) ctx2 hez2 ⟨hzz2, hyz2⟩
          have qbz2 := qb_at fx2p hez2 ⟨hzz2, hyz2⟩
          have hg1 := hg.fr hNA hτ hs (nm_c (dq_1 _ hs) nm_0)
          have ggz2 := hg1 ((afld τ 17 9) / 8) (by omega) (by omega)
          refine T.go 1 (fun n9 => (rfl : _ = exe ξ n9 d j_U_takeBits 43 [(0, .ref 17), (1, J n), (2, J y), (3, J i)] [.ref 17, J z2, J y] τ)) ?_
          refine T.get rfl rfl rfl hux2 rfl ?_
          refine T.go 1 (fun n9 => (rfl : _ = exe ξ n9 d j_U_takeBits 48 [(0, .ref 17), (1, J n), (2, J y), (3, J i)] [J 7, J (afld τ 17 9), J z2, J y] τ)) ?_
          refine T.iandm (p := 8) 3 rfl (by decide) (by decide) (by decide) (by omega) ?_
          refine T.ishrv rfl (by omega) (by omega) ?_
          have dz4 := dP2_r (q := z2) (n := (afld τ 17 9) % 8) (by omega)
          refine T.go 1 (fun n9 => (rfl : _ = exe ξ n9 d j_U_takeBits 51 [(0, .ref 17), (1, J n), (2, J y), (3, J i)] [J 1, J (z2 / P2 ((afld τ 17 9) % 8)), J y] τ)) ?_
          refine T.iandm (p := 2) 1 rfl (by decide) (by decide) (by decide) (by omega) ?_
          rw [bt_of (g := g) (b := afld τ 17 9) (z := z2) (by omega)]
          have btr65 := bt_r g (afld τ 17 9)
          refine T.go 1 (fun n9 => (rfl : _ = exe ξ n9 d j_U_takeBits 53 [(0, .ref 17), (1, J n), (2, J y), (3, J i)] [J i, J (bt g (afld τ 17 9)), J y] τ)) ?_
          refine T.ishlq rfl (by omega) (by omega) (fun z6 hzz6 hyz6 hvz6 hwz6 huz6 => ?_)
          refine T.iorp (k := i) rfl (by omega) (by omega) (by omega) ?_
          refine T.go 3 (fun n9 => (rfl : _ = exe ξ n9 d j_U_takeBits 58 [(0, .ref 17), (1, J n), (2, J (y + z6)), (3, J i)] [.ref 17, .ref 17] τ)) ?_
          refine T.get rfl rfl rfl hux2 rfl ?_
          refine T.go 1 (fun n9 => (rfl : _ = exe ξ n9 d j_U_takeBits 62 [(0, .ref 17), (1, J n), (2, J (y + z6)), (3, J i)] [J 1, J (afld τ 17 9), .ref 17] τ)) ?_
          refine T.iadd rfl ?_
          refine T.putF (w := [17]) rfl rfl hux2 rfl rfl rfl (fs' := [.ref 18, .ref 19, .ref 23, .ref 27, .ref 31, .ref 35, .ref s, .ref t, J (afld τ 17 8), J ((afld τ 17 9) + 1), J (afld τ 17 10), J (afld τ 17 11)]) rfl (Fr.other hτ.1 hux2 rfl (show okU _ from ⟨_, _, _, _, _, _, rfl, hs, ht, by omega⟩) (by decide) (Or.inl (by decide)) (fun _ z => by cases z) (by simp)) (fun s1 hs1 hcs1 hos1 => ?_)
          have gs1 := hτ.trans hs1
          have nt1 := nb_set hτ.1 ht hux2 (dq_1 _ ht) hos1
          have rtnt1 := nt1.2
          have k1 := hos1 (dq_1 _ hs) hrx2
          have k2 := hos1 (q_dif hbx2 hux2 (fun z => by cases z)) hbx2
          refine T.iinc (lv' := [(0, .ref 17), (1, J n), (2, J (y + z6)), (3, J (i + 1))]) rfl rfl rfl rfl ?_
          refine T.go 1 (fun n9 => (rfl : _ = exe ξ n9 d j_U_takeBits 4 [(0, .ref 17), (1, J n), (2, J (y + z6)), (3, J (i + 1))] [] s1)) ?_
          have hU1 : UL s t s1 := ⟨_, _, _, _, _, _, _, _, hcs1, k1, k2, by omega⟩
          have nf1 := af_of (i := 8) hcs1 rfl (by omega)
          have nf2 := af_of (i := 9) hcs1 rfl (by omega)
          have nf3 := af_of (i := 10) hcs1 rfl (by omega)
          have nf4 := af_of (i := 11) hcs1 rfl (by omega)
          exact ih  (y + z6) (i + 1) s1 gs1 hU1 (by omega) (by omega) (by rw [BV_step i0, ← i2, show afld σ 17 9 + i = afld τ 17 9 by omega, hvz6]) (by omega) (by omega) (by omega) (by omega) (by omega) (by omega)
        · refine T.go 2 (fun n9 => (rfl : _ = exe ξ n9 d j_U_takeBits 22 [(0, .ref 17), (1, J n), (2, J y), (3, J i)] [J 1, .ref 17] τ)) ?_
          refine T.putF (w := [17]) rfl rfl hux2 rfl rfl rfl (fs' := [.ref 18, .ref 19, .ref 23, .ref 27, .ref 31, .ref 35, .ref s, .ref t, J (afld τ 17 8), J (afld τ 17 9), J (afld τ 17 10), J 1]) rfl (Fr.other hτ.1 hux2 rfl (show okU _ from ⟨_, _, _, _, _, _, rfl, hs, ht, by omega⟩) (by decide) (Or.inl (by decide)) (fun _ z => by cases z) (by simp)) (fun s2 hs2 hcs2 hos2 => ?_)
          have gs2 := hτ.trans hs2
          have nt2 := nb_set hτ.1 ht hux2 (dq_1 _ ht) hos2
          have rtnt2 := nt2.2
          have k3 := hos2 (dq_1 _ hs) hrx2
          have k4 := hos2 (q_dif hbx2 hux2 (fun z => by cases z)) hbx2
          refine T.go 1 (fun n9 => (rfl : _ = exe ξ n9 d j_U_takeBits 26 [(0, .ref 17), (1, J n), (2, J y), (3, J i)] [J 0] s2)) ?_
          have hU2 : UL s t s2 := ⟨_, _, _, _, _, _, _, _, hcs2, k3, k4, by omega⟩
          have nf5 := af_of (i := 8) hcs2 rfl (by omega)
          have nf6 := af_of (i := 9) hcs2 rfl (by omega)
          have nf7 := af_of (i := 10) hcs2 rfl (by omega)
          have nf8 := af_of (i := 11) hcs2 rfl (by omega)
          exact T.ireti rfl rfl ⟨_, rfl, gs2, by omega, by omega, hU2, (Or.inr ⟨by omega, by omega, by omega, by omega⟩), by omega⟩
  refine T.go 4 (fun n9 => (rfl : _ = exe ξ n9 d j_U_takeBits 4 [(0, .ref 17), (1, J n), (2, J 0), (3, J 0)] [] σ)) ?_
  exact loop4 _ 0 0 σ (Fr.refl hK) hU (by omega) (by omega) rfl (by omega) (by omega) (by omega) (by omega) (by omega) (Nat.lt_succ_self _)

set_option maxRecDepth 10000 in
set_option maxHeartbeats 4000000 in
theorem s_U_fnextSign {ξ : Nat → Option (Nat × List Int32)} (d : Nat) (s t : Nat) (g L : Int → Int) (m : Nat) (c : Nat) (σ : qH) (hK : K σ) (hc : c ∈ CdL) (hs : s ∈ RwL) (ht : t ∈ RwL) (hst : s ≠ t) (hU : UL s t σ) (hNA : NA σ) (hg : AGR σ s g) (hd : CD σ c L m) (hm9 : m ≤ 320) : T ξ d j_U_nextSign 0 (lv_args 0 [.ref 17, .ref c]) [] σ (fun v σ' => ∃ z : Int, v = some (J z) ∧ Fr [17] σ σ' ∧ -2147483648 ≤ z ∧ z ≤ 2147483647 ∧ UL s t σ' ∧ z = (SG g (afld σ 17 10) L m 15 (afld σ 17 9) 0 0).1 ∧ (0 ≤ z → afld σ' 17 9 = (SG g (afld σ 17 10) L m 15 (afld σ 17 9) 0 0).2) ∧ (afld σ' 17 8 = afld σ 17 8 ∧ afld σ' 17 10 = afld σ 17 10 ∧ afld σ' 17 11 = afld σ 17 11)) := by
  have lc := CdL_lt2 c hc
  have loop10 : ∀ (f : Nat) (u : Int) (x : Int) (p : Int) (k : Int) (τ : qH), Fr [17] σ τ → UL s t τ → 1 ≤ k → k ≤ 16 → (0 ≤ x ∧ x ≤ u ∧ u < P2 k) → u % 2 = 0 → x % 2 = 0 → p = PL L m k.toNat → SG g (afld σ 17 10) L m (16 - k).toNat (afld τ 17 9) (u / 2) (x / 2) = SG g (afld σ 17 10) L m 15 (afld σ 17 9) 0 0 → afld τ 17 8 = afld σ 17 8 → afld τ 17 10 = afld σ 17 10 → afld τ 17 11 = afld σ 17 11 → (16 - k).toNat < f → T ξ d j_U_nextSign 10 [(0, .ref 17), (1, .ref c), (2, J u), (3, J x), (4, J p), (5, J k)] [] τ (fun v σ' => ∃ z : Int, v = some (J z) ∧ Fr [17] σ σ' ∧ -2147483648 ≤ z ∧ z ≤ 2147483647 ∧ UL s t σ' ∧ z = (SG g (afld σ 17 10) L m 15 (afld σ 17 9) 0 0).1 ∧ (0 ≤ z → afld σ' 17 9 = (SG g (afld σ 17 10) L m 15 (afld σ 17 9) 0 0).2) ∧ (afld σ' 17 8 = afld σ 17 8 ∧ afld σ' 17 10 = afld σ 17 10 ∧ afld σ' 17 11 = afld σ 17 11)) := by
    intro f
    induction f with
    | zero => intro u x p k τ hτ uτ i0 i1 i2 i3 i4 i5 i6 i7 i8 i9 hm; omega
    | succ f ih =>
      intro u x p k τ hτ uτ i0 i1 i2 i3 i4 i5 i6 i7 i8 i9 hm
      have p16 := P2_le (k := k) (by omega)
      have hb9 := bt_r g (afld τ 17 9)
      have hm9 := MY_r L k m
      have pl0 : PL L m 0 ≤ PL L m k.toNat := PL_mono (Nat.zero_le _)
      have pl00 : PL L m 0 = 0 := rfl
      have pls := PL_step (L := L) (n := m) (l := k) i0
      have ple := PL_le L m k.toNat
      rw [show (k + 1).toNat = k.toNat + 1 by omega] at pls
      have p2s := P2_s (k := k) (by omega)
      have p2p := P2_s (k := k - 1) (by omega)
      rw [show k - 1 + 1 = k by omega] at p2p
      refine T.go 2 (fun n9 => (rfl : _ = exe ξ n9 d j_U_nextSign 14 [(0, .ref 17), (1, .ref c), (2, J u), (3, J x), (4, J p), (5, J k)] [J 15, J k] τ)) ?_
      refine T.icmp_gt rfl rfl (by omega) (by omega) (fun c1 => ?_) (fun c1 => ?_)
      · refine T.go 1 (fun n9 => (rfl : _ = exe ξ n9 d j_U_nextSign 142 [(0, .ref 17), (1, .ref c), (2, J u), (3, J x), (4, J p), (5, J k)] [J (-1)] τ)) ?_
        exact T.ireti rfl rfl ⟨_, rfl, hτ, by omega, by omega, uτ, (by rw [← i6, SG_end (by omega)]), (fun h => absurd h (by omega)), by omega⟩
      · refine T.go 1 (fun n9 => (rfl : _ = exe ξ n9 d j_U_nextSign 18 [(0, .ref 17), (1, .ref c), (2, J u), (3, J x), (4, J p), (5, J k)] [.ref 17] τ)) ?_
        obtain ⟨wx1, bix1, bex1, rox1, mx1, nx1, bx1, lx1, hux1, hrx1, hbx1, ⟨fx1a, fx1b, fx1c, fx1d, fx1e, fx1f, fx1g, fx1h, fx1i, fx1j⟩, ⟨fx1k, fx1l, fx1m, fx1n⟩, fx1o, fx1p⟩ := UL.unf hτ.1 uτ hs
        have af8x1 := af_of (i := 8) hux1 rfl (by omega)
        subst af8x1
        have af9x1 := af_of (i := 9) hux1 rfl (by omega)
        subst af9x1
        have af10x1 := af_of (i := 10) hux1 rfl (by omega)
        subst af10x1
        have af11x1 := af_of (i := 11) hux1 rfl (by omega)
        subst af11x1
        have ctx1 := CT_of hrx1 hbx1
        have rwx1 := rl_of hrx1 (by omega)
        subst rwx1
        refine T.get rfl rfl rfl hux1 rfl ?_
        refine T.go 1 (fun n9 => (rfl : _ = exe ξ n9 d j_U_nextSign 22 [(0, .ref 17), (1, .ref c), (2, J u), (3, J x), (4, J p), (5, J k)] [.ref 17, J (afld τ 17 9)] τ)) ?_
        refine T.get rfl rfl rfl hux1 rfl ?_
        refine T.icmp_ge rfl rfl (by omega) (by omega) (fun c2 => ?_) (fun c2 => ?_)
        · refine T.go 1 (fun n9 => (rfl : _ = exe ξ n9 d j_U_nextSign 142 [(0, .ref 17), (1, .ref c), (2, J u), (3, J x), (4, J p), (5, J k)] [J (-1)] τ)) ?_
          exact T.ireti rfl rfl ⟨_, rfl, hτ, by omega, by omega, uτ, (by rw [← i6, SG_end (by omega)]), (fun h => absurd h (by omega)), by omega⟩
        · refine T.go 2 (fun n9 => (rfl : _ = exe ξ n9 d j_U_nextSign 30 [(0, .ref 17), (1, .ref c), (2, J u), (3, J x), (4, J p), (5, J k)] [.ref 17, J u] τ)) ?_
          refine T.get rfl rfl rfl hux1 rfl ?_
          refine T.get rfl rfl rfl hrx1 rfl ?_
          refine T.go 1 (fun n9 => (rfl : _ = exe ξ n9 d j_U_nextSign 37 [(0, .ref 17), (1, .ref c), (2, J u), (3, J x), (4, J p), (5, J k)] [.ref 17, .ref bx1, J u] τ)) ?_
          refine T.get rfl rfl rfl hux1 rfl ?_
          refine T.go 1 (fun n9 => (rfl : _ = exe ξ n9 d j_U_nextSign 41 [(0, .ref 17), (1, .ref c), (2, J u), (3, J x), (4, J p), (5, J k)] [J 3, J (afld τ 17 9), .ref bx1, J u] τ)) ?_
          refine T.ishr (p := 8) 3 rfl (by decide) (by decide) (by omega) ?_
          refine T.bald rfl (blt_f fx1o) hbx1 (by omega) (fun z2 hzz2 hyz2 hez2 => ?_)
          have rbz2 := rb_of (x := (afld τ 17 9) / 8) ctx1 hez2 ⟨hzz2, hyz2⟩
          have qbz2 := qb_at fx1p hez2 ⟨hzz2, hyz2⟩
          have hg1 := hg.fr hNA hτ hs (nm_c (dq_1 _ hs) nm_0)
          have ggz2 := hg1 ((afld τ 17 9) / 8) (by omega) (by omega)
          refine T.go 1 (fun n9 => (rfl : _ = exe ξ n9 d j_U_nextSign 44 [(0, .ref 17), (1, .ref c), (2, J u), (3, J x), (4, J p), (5, J k)] [.ref 17, J z2, J u] τ)) ?_
          refine T.get rfl rfl rfl hux1 rfl ?_
          refine T.go 1 (fun n9 => (rfl : _ = exe ξ n9 d j_U_nextSign 49 [(0, .ref 17), (1, .ref c), (2, J u), (3, J x), (4, J p), (5, J k)] [J 7, J (afld τ 17 9), J z2, J u] τ)) ?_
          refine T.iandm (p := 8) 3 rfl (by decide) (by decide) (by decide) (by omega) ?_
          refine T.ishrv rfl (by omega) (by omega) ?_
          have dz4 := dP2_r (q := z2) (n := (afld τ 17 9) % 8) (by omega)
          refine T.go 1 (fun n9 => (rfl : _ = exe ξ n9 d j_U_nextSign 52 [(0, .ref 17), (1, .ref c), (2, J u), (3, J x), (4, J p), (5, J k)] [J 1, J (z2 / P2 ((afld τ 17 9) % 8)), J u] τ)) ?_
          refine T.iandm (p := 2) 1 rfl (by decide) (by decide) (by decide) (by omega) ?_
          rw [bt_of (g := g) (b := afld τ 17 9) (z := z2) (by omega)]
          have btr64 := bt_r g (afld τ 17 9)
          refine T.iorr (p := 2) 1 (u / 2) rfl (by decide) (by decide) (by omega) (by omega) ?_
          refine T.go 3 (fun n9 => (rfl : _ = exe ξ n9 d j_U_nextSign 57 [(0, .ref 17), (1, .ref c), (2, J ((bt g (afld τ 17 9)) + u)), (3, J x), (4, J p), (5, J k)] [.ref 17, .ref 17] τ)) ?_
          refine T.get rfl rfl rfl hux1 rfl ?_
          refine T.go 1 (fun n9 => (rfl : _ = exe ξ n9 d j_U_nextSign 61 [(0, .ref 17), (1, .ref c), (2, J ((bt g (afld τ 17 9)) + u)), (3, J x), (4, J p), (5, J k)] [J 1, J (afld τ 17 9), .ref 17] τ)) ?_
          refine T.iadd rfl ?_
          refine T.putF (w := [17]) rfl rfl hux1 rfl rfl rfl (fs' := [.ref 18, .ref 19, .ref 23, .ref 27, .ref 31, .ref 35, .ref s, .ref t, J (afld τ 17 8), J ((afld τ 17 9) + 1), J (afld τ 17 10), J (afld τ 17 11)]) rfl (Fr.other hτ.1 hux1 rfl (show okU _ from ⟨_, _, _, _, _, _, rfl, hs, ht, by omega⟩) (by decide) (Or.inl (by decide)) (fun _ z => by cases z) (by simp)) (fun s1 hs1 hcs1 hos1 => ?_)
          have gs1 := hτ.trans hs1
          have nt1 := nb_set hτ.1 ht hux1 (dq_1 _ ht) hos1
          have rtnt1 := nt1.2
          have k1 := hos1 (dq_1 _ hs) hrx1
          have k2 := hos1 (q_dif hbx1 hux1 (fun z => by cases z)) hbx1
          refine T.go 1 (fun n9 => (rfl : _ = exe ξ n9 d j_U_nextSign 66 [(0, .ref 17), (1, .ref c), (2, J ((bt g (afld τ 17 9)) + u)), (3, J x), (4, J p), (5, J k)] [.ref c] s1)) ?_
          have hcx2 := hs1.1.cod (c := c) hc
          refine T.get rfl rfl rfl hcx2 rfl ?_
          refine T.go 1 (fun n9 => (rfl : _ = exe ξ n9 d j_U_nextSign 71 [(0, .ref 17), (1, .ref c), (2, J ((bt g (afld τ 17 9)) + u)), (3, J x), (4, J p), (5, J k)] [J k, .ref (c + 1)] s1)) ?_
          obtain ⟨lx3, hix3, elx3⟩ := hs1.1.ints (kdX_cd _ hc).2.1
          have ilx3 := il_of hix3
          refine T.iald rfl (blt_f (by omega)) hix3 (by omega) (fun z7 hzz7 hyz7 hez7 => ?_)
          have glz7 : gl (il s1 (c + 1)) k = z7 := by rw [ilx3]; exact gl_of hez7 ⟨hzz7, hyz7⟩
          subst glz7
          have hd2 := hd.fr hK hc gs1 (nm_c ((by decide : ∀ u ∈ CdL, u + 1 ≠ 17) _ hc) nm_0) (nm_c ((by decide : ∀ u ∈ CdL, u + 3 ≠ 17) _ hc) nm_0)
          have cnt := hd2.1 k i0 (by omega)
          rw [cnt]
          refine T.go 3 (fun n9 => (rfl : _ = exe ξ n9 d j_U_nextSign 77 [(0, .ref 17), (1, .ref c), (2, J ((bt g (afld τ 17 9)) + u)), (3, J x), (4, J p), (5, J k), (6, J (MY L k m))] [J ((bt g (afld τ 17 9)) + u), J p] s1)) ?_
          refine T.iadd rfl ?_
          refine T.go 1 (fun n9 => (rfl : _ = exe ξ n9 d j_U_nextSign 79 [(0, .ref 17), (1, .ref c), (2, J ((bt g (afld τ 17 9)) + u)), (3, J x), (4, J p), (5, J k), (6, J (MY L k m))] [J x, J (p + ((bt g (afld τ 17 9)) + u))] s1)) ?_
          refine T.isub rfl ?_
          refine T.go 3 (fun n9 => (rfl : _ = exe ξ n9 d j_U_nextSign 84 [(0, .ref 17), (1, .ref c), (2, J ((bt g (afld τ 17 9)) + u)), (3, J x), (4, J p), (5, J k), (6, J (MY L k m)), (7, J ((p + ((bt g (afld τ 17 9)) + u)) - x))] [J x, J ((bt g (afld τ 17 9)) + u)] s1)) ?_
          refine T.isub rfl ?_
          refine T.go 1 (fun n9 => (rfl : _ = exe ξ n9 d j_U_nextSign 87 [(0, .ref 17), (1, .ref c), (2, J ((bt g (afld τ 17 9)) + u)), (3, J x), (4, J p), (5, J k), (6, J (MY L k m)), (7, J ((p + ((bt g (afld τ 17 9)) + u)) - x))] [J (MY L k m), J (((bt g (afld τ 17 9)) + u) - x)] s1)) ?_
          refine T.icmp_ge rfl rfl (by omega) (by omega) (fun c3 => ?_) (fun c3 => ?_)
          · refine T.go 2 (fun n9 => (rfl : _ = exe ξ n9 d j_U_nextSign 121 [(0, .ref 17), (1, .ref c), (2, J ((bt g (afld τ 17 9)) + u)), (3, J x), (4, J p), (5, J k), (6, J (MY L k m)), (7, J ((p + ((bt g (afld τ 17 9)) + u)) - x))] [J (MY L k m), J p] s1)) ?_
            refine T.iadd rfl ?_
            refine T.go 3 (fun n9 => (rfl : _ = exe ξ n9 d j_U_nextSign 127 [(0, .ref 17), (1, .ref c), (2, J ((bt g (afld τ 17 9)) + u)), (3, J x), (4, J (p + (MY L k m))), (5, J k), (6, J (MY L k m)), (7, J ((p + ((bt g (afld τ 17 9)) + u)) - x))] [J (MY L k m), J x] s1)) ?_
            refine T.iadd rfl ?_
            refine T.go 1 (fun n9 => (rfl : _ = exe ξ n9 d j_U_nextSign 129 [(0, .ref 17), (1, .ref c), (2, J ((bt g (afld τ 17 9)) + u)), (3, J x), (4, J (p + (MY L k m))), (5, J k), (6, J (MY L k m)), (7, J ((p + ((bt g (afld τ 17 9)) + u)) - x))] [J 1, J (x + (MY L k m))] s1)) ?_
            refine T.ishl (p := 2) 1 rfl (by decide) (by decide) (by omega) (by omega) ?_
            refine T.go 3 (fun n9 => (rfl : _ = exe ξ n9 d j_U_nextSign 133 [(0, .ref 17), (1, .ref c), (2, J ((bt g (afld τ 17 9)) + u)), (3, J ((x + (MY L k m)) * 2)), (4, J (p + (MY L k m))), (5, J k), (6, J (MY L k m)), (7, J ((p + ((bt g (afld τ 17 9)) + u)) - x))] [J 1, J ((bt g (afld τ 17 9)) + u)] s1)) ?_
            refine T.ishl (p := 2) 1 rfl (by decide) (by decide) (by omega) (by omega) ?_
            refine T.go 1 (fun n9 => (rfl : _ = exe ξ n9 d j_U_nextSign 135 [(0, .ref 17), (1, .ref c), (2, J (((bt g (afld τ 17 9)) + u) * 2)), (3, J ((x + (MY L k m)) * 2)), (4, J (p + (MY L k m))), (5, J k), (6, J (MY L k m)), (7, J ((p + ((bt g (afld τ 17 9)) + u)) - x))] [] s1)) ?_
            refine T.iinc (lv' := [(0, .ref 17), (1, .ref c), (2, J (((bt g (afld τ 17 9)) + u) * 2)), (3, J ((x + (MY L k m)) * 2)), (4, J (p + (MY L k m))), (5, J (k + 1)), (6, J (MY L k m)), (7, J ((p + ((bt g (afld τ 17 9)) + u)) - x))]) rfl rfl rfl rfl ?_
            refine T.go 1 (fun n9 => (rfl : _ = exe ξ n9 d j_U_nextSign 10 [(0, .ref 17), (1, .ref c), (2, J (((bt g (afld τ 17 9)) + u) * 2)), (3, J ((x + (MY L k m)) * 2)), (4, J (p + (MY L k m))), (5, J (k + 1)), (6, J (MY L k m)), (7, J ((p + ((bt g (afld τ 17 9)) + u)) - x))] [] s1)) ?_
            refine T.drop (lv := [(0, .ref 17), (1, .ref c), (2, J (((bt g (afld τ 17 9)) + u) * 2)), (3, J ((x + (MY L k m)) * 2)), (4, J (p + (MY L k m))), (5, J (k + 1))]) [(6, J (MY L k m)), (7, J ((p + ((bt g (afld τ 17 9)) + u)) - x))] (by simp) ?_
            have hU1 : UL s t s1 := ⟨_, _, _, _, _, _, _, _, hcs1, k1, k2, by omega⟩
            have nf1 := af_of (i := 8) hcs1 rfl (by omega)
            have nf2 := af_of (i := 9) hcs1 rfl (by omega)
            have nf3 := af_of (i := 10) hcs1 rfl (by omega)
            have nf4 := af_of (i := 11) hcs1 rfl (by omega)
            exact ih  (((bt g (afld τ 17 9)) + u) * 2) ((x + (MY L k m)) * 2) (p + (MY L k m)) (k + 1) s1 gs1 hU1 (by omega) (by omega) ⟨by omega, by omega, by omega⟩ (by omega) (by omega) (by rw [show (k + 1).toNat = k.toNat + 1 by omega]; omega) (by rw [← i6, SG_miss ⟨i0, by omega⟩ (by omega) i3 i4 (by omega), show (16 - (k + 1)).toNat = (15 - k).toNat by omega, show afld s1 17 9 = afld τ 17 9 + 1 by omega, show (bt g (afld τ 17 9) + u) * 2 / 2 = u + bt g (afld τ 17 9) by omega, show (x + MY L k m) * 2 / 2 = x + MY L k m by omega]) (by omega) (by omega) (by omega) (by omega)
          · refine T.go 1 (fun n9 => (rfl : _ = exe ξ n9 d j_U_nextSign 92 [(0, .ref 17), (1, .ref c), (2, J ((bt g (afld τ 17 9)) + u)), (3, J x), (4, J p), (5, J k), (6, J (MY L k m)), (7, J ((p + ((bt g (afld τ 17 9)) + u)) - x))] [J ((p + ((bt g (afld τ 17 9)) + u)) - x)] s1)) ?_
            refine T.if_lt rfl rfl (by omega) (fun c4 => ?_) (fun c4 => ?_)
            · refine T.go 1 (fun n9 => (rfl : _ = exe ξ n9 d j_U_nextSign 116 [(0, .ref 17), (1, .ref c), (2, J ((bt g (afld τ 17 9)) + u)), (3, J x), (4, J p), (5, J k), (6, J (MY L k m)), (7, J ((p + ((bt g (afld τ 17 9)) + u)) - x))] [J (-1)] s1)) ?_
              have hU2 : UL s t s1 := ⟨_, _, _, _, _, _, _, _, hcs1, k1, k2, by omega⟩
              have nf5 := af_of (i := 8) hcs1 rfl (by omega)
              have nf6 := af_of (i := 9) hcs1 rfl (by omega)
              have nf7 := af_of (i := 10) hcs1 rfl (by omega)
              have nf8 := af_of (i := 11) hcs1 rfl (by omega)
              exact T.ireti rfl rfl ⟨_, rfl, gs1, by omega, by omega, hU2, (by exfalso; first | omega | (have h9 := hd2.2.2; rw [ilx4] at h9; omega)), (fun h => absurd h (by omega)), by omega⟩
            · refine T.go 2 (fun n9 => (rfl : _ = exe ξ n9 d j_U_nextSign 98 [(0, .ref 17), (1, .ref c), (2, J ((bt g (afld τ 17 9)) + u)), (3, J x), (4, J p), (5, J k), (6, J (MY L k m)), (7, J ((p + ((bt g (afld τ 17 9)) + u)) - x))] [.ref c, J ((p + ((bt g (afld τ 17 9)) + u)) - x)] s1)) ?_
              refine T.get rfl rfl rfl hcx2 rfl ?_
              obtain ⟨qx4, kqx4, lqx4⟩ := (kdX_cd _ hc).2.2.2
              obtain ⟨lx4, hix4, elx4⟩ := hs1.1.ints kqx4
              have ilx4 := il_of hix4
              refine T.ilen rfl (blt_f (by omega)) hix4 ?_
              refine T.icmp_ge rfl rfl (by omega) (by omega) (fun c5 => ?_) (fun c5 => ?_)
              · refine T.go 1 (fun n9 => (rfl : _ = exe ξ n9 d j_U_nextSign 116 [(0, .ref 17), (1, .ref c), (2, J ((bt g (afld τ 17 9)) + u)), (3, J x), (4, J p), (5, J k), (6, J (MY L k m)), (7, J ((p + ((bt g (afld τ 17 9)) + u)) - x))] [J (-1)] s1)) ?_
                have hU3 : UL s t s1 := ⟨_, _, _, _, _, _, _, _, hcs1, k1, k2, by omega⟩
                have nf9 := af_of (i := 8) hcs1 rfl (by omega)
                have nf10 := af_of (i := 9) hcs1 rfl (by omega)
                have nf11 := af_of (i := 10) hcs1 rfl (by omega)
                have nf12 := af_of (i := 11) hcs1 rfl (by omega)
                exact T.ireti rfl rfl ⟨_, rfl, gs1, by omega, by omega, hU3, (by exfalso; first | omega | (have h9 := hd2.2.2; rw [ilx4] at h9; omega)), (fun h => absurd h (by omega)), by omega⟩
              · refine T.go 1 (fun n9 => (rfl : _ = exe ξ n9 d j_U_nextSign 106 [(0, .ref 17), (1, .ref c), (2, J ((bt g (afld τ 17 9)) + u)), (3, J x), (4, J p), (5, J k), (6, J (MY L k m)), (7, J ((p + ((bt g (afld τ 17 9)) + u)) - x))] [.ref c] s1)) ?_
                refine T.get rfl rfl rfl hcx2 rfl ?_
                refine T.go 1 (fun n9 => (rfl : _ = exe ξ n9 d j_U_nextSign 111 [(0, .ref 17), (1, .ref c), (2, J ((bt g (afld τ 17 9)) + u)), (3, J x), (4, J p), (5, J k), (6, J (MY L k m)), (7, J ((p + ((bt g (afld τ 17 9)) + u)) - x))] [J ((p + ((bt g (afld τ 17 9)) + u)) - x), .ref (c + 3)] s1)) ?_
                refine T.iald rfl (blt_f (by omega)) hix4 (by omega) (fun z10 hzz10 hyz10 hez10 => ?_)
                have glz10 : gl (il s1 (c + 3)) ((p + ((bt g (afld τ 17 9)) + u)) - x) = z10 := by rw [ilx4]; exact gl_of hez10 ⟨hzz10, hyz10⟩
                subst glz10
                have sg9 := hd2.2.1 k (u + bt g (afld τ 17 9) - x) i0 (by omega) (by omega) (by omega)
                have sg8 : gl (il s1 (c + 3)) ((p + ((bt g (afld τ 17 9)) + u)) - x) = PK L k (u + bt g (afld τ 17 9) - x) m := by rw [show (p + ((bt g (afld τ 17 9)) + u)) - x = PL L m k.toNat + (u + bt g (afld τ 17 9) - x) by omega]; exact sg9
                rw [sg8]
                have pk9 := PK_some L k (u + bt g (afld τ 17 9) - x) m (by omega) (by omega)
                refine T.go 1 (fun n9 => (rfl : _ = exe ξ n9 d j_U_nextSign 116 [(0, .ref 17), (1, .ref c), (2, J ((bt g (afld τ 17 9)) + u)), (3, J x), (4, J p), (5, J k), (6, J (MY L k m)), (7, J ((p + ((bt g (afld τ 17 9)) + u)) - x))] [J (PK L k (u + bt g (afld τ 17 9) - x) m)] s1)) ?_
                have hU4 : UL s t s1 := ⟨_, _, _, _, _, _, _, _, hcs1, k1, k2, by omega⟩
                have nf13 := af_of (i := 8) hcs1 rfl (by omega)
                have nf14 := af_of (i := 9) hcs1 rfl (by omega)
                have nf15 := af_of (i := 10) hcs1 rfl (by omega)
                have nf16 := af_of (i := 11) hcs1 rfl (by omega)
                exact T.ireti rfl rfl ⟨_, rfl, gs1, by omega, by omega, hU4, (by rw [← i6, SG_hit ⟨i0, by omega⟩ (by omega) i3 i4 (by omega)]), (fun _ => by rw [← i6, SG_hit ⟨i0, by omega⟩ (by omega) i3 i4 (by omega)]; show afld s1 17 9 = afld τ 17 9 + 1; omega), by omega⟩
  refine T.go 8 (fun n9 => (rfl : _ = exe ξ n9 d j_U_nextSign 10 [(0, .ref 17), (1, .ref c), (2, J 0), (3, J 0), (4, J 0), (5, J 1)] [] σ)) ?_
  exact loop10 _ 0 0 0 1 σ (Fr.refl hK) hU (by omega) (by omega) ⟨by omega, by omega, by decide⟩ (by omega) (by omega) rfl rfl (by omega) (by omega) (by omega) (Nat.lt_succ_self _)
