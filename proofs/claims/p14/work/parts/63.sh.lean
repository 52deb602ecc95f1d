/-! The model: type, number, find. -/
theorem EQ2_g {r o u : Int → Int} {a b s : Int} : ∀ {n : Nat}, (∀ i : Int, 0 ≤ i → i < n → r (a + i) = o (b + i)) → EQ2 r u a s n = EQ2 o u b s n
  | 0, _ => rfl
  | n + 1, h => by
    show (if EQ2 r u a s n = 1 ∧ r (a + n) = u (s + n) then (1 : Int) else 0) = if EQ2 o u b s n = 1 ∧ o (b + n) = u (s + n) then 1 else 0
    rw [EQ2_g (n := n) (fun i a b => h i a (by omega)), h n (by omega) (by omega)]
theorem ARY_lk {g r u : Int → Int} {f x fr en n z : Int} {lm lh ld : List Int32} (h : ARY g f lm x r fr lh ld en) (hg : B255 g) (h0 : 0 ≤ x) (hn : 0 ≤ n) (he : 0 ≤ en) (hz : z = LK r u (gl lh) 0 n en.toNat) : ∃ (o : Int → Int) (fo : Int), ARX g f lm x o fo ∧ FOn o fo = 1 ∧ (z ≠ -1 → NMD o fo u 0 n z) ∧ (z = -1 → NNM o fo u 0 n) := by
  obtain ⟨o, fo, a1, a2, a3, a4, a5, a6⟩ := id h
  have ho := ARX_255 hg h0 a1
  have key : ∀ y : Int, 0 ≤ y → y < en → (W2 r (gl lh y + 28) = n ∧ EQ2 r u (gl lh y + 46) 0 n.toNat = 1 ↔ W2 o (Hj o fo y + 28) = n ∧ EQ2 o u (Hj o fo y + 46) 0 n.toNat = 1) := fun y y0 y1 => by
    have e := (a6 y y0 y1).1
    have b := (FO_ent ho a4).2 y y0 (by omega)
    have w := W2_r ho (Hj o fo y + 28)
    have e1 : W2 r (gl lh y + 28) = W2 o (Hj o fo y + 28) := by
      rw [e]
      exact W2_c a3 (by omega) (by omega)
    rw [e1]
    constructor
    · rintro ⟨c1, c2⟩
      refine ⟨c1, ?_⟩
      rw [← EQ2_g (r := r) (a := gl lh y + 46) (fun i i0 i1 => by rw [e]; exact a3 _ (by omega) (by omega))]
      exact c2
    · rintro ⟨c1, c2⟩
      refine ⟨c1, ?_⟩
      rw [EQ2_g (o := o) (b := Hj o fo y + 46) (fun i i0 i1 => by rw [e]; exact a3 _ (by omega) (by omega))]
      exact c2
  refine ⟨o, fo, a1, a4, fun q => ?_, fun q y k => ?_⟩
  · rw [hz] at q
    have k := LK_is q
    rw [← hz] at k
    have k2 := (key z k.1 (by omega)).mp k.2.2
    exact ⟨k.1, by omega, k2.1, k2.2⟩
  · rw [hz] at q
    exact LK_no q y k.1 (by have := k.2.1; omega) ((key y k.1 (by have := k.2.1; omega)).mpr k.2.2)
/-- what number answers -/
def NBV (g : Int → Int) (f : Int) (lm : List Int32) (io mo : Int) (u : Int → Int) (n x z : Int) : Prop := (io = 1 ∧ 0 ≤ x ∧ x ≤ mo) ∧ ∃ (o : Int → Int) (fo : Int), ARX g f lm x o fo ∧ FOn o fo = 1 ∧ (z ≠ -1 → NMD o fo u 0 n z) ∧ (z = -1 → NNM o fo u 0 n)

set_option maxHeartbeats 4000000 in
theorem s_M_etype {ξ : Nat → Option (Nat × List Int32)} {c io mo fa pl ns rw en wy wh bi ed sz md bd li wk we : Int} {Lc : List Int64} {la lm ln lh ld lk lt : List Int32} (d : Nat) (x : Int) (σ : qH) (hM : MS σ c io mo fa pl ns rw en wy wh bi ed sz md bd li wk we Lc la lm ln lh ld lk lt) (rx : -9223372036854775808 ≤ x ∧ x ≤ 9223372036854775807) : T ξ (d + 10) j_M_type 0 (lv_args 0 [.ref 137, JL x]) [] σ (fun v σ' => ∃ (z : Int) (c1 : Int) (ns1 : Int) (ln1 : List Int32), v = some (J z) ∧ MS σ' c1 io mo fa pl ns1 rw en wy wh bi ed sz md bd li wk we Lc la lm ln1 lh ld lk lt ∧ FM σ σ' ∧ 0 ≤ z ∧ z ≤ 1 ∧ z = TYv x ns ∧ (z = 0 → ns1 = ns) ∧ (z = 1 → ns1 = ns + CW x 8) ∧ (z = 1 → ∀ j : Int, 0 ≤ j → gl ln1 j = TYA (gl ln) ns x 8 j) ∧ (z = 0 → ln1 = ln)) := by
  have r0 := hM.rg
  have n0 := hM.len
  have cw8 := CW_r x 8
  have loop75 : ∀ (f75 : Nat) (n : Int) (k : Int) (c9 : Int) (ns9 : Int) (ln9 : List Int32) (τ : qH), MS τ c9 io mo fa pl ns9 rw en wy wh bi ed sz md bd li wk we Lc la lm ln9 lh ld lk lt → FM σ τ → -8 ≤ k → k ≤ 56 → k % 8 = 0 → ns9 + CW x ((k + 8) / 8).toNat = ns + CW x 8 → ns + CW x 8 ≤ 40 → AOK x 8 = 1 → (∀ j : Int, 0 ≤ j → gl ln9 j = TYA (gl ln) ns x ((56 - k) / 8).toNat j) → (k + 8).toNat < f75 → T ξ (d + 10) j_M_type 75 [(0, .ref 137), (1, JL x), (3, J n), (4, J k)] [] τ (fun v σ' => ∃ (z : Int) (c1 : Int) (ns1 : Int) (ln1 : List Int32), v = some (J z) ∧ MS σ' c1 io mo fa pl ns1 rw en wy wh bi ed sz md bd li wk we Lc la lm ln1 lh ld lk lt ∧ FM σ σ' ∧ 0 ≤ z ∧ z ≤ 1 ∧ z = TYv x ns ∧ (z = 0 → ns1 = ns) ∧ (z = 1 → ns1 = ns + CW x 8) ∧ (z = 1 → ∀ j : Int, 0 ≤ j → gl ln1 j = TYA (gl ln) ns x 8 j) ∧ (z = 0 → ln1 = ln)) := by
    intro f75
    induction f75 with
    | zero => intro n k c9 ns9 ln9 τ mτ fτ i0 i1 i2 i3 i4 i5 i6 hm75; omega
    | succ f75 ih75 =>
      intro n k c9 ns9 ln9 τ mτ fτ i0 i1 i2 i3 i4 i5 i6 hm75
      have rτ := mτ.rg
      have nτ := mτ.len
      refine T.go 1 (fun n9 => (rfl : _ = exe ξ n9 (d + 10) j_M_type 77 [(0, .ref 137), (1, JL x), (3, J n), (4, J k)] [J k] τ)) ?_
      refine T.if_lt rfl rfl (by omega) (fun c1 => ?_) (fun c1 => ?_)
      · refine T.go 1 (fun n9 => (rfl : _ = exe ξ n9 (d + 10) j_M_type 127 [(0, .ref 137), (1, JL x), (3, J n), (4, J k)] [J 1] τ)) ?_
        exact T.iretz rfl rfl (by omega) ⟨_, c9, ns9, ln9, rfl, mτ, fτ, by omega, by omega, (by unfold TYv; rw [if_pos ⟨by omega, by omega⟩]), by omega, (fun q => by have c9 : CW x ((k + 8) / 8).toNat = 0 := (by rw [show ((k + 8) / 8).toNat = 0 by omega]; rfl); omega), (fun _ j hj => by have a9 := i6 j hj; rw [show ((56 - k) / 8).toNat = 8 by omega] at a9; exact a9), (fun q => absurd q (by decide))⟩
      · refine T.go 2 (fun n9 => (rfl : _ = exe ξ n9 (d + 10) j_M_type 83 [(0, .ref 137), (1, JL x), (3, J n), (4, J k)] [J k, JL x] τ)) ?_
        refine T.lshrp rfl (by omega) (by omega) ?_
        refine T.l2i rfl ?_
        refine T.go 1 (fun n9 => (rfl : _ = exe ξ n9 (d + 10) j_M_type 88 [(0, .ref 137), (1, JL x), (3, J n), (4, J k)] [J 255, J (x / P2 k)] τ)) ?_
        refine T.iandw rfl ?_
        refine T.go 2 (fun n9 => (rfl : _ = exe ξ n9 (d + 10) j_M_type 93 [(0, .ref 137), (1, JL x), (3, J n), (4, J k), (5, J ((x / P2 k) % 256))] [J ((x / P2 k) % 256)] τ)) ?_
        refine T.if_ne rfl rfl (by omega) (fun c2 => ?_) (fun c2 => ?_)
        · refine T.go 1 (fun n9 => (rfl : _ = exe ξ n9 (d + 10) j_M_type 100 [(0, .ref 137), (1, JL x), (3, J n), (4, J k), (5, J ((x / P2 k) % 256))] [.ref 137] τ)) ?_
          refine T.get rfl rfl rfl mτ.ob rfl ?_
          refine T.go 1 (fun n9 => (rfl : _ = exe ξ n9 (d + 10) j_M_type 104 [(0, .ref 137), (1, JL x), (3, J n), (4, J k), (5, J ((x / P2 k) % 256))] [.ref 137, .ref 141] τ)) ?_
          refine T.get rfl rfl rfl mτ.ob rfl ?_
          refine T.go 1 (fun n9 => (rfl : _ = exe ξ n9 (d + 10) j_M_type 109 [(0, .ref 137), (1, JL x), (3, J n), (4, J k), (5, J ((x / P2 k) % 256))] [J ((x / P2 k) % 256), J ns9, .ref 141] τ)) ?_
          have e8 := CW_n (x := x) (k := k) (by omega) (by omega) (by omega)
          have e7 := CW_r x ((k + (-8) + 8) / 8).toNat
          refine T.mast141 mτ rfl (by omega) (fun s1 ms1 fs1 => ?_)
          have ns1 := ms1.len
          have gs1 := fτ.trans fs1
          have gss1 : ∀ j : Int, 0 ≤ j → gl (ln9.set (ns9 : Int).toNat (Int32.ofInt ((x / P2 k) % 256))) j = if j = ns9 then (x / P2 k) % 256 else gl ln9 j := fun j hj => gl_set ⟨by omega, by omega⟩ ⟨by omega, by omega⟩ hj
          have ges1 : gl (ln9.set (ns9 : Int).toNat (Int32.ofInt ((x / P2 k) % 256))) ns9 = (x / P2 k) % 256 := (gss1 ns9 (by omega)).trans (if_pos rfl)
          refine T.go 2 (fun n9 => (rfl : _ = exe ξ n9 (d + 10) j_M_type 112 [(0, .ref 137), (1, JL x), (3, J n), (4, J k), (5, J ((x / P2 k) % 256))] [.ref 137, .ref 137] s1)) ?_
          refine T.get rfl rfl rfl ms1.ob rfl ?_
          refine T.go 1 (fun n9 => (rfl : _ = exe ξ n9 (d + 10) j_M_type 116 [(0, .ref 137), (1, JL x), (3, J n), (4, J k), (5, J ((x / P2 k) % 256))] [J 1, J ns9, .ref 137] s1)) ?_
          refine T.iadd rfl ?_
          refine T.mput (c' := c9) (io' := io) (mo' := mo) (fa' := fa) (pl' := pl) (ns' := ns9 + 1) (rw' := rw) (en' := en) (wy' := wy) (wh' := wh) (bi' := bi) (ed' := ed) (sz' := sz) (md' := md) (bd' := bd) (li' := li) (wk' := wk) (we' := we) ms1 rfl rfl rfl rfl rfl rfl (by omega) (fun s2 ms2 fs2 => ?_)
          have gs2 := gs1.trans fs2
          refine T.iinc (lv' := [(0, .ref 137), (1, JL x), (3, J n), (4, J (k + (-8))), (5, J ((x / P2 k) % 256))]) rfl rfl rfl rfl ?_
          refine T.go 1 (fun n9 => (rfl : _ = exe ξ n9 (d + 10) j_M_type 75 [(0, .ref 137), (1, JL x), (3, J n), (4, J (k + (-8))), (5, J ((x / P2 k) % 256))] [] s2)) ?_
          refine T.drop (lv := [(0, .ref 137), (1, JL x), (3, J n), (4, J (k + (-8)))]) [(5, J ((x / P2 k) % 256))] (by simp) ?_
          exact ih75  n (k + (-8)) c9 (ns9 + 1) (ln9.set (ns9 : Int).toNat (Int32.ofInt ((x / P2 k) % 256))) s2 ms2 gs2 (by omega) (by omega) (by omega) (by first | (have e9 := CW_z (x := x) (k := k) (by omega) (by omega) (by omega); omega) | (have e9 := CW_n (x := x) (k := k) (by omega) (by omega) (by omega); have e8 := CW_r x ((k + (-8) + 8) / 8).toNat; omega)) (by omega) i5 (fun j hj => by rw [TYA_n (m := ns9) (by omega) (by omega) (by omega) i3 rfl, gss1 j hj]; unfold updG; rw [i6 j hj]) (by omega)
        · refine T.go 1 (fun n9 => (rfl : _ = exe ξ n9 (d + 10) j_M_type 120 [(0, .ref 137), (1, JL x), (3, J n), (4, J k), (5, J ((x / P2 k) % 256))] [] τ)) ?_
          refine T.iinc (lv' := [(0, .ref 137), (1, JL x), (3, J n), (4, J (k + (-8))), (5, J ((x / P2 k) % 256))]) rfl rfl rfl rfl ?_
          refine T.go 1 (fun n9 => (rfl : _ = exe ξ n9 (d + 10) j_M_type 75 [(0, .ref 137), (1, JL x), (3, J n), (4, J (k + (-8))), (5, J ((x / P2 k) % 256))] [] τ)) ?_
          refine T.drop (lv := [(0, .ref 137), (1, JL x), (3, J n), (4, J (k + (-8)))]) [(5, J ((x / P2 k) % 256))] (by simp) ?_
          exact ih75  n (k + (-8)) c9 ns9 ln9 τ mτ fτ (by omega) (by omega) (by omega) (by first | (have e9 := CW_z (x := x) (k := k) (by omega) (by omega) (by omega); omega) | (have e9 := CW_n (x := x) (k := k) (by omega) (by omega) (by omega); have e8 := CW_r x ((k + (-8) + 8) / 8).toNat; omega)) (by omega) i5 (fun j hj => by rw [TYA_z (by omega) (by omega) (by omega)]; exact i6 j hj) (by omega)
  have loop11 : ∀ (f11 : Nat) (n : Int) (k : Int) (c9 : Int) (τ : qH), MS τ c9 io mo fa pl ns rw en wy wh bi ed sz md bd li wk we Lc la lm ln lh ld lk lt → FM σ τ → 0 ≤ n → n ≤ 8 → -8 ≤ k → k ≤ 56 → k % 8 = 0 → n + CW x ((k + 8) / 8).toNat = CW x 8 → AOK x ((56 - k) / 8).toNat = 1 → (k + 8).toNat < f11 → T ξ (d + 10) j_M_type 11 [(0, .ref 137), (1, JL x), (3, J n), (4, J k)] [] τ (fun v σ' => ∃ (z : Int) (c1 : Int) (ns1 : Int) (ln1 : List Int32), v = some (J z) ∧ MS σ' c1 io mo fa pl ns1 rw en wy wh bi ed sz md bd li wk we Lc la lm ln1 lh ld lk lt ∧ FM σ σ' ∧ 0 ≤ z ∧ z ≤ 1 ∧ z = TYv x ns ∧ (z = 0 → ns1 = ns) ∧ (z = 1 → ns1 = ns + CW x 8) ∧ (z = 1 → ∀ j : Int, 0 ≤ j → gl ln1 j = TYA (gl ln) ns x 8 j) ∧ (z = 0 → ln1 = ln)) := by
    intro f11
    induction f11 with
    | zero => intro n k c9 τ mτ fτ i0 i1 i2 i3 i4 i5 i6 hm11; omega
    | succ f11 ih11 =>
      intro n k c9 τ mτ fτ i0 i1 i2 i3 i4 i5 i6 hm11
      have rτ := mτ.rg
      have nτ := mτ.len
      refine T.go 1 (fun n9 => (rfl : _ = exe ξ n9 (d + 10) j_M_type 13 [(0, .ref 137), (1, JL x), (3, J n), (4, J k)] [J k] τ)) ?_
      refine T.if_lt rfl rfl (by omega) (fun c3 => ?_) (fun c3 => ?_)
      · refine T.go 1 (fun n9 => (rfl : _ = exe ξ n9 (d + 10) j_M_type 59 [(0, .ref 137), (1, JL x), (3, J n), (4, J k)] [.ref 137] τ)) ?_
        refine T.get rfl rfl rfl mτ.ob rfl ?_
        refine T.go 1 (fun n9 => (rfl : _ = exe ξ n9 (d + 10) j_M_type 63 [(0, .ref 137), (1, JL x), (3, J n), (4, J k)] [J n, J ns] τ)) ?_
        refine T.iadd rfl ?_
        refine T.go 1 (fun n9 => (rfl : _ = exe ξ n9 (d + 10) j_M_type 66 [(0, .ref 137), (1, JL x), (3, J n), (4, J k)] [J 40, J (ns + n)] τ)) ?_
        refine T.icmp_le rfl rfl (by omega) (by omega) (fun c4 => ?_) (fun c4 => ?_)
        · refine T.go 2 (fun n9 => (rfl : _ = exe ξ n9 (d + 10) j_M_type 75 [(0, .ref 137), (1, JL x), (3, J n), (4, J 56)] [] τ)) ?_
          exact loop75 _ n 56 c9 ns ln τ mτ fτ (by omega) (by omega) (by omega) (by rw [show (((56 : Int) + 8) / 8).toNat = 8 by decide] <;> omega) (by have c9 : CW x ((k + 8) / 8).toNat = 0 := (by rw [show ((k + 8) / 8).toNat = 0 by omega]; rfl); omega) (by have a9 := i6; rw [show ((56 - k) / 8).toNat = 8 by omega] at a9; exact a9) (fun j _ => by rw [show (((56 : Int) - 56) / 8).toNat = 0 by decide]; rfl) (Nat.lt_succ_self _)
        · refine T.go 1 (fun n9 => (rfl : _ = exe ξ n9 (d + 10) j_M_type 70 [(0, .ref 137), (1, JL x), (3, J n), (4, J k)] [J 0] τ)) ?_
          exact T.iretz rfl rfl (by omega) ⟨_, c9, ns, ln, rfl, mτ, fτ, by omega, by omega, (by unfold TYv; have c9 : CW x ((k + 8) / 8).toNat = 0 := (by rw [show ((k + 8) / 8).toNat = 0 by omega]; rfl); rw [if_neg (by omega)]), by omega, (fun q => by omega), (fun q => absurd q (by decide)), (fun _ => rfl)⟩
      · refine T.go 2 (fun n9 => (rfl : _ = exe ξ n9 (d + 10) j_M_type 19 [(0, .ref 137), (1, JL x), (3, J n), (4, J k)] [J k, JL x] τ)) ?_
        refine T.lshrp rfl (by omega) (by omega) ?_
        refine T.l2i rfl ?_
        refine T.go 1 (fun n9 => (rfl : _ = exe ξ n9 (d + 10) j_M_type 24 [(0, .ref 137), (1, JL x), (3, J n), (4, J k)] [J 255, J (x / P2 k)] τ)) ?_
        refine T.iandw rfl ?_
        refine T.go 2 (fun n9 => (rfl : _ = exe ξ n9 (d + 10) j_M_type 29 [(0, .ref 137), (1, JL x), (3, J n), (4, J k), (5, J ((x / P2 k) % 256))] [J ((x / P2 k) % 256)] τ)) ?_
        refine T.if_ne rfl rfl (by omega) (fun c5 => ?_) (fun c5 => ?_)
        · refine T.go 3 (fun n9 => (rfl : _ = exe ξ n9 (d + 10) j_M_type 41 [(0, .ref 137), (1, JL x), (3, J n), (4, J k), (5, J ((x / P2 k) % 256))] [J 126, J 33, J ((x / P2 k) % 256)] τ)) ?_
          refine T.calls (as := [J ((x / P2 k) % 256), J 33, J 126]) (r := []) rfl rfl (by decide) rfl rfl (s_M_in (d + 9) ((x / P2 k) % 256) 33 126 τ (by omega) (by omega) (by omega)) (fun v1 s3 hqs3 => ?_)
          obtain ⟨z5, rfl, esz5, hzz5, hyz5, pz5_0, pz5_1⟩ := hqs3
          rw [esz5]
          refine T.if_ne rfl rfl (by omega) (fun c6 => ?_) (fun c6 => ?_)
          · refine T.iinc (lv' := [(0, .ref 137), (1, JL x), (3, J (n + 1)), (4, J k), (5, J ((x / P2 k) % 256))]) rfl rfl rfl rfl ?_
            refine T.iinc (lv' := [(0, .ref 137), (1, JL x), (3, J (n + 1)), (4, J (k + (-8))), (5, J ((x / P2 k) % 256))]) rfl rfl rfl rfl ?_
            refine T.go 1 (fun n9 => (rfl : _ = exe ξ n9 (d + 10) j_M_type 11 [(0, .ref 137), (1, JL x), (3, J (n + 1)), (4, J (k + (-8))), (5, J ((x / P2 k) % 256))] [] τ)) ?_
            refine T.drop (lv := [(0, .ref 137), (1, JL x), (3, J (n + 1)), (4, J (k + (-8)))]) [(5, J ((x / P2 k) % 256))] (by simp) ?_
            exact ih11  (n + 1) (k + (-8)) c9 τ mτ fτ (by omega) (by first | omega | (have e9 := CW_n (x := x) (k := k) (by omega) (by omega) (by omega); have e8 := CW_r x ((k + (-8) + 8) / 8).toNat; omega)) (by omega) (by omega) (by omega) (by first | (have e9 := CW_z (x := x) (k := k) (by omega) (by omega) (by omega); omega) | (have e9 := CW_n (x := x) (k := k) (by omega) (by omega) (by omega); have e8 := CW_r x ((k + (-8) + 8) / 8).toNat; omega)) (AOK_yes (by omega) (by omega) i6 (by omega)) (by omega)
          · refine T.go 1 (fun n9 => (rfl : _ = exe ξ n9 (d + 10) j_M_type 48 [(0, .ref 137), (1, JL x), (3, J n), (4, J k), (5, J ((x / P2 k) % 256))] [J 0] τ)) ?_
            exact T.iretz rfl rfl (by omega) ⟨_, c9, ns, ln, rfl, mτ, fτ, by omega, by omega, (by unfold TYv; rw [if_neg (fun q => by have := AOK_bad (x := x) (k := k) (by omega) (by omega) (by omega); omega)]), by omega, (fun q => by omega), (fun q => absurd q (by decide)), (fun _ => rfl)⟩
        · refine T.go 1 (fun n9 => (rfl : _ = exe ξ n9 (d + 10) j_M_type 52 [(0, .ref 137), (1, JL x), (3, J n), (4, J k), (5, J ((x / P2 k) % 256))] [] τ)) ?_
          refine T.iinc (lv' := [(0, .ref 137), (1, JL x), (3, J n), (4, J (k + (-8))), (5, J ((x / P2 k) % 256))]) rfl rfl rfl rfl ?_
          refine T.go 1 (fun n9 => (rfl : _ = exe ξ n9 (d + 10) j_M_type 11 [(0, .ref 137), (1, JL x), (3, J n), (4, J (k + (-8))), (5, J ((x / P2 k) % 256))] [] τ)) ?_
          refine T.drop (lv := [(0, .ref 137), (1, JL x), (3, J n), (4, J (k + (-8)))]) [(5, J ((x / P2 k) % 256))] (by simp) ?_
          exact ih11  n (k + (-8)) c9 τ mτ fτ (by omega) (by first | omega | (have e9 := CW_n (x := x) (k := k) (by omega) (by omega) (by omega); have e8 := CW_r x ((k + (-8) + 8) / 8).toNat; omega)) (by omega) (by omega) (by omega) (by first | (have e9 := CW_z (x := x) (k := k) (by omega) (by omega) (by omega); omega) | (have e9 := CW_n (x := x) (k := k) (by omega) (by omega) (by omega); have e8 := CW_r x ((k + (-8) + 8) / 8).toNat; omega)) (AOK_yes (by omega) (by omega) i6 (by omega)) (by omega)
  refine T.go 2 (fun n9 => (rfl : _ = exe ξ n9 (d + 10) j_M_type 2 [(0, .ref 137), (1, JL x)] [J 0, .ref 137] σ)) ?_
  refine T.mput (c' := 0) (io' := io) (mo' := mo) (fa' := fa) (pl' := pl) (ns' := ns) (rw' := rw) (en' := en) (wy' := wy) (wh' := wh) (bi' := bi) (ed' := ed) (sz' := sz) (md' := md) (bd' := bd) (li' := li) (wk' := wk) (we' := we) hM rfl rfl rfl rfl rfl rfl (by omega) (fun s4 ms4 fs4 => ?_)
  refine T.go 4 (fun n9 => (rfl : _ = exe ξ n9 (d + 10) j_M_type 11 [(0, .ref 137), (1, JL x), (3, J 0), (4, J 56)] [] s4)) ?_
  exact loop11 _ 0 56 0 s4 ms4 fs4 (by omega) (by first | omega | (have e9 := CW_n (x := x) (k := k) (by omega) (by omega) (by omega); have e8 := CW_r x ((k + (-8) + 8) / 8).toNat; omega)) (by omega) (by omega) (by omega) (by rw [show (((56 : Int) + 8) / 8).toNat = 8 by decide] <;> omega) (by rw [show (((56 : Int) - 56) / 8).toNat = 0 by decide]; rfl) (Nat.lt_succ_self _)

set_option maxHeartbeats 4000000 in
theorem s_M_eisNamed {ξ : Nat → Option (Nat × List Int32)} {c io mo fa pl ns rw en wy wh bi ed sz md bd li wk we : Int} {Lc : List Int64} {la lm ln lh ld lk lt : List Int32} (d : Nat) (x : Int) (y : Int) (σ : qH) (hM : MS σ c io mo fa pl ns rw en wy wh bi ed sz md bd li wk we Lc la lm ln lh ld lk lt) (rx : -2147483648 ≤ x ∧ x ≤ 2147483647) (ry : -2147483648 ≤ y ∧ y ≤ 2147483647) (pre0 : 0 ≤ x) (pre1 : x ≤ 63) (pre2 : 0 ≤ y) (pre3 : y ≤ 40) (pre4 : gl lh x ≤ 7932) (pre5 : gl lh x + 46 + W2 (gc Lc rw) (gl lh x + 28) ≤ 8000) : T ξ (d + 3) j_M_isNamed 0 (lv_args 0 [.ref 137, J x, J y]) [] σ (fun v σ' => ∃ (z : Int), v = some (J z) ∧ σ' = σ ∧ 0 ≤ z ∧ z ≤ 1 ∧ (z = 1 → W2 (gc Lc rw) (gl lh x + 28) = y ∧ EQ2 (gc Lc rw) (gl ln) (gl lh x + 46) 0 y.toNat = 1) ∧ (z = 0 → ¬ (W2 (gc Lc rw) (gl lh x + 28) = y ∧ EQ2 (gc Lc rw) (gl ln) (gl lh x + 46) 0 y.toNat = 1))) := by
  have r0 := hM.rg
  have n0 := hM.len
  have loop13 : ∀ (f13 : Nat) (k : Int), 0 ≤ k → k ≤ y → W2 (gc Lc rw) (gl lh x + 28) = y → EQ2 (gc Lc rw) (gl ln) (gl lh x + 46) 0 k.toNat = 1 → (y - k).toNat < f13 → T ξ (d + 3) j_M_isNamed 13 [(0, .ref 137), (1, J x), (2, J y), (3, J k)] [] σ (fun v σ' => ∃ (z : Int), v = some (J z) ∧ σ' = σ ∧ 0 ≤ z ∧ z ≤ 1 ∧ (z = 1 → W2 (gc Lc rw) (gl lh x + 28) = y ∧ EQ2 (gc Lc rw) (gl ln) (gl lh x + 46) 0 y.toNat = 1) ∧ (z = 0 → ¬ (W2 (gc Lc rw) (gl lh x + 28) = y ∧ EQ2 (gc Lc rw) (gl ln) (gl lh x + 46) 0 y.toNat = 1))) := by
    intro f13
    induction f13 with
    | zero => intro k i0 i1 i2 i3 hm13; omega
    | succ f13 ih13 =>
      intro k i0 i1 i2 i3 hm13
      refine T.go 2 (fun n9 => (rfl : _ = exe ξ n9 (d + 3) j_M_isNamed 15 [(0, .ref 137), (1, J x), (2, J y), (3, J k)] [J y, J k] σ)) ?_
      refine T.icmp_ge rfl rfl (by omega) (by omega) (fun c1 => ?_) (fun c1 => ?_)
      · refine T.go 1 (fun n9 => (rfl : _ = exe ξ n9 (d + 3) j_M_isNamed 55 [(0, .ref 137), (1, J x), (2, J y), (3, J k)] [J 1] σ)) ?_
        exact T.iretz rfl rfl (by omega) ⟨_, rfl, rfl, by omega, by omega, (fun _ => ⟨by omega, by rw [show y.toNat = k.toNat by omega]; exact i3⟩), (fun q => absurd q (by decide))⟩
      · refine T.go 2 (fun n9 => (rfl : _ = exe ξ n9 (d + 3) j_M_isNamed 20 [(0, .ref 137), (1, J x), (2, J y), (3, J k)] [.ref 137, .ref 137] σ)) ?_
        refine T.get rfl rfl rfl hM.ob rfl ?_
        refine T.go 1 (fun n9 => (rfl : _ = exe ξ n9 (d + 3) j_M_isNamed 24 [(0, .ref 137), (1, J x), (2, J y), (3, J k)] [.ref 137, J rw, .ref 137] σ)) ?_
        refine T.get rfl rfl rfl hM.ob rfl ?_
        refine T.go 1 (fun n9 => (rfl : _ = exe ξ n9 (d + 3) j_M_isNamed 28 [(0, .ref 137), (1, J x), (2, J y), (3, J k)] [J x, .ref 142, J rw, .ref 137] σ)) ?_
        refine T.iald rfl rfl hM.c142 (by omega) (fun z1 hzz1 hyz1 hez1 => ?_)
        have hbz1 := hM.b142.at hez1 ⟨hzz1, hyz1⟩
        have gzz1 := gl_of hez1 ⟨hzz1, hyz1⟩
        subst gzz1
        refine T.go 1 (fun n9 => (rfl : _ = exe ξ n9 (d + 3) j_M_isNamed 31 [(0, .ref 137), (1, J x), (2, J y), (3, J k)] [J 46, J (gl lh x), J rw, .ref 137] σ)) ?_
        refine T.iadd rfl ?_
        refine T.go 1 (fun n9 => (rfl : _ = exe ξ n9 (d + 3) j_M_isNamed 33 [(0, .ref 137), (1, J x), (2, J y), (3, J k)] [J k, J ((gl lh x) + 46), J rw, .ref 137] σ)) ?_
        refine T.iadd rfl ?_
        refine T.callv (as := [J rw, J (((gl lh x) + 46) + k)]) (r := []) rfl rfl rfl rfl hM.ob rfl (s_M_get (d + 2) rw (((gl lh x) + 46) + k) σ hM (by omega)) (fun v1 s1 hqs1 => ?_)
        obtain ⟨z2, rfl, esz2, hzz2, hyz2, pz2_0⟩ := hqs1
        rw [esz2]
        have gg := gc_at (Lc := Lc) (r := rw) (k := gl lh x + 46 + k) (by omega)
        refine T.go 1 (fun n9 => (rfl : _ = exe ξ n9 (d + 3) j_M_isNamed 38 [(0, .ref 137), (1, J x), (2, J y), (3, J k)] [.ref 137, J z2] σ)) ?_
        refine T.get rfl rfl rfl hM.ob rfl ?_
        refine T.go 1 (fun n9 => (rfl : _ = exe ξ n9 (d + 3) j_M_isNamed 42 [(0, .ref 137), (1, J x), (2, J y), (3, J k)] [J k, .ref 141, J z2] σ)) ?_
        refine T.iald rfl rfl hM.c141 (by omega) (fun z3 hzz3 hyz3 hez3 => ?_)
        have gzz3 := gl_of hez3 ⟨hzz3, hyz3⟩
        subst gzz3
        refine T.icmp_eq rfl rfl (by omega) (by omega) (fun c2 => ?_) (fun c2 => ?_)
        · refine T.iinc (lv' := [(0, .ref 137), (1, J x), (2, J y), (3, J (k + 1))]) rfl rfl rfl rfl ?_
          refine T.go 1 (fun n9 => (rfl : _ = exe ξ n9 (d + 3) j_M_isNamed 13 [(0, .ref 137), (1, J x), (2, J y), (3, J (k + 1))] [] σ)) ?_
          exact ih13  (k + 1)  (by omega) (by omega) (by omega) (by rw [EQ2_step (by omega), if_pos ⟨i3, by rw [Int.zero_add]; omega⟩]) (by omega)
        · refine T.go 1 (fun n9 => (rfl : _ = exe ξ n9 (d + 3) j_M_isNamed 47 [(0, .ref 137), (1, J x), (2, J y), (3, J k)] [J 0] σ)) ?_
          exact T.iretz rfl rfl (by omega) ⟨_, rfl, rfl, by omega, by omega, (fun q => absurd q (by decide)), (fun _ u => by have := EQ2_no (m := (k + 1).toNat) (n := y.toNat) (by rw [EQ2_step (by omega), if_neg (fun q => by have q2 := q.2; rw [Int.zero_add] at q2; omega)] : EQ2 (gc Lc rw) (gl ln) (gl lh x + 46) 0 (k + 1).toNat = 0) (by omega); omega)⟩
  refine T.go 2 (fun n9 => (rfl : _ = exe ξ n9 (d + 3) j_M_isNamed 2 [(0, .ref 137), (1, J x), (2, J y)] [J x, .ref 137] σ)) ?_
  refine T.callv (as := [J x]) (r := []) rfl rfl rfl rfl hM.ob rfl (s_M_nameLength d x σ hM (by omega) (by omega) (by omega)) (fun v2 s2 hqs2 => ?_)
  obtain ⟨z4, rfl, esz4, hzz4, hyz4, pz4_0⟩ := hqs2
  rw [esz4]
  have e5 := pz4_0 (by omega)
  subst e5
  refine T.go 1 (fun n9 => (rfl : _ = exe ξ n9 (d + 3) j_M_isNamed 6 [(0, .ref 137), (1, J x), (2, J y)] [J y, J (W2 (gc Lc rw) (gl lh x + 28))] σ)) ?_
  refine T.icmp_eq rfl rfl (by omega) (by omega) (fun c3 => ?_) (fun c3 => ?_)
  · refine T.go 2 (fun n9 => (rfl : _ = exe ξ n9 (d + 3) j_M_isNamed 13 [(0, .ref 137), (1, J x), (2, J y), (3, J 0)] [] σ)) ?_
    exact loop13 _ 0  (by omega) (by omega) (by omega) rfl (Nat.lt_succ_self _)
  · refine T.go 1 (fun n9 => (rfl : _ = exe ξ n9 (d + 3) j_M_isNamed 10 [(0, .ref 137), (1, J x), (2, J y)] [J 0] σ)) ?_
    exact T.iretz rfl rfl (by omega) ⟨_, rfl, rfl, by omega, by omega, (fun q => absurd q (by decide)), (fun _ u => by omega)⟩

set_option maxHeartbeats 4000000 in
theorem s_M_enamed {ξ : Nat → Option (Nat × List Int32)} {c io mo fa pl ns rw en wy wh bi ed sz md bd li wk we : Int} {Lc : List Int64} {la lm ln lh ld lk lt : List Int32} (d : Nat) (x : Int) (σ : qH) (hM : MS σ c io mo fa pl ns rw en wy wh bi ed sz md bd li wk we Lc la lm ln lh ld lk lt) (rx : -2147483648 ≤ x ∧ x ≤ 2147483647) (pre0 : 0 ≤ x) (pre1 : x ≤ 40) (pre2 : HD (gc Lc rw) lh ld en) : T ξ (d + 4) j_M_named 0 (lv_args 0 [.ref 137, J x]) [] σ (fun v σ' => ∃ (z : Int), v = some (J z) ∧ σ' = σ ∧ -1 ≤ z ∧ z ≤ 64 ∧ z = LK (gc Lc rw) (gl ln) (gl lh) 0 x en.toNat) := by
  have r0 := hM.rg
  have n0 := hM.len
  have loop2 : ∀ (f2 : Nat) (k : Int), 0 ≤ k → k ≤ en → LK (gc Lc rw) (gl ln) (gl lh) 0 x k.toNat = -1 → (en - k).toNat < f2 → T ξ (d + 4) j_M_named 2 [(0, .ref 137), (1, J x), (2, J k)] [] σ (fun v σ' => ∃ (z : Int), v = some (J z) ∧ σ' = σ ∧ -1 ≤ z ∧ z ≤ 64 ∧ z = LK (gc Lc rw) (gl ln) (gl lh) 0 x en.toNat) := by
    intro f2
    induction f2 with
    | zero => intro k i0 i1 i2 hm2; omega
    | succ f2 ih2 =>
      intro k i0 i1 i2 hm2
      refine T.go 2 (fun n9 => (rfl : _ = exe ξ n9 (d + 4) j_M_named 4 [(0, .ref 137), (1, J x), (2, J k)] [.ref 137, J k] σ)) ?_
      refine T.get rfl rfl rfl hM.ob rfl ?_
      refine T.icmp_ge rfl rfl (by omega) (by omega) (fun c1 => ?_) (fun c1 => ?_)
      · refine T.go 1 (fun n9 => (rfl : _ = exe ξ n9 (d + 4) j_M_named 28 [(0, .ref 137), (1, J x), (2, J k)] [J (-1)] σ)) ?_
        exact T.ireti rfl rfl ⟨_, rfl, rfl, by omega, by omega, (by rw [show en.toNat = k.toNat by omega]; exact i2.symm)⟩
      · refine T.go 3 (fun n9 => (rfl : _ = exe ξ n9 (d + 4) j_M_named 13 [(0, .ref 137), (1, J x), (2, J k)] [J x, J k, .ref 137] σ)) ?_
        have hdk := pre2 k (by omega) (by omega)
        refine T.callv (as := [J k, J x]) (r := []) rfl rfl rfl rfl hM.ob rfl (s_M_eisNamed d k x σ hM (by omega) (by omega) (by omega) (by omega) (by omega) (by omega) (by omega) (by omega)) (fun v1 s1 hqs1 => ?_)
        obtain ⟨z1, rfl, esz1, hzz1, hyz1, pz1_0, pz1_1⟩ := hqs1
        rw [esz1]
        refine T.if_eq rfl rfl (by omega) (fun c2 => ?_) (fun c2 => ?_)
        · refine T.iinc (lv' := [(0, .ref 137), (1, J x), (2, J (k + 1))]) rfl rfl rfl rfl ?_
          refine T.go 1 (fun n9 => (rfl : _ = exe ξ n9 (d + 4) j_M_named 2 [(0, .ref 137), (1, J x), (2, J (k + 1))] [] σ)) ?_
          exact ih2  (k + 1)  (by omega) (by omega) (by rw [LK_step (by omega), if_neg (fun q => q i2), if_neg (pz1_1 (by omega))]) (by omega)
        · refine T.go 1 (fun n9 => (rfl : _ = exe ξ n9 (d + 4) j_M_named 20 [(0, .ref 137), (1, J x), (2, J k)] [J k] σ)) ?_
          exact T.ireti rfl rfl ⟨_, rfl, rfl, by omega, by omega, (LK_yes (m := (k + 1).toNat) (by rw [LK_step (by omega), if_neg (fun q => q i2), if_pos (pz1_0 (by omega))]) (by omega) (by omega)).symm⟩
  refine T.go 2 (fun n9 => (rfl : _ = exe ξ n9 (d + 4) j_M_named 2 [(0, .ref 137), (1, J x), (2, J 0)] [] σ)) ?_
  exact loop2 _ 0  (by omega) (by omega) rfl (Nat.lt_succ_self _)

set_option maxHeartbeats 4000000 in
theorem s_M_eusedName {ξ : Nat → Option (Nat × List Int32)} {c io mo fa pl ns rw en wy wh bi ed sz md bd li wk we : Int} {Lc : List Int64} {la lm ln lh ld lk lt : List Int32} (d : Nat)  (σ : qH) (hM : MS σ c io mo fa pl ns rw en wy wh bi ed sz md bd li wk we Lc la lm ln lh ld lk lt)  : T ξ d j_M_usedName 0 (lv_args 0 [.ref 137]) [] σ (fun v σ' => ∃ (z : Int) (ns1 : Int), v = some (J z) ∧ MS σ' c io mo fa pl ns1 rw en wy wh bi ed sz md bd li wk we Lc la lm ln lh ld lk lt ∧ FM σ σ' ∧ 0 ≤ z ∧ z ≤ 40 ∧ ns1 = 0 ∧ z = ns) := by
  have r0 := hM.rg
  have n0 := hM.len
  refine T.go 1 (fun n9 => (rfl : _ = exe ξ n9 d j_M_usedName 1 [(0, .ref 137)] [.ref 137] σ)) ?_
  refine T.get rfl rfl rfl hM.ob rfl ?_
  refine T.go 3 (fun n9 => (rfl : _ = exe ξ n9 d j_M_usedName 7 [(0, .ref 137), (1, J ns)] [J 0, .ref 137] σ)) ?_
  refine T.mput (c' := c) (io' := io) (mo' := mo) (fa' := fa) (pl' := pl) (ns' := 0) (rw' := rw) (en' := en) (wy' := wy) (wh' := wh) (bi' := bi) (ed' := ed) (sz' := sz) (md' := md) (bd' := bd) (li' := li) (wk' := wk) (we' := we) hM rfl rfl rfl rfl rfl rfl (by omega) (fun s1 ms1 fs1 => ?_)
  refine T.go 1 (fun n9 => (rfl : _ = exe ξ n9 d j_M_usedName 11 [(0, .ref 137), (1, J ns)] [J ns] s1)) ?_
  exact T.ireti rfl rfl ⟨_, 0, rfl, ms1, fs1, by omega, by omega, by omega, by omega⟩
