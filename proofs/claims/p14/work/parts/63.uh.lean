/-! The manifest: the class, lines closed. -/
/-- the row that has the name asked for -/
def msk (σ : qH) : Option Value := match (σ[41]? : Option qC) with
  | some (.inl (_, fs)) => fs[5]?
  | _ => none
theorem msk_of {σ : qH} {ci : Nat} {fs : List Value} (h : σ[41]? = some (.inl (ci, fs))) : msk σ = fs[5]? := by
  unfold msk
  rw [h]
/-- the places of the names that are known -/
def KNP (σ : qH) : Prop := ∀ j : Int, 0 ≤ j → j < afld σ 41 3 → 0 ≤ gl (il σ 44) j ∧ gl (il σ 44) j + gl (il σ 45) j ≤ rl σ 42
/-- the open line tells l -/
def OPN (σ : qH) (g : Int → Int) (l : List Int) : Prop := 0 ≤ afld σ 41 4 → JLs g (afld σ 41 4) l ∧ afld σ 41 4 + l.length = rl σ 42
theorem NML_0 {l : List Int} {n : Int} (e : (TWn l : Int) = n) (h : n = 0) : NML l = 0 := by
  unfold NML
  split
  · omega
  · rfl
theorem NML_a {l : List Int} {n a : Int} (e : (TWn l : Int) = n) (ha : l.getD n.toNat (-1) = a) (h : a ≠ 58) : NML l = 0 := by
  unfold NML
  rw [show TWn l = n.toNat by omega, ha, if_neg (fun q => h q.1)]
theorem NML_b {l : List Int} {n b : Int} (e : (TWn l : Int) = n) (hb : l.getD (n + 1).toNat (-1) = b) (h : b ≠ 32) : NML l = 0 := by
  unfold NML
  rw [show TWn l + 1 = (n + 1).toNat by omega, hb, if_neg (fun q => h q.2)]
theorem NML_ab {l : List Int} {n a b : Int} (e : (TWn l : Int) = n) (ha : l.getD n.toNat (-1) = a) (hb : l.getD (n + 1).toNat (-1) = b) (h1 : a = 58) (h2 : b = 32) : NML l = n := by
  unfold NML
  rw [show TWn l + 1 = (n + 1).toNat by omega, hb, show l.getD (TWn l) (-1) = a by rw [show TWn l = n.toNat by omega]; exact ha, if_pos ⟨h1, h2⟩]
  exact e
/-- nothing of the manifest has changed -/
def MSM (σ σ' : qH) : Prop := afld σ' 41 3 = afld σ 41 3 ∧ afld σ' 41 4 = afld σ 41 4 ∧ afld σ' 41 6 = afld σ 41 6 ∧ afld σ' 41 7 = afld σ 41 7 ∧ il σ' 44 = il σ 44 ∧ il σ' 45 = il σ 45 ∧ msk σ' = msk σ
/-- the open line is closed -/
def CLS (σ σ' : qH) (g : Int → Int) (l : List Int) (v : Int → Int) (nq : Int) : Prop := (NML l ≠ 0 ∧ NKN g (il σ 44) (il σ 45) (afld σ 41 4) (NML l) (afld σ 41 3)) ∧ afld σ' 41 3 = afld σ 41 3 + 1 ∧ afld σ' 41 4 = afld σ 41 4 ∧ (∀ j : Int, 0 ≤ j → gl (il σ' 44) j = if j = afld σ 41 3 then afld σ 41 4 else gl (il σ 44) j) ∧ (∀ j : Int, 0 ≤ j → gl (il σ' 45) j = if j = afld σ 41 3 then NML l else gl (il σ 45) j) ∧ msk σ' = msk σ ∧ (ASK l v nq → afld σ' 41 6 = afld σ 41 4 + NML l + 2 ∧ afld σ' 41 7 = l.length - NML l - 2) ∧ (¬ ASK l v nq → afld σ' 41 6 = afld σ 41 6 ∧ afld σ' 41 7 = afld σ 41 7)
theorem ASK_f {g v : Int → Int} {s n nq : Int} {l : List Int} (q : JLs g s l) (hn : NML l = n) (hl : n ≤ l.length) (e : n = nq) : SMf g v s 0 n ↔ ASK l v nq := by
  constructor
  · intro m
    refine ⟨hn.trans e, fun i i0 i1 => ?_⟩
    have k := m i i0 (by omega)
    rw [Int.zero_add] at k
    rw [q i.toNat (by omega), show s + (i.toNat : Int) = s + i by omega]
    exact k
  · intro m i i0 i1
    have k := m.2 i i0 (by omega)
    rw [q i.toNat (by omega), show s + (i.toNat : Int) = s + i by omega] at k
    rw [Int.zero_add]
    exact k

set_option maxRecDepth 10000 in
set_option maxHeartbeats 4000000 in
theorem s_F_fisKnown {ξ : Nat → Option (Nat × List Int32)} (d : Nat) (g : Int → Int) (x : Int) (n : Int) (σ : qH) (hK : K σ)  (hg : AGR σ 42 g) (hkp : KNP σ) (rx : -2147483648 ≤ x ∧ x ≤ 2147483647) (rn : -2147483648 ≤ n ∧ n ≤ 2147483647) (pre0 : 0 ≤ x) (pre1 : 0 ≤ n) (pre2 : x + n ≤ rl σ 42) : T ξ (d + 2) j_F_isKnown 0 (lv_args 0 [.ref 41, J x, J n]) [] σ (fun v σ' => ∃ z : Int, v = some (J z) ∧ σ' = σ ∧ 0 ≤ z ∧ z ≤ 1 ∧ (z = 0 → NKN g (il σ 44) (il σ 45) x n (afld σ 41 3)) ∧ (z = 1 → ¬ NKN g (il σ 44) (il σ 45) x n (afld σ 41 3))) := by
  obtain ⟨nx1, osx1, vsx1, vlx1, asx1, hmx1, fx1a, fx1b, fx1c, fx1d, fx1e, fx1f, fx1g, fx1h, fx1i⟩ := hK.man
  have af3x1 := af_of (i := 3) hmx1 rfl (by omega)
  subst af3x1
  have af4x1 := af_of (i := 4) hmx1 rfl (by omega)
  subst af4x1
  have af6x1 := af_of (i := 6) hmx1 rfl (by omega)
  subst af6x1
  have af7x1 := af_of (i := 7) hmx1 rfl (by omega)
  subst af7x1
  obtain ⟨mx2, nx2, bx2, lx2, hrx2, hbx2, fx2a, fx2b, fx2c, fx2d, fx2e, fx2g, fx2h, fx2i⟩ := hK.row (r := 42) (by decide)
  have ctx2 := CT_of hrx2 hbx2
  have rwx2 := rl_of hrx2 (by omega)
  subst rwx2
  obtain ⟨lx3, hix3, elx3⟩ := hK.ints kdX_44
  have ilx3 := il_of hix3
  obtain ⟨lx4, hix4, elx4⟩ := hK.ints kdX_45
  have ilx4 := il_of hix4
  have loop2 : ∀ (f : Nat) (k : Int), 0 ≤ k → k ≤ 2000 → NKN g (il σ 44) (il σ 45) x n k → k ≤ afld σ 41 3 → (2000 - k).toNat < f → T ξ (d + 2) j_F_isKnown 2 [(0, .ref 41), (1, J x), (2, J n), (3, J k)] [] σ (fun v σ' => ∃ z : Int, v = some (J z) ∧ σ' = σ ∧ 0 ≤ z ∧ z ≤ 1 ∧ (z = 0 → NKN g (il σ 44) (il σ 45) x n (afld σ 41 3)) ∧ (z = 1 → ¬ NKN g (il σ 44) (il σ 45) x n (afld σ 41 3))) := by
    intro f
    induction f with
    | zero => intro k i0 i1 i2 i3 hm; omega
    | succ f ih =>
      intro k i0 i1 i2 i3 hm
      refine T.go 2 (fun n9 => (rfl : _ = exe ξ n9 (d + 2) j_F_isKnown 4 [(0, .ref 41), (1, J x), (2, J n), (3, J k)] [.ref 41, J k] σ)) ?_
      refine T.get rfl rfl rfl hmx1 rfl ?_
      refine T.icmp_ge rfl rfl (by omega) (by omega) (fun c1 => ?_) (fun c1 => ?_)
      · refine T.go 1 (fun n9 => (rfl : _ = exe ξ n9 (d + 2) j_F_isKnown 58 [(0, .ref 41), (1, J x), (2, J n), (3, J k)] [J 0] σ)) ?_
        exact T.iretz rfl rfl (by omega) ⟨_, rfl, rfl, by omega, by omega, (fun _ => by rw [show afld σ 41 3 = k by omega]; exact i2), (fun q => absurd q (by decide))⟩
      · refine T.go 2 (fun n9 => (rfl : _ = exe ξ n9 (d + 2) j_F_isKnown 14 [(0, .ref 41), (1, J x), (2, J n), (3, J k)] [J 2000, J k] σ)) ?_
        refine T.icmp_ge rfl rfl (by omega) (by omega) (fun c2 => ?_) (fun c2 => ?_)
        · refine T.go 1 (fun n9 => (rfl : _ = exe ξ n9 (d + 2) j_F_isKnown 58 [(0, .ref 41), (1, J x), (2, J n), (3, J k)] [J 0] σ)) ?_
          exact T.iretz rfl rfl (by omega) ⟨_, rfl, rfl, by omega, by omega, (fun _ => by rw [show afld σ 41 3 = k by omega]; exact i2), (fun q => absurd q (by decide))⟩
        · refine T.go 1 (fun n9 => (rfl : _ = exe ξ n9 (d + 2) j_F_isKnown 18 [(0, .ref 41), (1, J x), (2, J n), (3, J k)] [.ref 41] σ)) ?_
          refine T.get rfl rfl rfl hmx1 rfl ?_
          refine T.go 1 (fun n9 => (rfl : _ = exe ξ n9 (d + 2) j_F_isKnown 22 [(0, .ref 41), (1, J x), (2, J n), (3, J k)] [J k, .ref 45] σ)) ?_
          refine T.iald rfl rfl hix4 (by omega) (fun z1 hzz1 hyz1 hez1 => ?_)
          have glz1 : gl (il σ 45) k = z1 := by rw [ilx4]; exact gl_of hez1 ⟨hzz1, hyz1⟩
          subst glz1
          refine T.go 1 (fun n9 => (rfl : _ = exe ξ n9 (d + 2) j_F_isKnown 24 [(0, .ref 41), (1, J x), (2, J n), (3, J k)] [J n, J (gl (il σ 45) k)] σ)) ?_
          refine T.icmp_ne rfl rfl (by omega) (by omega) (fun c3 => ?_) (fun c3 => ?_)
          · refine T.iinc (lv' := [(0, .ref 41), (1, J x), (2, J n), (3, J (k + 1))]) rfl rfl rfl rfl ?_
            refine T.go 1 (fun n9 => (rfl : _ = exe ξ n9 (d + 2) j_F_isKnown 2 [(0, .ref 41), (1, J x), (2, J n), (3, J (k + 1))] [] σ)) ?_
            exact ih  (k + 1) (by omega) (by omega) (NKN_s i2 (fun q => by first | exact pq_1 (by omega) q.2 | (have q1 := q.1; omega))) (by omega) (by omega)
          · refine T.go 1 (fun n9 => (rfl : _ = exe ξ n9 (d + 2) j_F_isKnown 28 [(0, .ref 41), (1, J x), (2, J n), (3, J k)] [.ref 41] σ)) ?_
            refine T.get rfl rfl rfl hmx1 rfl ?_
            refine T.go 1 (fun n9 => (rfl : _ = exe ξ n9 (d + 2) j_F_isKnown 32 [(0, .ref 41), (1, J x), (2, J n), (3, J k)] [.ref 41, .ref 42] σ)) ?_
            refine T.get rfl rfl rfl hmx1 rfl ?_
            refine T.go 1 (fun n9 => (rfl : _ = exe ξ n9 (d + 2) j_F_isKnown 36 [(0, .ref 41), (1, J x), (2, J n), (3, J k)] [J k, .ref 44, .ref 42] σ)) ?_
            refine T.iald rfl rfl hix3 (by omega) (fun z2 hzz2 hyz2 hez2 => ?_)
            have glz2 : gl (il σ 44) k = z2 := by rw [ilx3]; exact gl_of hez2 ⟨hzz2, hyz2⟩
            subst glz2
            refine T.go 1 (fun n9 => (rfl : _ = exe ξ n9 (d + 2) j_F_isKnown 38 [(0, .ref 41), (1, J x), (2, J n), (3, J k)] [.ref 41, J (gl (il σ 44) k), .ref 42] σ)) ?_
            refine T.get rfl rfl rfl hmx1 rfl ?_
            refine T.go 2 (fun n9 => (rfl : _ = exe ξ n9 (d + 2) j_F_isKnown 43 [(0, .ref 41), (1, J x), (2, J n), (3, J k)] [J n, J x, .ref 42, J (gl (il σ 44) k), .ref 42] σ)) ?_
            have kp := hkp k (by omega) (by omega)
            refine T.calls (as := [.ref 42, J (gl (il σ 44) k), .ref 42, J x, J n]) (r := []) rfl rfl (by decide) rfl rfl (s_F_fisSameName d g g 42 (gl (il σ 44) k) 42 x n σ hK (by decide) (by decide) hg hg (by omega) (by omega) (by omega) (by omega) (by omega) (by omega) (by omega) (by omega)) (fun v1 s1 hqs1 => ?_)
            obtain ⟨z3, rfl, esz3, hzz3, hyz3, pz3_0, pz3_1⟩ := hqs1
            rw [esz3]
            refine T.if_eq rfl rfl (by omega) (fun c4 => ?_) (fun c4 => ?_)
            · refine T.iinc (lv' := [(0, .ref 41), (1, J x), (2, J n), (3, J (k + 1))]) rfl rfl rfl rfl ?_
              refine T.go 1 (fun n9 => (rfl : _ = exe ξ n9 (d + 2) j_F_isKnown 2 [(0, .ref 41), (1, J x), (2, J n), (3, J (k + 1))] [] σ)) ?_
              exact ih  (k + 1) (by omega) (by omega) (NKN_s i2 (fun q => by first | exact pz3_1 (by omega) q.2 | (have q1 := q.1; omega))) (by omega) (by omega)
            · refine T.go 1 (fun n9 => (rfl : _ = exe ξ n9 (d + 2) j_F_isKnown 50 [(0, .ref 41), (1, J x), (2, J n), (3, J k)] [J 1] σ)) ?_
              exact T.iretz rfl rfl (by omega) ⟨_, rfl, rfl, by omega, by omega, (fun q => absurd q (by decide)), (fun _ q => q k (by omega) (by omega) ⟨by omega, pz3_0 (by omega)⟩)⟩
  refine T.go 2 (fun n9 => (rfl : _ = exe ξ n9 (d + 2) j_F_isKnown 2 [(0, .ref 41), (1, J x), (2, J n), (3, J 0)] [] σ)) ?_
  exact loop2 _ 0 (by omega) (by omega) NKN_0 (by omega) (Nat.lt_succ_self _)

set_option maxRecDepth 10000 in
set_option maxHeartbeats 4000000 in
theorem s_F_fcloseLine {ξ : Nat → Option (Nat × List Int32)} (d : Nat) (g : Int → Int) (l : List Int) (vq : Int → Int) (nq : Int)  (σ : qH) (hK : K σ)  (hg : AGR σ 42 g) (hkp : KNP σ) (hl : OPN σ g l) (hv : ∀ o : Nat, msk σ = some (.ref o) → AGR σ o vq ∧ rl σ o = nq) (hNA : NA σ) (pre0 : -1 ≤ afld σ 41 4) (pre1 : afld σ 41 3 < 2000) : T ξ (d + 3) j_F_closeLine 0 (lv_args 0 [.ref 41]) [] σ (fun v σ' => ∃ z : Int, v = some (J z) ∧ Fr [41, 44, 45] σ σ' ∧ 0 ≤ z ∧ z ≤ 1 ∧ (afld σ 41 4 = -1 → z = 1 ∧ MSM σ σ') ∧ (0 ≤ afld σ 41 4 → z = 0 → NML l = 0 ∨ ¬ NKN g (il σ 44) (il σ 45) (afld σ 41 4) (NML l) (afld σ 41 3)) ∧ (0 ≤ afld σ 41 4 → z = 1 → CLS σ σ' g l vq nq)) := by
  obtain ⟨nx1, osx1, vsx1, vlx1, asx1, hmx1, fx1a, fx1b, fx1c, fx1d, fx1e, fx1f, fx1g, fx1h, fx1i⟩ := hK.man
  have af3x1 := af_of (i := 3) hmx1 rfl (by omega)
  subst af3x1
  have af4x1 := af_of (i := 4) hmx1 rfl (by omega)
  subst af4x1
  have af6x1 := af_of (i := 6) hmx1 rfl (by omega)
  subst af6x1
  have af7x1 := af_of (i := 7) hmx1 rfl (by omega)
  subst af7x1
  obtain ⟨mx2, nx2, bx2, lx2, hrx2, hbx2, fx2a, fx2b, fx2c, fx2d, fx2e, fx2g, fx2h, fx2i⟩ := hK.row (r := 42) (by decide)
  have ctx2 := CT_of hrx2 hbx2
  have rwx2 := rl_of hrx2 (by omega)
  subst rwx2
  obtain ⟨lx3, hix3, elx3⟩ := hK.ints kdX_44
  have ilx3 := il_of hix3
  obtain ⟨lx4, hix4, elx4⟩ := hK.ints kdX_45
  have ilx4 := il_of hix4
  obtain ⟨mx5, nx5, bx5, lx5, hrx5, hbx5, fx5a, fx5b, fx5c, fx5d, fx5e, fx5g, fx5h, fx5i⟩ := hK.row fx1e
  have ctx5 := CT_of hrx5 hbx5
  have rwx5 := rl_of hrx5 (by omega)
  subst rwx5
  obtain ⟨hv1, hv2⟩ := hv asx1 ((msk_of hmx1).trans rfl)
  refine T.go 1 (fun n9 => (rfl : _ = exe ξ n9 (d + 3) j_F_closeLine 1 [(0, .ref 41)] [.ref 41] σ)) ?_
  refine T.get rfl rfl rfl hmx1 rfl ?_
  refine T.go 1 (fun n9 => (rfl : _ = exe ξ n9 (d + 3) j_F_closeLine 5 [(0, .ref 41)] [J (-1), J (afld σ 41 4)] σ)) ?_
  refine T.icmp_ne rfl rfl (by omega) (by omega) (fun c1 => ?_) (fun c1 => ?_)
  · refine T.go 2 (fun n9 => (rfl : _ = exe ξ n9 (d + 3) j_F_closeLine 12 [(0, .ref 41)] [.ref 41, .ref 41] σ)) ?_
    refine T.get rfl rfl rfl hmx1 rfl ?_
    obtain ⟨hj1, hj2⟩ := hl (by omega)
    refine T.callv (as := [J (afld σ 41 4)]) (r := []) rfl rfl rfl rfl hmx1 rfl (s_F_fnameLengthOf (d + 1) g (afld σ 41 4) σ hK  hg (by omega) (by omega) (by omega)) (fun v1 s1 hqs1 => ?_)
    obtain ⟨z1, rfl, esz1, hzz1, hyz1, pz1_0⟩ := hqs1
    rw [esz1]
    have tw := NLP_TW pz1_0 hj1 hj2
    have tz1 := pz1_0.1
    have tz2 := pz1_0.2.1
    refine T.go 2 (fun n9 => (rfl : _ = exe ξ n9 (d + 3) j_F_closeLine 20 [(0, .ref 41), (1, J z1)] [.ref 41] σ)) ?_
    refine T.get rfl rfl rfl hmx1 rfl ?_
    refine T.go 1 (fun n9 => (rfl : _ = exe ξ n9 (d + 3) j_F_closeLine 24 [(0, .ref 41), (1, J z1)] [J z1, J (afld σ 41 4)] σ)) ?_
    refine T.iadd rfl ?_
    refine T.go 2 (fun n9 => (rfl : _ = exe ξ n9 (d + 3) j_F_closeLine 27 [(0, .ref 41), (1, J z1), (2, J ((afld σ 41 4) + z1))] [J z1] σ)) ?_
    refine T.if_eq rfl rfl (by omega) (fun c2 => ?_) (fun c2 => ?_)
    · refine T.go 1 (fun n9 => (rfl : _ = exe ξ n9 (d + 3) j_F_closeLine 81 [(0, .ref 41), (1, J z1), (2, J ((afld σ 41 4) + z1))] [J 0] σ)) ?_
      exact T.iretz rfl rfl (by omega) ⟨_, rfl, (Fr.refl hK), by omega, by omega, (fun q => by exfalso; omega), (fun _ _ => Or.inl (NML_0 tw (by omega))), (fun _ q => absurd q (by decide))⟩
    · refine T.go 1 (fun n9 => (rfl : _ = exe ξ n9 (d + 3) j_F_closeLine 31 [(0, .ref 41), (1, J z1), (2, J ((afld σ 41 4) + z1))] [.ref 41] σ)) ?_
      refine T.get rfl rfl rfl hmx1 rfl ?_
      refine T.go 1 (fun n9 => (rfl : _ = exe ξ n9 (d + 3) j_F_closeLine 35 [(0, .ref 41), (1, J z1), (2, J ((afld σ 41 4) + z1))] [J ((afld σ 41 4) + z1), .ref 42] σ)) ?_
      refine T.callv (as := [J ((afld σ 41 4) + z1)]) (r := []) rfl rfl rfl rfl hrx2 rfl (s_R_fat (d + 2) g 42 ((afld σ 41 4) + z1) σ hK (by decide) hg (by omega)) (fun v2 s2 hqs2 => ?_)
      obtain ⟨z2, rfl, esz2, hzz2, hyz2, pz2_0, pz2_1⟩ := hqs2
      rw [esz2]
      have g58 := JL_at (k := z1) hj1 hj2 (by omega) (by omega) pz2_0 pz2_1
      refine T.go 1 (fun n9 => (rfl : _ = exe ξ n9 (d + 3) j_F_closeLine 40 [(0, .ref 41), (1, J z1), (2, J ((afld σ 41 4) + z1))] [J 58, J z2] σ)) ?_
      refine T.icmp_ne rfl rfl (by omega) (by omega) (fun c3 => ?_) (fun c3 => ?_)
      · refine T.go 1 (fun n9 => (rfl : _ = exe ξ n9 (d + 3) j_F_closeLine 81 [(0, .ref 41), (1, J z1), (2, J ((afld σ 41 4) + z1))] [J 0] σ)) ?_
        exact T.iretz rfl rfl (by omega) ⟨_, rfl, (Fr.refl hK), by omega, by omega, (fun q => by exfalso; omega), (fun _ _ => Or.inl (NML_a tw g58 (by omega))), (fun _ q => absurd q (by decide))⟩
      · refine T.go 1 (fun n9 => (rfl : _ = exe ξ n9 (d + 3) j_F_closeLine 44 [(0, .ref 41), (1, J z1), (2, J ((afld σ 41 4) + z1))] [.ref 41] σ)) ?_
        refine T.get rfl rfl rfl hmx1 rfl ?_
        refine T.go 2 (fun n9 => (rfl : _ = exe ξ n9 (d + 3) j_F_closeLine 49 [(0, .ref 41), (1, J z1), (2, J ((afld σ 41 4) + z1))] [J 1, J ((afld σ 41 4) + z1), .ref 42] σ)) ?_
        refine T.iadd rfl ?_
        refine T.callv (as := [J (((afld σ 41 4) + z1) + 1)]) (r := []) rfl rfl rfl rfl hrx2 rfl (s_R_fat (d + 2) g 42 (((afld σ 41 4) + z1) + 1) σ hK (by decide) hg (by omega)) (fun v3 s3 hqs3 => ?_)
        obtain ⟨z3, rfl, esz3, hzz3, hyz3, pz3_0, pz3_1⟩ := hqs3
        rw [esz3]
        have g32 := JL_at (k := z1 + 1) (z := z3) hj1 hj2 (by omega) (by omega) (fun a b => by rw [← Int.add_assoc] at a b ⊢; exact pz3_0 a b) (fun a => by rw [← Int.add_assoc] at a; exact pz3_1 a)
        refine T.go 1 (fun n9 => (rfl : _ = exe ξ n9 (d + 3) j_F_closeLine 55 [(0, .ref 41), (1, J z1), (2, J ((afld σ 41 4) + z1))] [J 32, J z3] σ)) ?_
        refine T.icmp_ne rfl rfl (by omega) (by omega) (fun c4 => ?_) (fun c4 => ?_)
        · refine T.go 1 (fun n9 => (rfl : _ = exe ξ n9 (d + 3) j_F_closeLine 81 [(0, .ref 41), (1, J z1), (2, J ((afld σ 41 4) + z1))] [J 0] σ)) ?_
          exact T.iretz rfl rfl (by omega) ⟨_, rfl, (Fr.refl hK), by omega, by omega, (fun q => by exfalso; omega), (fun _ _ => by first | exact Or.inl (NML_b tw g32 (by omega)) | (exfalso; omega)), (fun _ q => absurd q (by decide))⟩
        · refine T.go 1 (fun n9 => (rfl : _ = exe ξ n9 (d + 3) j_F_closeLine 59 [(0, .ref 41), (1, J z1), (2, J ((afld σ 41 4) + z1))] [.ref 41] σ)) ?_
          refine T.get rfl rfl rfl hmx1 rfl ?_
          refine T.go 1 (fun n9 => (rfl : _ = exe ξ n9 (d + 3) j_F_closeLine 65 [(0, .ref 41), (1, J z1), (2, J ((afld σ 41 4) + z1))] [J 2000, J (afld σ 41 3)] σ)) ?_
          refine T.icmp_ge rfl rfl (by omega) (by omega) (fun c5 => ?_) (fun c5 => ?_)
          · refine T.go 1 (fun n9 => (rfl : _ = exe ξ n9 (d + 3) j_F_closeLine 81 [(0, .ref 41), (1, J z1), (2, J ((afld σ 41 4) + z1))] [J 0] σ)) ?_
            exact T.iretz rfl rfl (by omega) ⟨_, rfl, (Fr.refl hK), by omega, by omega, (fun q => by exfalso; omega), (fun _ _ => by first | exact Or.inl (NML_b tw g32 (by omega)) | (exfalso; omega)), (fun _ q => absurd q (by decide))⟩
          · refine T.go 2 (fun n9 => (rfl : _ = exe ξ n9 (d + 3) j_F_closeLine 70 [(0, .ref 41), (1, J z1), (2, J ((afld σ 41 4) + z1))] [.ref 41, .ref 41] σ)) ?_
            refine T.get rfl rfl rfl hmx1 rfl ?_
            refine T.go 1 (fun n9 => (rfl : _ = exe ξ n9 (d + 3) j_F_closeLine 74 [(0, .ref 41), (1, J z1), (2, J ((afld σ 41 4) + z1))] [J z1, J (afld σ 41 4), .ref 41] σ)) ?_
            have nml : NML l = z1 := NML_ab tw g58 g32 (by omega) (by omega)
            refine T.callv (as := [J (afld σ 41 4), J z1]) (r := []) rfl rfl rfl rfl hmx1 rfl (s_F_fisKnown d g (afld σ 41 4) z1 σ hK  hg hkp (by omega) (by omega) (by omega) (by omega) (by omega)) (fun v4 s4 hqs4 => ?_)
            obtain ⟨z4, rfl, esz4, hzz4, hyz4, pz4_0, pz4_1⟩ := hqs4
            rw [esz4]
            refine T.if_eq rfl rfl (by omega) (fun c6 => ?_) (fun c6 => ?_)
            · refine T.go 1 (fun n9 => (rfl : _ = exe ξ n9 (d + 3) j_F_closeLine 83 [(0, .ref 41), (1, J z1), (2, J ((afld σ 41 4) + z1))] [.ref 41] σ)) ?_
              refine T.get rfl rfl rfl hmx1 rfl ?_
              refine T.go 1 (fun n9 => (rfl : _ = exe ξ n9 (d + 3) j_F_closeLine 87 [(0, .ref 41), (1, J z1), (2, J ((afld σ 41 4) + z1))] [.ref 41, .ref 44] σ)) ?_
              refine T.get rfl rfl rfl hmx1 rfl ?_
              refine T.go 1 (fun n9 => (rfl : _ = exe ξ n9 (d + 3) j_F_closeLine 91 [(0, .ref 41), (1, J z1), (2, J ((afld σ 41 4) + z1))] [.ref 41, J (afld σ 41 3), .ref 44] σ)) ?_
              refine T.get rfl rfl rfl hmx1 rfl ?_
              refine T.iastF (w := [41, 44, 45]) rfl hK hix3 (by omega) (by decide) (Or.inl (by decide)) (by simp) (fun s5 hs5 hcs5 hos5 => ?_)
              have els5 : (lx3.set (afld σ 41 3 : Int).toNat (Int32.ofInt (afld σ 41 4))).length = 2000 := List.length_set.trans elx3
              have rqs5 : rl s5 42 = rl σ 42 := rl_eq (hs5.2.2.1 42 (by decide) (by decide))
              have k1 := hos5 (by decide) hmx1
              have k2 := hos5 (by decide) hrx2
              have k3 := hos5 (q_dif hbx2 hix3 (fun z => by cases z)) hbx2
              have k4 := hos5 (by decide) hix4
              have k5 := hos5 (dq_146 _ fx1e) hrx5
              have k6 := hos5 (q_dif hbx5 hix3 (fun z => by cases z)) hbx5
              refine T.go 1 (fun n9 => (rfl : _ = exe ξ n9 (d + 3) j_F_closeLine 96 [(0, .ref 41), (1, J z1), (2, J ((afld σ 41 4) + z1))] [.ref 41] s5)) ?_
              refine T.get rfl rfl rfl k1 rfl ?_
              refine T.go 1 (fun n9 => (rfl : _ = exe ξ n9 (d + 3) j_F_closeLine 100 [(0, .ref 41), (1, J z1), (2, J ((afld σ 41 4) + z1))] [.ref 41, .ref 45] s5)) ?_
              refine T.get rfl rfl rfl k1 rfl ?_
              refine T.go 1 (fun n9 => (rfl : _ = exe ξ n9 (d + 3) j_F_closeLine 104 [(0, .ref 41), (1, J z1), (2, J ((afld σ 41 4) + z1))] [J z1, J (afld σ 41 3), .ref 45] s5)) ?_
              refine T.iastF (w := [41, 44, 45]) rfl hs5.1 k4 (by omega) (by decide) (Or.inl (by decide)) (by simp) (fun s6 hs6 hcs6 hos6 => ?_)
              have els6 : (lx4.set (afld σ 41 3 : Int).toNat (Int32.ofInt z1)).length = 2000 := List.length_set.trans elx4
              have gs6 := hs5.trans hs6
              have rqs6 : rl s6 42 = rl σ 42 := rl_eq (gs6.2.2.1 42 (by decide) (by decide))
              have k7 := hos6 (by decide) hcs5
              have k8 := hos6 (by decide) k1
              have k9 := hos6 (by decide) k2
              have k10 := hos6 (q_dif k3 k4 (fun z => by cases z)) k3
              have k11 := hos6 (dq_147 _ fx1e) k5
              have k12 := hos6 (q_dif k6 k4 (fun z => by cases z)) k6
              refine T.go 2 (fun n9 => (rfl : _ = exe ξ n9 (d + 3) j_F_closeLine 107 [(0, .ref 41), (1, J z1), (2, J ((afld σ 41 4) + z1))] [.ref 41, .ref 41] s6)) ?_
              refine T.get rfl rfl rfl k8 rfl ?_
              refine T.go 1 (fun n9 => (rfl : _ = exe ξ n9 (d + 3) j_F_closeLine 111 [(0, .ref 41), (1, J z1), (2, J ((afld σ 41 4) + z1))] [J 1, J (afld σ 41 3), .ref 41] s6)) ?_
              refine T.iadd rfl ?_
              refine T.putF (w := [41, 44, 45]) rfl rfl k8 rfl rfl rfl (fs' := [.ref 42, .ref 44, .ref 45, J ((afld σ 41 3) + 1), J (afld σ 41 4), .ref asx1, J (afld σ 41 6), J (afld σ 41 7)]) rfl (Fr.other hs6.1 k8 rfl (show okM _ from ⟨_, _, _, _, _, rfl, by omega, by omega, by omega, by omega, fx1e, by omega⟩) (by decide) (Or.inl (by decide)) (fun _ z => by cases z) (by simp)) (fun s7 hs7 hcs7 hos7 => ?_)
              have gs7 := gs6.trans hs7
              have rqs7 : rl s7 42 = rl σ 42 := rl_eq (gs7.2.2.1 42 (by decide) (by decide))
              have k13 := hos7 (by decide) hcs6
              have k14 := hos7 (by decide) k7
              have k15 := hos7 (by decide) k9
              have k16 := hos7 (q_dif k10 k8 (fun z => by cases z)) k10
              have k17 := hos7 (dq_148 _ fx1e) k11
              have k18 := hos7 (q_dif k12 k8 (fun z => by cases z)) k12
              refine T.go 2 (fun n9 => (rfl : _ = exe ξ n9 (d + 3) j_F_closeLine 117 [(0, .ref 41), (1, J z1), (2, J ((afld σ 41 4) + z1))] [.ref 41, J z1] s7)) ?_
              refine T.get rfl rfl rfl hcs7 rfl ?_
              refine T.get rfl rfl rfl k17 rfl ?_
              refine T.icmp_ne rfl rfl (by omega) (by omega) (fun c7 => ?_) (fun c7 => ?_)
              · refine T.go 1 (fun n9 => (rfl : _ = exe ξ n9 (d + 3) j_F_closeLine 170 [(0, .ref 41), (1, J z1), (2, J ((afld σ 41 4) + z1))] [J 1] s7)) ?_
                exact T.iretz rfl rfl (by omega) ⟨_, rfl, gs7, by omega, by omega, (fun q => by exfalso; omega), (fun _ q => absurd q (by decide)), (fun _ _ => ⟨⟨by omega, by rw [nml]; exact pz4_0 (by omega)⟩, (af_of (i := 3) hcs7 rfl (by omega)), (af_of (i := 4) hcs7 rfl (by omega)), (fun j hj => by rw [il_of k14, gl_set ⟨by omega, by omega⟩ ⟨by omega, by omega⟩ hj, ilx3]), (fun j hj => by rw [il_of k13, gl_set ⟨by omega, by omega⟩ ⟨by omega, by omega⟩ hj, ilx4, nml]), ((msk_of hcs7).trans (msk_of hmx1).symm), (fun q => by exfalso; have q1 := q.1; omega), (fun _ => ⟨((af_of (i := 6) hcs7 rfl (by omega)).trans (by omega)), ((af_of (i := 7) hcs7 rfl (by omega)).trans (by omega))⟩)⟩)⟩
              · refine T.go 1 (fun n9 => (rfl : _ = exe ξ n9 (d + 3) j_F_closeLine 127 [(0, .ref 41), (1, J z1), (2, J ((afld σ 41 4) + z1))] [.ref 41] s7)) ?_
                refine T.get rfl rfl rfl hcs7 rfl ?_
                refine T.go 1 (fun n9 => (rfl : _ = exe ξ n9 (d + 3) j_F_closeLine 131 [(0, .ref 41), (1, J z1), (2, J ((afld σ 41 4) + z1))] [.ref 41, .ref 42] s7)) ?_
                refine T.get rfl rfl rfl hcs7 rfl ?_
                refine T.go 1 (fun n9 => (rfl : _ = exe ξ n9 (d + 3) j_F_closeLine 135 [(0, .ref 41), (1, J z1), (2, J ((afld σ 41 4) + z1))] [.ref 41, J (afld σ 41 4), .ref 42] s7)) ?_
                refine T.get rfl rfl rfl hcs7 rfl ?_
                refine T.go 2 (fun n9 => (rfl : _ = exe ξ n9 (d + 3) j_F_closeLine 140 [(0, .ref 41), (1, J z1), (2, J ((afld σ 41 4) + z1))] [J z1, J 0, .ref asx1, J (afld σ 41 4), .ref 42] s7)) ?_
                have ras := rl_eq (gs7.2.2.1 asx1 (List.mem_cons_of_mem _ fx1e) (nm_c (dq_148 _ fx1e) (nm_c (dq_146 _ fx1e) (nm_c (dq_147 _ fx1e) nm_0))))
                refine T.calls (as := [.ref 42, J (afld σ 41 4), .ref asx1, J 0, J z1]) (r := []) rfl rfl (by decide) rfl rfl (s_F_fisSameName (d + 1) g vq 42 (afld σ 41 4) asx1 0 z1 s7 hs7.1 (by decide) fx1e (hg.fr hNA gs7 (by decide) (by decide)) (hv1.fr hNA gs7 fx1e (nm_c (dq_148 _ fx1e) (nm_c (dq_146 _ fx1e) (nm_c (dq_147 _ fx1e) nm_0)))) (by omega) (by omega) (by omega) (by omega) (by omega) (by omega) (by omega) (by omega)) (fun v5 s8 hqs8 => ?_)
                obtain ⟨z5, rfl, esz5, hzz5, hyz5, pz5_0, pz5_1⟩ := hqs8
                rw [esz5]
                refine T.if_eq rfl rfl (by omega) (fun c8 => ?_) (fun c8 => ?_)
                · refine T.go 1 (fun n9 => (rfl : _ = exe ξ n9 (d + 3) j_F_closeLine 170 [(0, .ref 41), (1, J z1), (2, J ((afld σ 41 4) + z1))] [J 1] s7)) ?_
                  exact T.iretz rfl rfl (by omega) ⟨_, rfl, gs7, by omega, by omega, (fun q => by exfalso; omega), (fun _ q => absurd q (by decide)), (fun _ _ => by first | exact ⟨⟨by omega, by rw [nml]; exact pz4_0 (by omega)⟩, (af_of (i := 3) hcs7 rfl (by omega)), (af_of (i := 4) hcs7 rfl (by omega)), (fun j hj => by rw [il_of k14, gl_set ⟨by omega, by omega⟩ ⟨by omega, by omega⟩ hj, ilx3]), (fun j hj => by rw [il_of k13, gl_set ⟨by omega, by omega⟩ ⟨by omega, by omega⟩ hj, ilx4, nml]), ((msk_of hcs7).trans (msk_of hmx1).symm), (fun _ => ⟨((af_of (i := 6) hcs7 rfl (by omega)).trans (by omega)), ((af_of (i := 7) hcs7 rfl (by omega)).trans (by omega))⟩), (fun q => absurd ((ASK_f (v := vq) (nq := nq) hj1 nml (by omega) (by omega)).mp (pz5_0 (by omega))) q)⟩ | exact ⟨⟨by omega, by rw [nml]; exact pz4_0 (by omega)⟩, (af_of (i := 3) hcs7 rfl (by omega)), (af_of (i := 4) hcs7 rfl (by omega)), (fun j hj => by rw [il_of k14, gl_set ⟨by omega, by omega⟩ ⟨by omega, by omega⟩ hj, ilx3]), (fun j hj => by rw [il_of k13, gl_set ⟨by omega, by omega⟩ ⟨by omega, by omega⟩ hj, ilx4, nml]), ((msk_of hcs7).trans (msk_of hmx1).symm), (fun q => absurd ((ASK_f (v := vq) (nq := nq) hj1 nml (by omega) (by omega)).mpr q) (pz5_1 (by omega))), (fun _ => ⟨((af_of (i := 6) hcs7 rfl (by omega)).trans (by omega)), ((af_of (i := 7) hcs7 rfl (by omega)).trans (by omega))⟩)⟩)⟩
                · refine T.go 3 (fun n9 => (rfl : _ = exe ξ n9 (d + 3) j_F_closeLine 149 [(0, .ref 41), (1, J z1), (2, J ((afld σ 41 4) + z1))] [J 2, J ((afld σ 41 4) + z1), .ref 41] s7)) ?_
                  refine T.iadd rfl ?_
                  refine T.putF (w := [41, 44, 45]) rfl rfl hcs7 rfl rfl rfl (fs' := [.ref 42, .ref 44, .ref 45, J ((afld σ 41 3) + 1), J (afld σ 41 4), .ref asx1, J (((afld σ 41 4) + z1) + 2), J (afld σ 41 7)]) rfl (Fr.other hs7.1 hcs7 rfl (show okM _ from ⟨_, _, _, _, _, rfl, by omega, by omega, by omega, by omega, fx1e, by omega⟩) (by decide) (Or.inl (by decide)) (fun _ z => by cases z) (by simp)) (fun s9 hs9 hcs9 hos9 => ?_)
                  have gs9 := gs7.trans hs9
                  have rqs9 : rl s9 42 = rl σ 42 := rl_eq (gs9.2.2.1 42 (by decide) (by decide))
                  have k19 := hos9 (by decide) k13
                  have k20 := hos9 (by decide) k14
                  have k21 := hos9 (by decide) k15
                  have k22 := hos9 (q_dif k16 hcs7 (fun z => by cases z)) k16
                  have k23 := hos9 (dq_148 _ fx1e) k17
                  have k24 := hos9 (q_dif k18 hcs7 (fun z => by cases z)) k18
                  refine T.go 2 (fun n9 => (rfl : _ = exe ξ n9 (d + 3) j_F_closeLine 155 [(0, .ref 41), (1, J z1), (2, J ((afld σ 41 4) + z1))] [.ref 41, .ref 41] s9)) ?_
                  refine T.get rfl rfl rfl hcs9 rfl ?_
                  refine T.get rfl rfl rfl k21 rfl ?_
                  refine T.go 1 (fun n9 => (rfl : _ = exe ξ n9 (d + 3) j_F_closeLine 162 [(0, .ref 41), (1, J z1), (2, J ((afld σ 41 4) + z1))] [.ref 41, J (rl σ 42), .ref 41] s9)) ?_
                  refine T.get rfl rfl rfl hcs9 rfl ?_
                  refine T.isub rfl ?_
                  refine T.putF (w := [41, 44, 45]) rfl rfl hcs9 rfl rfl rfl (fs' := [.ref 42, .ref 44, .ref 45, J ((afld σ 41 3) + 1), J (afld σ 41 4), .ref asx1, J (((afld σ 41 4) + z1) + 2), J ((rl σ 42) - (((afld σ 41 4) + z1) + 2))]) rfl (Fr.other hs9.1 hcs9 rfl (show okM _ from ⟨_, _, _, _, _, rfl, by omega, by omega, by omega, by omega, fx1e, by omega⟩) (by decide) (Or.inl (by decide)) (fun _ z => by cases z) (by simp)) (fun s10 hs10 hcs10 hos10 => ?_)
                  have gs10 := gs9.trans hs10
                  have rqs10 : rl s10 42 = rl σ 42 := rl_eq (gs10.2.2.1 42 (by decide) (by decide))
                  have k25 := hos10 (by decide) k19
                  have k26 := hos10 (by decide) k20
                  have k27 := hos10 (by decide) k21
                  have k28 := hos10 (q_dif k22 hcs9 (fun z => by cases z)) k22
                  have k29 := hos10 (dq_148 _ fx1e) k23
                  have k30 := hos10 (q_dif k24 hcs9 (fun z => by cases z)) k24
                  refine T.go 1 (fun n9 => (rfl : _ = exe ξ n9 (d + 3) j_F_closeLine 170 [(0, .ref 41), (1, J z1), (2, J ((afld σ 41 4) + z1))] [J 1] s10)) ?_
                  exact T.iretz rfl rfl (by omega) ⟨_, rfl, gs10, by omega, by omega, (fun q => by exfalso; omega), (fun _ q => absurd q (by decide)), (fun _ _ => by first | exact ⟨⟨by omega, by rw [nml]; exact pz4_0 (by omega)⟩, (af_of (i := 3) hcs10 rfl (by omega)), (af_of (i := 4) hcs10 rfl (by omega)), (fun j hj => by rw [il_of k26, gl_set ⟨by omega, by omega⟩ ⟨by omega, by omega⟩ hj, ilx3]), (fun j hj => by rw [il_of k25, gl_set ⟨by omega, by omega⟩ ⟨by omega, by omega⟩ hj, ilx4, nml]), ((msk_of hcs10).trans (msk_of hmx1).symm), (fun _ => ⟨((af_of (i := 6) hcs10 rfl (by omega)).trans (by omega)), ((af_of (i := 7) hcs10 rfl (by omega)).trans (by omega))⟩), (fun q => absurd ((ASK_f (v := vq) (nq := nq) hj1 nml (by omega) (by omega)).mp (pz5_0 (by omega))) q)⟩ | exact ⟨⟨by omega, by rw [nml]; exact pz4_0 (by omega)⟩, (af_of (i := 3) hcs10 rfl (by omega)), (af_of (i := 4) hcs10 rfl (by omega)), (fun j hj => by rw [il_of k26, gl_set ⟨by omega, by omega⟩ ⟨by omega, by omega⟩ hj, ilx3]), (fun j hj => by rw [il_of k25, gl_set ⟨by omega, by omega⟩ ⟨by omega, by omega⟩ hj, ilx4, nml]), ((msk_of hcs10).trans (msk_of hmx1).symm), (fun q => absurd ((ASK_f (v := vq) (nq := nq) hj1 nml (by omega) (by omega)).mpr q) (pz5_1 (by omega))), (fun _ => ⟨((af_of (i := 6) hcs10 rfl (by omega)).trans (by omega)), ((af_of (i := 7) hcs10 rfl (by omega)).trans (by omega))⟩)⟩)⟩
            · refine T.go 1 (fun n9 => (rfl : _ = exe ξ n9 (d + 3) j_F_closeLine 81 [(0, .ref 41), (1, J z1), (2, J ((afld σ 41 4) + z1))] [J 0] σ)) ?_
              exact T.iretz rfl rfl (by omega) ⟨_, rfl, (Fr.refl hK), by omega, by omega, (fun q => by exfalso; omega), (fun _ _ => Or.inr (by rw [nml]; exact pz4_1 (by omega))), (fun _ q => absurd q (by decide))⟩
  · refine T.go 1 (fun n9 => (rfl : _ = exe ξ n9 (d + 3) j_F_closeLine 9 [(0, .ref 41)] [J 1] σ)) ?_
    exact T.iretz rfl rfl (by omega) ⟨_, rfl, (Fr.refl hK), by omega, by omega, (fun _ => ⟨rfl, rfl, rfl, rfl, rfl, rfl, rfl, rfl⟩), (fun _ q => absurd q (by decide)), (fun q _ => by exfalso; omega)⟩
