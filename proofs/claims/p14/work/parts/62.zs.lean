/-! The class: the sum of a row. -/
set_option maxRecDepth 10000 in
set_option maxHeartbeats 4000000 in
theorem s_N_fsumOf {ξ : Nat → Option (Nat × List Int32)} (hX : XT ξ) (d : Nat) (g : Int → Int) (r : Nat) (σ : qH) (hK : K σ) (hr : r ∈ RwL) (h255 : ∀ k, 0 ≤ g k ∧ g k ≤ 255) (hg : AGR σ r g) : T ξ (d + 1) j_N_sumOf 0 (lv_args 0 [.ref r]) [] σ (fun v σ' => ∃ z : Int, v = some (JL z) ∧ σ' = σ ∧ 0 ≤ z ∧ z ≤ 4294967295 ∧ z = 4294967295 - (CRN g (rl σ r).toNat : Int)) := by
  have hX0 := hX
  obtain ⟨⟨X1, hX1, lX1⟩, ⟨X2, hX2, lX2⟩, ⟨X3, hX3, lX3⟩, ⟨X4, hX4, lX4⟩, ⟨X5, hX5, lX5⟩, ⟨X6, hX6, lX6⟩⟩ := hX
  have lY1 : X1.length = 19 := by rw [lX1]; rfl
  have lY2 : X2.length = 29 := by rw [lX2]; rfl
  have lY3 : X3.length = 29 := by rw [lX3]; rfl
  have lY4 : X4.length = 30 := by rw [lX4]; rfl
  have lY5 : X5.length = 30 := by rw [lX5]; rfl
  have lY6 : X6.length = 16 := by rw [lX6]; rfl
  obtain ⟨mx1, nx1, bx1, lx1, hrx1, hbx1, fx1a, fx1b, fx1c, fx1d, fx1e, fx1g, fx1h, fx1i⟩ := hK.row hr
  have ctx1 := CT_of hrx1 hbx1
  have rwx1 := rl_of hrx1 (by omega)
  subst rwx1
  have loop4 : ∀ (f : Nat) (u : Int) (k : Int), 0 ≤ k → k ≤ rl σ r → u32 u = CRN g k.toNat → (-2147483648 ≤ u ∧ u ≤ 2147483647) → (rl σ r - k).toNat < f → T ξ (d + 1) j_N_sumOf 4 [(0, .ref r), (1, J u), (2, J k)] [] σ (fun v σ' => ∃ z : Int, v = some (JL z) ∧ σ' = σ ∧ 0 ≤ z ∧ z ≤ 4294967295 ∧ z = 4294967295 - (CRN g (rl σ r).toNat : Int)) := by
    intro f
    induction f with
    | zero => intro u k i0 i1 i2 i3 hm; omega
    | succ f ih =>
      intro u k i0 i1 i2 i3 hm
      refine T.go 2 (fun n9 => (rfl : _ = exe ξ n9 (d + 1) j_N_sumOf 6 [(0, .ref r), (1, J u), (2, J k)] [.ref r, J k] σ)) ?_
      refine T.get rfl rfl rfl hrx1 rfl ?_
      refine T.icmp_ge rfl rfl (by omega) (by omega) (fun c1 => ?_) (fun c1 => ?_)
      · refine T.go 2 (fun n9 => (rfl : _ = exe ξ n9 (d + 1) j_N_sumOf 54 [(0, .ref r), (1, J u), (2, J k)] [J (-1), J u] σ)) ?_
        refine T.ixorn rfl (fun z1 hzz1 hyz1 hxz1 => ?_)
        refine T.i2l rfl (by omega) ?_
        refine T.go 1 (fun n9 => (rfl : _ = exe ξ n9 (d + 1) j_N_sumOf 59 [(0, .ref r), (1, J u), (2, J k)] [JL 4294967295, JL z1] σ)) ?_
        refine T.landm (p := 4294967296) 32 rfl (by decide) (by decide) (by decide) (by omega) ?_
        have l9 := CRN_lt h255 k.toNat
        have e9 : u32 z1 = 4294967295 - CRN g k.toNat := by rw [hxz1, i2, show u32 (-1) = 4294967295 by decide, xor32 (by omega)]
        unfold u32 at e9
        exact T.lret rfl rfl ⟨_, rfl, rfl, by omega, by omega, (by rw [show (rl σ r).toNat = k.toNat by omega]; omega)⟩
      · refine T.go 3 (fun n9 => (rfl : _ = exe ξ n9 (d + 1) j_N_sumOf 15 [(0, .ref r), (1, J u), (2, J k)] [J k, .ref r, J u] σ)) ?_
        refine T.callv (as := [J k]) (r := [J u]) rfl rfl rfl (RwL_lt _ hr).2.2.1 hrx1 rfl (s_R_fat d g r k σ hK hr hg (by omega)) (fun v1 s1 hqs1 => ?_)
        obtain ⟨z3, rfl, esz3, hzz3, hyz3, pz3_0, pz3_1⟩ := hqs1
        rw [esz3]
        have av := pz3_0 (by omega) (by omega)
        have ar := h255 k
        refine T.ixorn rfl (fun z4 hzz4 hyz4 hxz4 => ?_)
        refine T.go 3 (fun n9 => (rfl : _ = exe ξ n9 (d + 1) j_N_sumOf 22 [(0, .ref r), (1, J z4), (2, J k)] [J 4, J z4] σ)) ?_
        refine T.iushr4 rfl (fun z5 hzz5 hyz5 hxz5 => ?_)
        refine T.go 3 (fun n9 => (rfl : _ = exe ξ n9 (d + 1) j_N_sumOf 29 [(0, .ref r), (1, J z4), (2, J k)] [J 15, J z4, .ref 6, J z5] σ)) ?_
        refine T.iandm (p := 16) 4 rfl (by decide) (by decide) (by decide) (by omega) ?_
        refine T.xld rfl rfl hX6 (by omega) (fun z7 hzz7 hyz7 hez7 => ?_)
        have t6z7 := X6_at lX6 (by omega) hez7
        refine T.ixorn rfl (fun z8 hzz8 hyz8 hxz8 => ?_)
        refine T.go 3 (fun n9 => (rfl : _ = exe ξ n9 (d + 1) j_N_sumOf 35 [(0, .ref r), (1, J z8), (2, J k)] [J 4, J z8] σ)) ?_
        refine T.iushr4 rfl (fun z9 hzz9 hyz9 hxz9 => ?_)
        refine T.go 3 (fun n9 => (rfl : _ = exe ξ n9 (d + 1) j_N_sumOf 42 [(0, .ref r), (1, J z8), (2, J k)] [J 15, J z8, .ref 6, J z9] σ)) ?_
        refine T.iandm (p := 16) 4 rfl (by decide) (by decide) (by decide) (by omega) ?_
        refine T.xld rfl rfl hX6 (by omega) (fun z11 hzz11 hyz11 hez11 => ?_)
        have t6z11 := X6_at lX6 (by omega) hez11
        refine T.ixorn rfl (fun z12 hzz12 hyz12 hxz12 => ?_)
        refine T.go 1 (fun n9 => (rfl : _ = exe ξ n9 (d + 1) j_N_sumOf 46 [(0, .ref r), (1, J z12), (2, J k)] [] σ)) ?_
        refine T.iinc (lv' := [(0, .ref r), (1, J z12), (2, J (k + 1))]) rfl rfl rfl rfl ?_
        refine T.go 1 (fun n9 => (rfl : _ = exe ξ n9 (d + 1) j_N_sumOf 4 [(0, .ref r), (1, J z12), (2, J (k + 1))] [] σ)) ?_
        have q1 : u32 z4 = CRN g k.toNat ^^^ (g k).toNat := by rw [hxz4, i2, u32_of (by omega), av]
        have q2 := sum_4 q1 hxz5 t6z7 hxz8
        have q3 := sum_4 q2 hxz9 t6z11 hxz12
        exact ih  z12 (k + 1) (by omega) (by omega) (by rw [q3, CRN_step i0, cY_4]) (by omega) (by omega)
  refine T.go 4 (fun n9 => (rfl : _ = exe ξ n9 (d + 1) j_N_sumOf 4 [(0, .ref r), (1, J (-1)), (2, J 0)] [] σ)) ?_
  exact loop4 _ (-1) 0 (by omega) (by omega) (by show u32 (-1) = 4294967295; decide) (by omega) (Nat.lt_succ_self _)
