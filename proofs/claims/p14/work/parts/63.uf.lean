/-! The manifest: the class, what stands in lines. -/
/-- n bytes of both are the same letters -/
def SMf (g h : Int → Int) (x y n : Int) : Prop := ∀ k : Int, 0 ≤ k → k < n → sml (g (x + k)) = sml (h (y + k))
theorem SMf_0 {g h : Int → Int} {x y : Int} : SMf g h x y 0 := fun k a b => absurd b (by omega)
theorem SMf_s {g h : Int → Int} {x y k : Int} (q : SMf g h x y k) (e : sml (g (x + k)) = sml (h (y + k))) : SMf g h x y (k + 1) := fun j a b => by
  by_cases c : j = k
  · rw [c]; exact e
  · exact q j a (by omega)
/-- z bytes of a name stand from x on -/
def NLP (g : Int → Int) (f x z : Int) : Prop := 0 ≤ z ∧ x + z ≤ f ∧ (∀ k : Int, 0 ≤ k → k < z → NBY (g (x + k))) ∧ (x + z < f → ¬ NBY (g (x + z)))
def NLI (g : Int → Int) (x k : Int) : Prop := ∀ j : Int, 0 ≤ j → j < k → NBY (g (x + j))
theorem NLI_0 {g : Int → Int} {x : Int} : NLI g x 0 := fun j a b => absurd b (by omega)
theorem NLI_s {g : Int → Int} {x k : Int} (h : NLI g x k) (q : NBY (g (x + k))) : NLI g x (k + 1) := fun j a b => by
  by_cases c : j = k
  · rw [c]; exact q
  · exact h j a (by omega)
/-- none of the first k names is this one -/
def NKN (g : Int → Int) (l1 l2 : List Int32) (x n k : Int) : Prop := ∀ j : Int, 0 ≤ j → j < k → ¬ (gl l2 j = n ∧ SMf g g (gl l1 j) x n)
theorem NKN_0 {g : Int → Int} {l1 l2 : List Int32} {x n : Int} : NKN g l1 l2 x n 0 := fun j a b => absurd b (by omega)
theorem NKN_s {g : Int → Int} {l1 l2 : List Int32} {x n k : Int} (h : NKN g l1 l2 x n k) (q : ¬ (gl l2 k = n ∧ SMf g g (gl l1 k) x n)) : NKN g l1 l2 x n (k + 1) := fun j a b => by
  by_cases c : j = k
  · rw [c]; exact q
  · exact h j a (by omega)

set_option maxRecDepth 10000 in
set_option maxHeartbeats 4000000 in
theorem s_F_flineStop {ξ : Nat → Option (Nat × List Int32)} (d : Nat) (g : Int → Int) (r : Nat) (x : Int) (σ : qH) (hK : K σ) (hr : r ∈ RwL) (hg : AGR σ r g) (rx : -2147483648 ≤ x ∧ x ≤ 2147483647) (pre0 : 0 ≤ x) (pre1 : x ≤ rl σ r) : T ξ (d + 1) j_F_lineStop 0 (lv_args 0 [.ref 41, .ref r, J x]) [] σ (fun v σ' => ∃ z : Int, v = some (J z) ∧ σ' = σ ∧ 0 ≤ z ∧ z ≤ 10000 ∧ z = LSt g (rl σ r) x) := by
  obtain ⟨mx1, nx1, bx1, lx1, hrx1, hbx1, fx1a, fx1b, fx1c, fx1d, fx1e, fx1g, fx1h, fx1i⟩ := hK.row hr
  have ctx1 := CT_of hrx1 hbx1
  have rwx1 := rl_of hrx1 (by omega)
  subst rwx1
  have loop2 : ∀ (f : Nat) (k : Int), 0 ≤ k → x ≤ k → k ≤ rl σ r → LSt g (rl σ r) k = LSt g (rl σ r) x → (rl σ r - k).toNat < f → T ξ (d + 1) j_F_lineStop 2 [(0, .ref 41), (1, .ref r), (2, J x), (3, J k)] [] σ (fun v σ' => ∃ z : Int, v = some (J z) ∧ σ' = σ ∧ 0 ≤ z ∧ z ≤ 10000 ∧ z = LSt g (rl σ r) x) := by
    intro f
    induction f with
    | zero => intro k i0 i1 i2 i3 hm; omega
    | succ f ih =>
      intro k i0 i1 i2 i3 hm
      refine T.go 2 (fun n9 => (rfl : _ = exe ξ n9 (d + 1) j_F_lineStop 4 [(0, .ref 41), (1, .ref r), (2, J x), (3, J k)] [.ref r, J k] σ)) ?_
      refine T.get rfl rfl rfl hrx1 rfl ?_
      refine T.icmp_ge rfl rfl (by omega) (by omega) (fun c1 => ?_) (fun c1 => ?_)
      · refine T.go 1 (fun n9 => (rfl : _ = exe ξ n9 (d + 1) j_F_lineStop 27 [(0, .ref 41), (1, .ref r), (2, J x), (3, J k)] [J k] σ)) ?_
        exact T.ireti rfl rfl ⟨_, rfl, rfl, by omega, by omega, (i3.symm.trans (LSt_stop (by omega))).symm⟩
      · refine T.go 2 (fun n9 => (rfl : _ = exe ξ n9 (d + 1) j_F_lineStop 12 [(0, .ref 41), (1, .ref r), (2, J x), (3, J k)] [J k, .ref r] σ)) ?_
        refine T.callv (as := [J k]) (r := []) rfl rfl rfl (RwL_lt _ hr).2.2.1 hrx1 rfl (s_R_fat d g r k σ hK hr hg (by omega)) (fun v1 s1 hqs1 => ?_)
        obtain ⟨z1, rfl, esz1, hzz1, hyz1, pz1_0, pz1_1⟩ := hqs1
        rw [esz1]
        have eaz1 := pz1_0 (by omega) (by omega)
        refine T.go 1 (fun n9 => (rfl : _ = exe ξ n9 (d + 1) j_F_lineStop 17 [(0, .ref 41), (1, .ref r), (2, J x), (3, J k)] [J 10, J z1] σ)) ?_
        refine T.icmp_eq rfl rfl (by omega) (by omega) (fun c2 => ?_) (fun c2 => ?_)
        · refine T.go 1 (fun n9 => (rfl : _ = exe ξ n9 (d + 1) j_F_lineStop 27 [(0, .ref 41), (1, .ref r), (2, J x), (3, J k)] [J k] σ)) ?_
          exact T.ireti rfl rfl ⟨_, rfl, rfl, by omega, by omega, (i3.symm.trans (LSt_stop (by omega))).symm⟩
        · refine T.iinc (lv' := [(0, .ref 41), (1, .ref r), (2, J x), (3, J (k + 1))]) rfl rfl rfl rfl ?_
          refine T.go 1 (fun n9 => (rfl : _ = exe ξ n9 (d + 1) j_F_lineStop 2 [(0, .ref 41), (1, .ref r), (2, J x), (3, J (k + 1))] [] σ)) ?_
          exact ih  (k + 1) (by omega) (by omega) (by omega) (by rw [← LSt_go ⟨by omega, by omega⟩]; exact i3) (by omega)
  refine T.go 2 (fun n9 => (rfl : _ = exe ξ n9 (d + 1) j_F_lineStop 2 [(0, .ref 41), (1, .ref r), (2, J x), (3, J x)] [] σ)) ?_
  exact loop2 _ x (by omega) (by omega) (by omega) rfl (Nat.lt_succ_self _)

set_option maxRecDepth 10000 in
set_option maxHeartbeats 4000000 in
theorem s_F_flineLength {ξ : Nat → Option (Nat × List Int32)} (d : Nat) (g : Int → Int) (r : Nat) (x : Int) (y : Int) (σ : qH) (hK : K σ) (hr : r ∈ RwL) (hg : AGR σ r g) (rx : -2147483648 ≤ x ∧ x ≤ 2147483647) (ry : -2147483648 ≤ y ∧ y ≤ 2147483647) (pre0 : 0 ≤ x) (pre1 : x ≤ rl σ r) (pre2 : y = LSt g (rl σ r) x) : T ξ (d + 1) j_F_lineLength 0 (lv_args 0 [.ref 41, .ref r, J x, J y]) [] σ (fun v σ' => ∃ z : Int, v = some (J z) ∧ σ' = σ ∧ -10001 ≤ z ∧ z ≤ 10000 ∧ z = LEe g (rl σ r) x - x) := by
  have lr := LSt_r g (rl σ r) x
  obtain ⟨mx1, nx1, bx1, lx1, hrx1, hbx1, fx1a, fx1b, fx1c, fx1d, fx1e, fx1g, fx1h, fx1i⟩ := hK.row hr
  have ctx1 := CT_of hrx1 hbx1
  have rwx1 := rl_of hrx1 (by omega)
  subst rwx1
  refine T.go 2 (fun n9 => (rfl : _ = exe ξ n9 (d + 1) j_F_lineLength 2 [(0, .ref 41), (1, .ref r), (2, J x), (3, J y)] [.ref r, J y] σ)) ?_
  refine T.get rfl rfl rfl hrx1 rfl ?_
  refine T.icmp_ge rfl rfl (by omega) (by omega) (fun c1 => ?_) (fun c1 => ?_)
  · refine T.go 6 (fun n9 => (rfl : _ = exe ξ n9 (d + 1) j_F_lineLength 47 [(0, .ref 41), (1, .ref r), (2, J x), (3, J y), (4, J 0)] [J x, J y] σ)) ?_
    refine T.isub rfl ?_
    exact T.ireti rfl rfl ⟨_, rfl, rfl, by omega, by omega, (by unfold LEe; rw [← pre2]; first | (rw [if_pos ⟨by omega, by omega, by omega⟩]; omega) | (rw [if_neg (by omega)]))⟩
  · refine T.go 2 (fun n9 => (rfl : _ = exe ξ n9 (d + 1) j_F_lineLength 10 [(0, .ref 41), (1, .ref r), (2, J x), (3, J y)] [J x, J y] σ)) ?_
    refine T.icmp_le rfl rfl (by omega) (by omega) (fun c2 => ?_) (fun c2 => ?_)
    · refine T.go 6 (fun n9 => (rfl : _ = exe ξ n9 (d + 1) j_F_lineLength 47 [(0, .ref 41), (1, .ref r), (2, J x), (3, J y), (4, J 0)] [J x, J y] σ)) ?_
      refine T.isub rfl ?_
      exact T.ireti rfl rfl ⟨_, rfl, rfl, by omega, by omega, (by unfold LEe; rw [← pre2]; first | (rw [if_pos ⟨by omega, by omega, by omega⟩]; omega) | (rw [if_neg (by omega)]))⟩
    · refine T.go 3 (fun n9 => (rfl : _ = exe ξ n9 (d + 1) j_F_lineLength 16 [(0, .ref 41), (1, .ref r), (2, J x), (3, J y)] [J 1, J y, .ref r] σ)) ?_
      refine T.isub rfl ?_
      refine T.callv (as := [J (y - 1)]) (r := []) rfl rfl rfl (RwL_lt _ hr).2.2.1 hrx1 rfl (s_R_fat d g r (y - 1) σ hK hr hg (by omega)) (fun v1 s1 hqs1 => ?_)
      obtain ⟨z1, rfl, esz1, hzz1, hyz1, pz1_0, pz1_1⟩ := hqs1
      rw [esz1]
      have eaz1 := pz1_0 (by omega) (by omega)
      refine T.go 1 (fun n9 => (rfl : _ = exe ξ n9 (d + 1) j_F_lineLength 22 [(0, .ref 41), (1, .ref r), (2, J x), (3, J y)] [J 13, J z1] σ)) ?_
      refine T.icmp_ne rfl rfl (by omega) (by omega) (fun c3 => ?_) (fun c3 => ?_)
      · refine T.go 6 (fun n9 => (rfl : _ = exe ξ n9 (d + 1) j_F_lineLength 47 [(0, .ref 41), (1, .ref r), (2, J x), (3, J y), (4, J 0)] [J x, J y] σ)) ?_
        refine T.isub rfl ?_
        exact T.ireti rfl rfl ⟨_, rfl, rfl, by omega, by omega, (by unfold LEe; rw [← pre2]; first | (rw [if_pos ⟨by omega, by omega, by omega⟩]; omega) | (rw [if_neg (by omega)]))⟩
      · refine T.go 7 (fun n9 => (rfl : _ = exe ξ n9 (d + 1) j_F_lineLength 39 [(0, .ref 41), (1, .ref r), (2, J x), (3, J y), (4, J 1)] [J x, J y] σ)) ?_
        refine T.isub rfl ?_
        refine T.go 1 (fun n9 => (rfl : _ = exe ξ n9 (d + 1) j_F_lineLength 41 [(0, .ref 41), (1, .ref r), (2, J x), (3, J y), (4, J 1)] [J 1, J (y - x)] σ)) ?_
        refine T.isub rfl ?_
        refine T.go 1 (fun n9 => (rfl : _ = exe ξ n9 (d + 1) j_F_lineLength 48 [(0, .ref 41), (1, .ref r), (2, J x), (3, J y), (4, J 1)] [J ((y - x) - 1)] σ)) ?_
        exact T.ireti rfl rfl ⟨_, rfl, rfl, by omega, by omega, (by unfold LEe; rw [← pre2]; first | (rw [if_pos ⟨by omega, by omega, by omega⟩]; omega) | (rw [if_neg (by omega)]))⟩

set_option maxRecDepth 10000 in
set_option maxHeartbeats 4000000 in
theorem s_F_fisNameByte {ξ : Nat → Option (Nat × List Int32)} (d : Nat) (x : Int) (σ : qH) (hK : K σ)  (rx : -2147483648 ≤ x ∧ x ≤ 2147483647) : T ξ d j_F_isNameByte 0 (lv_args 0 [J x]) [] σ (fun v σ' => ∃ z : Int, v = some (J z) ∧ σ' = σ ∧ 0 ≤ z ∧ z ≤ 1 ∧ (z = 1 → NBY x) ∧ (z = 0 → ¬ NBY x)) := by
  refine T.go 2 (fun n9 => (rfl : _ = exe ξ n9 d j_F_isNameByte 3 [(0, J x)] [J 65, J x] σ)) ?_
  refine T.icmp_lt rfl rfl (by omega) (by omega) (fun c1 => ?_) (fun c1 => ?_)
  · refine T.go 2 (fun n9 => (rfl : _ = exe ξ n9 d j_F_isNameByte 15 [(0, J x)] [J 97, J x] σ)) ?_
    refine T.icmp_lt rfl rfl (by omega) (by omega) (fun c2 => ?_) (fun c2 => ?_)
    · refine T.go 2 (fun n9 => (rfl : _ = exe ξ n9 d j_F_isNameByte 27 [(0, J x)] [J 48, J x] σ)) ?_
      refine T.icmp_lt rfl rfl (by omega) (by omega) (fun c3 => ?_) (fun c3 => ?_)
      · refine T.go 2 (fun n9 => (rfl : _ = exe ξ n9 d j_F_isNameByte 39 [(0, J x)] [J 45, J x] σ)) ?_
        refine T.icmp_eq rfl rfl (by omega) (by omega) (fun c4 => ?_) (fun c4 => ?_)
        · refine T.go 2 (fun n9 => (rfl : _ = exe ξ n9 d j_F_isNameByte 53 [(0, J x)] [J 1] σ)) ?_
          exact T.iretz rfl rfl (by omega) ⟨_, rfl, rfl, by omega, by omega, (fun _ => (by omega : ((65 ≤ x ∧ x ≤ 90) ∨ (97 ≤ x ∧ x ≤ 122) ∨ (48 ≤ x ∧ x ≤ 57) ∨ x = 45 ∨ x = 95))), (fun _ => (by omega : ¬ ((65 ≤ x ∧ x ≤ 90) ∨ (97 ≤ x ∧ x ≤ 122) ∨ (48 ≤ x ∧ x ≤ 57) ∨ x = 45 ∨ x = 95)))⟩
        · refine T.go 2 (fun n9 => (rfl : _ = exe ξ n9 d j_F_isNameByte 45 [(0, J x)] [J 95, J x] σ)) ?_
          refine T.icmp_ne rfl rfl (by omega) (by omega) (fun c5 => ?_) (fun c5 => ?_)
          · refine T.go 1 (fun n9 => (rfl : _ = exe ξ n9 d j_F_isNameByte 53 [(0, J x)] [J 0] σ)) ?_
            exact T.iretz rfl rfl (by omega) ⟨_, rfl, rfl, by omega, by omega, (fun _ => (by omega : ((65 ≤ x ∧ x ≤ 90) ∨ (97 ≤ x ∧ x ≤ 122) ∨ (48 ≤ x ∧ x ≤ 57) ∨ x = 45 ∨ x = 95))), (fun _ => (by omega : ¬ ((65 ≤ x ∧ x ≤ 90) ∨ (97 ≤ x ∧ x ≤ 122) ∨ (48 ≤ x ∧ x ≤ 57) ∨ x = 45 ∨ x = 95)))⟩
          · refine T.go 2 (fun n9 => (rfl : _ = exe ξ n9 d j_F_isNameByte 53 [(0, J x)] [J 1] σ)) ?_
            exact T.iretz rfl rfl (by omega) ⟨_, rfl, rfl, by omega, by omega, (fun _ => (by omega : ((65 ≤ x ∧ x ≤ 90) ∨ (97 ≤ x ∧ x ≤ 122) ∨ (48 ≤ x ∧ x ≤ 57) ∨ x = 45 ∨ x = 95))), (fun _ => (by omega : ¬ ((65 ≤ x ∧ x ≤ 90) ∨ (97 ≤ x ∧ x ≤ 122) ∨ (48 ≤ x ∧ x ≤ 57) ∨ x = 45 ∨ x = 95)))⟩
      · refine T.go 2 (fun n9 => (rfl : _ = exe ξ n9 d j_F_isNameByte 33 [(0, J x)] [J 57, J x] σ)) ?_
        refine T.icmp_le rfl rfl (by omega) (by omega) (fun c6 => ?_) (fun c6 => ?_)
        · refine T.go 2 (fun n9 => (rfl : _ = exe ξ n9 d j_F_isNameByte 53 [(0, J x)] [J 1] σ)) ?_
          exact T.iretz rfl rfl (by omega) ⟨_, rfl, rfl, by omega, by omega, (fun _ => (by omega : ((65 ≤ x ∧ x ≤ 90) ∨ (97 ≤ x ∧ x ≤ 122) ∨ (48 ≤ x ∧ x ≤ 57) ∨ x = 45 ∨ x = 95))), (fun _ => (by omega : ¬ ((65 ≤ x ∧ x ≤ 90) ∨ (97 ≤ x ∧ x ≤ 122) ∨ (48 ≤ x ∧ x ≤ 57) ∨ x = 45 ∨ x = 95)))⟩
        · refine T.go 2 (fun n9 => (rfl : _ = exe ξ n9 d j_F_isNameByte 39 [(0, J x)] [J 45, J x] σ)) ?_
          refine T.icmp_eq rfl rfl (by omega) (by omega) (fun c7 => ?_) (fun c7 => ?_)
          · refine T.go 2 (fun n9 => (rfl : _ = exe ξ n9 d j_F_isNameByte 53 [(0, J x)] [J 1] σ)) ?_
            exact T.iretz rfl rfl (by omega) ⟨_, rfl, rfl, by omega, by omega, (fun _ => (by omega : ((65 ≤ x ∧ x ≤ 90) ∨ (97 ≤ x ∧ x ≤ 122) ∨ (48 ≤ x ∧ x ≤ 57) ∨ x = 45 ∨ x = 95))), (fun _ => (by omega : ¬ ((65 ≤ x ∧ x ≤ 90) ∨ (97 ≤ x ∧ x ≤ 122) ∨ (48 ≤ x ∧ x ≤ 57) ∨ x = 45 ∨ x = 95)))⟩
          · refine T.go 2 (fun n9 => (rfl : _ = exe ξ n9 d j_F_isNameByte 45 [(0, J x)] [J 95, J x] σ)) ?_
            refine T.icmp_ne rfl rfl (by omega) (by omega) (fun c8 => ?_) (fun c8 => ?_)
            · refine T.go 1 (fun n9 => (rfl : _ = exe ξ n9 d j_F_isNameByte 53 [(0, J x)] [J 0] σ)) ?_
              exact T.iretz rfl rfl (by omega) ⟨_, rfl, rfl, by omega, by omega, (fun _ => (by omega : ((65 ≤ x ∧ x ≤ 90) ∨ (97 ≤ x ∧ x ≤ 122) ∨ (48 ≤ x ∧ x ≤ 57) ∨ x = 45 ∨ x = 95))), (fun _ => (by omega : ¬ ((65 ≤ x ∧ x ≤ 90) ∨ (97 ≤ x ∧ x ≤ 122) ∨ (48 ≤ x ∧ x ≤ 57) ∨ x = 45 ∨ x = 95)))⟩
            · refine T.go 2 (fun n9 => (rfl : _ = exe ξ n9 d j_F_isNameByte 53 [(0, J x)] [J 1] σ)) ?_
              exact T.iretz rfl rfl (by omega) ⟨_, rfl, rfl, by omega, by omega, (fun _ => (by omega : ((65 ≤ x ∧ x ≤ 90) ∨ (97 ≤ x ∧ x ≤ 122) ∨ (48 ≤ x ∧ x ≤ 57) ∨ x = 45 ∨ x = 95))), (fun _ => (by omega : ¬ ((65 ≤ x ∧ x ≤ 90) ∨ (97 ≤ x ∧ x ≤ 122) ∨ (48 ≤ x ∧ x ≤ 57) ∨ x = 45 ∨ x = 95)))⟩
    · refine T.go 2 (fun n9 => (rfl : _ = exe ξ n9 d j_F_isNameByte 21 [(0, J x)] [J 122, J x] σ)) ?_
      refine T.icmp_le rfl rfl (by omega) (by omega) (fun c9 => ?_) (fun c9 => ?_)
      · refine T.go 2 (fun n9 => (rfl : _ = exe ξ n9 d j_F_isNameByte 53 [(0, J x)] [J 1] σ)) ?_
        exact T.iretz rfl rfl (by omega) ⟨_, rfl, rfl, by omega, by omega, (fun _ => (by omega : ((65 ≤ x ∧ x ≤ 90) ∨ (97 ≤ x ∧ x ≤ 122) ∨ (48 ≤ x ∧ x ≤ 57) ∨ x = 45 ∨ x = 95))), (fun _ => (by omega : ¬ ((65 ≤ x ∧ x ≤ 90) ∨ (97 ≤ x ∧ x ≤ 122) ∨ (48 ≤ x ∧ x ≤ 57) ∨ x = 45 ∨ x = 95)))⟩
      · refine T.go 2 (fun n9 => (rfl : _ = exe ξ n9 d j_F_isNameByte 27 [(0, J x)] [J 48, J x] σ)) ?_
        refine T.icmp_lt rfl rfl (by omega) (by omega) (fun c10 => ?_) (fun c10 => ?_)
        · refine T.go 2 (fun n9 => (rfl : _ = exe ξ n9 d j_F_isNameByte 39 [(0, J x)] [J 45, J x] σ)) ?_
          refine T.icmp_eq rfl rfl (by omega) (by omega) (fun c11 => ?_) (fun c11 => ?_)
          · refine T.go 2 (fun n9 => (rfl : _ = exe ξ n9 d j_F_isNameByte 53 [(0, J x)] [J 1] σ)) ?_
            exact T.iretz rfl rfl (by omega) ⟨_, rfl, rfl, by omega, by omega, (fun _ => (by omega : ((65 ≤ x ∧ x ≤ 90) ∨ (97 ≤ x ∧ x ≤ 122) ∨ (48 ≤ x ∧ x ≤ 57) ∨ x = 45 ∨ x = 95))), (fun _ => (by omega : ¬ ((65 ≤ x ∧ x ≤ 90) ∨ (97 ≤ x ∧ x ≤ 122) ∨ (48 ≤ x ∧ x ≤ 57) ∨ x = 45 ∨ x = 95)))⟩
          · refine T.go 2 (fun n9 => (rfl : _ = exe ξ n9 d j_F_isNameByte 45 [(0, J x)] [J 95, J x] σ)) ?_
            refine T.icmp_ne rfl rfl (by omega) (by omega) (fun c12 => ?_) (fun c12 => ?_)
            · refine T.go 1 (fun n9 => (rfl : _ = exe ξ n9 d j_F_isNameByte 53 [(0, J x)] [J 0] σ)) ?_
              exact T.iretz rfl rfl (by omega) ⟨_, rfl, rfl, by omega, by omega, (fun _ => (by omega : ((65 ≤ x ∧ x ≤ 90) ∨ (97 ≤ x ∧ x ≤ 122) ∨ (48 ≤ x ∧ x ≤ 57) ∨ x = 45 ∨ x = 95))), (fun _ => (by omega : ¬ ((65 ≤ x ∧ x ≤ 90) ∨ (97 ≤ x ∧ x ≤ 122) ∨ (48 ≤ x ∧ x ≤ 57) ∨ x = 45 ∨ x = 95)))⟩
            · refine T.go 2 (fun n9 => (rfl : _ = exe ξ n9 d j_F_isNameByte 53 [(0, J x)] [J 1] σ)) ?_
              exact T.iretz rfl rfl (by omega) ⟨_, rfl, rfl, by omega, by omega, (fun _ => (by omega : ((65 ≤ x ∧ x ≤ 90) ∨ (97 ≤ x ∧ x ≤ 122) ∨ (48 ≤ x ∧ x ≤ 57) ∨ x = 45 ∨ x = 95))), (fun _ => (by omega : ¬ ((65 ≤ x ∧ x ≤ 90) ∨ (97 ≤ x ∧ x ≤ 122) ∨ (48 ≤ x ∧ x ≤ 57) ∨ x = 45 ∨ x = 95)))⟩
        · refine T.go 2 (fun n9 => (rfl : _ = exe ξ n9 d j_F_isNameByte 33 [(0, J x)] [J 57, J x] σ)) ?_
          refine T.icmp_le rfl rfl (by omega) (by omega) (fun c13 => ?_) (fun c13 => ?_)
          · refine T.go 2 (fun n9 => (rfl : _ = exe ξ n9 d j_F_isNameByte 53 [(0, J x)] [J 1] σ)) ?_
            exact T.iretz rfl rfl (by omega) ⟨_, rfl, rfl, by omega, by omega, (fun _ => (by omega : ((65 ≤ x ∧ x ≤ 90) ∨ (97 ≤ x ∧ x ≤ 122) ∨ (48 ≤ x ∧ x ≤ 57) ∨ x = 45 ∨ x = 95))), (fun _ => (by omega : ¬ ((65 ≤ x ∧ x ≤ 90) ∨ (97 ≤ x ∧ x ≤ 122) ∨ (48 ≤ x ∧ x ≤ 57) ∨ x = 45 ∨ x = 95)))⟩
          · refine T.go 2 (fun n9 => (rfl : _ = exe ξ n9 d j_F_isNameByte 39 [(0, J x)] [J 45, J x] σ)) ?_
            refine T.icmp_eq rfl rfl (by omega) (by omega) (fun c14 => ?_) (fun c14 => ?_)
            · refine T.go 2 (fun n9 => (rfl : _ = exe ξ n9 d j_F_isNameByte 53 [(0, J x)] [J 1] σ)) ?_
              exact T.iretz rfl rfl (by omega) ⟨_, rfl, rfl, by omega, by omega, (fun _ => (by omega : ((65 ≤ x ∧ x ≤ 90) ∨ (97 ≤ x ∧ x ≤ 122) ∨ (48 ≤ x ∧ x ≤ 57) ∨ x = 45 ∨ x = 95))), (fun _ => (by omega : ¬ ((65 ≤ x ∧ x ≤ 90) ∨ (97 ≤ x ∧ x ≤ 122) ∨ (48 ≤ x ∧ x ≤ 57) ∨ x = 45 ∨ x = 95)))⟩
            · refine T.go 2 (fun n9 => (rfl : _ = exe ξ n9 d j_F_isNameByte 45 [(0, J x)] [J 95, J x] σ)) ?_
              refine T.icmp_ne rfl rfl (by omega) (by omega) (fun c15 => ?_) (fun c15 => ?_)
              · refine T.go 1 (fun n9 => (rfl : _ = exe ξ n9 d j_F_isNameByte 53 [(0, J x)] [J 0] σ)) ?_
                exact T.iretz rfl rfl (by omega) ⟨_, rfl, rfl, by omega, by omega, (fun _ => (by omega : ((65 ≤ x ∧ x ≤ 90) ∨ (97 ≤ x ∧ x ≤ 122) ∨ (48 ≤ x ∧ x ≤ 57) ∨ x = 45 ∨ x = 95))), (fun _ => (by omega : ¬ ((65 ≤ x ∧ x ≤ 90) ∨ (97 ≤ x ∧ x ≤ 122) ∨ (48 ≤ x ∧ x ≤ 57) ∨ x = 45 ∨ x = 95)))⟩
              · refine T.go 2 (fun n9 => (rfl : _ = exe ξ n9 d j_F_isNameByte 53 [(0, J x)] [J 1] σ)) ?_
                exact T.iretz rfl rfl (by omega) ⟨_, rfl, rfl, by omega, by omega, (fun _ => (by omega : ((65 ≤ x ∧ x ≤ 90) ∨ (97 ≤ x ∧ x ≤ 122) ∨ (48 ≤ x ∧ x ≤ 57) ∨ x = 45 ∨ x = 95))), (fun _ => (by omega : ¬ ((65 ≤ x ∧ x ≤ 90) ∨ (97 ≤ x ∧ x ≤ 122) ∨ (48 ≤ x ∧ x ≤ 57) ∨ x = 45 ∨ x = 95)))⟩
  · refine T.go 2 (fun n9 => (rfl : _ = exe ξ n9 d j_F_isNameByte 9 [(0, J x)] [J 90, J x] σ)) ?_
    refine T.icmp_le rfl rfl (by omega) (by omega) (fun c16 => ?_) (fun c16 => ?_)
    · refine T.go 2 (fun n9 => (rfl : _ = exe ξ n9 d j_F_isNameByte 53 [(0, J x)] [J 1] σ)) ?_
      exact T.iretz rfl rfl (by omega) ⟨_, rfl, rfl, by omega, by omega, (fun _ => (by omega : ((65 ≤ x ∧ x ≤ 90) ∨ (97 ≤ x ∧ x ≤ 122) ∨ (48 ≤ x ∧ x ≤ 57) ∨ x = 45 ∨ x = 95))), (fun _ => (by omega : ¬ ((65 ≤ x ∧ x ≤ 90) ∨ (97 ≤ x ∧ x ≤ 122) ∨ (48 ≤ x ∧ x ≤ 57) ∨ x = 45 ∨ x = 95)))⟩
    · refine T.go 2 (fun n9 => (rfl : _ = exe ξ n9 d j_F_isNameByte 15 [(0, J x)] [J 97, J x] σ)) ?_
      refine T.icmp_lt rfl rfl (by omega) (by omega) (fun c17 => ?_) (fun c17 => ?_)
      · refine T.go 2 (fun n9 => (rfl : _ = exe ξ n9 d j_F_isNameByte 27 [(0, J x)] [J 48, J x] σ)) ?_
        refine T.icmp_lt rfl rfl (by omega) (by omega) (fun c18 => ?_) (fun c18 => ?_)
        · refine T.go 2 (fun n9 => (rfl : _ = exe ξ n9 d j_F_isNameByte 39 [(0, J x)] [J 45, J x] σ)) ?_
          refine T.icmp_eq rfl rfl (by omega) (by omega) (fun c19 => ?_) (fun c19 => ?_)
          · refine T.go 2 (fun n9 => (rfl : _ = exe ξ n9 d j_F_isNameByte 53 [(0, J x)] [J 1] σ)) ?_
            exact T.iretz rfl rfl (by omega) ⟨_, rfl, rfl, by omega, by omega, (fun _ => (by omega : ((65 ≤ x ∧ x ≤ 90) ∨ (97 ≤ x ∧ x ≤ 122) ∨ (48 ≤ x ∧ x ≤ 57) ∨ x = 45 ∨ x = 95))), (fun _ => (by omega : ¬ ((65 ≤ x ∧ x ≤ 90) ∨ (97 ≤ x ∧ x ≤ 122) ∨ (48 ≤ x ∧ x ≤ 57) ∨ x = 45 ∨ x = 95)))⟩
          · refine T.go 2 (fun n9 => (rfl : _ = exe ξ n9 d j_F_isNameByte 45 [(0, J x)] [J 95, J x] σ)) ?_
            refine T.icmp_ne rfl rfl (by omega) (by omega) (fun c20 => ?_) (fun c20 => ?_)
            · refine T.go 1 (fun n9 => (rfl : _ = exe ξ n9 d j_F_isNameByte 53 [(0, J x)] [J 0] σ)) ?_
              exact T.iretz rfl rfl (by omega) ⟨_, rfl, rfl, by omega, by omega, (fun _ => (by omega : ((65 ≤ x ∧ x ≤ 90) ∨ (97 ≤ x ∧ x ≤ 122) ∨ (48 ≤ x ∧ x ≤ 57) ∨ x = 45 ∨ x = 95))), (fun _ => (by omega : ¬ ((65 ≤ x ∧ x ≤ 90) ∨ (97 ≤ x ∧ x ≤ 122) ∨ (48 ≤ x ∧ x ≤ 57) ∨ x = 45 ∨ x = 95)))⟩
            · refine T.go 2 (fun n9 => (rfl : _ = exe ξ n9 d j_F_isNameByte 53 [(0, J x)] [J 1] σ)) ?_
              exact T.iretz rfl rfl (by omega) ⟨_, rfl, rfl, by omega, by omega, (fun _ => (by omega : ((65 ≤ x ∧ x ≤ 90) ∨ (97 ≤ x ∧ x ≤ 122) ∨ (48 ≤ x ∧ x ≤ 57) ∨ x = 45 ∨ x = 95))), (fun _ => (by omega : ¬ ((65 ≤ x ∧ x ≤ 90) ∨ (97 ≤ x ∧ x ≤ 122) ∨ (48 ≤ x ∧ x ≤ 57) ∨ x = 45 ∨ x = 95)))⟩
        · refine T.go 2 (fun n9 => (rfl : _ = exe ξ n9 d j_F_isNameByte 33 [(0, J x)] [J 57, J x] σ)) ?_
          refine T.icmp_le rfl rfl (by omega) (by omega) (fun c21 => ?_) (fun c21 => ?_)
          · refine T.go 2 (fun n9 => (rfl : _ = exe ξ n9 d j_F_isNameByte 53 [(0, J x)] [J 1] σ)) ?_
            exact T.iretz rfl rfl (by omega) ⟨_, rfl, rfl, by omega, by omega, (fun _ => (by omega : ((65 ≤ x ∧ x ≤ 90) ∨ (97 ≤ x ∧ x ≤ 122) ∨ (48 ≤ x ∧ x ≤ 57) ∨ x = 45 ∨ x = 95))), (fun _ => (by omega : ¬ ((65 ≤ x ∧ x ≤ 90) ∨ (97 ≤ x ∧ x ≤ 122) ∨ (48 ≤ x ∧ x ≤ 57) ∨ x = 45 ∨ x = 95)))⟩
          · refine T.go 2 (fun n9 => (rfl : _ = exe ξ n9 d j_F_isNameByte 39 [(0, J x)] [J 45, J x] σ)) ?_
            refine T.icmp_eq rfl rfl (by omega) (by omega) (fun c22 => ?_) (fun c22 => ?_)
            · refine T.go 2 (fun n9 => (rfl : _ = exe ξ n9 d j_F_isNameByte 53 [(0, J x)] [J 1] σ)) ?_
              exact T.iretz rfl rfl (by omega) ⟨_, rfl, rfl, by omega, by omega, (fun _ => (by omega : ((65 ≤ x ∧ x ≤ 90) ∨ (97 ≤ x ∧ x ≤ 122) ∨ (48 ≤ x ∧ x ≤ 57) ∨ x = 45 ∨ x = 95))), (fun _ => (by omega : ¬ ((65 ≤ x ∧ x ≤ 90) ∨ (97 ≤ x ∧ x ≤ 122) ∨ (48 ≤ x ∧ x ≤ 57) ∨ x = 45 ∨ x = 95)))⟩
            · refine T.go 2 (fun n9 => (rfl : _ = exe ξ n9 d j_F_isNameByte 45 [(0, J x)] [J 95, J x] σ)) ?_
              refine T.icmp_ne rfl rfl (by omega) (by omega) (fun c23 => ?_) (fun c23 => ?_)
              · refine T.go 1 (fun n9 => (rfl : _ = exe ξ n9 d j_F_isNameByte 53 [(0, J x)] [J 0] σ)) ?_
                exact T.iretz rfl rfl (by omega) ⟨_, rfl, rfl, by omega, by omega, (fun _ => (by omega : ((65 ≤ x ∧ x ≤ 90) ∨ (97 ≤ x ∧ x ≤ 122) ∨ (48 ≤ x ∧ x ≤ 57) ∨ x = 45 ∨ x = 95))), (fun _ => (by omega : ¬ ((65 ≤ x ∧ x ≤ 90) ∨ (97 ≤ x ∧ x ≤ 122) ∨ (48 ≤ x ∧ x ≤ 57) ∨ x = 45 ∨ x = 95)))⟩
              · refine T.go 2 (fun n9 => (rfl : _ = exe ξ n9 d j_F_isNameByte 53 [(0, J x)] [J 1] σ)) ?_
                exact T.iretz rfl rfl (by omega) ⟨_, rfl, rfl, by omega, by omega, (fun _ => (by omega : ((65 ≤ x ∧ x ≤ 90) ∨ (97 ≤ x ∧ x ≤ 122) ∨ (48 ≤ x ∧ x ≤ 57) ∨ x = 45 ∨ x = 95))), (fun _ => (by omega : ¬ ((65 ≤ x ∧ x ≤ 90) ∨ (97 ≤ x ∧ x ≤ 122) ∨ (48 ≤ x ∧ x ≤ 57) ∨ x = 45 ∨ x = 95)))⟩
      · refine T.go 2 (fun n9 => (rfl : _ = exe ξ n9 d j_F_isNameByte 21 [(0, J x)] [J 122, J x] σ)) ?_
        refine T.icmp_le rfl rfl (by omega) (by omega) (fun c24 => ?_) (fun c24 => ?_)
        · refine T.go 2 (fun n9 => (rfl : _ = exe ξ n9 d j_F_isNameByte 53 [(0, J x)] [J 1] σ)) ?_
          exact T.iretz rfl rfl (by omega) ⟨_, rfl, rfl, by omega, by omega, (fun _ => (by omega : ((65 ≤ x ∧ x ≤ 90) ∨ (97 ≤ x ∧ x ≤ 122) ∨ (48 ≤ x ∧ x ≤ 57) ∨ x = 45 ∨ x = 95))), (fun _ => (by omega : ¬ ((65 ≤ x ∧ x ≤ 90) ∨ (97 ≤ x ∧ x ≤ 122) ∨ (48 ≤ x ∧ x ≤ 57) ∨ x = 45 ∨ x = 95)))⟩
        · refine T.go 2 (fun n9 => (rfl : _ = exe ξ n9 d j_F_isNameByte 27 [(0, J x)] [J 48, J x] σ)) ?_
          refine T.icmp_lt rfl rfl (by omega) (by omega) (fun c25 => ?_) (fun c25 => ?_)
          · refine T.go 2 (fun n9 => (rfl : _ = exe ξ n9 d j_F_isNameByte 39 [(0, J x)] [J 45, J x] σ)) ?_
            refine T.icmp_eq rfl rfl (by omega) (by omega) (fun c26 => ?_) (fun c26 => ?_)
            · refine T.go 2 (fun n9 => (rfl : _ = exe ξ n9 d j_F_isNameByte 53 [(0, J x)] [J 1] σ)) ?_
              exact T.iretz rfl rfl (by omega) ⟨_, rfl, rfl, by omega, by omega, (fun _ => (by omega : ((65 ≤ x ∧ x ≤ 90) ∨ (97 ≤ x ∧ x ≤ 122) ∨ (48 ≤ x ∧ x ≤ 57) ∨ x = 45 ∨ x = 95))), (fun _ => (by omega : ¬ ((65 ≤ x ∧ x ≤ 90) ∨ (97 ≤ x ∧ x ≤ 122) ∨ (48 ≤ x ∧ x ≤ 57) ∨ x = 45 ∨ x = 95)))⟩
            · refine T.go 2 (fun n9 => (rfl : _ = exe ξ n9 d j_F_isNameByte 45 [(0, J x)] [J 95, J x] σ)) ?_
              refine T.icmp_ne rfl rfl (by omega) (by omega) (fun c27 => ?_) (fun c27 => ?_)
              · refine T.go 1 (fun n9 => (rfl : _ = exe ξ n9 d j_F_isNameByte 53 [(0, J x)] [J 0] σ)) ?_
                exact T.iretz rfl rfl (by omega) ⟨_, rfl, rfl, by omega, by omega, (fun _ => (by omega : ((65 ≤ x ∧ x ≤ 90) ∨ (97 ≤ x ∧ x ≤ 122) ∨ (48 ≤ x ∧ x ≤ 57) ∨ x = 45 ∨ x = 95))), (fun _ => (by omega : ¬ ((65 ≤ x ∧ x ≤ 90) ∨ (97 ≤ x ∧ x ≤ 122) ∨ (48 ≤ x ∧ x ≤ 57) ∨ x = 45 ∨ x = 95)))⟩
              · refine T.go 2 (fun n9 => (rfl : _ = exe ξ n9 d j_F_isNameByte 53 [(0, J x)] [J 1] σ)) ?_
                exact T.iretz rfl rfl (by omega) ⟨_, rfl, rfl, by omega, by omega, (fun _ => (by omega : ((65 ≤ x ∧ x ≤ 90) ∨ (97 ≤ x ∧ x ≤ 122) ∨ (48 ≤ x ∧ x ≤ 57) ∨ x = 45 ∨ x = 95))), (fun _ => (by omega : ¬ ((65 ≤ x ∧ x ≤ 90) ∨ (97 ≤ x ∧ x ≤ 122) ∨ (48 ≤ x ∧ x ≤ 57) ∨ x = 45 ∨ x = 95)))⟩
          · refine T.go 2 (fun n9 => (rfl : _ = exe ξ n9 d j_F_isNameByte 33 [(0, J x)] [J 57, J x] σ)) ?_
            refine T.icmp_le rfl rfl (by omega) (by omega) (fun c28 => ?_) (fun c28 => ?_)
            · refine T.go 2 (fun n9 => (rfl : _ = exe ξ n9 d j_F_isNameByte 53 [(0, J x)] [J 1] σ)) ?_
              exact T.iretz rfl rfl (by omega) ⟨_, rfl, rfl, by omega, by omega, (fun _ => (by omega : ((65 ≤ x ∧ x ≤ 90) ∨ (97 ≤ x ∧ x ≤ 122) ∨ (48 ≤ x ∧ x ≤ 57) ∨ x = 45 ∨ x = 95))), (fun _ => (by omega : ¬ ((65 ≤ x ∧ x ≤ 90) ∨ (97 ≤ x ∧ x ≤ 122) ∨ (48 ≤ x ∧ x ≤ 57) ∨ x = 45 ∨ x = 95)))⟩
            · refine T.go 2 (fun n9 => (rfl : _ = exe ξ n9 d j_F_isNameByte 39 [(0, J x)] [J 45, J x] σ)) ?_
              refine T.icmp_eq rfl rfl (by omega) (by omega) (fun c29 => ?_) (fun c29 => ?_)
              · refine T.go 2 (fun n9 => (rfl : _ = exe ξ n9 d j_F_isNameByte 53 [(0, J x)] [J 1] σ)) ?_
                exact T.iretz rfl rfl (by omega) ⟨_, rfl, rfl, by omega, by omega, (fun _ => (by omega : ((65 ≤ x ∧ x ≤ 90) ∨ (97 ≤ x ∧ x ≤ 122) ∨ (48 ≤ x ∧ x ≤ 57) ∨ x = 45 ∨ x = 95))), (fun _ => (by omega : ¬ ((65 ≤ x ∧ x ≤ 90) ∨ (97 ≤ x ∧ x ≤ 122) ∨ (48 ≤ x ∧ x ≤ 57) ∨ x = 45 ∨ x = 95)))⟩
              · refine T.go 2 (fun n9 => (rfl : _ = exe ξ n9 d j_F_isNameByte 45 [(0, J x)] [J 95, J x] σ)) ?_
                refine T.icmp_ne rfl rfl (by omega) (by omega) (fun c30 => ?_) (fun c30 => ?_)
                · refine T.go 1 (fun n9 => (rfl : _ = exe ξ n9 d j_F_isNameByte 53 [(0, J x)] [J 0] σ)) ?_
                  exact T.iretz rfl rfl (by omega) ⟨_, rfl, rfl, by omega, by omega, (fun _ => (by omega : ((65 ≤ x ∧ x ≤ 90) ∨ (97 ≤ x ∧ x ≤ 122) ∨ (48 ≤ x ∧ x ≤ 57) ∨ x = 45 ∨ x = 95))), (fun _ => (by omega : ¬ ((65 ≤ x ∧ x ≤ 90) ∨ (97 ≤ x ∧ x ≤ 122) ∨ (48 ≤ x ∧ x ≤ 57) ∨ x = 45 ∨ x = 95)))⟩
                · refine T.go 2 (fun n9 => (rfl : _ = exe ξ n9 d j_F_isNameByte 53 [(0, J x)] [J 1] σ)) ?_
                  exact T.iretz rfl rfl (by omega) ⟨_, rfl, rfl, by omega, by omega, (fun _ => (by omega : ((65 ≤ x ∧ x ≤ 90) ∨ (97 ≤ x ∧ x ≤ 122) ∨ (48 ≤ x ∧ x ≤ 57) ∨ x = 45 ∨ x = 95))), (fun _ => (by omega : ¬ ((65 ≤ x ∧ x ≤ 90) ∨ (97 ≤ x ∧ x ≤ 122) ∨ (48 ≤ x ∧ x ≤ 57) ∨ x = 45 ∨ x = 95)))⟩

set_option maxRecDepth 10000 in
set_option maxHeartbeats 4000000 in
theorem s_F_fsmallLetter {ξ : Nat → Option (Nat × List Int32)} (d : Nat) (x : Int) (σ : qH) (hK : K σ)  (rx : -2147483648 ≤ x ∧ x ≤ 2147483647) : T ξ d j_F_smallLetter 0 (lv_args 0 [J x]) [] σ (fun v σ' => ∃ z : Int, v = some (J z) ∧ σ' = σ ∧ -2147483648 ≤ z ∧ z ≤ 2147483647 ∧ z = sml x) := by
  refine T.go 2 (fun n9 => (rfl : _ = exe ξ n9 d j_F_smallLetter 3 [(0, J x)] [J 65, J x] σ)) ?_
  refine T.icmp_lt rfl rfl (by omega) (by omega) (fun c1 => ?_) (fun c1 => ?_)
  · refine T.go 1 (fun n9 => (rfl : _ = exe ξ n9 d j_F_smallLetter 20 [(0, J x)] [J x] σ)) ?_
    exact T.ireti rfl rfl ⟨_, rfl, rfl, by omega, by omega, (by unfold sml; first | (rw [if_pos ⟨by omega, by omega⟩]) | (rw [if_neg (by omega)]))⟩
  · refine T.go 2 (fun n9 => (rfl : _ = exe ξ n9 d j_F_smallLetter 9 [(0, J x)] [J 90, J x] σ)) ?_
    refine T.icmp_gt rfl rfl (by omega) (by omega) (fun c2 => ?_) (fun c2 => ?_)
    · refine T.go 1 (fun n9 => (rfl : _ = exe ξ n9 d j_F_smallLetter 20 [(0, J x)] [J x] σ)) ?_
      exact T.ireti rfl rfl ⟨_, rfl, rfl, by omega, by omega, (by unfold sml; first | (rw [if_pos ⟨by omega, by omega⟩]) | (rw [if_neg (by omega)]))⟩
    · refine T.go 2 (fun n9 => (rfl : _ = exe ξ n9 d j_F_smallLetter 15 [(0, J x)] [J 32, J x] σ)) ?_
      refine T.iadd rfl ?_
      refine T.go 1 (fun n9 => (rfl : _ = exe ξ n9 d j_F_smallLetter 20 [(0, J x)] [J (x + 32)] σ)) ?_
      exact T.ireti rfl rfl ⟨_, rfl, rfl, by omega, by omega, (by unfold sml; first | (rw [if_pos ⟨by omega, by omega⟩]) | (rw [if_neg (by omega)]))⟩

set_option maxRecDepth 10000 in
set_option maxHeartbeats 4000000 in
theorem s_F_fisSameName {ξ : Nat → Option (Nat × List Int32)} (d : Nat) (g h : Int → Int) (r : Nat) (x : Int) (o : Nat) (y : Int) (n : Int) (σ : qH) (hK : K σ) (hr : r ∈ RwL) (ho : o ∈ RwL) (hg : AGR σ r g) (hh : AGR σ o h) (rx : -2147483648 ≤ x ∧ x ≤ 2147483647) (ry : -2147483648 ≤ y ∧ y ≤ 2147483647) (rn : -2147483648 ≤ n ∧ n ≤ 2147483647) (pre0 : 0 ≤ x) (pre1 : x + n ≤ rl σ r) (pre2 : 0 ≤ y) (pre3 : y + n ≤ rl σ o) (pre4 : 0 ≤ n) : T ξ (d + 1) j_F_isSameName 0 (lv_args 0 [.ref r, J x, .ref o, J y, J n]) [] σ (fun v σ' => ∃ z : Int, v = some (J z) ∧ σ' = σ ∧ 0 ≤ z ∧ z ≤ 1 ∧ (z = 1 → SMf g h x y n) ∧ (z = 0 → ¬ SMf g h x y n)) := by
  obtain ⟨mx1, nx1, bx1, lx1, hrx1, hbx1, fx1a, fx1b, fx1c, fx1d, fx1e, fx1g, fx1h, fx1i⟩ := hK.row hr
  have ctx1 := CT_of hrx1 hbx1
  have rwx1 := rl_of hrx1 (by omega)
  subst rwx1
  obtain ⟨mx2, nx2, bx2, lx2, hrx2, hbx2, fx2a, fx2b, fx2c, fx2d, fx2e, fx2g, fx2h, fx2i⟩ := hK.row ho
  have ctx2 := CT_of hrx2 hbx2
  have rwx2 := rl_of hrx2 (by omega)
  subst rwx2
  have loop3 : ∀ (f : Nat) (k : Int), 0 ≤ k → SMf g h x y k → k ≤ n → (n - k).toNat < f → T ξ (d + 1) j_F_isSameName 3 [(0, .ref r), (1, J x), (2, .ref o), (3, J y), (4, J n), (5, J k)] [] σ (fun v σ' => ∃ z : Int, v = some (J z) ∧ σ' = σ ∧ 0 ≤ z ∧ z ≤ 1 ∧ (z = 1 → SMf g h x y n) ∧ (z = 0 → ¬ SMf g h x y n)) := by
    intro f
    induction f with
    | zero => intro k i0 i1 i2 hm; omega
    | succ f ih =>
      intro k i0 i1 i2 hm
      refine T.go 2 (fun n9 => (rfl : _ = exe ξ n9 (d + 1) j_F_isSameName 7 [(0, .ref r), (1, J x), (2, .ref o), (3, J y), (4, J n), (5, J k)] [J n, J k] σ)) ?_
      refine T.icmp_ge rfl rfl (by omega) (by omega) (fun c1 => ?_) (fun c1 => ?_)
      · refine T.go 1 (fun n9 => (rfl : _ = exe ξ n9 (d + 1) j_F_isSameName 44 [(0, .ref r), (1, J x), (2, .ref o), (3, J y), (4, J n), (5, J k)] [J 1] σ)) ?_
        exact T.iretz rfl rfl (by omega) ⟨_, rfl, rfl, by omega, by omega, (fun _ => by rw [show n = k by omega]; exact i1), (fun q => absurd q (by decide))⟩
      · refine T.go 3 (fun n9 => (rfl : _ = exe ξ n9 (d + 1) j_F_isSameName 14 [(0, .ref r), (1, J x), (2, .ref o), (3, J y), (4, J n), (5, J k)] [J k, J x, .ref r] σ)) ?_
        refine T.iadd rfl ?_
        refine T.callv (as := [J (x + k)]) (r := []) rfl rfl rfl (RwL_lt _ hr).2.2.1 hrx1 rfl (s_R_fat d g r (x + k) σ hK hr hg (by omega)) (fun v1 s1 hqs1 => ?_)
        obtain ⟨z1, rfl, esz1, hzz1, hyz1, pz1_0, pz1_1⟩ := hqs1
        rw [esz1]
        have eaz1 := pz1_0 (by omega) (by omega)
        subst eaz1
        refine T.calls (as := [J (g (x + k))]) (r := []) rfl rfl (by decide) rfl rfl (s_F_fsmallLetter d (g (x + k)) σ hK   (by omega)) (fun v2 s2 hqs2 => ?_)
        obtain ⟨z2, rfl, esz2, hzz2, hyz2, pz2_0⟩ := hqs2
        rw [esz2]
        refine T.go 3 (fun n9 => (rfl : _ = exe ξ n9 (d + 1) j_F_isSameName 25 [(0, .ref r), (1, J x), (2, .ref o), (3, J y), (4, J n), (5, J k)] [J k, J y, .ref o, J z2] σ)) ?_
        refine T.iadd rfl ?_
        refine T.callv (as := [J (y + k)]) (r := [J z2]) rfl rfl rfl (RwL_lt _ ho).2.2.1 hrx2 rfl (s_R_fat d h o (y + k) σ hK ho hh (by omega)) (fun v3 s3 hqs3 => ?_)
        obtain ⟨z3, rfl, esz3, hzz3, hyz3, pz3_0, pz3_1⟩ := hqs3
        rw [esz3]
        have eaz3 := pz3_0 (by omega) (by omega)
        subst eaz3
        refine T.calls (as := [J (h (y + k))]) (r := [J z2]) rfl rfl (by decide) rfl rfl (s_F_fsmallLetter d (h (y + k)) σ hK   (by omega)) (fun v4 s4 hqs4 => ?_)
        obtain ⟨z4, rfl, esz4, hzz4, hyz4, pz4_0⟩ := hqs4
        rw [esz4]
        refine T.icmp_eq rfl rfl (by omega) (by omega) (fun c2 => ?_) (fun c2 => ?_)
        · refine T.iinc (lv' := [(0, .ref r), (1, J x), (2, .ref o), (3, J y), (4, J n), (5, J (k + 1))]) rfl rfl rfl rfl ?_
          refine T.go 1 (fun n9 => (rfl : _ = exe ξ n9 (d + 1) j_F_isSameName 3 [(0, .ref r), (1, J x), (2, .ref o), (3, J y), (4, J n), (5, J (k + 1))] [] σ)) ?_
          exact ih  (k + 1) (by omega) (SMf_s i1 (by rw [← pz2_0, ← pz4_0]; omega)) (by omega) (by omega)
        · refine T.go 1 (fun n9 => (rfl : _ = exe ξ n9 (d + 1) j_F_isSameName 36 [(0, .ref r), (1, J x), (2, .ref o), (3, J y), (4, J n), (5, J k)] [J 0] σ)) ?_
          exact T.iretz rfl rfl (by omega) ⟨_, rfl, rfl, by omega, by omega, (fun q => absurd q (by decide)), (fun _ q => by have e := q k (by omega) (by omega); rw [← pz2_0, ← pz4_0] at e; omega)⟩
  refine T.go 2 (fun n9 => (rfl : _ = exe ξ n9 (d + 1) j_F_isSameName 3 [(0, .ref r), (1, J x), (2, .ref o), (3, J y), (4, J n), (5, J 0)] [] σ)) ?_
  exact loop3 _ 0 (by omega) SMf_0 (by omega) (Nat.lt_succ_self _)

set_option maxRecDepth 10000 in
set_option maxHeartbeats 4000000 in
theorem s_F_fnameLengthOf {ξ : Nat → Option (Nat × List Int32)} (d : Nat) (g : Int → Int) (x : Int) (σ : qH) (hK : K σ)  (hg : AGR σ 42 g) (rx : -2147483648 ≤ x ∧ x ≤ 2147483647) (pre0 : 0 ≤ x) (pre1 : x ≤ rl σ 42) : T ξ (d + 1) j_F_nameLengthOf 0 (lv_args 0 [.ref 41, J x]) [] σ (fun v σ' => ∃ z : Int, v = some (J z) ∧ σ' = σ ∧ 0 ≤ z ∧ z ≤ 8001 ∧ NLP g (rl σ 42) x z) := by
  obtain ⟨nx1, osx1, vsx1, vlx1, asx1, hmx1, fx1a, fx1b, fx1c, fx1d, fx1e, fx1f, fx1g, fx1h, fx1i⟩ := hK.man
  obtain ⟨mx2, nx2, bx2, lx2, hrx2, hbx2, fx2a, fx2b, fx2c, fx2d, fx2e, fx2g, fx2h, fx2i⟩ := hK.row (r := 42) (by decide)
  have ctx2 := CT_of hrx2 hbx2
  have rwx2 := rl_of hrx2 (by omega)
  subst rwx2
  have loop2 : ∀ (f : Nat) (k : Int), 0 ≤ k → k ≤ 8001 → x + k ≤ rl σ 42 → NLI g x k → (rl σ 42 - (x + k)).toNat < f → T ξ (d + 1) j_F_nameLengthOf 2 [(0, .ref 41), (1, J x), (2, J k)] [] σ (fun v σ' => ∃ z : Int, v = some (J z) ∧ σ' = σ ∧ 0 ≤ z ∧ z ≤ 8001 ∧ NLP g (rl σ 42) x z) := by
    intro f
    induction f with
    | zero => intro k i0 i1 i2 i3 hm; omega
    | succ f ih =>
      intro k i0 i1 i2 i3 hm
      refine T.go 2 (fun n9 => (rfl : _ = exe ξ n9 (d + 1) j_F_nameLengthOf 4 [(0, .ref 41), (1, J x), (2, J k)] [J k, J x] σ)) ?_
      refine T.iadd rfl ?_
      refine T.go 1 (fun n9 => (rfl : _ = exe ξ n9 (d + 1) j_F_nameLengthOf 6 [(0, .ref 41), (1, J x), (2, J k)] [.ref 41, J (x + k)] σ)) ?_
      refine T.get rfl rfl rfl hmx1 rfl ?_
      refine T.get rfl rfl rfl hrx2 rfl ?_
      refine T.icmp_ge rfl rfl (by omega) (by omega) (fun c1 => ?_) (fun c1 => ?_)
      · refine T.go 1 (fun n9 => (rfl : _ = exe ξ n9 (d + 1) j_F_nameLengthOf 38 [(0, .ref 41), (1, J x), (2, J k)] [J k] σ)) ?_
        exact T.ireti rfl rfl ⟨_, rfl, rfl, by omega, by omega, ⟨by omega, by omega, i3, (fun q => by first | exact pq_1 (by omega) | (exfalso; omega))⟩⟩
      · refine T.go 1 (fun n9 => (rfl : _ = exe ξ n9 (d + 1) j_F_nameLengthOf 16 [(0, .ref 41), (1, J x), (2, J k)] [.ref 41] σ)) ?_
        refine T.get rfl rfl rfl hmx1 rfl ?_
        refine T.go 2 (fun n9 => (rfl : _ = exe ξ n9 (d + 1) j_F_nameLengthOf 21 [(0, .ref 41), (1, J x), (2, J k)] [J k, J x, .ref 42] σ)) ?_
        refine T.iadd rfl ?_
        refine T.callv (as := [J (x + k)]) (r := []) rfl rfl rfl rfl hrx2 rfl (s_R_fat d g 42 (x + k) σ hK (by decide) hg (by omega)) (fun v1 s1 hqs1 => ?_)
        obtain ⟨z1, rfl, esz1, hzz1, hyz1, pz1_0, pz1_1⟩ := hqs1
        rw [esz1]
        have eaz1 := pz1_0 (by omega) (by omega)
        subst eaz1
        refine T.calls (as := [J (g (x + k))]) (r := []) rfl rfl (by decide) rfl rfl (s_F_fisNameByte d (g (x + k)) σ hK   (by omega)) (fun v2 s2 hqs2 => ?_)
        obtain ⟨z2, rfl, esz2, hzz2, hyz2, pz2_0, pz2_1⟩ := hqs2
        rw [esz2]
        refine T.if_eq rfl rfl (by omega) (fun c2 => ?_) (fun c2 => ?_)
        · refine T.go 1 (fun n9 => (rfl : _ = exe ξ n9 (d + 1) j_F_nameLengthOf 38 [(0, .ref 41), (1, J x), (2, J k)] [J k] σ)) ?_
          exact T.ireti rfl rfl ⟨_, rfl, rfl, by omega, by omega, ⟨by omega, by omega, i3, (fun q => by first | exact pz2_1 (by omega) | (exfalso; omega))⟩⟩
        · refine T.iinc (lv' := [(0, .ref 41), (1, J x), (2, J (k + 1))]) rfl rfl rfl rfl ?_
          refine T.go 1 (fun n9 => (rfl : _ = exe ξ n9 (d + 1) j_F_nameLengthOf 2 [(0, .ref 41), (1, J x), (2, J (k + 1))] [] σ)) ?_
          exact ih  (k + 1) (by omega) (by omega) (by omega) (NLI_s i3 (pz2_0 (by omega))) (by omega)
  refine T.go 2 (fun n9 => (rfl : _ = exe ξ n9 (d + 1) j_F_nameLengthOf 2 [(0, .ref 41), (1, J x), (2, J 0)] [] σ)) ?_
  exact loop2 _ 0 (by omega) (by omega) (by omega) NLI_0 (Nat.lt_succ_self _)
