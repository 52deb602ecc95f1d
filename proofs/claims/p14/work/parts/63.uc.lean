/-! The manifest: the model, names and values. -/
theorem gd_drop {l : List Int} {n : Nat} {b : Int} {r : List Int} (h : l.drop n = b :: r) : l.getD n (-1) = b := by
  have e := congrArg (fun q : List Int => q.getD 0 (-1)) h
  simp only [List.getD_eq_getElem?_getD, List.getElem?_drop, Nat.add_zero] at e
  rw [List.getD_eq_getElem?_getD]
  exact e
theorem gd_drop0 {l : List Int} {n : Nat} (h : l.drop n = []) : l.getD n (-1) = -1 := by
  have e : l.length ≤ n := List.drop_eq_nil_iff.mp h
  rw [List.getD_eq_getElem?_getD, List.getElem?_eq_none e]
  rfl
theorem drop_1 {l : List Int} {n : Nat} {b : Int} {r : List Int} (h : l.drop n = b :: r) : l.drop (n + 1) = r := by
  rw [← List.drop_drop, h]
  rfl
theorem drop_10 {l : List Int} {n : Nat} (h : l.drop n = []) : l.drop (n + 1) = [] := by
  rw [← List.drop_drop, h]
  rfl
/-- n bytes of a name are told, b is the next -/
def NMI (l : List Int) (n b : Int) (r : List Int) : Prop := (∀ i : Nat, i < n.toNat → NBY (l.getD i (-1))) ∧ ((b = -1 ∧ l.drop n.toNat = [] ∧ r = []) ∨ (0 ≤ b ∧ l.drop n.toNat = b :: r))
theorem NMI_0 {l r : List Int} {b : Int} (h : STQ b l r) : NMI l 0 b r := ⟨fun i q => absurd q (Nat.not_lt_zero i), h.elim (fun a => Or.inl ⟨a.1, a.2.1, a.2.2⟩) (fun a => Or.inr ⟨a.1, a.2⟩)⟩
theorem NMI_gd {l r : List Int} {n b : Int} (h : NMI l n b r) : l.getD n.toNat (-1) = b := by
  rcases h.2 with ⟨a, c, -⟩ | ⟨a, c⟩
  · rw [gd_drop0 c, a]
  · exact gd_drop c
theorem NMI_s {l r r' : List Int} {n b z : Int} (h : NMI l n b r) (h0 : 0 ≤ n) (hb : NBY b) (q : STQ z r r') : NMI l (n + 1) z r' := by
  have e := NMI_gd h
  rw [NMI, show (n + 1).toNat = n.toNat + 1 by omega]
  refine ⟨fun i hi => ?_, ?_⟩
  · by_cases c : i = n.toNat
    · rw [c, e]; exact hb
    · exact h.1 i (by omega)
  · rcases h.2 with ⟨a, c, -⟩ | ⟨a, c⟩
    · rw [a] at hb
      exact absurd hb (by decide)
    · rcases q with ⟨q1, q2, q3⟩ | ⟨q1, q2⟩
      · refine Or.inl ⟨q1, ?_, q3⟩
        rw [drop_1 c, q2]
      · refine Or.inr ⟨q1, ?_⟩
        rw [drop_1 c, q2]
theorem NMI_end {l r : List Int} {n b : Int} (h : NMI l n b r) (h0 : 0 ≤ n) (hb : ¬ NBY b) : (TWn l : Int) = n := by
  have e := TWn_is (l := l) (n := n.toNat) h.1 (by rw [NMI_gd h]; exact hb)
  omega
theorem NMI_nx {l r r' : List Int} {n b z : Int} (h : NMI l n b r) (q : STQ z r r') : l.getD (n.toNat + 1) (-1) = z := by
  rcases h.2 with ⟨-, c, d⟩ | ⟨-, c⟩
  · rcases q with ⟨q1, -, -⟩ | ⟨-, q2⟩
    · rw [gd_drop0 (drop_10 c), q1]
    · rw [d] at q2
      cases q2
  · rcases q with ⟨q1, q2, -⟩ | ⟨-, q2⟩
    · rw [gd_drop0 (by rw [drop_1 c]; exact q2), q1]
    · exact gd_drop (by rw [drop_1 c]; exact q2)
theorem NML_y {l r r' : List Int} {n z : Int} (h : NMI l n 58 r) (h0 : 0 ≤ n) (q : STQ z r r') (hz : z = 32) : NML l = n := by
  have e := NMI_end h h0 (by decide)
  have e2 : TWn l = n.toNat := by omega
  unfold NML
  rw [e2, NMI_gd h, NMI_nx h q, if_pos ⟨rfl, hz⟩]
  omega
theorem NML_n {l r r' : List Int} {n b z : Int} (h : NMI l n b r) (h0 : 0 ≤ n) (hb : ¬ NBY b) (hn : b ≠ 58 ∨ (STQ z r r' ∧ z ≠ 32)) : NML l = 0 := by
  have e := NMI_end h h0 hb
  have e2 : TWn l = n.toNat := by omega
  unfold NML
  rw [e2, NMI_gd h, if_neg]
  rintro ⟨c1, c2⟩
  rcases hn with q | ⟨q, q2⟩
  · exact q c1
  · rw [NMI_nx h q] at c2
    exact q2 c2
/-- k bytes are told, b was the last -/
def BYI (l : List Int) (k b : Int) (r : List Int) : Prop := l.drop k.toNat = r ∧ (1 ≤ k → b = l.getD (k - 1).toNat (-1))
theorem BYI_s {l r r' : List Int} {k b z : Int} (h : BYI l k b r) (h0 : 0 ≤ k) (q : STQ z r r') : BYI l (k + 1) z r' := by
  obtain ⟨h1, -⟩ := h
  rw [BYI, show (k + 1).toNat = k.toNat + 1 by omega, show k + 1 - 1 = k by omega]
  rcases q with ⟨q1, q2, q3⟩ | ⟨q1, q2⟩
  · rw [q2] at h1
    exact ⟨by rw [drop_10 h1, q3], fun _ => by rw [gd_drop0 h1, q1]⟩
  · rw [q2] at h1
    exact ⟨drop_1 h1, fun _ => (gd_drop h1).symm⟩

set_option maxHeartbeats 4000000 in
theorem s_M_eisNameByte {ξ : Nat → Option (Nat × List Int32)} (d : Nat) (x : Int) (σ : qH) (rx : -2147483648 ≤ x ∧ x ≤ 2147483647) : T ξ (d + 1) j_M_isNameByte 0 (lv_args 0 [J x]) [] σ (fun v σ' => ∃ (z : Int), v = some (J z) ∧ σ' = σ ∧ 0 ≤ z ∧ z ≤ 1 ∧ (z = 1 → NBY x) ∧ (z = 0 → ¬ NBY x)) := by
  refine T.go 3 (fun n9 => (rfl : _ = exe ξ n9 (d + 1) j_M_isNameByte 5 [(0, J x)] [J 90, J 65, J x] σ)) ?_
  refine T.calls (as := [J x, J 65, J 90]) (r := []) rfl rfl (by decide) rfl rfl (s_M_in d x 65 90 σ (by omega) (by omega) (by omega)) (fun v1 s1 hqs1 => ?_)
  obtain ⟨z1, rfl, esz1, hzz1, hyz1, pz1_0, pz1_1⟩ := hqs1
  rw [esz1]
  refine T.if_ne rfl rfl (by omega) (fun c1 => ?_) (fun c1 => ?_)
  · refine T.go 2 (fun n9 => (rfl : _ = exe ξ n9 (d + 1) j_M_isNameByte 50 [(0, J x)] [J 1] σ)) ?_
    exact T.iretz rfl rfl (by omega) ⟨_, rfl, rfl, by omega, by omega, (fun _ => (by omega : ((65 ≤ x ∧ x ≤ 90) ∨ (97 ≤ x ∧ x ≤ 122) ∨ (48 ≤ x ∧ x ≤ 57) ∨ x = 45 ∨ x = 95))), (fun _ => (by omega : ¬ ((65 ≤ x ∧ x ≤ 90) ∨ (97 ≤ x ∧ x ≤ 122) ∨ (48 ≤ x ∧ x ≤ 57) ∨ x = 45 ∨ x = 95)))⟩
  · refine T.go 3 (fun n9 => (rfl : _ = exe ξ n9 (d + 1) j_M_isNameByte 16 [(0, J x)] [J 122, J 97, J x] σ)) ?_
    refine T.calls (as := [J x, J 97, J 122]) (r := []) rfl rfl (by decide) rfl rfl (s_M_in d x 97 122 σ (by omega) (by omega) (by omega)) (fun v2 s2 hqs2 => ?_)
    obtain ⟨z2, rfl, esz2, hzz2, hyz2, pz2_0, pz2_1⟩ := hqs2
    rw [esz2]
    refine T.if_ne rfl rfl (by omega) (fun c2 => ?_) (fun c2 => ?_)
    · refine T.go 2 (fun n9 => (rfl : _ = exe ξ n9 (d + 1) j_M_isNameByte 50 [(0, J x)] [J 1] σ)) ?_
      exact T.iretz rfl rfl (by omega) ⟨_, rfl, rfl, by omega, by omega, (fun _ => (by omega : ((65 ≤ x ∧ x ≤ 90) ∨ (97 ≤ x ∧ x ≤ 122) ∨ (48 ≤ x ∧ x ≤ 57) ∨ x = 45 ∨ x = 95))), (fun _ => (by omega : ¬ ((65 ≤ x ∧ x ≤ 90) ∨ (97 ≤ x ∧ x ≤ 122) ∨ (48 ≤ x ∧ x ≤ 57) ∨ x = 45 ∨ x = 95)))⟩
    · refine T.go 3 (fun n9 => (rfl : _ = exe ξ n9 (d + 1) j_M_isNameByte 27 [(0, J x)] [J 57, J 48, J x] σ)) ?_
      refine T.calls (as := [J x, J 48, J 57]) (r := []) rfl rfl (by decide) rfl rfl (s_M_in d x 48 57 σ (by omega) (by omega) (by omega)) (fun v3 s3 hqs3 => ?_)
      obtain ⟨z3, rfl, esz3, hzz3, hyz3, pz3_0, pz3_1⟩ := hqs3
      rw [esz3]
      refine T.if_ne rfl rfl (by omega) (fun c3 => ?_) (fun c3 => ?_)
      · refine T.go 2 (fun n9 => (rfl : _ = exe ξ n9 (d + 1) j_M_isNameByte 50 [(0, J x)] [J 1] σ)) ?_
        exact T.iretz rfl rfl (by omega) ⟨_, rfl, rfl, by omega, by omega, (fun _ => (by omega : ((65 ≤ x ∧ x ≤ 90) ∨ (97 ≤ x ∧ x ≤ 122) ∨ (48 ≤ x ∧ x ≤ 57) ∨ x = 45 ∨ x = 95))), (fun _ => (by omega : ¬ ((65 ≤ x ∧ x ≤ 90) ∨ (97 ≤ x ∧ x ≤ 122) ∨ (48 ≤ x ∧ x ≤ 57) ∨ x = 45 ∨ x = 95)))⟩
      · refine T.go 2 (fun n9 => (rfl : _ = exe ξ n9 (d + 1) j_M_isNameByte 36 [(0, J x)] [J 45, J x] σ)) ?_
        refine T.icmp_eq rfl rfl (by omega) (by omega) (fun c4 => ?_) (fun c4 => ?_)
        · refine T.go 2 (fun n9 => (rfl : _ = exe ξ n9 (d + 1) j_M_isNameByte 50 [(0, J x)] [J 1] σ)) ?_
          exact T.iretz rfl rfl (by omega) ⟨_, rfl, rfl, by omega, by omega, (fun _ => (by omega : ((65 ≤ x ∧ x ≤ 90) ∨ (97 ≤ x ∧ x ≤ 122) ∨ (48 ≤ x ∧ x ≤ 57) ∨ x = 45 ∨ x = 95))), (fun _ => (by omega : ¬ ((65 ≤ x ∧ x ≤ 90) ∨ (97 ≤ x ∧ x ≤ 122) ∨ (48 ≤ x ∧ x ≤ 57) ∨ x = 45 ∨ x = 95)))⟩
        · refine T.go 2 (fun n9 => (rfl : _ = exe ξ n9 (d + 1) j_M_isNameByte 42 [(0, J x)] [J 95, J x] σ)) ?_
          refine T.icmp_ne rfl rfl (by omega) (by omega) (fun c5 => ?_) (fun c5 => ?_)
          · refine T.go 1 (fun n9 => (rfl : _ = exe ξ n9 (d + 1) j_M_isNameByte 50 [(0, J x)] [J 0] σ)) ?_
            exact T.iretz rfl rfl (by omega) ⟨_, rfl, rfl, by omega, by omega, (fun _ => (by omega : ((65 ≤ x ∧ x ≤ 90) ∨ (97 ≤ x ∧ x ≤ 122) ∨ (48 ≤ x ∧ x ≤ 57) ∨ x = 45 ∨ x = 95))), (fun _ => (by omega : ¬ ((65 ≤ x ∧ x ≤ 90) ∨ (97 ≤ x ∧ x ≤ 122) ∨ (48 ≤ x ∧ x ≤ 57) ∨ x = 45 ∨ x = 95)))⟩
          · refine T.go 2 (fun n9 => (rfl : _ = exe ξ n9 (d + 1) j_M_isNameByte 50 [(0, J x)] [J 1] σ)) ?_
            exact T.iretz rfl rfl (by omega) ⟨_, rfl, rfl, by omega, by omega, (fun _ => (by omega : ((65 ≤ x ∧ x ≤ 90) ∨ (97 ≤ x ∧ x ≤ 122) ∨ (48 ≤ x ∧ x ≤ 57) ∨ x = 45 ∨ x = 95))), (fun _ => (by omega : ¬ ((65 ≤ x ∧ x ≤ 90) ∨ (97 ≤ x ∧ x ≤ 122) ∨ (48 ≤ x ∧ x ≤ 57) ∨ x = 45 ∨ x = 95)))⟩

set_option maxHeartbeats 4000000 in
theorem s_M_esmall {ξ : Nat → Option (Nat × List Int32)} (d : Nat) (x : Int) (σ : qH) (rx : -2147483648 ≤ x ∧ x ≤ 2147483647) : T ξ (d + 1) j_M_small 0 (lv_args 0 [J x]) [] σ (fun v σ' => ∃ (z : Int), v = some (J z) ∧ σ' = σ ∧ -2147483648 ≤ z ∧ z ≤ 2147483647 ∧ z = sml x) := by
  refine T.go 3 (fun n9 => (rfl : _ = exe ξ n9 (d + 1) j_M_small 5 [(0, J x)] [J 90, J 65, J x] σ)) ?_
  refine T.calls (as := [J x, J 65, J 90]) (r := []) rfl rfl (by decide) rfl rfl (s_M_in d x 65 90 σ (by omega) (by omega) (by omega)) (fun v1 s1 hqs1 => ?_)
  obtain ⟨z1, rfl, esz1, hzz1, hyz1, pz1_0, pz1_1⟩ := hqs1
  rw [esz1]
  refine T.if_eq rfl rfl (by omega) (fun c1 => ?_) (fun c1 => ?_)
  · refine T.go 1 (fun n9 => (rfl : _ = exe ξ n9 (d + 1) j_M_small 19 [(0, J x)] [J x] σ)) ?_
    exact T.ireti rfl rfl ⟨_, rfl, rfl, by omega, by omega, (by unfold sml; first | (rw [if_pos ⟨by omega, by omega⟩]) | (rw [if_neg (by omega)]))⟩
  · refine T.go 2 (fun n9 => (rfl : _ = exe ξ n9 (d + 1) j_M_small 14 [(0, J x)] [J 32, J x] σ)) ?_
    refine T.iadd rfl ?_
    refine T.go 1 (fun n9 => (rfl : _ = exe ξ n9 (d + 1) j_M_small 19 [(0, J x)] [J (x + 32)] σ)) ?_
    exact T.ireti rfl rfl ⟨_, rfl, rfl, by omega, by omega, (by unfold sml; first | (rw [if_pos ⟨by omega, by omega⟩]) | (rw [if_neg (by omega)]))⟩

set_option maxHeartbeats 4000000 in
theorem s_M_enameOf {ξ : Nat → Option (Nat × List Int32)} {c io mo fa pl ns rw en wy wh bi ed sz md bd li wk we : Int} {Lc : List Int64} {la lm ln lh ld lk lt : List Int32} (d : Nat) (x : Int) (y : Int) (σ : qH) (hM : MS σ c io mo fa pl ns rw en wy wh bi ed sz md bd li wk we Lc la lm ln lh ld lk lt) (rx : -2147483648 ≤ x ∧ x ≤ 2147483647) (ry : -2147483648 ≤ y ∧ y ≤ 2147483647) (pre0 : 0 ≤ x) (pre1 : x ≤ 8000) (pre2 : y ≤ 8000) : T ξ (d + 3) j_M_nameOf 0 (lv_args 0 [.ref 137, J x, J y]) [] σ (fun v σ' => ∃ (z : Int) (wk1 : Int) (we1 : Int), v = some (J z) ∧ MS σ' c io mo fa pl ns rw en wy wh bi ed sz md bd li wk1 we1 Lc la lm ln lh ld lk lt ∧ FM σ σ' ∧ 0 ≤ z ∧ z ≤ 8001 ∧ z = NML (LIN (gc Lc 5) (gl la 5) y x) ∧ 0 ≤ wk1 ∧ wk1 ≤ we1 + 1 ∧ 0 ≤ we1 ∧ we1 ≤ 8000) := by
  have r0 := hM.rg
  have n0 := hM.len
  have loop14 : ∀ (f14 : Nat) (n : Int) (b4 : Int) (wk9 : Int) (we9 : Int) (τ : qH), MS τ c io mo fa pl ns rw en wy wh bi ed sz md bd li wk9 we9 Lc la lm ln lh ld lk lt → FM σ τ → 0 ≤ wk9 → wk9 ≤ we9 + 1 → 0 ≤ we9 → we9 ≤ 8000 → 0 ≤ n → n ≤ wk9 → (b4 = -1 ∨ n + 1 ≤ wk9 ∧ wk9 ≤ 8000) → -1 ≤ b4 → b4 ≤ 255 → NMI (LIN (gc Lc 5) (gl la 5) y x) n b4 (REM (gc Lc 5) (gl la 5) y wk9 we9) → (2 * (8001 - wk9) + (b4 + 256) / 256).toNat < f14 → T ξ (d + 3) j_M_nameOf 14 [(0, .ref 137), (1, J x), (2, J y), (3, J n), (4, J b4)] [] τ (fun v σ' => ∃ (z : Int) (wk1 : Int) (we1 : Int), v = some (J z) ∧ MS σ' c io mo fa pl ns rw en wy wh bi ed sz md bd li wk1 we1 Lc la lm ln lh ld lk lt ∧ FM σ σ' ∧ 0 ≤ z ∧ z ≤ 8001 ∧ z = NML (LIN (gc Lc 5) (gl la 5) y x) ∧ 0 ≤ wk1 ∧ wk1 ≤ we1 + 1 ∧ 0 ≤ we1 ∧ we1 ≤ 8000) := by
    intro f14
    induction f14 with
    | zero => intro n b4 wk9 we9 τ mτ fτ i0 i1 i2 i3 i4 i5 i6 i7 i8 i9 hm14; omega
    | succ f14 ih14 =>
      intro n b4 wk9 we9 τ mτ fτ i0 i1 i2 i3 i4 i5 i6 i7 i8 i9 hm14
      have rτ := mτ.rg
      have nτ := mτ.len
      refine T.go 1 (fun n9 => (rfl : _ = exe ξ n9 (d + 3) j_M_nameOf 16 [(0, .ref 137), (1, J x), (2, J y), (3, J n), (4, J b4)] [J b4] τ)) ?_
      refine T.calls (as := [J b4]) (r := []) rfl rfl (by decide) rfl rfl (s_M_eisNameByte (d + 1) b4 τ (by omega)) (fun v1 s1 hqs1 => ?_)
      obtain ⟨z1, rfl, esz1, hzz1, hyz1, pz1_0, pz1_1⟩ := hqs1
      rw [esz1]
      refine T.if_eq rfl rfl (by omega) (fun c1 => ?_) (fun c1 => ?_)
      · refine T.go 2 (fun n9 => (rfl : _ = exe ξ n9 (d + 3) j_M_nameOf 39 [(0, .ref 137), (1, J x), (2, J y), (3, J n), (4, J b4)] [J 58, J b4] τ)) ?_
        refine T.icmp_ne rfl rfl (by omega) (by omega) (fun c2 => ?_) (fun c2 => ?_)
        · refine T.go 1 (fun n9 => (rfl : _ = exe ξ n9 (d + 3) j_M_nameOf 57 [(0, .ref 137), (1, J x), (2, J y), (3, J n), (4, J b4)] [J 0] τ)) ?_
          exact T.ireti rfl rfl ⟨_, wk9, we9, rfl, mτ, fτ, by omega, by omega, (NML_n (z := 0) (r' := []) i9 (by omega) (pz1_1 (by omega)) (Or.inl (by omega))).symm, by omega, by omega, by omega, by omega⟩
        · refine T.go 2 (fun n9 => (rfl : _ = exe ξ n9 (d + 3) j_M_nameOf 44 [(0, .ref 137), (1, J x), (2, J y), (3, J n), (4, J b4)] [J y, .ref 137] τ)) ?_
          refine T.callv (as := [J y]) (r := []) rfl rfl rfl rfl mτ.ob rfl (s_M_estep d y τ mτ (by omega) (by omega) (by omega) (by omega) (by omega) (by omega)) (fun v2 s2 hqs2 => ?_)
          obtain ⟨z2, wk_1, we_1, rfl, ms2, fs2, hzz2, hyz2, pz2_0, pz2_1, pz2_2, pz2_3, pz2_4, pz2_5⟩ := hqs2
          have ns2 := ms2.len
          have rs2 := ms2.rg
          have gs2 := fτ.trans fs2
          refine T.go 1 (fun n9 => (rfl : _ = exe ξ n9 (d + 3) j_M_nameOf 49 [(0, .ref 137), (1, J x), (2, J y), (3, J n), (4, J b4)] [J 32, J z2] s2)) ?_
          refine T.icmp_ne rfl rfl (by omega) (by omega) (fun c3 => ?_) (fun c3 => ?_)
          · refine T.go 1 (fun n9 => (rfl : _ = exe ξ n9 (d + 3) j_M_nameOf 57 [(0, .ref 137), (1, J x), (2, J y), (3, J n), (4, J b4)] [J 0] s2)) ?_
            exact T.ireti rfl rfl ⟨_, wk_1, we_1, rfl, ms2, gs2, by omega, by omega, (NML_n i9 (by omega) (pz1_1 (by omega)) (Or.inr ⟨pz2_5, by omega⟩)).symm, by omega, by omega, by omega, by omega⟩
          · refine T.go 2 (fun n9 => (rfl : _ = exe ξ n9 (d + 3) j_M_nameOf 57 [(0, .ref 137), (1, J x), (2, J y), (3, J n), (4, J b4)] [J n] s2)) ?_
            exact T.ireti rfl rfl ⟨_, wk_1, we_1, rfl, ms2, gs2, by omega, by omega, (by have e5 : b4 = 58 := (by omega); rw [e5] at i9; exact (NML_y i9 (by omega) pz2_5 (by omega)).symm), by omega, by omega, by omega, by omega⟩
      · refine T.iinc (lv' := [(0, .ref 137), (1, J x), (2, J y), (3, J (n + 1)), (4, J b4)]) rfl rfl rfl rfl ?_
        refine T.go 2 (fun n9 => (rfl : _ = exe ξ n9 (d + 3) j_M_nameOf 27 [(0, .ref 137), (1, J x), (2, J y), (3, J (n + 1)), (4, J b4)] [J y, .ref 137] τ)) ?_
        refine T.callv (as := [J y]) (r := []) rfl rfl rfl rfl mτ.ob rfl (s_M_estep d y τ mτ (by omega) (by omega) (by omega) (by omega) (by omega) (by omega)) (fun v3 s3 hqs3 => ?_)
        obtain ⟨z3, wk_2, we_2, rfl, ms3, fs3, hzz3, hyz3, pz3_0, pz3_1, pz3_2, pz3_3, pz3_4, pz3_5⟩ := hqs3
        have ns3 := ms3.len
        have rs3 := ms3.rg
        have gs3 := fτ.trans fs3
        refine T.go 2 (fun n9 => (rfl : _ = exe ξ n9 (d + 3) j_M_nameOf 14 [(0, .ref 137), (1, J x), (2, J y), (3, J (n + 1)), (4, J z3)] [] s3)) ?_
        exact ih14  (n + 1) z3 wk_2 we_2 s3 ms3 gs3 (by omega) (by omega) (by omega) (by omega) (by omega) (by omega) (by omega) (by omega) (by omega) (NMI_s i9 (by omega) (pz1_0 (by omega)) pz3_5) (by omega)
  refine T.go 2 (fun n9 => (rfl : _ = exe ξ n9 (d + 3) j_M_nameOf 2 [(0, .ref 137), (1, J x), (2, J y)] [J x, .ref 137] σ)) ?_
  refine T.callv (as := [J x]) (r := []) rfl rfl rfl rfl hM.ob rfl (s_M_eenter d x σ hM (by omega) (by omega) (by omega)) (fun v4 s4 hqs4 => ?_)
  obtain ⟨wk_3, we_3, rfl, ms4, fs4, pz4_0, pz4_1, pz4_2, pz4_3⟩ := hqs4
  have ns4 := ms4.len
  have rs4 := ms4.rg
  refine T.go 4 (fun n9 => (rfl : _ = exe ξ n9 (d + 3) j_M_nameOf 9 [(0, .ref 137), (1, J x), (2, J y), (3, J 0)] [J y, .ref 137] s4)) ?_
  refine T.callv (as := [J y]) (r := []) rfl rfl rfl rfl ms4.ob rfl (s_M_estep d y s4 ms4 (by omega) (by omega) (by omega) (by omega) (by omega) (by omega)) (fun v5 s5 hqs5 => ?_)
  obtain ⟨z5, wk_4, we_4, rfl, ms5, fs5, hzz5, hyz5, pz5_0, pz5_1, pz5_2, pz5_3, pz5_4, pz5_5⟩ := hqs5
  have ns5 := ms5.len
  have rs5 := ms5.rg
  have gs5 := fs4.trans fs5
  refine T.go 1 (fun n9 => (rfl : _ = exe ξ n9 (d + 3) j_M_nameOf 14 [(0, .ref 137), (1, J x), (2, J y), (3, J 0), (4, J z5)] [] s5)) ?_
  exact loop14 _ 0 z5 wk_4 we_4 s5 ms5 gs5 (by omega) (by omega) (by omega) (by omega) (by omega) (by omega) (by omega) (by omega) (by omega) (NMI_0 (by have q := pz5_5; rw [pz4_3 y] at q; exact q)) (Nat.lt_succ_self _)

set_option maxHeartbeats 4000000 in
theorem s_M_ebyteOf {ξ : Nat → Option (Nat × List Int32)} {c io mo fa pl ns rw en wy wh bi ed sz md bd li wk we : Int} {Lc : List Int64} {la lm ln lh ld lk lt : List Int32} (d : Nat) (x : Int) (y : Int) (u : Int) (σ : qH) (hM : MS σ c io mo fa pl ns rw en wy wh bi ed sz md bd li wk we Lc la lm ln lh ld lk lt) (rx : -2147483648 ≤ x ∧ x ≤ 2147483647) (ry : -2147483648 ≤ y ∧ y ≤ 2147483647) (ru : -2147483648 ≤ u ∧ u ≤ 2147483647) (pre0 : 0 ≤ x) (pre1 : x ≤ 8000) (pre2 : y ≤ 8000) (pre3 : 0 ≤ u) (pre4 : u ≤ 10000) : T ξ (d + 3) j_M_byteOf 0 (lv_args 0 [.ref 137, J x, J y, J u]) [] σ (fun v σ' => ∃ (z : Int) (wk1 : Int) (we1 : Int), v = some (J z) ∧ MS σ' c io mo fa pl ns rw en wy wh bi ed sz md bd li wk1 we1 Lc la lm ln lh ld lk lt ∧ FM σ σ' ∧ -1 ≤ z ∧ z ≤ 255 ∧ z = (LIN (gc Lc 5) (gl la 5) y x).getD u.toNat (-1)) := by
  have r0 := hM.rg
  have n0 := hM.len
  have loop11 : ∀ (f11 : Nat) (b4 : Int) (k : Int) (wk9 : Int) (we9 : Int) (τ : qH), MS τ c io mo fa pl ns rw en wy wh bi ed sz md bd li wk9 we9 Lc la lm ln lh ld lk lt → FM σ τ → 0 ≤ wk9 → wk9 ≤ we9 + 1 → 0 ≤ we9 → we9 ≤ 8000 → 0 ≤ k → k ≤ u + 1 → -1 ≤ b4 → b4 ≤ 255 → BYI (LIN (gc Lc 5) (gl la 5) y x) k b4 (REM (gc Lc 5) (gl la 5) y wk9 we9) → (u + 1 - k).toNat < f11 → T ξ (d + 3) j_M_byteOf 11 [(0, .ref 137), (1, J x), (2, J y), (3, J u), (4, J b4), (5, J k)] [] τ (fun v σ' => ∃ (z : Int) (wk1 : Int) (we1 : Int), v = some (J z) ∧ MS σ' c io mo fa pl ns rw en wy wh bi ed sz md bd li wk1 we1 Lc la lm ln lh ld lk lt ∧ FM σ σ' ∧ -1 ≤ z ∧ z ≤ 255 ∧ z = (LIN (gc Lc 5) (gl la 5) y x).getD u.toNat (-1)) := by
    intro f11
    induction f11 with
    | zero => intro b4 k wk9 we9 τ mτ fτ i0 i1 i2 i3 i4 i5 i6 i7 i8 hm11; omega
    | succ f11 ih11 =>
      intro b4 k wk9 we9 τ mτ fτ i0 i1 i2 i3 i4 i5 i6 i7 i8 hm11
      have rτ := mτ.rg
      have nτ := mτ.len
      refine T.go 2 (fun n9 => (rfl : _ = exe ξ n9 (d + 3) j_M_byteOf 14 [(0, .ref 137), (1, J x), (2, J y), (3, J u), (4, J b4), (5, J k)] [J u, J k] τ)) ?_
      refine T.icmp_gt rfl rfl (by omega) (by omega) (fun c1 => ?_) (fun c1 => ?_)
      · refine T.go 1 (fun n9 => (rfl : _ = exe ξ n9 (d + 3) j_M_byteOf 32 [(0, .ref 137), (1, J x), (2, J y), (3, J u), (4, J b4), (5, J k)] [J b4] τ)) ?_
        exact T.ireti rfl rfl ⟨_, wk9, we9, rfl, mτ, fτ, by omega, by omega, (by have q := i8.2 (by omega); rw [show k - 1 = u by omega] at q; exact q)⟩
      · refine T.go 2 (fun n9 => (rfl : _ = exe ξ n9 (d + 3) j_M_byteOf 19 [(0, .ref 137), (1, J x), (2, J y), (3, J u), (4, J b4), (5, J k)] [J y, .ref 137] τ)) ?_
        refine T.callv (as := [J y]) (r := []) rfl rfl rfl rfl mτ.ob rfl (s_M_estep d y τ mτ (by omega) (by omega) (by omega) (by omega) (by omega) (by omega)) (fun v1 s1 hqs1 => ?_)
        obtain ⟨z1, wk_1, we_1, rfl, ms1, fs1, hzz1, hyz1, pz1_0, pz1_1, pz1_2, pz1_3, pz1_4, pz1_5⟩ := hqs1
        have ns1 := ms1.len
        have rs1 := ms1.rg
        have gs1 := fτ.trans fs1
        refine T.go 1 (fun n9 => (rfl : _ = exe ξ n9 (d + 3) j_M_byteOf 24 [(0, .ref 137), (1, J x), (2, J y), (3, J u), (4, J z1), (5, J k)] [] s1)) ?_
        refine T.iinc (lv' := [(0, .ref 137), (1, J x), (2, J y), (3, J u), (4, J z1), (5, J (k + 1))]) rfl rfl rfl rfl ?_
        refine T.go 1 (fun n9 => (rfl : _ = exe ξ n9 (d + 3) j_M_byteOf 11 [(0, .ref 137), (1, J x), (2, J y), (3, J u), (4, J z1), (5, J (k + 1))] [] s1)) ?_
        exact ih11  z1 (k + 1) wk_1 we_1 s1 ms1 gs1 (by omega) (by omega) (by omega) (by omega) (by omega) (by omega) (by omega) (by omega) (BYI_s i8 (by omega) pz1_5) (by omega)
  refine T.go 2 (fun n9 => (rfl : _ = exe ξ n9 (d + 3) j_M_byteOf 2 [(0, .ref 137), (1, J x), (2, J y), (3, J u)] [J x, .ref 137] σ)) ?_
  refine T.callv (as := [J x]) (r := []) rfl rfl rfl rfl hM.ob rfl (s_M_eenter d x σ hM (by omega) (by omega) (by omega)) (fun v2 s2 hqs2 => ?_)
  obtain ⟨wk_2, we_2, rfl, ms2, fs2, pz2_0, pz2_1, pz2_2, pz2_3⟩ := hqs2
  have ns2 := ms2.len
  have rs2 := ms2.rg
  refine T.go 4 (fun n9 => (rfl : _ = exe ξ n9 (d + 3) j_M_byteOf 11 [(0, .ref 137), (1, J x), (2, J y), (3, J u), (4, J 0), (5, J 0)] [] s2)) ?_
  exact loop11 _ 0 0 wk_2 we_2 s2 ms2 fs2 (by omega) (by omega) (by omega) (by omega) (by omega) (by omega) (by omega) (by omega) ⟨(pz2_3 y).symm, fun q => absurd q (by omega)⟩ (Nat.lt_succ_self _)

set_option maxHeartbeats 4000000 in
theorem s_M_esameNames {ξ : Nat → Option (Nat × List Int32)} {c io mo fa pl ns rw en wy wh bi ed sz md bd li wk we : Int} {Lc : List Int64} {la lm ln lh ld lk lt : List Int32} (d : Nat) (x : Int) (y : Int) (u : Int) (σ : qH) (hM : MS σ c io mo fa pl ns rw en wy wh bi ed sz md bd li wk we Lc la lm ln lh ld lk lt) (rx : -2147483648 ≤ x ∧ x ≤ 2147483647) (ry : -2147483648 ≤ y ∧ y ≤ 2147483647) (ru : -2147483648 ≤ u ∧ u ≤ 2147483647) (pre0 : 0 ≤ x) (pre1 : x ≤ 8000) (pre2 : 0 ≤ y) (pre3 : y ≤ 8000) (pre4 : u ≤ 8000) : T ξ (d + 4) j_M_sameNames 0 (lv_args 0 [.ref 137, J x, J y, J u]) [] σ (fun v σ' => ∃ (z : Int) (wk1 : Int) (we1 : Int), v = some (J z) ∧ MS σ' c io mo fa pl ns rw en wy wh bi ed sz md bd li wk1 we1 Lc la lm ln lh ld lk lt ∧ FM σ σ' ∧ 0 ≤ z ∧ z ≤ 1 ∧ (z = 1 → SAM (LIN (gc Lc 5) (gl la 5) u x) (LIN (gc Lc 5) (gl la 5) u y)) ∧ (z = 0 → ¬ SAM (LIN (gc Lc 5) (gl la 5) u x) (LIN (gc Lc 5) (gl la 5) u y))) := by
  have r0 := hM.rg
  have n0 := hM.len
  have loop24 : ∀ (f24 : Nat) (n : Int) (k : Int) (wk9 : Int) (we9 : Int) (τ : qH), MS τ c io mo fa pl ns rw en wy wh bi ed sz md bd li wk9 we9 Lc la lm ln lh ld lk lt → FM σ τ → 0 ≤ n → n ≤ 8001 → 0 ≤ k → k ≤ n → SMN (LIN (gc Lc 5) (gl la 5) u x) (LIN (gc Lc 5) (gl la 5) u y) k → n = NML (LIN (gc Lc 5) (gl la 5) u x) → NML (LIN (gc Lc 5) (gl la 5) u x) = NML (LIN (gc Lc 5) (gl la 5) u y) → (n - k).toNat < f24 → T ξ (d + 4) j_M_sameNames 24 [(0, .ref 137), (1, J x), (2, J y), (3, J u), (4, J n), (5, J k)] [] τ (fun v σ' => ∃ (z : Int) (wk1 : Int) (we1 : Int), v = some (J z) ∧ MS σ' c io mo fa pl ns rw en wy wh bi ed sz md bd li wk1 we1 Lc la lm ln lh ld lk lt ∧ FM σ σ' ∧ 0 ≤ z ∧ z ≤ 1 ∧ (z = 1 → SAM (LIN (gc Lc 5) (gl la 5) u x) (LIN (gc Lc 5) (gl la 5) u y)) ∧ (z = 0 → ¬ SAM (LIN (gc Lc 5) (gl la 5) u x) (LIN (gc Lc 5) (gl la 5) u y))) := by
    intro f24
    induction f24 with
    | zero => intro n k wk9 we9 τ mτ fτ i0 i1 i2 i3 i4 i5 i6 hm24; omega
    | succ f24 ih24 =>
      intro n k wk9 we9 τ mτ fτ i0 i1 i2 i3 i4 i5 i6 hm24
      have rτ := mτ.rg
      have nτ := mτ.len
      refine T.go 2 (fun n9 => (rfl : _ = exe ξ n9 (d + 4) j_M_sameNames 28 [(0, .ref 137), (1, J x), (2, J y), (3, J u), (4, J n), (5, J k)] [J n, J k] τ)) ?_
      refine T.icmp_ge rfl rfl (by omega) (by omega) (fun c1 => ?_) (fun c1 => ?_)
      · refine T.go 1 (fun n9 => (rfl : _ = exe ξ n9 (d + 4) j_M_sameNames 65 [(0, .ref 137), (1, J x), (2, J y), (3, J u), (4, J n), (5, J k)] [J 1] τ)) ?_
        exact T.iretz rfl rfl (by omega) ⟨_, wk9, we9, rfl, mτ, fτ, by omega, by omega, (fun _ => ⟨by omega, by rw [← i5, show n = k by omega]; exact i4⟩), (fun q => absurd q (by decide))⟩
      · refine T.go 4 (fun n9 => (rfl : _ = exe ξ n9 (d + 4) j_M_sameNames 36 [(0, .ref 137), (1, J x), (2, J y), (3, J u), (4, J n), (5, J k)] [J k, J u, J x, .ref 137] τ)) ?_
        refine T.callv (as := [J x, J u, J k]) (r := []) rfl rfl rfl rfl mτ.ob rfl (s_M_ebyteOf d x u k τ mτ (by omega) (by omega) (by omega) (by omega) (by omega) (by omega) (by omega) (by omega)) (fun v1 s1 hqs1 => ?_)
        obtain ⟨z1, wk_1, we_1, rfl, ms1, fs1, hzz1, hyz1, pz1_0⟩ := hqs1
        have ns1 := ms1.len
        have rs1 := ms1.rg
        have gs1 := fτ.trans fs1
        refine T.calls (as := [J z1]) (r := []) rfl rfl (by decide) rfl rfl (s_M_esmall (d + 2) z1 s1 (by omega)) (fun v2 s2 hqs2 => ?_)
        obtain ⟨z2, rfl, esz2, hzz2, hyz2, pz2_0⟩ := hqs2
        rw [esz2]
        refine T.go 4 (fun n9 => (rfl : _ = exe ξ n9 (d + 4) j_M_sameNames 47 [(0, .ref 137), (1, J x), (2, J y), (3, J u), (4, J n), (5, J k)] [J k, J u, J y, .ref 137, J z2] s1)) ?_
        refine T.callv (as := [J y, J u, J k]) (r := [J z2]) rfl rfl rfl rfl ms1.ob rfl (s_M_ebyteOf d y u k s1 ms1 (by omega) (by omega) (by omega) (by omega) (by omega) (by omega) (by omega) (by omega)) (fun v3 s3 hqs3 => ?_)
        obtain ⟨z3, wk_2, we_2, rfl, ms3, fs3, hzz3, hyz3, pz3_0⟩ := hqs3
        have ns3 := ms3.len
        have rs3 := ms3.rg
        have gs3 := gs1.trans fs3
        refine T.calls (as := [J z3]) (r := [J z2]) rfl rfl (by decide) rfl rfl (s_M_esmall (d + 2) z3 s3 (by omega)) (fun v4 s4 hqs4 => ?_)
        obtain ⟨z4, rfl, esz4, hzz4, hyz4, pz4_0⟩ := hqs4
        rw [esz4]
        refine T.icmp_eq rfl rfl (by omega) (by omega) (fun c2 => ?_) (fun c2 => ?_)
        · refine T.iinc (lv' := [(0, .ref 137), (1, J x), (2, J y), (3, J u), (4, J n), (5, J (k + 1))]) rfl rfl rfl rfl ?_
          refine T.go 1 (fun n9 => (rfl : _ = exe ξ n9 (d + 4) j_M_sameNames 24 [(0, .ref 137), (1, J x), (2, J y), (3, J u), (4, J n), (5, J (k + 1))] [] s3)) ?_
          exact ih24  n (k + 1) wk_2 we_2 s3 ms3 gs3 (by omega) (by omega) (by omega) (by omega) (fun i a b => by by_cases q : i = k; (· rw [q, ← pz1_0, ← pz3_0, ← pz2_0, ← pz4_0]; omega); exact i4 i a (by omega)) i5 i6 (by omega)
        · refine T.go 1 (fun n9 => (rfl : _ = exe ξ n9 (d + 4) j_M_sameNames 57 [(0, .ref 137), (1, J x), (2, J y), (3, J u), (4, J n), (5, J k)] [J 0] s3)) ?_
          exact T.iretz rfl rfl (by omega) ⟨_, wk_2, we_2, rfl, ms3, gs3, by omega, by omega, (fun q => absurd q (by decide)), (fun _ q => by have e := q.2 k (by omega) (by omega); rw [← pz1_0, ← pz3_0, ← pz2_0, ← pz4_0] at e; omega)⟩
  refine T.go 3 (fun n9 => (rfl : _ = exe ξ n9 (d + 4) j_M_sameNames 3 [(0, .ref 137), (1, J x), (2, J y), (3, J u)] [J u, J x, .ref 137] σ)) ?_
  refine T.callv (as := [J x, J u]) (r := []) rfl rfl rfl rfl hM.ob rfl (s_M_enameOf d x u σ hM (by omega) (by omega) (by omega) (by omega) (by omega)) (fun v5 s5 hqs5 => ?_)
  obtain ⟨z5, wk_3, we_3, rfl, ms5, fs5, hzz5, hyz5, pz5_0, pz5_1, pz5_2, pz5_3, pz5_4⟩ := hqs5
  have ns5 := ms5.len
  have rs5 := ms5.rg
  refine T.go 5 (fun n9 => (rfl : _ = exe ξ n9 (d + 4) j_M_sameNames 13 [(0, .ref 137), (1, J x), (2, J y), (3, J u), (4, J z5)] [J u, J y, .ref 137, J z5] s5)) ?_
  refine T.callv (as := [J y, J u]) (r := [J z5]) rfl rfl rfl rfl ms5.ob rfl (s_M_enameOf d y u s5 ms5 (by omega) (by omega) (by omega) (by omega) (by omega)) (fun v6 s6 hqs6 => ?_)
  obtain ⟨z6, wk_4, we_4, rfl, ms6, fs6, hzz6, hyz6, pz6_0, pz6_1, pz6_2, pz6_3, pz6_4⟩ := hqs6
  have ns6 := ms6.len
  have rs6 := ms6.rg
  have gs6 := fs5.trans fs6
  refine T.icmp_eq rfl rfl (by omega) (by omega) (fun c3 => ?_) (fun c3 => ?_)
  · refine T.go 2 (fun n9 => (rfl : _ = exe ξ n9 (d + 4) j_M_sameNames 24 [(0, .ref 137), (1, J x), (2, J y), (3, J u), (4, J z5), (5, J 0)] [] s6)) ?_
    exact loop24 _ z5 0 wk_4 we_4 s6 ms6 gs6 (by omega) (by omega) (by omega) (by omega) (fun i a b => absurd b (by omega)) (pz5_0) (by have e1 := pz5_0; have e2 := pz6_0; omega) (Nat.lt_succ_self _)
  · refine T.go 1 (fun n9 => (rfl : _ = exe ξ n9 (d + 4) j_M_sameNames 20 [(0, .ref 137), (1, J x), (2, J y), (3, J u), (4, J z5)] [J 0] s6)) ?_
    exact T.iretz rfl rfl (by omega) ⟨_, wk_4, we_4, rfl, ms6, gs6, by omega, by omega, (fun q => absurd q (by decide)), (fun _ q => by have e := q.1; rw [← pz5_0, ← pz6_0] at e; omega)⟩
