/-! The manifest: the model, wrong or not, asked, the value. -/
theorem NXT_ge (u : Int → Int) (f e a : Int) : a ≤ NXT u f e a := by
  obtain ⟨n, hn⟩ : ∃ n : Nat, (e - a).toNat = n := ⟨_, rfl⟩
  induction n using Nat.strongRecOn generalizing a with
  | ind n ih =>
    by_cases h : a < e ∧ u a = 32
    · have l := (LSt_r u f a).1
      have q := ih (e - (LSt u f a + 1)).toNat (by omega) (LSt u f a + 1) rfl
      rw [NXT_go h]
      omega
    · rw [NXT_no h]
      exact Int.le_refl _
theorem BHD_gt (u : Int → Int) (f e b : Int) : b < BHD u f e b := by
  have l := (LSt_r u f b).1
  have q := NXT_ge u f e (LSt u f b + 1)
  unfold BHD
  omega
theorem BRl_lt (u : Int → Int) (f e : Int) {i j : Nat} (h : i < j) : BRl u f e i < BRl u f e j := by
  induction j with
  | zero => exact absurd h (Nat.not_lt_zero i)
  | succ j ih =>
    have q := BHD_gt u f e (BRl u f e j)
    have e1 : BRl u f e (j + 1) = BHD u f e (BRl u f e j) := rfl
    by_cases c : i = j
    · rw [c, e1]; exact q
    · have := ih (by omega)
      rw [e1]
      omega
theorem BRl_le {u : Int → Int} {f e : Int} {i j : Nat} (h : BRl u f e i < BRl u f e j) : i < j := by
  rcases Nat.lt_trichotomy i j with c | c | c
  · exact c
  · rw [c] at h
    omega
  · have := BRl_lt u f e c
    omega
def OKL (u : Int → Int) (f e : Int) (i : Nat) : Prop := NML (LIN u f e (BRl u f e i)) ≠ 0 ∧ ∀ j : Nat, j < i → ¬ SAM (LIN u f e (BRl u f e i)) (LIN u f e (BRl u f e j))
def MWA (u : Int → Int) (f e a : Int) : Prop := ∃ i : Nat, a = BRl u f e i ∧ ∀ i' : Nat, i' < i → OKL u f e i'
def MWB (u : Int → Int) (f e a b : Int) : Prop := ∃ i j : Nat, a = BRl u f e i ∧ b = BRl u f e j ∧ j ≤ i ∧ (∀ i' : Nat, i' < i → OKL u f e i') ∧ NML (LIN u f e a) ≠ 0 ∧ ∀ j' : Nat, j' < j → ¬ SAM (LIN u f e a) (LIN u f e (BRl u f e j'))
theorem MWA_0 (u : Int → Int) (f e : Int) : MWA u f e 0 := ⟨0, rfl, fun i h => absurd h (Nat.not_lt_zero i)⟩
theorem MWA_bad {u : Int → Int} {f e a : Int} (h : MWA u f e a) (ha : a < e) (q : NML (LIN u f e a) = 0) : ¬ MFV u f e := fun m => by
  obtain ⟨i, rfl, -⟩ := h
  exact (m.2.2 i ha).1 q
theorem MWA_b {u : Int → Int} {f e a : Int} (h : MWA u f e a) (q : NML (LIN u f e a) ≠ 0) : MWB u f e a 0 := by
  obtain ⟨i, e1, h⟩ := h
  exact ⟨i, 0, e1, rfl, Nat.zero_le _, h, q, fun j z => absurd z (Nat.not_lt_zero j)⟩
theorem MWB_s {u : Int → Int} {f e a b : Int} (h : MWB u f e a b) (hb : b < a) (q : ¬ SAM (LIN u f e a) (LIN u f e b)) : MWB u f e a (BHD u f e b) := by
  obtain ⟨i, j, e1, e2, h1, h2, h3, h4⟩ := h
  have hj : j < i := BRl_le (u := u) (f := f) (e := e) (by rw [← e1, ← e2]; exact hb)
  refine ⟨i, j + 1, e1, by rw [e2]; rfl, by omega, h2, h3, fun j' hj' => ?_⟩
  by_cases c : j' = j
  · rw [c, ← e2]; exact q
  · exact h4 j' (by omega)
theorem MWB_bad {u : Int → Int} {f e a b : Int} (h : MWB u f e a b) (ha : a < e) (hb : b < a) (q : SAM (LIN u f e a) (LIN u f e b)) : ¬ MFV u f e := fun m => by
  obtain ⟨i, j, e1, e2, -⟩ := h
  have hj : j < i := BRl_le (u := u) (f := f) (e := e) (by rw [← e1, ← e2]; exact hb)
  rw [e1, e2] at q
  exact (m.2.2 i (by rw [← e1]; exact ha)).2 j hj q
theorem MWB_end {u : Int → Int} {f e a b : Int} (h : MWB u f e a b) (hb : a ≤ b) : MWA u f e (BHD u f e a) := by
  obtain ⟨i, j, e1, e2, h1, h2, h3, h4⟩ := h
  have hj : j = i := by
    rcases Nat.lt_trichotomy j i with c | c | c
    · have := BRl_lt u f e c
      omega
    · exact c
    · omega
  refine ⟨i + 1, by rw [e1]; rfl, fun i' hi' => ?_⟩
  by_cases c : i' = i
  · rw [c]
    refine ⟨by rw [← e1]; exact h3, fun j' hj' => ?_⟩
    rw [← e1]
    exact h4 j' (by omega)
  · exact h2 i' (by omega)
theorem MWA_end {u : Int → Int} {f e a : Int} (h : MWA u f e a) (ha : e ≤ a) (n1 : NOL u f) (n2 : ¬ (0 < f ∧ u 0 = 32)) : MFV u f e := by
  obtain ⟨i, e1, h⟩ := h
  refine ⟨n1, n2, fun i' hi' => h i' ?_⟩
  exact BRl_le (u := u) (f := f) (e := e) (by rw [← e1]; omega)
/-- the line's name is the one that is asked for -/
def ASK (l : List Int) (v : Int → Int) (n : Int) : Prop := NML l = n ∧ ∀ i : Int, 0 ≤ i → i < n → sml (l.getD i.toNat (-1)) = sml (v i)

set_option maxHeartbeats 4000000 in
theorem s_M_eisManifestWrong {ξ : Nat → Option (Nat × List Int32)} {c io mo fa pl ns rw en wy wh bi ed sz md bd li wk we : Int} {Lc : List Int64} {la lm ln lh ld lk lt : List Int32} (d : Nat) (x : Int) (σ : qH) (hM : MS σ c io mo fa pl ns rw en wy wh bi ed sz md bd li wk we Lc la lm ln lh ld lk lt) (rx : -2147483648 ≤ x ∧ x ≤ 2147483647) (pre0 : 0 ≤ x) (pre1 : x ≤ 8000) : T ξ (d + 5) j_M_isManifestWrong 0 (lv_args 0 [.ref 137, J x]) [] σ (fun v σ' => ∃ (z : Int) (wk1 : Int) (we1 : Int), v = some (J z) ∧ MS σ' c io mo fa pl ns rw en wy wh bi ed sz md bd li wk1 we1 Lc la lm ln lh ld lk lt ∧ FM σ σ' ∧ 0 ≤ z ∧ z ≤ 1 ∧ (z = 0 → MFV (gc Lc 5) (gl la 5) x) ∧ (z = 1 → ¬ MFV (gc Lc 5) (gl la 5) x)) := by
  have r0 := hM.rg
  have n0 := hM.len
  have h5 := gl_b hM.b139 5
  have loop25 : ∀ (f25 : Nat) (a : Int) (wk9 : Int) (we9 : Int) (τ : qH), MS τ c io mo fa pl ns rw en wy wh bi ed sz md bd li wk9 we9 Lc la lm ln lh ld lk lt → FM σ τ → 0 ≤ a → a ≤ 8002 → MWA (gc Lc 5) (gl la 5) x a → NOL (gc Lc 5) (gl la 5) → ¬ (0 < gl la 5 ∧ gc Lc 5 0 = 32) → (x - a).toNat < f25 → T ξ (d + 5) j_M_isManifestWrong 25 [(0, .ref 137), (1, J x), (2, J a)] [] τ (fun v σ' => ∃ (z : Int) (wk1 : Int) (we1 : Int), v = some (J z) ∧ MS σ' c io mo fa pl ns rw en wy wh bi ed sz md bd li wk1 we1 Lc la lm ln lh ld lk lt ∧ FM σ σ' ∧ 0 ≤ z ∧ z ≤ 1 ∧ (z = 0 → MFV (gc Lc 5) (gl la 5) x) ∧ (z = 1 → ¬ MFV (gc Lc 5) (gl la 5) x)) := by
    intro f25
    induction f25 with
    | zero => intro a wk9 we9 τ mτ fτ i0 i1 i2 i3 i4 hm25; omega
    | succ f25 ih25 =>
      intro a wk9 we9 τ mτ fτ i0 i1 i2 i3 i4 hm25
      have rτ := mτ.rg
      have nτ := mτ.len
      have loop43 : ∀ (f43 : Nat) (b : Int) (wk8 : Int) (we8 : Int) (τ1 : qH), MS τ1 c io mo fa pl ns rw en wy wh bi ed sz md bd li wk8 we8 Lc la lm ln lh ld lk lt → FM σ τ1 → 0 ≤ b → b ≤ 8002 → a < x → MWB (gc Lc 5) (gl la 5) x a b → (a - b).toNat < f43 → T ξ (d + 5) j_M_isManifestWrong 43 [(0, .ref 137), (1, J x), (2, J a), (3, J b)] [] τ1 (fun v σ' => ∃ (z : Int) (wk1 : Int) (we1 : Int), v = some (J z) ∧ MS σ' c io mo fa pl ns rw en wy wh bi ed sz md bd li wk1 we1 Lc la lm ln lh ld lk lt ∧ FM σ σ' ∧ 0 ≤ z ∧ z ≤ 1 ∧ (z = 0 → MFV (gc Lc 5) (gl la 5) x) ∧ (z = 1 → ¬ MFV (gc Lc 5) (gl la 5) x)) := by
        intro f43
        induction f43 with
        | zero => intro b wk8 we8 τ1 mτ1 fτ1 j0 j1 j2 j3 hm43; omega
        | succ f43 ih43 =>
          intro b wk8 we8 τ1 mτ1 fτ1 j0 j1 j2 j3 hm43
          have rτ1 := mτ1.rg
          have nτ1 := mτ1.len
          refine T.go 2 (fun n9 => (rfl : _ = exe ξ n9 (d + 5) j_M_isManifestWrong 45 [(0, .ref 137), (1, J x), (2, J a), (3, J b)] [J a, J b] τ1)) ?_
          refine T.icmp_ge rfl rfl (by omega) (by omega) (fun c1 => ?_) (fun c1 => ?_)
          · refine T.go 3 (fun n9 => (rfl : _ = exe ξ n9 (d + 5) j_M_isManifestWrong 73 [(0, .ref 137), (1, J x), (2, J a), (3, J b)] [J x, J a, .ref 137] τ1)) ?_
            refine T.callv (as := [J a, J x]) (r := []) rfl rfl rfl rfl mτ1.ob rfl (s_M_ebehind (d + 2) a x τ1 mτ1 (by omega) (by omega) (by omega) (by omega) (by omega)) (fun v1 s1 hqs1 => ?_)
            obtain ⟨z1, rfl, esz1, hzz1, hyz1, pz1_0, pz1_1⟩ := hqs1
            rw [esz1]
            refine T.go 2 (fun n9 => (rfl : _ = exe ξ n9 (d + 5) j_M_isManifestWrong 25 [(0, .ref 137), (1, J x), (2, J z1), (3, J b)] [] τ1)) ?_
            refine T.drop (lv := [(0, .ref 137), (1, J x), (2, J z1)]) [(3, J b)] (by simp) ?_
            exact ih25  z1 wk8 we8 τ1 mτ1 fτ1 (by omega) (by omega) (by rw [pz1_0]; exact MWB_end j3 (by omega)) i3 i4 (by omega)
          · refine T.go 4 (fun n9 => (rfl : _ = exe ξ n9 (d + 5) j_M_isManifestWrong 52 [(0, .ref 137), (1, J x), (2, J a), (3, J b)] [J x, J b, J a, .ref 137] τ1)) ?_
            refine T.callv (as := [J a, J b, J x]) (r := []) rfl rfl rfl rfl mτ1.ob rfl (s_M_esameNames d a b x τ1 mτ1 (by omega) (by omega) (by omega) (by omega) (by omega) (by omega) (by omega) (by omega)) (fun v2 s2 hqs2 => ?_)
            obtain ⟨z2, wk_1, we_1, rfl, ms2, fs2, hzz2, hyz2, pz2_0, pz2_1⟩ := hqs2
            have ns2 := ms2.len
            have rs2 := ms2.rg
            have gs2 := fτ1.trans fs2
            refine T.if_eq rfl rfl (by omega) (fun c2 => ?_) (fun c2 => ?_)
            · refine T.go 3 (fun n9 => (rfl : _ = exe ξ n9 (d + 5) j_M_isManifestWrong 63 [(0, .ref 137), (1, J x), (2, J a), (3, J b)] [J x, J b, .ref 137] s2)) ?_
              refine T.callv (as := [J b, J x]) (r := []) rfl rfl rfl rfl ms2.ob rfl (s_M_ebehind (d + 2) b x s2 ms2 (by omega) (by omega) (by omega) (by omega) (by omega)) (fun v3 s3 hqs3 => ?_)
              obtain ⟨z3, rfl, esz3, hzz3, hyz3, pz3_0, pz3_1⟩ := hqs3
              rw [esz3]
              refine T.go 2 (fun n9 => (rfl : _ = exe ξ n9 (d + 5) j_M_isManifestWrong 43 [(0, .ref 137), (1, J x), (2, J a), (3, J z3)] [] s2)) ?_
              exact ih43  z3 wk_1 we_1 s2 ms2 gs2 (by omega) (by omega) (by omega) (by rw [pz3_0]; exact MWB_s j3 (by omega) (pz2_1 (by omega))) (by omega)
            · refine T.go 1 (fun n9 => (rfl : _ = exe ξ n9 (d + 5) j_M_isManifestWrong 59 [(0, .ref 137), (1, J x), (2, J a), (3, J b)] [J 1] s2)) ?_
              exact T.iretz rfl rfl (by omega) ⟨_, wk_1, we_1, rfl, ms2, gs2, by omega, by omega, (fun q => absurd q (by decide)), (fun _ => MWB_bad j3 (by omega) (by omega) (pz2_0 (by omega)))⟩
      refine T.go 2 (fun n9 => (rfl : _ = exe ξ n9 (d + 5) j_M_isManifestWrong 27 [(0, .ref 137), (1, J x), (2, J a)] [J x, J a] τ)) ?_
      refine T.icmp_ge rfl rfl (by omega) (by omega) (fun c3 => ?_) (fun c3 => ?_)
      · refine T.go 1 (fun n9 => (rfl : _ = exe ξ n9 (d + 5) j_M_isManifestWrong 81 [(0, .ref 137), (1, J x), (2, J a)] [J 0] τ)) ?_
        exact T.iretz rfl rfl (by omega) ⟨_, wk9, we9, rfl, mτ, fτ, by omega, by omega, (fun _ => MWA_end i2 (by omega) i3 i4), (fun q => absurd q (by decide))⟩
      · refine T.go 3 (fun n9 => (rfl : _ = exe ξ n9 (d + 5) j_M_isManifestWrong 33 [(0, .ref 137), (1, J x), (2, J a)] [J x, J a, .ref 137] τ)) ?_
        refine T.callv (as := [J a, J x]) (r := []) rfl rfl rfl rfl mτ.ob rfl (s_M_enameOf (d + 1) a x τ mτ (by omega) (by omega) (by omega) (by omega) (by omega)) (fun v4 s4 hqs4 => ?_)
        obtain ⟨z4, wk_2, we_2, rfl, ms4, fs4, hzz4, hyz4, pz4_0, pz4_1, pz4_2, pz4_3, pz4_4⟩ := hqs4
        have ns4 := ms4.len
        have rs4 := ms4.rg
        have gs4 := fτ.trans fs4
        refine T.if_ne rfl rfl (by omega) (fun c4 => ?_) (fun c4 => ?_)
        · refine T.go 2 (fun n9 => (rfl : _ = exe ξ n9 (d + 5) j_M_isManifestWrong 43 [(0, .ref 137), (1, J x), (2, J a), (3, J 0)] [] s4)) ?_
          exact loop43 _ 0 wk_2 we_2 s4 ms4 gs4 (by omega) (by omega) (by omega) (MWA_b i2 (by have := pz4_0; omega)) (Nat.lt_succ_self _)
        · refine T.go 1 (fun n9 => (rfl : _ = exe ξ n9 (d + 5) j_M_isManifestWrong 40 [(0, .ref 137), (1, J x), (2, J a)] [J 1] s4)) ?_
          exact T.iretz rfl rfl (by omega) ⟨_, wk_2, we_2, rfl, ms4, gs4, by omega, by omega, (fun q => absurd q (by decide)), (fun _ => MWA_bad i2 (by omega) (by have := pz4_0; omega))⟩
  refine T.go 1 (fun n9 => (rfl : _ = exe ξ n9 (d + 5) j_M_isManifestWrong 1 [(0, .ref 137), (1, J x)] [.ref 137] σ)) ?_
  refine T.callv (as := []) (r := []) rfl rfl rfl rfl hM.ob rfl (s_M_eisLong (d + 2)  σ hM ) (fun v5 s5 hqs5 => ?_)
  obtain ⟨z5, rfl, esz5, hzz5, hyz5, pz5_0, pz5_1⟩ := hqs5
  rw [esz5]
  refine T.if_ne rfl rfl (by omega) (fun c5 => ?_) (fun c5 => ?_)
  · refine T.go 1 (fun n9 => (rfl : _ = exe ξ n9 (d + 5) j_M_isManifestWrong 22 [(0, .ref 137), (1, J x)] [J 1] σ)) ?_
    exact T.iretz rfl rfl (by omega) ⟨_, wk, we, rfl, hM, FM.refl, by omega, by omega, (fun q => absurd q (by decide)), (fun _ m => pz5_1 (by omega) m.1)⟩
  · refine T.go 3 (fun n9 => (rfl : _ = exe ξ n9 (d + 5) j_M_isManifestWrong 10 [(0, .ref 137), (1, J x)] [.ref 137, J 0, .ref 137] σ)) ?_
    refine T.get rfl rfl rfl hM.ob rfl ?_
    refine T.go 1 (fun n9 => (rfl : _ = exe ξ n9 (d + 5) j_M_isManifestWrong 14 [(0, .ref 137), (1, J x)] [J 5, .ref 139, J 0, .ref 137] σ)) ?_
    refine T.iald rfl rfl hM.c139 (by omega) (fun z6 hzz6 hyz6 hez6 => ?_)
    have hbz6 := hM.b139.at hez6 ⟨hzz6, hyz6⟩
    have gzz6 := gl_of hez6 ⟨hzz6, hyz6⟩
    subst gzz6
    refine T.callv (as := [J 0, J (gl la 5)]) (r := []) rfl rfl rfl rfl hM.ob rfl (s_M_egoesOn (d + 3) 0 (gl la 5) σ hM (by omega) (by omega) (by omega) (by omega)) (fun v6 s6 hqs6 => ?_)
    obtain ⟨z7, rfl, esz7, hzz7, hyz7, pz7_0, pz7_1⟩ := hqs6
    rw [esz7]
    refine T.if_eq rfl rfl (by omega) (fun c6 => ?_) (fun c6 => ?_)
    · refine T.go 2 (fun n9 => (rfl : _ = exe ξ n9 (d + 5) j_M_isManifestWrong 25 [(0, .ref 137), (1, J x), (2, J 0)] [] σ)) ?_
      exact loop25 _ 0 wk we σ hM FM.refl (by omega) (by omega) (MWA_0 _ _ _) (pz5_0 (by omega)) (pz7_1 (by omega)) (Nat.lt_succ_self _)
    · refine T.go 1 (fun n9 => (rfl : _ = exe ξ n9 (d + 5) j_M_isManifestWrong 22 [(0, .ref 137), (1, J x)] [J 1] σ)) ?_
      exact T.iretz rfl rfl (by omega) ⟨_, wk, we, rfl, hM, FM.refl, by omega, by omega, (fun q => absurd q (by decide)), (fun _ m => m.2.1 (pz7_0 (by omega)))⟩

set_option maxHeartbeats 4000000 in
theorem s_M_eisAsked {ξ : Nat → Option (Nat × List Int32)} {c io mo fa pl ns rw en wy wh bi ed sz md bd li wk we : Int} {Lc : List Int64} {la lm ln lh ld lk lt : List Int32} (d : Nat) (x : Int) (y : Int) (u : Int) (σ : qH) (hM : MS σ c io mo fa pl ns rw en wy wh bi ed sz md bd li wk we Lc la lm ln lh ld lk lt) (rx : -2147483648 ≤ x ∧ x ≤ 2147483647) (ry : -2147483648 ≤ y ∧ y ≤ 2147483647) (ru : -2147483648 ≤ u ∧ u ≤ 2147483647) (pre0 : 0 ≤ x) (pre1 : x ≤ 8000) (pre2 : y ≤ 8000) (pre3 : 0 ≤ u) (pre4 : u ≤ 40) : T ξ (d + 4) j_M_isAsked 0 (lv_args 0 [.ref 137, J x, J y, J u]) [] σ (fun v σ' => ∃ (z : Int) (wk1 : Int) (we1 : Int), v = some (J z) ∧ MS σ' c io mo fa pl ns rw en wy wh bi ed sz md bd li wk1 we1 Lc la lm ln lh ld lk lt ∧ FM σ σ' ∧ 0 ≤ z ∧ z ≤ 1 ∧ (z = 1 → ASK (LIN (gc Lc 5) (gl la 5) y x) (gl ln) u) ∧ (z = 0 → ¬ ASK (LIN (gc Lc 5) (gl la 5) y x) (gl ln) u)) := by
  have r0 := hM.rg
  have n0 := hM.len
  have loop15 : ∀ (f15 : Nat) (k : Int) (wk9 : Int) (we9 : Int) (τ : qH), MS τ c io mo fa pl ns rw en wy wh bi ed sz md bd li wk9 we9 Lc la lm ln lh ld lk lt → FM σ τ → 0 ≤ k → k ≤ u → (∀ i : Int, 0 ≤ i → i < k → sml ((LIN (gc Lc 5) (gl la 5) y x).getD i.toNat (-1)) = sml (gl ln i)) → NML (LIN (gc Lc 5) (gl la 5) y x) = u → (u - k).toNat < f15 → T ξ (d + 4) j_M_isAsked 15 [(0, .ref 137), (1, J x), (2, J y), (3, J u), (4, J k)] [] τ (fun v σ' => ∃ (z : Int) (wk1 : Int) (we1 : Int), v = some (J z) ∧ MS σ' c io mo fa pl ns rw en wy wh bi ed sz md bd li wk1 we1 Lc la lm ln lh ld lk lt ∧ FM σ σ' ∧ 0 ≤ z ∧ z ≤ 1 ∧ (z = 1 → ASK (LIN (gc Lc 5) (gl la 5) y x) (gl ln) u) ∧ (z = 0 → ¬ ASK (LIN (gc Lc 5) (gl la 5) y x) (gl ln) u)) := by
    intro f15
    induction f15 with
    | zero => intro k wk9 we9 τ mτ fτ i0 i1 i2 i3 hm15; omega
    | succ f15 ih15 =>
      intro k wk9 we9 τ mτ fτ i0 i1 i2 i3 hm15
      have rτ := mτ.rg
      have nτ := mτ.len
      refine T.go 2 (fun n9 => (rfl : _ = exe ξ n9 (d + 4) j_M_isAsked 18 [(0, .ref 137), (1, J x), (2, J y), (3, J u), (4, J k)] [J u, J k] τ)) ?_
      refine T.icmp_ge rfl rfl (by omega) (by omega) (fun c1 => ?_) (fun c1 => ?_)
      · refine T.go 1 (fun n9 => (rfl : _ = exe ξ n9 (d + 4) j_M_isAsked 54 [(0, .ref 137), (1, J x), (2, J y), (3, J u), (4, J k)] [J 1] τ)) ?_
        exact T.iretz rfl rfl (by omega) ⟨_, wk9, we9, rfl, mτ, fτ, by omega, by omega, (fun _ => ⟨i3, by rw [show u = k by omega]; exact i2⟩), (fun q => absurd q (by decide))⟩
      · refine T.go 4 (fun n9 => (rfl : _ = exe ξ n9 (d + 4) j_M_isAsked 26 [(0, .ref 137), (1, J x), (2, J y), (3, J u), (4, J k)] [J k, J y, J x, .ref 137] τ)) ?_
        refine T.callv (as := [J x, J y, J k]) (r := []) rfl rfl rfl rfl mτ.ob rfl (s_M_ebyteOf d x y k τ mτ (by omega) (by omega) (by omega) (by omega) (by omega) (by omega) (by omega) (by omega)) (fun v1 s1 hqs1 => ?_)
        obtain ⟨z1, wk_1, we_1, rfl, ms1, fs1, hzz1, hyz1, pz1_0⟩ := hqs1
        have ns1 := ms1.len
        have rs1 := ms1.rg
        have gs1 := fτ.trans fs1
        refine T.calls (as := [J z1]) (r := []) rfl rfl (by decide) rfl rfl (s_M_esmall (d + 2) z1 s1 (by omega)) (fun v2 s2 hqs2 => ?_)
        obtain ⟨z2, rfl, esz2, hzz2, hyz2, pz2_0⟩ := hqs2
        rw [esz2]
        refine T.go 1 (fun n9 => (rfl : _ = exe ξ n9 (d + 4) j_M_isAsked 33 [(0, .ref 137), (1, J x), (2, J y), (3, J u), (4, J k)] [.ref 137, J z2] s1)) ?_
        refine T.get rfl rfl rfl ms1.ob rfl ?_
        refine T.go 1 (fun n9 => (rfl : _ = exe ξ n9 (d + 4) j_M_isAsked 38 [(0, .ref 137), (1, J x), (2, J y), (3, J u), (4, J k)] [J k, .ref 141, J z2] s1)) ?_
        refine T.iald rfl rfl ms1.c141 (by omega) (fun z3 hzz3 hyz3 hez3 => ?_)
        have gzz3 := gl_of hez3 ⟨hzz3, hyz3⟩
        subst gzz3
        refine T.calls (as := [J (gl ln k)]) (r := [J z2]) rfl rfl (by decide) rfl rfl (s_M_esmall (d + 2) (gl ln k) s1 (by omega)) (fun v3 s3 hqs3 => ?_)
        obtain ⟨z4, rfl, esz4, hzz4, hyz4, pz4_0⟩ := hqs3
        rw [esz4]
        refine T.icmp_eq rfl rfl (by omega) (by omega) (fun c2 => ?_) (fun c2 => ?_)
        · refine T.iinc (lv' := [(0, .ref 137), (1, J x), (2, J y), (3, J u), (4, J (k + 1))]) rfl rfl rfl rfl ?_
          refine T.go 1 (fun n9 => (rfl : _ = exe ξ n9 (d + 4) j_M_isAsked 15 [(0, .ref 137), (1, J x), (2, J y), (3, J u), (4, J (k + 1))] [] s1)) ?_
          exact ih15  (k + 1) wk_1 we_1 s1 ms1 gs1 (by omega) (by omega) (fun i a b => by by_cases q : i = k; (· rw [q, ← pz1_0, ← pz2_0, ← pz4_0]; omega); exact i2 i a (by omega)) i3 (by omega)
        · refine T.go 1 (fun n9 => (rfl : _ = exe ξ n9 (d + 4) j_M_isAsked 46 [(0, .ref 137), (1, J x), (2, J y), (3, J u), (4, J k)] [J 0] s1)) ?_
          exact T.iretz rfl rfl (by omega) ⟨_, wk_1, we_1, rfl, ms1, gs1, by omega, by omega, (fun q => absurd q (by decide)), (fun _ q => by have e := q.2 k (by omega) (by omega); rw [← pz1_0, ← pz2_0, ← pz4_0] at e; omega)⟩
  refine T.go 3 (fun n9 => (rfl : _ = exe ξ n9 (d + 4) j_M_isAsked 3 [(0, .ref 137), (1, J x), (2, J y), (3, J u)] [J y, J x, .ref 137] σ)) ?_
  refine T.callv (as := [J x, J y]) (r := []) rfl rfl rfl rfl hM.ob rfl (s_M_enameOf d x y σ hM (by omega) (by omega) (by omega) (by omega) (by omega)) (fun v4 s4 hqs4 => ?_)
  obtain ⟨z5, wk_2, we_2, rfl, ms4, fs4, hzz5, hyz5, pz5_0, pz5_1, pz5_2, pz5_3, pz5_4⟩ := hqs4
  have ns4 := ms4.len
  have rs4 := ms4.rg
  refine T.go 1 (fun n9 => (rfl : _ = exe ξ n9 (d + 4) j_M_isAsked 7 [(0, .ref 137), (1, J x), (2, J y), (3, J u)] [J u, J z5] s4)) ?_
  refine T.icmp_eq rfl rfl (by omega) (by omega) (fun c3 => ?_) (fun c3 => ?_)
  · refine T.go 2 (fun n9 => (rfl : _ = exe ξ n9 (d + 4) j_M_isAsked 15 [(0, .ref 137), (1, J x), (2, J y), (3, J u), (4, J 0)] [] s4)) ?_
    exact loop15 _ 0 wk_2 we_2 s4 ms4 fs4 (by omega) (by omega) (fun i a b => absurd b (by omega)) (by have e := pz5_0; omega) (Nat.lt_succ_self _)
  · refine T.go 1 (fun n9 => (rfl : _ = exe ξ n9 (d + 4) j_M_isAsked 11 [(0, .ref 137), (1, J x), (2, J y), (3, J u)] [J 0] s4)) ?_
    exact T.iretz rfl rfl (by omega) ⟨_, wk_2, we_2, rfl, ms4, fs4, by omega, by omega, (fun q => absurd q (by decide)), (fun _ q => by have e := q.1; rw [← pz5_0] at e; omega)⟩
