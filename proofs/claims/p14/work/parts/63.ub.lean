/-! The manifest: the model. -/
/-- one step told -/
def STQ (z : Int) (r r' : List Int) : Prop := (z = -1 ∧ r = [] ∧ r' = []) ∨ (0 ≤ z ∧ r = z :: r')
theorem LST_lt (u : Int → Int) (f : Int) (i : Nat) : LST u f i < LST u f (i + 1) := by
  have := (LSt_r u f (LST u f i)).1
  show LST u f i < LSt u f (LST u f i) + 1
  omega
theorem LST_le (u : Int → Int) (f : Int) {i j : Nat} (h : i ≤ j) : LST u f i ≤ LST u f j := by
  induction j with
  | zero =>
    have e : i = 0 := by omega
    rw [e]
    exact Int.le_refl _
  | succ j ih =>
    by_cases e : i = j + 1
    · rw [e]
      exact Int.le_refl _
    · have h1 := ih (by omega)
      have h2 := LST_lt u f j
      omega
/-- the lines ahead of k are short -/
def LGI (u : Int → Int) (f k : Int) : Prop := ∃ i : Nat, k = LST u f i ∧ ∀ j : Nat, j < i → LEe u f (LST u f j) - LST u f j ≤ 72
theorem LGI_0 (u : Int → Int) (f : Int) : LGI u f 0 := ⟨0, rfl, fun j h => absurd h (Nat.not_lt_zero j)⟩
theorem LGI_s {u : Int → Int} {f k : Int} (h : LGI u f k) (q : LEe u f k - k ≤ 72) : LGI u f (LSt u f k + 1) := by
  obtain ⟨i, e, h⟩ := h
  refine ⟨i + 1, by rw [e]; rfl, fun j hj => ?_⟩
  by_cases c : j = i
  · rw [c, ← e]; exact q
  · exact h j (by omega)
theorem LGI_end {u : Int → Int} {f k : Int} (h : LGI u f k) (q : f ≤ k) : NOL u f := fun j hj => by
  obtain ⟨i, e, h⟩ := h
  by_cases c : j < i
  · exact h j c
  · have := LST_le u f (i := i) (j := j) (by omega)
    omega
theorem LGI_bad {u : Int → Int} {f k : Int} (h : LGI u f k) (q : k < f) (l : 72 < LEe u f k - k) : ¬ NOL u f := fun n => by
  obtain ⟨i, e, -⟩ := h
  have := n i (by rw [← e]; exact q)
  rw [← e] at this
  omega
/-- e is where the main part ends -/
def MMI (u : Int → Int) (f k : Int) : Prop := ∃ i : Nat, k = LST u f i ∧ ∀ j : Nat, j < i → LST u f j < f ∧ LST u f j < LEe u f (LST u f j)
def IME (u : Int → Int) (f e : Int) : Prop := ∃ k : Int, MMI u f k ∧ ((k < f ∧ ¬ k < LEe u f k ∧ e = k) ∨ (f ≤ k ∧ e = f))
theorem MMI_0 (u : Int → Int) (f : Int) : MMI u f 0 := ⟨0, rfl, fun j h => absurd h (Nat.not_lt_zero j)⟩
theorem MMI_s {u : Int → Int} {f k : Int} (h : MMI u f k) (q : k < f ∧ k < LEe u f k) : MMI u f (LSt u f k + 1) := by
  obtain ⟨i, e, h⟩ := h
  refine ⟨i + 1, by rw [e]; rfl, fun j hj => ?_⟩
  by_cases c : j = i
  · rw [c, ← e]; exact q
  · exact h j (by omega)
theorem IME_one {u : Int → Int} {f e e' : Int} (h : IME u f e) (q : IME u f e') : e = e' := by
  obtain ⟨k, ⟨i, ek, hi⟩, h⟩ := h
  obtain ⟨k', ⟨i', ek', hi'⟩, q⟩ := q
  rcases Nat.lt_trichotomy i i' with c | c | c
  · have a := hi' i c
    rw [← ek] at a
    omega
  · subst c
    have e9 : k = k' := ek.trans ek'.symm
    subst e9
    omega
  · have a := hi i' c
    rw [← ek'] at a
    omega

set_option maxHeartbeats 4000000 in
theorem s_M_elineEnd {ξ : Nat → Option (Nat × List Int32)} {c io mo fa pl ns rw en wy wh bi ed sz md bd li wk we : Int} {Lc : List Int64} {la lm ln lh ld lk lt : List Int32} (d : Nat) (x : Int) (σ : qH) (hM : MS σ c io mo fa pl ns rw en wy wh bi ed sz md bd li wk we Lc la lm ln lh ld lk lt) (rx : -2147483648 ≤ x ∧ x ≤ 2147483647) (pre0 : 0 ≤ x) (pre1 : x ≤ 8001) : T ξ (d + 1) j_M_lineEnd 0 (lv_args 0 [.ref 137, J x]) [] σ (fun v σ' => ∃ (z : Int), v = some (J z) ∧ σ' = σ ∧ 0 ≤ z ∧ z ≤ 8001 ∧ z = LEe (gc Lc 5) (gl la 5) x ∧ x ≤ z ∧ (z ≤ x ∨ z ≤ (gl la 5))) := by
  have r0 := hM.rg
  have n0 := hM.len
  have h5 := gl_b hM.b139 5
  have loop2 : ∀ (f2 : Nat) (k : Int), x ≤ k → (k ≤ x ∨ k ≤ (gl la 5)) → LSt (gc Lc 5) (gl la 5) k = LSt (gc Lc 5) (gl la 5) x → ((gl la 5) - k).toNat < f2 → T ξ (d + 1) j_M_lineEnd 2 [(0, .ref 137), (1, J x), (2, J k)] [] σ (fun v σ' => ∃ (z : Int), v = some (J z) ∧ σ' = σ ∧ 0 ≤ z ∧ z ≤ 8001 ∧ z = LEe (gc Lc 5) (gl la 5) x ∧ x ≤ z ∧ (z ≤ x ∨ z ≤ (gl la 5))) := by
    intro f2
    induction f2 with
    | zero => intro k i0 i1 i2 hm2; omega
    | succ f2 ih2 =>
      intro k i0 i1 i2 hm2
      refine T.go 2 (fun n9 => (rfl : _ = exe ξ n9 (d + 1) j_M_lineEnd 4 [(0, .ref 137), (1, J x), (2, J k)] [.ref 137, J k] σ)) ?_
      refine T.get rfl rfl rfl hM.ob rfl ?_
      refine T.go 1 (fun n9 => (rfl : _ = exe ξ n9 (d + 1) j_M_lineEnd 8 [(0, .ref 137), (1, J x), (2, J k)] [J 5, .ref 139, J k] σ)) ?_
      refine T.iald rfl rfl hM.c139 (by omega) (fun z1 hzz1 hyz1 hez1 => ?_)
      have hbz1 := hM.b139.at hez1 ⟨hzz1, hyz1⟩
      have gzz1 := gl_of hez1 ⟨hzz1, hyz1⟩
      subst gzz1
      refine T.icmp_ge rfl rfl (by omega) (by omega) (fun c1 => ?_) (fun c1 => ?_)
      · refine T.go 2 (fun n9 => (rfl : _ = exe ξ n9 (d + 1) j_M_lineEnd 31 [(0, .ref 137), (1, J x), (2, J k)] [.ref 137, J k] σ)) ?_
        refine T.get rfl rfl rfl hM.ob rfl ?_
        refine T.go 1 (fun n9 => (rfl : _ = exe ξ n9 (d + 1) j_M_lineEnd 35 [(0, .ref 137), (1, J x), (2, J k)] [J 5, .ref 139, J k] σ)) ?_
        refine T.iald rfl rfl hM.c139 (by omega) (fun z2 hzz2 hyz2 hez2 => ?_)
        have hbz2 := hM.b139.at hez2 ⟨hzz2, hyz2⟩
        have gzz2 := gl_of hez2 ⟨hzz2, hyz2⟩
        subst gzz2
        refine T.icmp_ge rfl rfl (by omega) (by omega) (fun c2 => ?_) (fun c2 => ?_)
        · refine T.go 1 (fun n9 => (rfl : _ = exe ξ n9 (d + 1) j_M_lineEnd 64 [(0, .ref 137), (1, J x), (2, J k)] [J k] σ)) ?_
          exact T.ireti rfl rfl ⟨_, rfl, rfl, by omega, by omega, (by have lsx : LSt (gc Lc 5) (gl la 5) x = k := i2.symm.trans (LSt_stop (by omega)); unfold LEe; rw [lsx]; first | (rw [if_pos ⟨by omega, by omega, by omega⟩] <;> omega) | (rw [if_neg (by omega)] <;> omega)), by omega, by omega⟩
        · refine T.go 2 (fun n9 => (rfl : _ = exe ξ n9 (d + 1) j_M_lineEnd 41 [(0, .ref 137), (1, J x), (2, J k)] [J x, J k] σ)) ?_
          refine T.icmp_le rfl rfl (by omega) (by omega) (fun c3 => ?_) (fun c3 => ?_)
          · refine T.go 1 (fun n9 => (rfl : _ = exe ξ n9 (d + 1) j_M_lineEnd 64 [(0, .ref 137), (1, J x), (2, J k)] [J k] σ)) ?_
            exact T.ireti rfl rfl ⟨_, rfl, rfl, by omega, by omega, (by have lsx : LSt (gc Lc 5) (gl la 5) x = k := i2.symm.trans (LSt_stop (by omega)); unfold LEe; rw [lsx]; first | (rw [if_pos ⟨by omega, by omega, by omega⟩] <;> omega) | (rw [if_neg (by omega)] <;> omega)), by omega, by omega⟩
          · refine T.go 4 (fun n9 => (rfl : _ = exe ξ n9 (d + 1) j_M_lineEnd 48 [(0, .ref 137), (1, J x), (2, J k)] [J 1, J k, J 5, .ref 137] σ)) ?_
            refine T.isub rfl ?_
            refine T.callv (as := [J 5, J (k - 1)]) (r := []) rfl rfl rfl rfl hM.ob rfl (s_M_get d 5 (k - 1) σ hM (by omega)) (fun v1 s1 hqs1 => ?_)
            obtain ⟨z3, rfl, esz3, hzz3, hyz3, pz3_0⟩ := hqs1
            rw [esz3]
            have ggz3 := gc_at (Lc := Lc) (r := 5) (k := k - 1) (by omega)
            refine T.go 1 (fun n9 => (rfl : _ = exe ξ n9 (d + 1) j_M_lineEnd 54 [(0, .ref 137), (1, J x), (2, J k)] [J 13, J z3] σ)) ?_
            refine T.icmp_ne rfl rfl (by omega) (by omega) (fun c4 => ?_) (fun c4 => ?_)
            · refine T.go 1 (fun n9 => (rfl : _ = exe ξ n9 (d + 1) j_M_lineEnd 64 [(0, .ref 137), (1, J x), (2, J k)] [J k] σ)) ?_
              exact T.ireti rfl rfl ⟨_, rfl, rfl, by omega, by omega, (by have lsx : LSt (gc Lc 5) (gl la 5) x = k := i2.symm.trans (LSt_stop (by omega)); unfold LEe; rw [lsx]; first | (rw [if_pos ⟨by omega, by omega, by omega⟩] <;> omega) | (rw [if_neg (by omega)] <;> omega)), by omega, by omega⟩
            · refine T.go 2 (fun n9 => (rfl : _ = exe ξ n9 (d + 1) j_M_lineEnd 59 [(0, .ref 137), (1, J x), (2, J k)] [J 1, J k] σ)) ?_
              refine T.isub rfl ?_
              refine T.go 1 (fun n9 => (rfl : _ = exe ξ n9 (d + 1) j_M_lineEnd 64 [(0, .ref 137), (1, J x), (2, J k)] [J (k - 1)] σ)) ?_
              exact T.ireti rfl rfl ⟨_, rfl, rfl, by omega, by omega, (by have lsx : LSt (gc Lc 5) (gl la 5) x = k := i2.symm.trans (LSt_stop (by omega)); unfold LEe; rw [lsx]; first | (rw [if_pos ⟨by omega, by omega, by omega⟩] <;> omega) | (rw [if_neg (by omega)] <;> omega)), by omega, by omega⟩
      · refine T.go 3 (fun n9 => (rfl : _ = exe ξ n9 (d + 1) j_M_lineEnd 15 [(0, .ref 137), (1, J x), (2, J k)] [J k, J 5, .ref 137] σ)) ?_
        refine T.callv (as := [J 5, J k]) (r := []) rfl rfl rfl rfl hM.ob rfl (s_M_get d 5 k σ hM (by omega)) (fun v2 s2 hqs2 => ?_)
        obtain ⟨z4, rfl, esz4, hzz4, hyz4, pz4_0⟩ := hqs2
        rw [esz4]
        have ggz4 := gc_at (Lc := Lc) (r := 5) (k := k) (by omega)
        refine T.go 1 (fun n9 => (rfl : _ = exe ξ n9 (d + 1) j_M_lineEnd 20 [(0, .ref 137), (1, J x), (2, J k)] [J 10, J z4] σ)) ?_
        refine T.icmp_eq rfl rfl (by omega) (by omega) (fun c5 => ?_) (fun c5 => ?_)
        · refine T.go 2 (fun n9 => (rfl : _ = exe ξ n9 (d + 1) j_M_lineEnd 31 [(0, .ref 137), (1, J x), (2, J k)] [.ref 137, J k] σ)) ?_
          refine T.get rfl rfl rfl hM.ob rfl ?_
          refine T.go 1 (fun n9 => (rfl : _ = exe ξ n9 (d + 1) j_M_lineEnd 35 [(0, .ref 137), (1, J x), (2, J k)] [J 5, .ref 139, J k] σ)) ?_
          refine T.iald rfl rfl hM.c139 (by omega) (fun z5 hzz5 hyz5 hez5 => ?_)
          have hbz5 := hM.b139.at hez5 ⟨hzz5, hyz5⟩
          have gzz5 := gl_of hez5 ⟨hzz5, hyz5⟩
          subst gzz5
          refine T.icmp_ge rfl rfl (by omega) (by omega) (fun c6 => ?_) (fun c6 => ?_)
          · refine T.go 1 (fun n9 => (rfl : _ = exe ξ n9 (d + 1) j_M_lineEnd 64 [(0, .ref 137), (1, J x), (2, J k)] [J k] σ)) ?_
            exact T.ireti rfl rfl ⟨_, rfl, rfl, by omega, by omega, (by have lsx : LSt (gc Lc 5) (gl la 5) x = k := i2.symm.trans (LSt_stop (by omega)); unfold LEe; rw [lsx]; first | (rw [if_pos ⟨by omega, by omega, by omega⟩] <;> omega) | (rw [if_neg (by omega)] <;> omega)), by omega, by omega⟩
          · refine T.go 2 (fun n9 => (rfl : _ = exe ξ n9 (d + 1) j_M_lineEnd 41 [(0, .ref 137), (1, J x), (2, J k)] [J x, J k] σ)) ?_
            refine T.icmp_le rfl rfl (by omega) (by omega) (fun c7 => ?_) (fun c7 => ?_)
            · refine T.go 1 (fun n9 => (rfl : _ = exe ξ n9 (d + 1) j_M_lineEnd 64 [(0, .ref 137), (1, J x), (2, J k)] [J k] σ)) ?_
              exact T.ireti rfl rfl ⟨_, rfl, rfl, by omega, by omega, (by have lsx : LSt (gc Lc 5) (gl la 5) x = k := i2.symm.trans (LSt_stop (by omega)); unfold LEe; rw [lsx]; first | (rw [if_pos ⟨by omega, by omega, by omega⟩] <;> omega) | (rw [if_neg (by omega)] <;> omega)), by omega, by omega⟩
            · refine T.go 4 (fun n9 => (rfl : _ = exe ξ n9 (d + 1) j_M_lineEnd 48 [(0, .ref 137), (1, J x), (2, J k)] [J 1, J k, J 5, .ref 137] σ)) ?_
              refine T.isub rfl ?_
              refine T.callv (as := [J 5, J (k - 1)]) (r := []) rfl rfl rfl rfl hM.ob rfl (s_M_get d 5 (k - 1) σ hM (by omega)) (fun v3 s3 hqs3 => ?_)
              obtain ⟨z6, rfl, esz6, hzz6, hyz6, pz6_0⟩ := hqs3
              rw [esz6]
              have ggz6 := gc_at (Lc := Lc) (r := 5) (k := k - 1) (by omega)
              refine T.go 1 (fun n9 => (rfl : _ = exe ξ n9 (d + 1) j_M_lineEnd 54 [(0, .ref 137), (1, J x), (2, J k)] [J 13, J z6] σ)) ?_
              refine T.icmp_ne rfl rfl (by omega) (by omega) (fun c8 => ?_) (fun c8 => ?_)
              · refine T.go 1 (fun n9 => (rfl : _ = exe ξ n9 (d + 1) j_M_lineEnd 64 [(0, .ref 137), (1, J x), (2, J k)] [J k] σ)) ?_
                exact T.ireti rfl rfl ⟨_, rfl, rfl, by omega, by omega, (by have lsx : LSt (gc Lc 5) (gl la 5) x = k := i2.symm.trans (LSt_stop (by omega)); unfold LEe; rw [lsx]; first | (rw [if_pos ⟨by omega, by omega, by omega⟩] <;> omega) | (rw [if_neg (by omega)] <;> omega)), by omega, by omega⟩
              · refine T.go 2 (fun n9 => (rfl : _ = exe ξ n9 (d + 1) j_M_lineEnd 59 [(0, .ref 137), (1, J x), (2, J k)] [J 1, J k] σ)) ?_
                refine T.isub rfl ?_
                refine T.go 1 (fun n9 => (rfl : _ = exe ξ n9 (d + 1) j_M_lineEnd 64 [(0, .ref 137), (1, J x), (2, J k)] [J (k - 1)] σ)) ?_
                exact T.ireti rfl rfl ⟨_, rfl, rfl, by omega, by omega, (by have lsx : LSt (gc Lc 5) (gl la 5) x = k := i2.symm.trans (LSt_stop (by omega)); unfold LEe; rw [lsx]; first | (rw [if_pos ⟨by omega, by omega, by omega⟩] <;> omega) | (rw [if_neg (by omega)] <;> omega)), by omega, by omega⟩
        · refine T.iinc (lv' := [(0, .ref 137), (1, J x), (2, J (k + 1))]) rfl rfl rfl rfl ?_
          refine T.go 1 (fun n9 => (rfl : _ = exe ξ n9 (d + 1) j_M_lineEnd 2 [(0, .ref 137), (1, J x), (2, J (k + 1))] [] σ)) ?_
          exact ih2  (k + 1)  (by omega) (by omega) (by rw [← LSt_go ⟨by omega, by omega⟩]; exact i2) (by omega)
  refine T.go 2 (fun n9 => (rfl : _ = exe ξ n9 (d + 1) j_M_lineEnd 2 [(0, .ref 137), (1, J x), (2, J x)] [] σ)) ?_
  exact loop2 _ x  (by omega) (by omega) rfl (Nat.lt_succ_self _)

set_option maxHeartbeats 4000000 in
theorem s_M_enextLine {ξ : Nat → Option (Nat × List Int32)} {c io mo fa pl ns rw en wy wh bi ed sz md bd li wk we : Int} {Lc : List Int64} {la lm ln lh ld lk lt : List Int32} (d : Nat) (x : Int) (σ : qH) (hM : MS σ c io mo fa pl ns rw en wy wh bi ed sz md bd li wk we Lc la lm ln lh ld lk lt) (rx : -2147483648 ≤ x ∧ x ≤ 2147483647) (pre0 : 0 ≤ x) (pre1 : x ≤ 8001) : T ξ (d + 1) j_M_nextLine 0 (lv_args 0 [.ref 137, J x]) [] σ (fun v σ' => ∃ (z : Int), v = some (J z) ∧ σ' = σ ∧ 1 ≤ z ∧ z ≤ 8002 ∧ z = LSt (gc Lc 5) (gl la 5) x + 1 ∧ x + 1 ≤ z ∧ (z ≤ x + 1 ∨ z ≤ (gl la 5) + 1)) := by
  have r0 := hM.rg
  have n0 := hM.len
  have h5 := gl_b hM.b139 5
  have loop2 : ∀ (f2 : Nat) (k : Int), x ≤ k → (k ≤ x ∨ k ≤ (gl la 5)) → LSt (gc Lc 5) (gl la 5) k = LSt (gc Lc 5) (gl la 5) x → ((gl la 5) - k).toNat < f2 → T ξ (d + 1) j_M_nextLine 2 [(0, .ref 137), (1, J x), (2, J k)] [] σ (fun v σ' => ∃ (z : Int), v = some (J z) ∧ σ' = σ ∧ 1 ≤ z ∧ z ≤ 8002 ∧ z = LSt (gc Lc 5) (gl la 5) x + 1 ∧ x + 1 ≤ z ∧ (z ≤ x + 1 ∨ z ≤ (gl la 5) + 1)) := by
    intro f2
    induction f2 with
    | zero => intro k i0 i1 i2 hm2; omega
    | succ f2 ih2 =>
      intro k i0 i1 i2 hm2
      refine T.go 2 (fun n9 => (rfl : _ = exe ξ n9 (d + 1) j_M_nextLine 4 [(0, .ref 137), (1, J x), (2, J k)] [.ref 137, J k] σ)) ?_
      refine T.get rfl rfl rfl hM.ob rfl ?_
      refine T.go 1 (fun n9 => (rfl : _ = exe ξ n9 (d + 1) j_M_nextLine 8 [(0, .ref 137), (1, J x), (2, J k)] [J 5, .ref 139, J k] σ)) ?_
      refine T.iald rfl rfl hM.c139 (by omega) (fun z1 hzz1 hyz1 hez1 => ?_)
      have hbz1 := hM.b139.at hez1 ⟨hzz1, hyz1⟩
      have gzz1 := gl_of hez1 ⟨hzz1, hyz1⟩
      subst gzz1
      refine T.icmp_ge rfl rfl (by omega) (by omega) (fun c1 => ?_) (fun c1 => ?_)
      · refine T.go 2 (fun n9 => (rfl : _ = exe ξ n9 (d + 1) j_M_nextLine 31 [(0, .ref 137), (1, J x), (2, J k)] [J 1, J k] σ)) ?_
        refine T.iadd rfl ?_
        exact T.ireti rfl rfl ⟨_, rfl, rfl, by omega, by omega, (by have lsx : LSt (gc Lc 5) (gl la 5) x = k := i2.symm.trans (LSt_stop (by omega)); rw [lsx]), by omega, by omega⟩
      · refine T.go 3 (fun n9 => (rfl : _ = exe ξ n9 (d + 1) j_M_nextLine 15 [(0, .ref 137), (1, J x), (2, J k)] [J k, J 5, .ref 137] σ)) ?_
        refine T.callv (as := [J 5, J k]) (r := []) rfl rfl rfl rfl hM.ob rfl (s_M_get d 5 k σ hM (by omega)) (fun v1 s1 hqs1 => ?_)
        obtain ⟨z2, rfl, esz2, hzz2, hyz2, pz2_0⟩ := hqs1
        rw [esz2]
        have ggz2 := gc_at (Lc := Lc) (r := 5) (k := k) (by omega)
        refine T.go 1 (fun n9 => (rfl : _ = exe ξ n9 (d + 1) j_M_nextLine 20 [(0, .ref 137), (1, J x), (2, J k)] [J 10, J z2] σ)) ?_
        refine T.icmp_eq rfl rfl (by omega) (by omega) (fun c2 => ?_) (fun c2 => ?_)
        · refine T.go 2 (fun n9 => (rfl : _ = exe ξ n9 (d + 1) j_M_nextLine 31 [(0, .ref 137), (1, J x), (2, J k)] [J 1, J k] σ)) ?_
          refine T.iadd rfl ?_
          exact T.ireti rfl rfl ⟨_, rfl, rfl, by omega, by omega, (by have lsx : LSt (gc Lc 5) (gl la 5) x = k := i2.symm.trans (LSt_stop (by omega)); rw [lsx]), by omega, by omega⟩
        · refine T.iinc (lv' := [(0, .ref 137), (1, J x), (2, J (k + 1))]) rfl rfl rfl rfl ?_
          refine T.go 1 (fun n9 => (rfl : _ = exe ξ n9 (d + 1) j_M_nextLine 2 [(0, .ref 137), (1, J x), (2, J (k + 1))] [] σ)) ?_
          exact ih2  (k + 1)  (by omega) (by omega) (by rw [← LSt_go ⟨by omega, by omega⟩]; exact i2) (by omega)
  refine T.go 2 (fun n9 => (rfl : _ = exe ξ n9 (d + 1) j_M_nextLine 2 [(0, .ref 137), (1, J x), (2, J x)] [] σ)) ?_
  exact loop2 _ x  (by omega) (by omega) rfl (Nat.lt_succ_self _)

set_option maxHeartbeats 4000000 in
theorem s_M_eisLong {ξ : Nat → Option (Nat × List Int32)} {c io mo fa pl ns rw en wy wh bi ed sz md bd li wk we : Int} {Lc : List Int64} {la lm ln lh ld lk lt : List Int32} (d : Nat)  (σ : qH) (hM : MS σ c io mo fa pl ns rw en wy wh bi ed sz md bd li wk we Lc la lm ln lh ld lk lt)  : T ξ (d + 2) j_M_isLong 0 (lv_args 0 [.ref 137]) [] σ (fun v σ' => ∃ (z : Int), v = some (J z) ∧ σ' = σ ∧ 0 ≤ z ∧ z ≤ 1 ∧ (z = 0 → NOL (gc Lc 5) (gl la 5)) ∧ (z = 1 → ¬ NOL (gc Lc 5) (gl la 5))) := by
  have r0 := hM.rg
  have n0 := hM.len
  have h5 := gl_b hM.b139 5
  have loop2 : ∀ (f2 : Nat) (k : Int), 0 ≤ k → k ≤ 8001 → LGI (gc Lc 5) (gl la 5) k → ((gl la 5) - k).toNat < f2 → T ξ (d + 2) j_M_isLong 2 [(0, .ref 137), (1, J k)] [] σ (fun v σ' => ∃ (z : Int), v = some (J z) ∧ σ' = σ ∧ 0 ≤ z ∧ z ≤ 1 ∧ (z = 0 → NOL (gc Lc 5) (gl la 5)) ∧ (z = 1 → ¬ NOL (gc Lc 5) (gl la 5))) := by
    intro f2
    induction f2 with
    | zero => intro k i0 i1 i2 hm2; omega
    | succ f2 ih2 =>
      intro k i0 i1 i2 hm2
      refine T.go 2 (fun n9 => (rfl : _ = exe ξ n9 (d + 2) j_M_isLong 4 [(0, .ref 137), (1, J k)] [.ref 137, J k] σ)) ?_
      refine T.get rfl rfl rfl hM.ob rfl ?_
      refine T.go 1 (fun n9 => (rfl : _ = exe ξ n9 (d + 2) j_M_isLong 8 [(0, .ref 137), (1, J k)] [J 5, .ref 139, J k] σ)) ?_
      refine T.iald rfl rfl hM.c139 (by omega) (fun z1 hzz1 hyz1 hez1 => ?_)
      have hbz1 := hM.b139.at hez1 ⟨hzz1, hyz1⟩
      have gzz1 := gl_of hez1 ⟨hzz1, hyz1⟩
      subst gzz1
      refine T.icmp_ge rfl rfl (by omega) (by omega) (fun c1 => ?_) (fun c1 => ?_)
      · refine T.go 1 (fun n9 => (rfl : _ = exe ξ n9 (d + 2) j_M_isLong 36 [(0, .ref 137), (1, J k)] [J 0] σ)) ?_
        exact T.iretz rfl rfl (by omega) ⟨_, rfl, rfl, by omega, by omega, (fun _ => LGI_end i2 (by omega)), (fun q => absurd q (by decide))⟩
      · refine T.go 2 (fun n9 => (rfl : _ = exe ξ n9 (d + 2) j_M_isLong 14 [(0, .ref 137), (1, J k)] [J k, .ref 137] σ)) ?_
        refine T.callv (as := [J k]) (r := []) rfl rfl rfl rfl hM.ob rfl (s_M_elineEnd d k σ hM (by omega) (by omega) (by omega)) (fun v1 s1 hqs1 => ?_)
        obtain ⟨z2, rfl, esz2, hzz2, hyz2, pz2_0, pz2_1, pz2_2⟩ := hqs1
        rw [esz2]
        refine T.go 1 (fun n9 => (rfl : _ = exe ξ n9 (d + 2) j_M_isLong 18 [(0, .ref 137), (1, J k)] [J k, J z2] σ)) ?_
        refine T.isub rfl ?_
        refine T.go 1 (fun n9 => (rfl : _ = exe ξ n9 (d + 2) j_M_isLong 21 [(0, .ref 137), (1, J k)] [J 72, J (z2 - k)] σ)) ?_
        refine T.icmp_le rfl rfl (by omega) (by omega) (fun c2 => ?_) (fun c2 => ?_)
        · refine T.go 2 (fun n9 => (rfl : _ = exe ξ n9 (d + 2) j_M_isLong 28 [(0, .ref 137), (1, J k)] [J k, .ref 137] σ)) ?_
          refine T.callv (as := [J k]) (r := []) rfl rfl rfl rfl hM.ob rfl (s_M_enextLine d k σ hM (by omega) (by omega) (by omega)) (fun v2 s2 hqs2 => ?_)
          obtain ⟨z3, rfl, esz3, hzz3, hyz3, pz3_0, pz3_1, pz3_2⟩ := hqs2
          rw [esz3]
          refine T.go 2 (fun n9 => (rfl : _ = exe ξ n9 (d + 2) j_M_isLong 2 [(0, .ref 137), (1, J z3)] [] σ)) ?_
          exact ih2  z3  (by omega) (by omega) (by rw [pz3_0]; exact LGI_s i2 (by have := pz2_0; omega)) (by omega)
        · refine T.go 1 (fun n9 => (rfl : _ = exe ξ n9 (d + 2) j_M_isLong 25 [(0, .ref 137), (1, J k)] [J 1] σ)) ?_
          exact T.iretz rfl rfl (by omega) ⟨_, rfl, rfl, by omega, by omega, (fun q => absurd q (by decide)), (fun _ => LGI_bad i2 (by omega) (by have := pz2_0; omega))⟩
  refine T.go 2 (fun n9 => (rfl : _ = exe ξ n9 (d + 2) j_M_isLong 2 [(0, .ref 137), (1, J 0)] [] σ)) ?_
  exact loop2 _ 0  (by omega) (by omega) (LGI_0 _ _) (Nat.lt_succ_self _)

set_option maxHeartbeats 4000000 in
theorem s_M_emainEnd {ξ : Nat → Option (Nat × List Int32)} {c io mo fa pl ns rw en wy wh bi ed sz md bd li wk we : Int} {Lc : List Int64} {la lm ln lh ld lk lt : List Int32} (d : Nat)  (σ : qH) (hM : MS σ c io mo fa pl ns rw en wy wh bi ed sz md bd li wk we Lc la lm ln lh ld lk lt)  : T ξ (d + 2) j_M_mainEnd 0 (lv_args 0 [.ref 137]) [] σ (fun v σ' => ∃ (z : Int), v = some (J z) ∧ σ' = σ ∧ 0 ≤ z ∧ z ≤ 8000 ∧ IME (gc Lc 5) (gl la 5) z ∧ z ≤ (gl la 5)) := by
  have r0 := hM.rg
  have n0 := hM.len
  have h5 := gl_b hM.b139 5
  have loop2 : ∀ (f2 : Nat) (k : Int), 0 ≤ k → k ≤ 8001 → MMI (gc Lc 5) (gl la 5) k → ((gl la 5) - k).toNat < f2 → T ξ (d + 2) j_M_mainEnd 2 [(0, .ref 137), (1, J k)] [] σ (fun v σ' => ∃ (z : Int), v = some (J z) ∧ σ' = σ ∧ 0 ≤ z ∧ z ≤ 8000 ∧ IME (gc Lc 5) (gl la 5) z ∧ z ≤ (gl la 5)) := by
    intro f2
    induction f2 with
    | zero => intro k i0 i1 i2 hm2; omega
    | succ f2 ih2 =>
      intro k i0 i1 i2 hm2
      refine T.go 2 (fun n9 => (rfl : _ = exe ξ n9 (d + 2) j_M_mainEnd 4 [(0, .ref 137), (1, J k)] [.ref 137, J k] σ)) ?_
      refine T.get rfl rfl rfl hM.ob rfl ?_
      refine T.go 1 (fun n9 => (rfl : _ = exe ξ n9 (d + 2) j_M_mainEnd 8 [(0, .ref 137), (1, J k)] [J 5, .ref 139, J k] σ)) ?_
      refine T.iald rfl rfl hM.c139 (by omega) (fun z1 hzz1 hyz1 hez1 => ?_)
      have hbz1 := hM.b139.at hez1 ⟨hzz1, hyz1⟩
      have gzz1 := gl_of hez1 ⟨hzz1, hyz1⟩
      subst gzz1
      refine T.icmp_ge rfl rfl (by omega) (by omega) (fun c1 => ?_) (fun c1 => ?_)
      · refine T.go 2 (fun n9 => (rfl : _ = exe ξ n9 (d + 2) j_M_mainEnd 32 [(0, .ref 137), (1, J k)] [.ref 137, J k] σ)) ?_
        refine T.get rfl rfl rfl hM.ob rfl ?_
        refine T.go 1 (fun n9 => (rfl : _ = exe ξ n9 (d + 2) j_M_mainEnd 36 [(0, .ref 137), (1, J k)] [J 5, .ref 139, J k] σ)) ?_
        refine T.iald rfl rfl hM.c139 (by omega) (fun z2 hzz2 hyz2 hez2 => ?_)
        have hbz2 := hM.b139.at hez2 ⟨hzz2, hyz2⟩
        have gzz2 := gl_of hez2 ⟨hzz2, hyz2⟩
        subst gzz2
        refine T.icmp_ge rfl rfl (by omega) (by omega) (fun c2 => ?_) (fun c2 => ?_)
        · refine T.go 1 (fun n9 => (rfl : _ = exe ξ n9 (d + 2) j_M_mainEnd 45 [(0, .ref 137), (1, J k)] [.ref 137] σ)) ?_
          refine T.get rfl rfl rfl hM.ob rfl ?_
          refine T.go 1 (fun n9 => (rfl : _ = exe ξ n9 (d + 2) j_M_mainEnd 49 [(0, .ref 137), (1, J k)] [J 5, .ref 139] σ)) ?_
          refine T.iald rfl rfl hM.c139 (by omega) (fun z3 hzz3 hyz3 hez3 => ?_)
          have hbz3 := hM.b139.at hez3 ⟨hzz3, hyz3⟩
          have gzz3 := gl_of hez3 ⟨hzz3, hyz3⟩
          subst gzz3
          exact T.ireti rfl rfl ⟨_, rfl, rfl, by omega, by omega, ⟨k, i2, Or.inr ⟨by omega, rfl⟩⟩, by omega⟩
        · refine T.go 2 (fun n9 => (rfl : _ = exe ξ n9 (d + 2) j_M_mainEnd 50 [(0, .ref 137), (1, J k)] [J k] σ)) ?_
          exact T.ireti rfl rfl ⟨_, rfl, rfl, by omega, by omega, ⟨k, i2, by exfalso; omega⟩, by omega⟩
      · refine T.go 2 (fun n9 => (rfl : _ = exe ξ n9 (d + 2) j_M_mainEnd 14 [(0, .ref 137), (1, J k)] [J k, .ref 137] σ)) ?_
        refine T.callv (as := [J k]) (r := []) rfl rfl rfl rfl hM.ob rfl (s_M_elineEnd d k σ hM (by omega) (by omega) (by omega)) (fun v1 s1 hqs1 => ?_)
        obtain ⟨z4, rfl, esz4, hzz4, hyz4, pz4_0, pz4_1, pz4_2⟩ := hqs1
        rw [esz4]
        refine T.go 1 (fun n9 => (rfl : _ = exe ξ n9 (d + 2) j_M_mainEnd 18 [(0, .ref 137), (1, J k)] [J k, J z4] σ)) ?_
        refine T.icmp_le rfl rfl (by omega) (by omega) (fun c3 => ?_) (fun c3 => ?_)
        · refine T.go 2 (fun n9 => (rfl : _ = exe ξ n9 (d + 2) j_M_mainEnd 32 [(0, .ref 137), (1, J k)] [.ref 137, J k] σ)) ?_
          refine T.get rfl rfl rfl hM.ob rfl ?_
          refine T.go 1 (fun n9 => (rfl : _ = exe ξ n9 (d + 2) j_M_mainEnd 36 [(0, .ref 137), (1, J k)] [J 5, .ref 139, J k] σ)) ?_
          refine T.iald rfl rfl hM.c139 (by omega) (fun z5 hzz5 hyz5 hez5 => ?_)
          have hbz5 := hM.b139.at hez5 ⟨hzz5, hyz5⟩
          have gzz5 := gl_of hez5 ⟨hzz5, hyz5⟩
          subst gzz5
          refine T.icmp_ge rfl rfl (by omega) (by omega) (fun c4 => ?_) (fun c4 => ?_)
          · refine T.go 1 (fun n9 => (rfl : _ = exe ξ n9 (d + 2) j_M_mainEnd 45 [(0, .ref 137), (1, J k)] [.ref 137] σ)) ?_
            refine T.get rfl rfl rfl hM.ob rfl ?_
            refine T.go 1 (fun n9 => (rfl : _ = exe ξ n9 (d + 2) j_M_mainEnd 49 [(0, .ref 137), (1, J k)] [J 5, .ref 139] σ)) ?_
            refine T.iald rfl rfl hM.c139 (by omega) (fun z6 hzz6 hyz6 hez6 => ?_)
            have hbz6 := hM.b139.at hez6 ⟨hzz6, hyz6⟩
            have gzz6 := gl_of hez6 ⟨hzz6, hyz6⟩
            subst gzz6
            exact T.ireti rfl rfl ⟨_, rfl, rfl, by omega, by omega, ⟨k, i2, Or.inr ⟨by omega, rfl⟩⟩, by omega⟩
          · refine T.go 2 (fun n9 => (rfl : _ = exe ξ n9 (d + 2) j_M_mainEnd 50 [(0, .ref 137), (1, J k)] [J k] σ)) ?_
            exact T.ireti rfl rfl ⟨_, rfl, rfl, by omega, by omega, ⟨k, i2, Or.inl ⟨by omega, by have := pz4_0; omega, rfl⟩⟩, by omega⟩
        · refine T.go 2 (fun n9 => (rfl : _ = exe ξ n9 (d + 2) j_M_mainEnd 23 [(0, .ref 137), (1, J k)] [J k, .ref 137] σ)) ?_
          refine T.callv (as := [J k]) (r := []) rfl rfl rfl rfl hM.ob rfl (s_M_enextLine d k σ hM (by omega) (by omega) (by omega)) (fun v2 s2 hqs2 => ?_)
          obtain ⟨z7, rfl, esz7, hzz7, hyz7, pz7_0, pz7_1, pz7_2⟩ := hqs2
          rw [esz7]
          refine T.go 2 (fun n9 => (rfl : _ = exe ξ n9 (d + 2) j_M_mainEnd 2 [(0, .ref 137), (1, J z7)] [] σ)) ?_
          exact ih2  z7  (by omega) (by omega) (by rw [pz7_0]; exact MMI_s i2 ⟨by omega, by have := pz4_0; omega⟩) (by omega)
  refine T.go 2 (fun n9 => (rfl : _ = exe ξ n9 (d + 2) j_M_mainEnd 2 [(0, .ref 137), (1, J 0)] [] σ)) ?_
  exact loop2 _ 0  (by omega) (by omega) (MMI_0 _ _) (Nat.lt_succ_self _)

set_option maxHeartbeats 4000000 in
theorem s_M_egoesOn {ξ : Nat → Option (Nat × List Int32)} {c io mo fa pl ns rw en wy wh bi ed sz md bd li wk we : Int} {Lc : List Int64} {la lm ln lh ld lk lt : List Int32} (d : Nat) (x : Int) (y : Int) (σ : qH) (hM : MS σ c io mo fa pl ns rw en wy wh bi ed sz md bd li wk we Lc la lm ln lh ld lk lt) (rx : -2147483648 ≤ x ∧ x ≤ 2147483647) (ry : -2147483648 ≤ y ∧ y ≤ 2147483647) (pre0 : 0 ≤ x) (pre1 : y ≤ 8000) : T ξ (d + 1) j_M_goesOn 0 (lv_args 0 [.ref 137, J x, J y]) [] σ (fun v σ' => ∃ (z : Int), v = some (J z) ∧ σ' = σ ∧ 0 ≤ z ∧ z ≤ 1 ∧ (z = 1 → x < y ∧ gc Lc 5 x = 32) ∧ (z = 0 → ¬ (x < y ∧ gc Lc 5 x = 32))) := by
  have r0 := hM.rg
  have n0 := hM.len
  refine T.go 2 (fun n9 => (rfl : _ = exe ξ n9 (d + 1) j_M_goesOn 2 [(0, .ref 137), (1, J x), (2, J y)] [J y, J x] σ)) ?_
  refine T.icmp_ge rfl rfl (by omega) (by omega) (fun c1 => ?_) (fun c1 => ?_)
  · refine T.go 1 (fun n9 => (rfl : _ = exe ξ n9 (d + 1) j_M_goesOn 21 [(0, .ref 137), (1, J x), (2, J y)] [J 0] σ)) ?_
    exact T.iretz rfl rfl (by omega) ⟨_, rfl, rfl, by omega, by omega, (fun h => ⟨by omega, by omega⟩), (fun h q => by omega)⟩
  · refine T.go 3 (fun n9 => (rfl : _ = exe ξ n9 (d + 1) j_M_goesOn 8 [(0, .ref 137), (1, J x), (2, J y)] [J x, J 5, .ref 137] σ)) ?_
    refine T.callv (as := [J 5, J x]) (r := []) rfl rfl rfl rfl hM.ob rfl (s_M_get d 5 x σ hM (by omega)) (fun v1 s1 hqs1 => ?_)
    obtain ⟨z1, rfl, esz1, hzz1, hyz1, pz1_0⟩ := hqs1
    rw [esz1]
    have ggz1 := gc_at (Lc := Lc) (r := 5) (k := x) (by omega)
    refine T.go 1 (fun n9 => (rfl : _ = exe ξ n9 (d + 1) j_M_goesOn 13 [(0, .ref 137), (1, J x), (2, J y)] [J 32, J z1] σ)) ?_
    refine T.icmp_ne rfl rfl (by omega) (by omega) (fun c2 => ?_) (fun c2 => ?_)
    · refine T.go 1 (fun n9 => (rfl : _ = exe ξ n9 (d + 1) j_M_goesOn 21 [(0, .ref 137), (1, J x), (2, J y)] [J 0] σ)) ?_
      exact T.iretz rfl rfl (by omega) ⟨_, rfl, rfl, by omega, by omega, (fun h => ⟨by omega, by omega⟩), (fun h q => by omega)⟩
    · refine T.go 2 (fun n9 => (rfl : _ = exe ξ n9 (d + 1) j_M_goesOn 21 [(0, .ref 137), (1, J x), (2, J y)] [J 1] σ)) ?_
      exact T.iretz rfl rfl (by omega) ⟨_, rfl, rfl, by omega, by omega, (fun h => ⟨by omega, by omega⟩), (fun h q => by omega)⟩

set_option maxHeartbeats 4000000 in
theorem s_M_estep {ξ : Nat → Option (Nat × List Int32)} {c io mo fa pl ns rw en wy wh bi ed sz md bd li wk we : Int} {Lc : List Int64} {la lm ln lh ld lk lt : List Int32} (d : Nat) (x : Int) (σ : qH) (hM : MS σ c io mo fa pl ns rw en wy wh bi ed sz md bd li wk we Lc la lm ln lh ld lk lt) (rx : -2147483648 ≤ x ∧ x ≤ 2147483647) (pre0 : 0 ≤ wk) (pre1 : wk ≤ we + 1) (pre2 : 0 ≤ we) (pre3 : we ≤ 8000) (pre4 : x ≤ 8000) : T ξ (d + 2) j_M_step 0 (lv_args 0 [.ref 137, J x]) [] σ (fun v σ' => ∃ (z : Int) (wk1 : Int) (we1 : Int), v = some (J z) ∧ MS σ' c io mo fa pl ns rw en wy wh bi ed sz md bd li wk1 we1 Lc la lm ln lh ld lk lt ∧ FM σ σ' ∧ -1 ≤ z ∧ z ≤ 255 ∧ wk ≤ wk1 ∧ wk1 ≤ we1 + 1 ∧ 0 ≤ we1 ∧ we1 ≤ 8000 ∧ (z = -1 ∨ wk + 1 ≤ wk1 ∧ wk1 ≤ 8000) ∧ STQ z (REM (gc Lc 5) (gl la 5) x wk we) (REM (gc Lc 5) (gl la 5) x wk1 we1)) := by
  have r0 := hM.rg
  have n0 := hM.len
  have h5 := gl_b hM.b139 5
  have loop0 : ∀ (f0 : Nat) (wk9 : Int) (we9 : Int) (τ : qH), MS τ c io mo fa pl ns rw en wy wh bi ed sz md bd li wk9 we9 Lc la lm ln lh ld lk lt → FM σ τ → wk ≤ wk9 → wk9 ≤ we9 + 1 → 0 ≤ we9 → we9 ≤ 8000 → REM (gc Lc 5) (gl la 5) x wk9 we9 = REM (gc Lc 5) (gl la 5) x wk we → (8001 - we9).toNat < f0 → T ξ (d + 2) j_M_step 0 [(0, .ref 137), (1, J x)] [] τ (fun v σ' => ∃ (z : Int) (wk1 : Int) (we1 : Int), v = some (J z) ∧ MS σ' c io mo fa pl ns rw en wy wh bi ed sz md bd li wk1 we1 Lc la lm ln lh ld lk lt ∧ FM σ σ' ∧ -1 ≤ z ∧ z ≤ 255 ∧ wk ≤ wk1 ∧ wk1 ≤ we1 + 1 ∧ 0 ≤ we1 ∧ we1 ≤ 8000 ∧ (z = -1 ∨ wk + 1 ≤ wk1 ∧ wk1 ≤ 8000) ∧ STQ z (REM (gc Lc 5) (gl la 5) x wk we) (REM (gc Lc 5) (gl la 5) x wk1 we1)) := by
    intro f0
    induction f0 with
    | zero => intro wk9 we9 τ mτ fτ i0 i1 i2 i3 i4 hm0; omega
    | succ f0 ih0 =>
      intro wk9 we9 τ mτ fτ i0 i1 i2 i3 i4 hm0
      have rτ := mτ.rg
      have nτ := mτ.len
      refine T.go 1 (fun n9 => (rfl : _ = exe ξ n9 (d + 2) j_M_step 1 [(0, .ref 137), (1, J x)] [.ref 137] τ)) ?_
      refine T.get rfl rfl rfl mτ.ob rfl ?_
      refine T.go 1 (fun n9 => (rfl : _ = exe ξ n9 (d + 2) j_M_step 5 [(0, .ref 137), (1, J x)] [.ref 137, J wk9] τ)) ?_
      refine T.get rfl rfl rfl mτ.ob rfl ?_
      refine T.icmp_lt rfl rfl (by omega) (by omega) (fun c1 => ?_) (fun c1 => ?_)
      · refine T.go 2 (fun n9 => (rfl : _ = exe ξ n9 (d + 2) j_M_step 52 [(0, .ref 137), (1, J x)] [.ref 137, .ref 137] τ)) ?_
        refine T.get rfl rfl rfl mτ.ob rfl ?_
        refine T.go 1 (fun n9 => (rfl : _ = exe ξ n9 (d + 2) j_M_step 56 [(0, .ref 137), (1, J x)] [J 1, J wk9, .ref 137] τ)) ?_
        refine T.iadd rfl ?_
        refine T.mput (c' := c) (io' := io) (mo' := mo) (fa' := fa) (pl' := pl) (ns' := ns) (rw' := rw) (en' := en) (wy' := wy) (wh' := wh) (bi' := bi) (ed' := ed) (sz' := sz) (md' := md) (bd' := bd) (li' := li) (wk' := wk9 + 1) (we' := we9) mτ rfl rfl rfl rfl rfl rfl (by omega) (fun s1 ms1 fs1 => ?_)
        have gs1 := fτ.trans fs1
        refine T.go 3 (fun n9 => (rfl : _ = exe ξ n9 (d + 2) j_M_step 63 [(0, .ref 137), (1, J x)] [.ref 137, J 5, .ref 137] s1)) ?_
        refine T.get rfl rfl rfl ms1.ob rfl ?_
        refine T.go 1 (fun n9 => (rfl : _ = exe ξ n9 (d + 2) j_M_step 67 [(0, .ref 137), (1, J x)] [J 1, J (wk9 + 1), J 5, .ref 137] s1)) ?_
        refine T.isub rfl ?_
        refine T.callv (as := [J 5, J ((wk9 + 1) - 1)]) (r := []) rfl rfl rfl rfl ms1.ob rfl (s_M_get (d + 1) 5 ((wk9 + 1) - 1) s1 ms1 (by omega)) (fun v1 s2 hqs2 => ?_)
        obtain ⟨z1, rfl, esz1, hzz1, hyz1, pz1_0⟩ := hqs2
        rw [esz1]
        exact T.ireti rfl rfl ⟨_, (wk9 + 1), we9, rfl, ms1, gs1, by omega, by omega, by omega, by omega, by omega, by omega, by omega, (Or.inr ⟨by omega, (by rw [← i4, REM_1 (by omega)]; congr 1; rw [pz1_0, show wk9 + 1 - 1 = wk9 by omega]; exact gc_at ⟨by omega, by omega⟩)⟩)⟩
      · refine T.go 2 (fun n9 => (rfl : _ = exe ξ n9 (d + 2) j_M_step 13 [(0, .ref 137), (1, J x)] [.ref 137, .ref 137] τ)) ?_
        refine T.get rfl rfl rfl mτ.ob rfl ?_
        refine T.callv (as := [J we9]) (r := []) rfl rfl rfl rfl mτ.ob rfl (s_M_enextLine d we9 τ mτ (by omega) (by omega) (by omega)) (fun v2 s3 hqs3 => ?_)
        obtain ⟨z2, rfl, esz2, hzz2, hyz2, pz2_0, pz2_1, pz2_2⟩ := hqs3
        rw [esz2]
        refine T.go 4 (fun n9 => (rfl : _ = exe ξ n9 (d + 2) j_M_step 23 [(0, .ref 137), (1, J x), (2, J z2)] [J x, J z2, .ref 137] τ)) ?_
        refine T.callv (as := [J z2, J x]) (r := []) rfl rfl rfl rfl mτ.ob rfl (s_M_egoesOn d z2 x τ mτ (by omega) (by omega) (by omega) (by omega)) (fun v3 s4 hqs4 => ?_)
        obtain ⟨z3, rfl, esz3, hzz3, hyz3, pz3_0, pz3_1⟩ := hqs4
        rw [esz3]
        refine T.if_ne rfl rfl (by omega) (fun c2 => ?_) (fun c2 => ?_)
        · refine T.go 3 (fun n9 => (rfl : _ = exe ξ n9 (d + 2) j_M_step 34 [(0, .ref 137), (1, J x), (2, J z2)] [J 1, J z2, .ref 137] τ)) ?_
          refine T.iadd rfl ?_
          refine T.mput (c' := c) (io' := io) (mo' := mo) (fa' := fa) (pl' := pl) (ns' := ns) (rw' := rw) (en' := en) (wy' := wy) (wh' := wh) (bi' := bi) (ed' := ed) (sz' := sz) (md' := md) (bd' := bd) (li' := li) (wk' := z2 + 1) (we' := we9) mτ rfl rfl rfl rfl rfl rfl (by omega) (fun s5 ms5 fs5 => ?_)
          have gs5 := fτ.trans fs5
          refine T.go 3 (fun n9 => (rfl : _ = exe ξ n9 (d + 2) j_M_step 41 [(0, .ref 137), (1, J x), (2, J z2)] [J z2, .ref 137, .ref 137] s5)) ?_
          refine T.callv (as := [J z2]) (r := [.ref 137]) rfl rfl rfl rfl ms5.ob rfl (s_M_elineEnd d z2 s5 ms5 (by omega) (by omega) (by omega)) (fun v4 s6 hqs6 => ?_)
          obtain ⟨z4, rfl, esz4, hzz4, hyz4, pz4_0, pz4_1, pz4_2⟩ := hqs6
          rw [esz4]
          refine T.mput (c' := c) (io' := io) (mo' := mo) (fa' := fa) (pl' := pl) (ns' := ns) (rw' := rw) (en' := en) (wy' := wy) (wh' := wh) (bi' := bi) (ed' := ed) (sz' := sz) (md' := md) (bd' := bd) (li' := li) (wk' := z2 + 1) (we' := z4) ms5 rfl rfl rfl rfl rfl rfl (by omega) (fun s7 ms7 fs7 => ?_)
          have gs7 := gs5.trans fs7
          refine T.go 1 (fun n9 => (rfl : _ = exe ξ n9 (d + 2) j_M_step 0 [(0, .ref 137), (1, J x), (2, J z2)] [] s7)) ?_
          refine T.drop (lv := [(0, .ref 137), (1, J x)]) [(2, J z2)] (by simp) ?_
          exact ih0   (z2 + 1) z4 s7 ms7 gs7 (by omega) (by omega) (by omega) (by omega) (by have q := pz3_0 (by omega); rw [pz2_0] at q; rw [pz4_0, pz2_0, ← REM_2 (w := wk9) (by omega) q]; exact i4) (by omega)
        · refine T.go 1 (fun n9 => (rfl : _ = exe ξ n9 (d + 2) j_M_step 30 [(0, .ref 137), (1, J x), (2, J z2)] [J (-1)] τ)) ?_
          exact T.ireti rfl rfl ⟨_, wk9, we9, rfl, mτ, fτ, by omega, by omega, by omega, by omega, by omega, by omega, by omega, (Or.inl ⟨rfl, (by rw [← i4]; exact REM_3 (by omega) (by have q := pz3_1 (by omega); rw [pz2_0] at q; exact q)), REM_3 (by omega) (by have q := pz3_1 (by omega); rw [pz2_0] at q; exact q)⟩)⟩
  exact loop0 _  wk we σ hM FM.refl (by omega) (by omega) (by omega) (by omega) rfl (Nat.lt_succ_self _)

set_option maxHeartbeats 4000000 in
theorem s_M_eenter {ξ : Nat → Option (Nat × List Int32)} {c io mo fa pl ns rw en wy wh bi ed sz md bd li wk we : Int} {Lc : List Int64} {la lm ln lh ld lk lt : List Int32} (d : Nat) (x : Int) (σ : qH) (hM : MS σ c io mo fa pl ns rw en wy wh bi ed sz md bd li wk we Lc la lm ln lh ld lk lt) (rx : -2147483648 ≤ x ∧ x ≤ 2147483647) (pre0 : 0 ≤ x) (pre1 : x ≤ 8000) : T ξ (d + 2) j_M_enter 0 (lv_args 0 [.ref 137, J x]) [] σ (fun v σ' => ∃ (wk1 : Int) (we1 : Int), v = none ∧ MS σ' c io mo fa pl ns rw en wy wh bi ed sz md bd li wk1 we1 Lc la lm ln lh ld lk lt ∧ FM σ σ' ∧ wk1 = x ∧ x ≤ we1 ∧ we1 ≤ 8000 ∧ (∀ e : Int, REM (gc Lc 5) (gl la 5) e wk1 we1 = LIN (gc Lc 5) (gl la 5) e x)) := by
  have r0 := hM.rg
  have n0 := hM.len
  have h5 := gl_b hM.b139 5
  refine T.go 2 (fun n9 => (rfl : _ = exe ξ n9 (d + 2) j_M_enter 2 [(0, .ref 137), (1, J x)] [J x, .ref 137] σ)) ?_
  refine T.mput (c' := c) (io' := io) (mo' := mo) (fa' := fa) (pl' := pl) (ns' := ns) (rw' := rw) (en' := en) (wy' := wy) (wh' := wh) (bi' := bi) (ed' := ed) (sz' := sz) (md' := md) (bd' := bd) (li' := li) (wk' := x) (we' := we) hM rfl rfl rfl rfl rfl rfl (by omega) (fun s1 ms1 fs1 => ?_)
  refine T.go 3 (fun n9 => (rfl : _ = exe ξ n9 (d + 2) j_M_enter 8 [(0, .ref 137), (1, J x)] [J x, .ref 137, .ref 137] s1)) ?_
  refine T.callv (as := [J x]) (r := [.ref 137]) rfl rfl rfl rfl ms1.ob rfl (s_M_elineEnd d x s1 ms1 (by omega) (by omega) (by omega)) (fun v1 s2 hqs2 => ?_)
  obtain ⟨z1, rfl, esz1, hzz1, hyz1, pz1_0, pz1_1, pz1_2⟩ := hqs2
  rw [esz1]
  refine T.mput (c' := c) (io' := io) (mo' := mo) (fa' := fa) (pl' := pl) (ns' := ns) (rw' := rw) (en' := en) (wy' := wy) (wh' := wh) (bi' := bi) (ed' := ed) (sz' := sz) (md' := md) (bd' := bd) (li' := li) (wk' := x) (we' := z1) ms1 rfl rfl rfl rfl rfl rfl (by omega) (fun s3 ms3 fs3 => ?_)
  have gs3 := fs1.trans fs3
  exact T.vret rfl rfl ⟨x, z1, rfl, ms3, gs3, by omega, by omega, by omega, (fun e => by rw [pz1_0]; exact REM_in)⟩

set_option maxHeartbeats 4000000 in
theorem s_M_ebehind {ξ : Nat → Option (Nat × List Int32)} {c io mo fa pl ns rw en wy wh bi ed sz md bd li wk we : Int} {Lc : List Int64} {la lm ln lh ld lk lt : List Int32} (d : Nat) (x : Int) (y : Int) (σ : qH) (hM : MS σ c io mo fa pl ns rw en wy wh bi ed sz md bd li wk we Lc la lm ln lh ld lk lt) (rx : -2147483648 ≤ x ∧ x ≤ 2147483647) (ry : -2147483648 ≤ y ∧ y ≤ 2147483647) (pre0 : 0 ≤ x) (pre1 : x ≤ 8000) (pre2 : y ≤ 8000) : T ξ (d + 2) j_M_behind 0 (lv_args 0 [.ref 137, J x, J y]) [] σ (fun v σ' => ∃ (z : Int), v = some (J z) ∧ σ' = σ ∧ 1 ≤ z ∧ z ≤ 8002 ∧ z = BHD (gc Lc 5) (gl la 5) y x ∧ x + 1 ≤ z) := by
  have r0 := hM.rg
  have n0 := hM.len
  have h5 := gl_b hM.b139 5
  have loop6 : ∀ (f6 : Nat) (k : Int), x + 1 ≤ k → k ≤ 8002 → NXT (gc Lc 5) (gl la 5) y k = NXT (gc Lc 5) (gl la 5) y (LSt (gc Lc 5) (gl la 5) x + 1) → (8002 - k).toNat < f6 → T ξ (d + 2) j_M_behind 6 [(0, .ref 137), (1, J x), (2, J y), (3, J k)] [] σ (fun v σ' => ∃ (z : Int), v = some (J z) ∧ σ' = σ ∧ 1 ≤ z ∧ z ≤ 8002 ∧ z = BHD (gc Lc 5) (gl la 5) y x ∧ x + 1 ≤ z) := by
    intro f6
    induction f6 with
    | zero => intro k i0 i1 i2 hm6; omega
    | succ f6 ih6 =>
      intro k i0 i1 i2 hm6
      refine T.go 3 (fun n9 => (rfl : _ = exe ξ n9 (d + 2) j_M_behind 9 [(0, .ref 137), (1, J x), (2, J y), (3, J k)] [J y, J k, .ref 137] σ)) ?_
      refine T.callv (as := [J k, J y]) (r := []) rfl rfl rfl rfl hM.ob rfl (s_M_egoesOn d k y σ hM (by omega) (by omega) (by omega) (by omega)) (fun v1 s1 hqs1 => ?_)
      obtain ⟨z1, rfl, esz1, hzz1, hyz1, pz1_0, pz1_1⟩ := hqs1
      rw [esz1]
      refine T.if_eq rfl rfl (by omega) (fun c1 => ?_) (fun c1 => ?_)
      · refine T.go 1 (fun n9 => (rfl : _ = exe ξ n9 (d + 2) j_M_behind 25 [(0, .ref 137), (1, J x), (2, J y), (3, J k)] [J k] σ)) ?_
        exact T.ireti rfl rfl ⟨_, rfl, rfl, by omega, by omega, (by unfold BHD; rw [← i2]; exact (NXT_no (pz1_1 (by omega))).symm), by omega⟩
      · refine T.go 2 (fun n9 => (rfl : _ = exe ξ n9 (d + 2) j_M_behind 17 [(0, .ref 137), (1, J x), (2, J y), (3, J k)] [J k, .ref 137] σ)) ?_
        refine T.callv (as := [J k]) (r := []) rfl rfl rfl rfl hM.ob rfl (s_M_enextLine d k σ hM (by omega) (by omega) (by omega)) (fun v2 s2 hqs2 => ?_)
        obtain ⟨z2, rfl, esz2, hzz2, hyz2, pz2_0, pz2_1, pz2_2⟩ := hqs2
        rw [esz2]
        refine T.go 2 (fun n9 => (rfl : _ = exe ξ n9 (d + 2) j_M_behind 6 [(0, .ref 137), (1, J x), (2, J y), (3, J z2)] [] σ)) ?_
        exact ih6  z2  (by omega) (by omega) (by rw [pz2_0, ← NXT_go (pz1_0 (by omega))]; exact i2) (by omega)
  refine T.go 2 (fun n9 => (rfl : _ = exe ξ n9 (d + 2) j_M_behind 2 [(0, .ref 137), (1, J x), (2, J y)] [J x, .ref 137] σ)) ?_
  refine T.callv (as := [J x]) (r := []) rfl rfl rfl rfl hM.ob rfl (s_M_enextLine d x σ hM (by omega) (by omega) (by omega)) (fun v3 s3 hqs3 => ?_)
  obtain ⟨z3, rfl, esz3, hzz3, hyz3, pz3_0, pz3_1, pz3_2⟩ := hqs3
  rw [esz3]
  refine T.go 1 (fun n9 => (rfl : _ = exe ξ n9 (d + 2) j_M_behind 6 [(0, .ref 137), (1, J x), (2, J y), (3, J z3)] [] σ)) ?_
  exact loop6 _ z3  (by omega) (by omega) (by rw [pz3_0]) (Nat.lt_succ_self _)
