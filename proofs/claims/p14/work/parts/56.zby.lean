/-! The bytes of the model's rows, as a function of its long words. -/
def mby (Lc : List Int64) (r k : Int) : Int := (((Lc.getD (1000 * r + k / 8).toNat 0) >>> ((Int32.ofInt (8 * (k % 8))).toInt64 &&& 63)).toInt32 &&& 255).toInt
/-- a row's bytes -/
def gc (Lc : List Int64) (r : Int) : Int → Int := fun k => if 0 ≤ k ∧ k < 8000 then mby Lc r k else 0
theorem mby_r (Lc : List Int64) (r k : Int) : 0 ≤ mby Lc r k ∧ mby Lc r k ≤ 255 := by
  unfold mby
  have h := Jvm.Kit.i32_mask (((Lc.getD (1000 * r + k / 8).toNat 0) >>> ((Int32.ofInt (8 * (k % 8))).toInt64 &&& 63)).toInt32) 255 (k := 8) (by decide) (by decide)
  rw [h, show (2 : Int) ^ 8 = 256 from rfl]
  omega
theorem gc_r (Lc : List Int64) (r k : Int) : 0 ≤ gc Lc r k ∧ gc Lc r k ≤ 255 := by
  unfold gc
  split
  · exact mby_r Lc r k
  · omega
theorem gc_at {Lc : List Int64} {r k : Int} (h : 0 ≤ k ∧ k < 8000) : gc Lc r k = mby Lc r k := if_pos h
theorem bm8 (x : Int) : (x.bmod (2 ^ 32)) % 2 ^ 8 = x % 2 ^ 8 := by
  simp only [Int.bmod]
  split <;> omega
theorem T.iandw {ξ : Nat → Option (Nat × List Int32)} {d j pc : Nat} {lv : qLV} {r : List Value} {σ : qH} {Q : Option Value → qH → Prop} {a : Int} (hf : qfe j pc = some (.iand, 1)) (g : T ξ d j (pc + 1) lv (J (a % 256) :: r) σ Q) : T ξ d j pc lv (J 255 :: J a :: r) σ Q :=
  T.sim hf (show some (lv, Value.int (Int32.ofInt a &&& Int32.ofInt 255) :: r) = _ by
    rw [i32_is (x := Int32.ofInt a &&& Int32.ofInt 255) (z := a % 256)]
    rw [Jvm.Kit.i32_mask _ _ (k := 8) (by decide) (by decide), Int32.toInt_ofInt]
    exact bm8 a) g
/-- reading a byte -/
theorem s_M_get {ξ : Nat → Option (Nat × List Int32)} {c io mo fa pl ns rw en wy wh bi ed sz md bd li wk we : Int} {Lc : List Int64} {la lm ln lh ld lk lt : List Int32} (d : Nat) (x y : Int) (σ : qH) (hM : MS σ c io mo fa pl ns rw en wy wh bi ed sz md bd li wk we Lc la lm ln lh ld lk lt) (h : 0 ≤ x ∧ 0 ≤ y ∧ 1000 * x + y / 8 < 7000) : T ξ d j_M_get 0 (lv_args 0 [.ref 137, J x, J y]) [] σ (fun v σ' => ∃ (z : Int), v = some (J z) ∧ σ' = σ ∧ 0 ≤ z ∧ z ≤ 255 ∧ z = mby Lc x y) := by
  have n0 := hM.len
  refine T.go 1 (fun n9 => (rfl : _ = exe ξ n9 d j_M_get 1 [(0, .ref 137), (1, J x), (2, J y)] [.ref 137] σ)) ?_
  refine T.get rfl rfl rfl hM.ob rfl ?_
  refine T.go 2 (fun n9 => (rfl : _ = exe ξ n9 d j_M_get 8 [(0, .ref 137), (1, J x), (2, J y)] [J x, J 1000, .ref 138] σ)) ?_
  refine T.imul rfl ?_
  refine T.go 2 (fun n9 => (rfl : _ = exe ξ n9 d j_M_get 12 [(0, .ref 137), (1, J x), (2, J y)] [J 8, J y, J (1000 * x), .ref 138] σ)) ?_
  refine T.idivc (c := 8) rfl (by decide) (by omega) ?_
  refine T.iadd rfl ?_
  refine T.lald rfl hM.c138 (by omega) (fun z1 _ _ e1 => ?_)
  refine T.go 3 (fun n9 => (rfl : _ = exe ξ n9 d j_M_get 20 [(0, .ref 137), (1, J x), (2, J y)] [J 8, J y, J 8, JL z1] σ)) ?_
  refine T.iremc (c := 8) rfl (by decide) (by omega) ?_
  refine T.imul rfl ?_
  refine T.some2 rfl rfl (fun z2 _ _ e2 => ?_)
  refine T.l2i rfl ?_
  have key : ((Int64.ofInt z2).toInt32 &&& 255).toInt = z2 % 256 := by
    rw [show (Int64.ofInt z2).toInt32 = Int32.ofInt z2 by rw [← Int32.toInt_inj, Int64.toInt_toInt32, Int64.toInt_ofInt, Int32.toInt_ofInt]; exact Int.bmod_bmod_of_dvd (by decide)]
    rw [Jvm.Kit.i32_mask (Int32.ofInt z2) 255 (k := 8) (by decide) (by decide), Int32.toInt_ofInt]
    exact bm8 z2
  have hb : mby Lc x y = z2 % 256 := by
    unfold mby
    rw [e1, e2, key]
  refine T.go 1 (fun n9 => (rfl : _ = exe ξ n9 d j_M_get 27 [(0, .ref 137), (1, J x), (2, J y)] [J 255, J z2] σ)) ?_
  refine T.iandw rfl ?_
  exact T.ireti rfl rfl ⟨_, rfl, rfl, by omega, by omega, hb.symm⟩
