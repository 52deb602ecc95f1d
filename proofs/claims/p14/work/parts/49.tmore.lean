/-! Bits, and writes that keep K. -/
section
variable {ξ : Nat → Option (Nat × List Int32)} {d j pc : Nat} {lv : qLV} {st r : List Value} {σ : qH} {Q : Option Value → qH → Prop} {a b c p s : Int}
theorem i32_is {x : Int32} {z : Int} (h : x.toInt = z) : x = Int32.ofInt z := by rw [← h, Int32.ofInt_toInt]
theorem i64_is {x : Int64} {z : Int} (h : x.toInt = z) : x = Int64.ofInt z := by rw [← h, Int64.ofInt_toInt]
theorem T.iandm (k : Nat) (hf : qfe j pc = some (.iand, 1)) (hk : k < 31) (hp : (2 : Int) ^ k = p) (hc : (Int32.ofInt c).toBitVec.toNat = 2 ^ k - 1) (ha : -2147483648 ≤ a ∧ a ≤ 2147483647) (g : T ξ d j (pc + 1) lv (J (a % p) :: r) σ Q) : T ξ d j pc lv (J c :: J a :: r) σ Q :=
  T.sim hf (show some (lv, Value.int (Int32.ofInt a &&& Int32.ofInt c) :: r) = _ by
    rw [i32_is (x := Int32.ofInt a &&& Int32.ofInt c) (z := a % p)]
    rw [Jvm.Kit.i32_mask _ _ (k := k) (by omega) hc, i32_to ha, hp]) g
theorem T.ishr (k : Nat) (hf : qfe j pc = some (.ishr, 1)) (hp : (2 : Int) ^ k = p) (hc : ((Int32.ofInt s &&& 31).toBitVec.smod 32).toNat = k) (ha : -2147483648 ≤ a ∧ a ≤ 2147483647) (g : T ξ d j (pc + 1) lv (J (a / p) :: r) σ Q) : T ξ d j pc lv (J s :: J a :: r) σ Q :=
  T.sim hf (show some (lv, Value.int (Int32.ofInt a >>> (Int32.ofInt s &&& 31)) :: r) = _ by
    rw [i32_is (x := Int32.ofInt a >>> (Int32.ofInt s &&& 31)) (z := a / p)]
    rw [Jvm.Kit.i32_shr _ _ (k := k) hc, i32_to ha, hp]) g
theorem T.ishl (k : Nat) (hf : qfe j pc = some (.ishl, 1)) (hp : (2 : Int) ^ k = p) (hc : ((Int32.ofInt s &&& 31).toBitVec.smod 32).toNat = k) (ha : -2147483648 ≤ a ∧ a ≤ 2147483647) (hb : -2147483648 ≤ a * p ∧ a * p ≤ 2147483647) (g : T ξ d j (pc + 1) lv (J (a * p) :: r) σ Q) : T ξ d j pc lv (J s :: J a :: r) σ Q :=
  T.sim hf (show some (lv, Value.int (Int32.ofInt a <<< (Int32.ofInt s &&& 31)) :: r) = _ by
    rw [i32_is (x := Int32.ofInt a <<< (Int32.ofInt s &&& 31)) (z := a * p)]
    rw [Jvm.Kit.i32_shl _ _ (k := k) hc (by rw [i32_to ha, hp]; omega) (by rw [i32_to ha, hp]; omega), i32_to ha, hp]) g
theorem T.lshl (k : Nat) (hf : qfe j pc = some (.lshl, 1)) (hp : (2 : Int) ^ k = p) (hc : (((Int32.ofInt s).toInt64 &&& 63).toBitVec.smod 64).toNat = k) (ha : -9223372036854775808 ≤ a ∧ a ≤ 9223372036854775807) (hb : -9223372036854775808 ≤ a * p ∧ a * p ≤ 9223372036854775807) (g : T ξ d j (pc + 1) lv (JL (a * p) :: r) σ Q) : T ξ d j pc lv (J s :: JL a :: r) σ Q :=
  T.sim hf (show some (lv, Value.long (Int64.ofInt a <<< ((Int32.ofInt s).toInt64 &&& 63)) :: r) = _ by
    rw [i64_is (x := Int64.ofInt a <<< ((Int32.ofInt s).toInt64 &&& 63)) (z := a * p)]
    rw [Jvm.Kit.i64_shl _ _ (k := k) hc (by rw [i64_to ha, hp]; omega) (by rw [i64_to ha, hp]; omega), i64_to ha, hp]) g
theorem T.idivc (hf : qfe j pc = some (.idiv, 1)) (hc : 0 < c ∧ c ≤ 2147483647) (ha : 0 ≤ a ∧ a ≤ 2147483647) (g : T ξ d j (pc + 1) lv (J (a / c) :: r) σ Q) : T ξ d j pc lv (J c :: J a :: r) σ Q := by
  have h0 : (!(Int32.ofInt c == 0)) = true := by
    simp only [Bool.not_eq_true', beq_eq_false_iff_ne, ne_eq, show (0 : Int32) = Int32.ofInt 0 from rfl, i32_eq (show -2147483648 ≤ c ∧ c ≤ 2147483647 by omega) (show -2147483648 ≤ (0 : Int) ∧ (0 : Int) ≤ 2147483647 by decide)]
    omega
  have e : Int32.ofInt a / Int32.ofInt c = Int32.ofInt (a / c) := i32_is (by
    rw [Jvm.Kit.i32_div (by rw [i32_to (by omega), i32_to (by omega)]; omega), i32_to (by omega), i32_to (by omega)]
    exact Int.tdiv_eq_ediv_of_nonneg ha.1)
  exact T.sim hf (show (bif !(Int32.ofInt c == 0) then some (lv, Value.int (Int32.ofInt a / Int32.ofInt c) :: r) else none) = _ by rw [h0, e]; rfl) g
theorem T.iremc (hf : qfe j pc = some (.irem, 1)) (hc : 0 < c ∧ c ≤ 2147483647) (ha : 0 ≤ a ∧ a ≤ 2147483647) (g : T ξ d j (pc + 1) lv (J (a % c) :: r) σ Q) : T ξ d j pc lv (J c :: J a :: r) σ Q := by
  have h0 : (!(Int32.ofInt c == 0)) = true := by
    simp only [Bool.not_eq_true', beq_eq_false_iff_ne, ne_eq, show (0 : Int32) = Int32.ofInt 0 from rfl, i32_eq (show -2147483648 ≤ c ∧ c ≤ 2147483647 by omega) (show -2147483648 ≤ (0 : Int) ∧ (0 : Int) ≤ 2147483647 by decide)]
    omega
  have e : Int32.ofInt a / Int32.ofInt c = Int32.ofInt (a / c) := i32_is (by
    rw [Jvm.Kit.i32_div (by rw [i32_to (by omega), i32_to (by omega)]; omega), i32_to (by omega), i32_to (by omega)]
    exact Int.tdiv_eq_ediv_of_nonneg ha.1)
  have e2 : Int32.ofInt a - Int32.ofInt a / Int32.ofInt c * Int32.ofInt c = Int32.ofInt (a % c) := by
    rw [e, ← Int32.ofInt_mul, ← Int32.ofInt_sub]
    congr 1
    have := Int.mul_ediv_add_emod a c
    rw [Int.mul_comm] at this
    omega
  exact T.sim hf (show (bif !(Int32.ofInt c == 0) then some (lv, Value.int (Int32.ofInt a - Int32.ofInt a / Int32.ofInt c * Int32.ofInt c) :: r) else none) = _ by rw [h0, e2]; rfl) g
theorem bv_or {n k : Nat} (hk : k < n) {x q : Int} (h0 : 0 ≤ x) (h1 : x < 2 ^ k) : BitVec.ofInt n x ||| BitVec.ofInt n (q * 2 ^ k) = BitVec.ofInt n (x + q * 2 ^ k) := by
  have e1 : BitVec.ofInt n (q * 2 ^ k) = BitVec.ofInt n q <<< k := by
    rw [BitVec.ofInt_mul, BitVec.shiftLeft_eq_mul_twoPow]
    congr 1
    apply BitVec.eq_of_toNat_eq
    rw [BitVec.toNat_ofInt, BitVec.toNat_twoPow]
    have : ((2 : Int) ^ k % ((2 ^ n : Nat) : Int)) = ((2 ^ k % 2 ^ n : Nat) : Int) := by push_cast; rfl
    rw [this]
    rfl
  have e2 : BitVec.ofInt n x &&& BitVec.ofInt n (q * 2 ^ k) = 0#n := by
    rw [e1]
    apply BitVec.eq_of_getLsbD_eq
    intro i hi
    rw [BitVec.getLsbD_and, BitVec.getLsbD_shiftLeft, BitVec.getLsbD_zero]
    by_cases hik : i < k
    · simp [hik]
    · have : (BitVec.ofInt n x).getLsbD i = false := by
        rw [BitVec.getLsbD, BitVec.toNat_ofInt]
        have hx : (x % ((2 ^ n : Nat) : Int)).toNat = x.toNat := by
          have hlt : x < ((2 ^ n : Nat) : Int) := by
            have : ((2 : Int) ^ k) ≤ ((2 ^ n : Nat) : Int) := by
              have := Nat.pow_le_pow_right (show 2 > 0 by decide) (Nat.le_of_lt hk)
              have h9 : ((2 ^ k : Nat) : Int) ≤ ((2 ^ n : Nat) : Int) := Int.ofNat_le.mpr this
              have h8 : ((2 ^ k : Nat) : Int) = (2 : Int) ^ k := by push_cast; rfl
              omega
            omega
          rw [Int.emod_eq_of_lt h0 hlt]
        rw [hx]
        apply Nat.testBit_lt_two_pow
        have h2 : x.toNat < 2 ^ k := by
          have h8 : ((2 ^ k : Nat) : Int) = (2 : Int) ^ k := by push_cast; rfl
          omega
        exact Nat.lt_of_lt_of_le h2 (Nat.pow_le_pow_right (by decide) (by omega))
      rw [this]
      rfl
  rw [← BitVec.add_eq_or_of_and_eq_zero _ _ e2, BitVec.ofInt_add]
theorem T.iorm (k : Nat) (q : Int) (hf : qfe j pc = some (.ior, 1)) (hk : k < 32) (hp : (2 : Int) ^ k = p) (ha : 0 ≤ a ∧ a < p) (hb : b = q * p) (g : T ξ d j (pc + 1) lv (J (a + b) :: r) σ Q) : T ξ d j pc lv (J b :: J a :: r) σ Q :=
  T.sim hf (show some (lv, Value.int (Int32.ofInt a ||| Int32.ofInt b) :: r) = _ by
    subst hb; subst hp
    have : Int32.ofInt a ||| Int32.ofInt (q * 2 ^ k) = Int32.ofInt (a + q * 2 ^ k) := Int32.toBitVec_inj.mp (by
      rw [Int32.toBitVec_or]
      exact bv_or hk ha.1 ha.2)
    rw [this]) g
theorem T.lorm (k : Nat) (q : Int) (hf : qfe j pc = some (.lor, 1)) (hk : k < 64) (hp : (2 : Int) ^ k = p) (ha : 0 ≤ a ∧ a < p) (hb : b = q * p) (g : T ξ d j (pc + 1) lv (JL (a + b) :: r) σ Q) : T ξ d j pc lv (JL b :: JL a :: r) σ Q :=
  T.sim hf (show some (lv, Value.long (Int64.ofInt a ||| Int64.ofInt b) :: r) = _ by
    subst hb; subst hp
    have : Int64.ofInt a ||| Int64.ofInt (q * 2 ^ k) = Int64.ofInt (a + q * 2 ^ k) := Int64.toBitVec_inj.mp (by
      rw [Int64.toBitVec_or]
      exact bv_or hk ha.1 ha.2)
    rw [this]) g
theorem T.lorn (hf : qfe j pc = some (.lor, 1)) (ha : a = -1) (g : T ξ d j (pc + 1) lv (JL (-1) :: r) σ Q) : T ξ d j pc lv (JL b :: JL a :: r) σ Q :=
  T.sim hf (show some (lv, Value.long (Int64.ofInt a ||| Int64.ofInt b) :: r) = _ by
    subst ha
    have : Int64.ofInt (-1) ||| Int64.ofInt b = Int64.ofInt (-1) := Int64.toBitVec_inj.mp (by
      rw [Int64.toBitVec_or]
      show BitVec.allOnes 64 ||| _ = BitVec.allOnes 64
      exact BitVec.allOnes_or)
    rw [this]) g
/-- x & ~7 -/
theorem T.iand8 (hf : qfe j pc = some (.iand, 1)) (ha : 0 ≤ a ∧ a ≤ 2147483647) (g : T ξ d j (pc + 1) lv (J (a - a % 8) :: r) σ Q) : T ξ d j pc lv (J (-8) :: J a :: r) σ Q :=
  T.sim hf (show some (lv, Value.int (Int32.ofInt a &&& Int32.ofInt (-8)) :: r) = _ by
    have h1 : Int32.ofInt a &&& Int32.ofInt (-8) = Int32.ofInt a - (Int32.ofInt a &&& 7) := Int32.toBitVec_inj.mp (by
      rw [Int32.toBitVec_and, Int32.toBitVec_sub, Int32.toBitVec_and]
      have : ∀ x : BitVec 32, x &&& (Int32.ofInt (-8)).toBitVec = x - (x &&& (7 : Int32).toBitVec) := by
        intro x
        have e9 : x = (x &&& (Int32.ofInt (-8)).toBitVec) + (x &&& (7 : Int32).toBitVec) := by
          have z : (x &&& (Int32.ofInt (-8)).toBitVec) &&& (x &&& (7 : Int32).toBitVec) = 0#32 := by
            rw [BitVec.and_assoc, BitVec.and_comm (Int32.ofInt (-8)).toBitVec, BitVec.and_assoc, show (7 : Int32).toBitVec &&& (Int32.ofInt (-8)).toBitVec = 0#32 by decide, BitVec.and_zero, BitVec.and_zero]
          rw [BitVec.add_eq_or_of_and_eq_zero _ _ z, ← BitVec.and_or_distrib_left, show (Int32.ofInt (-8)).toBitVec ||| (7 : Int32).toBitVec = BitVec.allOnes 32 by decide, BitVec.and_allOnes]
        generalize hu : x &&& (Int32.ofInt (-8)).toBitVec = u at *
        generalize hv : x &&& (7 : Int32).toBitVec = v at *
        rw [e9, BitVec.add_sub_cancel]
      exact this _)
    rw [h1, i32_is (x := Int32.ofInt a - (Int32.ofInt a &&& 7)) (z := a - a % 8)]
    have h2 := Jvm.Kit.i32_mask (Int32.ofInt a) 7 (k := 3) (by decide) (by decide)
    rw [i32_to (by omega), show (2 : Int) ^ 3 = 8 from rfl] at h2
    rw [Jvm.Kit.i32_sub (by rw [i32_to (by omega), h2]; omega) (by rw [i32_to (by omega), h2]; omega), i32_to (by omega), h2]) g
end
