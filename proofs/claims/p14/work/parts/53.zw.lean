/-! Rules for sums. -/
/-- an int as a number without sign -/
def u32 (a : Int) : Nat := (a % 4294967296).toNat
theorem u32_bv (a : Int) : (Int32.ofInt a).toBitVec.toNat = u32 a := by
  have h : (Int32.ofInt a).toBitVec = BitVec.ofInt 32 a := rfl
  rw [h, BitVec.toNat_ofInt]
  unfold u32
  omega
theorem u32_of {a : Int} (h : 0 ≤ a ∧ a < 4294967296) : u32 a = a.toNat := by
  unfold u32
  rw [Int.emod_eq_of_lt h.1 h.2]
theorem u32_16 (a : Int) : u32 a % 16 = (a % 16).toNat := by
  unfold u32
  omega
theorem xor32 {n : Nat} (h : n < 4294967296) : n ^^^ 4294967295 = 4294967295 - n := by
  have e1 : (BitVec.ofNat 32 n ^^^ BitVec.allOnes 32).toNat = (~~~ (BitVec.ofNat 32 n)).toNat := by rw [BitVec.xor_allOnes]
  rw [BitVec.toNat_xor, BitVec.toNat_not, BitVec.toNat_allOnes, BitVec.toNat_ofNat, Nat.mod_eq_of_lt h] at e1
  exact e1
section
variable {ξ : Nat → Option (Nat × List Int32)} {d j pc : Nat} {lv : qLV} {r : List Value} {σ : qH} {Q : Option Value → qH → Prop} {a b : Int}
theorem T.ixorn (hf : qfe j pc = some (.ixor, 1)) (g : ∀ z : Int, -2147483648 ≤ z → z ≤ 2147483647 → u32 z = u32 a ^^^ u32 b → T ξ d j (pc + 1) lv (J z :: r) σ Q) : T ξ d j pc lv (J b :: J a :: r) σ Q := by
  refine T.some1 (x := Int32.ofInt a ^^^ Int32.ofInt b) hf rfl (fun z h1 h2 e => g z h1 h2 ?_)
  have e2 := congrArg (fun q : Int32 => q.toBitVec.toNat) e
  simp only [Int32.toBitVec_xor, BitVec.toNat_xor, u32_bv] at e2
  exact e2.symm
theorem T.iushr4 (hf : qfe j pc = some (.iushr, 1)) (g : ∀ z : Int, -2147483648 ≤ z → z ≤ 2147483647 → u32 z = u32 a / 16 → T ξ d j (pc + 1) lv (J z :: r) σ Q) : T ξ d j pc lv (J 4 :: J a :: r) σ Q := by
  refine T.some1 (x := ((Int32.ofInt a).toUInt32 >>> ((Int32.ofInt 4).toUInt32 &&& Int32.toUInt32 31)).toInt32) hf rfl (fun z h1 h2 e => g z h1 h2 ?_)
  have e2 := congrArg (fun q : Int32 => q.toBitVec.toNat) e
  have hsh : ((Int32.ofInt 4).toUInt32 &&& Int32.toUInt32 31).toNat % 32 = 4 := by decide
  have e3 : (((Int32.ofInt a).toUInt32 >>> ((Int32.ofInt 4).toUInt32 &&& Int32.toUInt32 31)).toInt32).toBitVec.toNat = (Int32.ofInt a).toBitVec.toNat / 2 ^ 4 := by
    show ((Int32.ofInt a).toUInt32 >>> ((Int32.ofInt 4).toUInt32 &&& Int32.toUInt32 31)).toNat = _
    rw [UInt32.toNat_shiftRight, hsh, Nat.shiftRight_eq_div_pow]
    rfl
  have e4 : (Int32.ofInt z).toBitVec.toNat = (Int32.ofInt a).toBitVec.toNat / 2 ^ 4 := by rw [← e3]; exact e2.symm
  rw [u32_bv, u32_bv] at e4
  exact e4
theorem T.landm {c p : Int} (k : Nat) (hf : qfe j pc = some (.land, 1)) (hk : k < 64) (hp : (2 : Int) ^ k = p) (hc : (Int64.ofInt c).toBitVec.toNat = 2 ^ k - 1) (ha : -9223372036854775808 ≤ a ∧ a ≤ 9223372036854775807) (g : T ξ d j (pc + 1) lv (JL (a % p) :: r) σ Q) : T ξ d j pc lv (JL c :: JL a :: r) σ Q :=
  T.sim hf (show some (lv, Value.long (Int64.ofInt a &&& Int64.ofInt c) :: r) = _ by
    rw [i64_is (x := Int64.ofInt a &&& Int64.ofInt c) (z := a % p)]
    rw [Jvm.Kit.i64_mask _ _ (k := k) hk hc, i64_to ha, hp]) g
theorem i64_bv {q : Int} (h : 0 ≤ q ∧ q < 4294967296) : (Int64.ofInt q).toBitVec.toNat = q.toNat := by
  have h1 : (Int64.ofInt q).toBitVec = BitVec.ofInt 64 q := rfl
  rw [h1, BitVec.toNat_ofInt]
  omega
theorem T.lxorn (hf : qfe j pc = some (.lxor, 1)) (ha : 0 ≤ a ∧ a < 4294967296) (hb : 0 ≤ b ∧ b < 4294967296) (g : ∀ z : Int, 0 ≤ z → z < 4294967296 → z.toNat = a.toNat ^^^ b.toNat → T ξ d j (pc + 1) lv (JL z :: r) σ Q) : T ξ d j pc lv (JL b :: JL a :: r) σ Q := by
  have hx : a.toNat ^^^ b.toNat < 2 ^ 32 := Nat.xor_lt_two_pow (by omega) (by omega)
  refine T.sim hf (show some (lv, Value.long (Int64.ofInt a ^^^ Int64.ofInt b) :: r) = some (lv, JL ((a.toNat ^^^ b.toNat : Nat) : Int) :: r) by
    have : Int64.ofInt a ^^^ Int64.ofInt b = Int64.ofInt ((a.toNat ^^^ b.toNat : Nat) : Int) := by
      apply Int64.toBitVec_inj.mp
      rw [Int64.toBitVec_xor]
      apply BitVec.eq_of_toNat_eq
      rw [BitVec.toNat_xor, i64_bv ha, i64_bv hb, i64_bv (by omega), Int.toNat_natCast]
    rw [this]) (g _ (by omega) (by omega) (by rw [Int.toNat_natCast]))
end
theorem X6_at {X : List Int32} {i z : Int} (h : X = tab6) (hi : 0 ≤ i ∧ i < 16) (e : X.getD i.toNat 0 = Int32.ofInt z) : u32 z = cN 4 i.toNat := by
  subst h
  have h5 := tab6_ok ⟨i.toNat, by omega⟩
  simp only [e, u32_bv] at h5
  exact h5
/-- a step of the class's sum -/
theorem sum_4 {a z w t : Int} {s : Nat} (ha : u32 a = s) (hz : u32 z = u32 a / 16) (ht : u32 t = cN 4 (a % 16).toNat) (hw : u32 w = u32 z ^^^ u32 t) : u32 w = s / 16 ^^^ cN 4 (s % 16) := by
  rw [hw, hz, ht, ← u32_16, ha]
