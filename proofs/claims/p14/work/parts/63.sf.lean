/-! Typing: the bytes of a word. -/
/-- the highest bytes are letters or 0 -/
def AOK (x : Int) : Nat → Int
  | 0 => 1
  | j + 1 => if AOK x j = 1 ∧ (x / P2 (56 - 8 * (j : Int)) % 256 = 0 ∨ (33 ≤ x / P2 (56 - 8 * (j : Int)) % 256 ∧ x / P2 (56 - 8 * (j : Int)) % 256 ≤ 126)) then 1 else 0
theorem AOK_no {x : Int} {m n : Nat} (h : AOK x m = 0) (hl : m ≤ n) : AOK x n = 0 := by
  induction n with
  | zero =>
    have : m = 0 := by omega
    rw [this] at h
    exact h
  | succ n ih =>
    by_cases e : m = n + 1
    · rw [← e]; exact h
    · show (if AOK x n = 1 ∧ _ then (1 : Int) else 0) = 0
      rw [if_neg]
      have := ih (by omega)
      omega
theorem AOK_step {x k : Int} (h : 0 ≤ k ∧ k ≤ 56) (h8 : k % 8 = 0) : AOK x ((56 - (k + (-8))) / 8).toNat = if AOK x ((56 - k) / 8).toNat = 1 ∧ (x / P2 k % 256 = 0 ∨ (33 ≤ x / P2 k % 256 ∧ x / P2 k % 256 ≤ 126)) then 1 else 0 := by
  rw [show ((56 - (k + (-8))) / 8).toNat = ((56 - k) / 8).toNat + 1 by omega]
  show (if AOK x ((56 - k) / 8).toNat = 1 ∧ (x / P2 (56 - 8 * ((((56 - k) / 8).toNat : Nat) : Int)) % 256 = 0 ∨ (33 ≤ x / P2 (56 - 8 * ((((56 - k) / 8).toNat : Nat) : Int)) % 256 ∧ x / P2 (56 - 8 * ((((56 - k) / 8).toNat : Nat) : Int)) % 256 ≤ 126)) then (1 : Int) else 0) = _
  rw [show 56 - 8 * ((((56 - k) / 8).toNat : Nat) : Int) = k by omega]
theorem AOK_yes {x k : Int} (h : 0 ≤ k ∧ k ≤ 56) (h8 : k % 8 = 0) (h1 : AOK x ((56 - k) / 8).toNat = 1) (hb : x / P2 k % 256 = 0 ∨ (33 ≤ x / P2 k % 256 ∧ x / P2 k % 256 ≤ 126)) : AOK x ((56 - (k + (-8))) / 8).toNat = 1 := by
  rw [AOK_step h h8, if_pos ⟨h1, hb⟩]
theorem AOK_bad {x k : Int} (h : 0 ≤ k ∧ k ≤ 56) (h8 : k % 8 = 0) (hb : ¬ (x / P2 k % 256 = 0 ∨ (33 ≤ x / P2 k % 256 ∧ x / P2 k % 256 ≤ 126))) : AOK x 8 = 0 :=
  AOK_no (m := ((56 - (k + (-8))) / 8).toNat) (by rw [AOK_step h h8, if_neg (fun q => hb q.2)]) (by omega)
theorem CW_z {x k : Int} (h : 0 ≤ k) (h8 : k % 8 = 0) (hb : x / P2 k % 256 = 0) : CW x ((k + 8) / 8).toNat = CW x ((k + (-8) + 8) / 8).toNat := by
  rw [CW_step h h8, if_pos hb, show k + (-8) + 8 = k by omega]
  omega
theorem CW_n {x k : Int} (h : 0 ≤ k) (h8 : k % 8 = 0) (hb : ¬ x / P2 k % 256 = 0) : CW x ((k + 8) / 8).toNat = CW x ((k + (-8) + 8) / 8).toNat + 1 := by
  rw [CW_step h h8, if_neg hb, show k + (-8) + 8 = k by omega]
/-- does typing go well -/
def TYv (x n : Int) : Int := if AOK x 8 = 1 ∧ n + CW x 8 ≤ 40 then 1 else 0
theorem P2_pos (k : Int) : 0 < P2 k := Int.pow_pos (by decide)
theorem T.lushrq {ξ : Nat → Option (Nat × List Int32)} {d j pc : Nat} {lv : qLV} {r : List Value} {σ : qH} {Q : Option Value → qH → Prop} {a s : Int} (hf : qfe j pc = some (.lushr, 1)) (ha : -9223372036854775808 ≤ a ∧ a ≤ 9223372036854775807) (hs : 0 ≤ s ∧ s ≤ 56) (g : ∀ z : Int, -9223372036854775808 ≤ z → z ≤ 9223372036854775807 → z % 256 = a / P2 s % 256 → T ξ d j (pc + 1) lv (JL z :: r) σ Q) : T ξ d j pc lv (J s :: JL a :: r) σ Q := by
  refine T.some2 (x := ((Int64.ofInt a).toUInt64 >>> ((Int32.ofInt s).toInt64.toUInt64 &&& Int64.toUInt64 63)).toInt64) hf rfl (fun z h1 h2 e => g z h1 h2 ?_)
  have h4 : ∀ m : Fin 57, ((Int32.ofInt (m.val : Int)).toInt64.toUInt64 &&& Int64.toUInt64 63).toNat % 64 = m.val := by decide
  have h5 := h4 ⟨s.toNat, by omega⟩
  simp only [Int.toNat_of_nonneg hs.1] at h5
  have e2 := congrArg (fun q : Int64 => q.toBitVec.toNat) e
  have e3 : (((Int64.ofInt a).toUInt64 >>> ((Int32.ofInt s).toInt64.toUInt64 &&& Int64.toUInt64 63)).toInt64).toBitVec.toNat = (Int64.ofInt a).toBitVec.toNat / 2 ^ s.toNat := by
    show ((Int64.ofInt a).toUInt64 >>> ((Int32.ofInt s).toInt64.toUInt64 &&& Int64.toUInt64 63)).toNat = _
    rw [UInt64.toNat_shiftRight, h5, Nat.shiftRight_eq_div_pow]
    rfl
  have n64 : ∀ q : Int, ((Int64.ofInt q).toBitVec.toNat : Int) = q % 18446744073709551616 := fun q => by
    have : (Int64.ofInt q).toBitVec = BitVec.ofInt 64 q := rfl
    rw [this, BitVec.toNat_ofInt]
    omega
  have e4 : (z % 18446744073709551616 : Int) = (a % 18446744073709551616) / P2 s := by
    rw [← n64 z, ← n64 a]
    have : (Int64.ofInt z).toBitVec.toNat = (Int64.ofInt a).toBitVec.toNat / 2 ^ s.toNat := by rw [← e3]; exact e2.symm
    rw [this, Int.natCast_ediv]
    unfold P2
    rw [Int.natCast_pow]
    rfl
  have hm : ∃ q : Int, 18446744073709551616 = q * 256 * P2 s := by
    refine ⟨2 ^ (56 - s.toNat), ?_⟩
    unfold P2
    rw [show (256 : Int) = 2 ^ 8 by decide, ← Int.pow_add, ← Int.pow_add, show 56 - s.toNat + 8 + s.toNat = 64 by omega]
    decide
  obtain ⟨q, hq⟩ := hm
  have hp := P2_pos s
  have ea : a % 18446744073709551616 = a - (a / 18446744073709551616 * q * 256) * P2 s := by
    have := Int.emod_def a 18446744073709551616
    rw [this]
    have h9 : 18446744073709551616 * (a / 18446744073709551616) = (a / 18446744073709551616 * q * 256) * P2 s := by
      conv => lhs; rw [show (18446744073709551616 : Int) * (a / 18446744073709551616) = (a / 18446744073709551616) * (q * 256 * P2 s) by rw [← hq]; exact Int.mul_comm _ _]
      rw [Int.mul_assoc, Int.mul_assoc, Int.mul_assoc]
    rw [h9]
  have e5 : (a % 18446744073709551616) / P2 s = a / P2 s - a / 18446744073709551616 * q * 256 := by
    rw [ea, Int.sub_mul_ediv_right _ _ (by omega)]
  rw [e5] at e4
  omega
/-- what stands in the row when the highest j bytes are typed -/
def TYA (g : Int → Int) (n x : Int) : Nat → Int → Int
  | 0 => g
  | j + 1 => if x / P2 (56 - 8 * (j : Int)) % 256 = 0 then TYA g n x j else updG (TYA g n x j) (n + CW x 8 - CW x (8 - j)) (x / P2 (56 - 8 * (j : Int)) % 256)
theorem TYA_step {g : Int → Int} {n x k : Int} (h : 0 ≤ k ∧ k ≤ 56) (h8 : k % 8 = 0) : TYA g n x ((56 - (k + (-8))) / 8).toNat = if x / P2 k % 256 = 0 then TYA g n x ((56 - k) / 8).toNat else updG (TYA g n x ((56 - k) / 8).toNat) (n + CW x 8 - CW x ((k + 8) / 8).toNat) (x / P2 k % 256) := by
  obtain ⟨j, hj⟩ : ∃ j : Nat, (56 - k) / 8 = j := ⟨((56 - k) / 8).toNat, by omega⟩
  rw [show ((56 - (k + (-8))) / 8).toNat = j + 1 by omega, show ((56 - k) / 8).toNat = j by omega, show ((k + 8) / 8).toNat = 8 - j by omega, show k = 56 - 8 * (j : Int) by omega]
  rfl
theorem TYA_z {g : Int → Int} {n x k : Int} (h : 0 ≤ k ∧ k ≤ 56) (h8 : k % 8 = 0) (hb : x / P2 k % 256 = 0) : TYA g n x ((56 - (k + (-8))) / 8).toNat = TYA g n x ((56 - k) / 8).toNat := by
  rw [TYA_step h h8, if_pos hb]
theorem TYA_n {g : Int → Int} {n x k : Int} (h : 0 ≤ k ∧ k ≤ 56) (h8 : k % 8 = 0) (hb : ¬ x / P2 k % 256 = 0) {m : Int} (hm : m + CW x ((k + 8) / 8).toNat = n + CW x 8) {b : Int} (e : b = x / P2 k % 256) : TYA g n x ((56 - (k + (-8))) / 8).toNat = updG (TYA g n x ((56 - k) / 8).toNat) m b := by
  rw [TYA_step h h8, if_neg hb, e, show n + CW x 8 - CW x ((k + 8) / 8).toNat = m by omega]
/-- the typed name, in the class and in the model -/
def TYQ (σ : qH) (ln : List Int32) (ns : Int) : Prop := AGR σ 51 (gl ln) ∧ rl σ 51 = ns
