/-! A byte of a long word is put: the others stay. -/
theorem dv256 {a s : Int} (hs : 0 ≤ s ∧ s ≤ 56) : (a % 18446744073709551616) / P2 s % 256 = a / P2 s % 256 := by
  have hm : ∃ q : Int, 18446744073709551616 = q * 256 * P2 s := by
    refine ⟨2 ^ (56 - s.toNat), ?_⟩
    unfold P2
    rw [show (256 : Int) = 2 ^ 8 by decide, ← Int.pow_add, ← Int.pow_add, show 56 - s.toNat + 8 + s.toNat = 64 by omega]
    decide
  obtain ⟨q, hq⟩ := hm
  have hp : 0 < P2 s := Int.pow_pos (by decide)
  have ea : a % 18446744073709551616 = a - (a / 18446744073709551616 * q * 256) * P2 s := by
    have := Int.emod_def a 18446744073709551616
    rw [this]
    have h9 : 18446744073709551616 * (a / 18446744073709551616) = (a / 18446744073709551616 * q * 256) * P2 s := by
      conv => lhs; rw [show (18446744073709551616 : Int) * (a / 18446744073709551616) = (a / 18446744073709551616) * (q * 256 * P2 s) by rw [← hq]; exact Int.mul_comm _ _]
      rw [Int.mul_assoc, Int.mul_assoc, Int.mul_assoc]
    rw [h9]
  have e5 : (a % 18446744073709551616) / P2 s = a / P2 s - a / 18446744073709551616 * q * 256 := by
    rw [ea, Int.sub_mul_ediv_right _ _ (by omega)]
  omega
theorem n64 (q : Int) : ((Int64.ofInt q).toBitVec.toNat : Int) = q % 18446744073709551616 := by
  have : (Int64.ofInt q).toBitVec = BitVec.ofInt 64 q := rfl
  rw [this, BitVec.toNat_ofInt]
  omega
theorem sh64 {m : Int} (h : 0 ≤ m ∧ m ≤ 56) : (((Int32.ofInt m).toInt64 &&& 63).toBitVec.smod 64).toNat = m.toNat := by
  have h4 : ∀ m : Fin 57, (((Int32.ofInt (m.val : Int)).toInt64 &&& 63).toBitVec.smod 64).toNat = m.val := by decide
  have h5 := h4 ⟨m.toNat, by omega⟩
  simp only [Int.toNat_of_nonneg h.1] at h5
  exact h5
theorem mby_bv (Lc : List Int64) (r k : Int) : mby Lc r k = ((BitVec.extractLsb' (8 * (k % 8)).toNat 8 (Lc.getD (1000 * r + k / 8).toNat 0).toBitVec).toNat : Int) := by
  unfold mby
  generalize Lc.getD (1000 * r + k / 8).toNat 0 = x
  have hm : 0 ≤ 8 * (k % 8) ∧ 8 * (k % 8) ≤ 56 := by omega
  generalize 8 * (k % 8) = m at hm
  rw [Jvm.Kit.i32_mask _ 255 (k := 8) (by decide) (by decide), Int64.toInt_toInt32, bm8, Jvm.Kit.i64_shr _ _ (sh64 hm), BitVec.extractLsb'_toNat, Nat.shiftRight_eq_div_pow]
  have h1 := n64 x.toInt
  rw [Int64.ofInt_toInt] at h1
  have h2 := dv256 (a := x.toInt) hm
  rw [← h1] at h2
  have h3 : (x.toInt / P2 m % 256 : Int) = x.toInt / 2 ^ m.toNat % 2 ^ 8 := rfl
  rw [← h3, ← h2]
  unfold P2
  rw [Int.natCast_emod, Int.natCast_ediv, Int.natCast_pow, Int.natCast_pow]
  rfl
theorem t255 (n : Nat) : (255#64).getLsbD n = decide (n < 8) := by
  by_cases h : n < 64
  · have h4 : ∀ m : Fin 64, (255#64).getLsbD m.val = decide (m.val < 8) := by decide
    exact h4 ⟨n, h⟩
  · rw [BitVec.getLsbD_of_ge _ _ (by omega)]
    simp only [Bool.false_eq, decide_eq_false_iff_not]
    omega
theorem put_bv (W V : BitVec 64) {i j : Nat} (hi : i < 8) (hj : j < 8) : BitVec.extractLsb' (8 * j) 8 ((W &&& ((255#64 <<< (8 * i)) ^^^ BitVec.allOnes 64)) ||| ((V &&& 255#64) <<< (8 * i))) = if j = i then BitVec.extractLsb' 0 8 V else BitVec.extractLsb' (8 * j) 8 W := by
  apply BitVec.eq_of_getLsbD_eq
  intro t ht
  rw [BitVec.getLsbD_extractLsb', BitVec.getLsbD_or, BitVec.getLsbD_and, BitVec.getLsbD_xor, BitVec.getLsbD_allOnes, BitVec.getLsbD_shiftLeft, BitVec.getLsbD_shiftLeft, BitVec.getLsbD_and, t255]
  by_cases e : j = i
  · subst e
    rw [if_pos rfl, BitVec.getLsbD_extractLsb']
    simp only [show 8 * j + t < 64 by omega, show ¬ 8 * j + t < 8 * j by omega, show 8 * j + t - 8 * j = t by omega, ht, decide_true, decide_false, Bool.not_false, Bool.true_and, Bool.and_true, Bool.xor_self, Bool.and_false, Bool.false_or, Nat.zero_add]
  · rw [if_neg e, BitVec.getLsbD_extractLsb']
    by_cases h : 8 * j + t < 8 * i
    · simp only [show 8 * j + t < 64 by omega, h, ht, decide_true, Bool.not_true, Bool.and_false, Bool.false_and, Bool.false_xor, Bool.and_true, Bool.or_false, Bool.true_and]
    · simp only [show 8 * j + t < 64 by omega, h, show ¬ 8 * j + t - 8 * i < 8 by omega, ht, decide_true, decide_false, Bool.not_false, Bool.and_false, Bool.false_xor, Bool.and_true, Bool.or_false, Bool.true_and]
theorem shl64 (x n : Int64) {k : Nat} (hn : (n.toBitVec.smod 64).toNat = k) : (x <<< n).toBitVec = x.toBitVec <<< k := by
  show x.toBitVec <<< (n.toBitVec.smod 64) = _
  rw [BitVec.shiftLeft_eq', hn]
theorem byte0 (u : Int) : ((BitVec.extractLsb' 0 8 (Int64.ofInt u).toBitVec).toNat : Int) = u % 256 := by
  rw [BitVec.extractLsb'_toNat, Nat.shiftRight_zero, Int.natCast_emod, n64]
  have : ((2 ^ 8 : Nat) : Int) = 256 := by decide
  rw [this]
  omega
theorem gc_put {Lc : List Int64} {x y u : Int} {V : Int64} (hx : 0 ≤ x) (hy : 0 ≤ y ∧ y < 8000) (hl : 1000 * x + y / 8 < Lc.length) (e : V.toBitVec = ((Lc.getD (1000 * x + y / 8).toNat 0).toBitVec &&& ((255#64 <<< (8 * (y % 8).toNat)) ^^^ BitVec.allOnes 64)) ||| (((Int64.ofInt u).toBitVec &&& 255#64) <<< (8 * (y % 8).toNat))) : gc (Lc.set (1000 * x + y / 8).toNat V) x = updG (gc Lc x) y (u % 256) := by
  funext k
  unfold updG
  by_cases hk : 0 ≤ k ∧ k < 8000
  · rw [gc_at hk, mby_bv]
    by_cases hw : k / 8 = y / 8
    · have e1 : (Lc.set (1000 * x + y / 8).toNat V).getD (1000 * x + k / 8).toNat 0 = V := by
        rw [hw, List.getD_eq_getElem?_getD, List.getElem?_set_self (by omega)]
        rfl
      rw [e1, e, show (8 * (k % 8)).toNat = 8 * (k % 8).toNat by omega, put_bv _ _ (by omega) (by omega)]
      by_cases q : k = y
      · rw [if_pos (by rw [q]), if_pos q]
        exact byte0 u
      · rw [if_neg (by omega), if_neg q, gc_at hk, mby_bv, hw, show (8 * (k % 8)).toNat = 8 * (k % 8).toNat by omega]
    · have e1 : (Lc.set (1000 * x + y / 8).toNat V).getD (1000 * x + k / 8).toNat 0 = Lc.getD (1000 * x + k / 8).toNat 0 := by
        rw [List.getD_eq_getElem?_getD, List.getElem?_set_ne (by omega), ← List.getD_eq_getElem?_getD]
      rw [e1, if_neg (fun q => hw (by rw [q])), gc_at hk, mby_bv]
  · rw [if_neg (by omega)]
    unfold gc
    rw [if_neg hk, if_neg hk]
/-- the twenty bytes of five ints, one by one -/
def fb (a b c d e : Int) (n : Int) : Int := (if n < 4 then a else if n < 8 then b else if n < 12 then c else if n < 16 then d else e) / P2 (24 - 8 * (n % 4)) % 256
def fd (g : Int → Int) (t a b c d e : Int) : Nat → Int → Int
  | 0 => g
  | n + 1 => updG (fd g t a b c d e n) (t + n) (fb a b c d e n)
theorem fd_step {g : Int → Int} {t a b c d e k : Int} (h : 0 ≤ k) : fd g t a b c d e (k + 1).toNat = updG (fd g t a b c d e k.toNat) (t + k) (fb a b c d e k) := by
  rw [show (k + 1).toNat = k.toNat + 1 by omega]
  show updG (fd g t a b c d e k.toNat) (t + (k.toNat : Int)) (fb a b c d e (k.toNat : Int)) = _
  rw [Int.toNat_of_nonneg h]
theorem P2_l : P2 24 = 16777216 ∧ P2 16 = 65536 ∧ P2 8 = 256 ∧ P2 0 = 1 := by decide
theorem fb_4 (a b c d e n : Int) (w : Int) (hw : (if n < 4 then a else if n < 8 then b else if n < 12 then c else if n < 16 then d else e) = w) : (n % 4 = 0 → fb a b c d e n = w / 16777216 % 256) ∧ (n % 4 = 1 → fb a b c d e n = w / 65536 % 256) ∧ (n % 4 = 2 → fb a b c d e n = w / 256 % 256) ∧ (n % 4 = 3 → fb a b c d e n = w % 256) := by
  unfold fb
  rw [hw]
  refine ⟨fun h => ?_, fun h => ?_, fun h => ?_, fun h => ?_⟩
  · rw [h, show (24 : Int) - 8 * 0 = 24 by decide, P2_l.1]
  · rw [h, show (24 : Int) - 8 * 1 = 16 by decide, P2_l.2.1]
  · rw [h, show (24 : Int) - 8 * 2 = 8 by decide, P2_l.2.2.1]
  · rw [h, show (24 : Int) - 8 * 3 = 0 by decide, P2_l.2.2.2]
    omega
theorem fd_4 (g : Int → Int) (t a b c d e w : Int) (n : Nat) (h4 : n % 4 = 0) (hw : ∀ k : Int, n ≤ k → k < n + 4 → (if k < 4 then a else if k < 8 then b else if k < 12 then c else if k < 16 then d else e) = w) : fd g t a b c d e (n + 4) = up4 (fd g t a b c d e n) (t + n) w := by
  have e0 := (fb_4 a b c d e ((n : Nat) : Int) w (hw _ (by omega) (by omega))).1 (by omega)
  have e1 := (fb_4 a b c d e ((n + 1 : Nat) : Int) w (hw _ (by omega) (by omega))).2.1 (by omega)
  have e2 := (fb_4 a b c d e ((n + 2 : Nat) : Int) w (hw _ (by omega) (by omega))).2.2.1 (by omega)
  have e3 := (fb_4 a b c d e ((n + 3 : Nat) : Int) w (hw _ (by omega) (by omega))).2.2.2 (by omega)
  show updG (updG (updG (updG (fd g t a b c d e n) (t + ((n : Nat) : Int)) (fb a b c d e ((n : Nat) : Int))) (t + ((n + 1 : Nat) : Int)) (fb a b c d e ((n + 1 : Nat) : Int))) (t + ((n + 2 : Nat) : Int)) (fb a b c d e ((n + 2 : Nat) : Int))) (t + ((n + 3 : Nat) : Int)) (fb a b c d e ((n + 3 : Nat) : Int)) = _
  rw [e0, e1, e2, e3]
  unfold up4
  rw [show t + ((n + 1 : Nat) : Int) = t + n + 1 by omega, show t + ((n + 2 : Nat) : Int) = t + n + 2 by omega, show t + ((n + 3 : Nat) : Int) = t + n + 3 by omega]
theorem fd_20 (g : Int → Int) (t a b c d e : Int) : fd g t a b c d e 20 = up20 g t a b c d e := by
  have h1 := fd_4 g t a b c d e a 0 rfl (fun k p q => if_pos (by omega))
  have h2 := fd_4 g t a b c d e b 4 rfl (fun k p q => by rw [if_neg (by omega), if_pos (by omega)])
  have h3 := fd_4 g t a b c d e c 8 rfl (fun k p q => by rw [if_neg (by omega), if_neg (by omega), if_pos (by omega)])
  have h4 := fd_4 g t a b c d e d 12 rfl (fun k p q => by rw [if_neg (by omega), if_neg (by omega), if_neg (by omega), if_pos (by omega)])
  have h5 := fd_4 g t a b c d e e 16 rfl (fun k p q => by rw [if_neg (by omega), if_neg (by omega), if_neg (by omega), if_neg (by omega)])
  unfold up20
  have e0 : t + ((0 : Nat) : Int) = t := by omega
  rw [e0] at h1
  rw [show fd g t a b c d e 20 = fd g t a b c d e (16 + 4) from rfl, h5, show fd g t a b c d e 16 = fd g t a b c d e (12 + 4) from rfl, h4, show fd g t a b c d e 12 = fd g t a b c d e (8 + 4) from rfl, h3, show fd g t a b c d e 8 = fd g t a b c d e (4 + 4) from rfl, h2, show fd g t a b c d e 4 = fd g t a b c d e (0 + 4) from rfl, h1]
  rfl
