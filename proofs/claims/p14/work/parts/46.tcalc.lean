/-! Runs that end, with something said of their end. Ints stand as Int32.ofInt of an integer. -/
def T (ξ : Nat → Option (Nat × List Int32)) (d j pc : Nat) (lv : qLV) (st : List Value) (σ : qH) (Q : Option Value → qH → Prop) : Prop := ∃ (v : Option Value) (σ' : qH), G ξ d j pc lv st σ (v, σ') ∧ Q v σ'
abbrev J (z : Int) : Value := .int (Int32.ofInt z)
abbrev JL (z : Int) : Value := .long (Int64.ofInt z)
theorem i32_to {a : Int} (h : -2147483648 ≤ a ∧ a ≤ 2147483647) : (Int32.ofInt a).toInt = a := by
  have e : ((Int32.size : Nat) : Int) = 4294967296 := rfl
  rw [Int32.toInt_ofInt]
  exact Int.bmod_eq_of_le (by omega) (by omega)
theorem i64_to {a : Int} (h : -9223372036854775808 ≤ a ∧ a ≤ 9223372036854775807) : (Int64.ofInt a).toInt = a := by
  have e : ((Int64.size : Nat) : Int) = 18446744073709551616 := rfl
  rw [Int64.toInt_ofInt]
  exact Int.bmod_eq_of_le (by omega) (by omega)
theorem i32_of (x : Int32) : ∃ z : Int, x = Int32.ofInt z ∧ -2147483648 ≤ z ∧ z ≤ 2147483647 := ⟨x.toInt, (Int32.ofInt_toInt x).symm, Int32.le_toInt x, Int32.toInt_le x⟩
theorem i64_of (x : Int64) : ∃ z : Int, x = Int64.ofInt z ∧ -9223372036854775808 ≤ z ∧ z ≤ 9223372036854775807 := ⟨x.toInt, (Int64.ofInt_toInt x).symm, Int64.le_toInt x, Int64.toInt_le x⟩
theorem i32_lt {a b : Int} (ha : -2147483648 ≤ a ∧ a ≤ 2147483647) (hb : -2147483648 ≤ b ∧ b ≤ 2147483647) : (Int32.ofInt a < Int32.ofInt b) = (a < b) := by rw [Int32.lt_iff_toInt_lt, i32_to ha, i32_to hb]
theorem i32_le {a b : Int} (ha : -2147483648 ≤ a ∧ a ≤ 2147483647) (hb : -2147483648 ≤ b ∧ b ≤ 2147483647) : (Int32.ofInt a ≤ Int32.ofInt b) = (a ≤ b) := by rw [Int32.le_iff_toInt_le, i32_to ha, i32_to hb]
theorem i32_eq {a b : Int} (ha : -2147483648 ≤ a ∧ a ≤ 2147483647) (hb : -2147483648 ≤ b ∧ b ≤ 2147483647) : (Int32.ofInt a = Int32.ofInt b) = (a = b) := by rw [← Int32.toInt_inj, i32_to ha, i32_to hb]
theorem i32_nat {a : Int} (h : -2147483648 ≤ a ∧ a ≤ 2147483647) : (Int32.ofInt a).toNatClampNeg = a.toNat := by
  show (Int32.ofInt a).toInt.toNat = _
  rw [i32_to h]
theorem i32_ix {a : Int} {n : Nat} (h0 : 0 ≤ a) (h1 : a < n) (h2 : a ≤ 2147483647) : qix (Int32.ofInt a) n = true := by
  unfold qix
  rw [i32_nat ⟨by omega, h2⟩, show (0 : Int32) = Int32.ofInt 0 from rfl]
  simp only [i32_lt (show -2147483648 ≤ a ∧ a ≤ 2147483647 from ⟨by omega, h2⟩) (show -2147483648 ≤ (0 : Int) ∧ (0 : Int) ≤ 2147483647 by decide)]
  simp only [Bool.and_eq_true, Bool.not_eq_true', decide_eq_false_iff_not]
  exact ⟨by omega, Nat.ble_eq_true_of_le (show a.toNat + 1 ≤ n by omega)⟩
section
variable {ξ : Nat → Option (Nat × List Int32)} {d j pc : Nat} {lv lv' : qLV} {st st' r : List Value} {σ σ' : qH} {Q : Option Value → qH → Prop} {a b c : Int}
theorem T.go (k : Nat) {pc' : Nat} (h : ∀ n, exe ξ (n + k) d j pc lv st σ = exe ξ n d j pc' lv' st' σ') (g : T ξ d j pc' lv' st' σ' Q) : T ξ d j pc lv st σ Q := by
  obtain ⟨v, s, h1, h2⟩ := g
  exact ⟨v, s, G.go k h h1, h2⟩
theorem T.end (k : Nat) {v : Option Value} (h : ∀ n, exe ξ (n + k) d j pc lv st σ = some (v, σ')) (q : Q v σ') : T ξ d j pc lv st σ Q := ⟨v, σ', G.end k h, q⟩
theorem T.mono {Q1 : Option Value → qH → Prop} (g : T ξ d j pc lv st σ Q1) (h : ∀ v s, Q1 v s → Q v s) : T ξ d j pc lv st σ Q := by
  obtain ⟨v, s, h1, h2⟩ := g
  exact ⟨v, s, h1, h v s h2⟩
theorem T.sim {ins : Instr} {len : Nat} (hf : qfe j pc = some (ins, len)) (h : qsim (qnl j) ins len lv st = some (lv', st')) (g : T ξ d j (pc + len) lv' st' σ Q) : T ξ d j pc lv st σ Q := T.go 1 (fun n => ex_sim hf h) g
theorem T.iadd (hf : qfe j pc = some (.iadd, 1)) (g : T ξ d j (pc + 1) lv (J (a + b) :: r) σ Q) : T ξ d j pc lv (J b :: J a :: r) σ Q :=
  T.sim hf (show some (lv, Value.int (Int32.ofInt a + Int32.ofInt b) :: r) = _ by rw [← Int32.ofInt_add]) g
theorem T.isub (hf : qfe j pc = some (.isub, 1)) (g : T ξ d j (pc + 1) lv (J (a - b) :: r) σ Q) : T ξ d j pc lv (J b :: J a :: r) σ Q :=
  T.sim hf (show some (lv, Value.int (Int32.ofInt a - Int32.ofInt b) :: r) = _ by rw [← Int32.ofInt_sub]) g
theorem T.imul (hf : qfe j pc = some (.imul, 1)) (g : T ξ d j (pc + 1) lv (J (a * b) :: r) σ Q) : T ξ d j pc lv (J b :: J a :: r) σ Q :=
  T.sim hf (show some (lv, Value.int (Int32.ofInt a * Int32.ofInt b) :: r) = _ by rw [← Int32.ofInt_mul]) g
theorem T.ladd (hf : qfe j pc = some (.ladd, 1)) (g : T ξ d j (pc + 1) lv (JL (a + b) :: r) σ Q) : T ξ d j pc lv (JL b :: JL a :: r) σ Q :=
  T.sim hf (show some (lv, Value.long (Int64.ofInt a + Int64.ofInt b) :: r) = _ by rw [← Int64.ofInt_add]) g
theorem T.lsub (hf : qfe j pc = some (.lsub, 1)) (g : T ξ d j (pc + 1) lv (JL (a - b) :: r) σ Q) : T ξ d j pc lv (JL b :: JL a :: r) σ Q :=
  T.sim hf (show some (lv, Value.long (Int64.ofInt a - Int64.ofInt b) :: r) = _ by rw [← Int64.ofInt_sub]) g
theorem T.i2l (hf : qfe j pc = some (.i2l, 1)) (ha : -2147483648 ≤ a ∧ a ≤ 2147483647) (g : T ξ d j (pc + 1) lv (JL a :: r) σ Q) : T ξ d j pc lv (J a :: r) σ Q :=
  T.sim hf (show some (lv, Value.long (Int32.ofInt a).toInt64 :: r) = _ by rw [show (Int32.ofInt a).toInt64 = Int64.ofInt a by rw [← Int64.toInt_inj, Int32.toInt_toInt64, i32_to ha, i64_to (by omega)]]) g
theorem T.l2i (hf : qfe j pc = some (.l2i, 1)) (g : T ξ d j (pc + 1) lv (J a :: r) σ Q) : T ξ d j pc lv (JL a :: r) σ Q :=
  T.sim hf (show some (lv, Value.int (Int64.ofInt a).toInt32 :: r) = _ by rw [show (Int64.ofInt a).toInt32 = Int32.ofInt a by rw [← Int32.toInt_inj, Int64.toInt_toInt32, Int64.toInt_ofInt, Int32.toInt_ofInt]; exact Int.bmod_bmod_of_dvd (by decide)]) g
theorem T.lcmp (hf : qfe j pc = some (.lcmp, 1)) (ha : -9223372036854775808 ≤ a ∧ a ≤ 9223372036854775807) (hb : -9223372036854775808 ≤ b ∧ b ≤ 9223372036854775807) (g1 : a < b → T ξ d j (pc + 1) lv (J (-1) :: r) σ Q) (g2 : a = b → T ξ d j (pc + 1) lv (J 0 :: r) σ Q) (g3 : b < a → T ξ d j (pc + 1) lv (J 1 :: r) σ Q) : T ξ d j pc lv (JL b :: JL a :: r) σ Q := by
  have e1 : ∀ x y : Int, -9223372036854775808 ≤ x ∧ x ≤ 9223372036854775807 → -9223372036854775808 ≤ y ∧ y ≤ 9223372036854775807 → (Int64.ofInt x < Int64.ofInt y) = (x < y) := fun x y hx hy => by rw [Int64.lt_iff_toInt_lt, i64_to hx, i64_to hy]
  have e2 : (Int64.ofInt a = Int64.ofInt b) = (a = b) := by rw [← Int64.toInt_inj, i64_to ha, i64_to hb]
  by_cases h1 : a < b
  · exact T.sim hf (show some (lv, Value.int (lg_cmp (Int64.ofInt a) (Int64.ofInt b)) :: r) = some (lv, J (-1) :: r) by
      unfold lg_cmp
      simp only [e1 a b ha hb, e1 b a hb ha, e2]
      rw [if_neg (by omega), if_neg (by omega)]; rfl) (g1 h1)
  · by_cases h2 : a = b
    · exact T.sim hf (show some (lv, Value.int (lg_cmp (Int64.ofInt a) (Int64.ofInt b)) :: r) = some (lv, J 0 :: r) by
        unfold lg_cmp
        simp only [e1 a b ha hb, e1 b a hb ha, e2]
        rw [if_neg (by omega), if_pos h2]; rfl) (g2 h2)
    · exact T.sim hf (show some (lv, Value.int (lg_cmp (Int64.ofInt a) (Int64.ofInt b)) :: r) = some (lv, J 1 :: r) by
        unfold lg_cmp
        simp only [e1 a b ha hb, e1 b a hb ha, e2]
        rw [if_pos (by omega)]; rfl) (g3 (by omega))
/-- any instruction that leaves an int of which nothing is told -/
theorem T.some1 {ins : Instr} {len : Nat} {x : Int32} (hf : qfe j pc = some (ins, len)) (h : qsim (qnl j) ins len lv st = some (lv, .int x :: r)) (g : ∀ z : Int, -2147483648 ≤ z → z ≤ 2147483647 → x = Int32.ofInt z → T ξ d j (pc + len) lv (J z :: r) σ Q) : T ξ d j pc lv st σ Q := by
  obtain ⟨z, e, h1, h2⟩ := i32_of x
  exact T.sim hf h (by rw [e]; exact g z h1 h2 e)
theorem T.some2 {ins : Instr} {len : Nat} {x : Int64} (hf : qfe j pc = some (ins, len)) (h : qsim (qnl j) ins len lv st = some (lv, .long x :: r)) (g : ∀ z : Int, -9223372036854775808 ≤ z → z ≤ 9223372036854775807 → x = Int64.ofInt z → T ξ d j (pc + len) lv (JL z :: r) σ Q) : T ξ d j pc lv st σ Q := by
  obtain ⟨z, e, h1, h2⟩ := i64_of x
  exact T.sim hf h (by rw [e]; exact g z h1 h2 e)
theorem T.iinc {k : Nat} {n : Int} (hf : qfe j pc = some (.iinc k n, 3)) (hk : qlg lv k = some (J a)) (hb : Nat.blt k (qnl j) = true) (hl : qls1 lv k (J (a + n)) = lv') (g : T ξ d j (pc + 3) lv' st σ Q) : T ξ d j pc lv st σ Q :=
  T.sim hf (show (match 3, qlg lv k with
    | 3, some (.int x) => bif Nat.blt k (qnl j) then some (qls1 lv k (.int (x + Int32.ofInt n)), st) else none
    | _, _ => none) = _ by rw [hk]; show (bif Nat.blt k (qnl j) then _ else _) = _; rw [hb, ← hl, show J (a + n) = Value.int (Int32.ofInt (a + n)) from rfl, Int32.ofInt_add]; rfl) g
theorem T.jmp {ins : Instr} {len pc' : Nat} (hf : qfe j pc = some (ins, len)) (h0 : qsim (qnl j) ins len lv st = none) (h : qjmp ins len pc st = some (pc', st')) (g : T ξ d j pc' lv st' σ Q) : T ξ d j pc lv st σ Q := T.go 1 (fun n => ex_jmp hf h0 h) g
end
section
variable {ξ : Nat → Option (Nat × List Int32)} {d j pc t : Nat} {lv : qLV} {r : List Value} {σ : qH} {Q : Option Value → qH → Prop} {a b off : Int}
theorem T.icmp_eq (hf : qfe j pc = some (.if_icmp .eq off, 3)) (ht : qtg ((pc : Int) + off) = some t) (ha : -2147483648 ≤ a ∧ a ≤ 2147483647) (hb : -2147483648 ≤ b ∧ b ≤ 2147483647) (g1 : a = b → T ξ d j t lv r σ Q) (g2 : ¬ a = b → T ξ d j (pc + 3) lv r σ Q) : T ξ d j pc lv (J b :: J a :: r) σ Q := by
  have e : qjmp (.if_icmp .eq off) 3 pc (J b :: J a :: r) = some (if Int32.ofInt a = Int32.ofInt b then t else pc + 3, r) := by unfold qjmp; simp only [ht]
  simp only [show (Int32.ofInt a = Int32.ofInt b) = (a = b) from i32_eq ha hb] at e
  by_cases h : a = b
  · rw [if_pos h] at e; exact T.jmp hf rfl e (g1 h)
  · rw [if_neg h] at e; exact T.jmp hf rfl e (g2 h)
theorem T.if_eq (hf : qfe j pc = some (.ifCond .eq off, 3)) (ht : qtg ((pc : Int) + off) = some t) (ha : -2147483648 ≤ a ∧ a ≤ 2147483647) (g1 : a = 0 → T ξ d j t lv r σ Q) (g2 : ¬ a = 0 → T ξ d j (pc + 3) lv r σ Q) : T ξ d j pc lv (J a :: r) σ Q := by
  have e : qjmp (.ifCond .eq off) 3 pc (J a :: r) = some (if Int32.ofInt a = (0 : Int32) then t else pc + 3, r) := by unfold qjmp; simp only [ht]
  simp only [show (Int32.ofInt a = (0 : Int32)) = (a = 0) from (show (Int32.ofInt a = Int32.ofInt 0) = _ from i32_eq ha (by decide))] at e
  by_cases h : a = 0
  · rw [if_pos h] at e; exact T.jmp hf rfl e (g1 h)
  · rw [if_neg h] at e; exact T.jmp hf rfl e (g2 h)
theorem T.icmp_ne (hf : qfe j pc = some (.if_icmp .ne off, 3)) (ht : qtg ((pc : Int) + off) = some t) (ha : -2147483648 ≤ a ∧ a ≤ 2147483647) (hb : -2147483648 ≤ b ∧ b ≤ 2147483647) (g1 : ¬ a = b → T ξ d j t lv r σ Q) (g2 : a = b → T ξ d j (pc + 3) lv r σ Q) : T ξ d j pc lv (J b :: J a :: r) σ Q := by
  have e : qjmp (.if_icmp .ne off) 3 pc (J b :: J a :: r) = some (if Int32.ofInt a = Int32.ofInt b then pc + 3 else t, r) := by unfold qjmp; simp only [ht]
  simp only [show (Int32.ofInt a = Int32.ofInt b) = (a = b) from i32_eq ha hb] at e
  by_cases h : a = b
  · rw [if_pos h] at e; exact T.jmp hf rfl e (g2 h)
  · rw [if_neg h] at e; exact T.jmp hf rfl e (g1 h)
theorem T.if_ne (hf : qfe j pc = some (.ifCond .ne off, 3)) (ht : qtg ((pc : Int) + off) = some t) (ha : -2147483648 ≤ a ∧ a ≤ 2147483647) (g1 : ¬ a = 0 → T ξ d j t lv r σ Q) (g2 : a = 0 → T ξ d j (pc + 3) lv r σ Q) : T ξ d j pc lv (J a :: r) σ Q := by
  have e : qjmp (.ifCond .ne off) 3 pc (J a :: r) = some (if Int32.ofInt a = (0 : Int32) then pc + 3 else t, r) := by unfold qjmp; simp only [ht]
  simp only [show (Int32.ofInt a = (0 : Int32)) = (a = 0) from (show (Int32.ofInt a = Int32.ofInt 0) = _ from i32_eq ha (by decide))] at e
  by_cases h : a = 0
  · rw [if_pos h] at e; exact T.jmp hf rfl e (g2 h)
  · rw [if_neg h] at e; exact T.jmp hf rfl e (g1 h)
theorem T.icmp_lt (hf : qfe j pc = some (.if_icmp .lt off, 3)) (ht : qtg ((pc : Int) + off) = some t) (ha : -2147483648 ≤ a ∧ a ≤ 2147483647) (hb : -2147483648 ≤ b ∧ b ≤ 2147483647) (g1 : a < b → T ξ d j t lv r σ Q) (g2 : ¬ a < b → T ξ d j (pc + 3) lv r σ Q) : T ξ d j pc lv (J b :: J a :: r) σ Q := by
  have e : qjmp (.if_icmp .lt off) 3 pc (J b :: J a :: r) = some (if Int32.ofInt a < Int32.ofInt b then t else pc + 3, r) := by unfold qjmp; simp only [ht]
  simp only [show (Int32.ofInt a < Int32.ofInt b) = (a < b) from i32_lt ha hb] at e
  by_cases h : a < b
  · rw [if_pos h] at e; exact T.jmp hf rfl e (g1 h)
  · rw [if_neg h] at e; exact T.jmp hf rfl e (g2 h)
theorem T.if_lt (hf : qfe j pc = some (.ifCond .lt off, 3)) (ht : qtg ((pc : Int) + off) = some t) (ha : -2147483648 ≤ a ∧ a ≤ 2147483647) (g1 : a < 0 → T ξ d j t lv r σ Q) (g2 : ¬ a < 0 → T ξ d j (pc + 3) lv r σ Q) : T ξ d j pc lv (J a :: r) σ Q := by
  have e : qjmp (.ifCond .lt off) 3 pc (J a :: r) = some (if Int32.ofInt a < (0 : Int32) then t else pc + 3, r) := by unfold qjmp; simp only [ht]
  simp only [show (Int32.ofInt a < (0 : Int32)) = (a < 0) from (show (Int32.ofInt a < Int32.ofInt 0) = _ from i32_lt ha (by decide))] at e
  by_cases h : a < 0
  · rw [if_pos h] at e; exact T.jmp hf rfl e (g1 h)
  · rw [if_neg h] at e; exact T.jmp hf rfl e (g2 h)
theorem T.icmp_ge (hf : qfe j pc = some (.if_icmp .ge off, 3)) (ht : qtg ((pc : Int) + off) = some t) (ha : -2147483648 ≤ a ∧ a ≤ 2147483647) (hb : -2147483648 ≤ b ∧ b ≤ 2147483647) (g1 : b ≤ a → T ξ d j t lv r σ Q) (g2 : ¬ b ≤ a → T ξ d j (pc + 3) lv r σ Q) : T ξ d j pc lv (J b :: J a :: r) σ Q := by
  have e : qjmp (.if_icmp .ge off) 3 pc (J b :: J a :: r) = some (if Int32.ofInt b ≤ Int32.ofInt a then t else pc + 3, r) := by unfold qjmp; simp only [ht]
  simp only [show (Int32.ofInt b ≤ Int32.ofInt a) = (b ≤ a) from i32_le hb ha] at e
  by_cases h : b ≤ a
  · rw [if_pos h] at e; exact T.jmp hf rfl e (g1 h)
  · rw [if_neg h] at e; exact T.jmp hf rfl e (g2 h)
theorem T.if_ge (hf : qfe j pc = some (.ifCond .ge off, 3)) (ht : qtg ((pc : Int) + off) = some t) (ha : -2147483648 ≤ a ∧ a ≤ 2147483647) (g1 : 0 ≤ a → T ξ d j t lv r σ Q) (g2 : ¬ 0 ≤ a → T ξ d j (pc + 3) lv r σ Q) : T ξ d j pc lv (J a :: r) σ Q := by
  have e : qjmp (.ifCond .ge off) 3 pc (J a :: r) = some (if (0 : Int32) ≤ Int32.ofInt a then t else pc + 3, r) := by unfold qjmp; simp only [ht]
  simp only [show ((0 : Int32) ≤ Int32.ofInt a) = (0 ≤ a) from (show (Int32.ofInt 0 ≤ Int32.ofInt a) = _ from i32_le (by decide) ha)] at e
  by_cases h : 0 ≤ a
  · rw [if_pos h] at e; exact T.jmp hf rfl e (g1 h)
  · rw [if_neg h] at e; exact T.jmp hf rfl e (g2 h)
theorem T.icmp_gt (hf : qfe j pc = some (.if_icmp .gt off, 3)) (ht : qtg ((pc : Int) + off) = some t) (ha : -2147483648 ≤ a ∧ a ≤ 2147483647) (hb : -2147483648 ≤ b ∧ b ≤ 2147483647) (g1 : b < a → T ξ d j t lv r σ Q) (g2 : ¬ b < a → T ξ d j (pc + 3) lv r σ Q) : T ξ d j pc lv (J b :: J a :: r) σ Q := by
  have e : qjmp (.if_icmp .gt off) 3 pc (J b :: J a :: r) = some (if Int32.ofInt b < Int32.ofInt a then t else pc + 3, r) := by unfold qjmp; simp only [ht]
  simp only [show (Int32.ofInt b < Int32.ofInt a) = (b < a) from i32_lt hb ha] at e
  by_cases h : b < a
  · rw [if_pos h] at e; exact T.jmp hf rfl e (g1 h)
  · rw [if_neg h] at e; exact T.jmp hf rfl e (g2 h)
theorem T.icmp_le (hf : qfe j pc = some (.if_icmp .le off, 3)) (ht : qtg ((pc : Int) + off) = some t) (ha : -2147483648 ≤ a ∧ a ≤ 2147483647) (hb : -2147483648 ≤ b ∧ b ≤ 2147483647) (g1 : a ≤ b → T ξ d j t lv r σ Q) (g2 : ¬ a ≤ b → T ξ d j (pc + 3) lv r σ Q) : T ξ d j pc lv (J b :: J a :: r) σ Q := by
  have e : qjmp (.if_icmp .le off) 3 pc (J b :: J a :: r) = some (if Int32.ofInt a ≤ Int32.ofInt b then t else pc + 3, r) := by unfold qjmp; simp only [ht]
  simp only [show (Int32.ofInt a ≤ Int32.ofInt b) = (a ≤ b) from i32_le ha hb] at e
  by_cases h : a ≤ b
  · rw [if_pos h] at e; exact T.jmp hf rfl e (g1 h)
  · rw [if_neg h] at e; exact T.jmp hf rfl e (g2 h)
theorem T.if_le (hf : qfe j pc = some (.ifCond .le off, 3)) (ht : qtg ((pc : Int) + off) = some t) (ha : -2147483648 ≤ a ∧ a ≤ 2147483647) (g1 : a ≤ 0 → T ξ d j t lv r σ Q) (g2 : ¬ a ≤ 0 → T ξ d j (pc + 3) lv r σ Q) : T ξ d j pc lv (J a :: r) σ Q := by
  have e : qjmp (.ifCond .le off) 3 pc (J a :: r) = some (if Int32.ofInt a ≤ (0 : Int32) then t else pc + 3, r) := by unfold qjmp; simp only [ht]
  simp only [show (Int32.ofInt a ≤ (0 : Int32)) = (a ≤ 0) from (show (Int32.ofInt a ≤ Int32.ofInt 0) = _ from i32_le ha (by decide))] at e
  by_cases h : a ≤ 0
  · rw [if_pos h] at e; exact T.jmp hf rfl e (g1 h)
  · rw [if_neg h] at e; exact T.jmp hf rfl e (g2 h)
end
