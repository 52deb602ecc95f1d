/-! Sums: bit by bit, and four bits at once. -/
def cS (s : Nat) : Nat := (s / 2) ^^^ (if s % 2 = 1 then 3988292384 else 0)
def cN : Nat → Nat → Nat
  | 0, s => s
  | n + 1, s => cS (cN n s)
theorem xor_half (a b : Nat) : (a ^^^ b) / 2 = a / 2 ^^^ b / 2 := by
  have h := Nat.shiftRight_xor_distrib (a := a) (b := b) (i := 1)
  simpa only [Nat.shiftRight_eq_div_pow, Nat.pow_one] using h
theorem xor_odd (a b : Nat) : (a ^^^ b) % 2 = (a % 2) ^^^ (b % 2) := by
  have h := Nat.xor_mod_two_pow (a := a) (b := b) (n := 1)
  simpa only [Nat.pow_one] using h
theorem cS_lin (a x : Nat) : cS (a ^^^ (2 * x)) = cS a ^^^ x := by
  unfold cS
  rw [xor_half, xor_odd, show 2 * x / 2 = x by omega, show 2 * x % 2 = 0 by omega, Nat.xor_zero, Nat.xor_assoc, Nat.xor_assoc, Nat.xor_comm x]
theorem cN_lin (n : Nat) : ∀ a x : Nat, cN n (a ^^^ (x * 2 ^ n)) = cN n a ^^^ x := by
  induction n with
  | zero =>
    intro a x
    show a ^^^ (x * 1) = a ^^^ x
    rw [Nat.mul_one]
  | succ n ih =>
    intro a x
    show cS (cN n (a ^^^ (x * 2 ^ (n + 1)))) = cS (cN n a) ^^^ x
    rw [show x * 2 ^ (n + 1) = (2 * x) * 2 ^ n by rw [Nat.pow_succ]; rw [Nat.mul_comm 2 x, Nat.mul_assoc, Nat.mul_comm 2], ih, cS_lin]
theorem cN_add (m n s : Nat) : cN m (cN n s) = cN (m + n) s := by
  induction m with
  | zero => rw [Nat.zero_add]; rfl
  | succ m ih =>
    rw [Nat.succ_add]
    show cS (cN m (cN n s)) = cS (cN (m + n) s)
    rw [ih]
theorem xor_split (s n : Nat) : s = s % 2 ^ n ^^^ (s / 2 ^ n * 2 ^ n) := by
  apply Nat.eq_of_testBit_eq
  intro i
  rw [Nat.testBit_xor, Nat.testBit_mod_two_pow, Nat.testBit_mul_two_pow, Nat.testBit_div_two_pow]
  by_cases h : i < n
  · simp only [h, decide_true, Bool.true_and, show ¬ n ≤ i by omega, decide_false, Bool.false_and, Bool.xor_false]
  · have h2 : n ≤ i := by omega
    simp only [h, decide_false, Bool.false_and, h2, decide_true, Bool.true_and, Bool.false_xor]
    congr 1
    omega
/-- four steps at once -/
theorem cN_4 (s : Nat) : cN 4 s = s / 16 ^^^ cN 4 (s % 16) := by
  have h := xor_split s 4
  have h2 : cN 4 s = cN 4 (s % 2 ^ 4 ^^^ (s / 2 ^ 4 * 2 ^ 4)) := by rw [← h]
  rw [h2, cN_lin, Nat.xor_comm]
/-- a byte: the sum with it, eight steps -/
def cY (s v : Nat) : Nat := cN 8 (s ^^^ v)
theorem cY_4 (s v : Nat) : cY s v = (((s ^^^ v) / 16 ^^^ cN 4 ((s ^^^ v) % 16)) / 16) ^^^ cN 4 (((s ^^^ v) / 16 ^^^ cN 4 ((s ^^^ v) % 16)) % 16) := by
  unfold cY
  rw [show (8 : Nat) = 4 + 4 from rfl, ← cN_add, cN_4 (cN 4 (s ^^^ v)), cN_4 (s ^^^ v)]
/-- bit by bit -/
def cM (v : Nat) : Nat → Nat → Nat
  | 0, s => s
  | n + 1, s => (cM v n s / 2) ^^^ (if cM v n s % 2 = v / 2 ^ n % 2 then 0 else 3988292384)
theorem cS_bit (t b : Nat) (h : b < 2) : cS (t ^^^ b) = (t / 2) ^^^ (if t % 2 = b then 0 else 3988292384) := by
  unfold cS
  rw [xor_half, xor_odd, show b / 2 = 0 by omega, Nat.xor_zero, show b % 2 = b by omega]
  have ht : t % 2 = 0 ∨ t % 2 = 1 := by omega
  have hb : b = 0 ∨ b = 1 := by omega
  rcases ht with e1 | e1 <;> rcases hb with e2 | e2 <;> rw [e1, e2] <;> rfl
theorem cM_is (v s n : Nat) : cM v n s = cN n (s ^^^ (v % 2 ^ n)) := by
  induction n with
  | zero =>
    show s = s ^^^ (v % 1)
    rw [Nat.mod_one, Nat.xor_zero]
  | succ n ih =>
    have e : v % 2 ^ (n + 1) = v % 2 ^ n ^^^ (v / 2 ^ n % 2 * 2 ^ n) := by
      have h := xor_split (v % 2 ^ (n + 1)) n
      rw [Nat.mod_mod_of_dvd _ (Nat.pow_dvd_pow 2 (Nat.le_succ n))] at h
      have h2 : v % 2 ^ (n + 1) / 2 ^ n = v / 2 ^ n % 2 := by
        rw [Nat.pow_succ, Nat.mod_mul_right_div_self]
      rw [h2] at h
      exact h
    show (cM v n s / 2) ^^^ (if cM v n s % 2 = v / 2 ^ n % 2 then 0 else 3988292384) = cS (cN n (s ^^^ (v % 2 ^ (n + 1))))
    rw [e, ← Nat.xor_assoc, cN_lin, ← ih, cS_bit _ _ (Nat.mod_lt _ (by decide))]
theorem cM_8 {v s : Nat} (h : v < 256) : cM v 8 s = cY s v := by
  rw [cM_is, show v % 2 ^ 8 = v from Nat.mod_eq_of_lt h]
  rfl
theorem xor_lt {a b n : Nat} (h : a < 2 ^ n) (h2 : b < 2 ^ n) : a ^^^ b < 2 ^ n := Nat.xor_lt_two_pow h h2
theorem cS_lt {s : Nat} (h : s < 2 ^ 32) : cS s < 2 ^ 32 := by
  unfold cS
  refine xor_lt (by omega) ?_
  split <;> decide
theorem cN_lt {s : Nat} (h : s < 2 ^ 32) (n : Nat) : cN n s < 2 ^ 32 := by
  induction n with
  | zero => exact h
  | succ n ih => exact cS_lt ih
/-- the sum of n bytes, not yet turned -/
def CRN (g : Int → Int) : Nat → Nat
  | 0 => 4294967295
  | n + 1 => cY (CRN g n) (g n).toNat
theorem CRN_step {g : Int → Int} {k : Int} (h : 0 ≤ k) : CRN g (k + 1).toNat = cY (CRN g k.toNat) (g k).toNat := by
  rw [show (k + 1).toNat = k.toNat + 1 by omega]
  show cY (CRN g k.toNat) (g (k.toNat : Int)).toNat = _
  rw [Int.toNat_of_nonneg h]
theorem CRN_lt {g : Int → Int} (hg : ∀ k, 0 ≤ g k ∧ g k ≤ 255) (n : Nat) : CRN g n < 2 ^ 32 := by
  induction n with
  | zero => exact (by decide : (4294967295 : Nat) < 2 ^ 32)
  | succ n ih =>
    have h1 := hg n
    show cN 8 (CRN g n ^^^ (g n).toNat) < 2 ^ 32
    exact cN_lt (xor_lt ih (by omega)) 8
theorem tab6_ok : ∀ k : Fin 16, (tab6.getD k.val 0).toBitVec.toNat = cN 4 k.val := by decide +kernel
