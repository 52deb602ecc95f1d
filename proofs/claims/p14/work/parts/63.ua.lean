/-! The manifest: lines, and lines that go on. -/
/-- the line's end from a on: a 10, or the end of all -/
def LSn (u : Int → Int) (f : Int) : Nat → Int → Int
  | 0, a => a
  | n + 1, a => if a < f ∧ u a ≠ 10 then LSn u f n (a + 1) else a
def LSt (u : Int → Int) (f a : Int) : Int := LSn u f (f - a).toNat a
theorem LSt_stop {u : Int → Int} {f a : Int} (h : ¬ (a < f ∧ u a ≠ 10)) : LSt u f a = a := by
  unfold LSt
  cases (f - a).toNat with
  | zero => rfl
  | succ n =>
    show (if a < f ∧ u a ≠ 10 then LSn u f n (a + 1) else a) = a
    rw [if_neg h]
theorem LSt_go {u : Int → Int} {f a : Int} (h : a < f ∧ u a ≠ 10) : LSt u f a = LSt u f (a + 1) := by
  unfold LSt
  rw [show (f - a).toNat = (f - (a + 1)).toNat + 1 by omega]
  show (if a < f ∧ u a ≠ 10 then LSn u f (f - (a + 1)).toNat (a + 1) else a) = _
  rw [if_pos h]
theorem LSt_ind {u : Int → Int} {f : Int} {P : Int → Int → Prop} (h0 : ∀ a, ¬ (a < f ∧ u a ≠ 10) → P a a) (h1 : ∀ a, a < f ∧ u a ≠ 10 → P (a + 1) (LSt u f (a + 1)) → P a (LSt u f (a + 1))) (a : Int) : P a (LSt u f a) := by
  obtain ⟨n, hn⟩ : ∃ n : Nat, (f - a).toNat = n := ⟨_, rfl⟩
  induction n generalizing a with
  | zero =>
    have h : ¬ (a < f ∧ u a ≠ 10) := fun q => by omega
    rw [LSt_stop h]
    exact h0 a h
  | succ n ih =>
    by_cases h : a < f ∧ u a ≠ 10
    · rw [LSt_go h]
      exact h1 a h (ih (a + 1) (by omega))
    · rw [LSt_stop h]
      exact h0 a h
theorem LSt_r (u : Int → Int) (f a : Int) : a ≤ LSt u f a ∧ (a ≤ f → LSt u f a ≤ f) := LSt_ind (P := fun a k => a ≤ k ∧ (a ≤ f → k ≤ f)) (fun a _ => ⟨Int.le_refl _, fun q => q⟩) (fun a h q => ⟨by omega, fun _ => q.2 (by omega)⟩) a
theorem LSt_10 (u : Int → Int) (f a : Int) : a ≤ f → LSt u f a = f ∨ u (LSt u f a) = 10 := LSt_ind (P := fun a k => a ≤ f → k = f ∨ u k = 10) (fun a h q => by
  by_cases e : a = f
  · exact Or.inl e
  · exact Or.inr (Classical.byContradiction (fun z => h ⟨by omega, z⟩))) (fun a h q _ => q (by omega)) a
theorem LSt_no (u : Int → Int) (f a : Int) : ∀ k, a ≤ k → k < LSt u f a → k < f ∧ u k ≠ 10 := LSt_ind (P := fun a b => ∀ k, a ≤ k → k < b → k < f ∧ u k ≠ 10) (fun a h k k0 k1 => absurd k0 (by omega)) (fun a h q k k0 k1 => by
  by_cases e : k = a
  · rw [e]; exact h
  · exact q k (by omega) k1) a
theorem LSt_in {u : Int → Int} {f a k : Int} (h : a ≤ k) (hk : k ≤ LSt u f a) : LSt u f k = LSt u f a := by
  obtain ⟨n, hn⟩ : ∃ n : Nat, (k - a).toNat = n := ⟨_, rfl⟩
  induction n generalizing k with
  | zero =>
    have e : k = a := by omega
    rw [e]
  | succ n ih =>
    have h1 := ih (k := k - 1) (by omega) (by omega) (by omega)
    have h2 := LSt_no u f a (k - 1) (by omega) (by omega)
    rw [LSt_go h2, show k - 1 + 1 = k by omega] at h1
    exact h1
/-- the line's end without its return -/
def LEe (u : Int → Int) (f a : Int) : Int := if LSt u f a < f ∧ a < LSt u f a ∧ u (LSt u f a - 1) = 13 then LSt u f a - 1 else LSt u f a
theorem LE_r (u : Int → Int) (f a : Int) : a ≤ LEe u f a ∧ LEe u f a ≤ LSt u f a := by
  have h := (LSt_r u f a).1
  unfold LEe
  split
  · omega
  · omega
theorem LSt_LE {u : Int → Int} {f a : Int} : LSt u f (LEe u f a) = LSt u f a := LSt_in (LE_r u f a).1 (LE_r u f a).2
/-- n bytes from p on -/
def SB (u : Int → Int) : Nat → Int → List Int
  | 0, _ => []
  | n + 1, p => u p :: SB u n (p + 1)
theorem SB_len (u : Int → Int) : ∀ (n : Nat) (p : Int), (SB u n p).length = n
  | 0, _ => rfl
  | n + 1, p => by
    show (SB u n (p + 1)).length + 1 = n + 1
    rw [SB_len u n (p + 1)]
theorem SB_at (u : Int → Int) : ∀ (n : Nat) (p : Int) (i : Nat), i < n → (SB u n p)[i]? = some (u (p + i))
  | 0, _, i, h => absurd h (by omega)
  | n + 1, p, 0, _ => by
    show some (u p) = some (u (p + ((0 : Nat) : Int)))
    rw [show p + ((0 : Nat) : Int) = p by omega]
  | n + 1, p, i + 1, h => by
    show (SB u n (p + 1))[i]? = _
    rw [SB_at u n (p + 1) i (by omega), show p + 1 + (i : Int) = p + ((i + 1 : Nat) : Int) by omega]
/-- what the lines tell that go on, from the line at a; e: where the main part ends -/
def SEG (u : Int → Int) (f e : Int) : Nat → Int → List Int
  | 0, _ => []
  | n + 1, a => if a < e ∧ u a = 32 then SB u (LEe u f a - a - 1).toNat (a + 1) ++ SEG u f e n (LSt u f a + 1) else []
theorem SEG_irr {u : Int → Int} {f e : Int} : ∀ (n m : Nat) (a : Int), (e - a).toNat ≤ n → (e - a).toNat ≤ m → SEG u f e n a = SEG u f e m a
  | 0, 0, _, _, _ => rfl
  | 0, m + 1, a, h, _ => by
    show [] = if a < e ∧ u a = 32 then _ else []
    rw [if_neg (by omega)]
  | n + 1, 0, a, _, h => by
    show (if a < e ∧ u a = 32 then _ else []) = []
    rw [if_neg (by omega)]
  | n + 1, m + 1, a, h1, h2 => by
    have := (LSt_r u f a).1
    show (if a < e ∧ u a = 32 then SB u (LEe u f a - a - 1).toNat (a + 1) ++ SEG u f e n (LSt u f a + 1) else []) = if a < e ∧ u a = 32 then SB u (LEe u f a - a - 1).toNat (a + 1) ++ SEG u f e m (LSt u f a + 1) else []
    by_cases c : a < e ∧ u a = 32
    · rw [if_pos c, if_pos c, SEG_irr n m (LSt u f a + 1) (by omega) (by omega)]
    · rw [if_neg c, if_neg c]
def SGM (u : Int → Int) (f e a : Int) : List Int := SEG u f e (e - a).toNat a
theorem SGM_no {u : Int → Int} {f e a : Int} (h : ¬ (a < e ∧ u a = 32)) : SGM u f e a = [] := by
  unfold SGM
  cases (e - a).toNat with
  | zero => rfl
  | succ n =>
    show (if a < e ∧ u a = 32 then _ else []) = []
    rw [if_neg h]
theorem SGM_go {u : Int → Int} {f e a : Int} (h : a < e ∧ u a = 32) : SGM u f e a = SB u (LEe u f a - a - 1).toNat (a + 1) ++ SGM u f e (LSt u f a + 1) := by
  have := (LSt_r u f a).1
  unfold SGM
  rw [show (e - a).toNat = ((e - a).toNat - 1) + 1 by omega]
  show (if a < e ∧ u a = 32 then SB u (LEe u f a - a - 1).toNat (a + 1) ++ SEG u f e ((e - a).toNat - 1) (LSt u f a + 1) else []) = _
  rw [if_pos h, SEG_irr ((e - a).toNat - 1) (e - (LSt u f a + 1)).toNat (LSt u f a + 1) (by omega) (by omega)]
/-- what the line at b tells, with those that go on from it -/
def LIN (u : Int → Int) (f e b : Int) : List Int := SB u (LEe u f b - b).toNat b ++ SGM u f e (LSt u f b + 1)
/-- what is left to be told at w, in a line that ends at we -/
def REM (u : Int → Int) (f e w we : Int) : List Int := SB u (we - w).toNat w ++ SGM u f e (LSt u f we + 1)
theorem REM_in {u : Int → Int} {f e b : Int} : REM u f e b (LEe u f b) = LIN u f e b := by
  unfold REM LIN
  rw [LSt_LE]
theorem REM_1 {u : Int → Int} {f e w we : Int} (h : w < we) : REM u f e w we = u w :: REM u f e (w + 1) we := by
  unfold REM
  rw [show (we - w).toNat = (we - (w + 1)).toNat + 1 by omega]
  rfl
theorem REM_2 {u : Int → Int} {f e w we : Int} (h : we ≤ w) (q : LSt u f we + 1 < e ∧ u (LSt u f we + 1) = 32) : REM u f e w we = REM u f e (LSt u f we + 1 + 1) (LEe u f (LSt u f we + 1)) := by
  unfold REM
  rw [show (we - w).toNat = 0 by omega, SGM_go q, LSt_LE, show LEe u f (LSt u f we + 1) - (LSt u f we + 1 + 1) = LEe u f (LSt u f we + 1) - (LSt u f we + 1) - 1 by omega]
  rfl
theorem REM_3 {u : Int → Int} {f e w we : Int} (h : we ≤ w) (q : ¬ (LSt u f we + 1 < e ∧ u (LSt u f we + 1) = 32)) : REM u f e w we = [] := by
  unfold REM
  rw [show (we - w).toNat = 0 by omega, SGM_no q]
  rfl
/-- where the next line begins that doesn't go on -/
def NXC (u : Int → Int) (f e : Int) : Nat → Int → Int
  | 0, a => a
  | n + 1, a => if a < e ∧ u a = 32 then NXC u f e n (LSt u f a + 1) else a
theorem NXC_irr {u : Int → Int} {f e : Int} : ∀ (n m : Nat) (a : Int), (e - a).toNat ≤ n → (e - a).toNat ≤ m → NXC u f e n a = NXC u f e m a
  | 0, 0, _, _, _ => rfl
  | 0, m + 1, a, h, _ => by
    show a = if a < e ∧ u a = 32 then _ else a
    rw [if_neg (by omega)]
  | n + 1, 0, a, _, h => by
    show (if a < e ∧ u a = 32 then _ else a) = a
    rw [if_neg (by omega)]
  | n + 1, m + 1, a, h1, h2 => by
    have := (LSt_r u f a).1
    show (if a < e ∧ u a = 32 then NXC u f e n (LSt u f a + 1) else a) = if a < e ∧ u a = 32 then NXC u f e m (LSt u f a + 1) else a
    by_cases c : a < e ∧ u a = 32
    · rw [if_pos c, if_pos c, NXC_irr n m (LSt u f a + 1) (by omega) (by omega)]
    · rw [if_neg c, if_neg c]
def NXT (u : Int → Int) (f e a : Int) : Int := NXC u f e (e - a).toNat a
theorem NXT_no {u : Int → Int} {f e a : Int} (h : ¬ (a < e ∧ u a = 32)) : NXT u f e a = a := by
  unfold NXT
  cases (e - a).toNat with
  | zero => rfl
  | succ n =>
    show (if a < e ∧ u a = 32 then _ else a) = a
    rw [if_neg h]
theorem NXT_go {u : Int → Int} {f e a : Int} (h : a < e ∧ u a = 32) : NXT u f e a = NXT u f e (LSt u f a + 1) := by
  have := (LSt_r u f a).1
  unfold NXT
  rw [show (e - a).toNat = ((e - a).toNat - 1) + 1 by omega]
  show (if a < e ∧ u a = 32 then NXC u f e ((e - a).toNat - 1) (LSt u f a + 1) else a) = _
  rw [if_pos h, NXC_irr ((e - a).toNat - 1) (e - (LSt u f a + 1)).toNat (LSt u f a + 1) (by omega) (by omega)]
/-- where the line behind the one at b begins -/
def BHD (u : Int → Int) (f e b : Int) : Int := NXT u f e (LSt u f b + 1)
/-- a byte of a name -/
abbrev NBY (c : Int) : Prop := (65 ≤ c ∧ c ≤ 90) ∨ (97 ≤ c ∧ c ≤ 122) ∨ (48 ≤ c ∧ c ≤ 57) ∨ c = 45 ∨ c = 95
/-- how many bytes of a name a line begins with -/
def TWn : List Int → Nat
  | [] => 0
  | c :: t => if NBY c then TWn t + 1 else 0
theorem TWn_in : ∀ (l : List Int) (i : Nat), i < TWn l → NBY (l.getD i (-1))
  | [], i, h => absurd h (Nat.not_lt_zero i)
  | c :: t, i, h => by
    by_cases q : NBY c
    · have e : TWn (c :: t) = TWn t + 1 := if_pos q
      cases i with
      | zero => exact q
      | succ i => exact TWn_in t i (by omega)
    · have e : TWn (c :: t) = 0 := if_neg q
      omega
theorem TWn_no : ∀ l : List Int, ¬ NBY (l.getD (TWn l) (-1))
  | [] => by
    show ¬ NBY (-1)
    decide
  | c :: t => by
    by_cases q : NBY c
    · have e : TWn (c :: t) = TWn t + 1 := if_pos q
      rw [e]
      exact TWn_no t
    · have e : TWn (c :: t) = 0 := if_neg q
      rw [e]
      exact q
theorem TWn_is {l : List Int} {n : Nat} (h1 : ∀ i : Nat, i < n → NBY (l.getD i (-1))) (h2 : ¬ NBY (l.getD n (-1))) : TWn l = n := by
  rcases Nat.lt_trichotomy (TWn l) n with c | c | c
  · exact absurd (h1 _ c) (TWn_no l)
  · exact c
  · exact absurd (TWn_in l n c) h2
/-- how long the line's name is; 0 if it has none -/
def NML (l : List Int) : Int := if l.getD (TWn l) (-1) = 58 ∧ l.getD (TWn l + 1) (-1) = 32 then (TWn l : Int) else 0
def sml (c : Int) : Int := if 65 ≤ c ∧ c ≤ 90 then c + 32 else c
/-- the first n bytes are the same letters -/
def SMN (l l' : List Int) (n : Int) : Prop := ∀ i : Int, 0 ≤ i → i < n → sml (l.getD i.toNat (-1)) = sml (l'.getD i.toNat (-1))
def SAM (l l' : List Int) : Prop := NML l = NML l' ∧ SMN l l' (NML l)
/-- the lines one behind the other -/
def LST (u : Int → Int) (f : Int) : Nat → Int
  | 0 => 0
  | i + 1 => LSt u f (LST u f i) + 1
/-- no line is longer than 72 -/
def NOL (u : Int → Int) (f : Int) : Prop := ∀ i : Nat, LST u f i < f → LEe u f (LST u f i) - LST u f i ≤ 72
/-- the lines that don't go on, one behind the other -/
def BRl (u : Int → Int) (f e : Int) : Nat → Int
  | 0 => 0
  | i + 1 => BHD u f e (BRl u f e i)
/-- the text is a manifest -/
def MFV (u : Int → Int) (f e : Int) : Prop := NOL u f ∧ ¬ (0 < f ∧ u 0 = 32) ∧ ∀ i : Nat, BRl u f e i < e → NML (LIN u f e (BRl u f e i)) ≠ 0 ∧ ∀ j : Nat, j < i → ¬ SAM (LIN u f e (BRl u f e i)) (LIN u f e (BRl u f e j))
