/-! Unpacking, as pure functions of bytes. -/
/-- one value changed -/
def updG (g : Int → Int) (p v : Int) : Int → Int := fun k => if k = p then v else g k
/-- a number of a list -/
def gl (l : List Int32) (r : Int) : Int := (l.getD r.toNat 0).toInt
def P2 (k : Int) : Int := 2 ^ k.toNat
theorem P2_s {k : Int} (h : 0 ≤ k) : P2 (k + 1) = 2 * P2 k := by
  unfold P2
  rw [show (k + 1).toNat = k.toNat + 1 by omega, Int.pow_succ]
  omega
theorem P2_le {k : Int} (h : 0 ≤ k ∧ k ≤ 16) : 1 ≤ P2 k ∧ P2 k ≤ 65536 := by
  have : k = 0 ∨ k = 1 ∨ k = 2 ∨ k = 3 ∨ k = 4 ∨ k = 5 ∨ k = 6 ∨ k = 7 ∨ k = 8 ∨ k = 9 ∨ k = 10 ∨ k = 11 ∨ k = 12 ∨ k = 13 ∨ k = 14 ∨ k = 15 ∨ k = 16 := by omega
  rcases this with rfl | rfl | rfl | rfl | rfl | rfl | rfl | rfl | rfl | rfl | rfl | rfl | rfl | rfl | rfl | rfl | rfl <;> decide
theorem P2_le15 {k : Int} (h : 0 ≤ k ∧ k ≤ 15) : 1 ≤ P2 k ∧ P2 k ≤ 32768 := by
  have : k = 0 ∨ k = 1 ∨ k = 2 ∨ k = 3 ∨ k = 4 ∨ k = 5 ∨ k = 6 ∨ k = 7 ∨ k = 8 ∨ k = 9 ∨ k = 10 ∨ k = 11 ∨ k = 12 ∨ k = 13 ∨ k = 14 ∨ k = 15 := by omega
  rcases this with rfl | rfl | rfl | rfl | rfl | rfl | rfl | rfl | rfl | rfl | rfl | rfl | rfl | rfl | rfl | rfl <;> decide
/-- the bit b of the row g -/
def bt (g : Int → Int) (b : Int) : Int := g (b / 8) / P2 (b % 8) % 2
theorem bt_r (g : Int → Int) (b : Int) : 0 ≤ bt g b ∧ bt g b ≤ 1 := by unfold bt; omega
/-- n bits from b on, the lowest first -/
def BV (g : Int → Int) (b : Int) : Nat → Int
  | 0 => 0
  | n + 1 => BV g b n + bt g (b + n) * P2 n
theorem BV_step {g : Int → Int} {b k : Int} (h : 0 ≤ k) : BV g b (k + 1).toNat = BV g b k.toNat + bt g (b + k) * P2 k := by
  rw [show (k + 1).toNat = k.toNat + 1 by omega]
  show BV g b k.toNat + bt g (b + (k.toNat : Int)) * P2 (k.toNat : Int) = _
  rw [Int.toNat_of_nonneg h]
theorem BV_r (g : Int → Int) (b : Int) (n : Nat) : 0 ≤ BV g b n ∧ BV g b n < P2 n := by
  induction n with
  | zero => exact ⟨Int.le_refl _, (by decide : (0 : Int) < P2 ((0 : Nat) : Int))⟩
  | succ n ih =>
    have h1 := bt_r g (b + n)
    have h2 := P2_s (k := (n : Int)) (by omega)
    show 0 ≤ BV g b n + bt g (b + n) * P2 n ∧ BV g b n + bt g (b + n) * P2 n < P2 ((n : Int) + 1)
    rw [h2]
    rcases (by omega : bt g (b + n) = 0 ∨ bt g (b + n) = 1) with e | e
    · rw [e, Int.zero_mul]; omega
    · rw [e, Int.one_mul]; omega
/-- how many of the first n have the length l -/
def MY (L : Int → Int) (l : Int) : Nat → Int
  | 0 => 0
  | n + 1 => MY L l n + (if L n = l then 1 else 0)
theorem MY_step {L : Int → Int} {l k : Int} (h : 0 ≤ k) : MY L l (k + 1).toNat = MY L l k.toNat + (if L k = l then 1 else 0) := by
  rw [show (k + 1).toNat = k.toNat + 1 by omega]
  show MY L l k.toNat + (if L (k.toNat : Int) = l then 1 else 0) = _
  rw [Int.toNat_of_nonneg h]
theorem MY_r (L : Int → Int) (l : Int) (n : Nat) : 0 ≤ MY L l n ∧ MY L l n ≤ n := by
  induction n with
  | zero => exact ⟨Int.le_refl _, Int.le_refl _⟩
  | succ n ih =>
    show 0 ≤ MY L l n + (if L n = l then 1 else 0) ∧ MY L l n + (if L n = l then 1 else 0) ≤ ((n + 1 : Nat) : Int)
    split <;> omega
/-- the first of length l that has w such ones before it; -1: none -/
def PK (L : Int → Int) (l w : Int) : Nat → Int
  | 0 => -1
  | n + 1 => if L n = l ∧ MY L l n = w then n else PK L l w n
theorem PK_step {L : Int → Int} {l w k : Int} (h : 0 ≤ k) : PK L l w (k + 1).toNat = if L k = l ∧ MY L l k.toNat = w then k else PK L l w k.toNat := by
  rw [show (k + 1).toNat = k.toNat + 1 by omega]
  show (if L (k.toNat : Int) = l ∧ MY L l k.toNat = w then (k.toNat : Int) else PK L l w k.toNat) = _
  rw [Int.toNat_of_nonneg h]
theorem PK_none (L : Int → Int) (l w : Int) (n : Nat) (h : MY L l n ≤ w) : PK L l w n = -1 := by
  induction n with
  | zero => rfl
  | succ n ih =>
    have h1 : MY L l n + (if L n = l then 1 else 0) ≤ w := h
    show (if L n = l ∧ MY L l n = w then (n : Int) else PK L l w n) = -1
    by_cases e : L n = l
    · rw [if_pos e] at h1
      rw [if_neg (by omega)]
      exact ih (by omega)
    · rw [if_neg e] at h1
      rw [if_neg (fun q => e q.1)]
      exact ih (by omega)
theorem PK_some (L : Int → Int) (l w : Int) (n : Nat) (h0 : 0 ≤ w) (h : w < MY L l n) : 0 ≤ PK L l w n ∧ PK L l w n < n := by
  induction n with
  | zero => have : w < 0 := h; omega
  | succ n ih =>
    have h1 : w < MY L l n + (if L n = l then 1 else 0) := h
    show 0 ≤ (if L n = l ∧ MY L l n = w then (n : Int) else PK L l w n) ∧ (if L n = l ∧ MY L l n = w then (n : Int) else PK L l w n) < ((n + 1 : Nat) : Int)
    by_cases e : L n = l ∧ MY L l n = w
    · rw [if_pos e]; omega
    · rw [if_neg e]
      have h2 := ih (by
        by_cases e1 : L n = l
        · rw [if_pos e1] at h1
          have : MY L l n ≠ w := fun q => e ⟨e1, q⟩
          omega
        · rw [if_neg e1] at h1
          omega)
      omega
/-- where the signs of length l begin -/
def PL (L : Int → Int) (n : Nat) : Nat → Int
  | 0 => 0
  | l + 1 => PL L n l + (if l = 0 then 0 else MY L l n)
/-- what is free behind l lengths, as the class counts; as the model sums -/
def FRE (L : Int → Int) (n : Nat) : Nat → Int
  | 0 => 1
  | l + 1 => 2 * FRE L n l - MY L ((l : Int) + 1) n
def SMQ (L : Int → Int) (n : Nat) : Nat → Int
  | 0 => 0
  | l + 1 => SMQ L n l + MY L ((l : Int) + 1) n * P2 (14 - (l : Int))
def THQ (L : Int → Int) (n : Nat) : Nat → Int
  | 0 => 0
  | l + 1 => THQ L n l + MY L ((l : Int) + 1) n
/-- codes that are allowed -/
def OKQ (L : Int → Int) (n : Nat) : Prop := SMQ L n 15 = 32768 ∨ (THQ L n 15 = 1 ∧ SMQ L n 15 = 16384)
/-- the next sign, k lengths to go (15 at first), e the end of the bits; (-1, _): none -/
def SG (g : Int → Int) (e : Int) (L : Int → Int) (n : Nat) : Nat → Int → Int → Int → Int × Int
  | 0, b, _, _ => (-1, b)
  | k + 1, b, w, f => if e ≤ b then (-1, b) else
      if 2 * w + bt g b - 2 * f < MY L (15 - (k : Int)) n then (PK L (15 - (k : Int)) (2 * w + bt g b - 2 * f) n, b + 1)
      else SG g e L n k (b + 1) (2 * w + bt g b) (2 * f + MY L (15 - (k : Int)) n)
theorem SG_r {g : Int → Int} {e : Int} {L : Int → Int} {n : Nat} (k : Nat) (b w f : Int) (h : f ≤ w) : -1 ≤ (SG g e L n k b w f).1 ∧ (SG g e L n k b w f).1 < n ∧ (0 ≤ (SG g e L n k b w f).1 → b < (SG g e L n k b w f).2 ∧ (SG g e L n k b w f).2 ≤ e) := by
  induction k generalizing b w f with
  | zero => exact ⟨Int.le_refl _, by show (-1 : Int) < n; omega, fun q => absurd (show (0 : Int) ≤ -1 from q) (by decide)⟩
  | succ k ih =>
    have hb := bt_r g b
    have h0 : SG g e L n (k + 1) b w f = if e ≤ b then (-1, b) else if 2 * w + bt g b - 2 * f < MY L (15 - (k : Int)) n then (PK L (15 - (k : Int)) (2 * w + bt g b - 2 * f) n, b + 1) else SG g e L n k (b + 1) (2 * w + bt g b) (2 * f + MY L (15 - (k : Int)) n) := rfl
    rw [h0]
    by_cases c1 : e ≤ b
    · rw [if_pos c1]
      exact ⟨Int.le_refl _, by show (-1 : Int) < n; omega, fun q => absurd (show (0 : Int) ≤ -1 from q) (by decide)⟩
    · rw [if_neg c1]
      by_cases c2 : 2 * w + bt g b - 2 * f < MY L (15 - (k : Int)) n
      · rw [if_pos c2]
        have := PK_some L (15 - (k : Int)) (2 * w + bt g b - 2 * f) n (by omega) c2
        exact ⟨by show -1 ≤ PK L _ _ n; omega, this.2, fun _ => ⟨by show b < b + 1; omega, by show b + 1 ≤ e; omega⟩⟩
      · rw [if_neg c2]
        have := ih (b + 1) (2 * w + bt g b) (2 * f + MY L (15 - (k : Int)) n) (by omega)
        exact ⟨this.1, this.2.1, fun q => ⟨by have := (this.2.2 q).1; omega, (this.2.2 q).2⟩⟩
/-- where unpacking stands: whether all is fine; the next bit; how many bytes are made; which -/
abbrev US := Bool × Int × Int × (Int → Int)
def US.no : US := (false, 0, 0, fun _ => 0)
/-- n bytes copied from so far back -/
def CPY (o : Int → Int) (m back : Int) : Nat → Int → Int
  | 0 => o
  | n + 1 => updG (CPY o m back n) (m + n) (CPY o m back n (m + n - back))
theorem CPY_step {o : Int → Int} {m back k : Int} (h : 0 ≤ k) : CPY o m back (k + 1).toNat = updG (CPY o m back k.toNat) (m + k) (CPY o m back k.toNat (m + k - back)) := by
  rw [show (k + 1).toNat = k.toNat + 1 by omega]
  show updG (CPY o m back k.toNat) (m + (k.toNat : Int)) (CPY o m back k.toNat (m + (k.toNat : Int) - back)) = _
  rw [Int.toNat_of_nonneg h]
/-- n bytes copied from g, from a on -/
def PLC (g o : Int → Int) (m a : Int) : Nat → Int → Int
  | 0 => o
  | n + 1 => updG (PLC g o m a n) (m + n) (g (a + n))
theorem PLC_step {g o : Int → Int} {m a k : Int} (h : 0 ≤ k) : PLC g o m a (k + 1).toNat = updG (PLC g o m a k.toNat) (m + k) (g (a + k)) := by
  rw [show (k + 1).toNat = k.toNat + 1 by omega]
  show updG (PLC g o m a k.toNat) (m + (k.toNat : Int)) (g (a + (k.toNat : Int))) = _
  rw [Int.toNat_of_nonneg h]
theorem PLC_at (g o : Int → Int) (m a : Int) (n : Nat) (k : Int) : PLC g o m a n k = if m ≤ k ∧ k < m + n then g (a + (k - m)) else o k := by
  induction n with
  | zero =>
    rw [if_neg (by omega)]
    rfl
  | succ n ih =>
    show (if k = m + n then g (a + n) else PLC g o m a n k) = _
    by_cases e : k = m + n
    · rw [if_pos e, if_pos (by omega), e]
      congr 1
      omega
    · rw [if_neg e, ih]
      by_cases e2 : m ≤ k ∧ k < m + n
      · rw [if_pos e2, if_pos (by omega)]
      · rw [if_neg e2, if_neg (by omega)]
/-- the tables of lengths and ways: how many bits more, and from where on (each: 4 for lengths, 2 for ways) -/
def mor (k each : Int) : Int := if k < 2 * each then 0 else k / each - 1
def frm (k each : Int) : Int := if k < 2 * each then k else (each + k % each) * P2 (mor k each)
def cBi (k : Int) : Int := if k = 28 then 0 else mor k 4
def cLe (k : Int) : Int := if k = 28 then 258 else 3 + frm k 4
def wBi (k : Int) : Int := mor k 2
def wLe (k : Int) : Int := 1 + frm k 2
theorem cBi_r {k : Int} (h : 0 ≤ k) : 0 ≤ cBi k := by
  unfold cBi mor
  split
  · omega
  · split <;> omega
theorem wBi_r {k : Int} (h : 0 ≤ k) : 0 ≤ wBi k := by
  unfold wBi mor
  split <;> omega
/-- a copy: back and length are known -/
def CB3 (size n back b m : Int) (o : Int → Int) : US := if m < back ∨ size - m < n then US.no else (true, b, m + n, CPY o m back n.toNat)
/-- a copy: the way is known -/
def CB2 (g : Int → Int) (e size n : Int) (w : Int × Int) (m : Int) (o : Int → Int) : US := if w.1 < 0 ∨ 30 ≤ w.1 ∨ e < w.2 + wBi w.1 then US.no else CB3 size n (wLe w.1 + BV g w.2 (wBi w.1).toNat) (w.2 + wBi w.1) m o
/-- a copy of the kind s -/
def CB (g : Int → Int) (e size : Int) (L : Int → Int) (n : Nat) (s b m : Int) (o : Int → Int) : US := if 29 ≤ s ∨ e < b + cBi s then US.no else CB2 g e size (cLe s + BV g b (cBi s).toNat) (SG g e L n 15 (b + cBi s) 0 0) m o
/-- one sign's doing -/
def OS (g : Int → Int) (e size : Int) (L : Int → Int) (n : Nat) (s : Int × Int) (m : Int) (o : Int → Int) : US := if s.1 < 0 then US.no else if s.1 < 256 then (if m < size then (true, s.2, m + 1, updG o m s.1) else US.no) else CB g e size L n (s.1 - 257) s.2 m o
/-- signs up to the block's end; k: how many at most -/
def FS (g : Int → Int) (e size : Int) (L1 : Int → Int) (n1 : Nat) (L2 : Int → Int) (n2 : Nat) : Nat → Int → Int → (Int → Int) → US
  | 0, _, _, _ => US.no
  | k + 1, b, m, o => if (SG g e L1 n1 15 b 0 0).1 = 256 then (true, (SG g e L1 n1 15 b 0 0).2, m, o)
    else if (OS g e size L2 n2 (SG g e L1 n1 15 b 0 0) m o).1 = true then FS g e size L1 n1 L2 n2 k (OS g e size L2 n2 (SG g e L1 n1 15 b 0 0) m o).2.1 (OS g e size L2 n2 (SG g e L1 n1 15 b 0 0) m o).2.2.1 (OS g e size L2 n2 (SG g e L1 n1 15 b 0 0) m o).2.2.2
    else US.no
theorem CB_b {g : Int → Int} {e size : Int} {L : Int → Int} {n : Nat} {s b m : Int} {o : Int → Int} (hs : 0 ≤ s) (h : (CB g e size L n s b m o).1 = true) : b < (CB g e size L n s b m o).2.1 ∧ (CB g e size L n s b m o).2.1 ≤ e := by
  have h5 := cBi_r (k := s) hs
  unfold CB at h ⊢
  by_cases c1 : 29 ≤ s ∨ e < b + cBi s
  · rw [if_pos c1] at h; exact absurd h (by decide)
  rw [if_neg c1] at h ⊢
  have hw := SG_r (g := g) (e := e) (L := L) (n := n) 15 (b + cBi s) 0 0 (Int.le_refl _)
  generalize SG g e L n 15 (b + cBi s) 0 0 = w at h hw ⊢
  unfold CB2 at h ⊢
  by_cases c2 : w.1 < 0 ∨ 30 ≤ w.1 ∨ e < w.2 + wBi w.1
  · rw [if_pos c2] at h; exact absurd h (by decide)
  rw [if_neg c2] at h ⊢
  have h7 := hw.2.2 (by omega)
  have h8 := wBi_r (k := w.1) (by omega)
  unfold CB3 at h ⊢
  by_cases c3 : m < wLe w.1 + BV g w.2 (wBi w.1).toNat ∨ size - m < cLe s + BV g b (cBi s).toNat
  · rw [if_pos c3] at h; exact absurd h (by decide)
  rw [if_neg c3]
  exact ⟨by show b < w.2 + wBi w.1; omega, by show w.2 + wBi w.1 ≤ e; omega⟩
theorem OS_b {g : Int → Int} {e size : Int} {L : Int → Int} {n : Nat} {s : Int × Int} {m b : Int} {o : Int → Int} (hb : 0 ≤ s.1 → b < s.2 ∧ s.2 ≤ e) (hs : s.1 ≠ 256) (h : (OS g e size L n s m o).1 = true) : b < (OS g e size L n s m o).2.1 ∧ (OS g e size L n s m o).2.1 ≤ e := by
  unfold OS at h ⊢
  by_cases c1 : s.1 < 0
  · rw [if_pos c1] at h; exact absurd h (by decide)
  rw [if_neg c1] at h ⊢
  have h4 := hb (by omega)
  by_cases c2 : s.1 < 256
  · rw [if_pos c2] at h ⊢
    by_cases c3 : m < size
    · rw [if_pos c3]; exact h4
    · rw [if_neg c3] at h; exact absurd h (by decide)
  rw [if_neg c2] at h ⊢
  have h5 := CB_b (by omega) h
  omega
/-- fuel does not matter, if there is enough of it -/
theorem FS_irr {g : Int → Int} {e size : Int} {L1 L2 : Int → Int} {n1 n2 : Nat} (k : Nat) : ∀ (k' : Nat) (b m : Int) (o : Int → Int), b ≤ e → e - b < k → e - b < k' → FS g e size L1 n1 L2 n2 k b m o = FS g e size L1 n1 L2 n2 k' b m o := by
  induction k with
  | zero => intro k' b m o h1 h2 h3; omega
  | succ k ih =>
    intro k' b m o h1 h2 h3
    cases k' with
    | zero => omega
    | succ k' =>
      simp only [FS]
      have hs := SG_r (g := g) (e := e) (L := L1) (n := n1) 15 b 0 0 (Int.le_refl _)
      generalize SG g e L1 n1 15 b 0 0 = s at hs ⊢
      by_cases c1 : s.1 = 256
      · rw [if_pos c1, if_pos c1]
      rw [if_neg c1, if_neg c1]
      by_cases c2 : (OS g e size L2 n2 s m o).1 = true
      · rw [if_pos c2, if_pos c2]
        have h4 := OS_b hs.2.2 c1 c2
        exact ih k' _ _ _ h4.2 (by omega) (by omega)
      · rw [if_neg c2, if_neg c2]
/-- a block of signs takes a bit at least -/
theorem FS_b {g : Int → Int} {e size : Int} {L1 L2 : Int → Int} {n1 n2 : Nat} (k : Nat) : ∀ (b m : Int) (o : Int → Int), (FS g e size L1 n1 L2 n2 k b m o).1 = true → b < (FS g e size L1 n1 L2 n2 k b m o).2.1 ∧ (FS g e size L1 n1 L2 n2 k b m o).2.1 ≤ e := by
  induction k with
  | zero => intro b m o h; exact absurd (show false = true from h) (by decide)
  | succ k ih =>
    intro b m o
    simp only [FS]
    have hs := SG_r (g := g) (e := e) (L := L1) (n := n1) 15 b 0 0 (Int.le_refl _)
    generalize SG g e L1 n1 15 b 0 0 = s at hs ⊢
    by_cases c1 : s.1 = 256
    · rw [if_pos c1]; intro _; exact hs.2.2 (by omega)
    rw [if_neg c1]
    by_cases c2 : (OS g e size L2 n2 s m o).1 = true
    · rw [if_pos c2]
      have h4 := OS_b hs.2.2 c1 c2
      intro h
      have := ih _ _ _ h
      omega
    · rw [if_neg c2]; intro h; exact absurd (show false = true from h) (by decide)
/-- a stretch of one value -/
def FILL (L : Int → Int) (a n v : Int) : Int → Int := fun j => if a ≤ j ∧ j < a + n then v else L j
def tBi (s : Int) : Int := if s < 16 then 0 else if s = 16 then 2 else if s = 17 then 3 else 7
def tLe (s : Int) : Int := if s < 16 then 1 else if s = 18 then 11 else 3
def tVa (L : Int → Int) (at_ s : Int) : Int := if s < 16 then s else if s = 16 then L (at_ - 1) else 0
/-- lengths told by lengths C; (false, _, _): wrong -/
def TL (g : Int → Int) (e : Int) (C : Int → Int) (n : Int) : Nat → Int → Int → (Int → Int) → Bool × Int × (Int → Int)
  | 0, at_, b, L => (decide (at_ = n), b, L)
  | k + 1, at_, b, L => if n ≤ at_ then (decide (at_ = n), b, L)
    else if (SG g e C 19 15 b 0 0).1 < 0 ∨ ((SG g e C 19 15 b 0 0).1 = 16 ∧ at_ = 0) ∨ e < (SG g e C 19 15 b 0 0).2 + tBi (SG g e C 19 15 b 0 0).1 ∨ n - at_ < tLe (SG g e C 19 15 b 0 0).1 + BV g (SG g e C 19 15 b 0 0).2 (tBi (SG g e C 19 15 b 0 0).1).toNat then (false, b, L)
    else TL g e C n k (at_ + (tLe (SG g e C 19 15 b 0 0).1 + BV g (SG g e C 19 15 b 0 0).2 (tBi (SG g e C 19 15 b 0 0).1).toNat)) ((SG g e C 19 15 b 0 0).2 + tBi (SG g e C 19 15 b 0 0).1) (FILL L at_ (tLe (SG g e C 19 15 b 0 0).1 + BV g (SG g e C 19 15 b 0 0).2 (tBi (SG g e C 19 15 b 0 0).1).toNat) (tVa L at_ (SG g e C 19 15 b 0 0).1))
/-- in which order the lengths of lengths come -/
def ordQ (k : Int) : Int := if k < 3 then 16 + k else if k = 3 then 0 else if k % 2 = 0 then 8 + (k - 4) / 2 else 8 - (k - 3) / 2
theorem ordQ_r {k : Int} (h : 0 ≤ k ∧ k < 19) : 0 ≤ ordQ k ∧ ordQ k ≤ 18 := by
  unfold ordQ
  split
  · omega
  split
  · omega
  split <;> omega
def CQ (g : Int → Int) (b : Int) : Nat → Int → Int
  | 0 => fun _ => 0
  | n + 1 => updG (CQ g b n) (ordQ n) (BV g (b + 3 * n) 3)
theorem CQ_step {g : Int → Int} {b k : Int} (h : 0 ≤ k) : CQ g b (k + 1).toNat = updG (CQ g b k.toNat) (ordQ k) (BV g (b + 3 * k) 3) := by
  rw [show (k + 1).toNat = k.toNat + 1 by omega]
  show updG (CQ g b k.toNat) (ordQ (k.toNat : Int)) (BV g (b + 3 * (k.toNat : Int)) 3) = _
  rw [Int.toNat_of_nonneg h]
theorem CQ_r (g : Int → Int) (b : Int) (n : Nat) (j : Int) : 0 ≤ CQ g b n j ∧ CQ g b n j ≤ 7 := by
  induction n with
  | zero => exact ⟨Int.le_refl _, (by decide : (0 : Int) ≤ 7)⟩
  | succ n ih =>
    have h1 := BV_r g (b + 3 * n) 3
    have h2 : P2 ((3 : Nat) : Int) = 8 := by decide
    show 0 ≤ (if j = ordQ n then BV g (b + 3 * n) 3 else CQ g b n j) ∧ (if j = ordQ n then BV g (b + 3 * n) 3 else CQ g b n j) ≤ 7
    split
    · omega
    · exact ih
def hlQ (g : Int → Int) (b : Int) : Int := 257 + BV g b 5
def hdQ (g : Int → Int) (b : Int) : Int := 1 + BV g (b + 5) 5
def hcQ (g : Int → Int) (b : Int) : Int := 4 + BV g (b + 10) 4
/-- the lengths that a block tells -/
def TQ (g : Int → Int) (e b : Int) : Bool × Int × (Int → Int) := TL g e (CQ g (b + 14) (hcQ g b).toNat) (hlQ g b + hdQ g b) (hlQ g b + hdQ g b).toNat 0 (b + 14 + 3 * hcQ g b) (fun _ => 0)
/-- are they fine -/
def DQ (g : Int → Int) (e b : Int) : Prop := b + 14 ≤ e ∧ hlQ g b ≤ 286 ∧ hdQ g b ≤ 30 ∧ b + 14 + 3 * hcQ g b ≤ e ∧ OKQ (CQ g (b + 14) (hcQ g b).toNat) 19 ∧ (TQ g e b).1 = true ∧ (TQ g e b).2.2 256 ≠ 0 ∧ OKQ (TQ g e b).2.2 (hlQ g b).toNat ∧ (OKQ (fun j => (TQ g e b).2.2 (hlQ g b + j)) (hdQ g b).toNat ∨ THQ (fun j => (TQ g e b).2.2 (hlQ g b + j)) (hdQ g b).toNat 15 = 0)
/-- a block with codes of its own, all told -/
def DYN (g : Int → Int) (e size b m : Int) (o : Int → Int) : US := FS g e size (TQ g e b).2.2 (hlQ g b).toNat (fun j => (TQ g e b).2.2 (hlQ g b + j)) (hdQ g b).toNat 64001 (TQ g e b).2.1 m o
def fixA : Int → Int := fun k => if k < 144 then 8 else if k < 256 then 9 else if k < 280 then 7 else 8
/-- a plain block: b is the next whole byte -/
def PLN (g : Int → Int) (e size b m : Int) (o : Int → Int) : US :=
  if e < b + 32 ∨ BV g b 16 + BV g (b + 16) 16 ≠ 65535 ∨ e < b + 32 + 8 * BV g b 16 ∨ size - m < BV g b 16 then US.no
  else (true, b + 32 + 8 * BV g b 16, m + BV g b 16, PLC g o m ((b + 32) / 8) (BV g b 16).toNat)
/-- a block u follows on b: what it gives -/
def BK (g : Int → Int) (e size b m : Int) (o : Int → Int) (u : US) : Prop := b + 3 ≤ e ∧ u.1 = true ∧ ((BV g (b + 1) 2 = 0 ∧ u = PLN g e size ((b + 3 + 7) / 8 * 8) m o) ∨ (BV g (b + 1) 2 = 1 ∧ u = FS g e size fixA 288 (fun _ => 5) 32 64001 (b + 3) m o) ∨ (BV g (b + 1) 2 = 2 ∧ DQ g e (b + 3) ∧ u = DYN g e size (b + 3) m o))
theorem BK_one {g : Int → Int} {e size b m : Int} {o : Int → Int} {u v : US} (h : BK g e size b m o u) (k : BK g e size b m o v) : u = v := by
  obtain ⟨-, -, h⟩ := h
  obtain ⟨-, -, k⟩ := k
  rcases h with ⟨a, h⟩ | ⟨a, h⟩ | ⟨a, -, h⟩ <;> rcases k with ⟨c, k⟩ | ⟨c, k⟩ | ⟨c, -, k⟩ <;> first | omega | (rw [h, k])
theorem PLN_b {g : Int → Int} {e size b m : Int} {o : Int → Int} (h : (PLN g e size b m o).1 = true) : b < (PLN g e size b m o).2.1 ∧ (PLN g e size b m o).2.1 ≤ e := by
  have h1 := (BV_r g b 16).1
  unfold PLN at h ⊢
  by_cases c : e < b + 32 ∨ BV g b 16 + BV g (b + 16) 16 ≠ 65535 ∨ e < b + 32 + 8 * BV g b 16 ∨ size - m < BV g b 16
  · rw [if_pos c] at h; exact absurd h (by decide)
  rw [if_neg c]
  exact ⟨by show b < b + 32 + 8 * BV g b 16; omega, by show b + 32 + 8 * BV g b 16 ≤ e; omega⟩
/-- blocks up to the last one, ending at u -/
def INF (g : Int → Int) (e size : Int) : Nat → Int → Int → (Int → Int) → US → Prop
  | 0, _, _, _, _ => False
  | k + 1, b, m, o, u => ∃ v : US, BK g e size b m o v ∧ ((bt g b = 1 ∧ u = v) ∨ (bt g b ≠ 1 ∧ INF g e size k v.2.1 v.2.2.1 v.2.2.2 u))
theorem INF_one {g : Int → Int} {e size : Int} (k : Nat) : ∀ {b m : Int} {o : Int → Int} {u v : US}, INF g e size k b m o u → INF g e size k b m o v → u = v := by
  induction k with
  | zero => intro b m o u v h; exact absurd h (fun q => q)
  | succ k ih =>
    intro b m o u v h q
    obtain ⟨x, h1, h2⟩ := h
    obtain ⟨y, q1, q2⟩ := q
    have e1 := BK_one h1 q1
    subst e1
    rcases h2 with ⟨a, rfl⟩ | ⟨a, h2⟩ <;> rcases q2 with ⟨c, rfl⟩ | ⟨c, q2⟩
    · rfl
    · exact absurd a c
    · exact absurd c a
    · exact ih h2 q2
theorem tBi_r (s : Int) : 0 ≤ tBi s := by
  unfold tBi
  split
  · omega
  split
  · omega
  split <;> omega
theorem TL_b {g : Int → Int} {e : Int} {C : Int → Int} {n : Int} (k : Nat) : ∀ (at_ b : Int) (L : Int → Int), (TL g e C n k at_ b L).1 = true → b ≤ (TL g e C n k at_ b L).2.1 := by
  induction k with
  | zero => intro at_ b L h; exact Int.le_refl _
  | succ k ih =>
    intro at_ b L
    simp only [TL]
    have hs := SG_r (g := g) (e := e) (L := C) (n := 19) 15 b 0 0 (Int.le_refl _)
    generalize SG g e C 19 15 b 0 0 = s at hs ⊢
    by_cases c1 : n ≤ at_
    · rw [if_pos c1]; intro _; exact Int.le_refl _
    rw [if_neg c1]
    by_cases c2 : s.1 < 0 ∨ (s.1 = 16 ∧ at_ = 0) ∨ e < s.2 + tBi s.1 ∨ n - at_ < tLe s.1 + BV g s.2 (tBi s.1).toNat
    · rw [if_pos c2]; intro h; exact absurd (show false = true from h) (by decide)
    rw [if_neg c2]
    intro h
    have h1 := ih _ _ _ h
    have h2 := tBi_r s.1
    have h3 := hs.2.2 (by omega)
    omega
theorem BK_b {g : Int → Int} {e size b m : Int} {o : Int → Int} {u : US} (h : BK g e size b m o u) : b < u.2.1 ∧ u.2.1 ≤ e := by
  obtain ⟨h1, h2, h | h | h⟩ := h
  · obtain ⟨-, rfl⟩ := h
    have := PLN_b h2
    omega
  · obtain ⟨-, rfl⟩ := h
    have := FS_b _ _ _ _ h2
    omega
  · obtain ⟨-, q, rfl⟩ := h
    have h3 := FS_b _ _ _ _ h2
    have h4 : b + 3 + 14 + 3 * hcQ g (b + 3) ≤ (TQ g e (b + 3)).2.1 := TL_b _ _ _ _ q.2.2.2.2.2.1
    have h5 := (BV_r g (b + 3 + 10) 4).1
    have h6 : hcQ g (b + 3) = 4 + BV g (b + 3 + 10) 4 := rfl
    unfold DYN
    omega
theorem INF_irr {g : Int → Int} {e size : Int} (k : Nat) : ∀ (k' : Nat) (b m : Int) (o : Int → Int) (u : US), b ≤ e → e - b < k → e - b < k' → INF g e size k b m o u → INF g e size k' b m o u := by
  induction k with
  | zero => intro k' b m o u h1 h2 h3; omega
  | succ k ih =>
    intro k' b m o u h1 h2 h3 h
    cases k' with
    | zero => omega
    | succ k' =>
      obtain ⟨v, q1, q2⟩ := h
      have q3 := BK_b q1
      refine ⟨v, q1, ?_⟩
      rcases q2 with q2 | ⟨q2, q4⟩
      · exact Or.inl q2
      · exact Or.inr ⟨q2, ih k' _ _ _ _ q3.2 (by omega) (by omega) q4⟩
/-- as the class counts what is free, and as the model sums: the same -/
theorem FRE_SMQ (L : Int → Int) (n : Nat) : (FRE L n 15 = 0 ∧ ∀ l : Nat, l ≤ 15 → 0 ≤ FRE L n l) ↔ SMQ L n 15 = 32768 := by
  have f0 : FRE L n 0 = 1 := rfl
  have q0 : SMQ L n 0 = 0 := rfl
  have a1 := (MY_r L 1 n).1
  have f1 : FRE L n 1 = 2 * FRE L n 0 - MY L 1 n := rfl
  have q1 : SMQ L n 1 = SMQ L n 0 + MY L 1 n * 16384 := rfl
  have a2 := (MY_r L 2 n).1
  have f2 : FRE L n 2 = 2 * FRE L n 1 - MY L 2 n := rfl
  have q2 : SMQ L n 2 = SMQ L n 1 + MY L 2 n * 8192 := rfl
  have a3 := (MY_r L 3 n).1
  have f3 : FRE L n 3 = 2 * FRE L n 2 - MY L 3 n := rfl
  have q3 : SMQ L n 3 = SMQ L n 2 + MY L 3 n * 4096 := rfl
  have a4 := (MY_r L 4 n).1
  have f4 : FRE L n 4 = 2 * FRE L n 3 - MY L 4 n := rfl
  have q4 : SMQ L n 4 = SMQ L n 3 + MY L 4 n * 2048 := rfl
  have a5 := (MY_r L 5 n).1
  have f5 : FRE L n 5 = 2 * FRE L n 4 - MY L 5 n := rfl
  have q5 : SMQ L n 5 = SMQ L n 4 + MY L 5 n * 1024 := rfl
  have a6 := (MY_r L 6 n).1
  have f6 : FRE L n 6 = 2 * FRE L n 5 - MY L 6 n := rfl
  have q6 : SMQ L n 6 = SMQ L n 5 + MY L 6 n * 512 := rfl
  have a7 := (MY_r L 7 n).1
  have f7 : FRE L n 7 = 2 * FRE L n 6 - MY L 7 n := rfl
  have q7 : SMQ L n 7 = SMQ L n 6 + MY L 7 n * 256 := rfl
  have a8 := (MY_r L 8 n).1
  have f8 : FRE L n 8 = 2 * FRE L n 7 - MY L 8 n := rfl
  have q8 : SMQ L n 8 = SMQ L n 7 + MY L 8 n * 128 := rfl
  have a9 := (MY_r L 9 n).1
  have f9 : FRE L n 9 = 2 * FRE L n 8 - MY L 9 n := rfl
  have q9 : SMQ L n 9 = SMQ L n 8 + MY L 9 n * 64 := rfl
  have a10 := (MY_r L 10 n).1
  have f10 : FRE L n 10 = 2 * FRE L n 9 - MY L 10 n := rfl
  have q10 : SMQ L n 10 = SMQ L n 9 + MY L 10 n * 32 := rfl
  have a11 := (MY_r L 11 n).1
  have f11 : FRE L n 11 = 2 * FRE L n 10 - MY L 11 n := rfl
  have q11 : SMQ L n 11 = SMQ L n 10 + MY L 11 n * 16 := rfl
  have a12 := (MY_r L 12 n).1
  have f12 : FRE L n 12 = 2 * FRE L n 11 - MY L 12 n := rfl
  have q12 : SMQ L n 12 = SMQ L n 11 + MY L 12 n * 8 := rfl
  have a13 := (MY_r L 13 n).1
  have f13 : FRE L n 13 = 2 * FRE L n 12 - MY L 13 n := rfl
  have q13 : SMQ L n 13 = SMQ L n 12 + MY L 13 n * 4 := rfl
  have a14 := (MY_r L 14 n).1
  have f14 : FRE L n 14 = 2 * FRE L n 13 - MY L 14 n := rfl
  have q14 : SMQ L n 14 = SMQ L n 13 + MY L 14 n * 2 := rfl
  have a15 := (MY_r L 15 n).1
  have f15 : FRE L n 15 = 2 * FRE L n 14 - MY L 15 n := rfl
  have q15 : SMQ L n 15 = SMQ L n 14 + MY L 15 n * 1 := rfl
  constructor
  · rintro ⟨h, -⟩
    omega
  · intro h
    refine ⟨by omega, fun l hl => ?_⟩
    have : l = 0 ∨ l = 1 ∨ l = 2 ∨ l = 3 ∨ l = 4 ∨ l = 5 ∨ l = 6 ∨ l = 7 ∨ l = 8 ∨ l = 9 ∨ l = 10 ∨ l = 11 ∨ l = 12 ∨ l = 13 ∨ l = 14 ∨ l = 15 := by omega
    rcases this with rfl | rfl | rfl | rfl | rfl | rfl | rfl | rfl | rfl | rfl | rfl | rfl | rfl | rfl | rfl | rfl <;> omega
/-! Codes in their order: sorting by counting. -/
theorem PL_step {L : Int → Int} {n : Nat} {l : Int} (h : 1 ≤ l) : PL L n (l + 1).toNat = PL L n l.toNat + MY L l n := by
  rw [show (l + 1).toNat = l.toNat + 1 by omega]
  show PL L n l.toNat + (if l.toNat = 0 then 0 else MY L (l.toNat : Int) n) = _
  rw [if_neg (by omega), Int.toNat_of_nonneg (by omega)]
theorem PL_mono {L : Int → Int} {n : Nat} {a b : Nat} (h : a ≤ b) : PL L n a ≤ PL L n b := by
  induction b with
  | zero =>
    have : a = 0 := by omega
    rw [this]
    exact Int.le_refl _
  | succ b ih =>
    by_cases e : a = b + 1
    · rw [e]; exact Int.le_refl _
    · have h1 := ih (by omega)
      have h2 := (MY_r L (b : Int) n).1
      show PL L n a ≤ PL L n b + (if b = 0 then 0 else MY L (b : Int) n)
      split <;> omega
theorem PL_apart {L : Int → Int} {n : Nat} {l l' : Int} (h : 1 ≤ l) (hl : l < l') : PL L n l.toNat + MY L l n ≤ PL L n l'.toNat := by
  rw [← PL_step h]
  exact PL_mono (by omega)
theorem PL_more (L : Int → Int) (n l : Nat) : PL L (n + 1) (l + 1) = PL L n (l + 1) + (if 1 ≤ L n ∧ L n ≤ l then 1 else 0) := by
  induction l with
  | zero =>
    rw [if_neg (by omega)]
    rfl
  | succ l ih =>
    have e : ∀ k : Nat, PL L k (l + 1 + 1) = PL L k (l + 1) + MY L ((l + 1 : Nat) : Int) k := fun k => by
      show PL L k (l + 1) + (if l + 1 = 0 then 0 else MY L ((l + 1 : Nat) : Int) k) = _
      rw [if_neg (by omega)]
    have e2 : MY L ((l + 1 : Nat) : Int) (n + 1) = MY L ((l + 1 : Nat) : Int) n + (if L n = ((l + 1 : Nat) : Int) then 1 else 0) := rfl
    rw [e, e, ih, e2]
    split <;> split <;> split <;> omega
theorem PL_none (L : Int → Int) (l : Nat) : PL L 0 l = 0 := by
  induction l with
  | zero => rfl
  | succ l ih =>
    show PL L 0 l + (if l = 0 then 0 else MY L (l : Int) 0) = 0
    rw [ih]
    split <;> rfl
theorem PL_le (L : Int → Int) (n l : Nat) : PL L n (l + 1) ≤ n := by
  induction n with
  | zero => rw [PL_none]; exact Int.le_refl _
  | succ n ih =>
    rw [PL_more]
    split <;> omega
theorem MY_mono {L : Int → Int} {l : Int} {i n : Nat} (h : i ≤ n) : MY L l i ≤ MY L l n := by
  induction n with
  | zero =>
    have : i = 0 := by omega
    rw [this]
    exact Int.le_refl _
  | succ n ih =>
    by_cases e : i = n + 1
    · rw [e]; exact Int.le_refl _
    · have h1 := ih (by omega)
      show MY L l i ≤ MY L l n + (if L n = l then 1 else 0)
      split <;> omega
/-- signs sorted so far: i of n -/
def SRT (L : Int → Int) (n : Nat) (i : Int) (pl sg : Int → Int) : Prop := (∀ l : Int, 1 ≤ l → l ≤ 15 → pl l = PL L n l.toNat + MY L l i.toNat) ∧ ∀ l w : Int, 1 ≤ l → l ≤ 15 → 0 ≤ w → w < MY L l i.toNat → sg (PL L n l.toNat + w) = PK L l w i.toNat
theorem SRT_0 {L : Int → Int} {n : Nat} {pl sg : Int → Int} (h : ∀ l : Int, 1 ≤ l → l ≤ 15 → pl l = PL L n l.toNat) : SRT L n 0 pl sg := ⟨fun l a b => by rw [h l a b]; exact (Int.add_zero _).symm, fun l w _ _ c d => by have : w < 0 := d; omega⟩
theorem SRT_no {L : Int → Int} {n : Nat} {i : Int} {pl sg : Int → Int} (h : SRT L n i pl sg) (hi : 0 ≤ i) (h0 : L i = 0) : SRT L n (i + 1) pl sg := by
  have hm : ∀ l : Int, 1 ≤ l → MY L l (i + 1).toNat = MY L l i.toNat := fun l a => by
    rw [MY_step hi, if_neg (by omega), Int.add_zero]
  refine ⟨fun l a b => by rw [hm l a]; exact h.1 l a b, fun l w a b c d => ?_⟩
  rw [hm l a] at d
  rw [PK_step hi, if_neg (fun q => by have := q.1; omega)]
  exact h.2 l w a b c d
theorem SRT_step {L : Int → Int} {n : Nat} {i x : Int} {pl sg : Int → Int} (h : SRT L n i pl sg) (hi : 0 ≤ i ∧ i < n) (hx : L i = x) (h1 : 1 ≤ x ∧ x ≤ 15) : SRT L n (i + 1) (updG pl x (pl x + 1)) (updG sg (pl x) i) ∧ 0 ≤ pl x ∧ pl x < n := by
  have hp := h.1 x h1.1 h1.2
  have hlt : MY L x i.toNat < MY L x n := by
    have q1 := MY_step (L := L) (l := x) hi.1
    rw [if_pos hx] at q1
    have q2 := MY_mono (L := L) (l := x) (i := (i + 1).toNat) (n := n) (by omega)
    omega
  refine ⟨⟨fun l a b => ?_, fun l w a b c d => ?_⟩, ?_⟩
  · unfold updG
    rw [MY_step hi.1]
    by_cases e : l = x
    · rw [if_pos e, e, if_pos hx, hp]; omega
    · rw [if_neg e, if_neg (fun q => e (by rw [← hx, q])), Int.add_zero]
      exact h.1 l a b
  · rw [MY_step hi.1] at d
    unfold updG
    rw [PK_step hi.1]
    by_cases e : l = x
    · subst e
      rw [if_pos hx] at d
      by_cases ew : w = MY L l i.toNat
      · rw [if_pos (by rw [hp, ew]), if_pos ⟨hx, ew.symm⟩]
      · rw [if_neg (by rw [hp]; omega), if_neg (fun q => ew q.2.symm)]
        exact h.2 l w a b c (by omega)
    · have hn : ¬ L i = l := fun q => e (by rw [← hx, q])
      rw [if_neg hn, Int.add_zero] at d
      have hw : w < MY L l n := by
        have := MY_mono (L := L) (l := l) (i := i.toNat) (n := n) (by omega)
        omega
      rw [if_neg, if_neg (fun q => hn q.1)]
      · exact h.2 l w a b c d
      · rw [hp]
        have m0 := (MY_r L x i.toNat).1
        rcases (by omega : l < x ∨ x < l) with q | q
        · have := PL_apart (L := L) (n := n) a q
          omega
        · have := PL_apart (L := L) (n := n) h1.1 q
          omega
  · rw [hp]
    have m0 := (MY_r L x i.toNat).1
    have p0 := PL_mono (L := L) (n := n) (a := 0) (b := x.toNat) (by omega)
    have p1 : PL L n 0 = 0 := rfl
    have p2 := PL_step (L := L) (n := n) (l := x) h1.1
    have p3 := PL_le L n x.toNat
    rw [show (x + 1).toNat = x.toNat + 1 by omega] at p2
    omega
/-- a single code, or none -/
theorem THQ_0 {L : Int → Int} {n : Nat} (h : THQ L n 15 = 0) : SMQ L n 15 = 0 := by
  have t0 : THQ L n 0 = 0 := rfl
  have q0 : SMQ L n 0 = 0 := rfl
  have a1 := (MY_r L 1 n).1
  have t1 : THQ L n 1 = THQ L n 0 + MY L 1 n := rfl
  have q1 : SMQ L n 1 = SMQ L n 0 + MY L 1 n * 16384 := rfl
  have a2 := (MY_r L 2 n).1
  have t2 : THQ L n 2 = THQ L n 1 + MY L 2 n := rfl
  have q2 : SMQ L n 2 = SMQ L n 1 + MY L 2 n * 8192 := rfl
  have a3 := (MY_r L 3 n).1
  have t3 : THQ L n 3 = THQ L n 2 + MY L 3 n := rfl
  have q3 : SMQ L n 3 = SMQ L n 2 + MY L 3 n * 4096 := rfl
  have a4 := (MY_r L 4 n).1
  have t4 : THQ L n 4 = THQ L n 3 + MY L 4 n := rfl
  have q4 : SMQ L n 4 = SMQ L n 3 + MY L 4 n * 2048 := rfl
  have a5 := (MY_r L 5 n).1
  have t5 : THQ L n 5 = THQ L n 4 + MY L 5 n := rfl
  have q5 : SMQ L n 5 = SMQ L n 4 + MY L 5 n * 1024 := rfl
  have a6 := (MY_r L 6 n).1
  have t6 : THQ L n 6 = THQ L n 5 + MY L 6 n := rfl
  have q6 : SMQ L n 6 = SMQ L n 5 + MY L 6 n * 512 := rfl
  have a7 := (MY_r L 7 n).1
  have t7 : THQ L n 7 = THQ L n 6 + MY L 7 n := rfl
  have q7 : SMQ L n 7 = SMQ L n 6 + MY L 7 n * 256 := rfl
  have a8 := (MY_r L 8 n).1
  have t8 : THQ L n 8 = THQ L n 7 + MY L 8 n := rfl
  have q8 : SMQ L n 8 = SMQ L n 7 + MY L 8 n * 128 := rfl
  have a9 := (MY_r L 9 n).1
  have t9 : THQ L n 9 = THQ L n 8 + MY L 9 n := rfl
  have q9 : SMQ L n 9 = SMQ L n 8 + MY L 9 n * 64 := rfl
  have a10 := (MY_r L 10 n).1
  have t10 : THQ L n 10 = THQ L n 9 + MY L 10 n := rfl
  have q10 : SMQ L n 10 = SMQ L n 9 + MY L 10 n * 32 := rfl
  have a11 := (MY_r L 11 n).1
  have t11 : THQ L n 11 = THQ L n 10 + MY L 11 n := rfl
  have q11 : SMQ L n 11 = SMQ L n 10 + MY L 11 n * 16 := rfl
  have a12 := (MY_r L 12 n).1
  have t12 : THQ L n 12 = THQ L n 11 + MY L 12 n := rfl
  have q12 : SMQ L n 12 = SMQ L n 11 + MY L 12 n * 8 := rfl
  have a13 := (MY_r L 13 n).1
  have t13 : THQ L n 13 = THQ L n 12 + MY L 13 n := rfl
  have q13 : SMQ L n 13 = SMQ L n 12 + MY L 13 n * 4 := rfl
  have a14 := (MY_r L 14 n).1
  have t14 : THQ L n 14 = THQ L n 13 + MY L 14 n := rfl
  have q14 : SMQ L n 14 = SMQ L n 13 + MY L 14 n * 2 := rfl
  have a15 := (MY_r L 15 n).1
  have t15 : THQ L n 15 = THQ L n 14 + MY L 15 n := rfl
  have q15 : SMQ L n 15 = SMQ L n 14 + MY L 15 n * 1 := rfl
  omega
theorem THQ_1 {L : Int → Int} {n : Nat} (h : THQ L n 15 = 1) : (SMQ L n 15 = 16384 ↔ MY L 1 n = 1) ∧ SMQ L n 15 ≠ 32768 := by
  have t0 : THQ L n 0 = 0 := rfl
  have q0 : SMQ L n 0 = 0 := rfl
  have a1 := (MY_r L 1 n).1
  have t1 : THQ L n 1 = THQ L n 0 + MY L 1 n := rfl
  have q1 : SMQ L n 1 = SMQ L n 0 + MY L 1 n * 16384 := rfl
  have a2 := (MY_r L 2 n).1
  have t2 : THQ L n 2 = THQ L n 1 + MY L 2 n := rfl
  have q2 : SMQ L n 2 = SMQ L n 1 + MY L 2 n * 8192 := rfl
  have a3 := (MY_r L 3 n).1
  have t3 : THQ L n 3 = THQ L n 2 + MY L 3 n := rfl
  have q3 : SMQ L n 3 = SMQ L n 2 + MY L 3 n * 4096 := rfl
  have a4 := (MY_r L 4 n).1
  have t4 : THQ L n 4 = THQ L n 3 + MY L 4 n := rfl
  have q4 : SMQ L n 4 = SMQ L n 3 + MY L 4 n * 2048 := rfl
  have a5 := (MY_r L 5 n).1
  have t5 : THQ L n 5 = THQ L n 4 + MY L 5 n := rfl
  have q5 : SMQ L n 5 = SMQ L n 4 + MY L 5 n * 1024 := rfl
  have a6 := (MY_r L 6 n).1
  have t6 : THQ L n 6 = THQ L n 5 + MY L 6 n := rfl
  have q6 : SMQ L n 6 = SMQ L n 5 + MY L 6 n * 512 := rfl
  have a7 := (MY_r L 7 n).1
  have t7 : THQ L n 7 = THQ L n 6 + MY L 7 n := rfl
  have q7 : SMQ L n 7 = SMQ L n 6 + MY L 7 n * 256 := rfl
  have a8 := (MY_r L 8 n).1
  have t8 : THQ L n 8 = THQ L n 7 + MY L 8 n := rfl
  have q8 : SMQ L n 8 = SMQ L n 7 + MY L 8 n * 128 := rfl
  have a9 := (MY_r L 9 n).1
  have t9 : THQ L n 9 = THQ L n 8 + MY L 9 n := rfl
  have q9 : SMQ L n 9 = SMQ L n 8 + MY L 9 n * 64 := rfl
  have a10 := (MY_r L 10 n).1
  have t10 : THQ L n 10 = THQ L n 9 + MY L 10 n := rfl
  have q10 : SMQ L n 10 = SMQ L n 9 + MY L 10 n * 32 := rfl
  have a11 := (MY_r L 11 n).1
  have t11 : THQ L n 11 = THQ L n 10 + MY L 11 n := rfl
  have q11 : SMQ L n 11 = SMQ L n 10 + MY L 11 n * 16 := rfl
  have a12 := (MY_r L 12 n).1
  have t12 : THQ L n 12 = THQ L n 11 + MY L 12 n := rfl
  have q12 : SMQ L n 12 = SMQ L n 11 + MY L 12 n * 8 := rfl
  have a13 := (MY_r L 13 n).1
  have t13 : THQ L n 13 = THQ L n 12 + MY L 13 n := rfl
  have q13 : SMQ L n 13 = SMQ L n 12 + MY L 13 n * 4 := rfl
  have a14 := (MY_r L 14 n).1
  have t14 : THQ L n 14 = THQ L n 13 + MY L 14 n := rfl
  have q14 : SMQ L n 14 = SMQ L n 13 + MY L 14 n * 2 := rfl
  have a15 := (MY_r L 15 n).1
  have t15 : THQ L n 15 = THQ L n 14 + MY L 15 n := rfl
  have q15 : SMQ L n 15 = SMQ L n 14 + MY L 15 n * 1 := rfl
  refine ⟨⟨fun q => ?_, fun q => ?_⟩, fun q => ?_⟩ <;> omega
theorem THQ_more (L : Int → Int) (n l : Nat) : THQ L (n + 1) l = THQ L n l + (if 1 ≤ L n ∧ L n ≤ l then 1 else 0) := by
  induction l with
  | zero =>
    rw [if_neg (by omega)]
    rfl
  | succ l ih =>
    have e : ∀ k : Nat, THQ L k (l + 1) = THQ L k l + MY L ((l : Int) + 1) k := fun k => rfl
    have e2 : MY L ((l : Int) + 1) (n + 1) = MY L ((l : Int) + 1) n + (if L n = (l : Int) + 1 then 1 else 0) := rfl
    rw [e, e, ih, e2]
    split <;> split <;> split <;> omega
theorem THQ_none (L : Int → Int) (l : Nat) : THQ L 0 l = 0 := by
  induction l with
  | zero => rfl
  | succ l ih =>
    show THQ L 0 l + MY L ((l : Int) + 1) 0 = 0
    rw [ih]
    rfl
theorem THQ_n {L : Int → Int} {n : Nat} (h : ∀ k : Int, 0 ≤ k → k < n → 0 ≤ L k ∧ L k ≤ 15) : (n : Int) = MY L 0 n + THQ L n 15 := by
  induction n with
  | zero => rw [THQ_none]; rfl
  | succ n ih =>
    have h1 := ih (fun k a b => h k a (by omega))
    have h2 := h n (by omega) (by omega)
    have hm : MY L 0 (n + 1) = MY L 0 n + (if L n = 0 then 1 else 0) := rfl
    rw [hm, THQ_more]
    split <;> split <;> omega
/-- lengths that are the same give the same codes -/
theorem MY_congr {L L' : Int → Int} {l : Int} {n : Nat} (h : ∀ k : Int, 0 ≤ k → k < n → L k = L' k) : MY L l n = MY L' l n := by
  induction n with
  | zero => rfl
  | succ n ih =>
    show MY L l n + (if L n = l then 1 else 0) = MY L' l n + (if L' n = l then 1 else 0)
    rw [ih (fun k a b => h k a (by omega)), h n (by omega) (by omega)]
theorem PK_congr {L L' : Int → Int} {l w : Int} {n : Nat} (h : ∀ k : Int, 0 ≤ k → k < n → L k = L' k) : PK L l w n = PK L' l w n := by
  induction n with
  | zero => rfl
  | succ n ih =>
    show (if L n = l ∧ MY L l n = w then (n : Int) else PK L l w n) = (if L' n = l ∧ MY L' l n = w then (n : Int) else PK L' l w n)
    rw [ih (fun k a b => h k a (by omega)), h n (by omega) (by omega), MY_congr (L := L) (L' := L') (fun k a b => h k a (by omega))]
theorem PL_congr {L L' : Int → Int} {n : Nat} (h : ∀ k : Int, 0 ≤ k → k < n → L k = L' k) (l : Nat) : PL L n l = PL L' n l := by
  induction l with
  | zero => rfl
  | succ l ih =>
    show PL L n l + (if l = 0 then 0 else MY L l n) = PL L' n l + (if l = 0 then 0 else MY L' l n)
    rw [ih, MY_congr h]
theorem THQ_congr {L L' : Int → Int} {n : Nat} (h : ∀ k : Int, 0 ≤ k → k < n → L k = L' k) (l : Nat) : THQ L n l = THQ L' n l := by
  induction l with
  | zero => rfl
  | succ l ih =>
    show THQ L n l + MY L ((l : Int) + 1) n = THQ L' n l + MY L' ((l : Int) + 1) n
    rw [ih, MY_congr h]
theorem SMQ_congr {L L' : Int → Int} {n : Nat} (h : ∀ k : Int, 0 ≤ k → k < n → L k = L' k) (l : Nat) : SMQ L n l = SMQ L' n l := by
  induction l with
  | zero => rfl
  | succ l ih =>
    show SMQ L n l + MY L ((l : Int) + 1) n * P2 (14 - (l : Int)) = SMQ L' n l + MY L' ((l : Int) + 1) n * P2 (14 - (l : Int))
    rw [ih, MY_congr h]
theorem OKQ_congr {L L' : Int → Int} {n : Nat} (h : ∀ k : Int, 0 ≤ k → k < n → L k = L' k) : OKQ L n ↔ OKQ L' n := by
  unfold OKQ
  rw [SMQ_congr h, THQ_congr h]
/-- the codes of the m lengths L: how many of each length; what they stand for -/
def CDL (lc ls : List Int32) (L : Int → Int) (m : Nat) : Prop := (∀ l : Int, 1 ≤ l → l ≤ 15 → gl lc l = MY L l m) ∧ (∀ l w : Int, 1 ≤ l → l ≤ 15 → 0 ≤ w → w < MY L l m → gl ls (PL L m l.toNat + w) = PK L l w m) ∧ (m : Int) ≤ ls.length
theorem CDL_congr {lc ls : List Int32} {L L' : Int → Int} {m : Nat} (h : ∀ k : Int, 0 ≤ k → k < m → L k = L' k) (c : CDL lc ls L m) : CDL lc ls L' m := by
  refine ⟨fun l a b => by rw [c.1 l a b, MY_congr h], fun l w a b d e => ?_, c.2.2⟩
  rw [← PL_congr h, ← PK_congr h]
  exact c.2.1 l w a b d (by rw [MY_congr h]; exact e)
theorem SRT_congr {L : Int → Int} {n : Nat} {i : Int} {pl sg pl' sg' : Int → Int} (h : SRT L n i pl sg) (hp : ∀ l : Int, 1 ≤ l → l ≤ 15 → pl' l = pl l) (hs : ∀ k : Int, 0 ≤ k → sg' k = sg k) : SRT L n i pl' sg' := by
  refine ⟨fun l a b => by rw [hp l a b]; exact h.1 l a b, fun l w a b c d => ?_⟩
  have p0 := PL_mono (L := L) (n := n) (a := 0) (b := l.toNat) (Nat.zero_le _)
  have p1 : PL L n 0 = 0 := rfl
  rw [hs _ (by omega)]
  exact h.2 l w a b c d
theorem SRT_end {L : Int → Int} {n : Nat} {pl : Int → Int} {lc ls : List Int32} (h : SRT L n n pl (gl ls)) (hc : ∀ l : Int, 1 ≤ l → l ≤ 15 → gl lc l = MY L l n) (hn : (n : Int) ≤ ls.length) : CDL lc ls L n := ⟨hc, h.2, hn⟩
theorem FRE_le (L : Int → Int) (n l : Nat) : FRE L n l ≤ P2 l := by
  induction l with
  | zero => exact (by decide : (1 : Int) ≤ P2 ((0 : Nat) : Int))
  | succ l ih =>
    have h1 := (MY_r L ((l : Int) + 1) n).1
    have h2 := P2_s (k := (l : Int)) (by omega)
    show 2 * FRE L n l - MY L ((l : Int) + 1) n ≤ P2 ((l : Int) + 1)
    omega
/-! A sign, length by length: u and x are the code and the first code of the length k, as the class has them. -/
theorem SG_hit {g : Int → Int} {e b u x k : Int} {L : Int → Int} {m : Nat} (hk : 1 ≤ k ∧ k ≤ 15) (he : b < e) (hu : u % 2 = 0) (hx : x % 2 = 0) (h : u + bt g b - x < MY L k m) : SG g e L m (16 - k).toNat b (u / 2) (x / 2) = (PK L k (u + bt g b - x) m, b + 1) := by
  rw [show (16 - k).toNat = (15 - k).toNat + 1 by omega]
  simp only [SG]
  rw [if_neg (by omega), show (15 : Int) - ((15 - k).toNat : Int) = k by omega, show 2 * (u / 2) + bt g b - 2 * (x / 2) = u + bt g b - x by omega, if_pos h]
theorem SG_miss {g : Int → Int} {e b u x k : Int} {L : Int → Int} {m : Nat} (hk : 1 ≤ k ∧ k ≤ 15) (he : b < e) (hu : u % 2 = 0) (hx : x % 2 = 0) (h : ¬ u + bt g b - x < MY L k m) : SG g e L m (16 - k).toNat b (u / 2) (x / 2) = SG g e L m (15 - k).toNat (b + 1) (u + bt g b) (x + MY L k m) := by
  rw [show (16 - k).toNat = (15 - k).toNat + 1 by omega]
  simp only [SG]
  rw [if_neg (by omega), show (15 : Int) - ((15 - k).toNat : Int) = k by omega, show 2 * (u / 2) + bt g b - 2 * (x / 2) = u + bt g b - x by omega, if_neg h, show 2 * (u / 2) + bt g b = u + bt g b by omega, show 2 * (x / 2) + MY L k m = x + MY L k m by omega]
theorem SG_end {g : Int → Int} {e b w f : Int} {L : Int → Int} {m k : Nat} (h : e ≤ b ∨ k = 0) : SG g e L m k b w f = (-1, b) := by
  cases k with
  | zero => rfl
  | succ k =>
    simp only [SG]
    rw [if_pos (by omega)]

/-! The tables. -/
def tab2 : List Int32 := [3, 4, 5, 6, 7, 8, 9, 10, 11, 13, 15, 17, 19, 23, 27, 31, 35, 43, 51, 59, 67, 83, 99, 115, 131, 163, 195, 227, 258]
def tab3 : List Int32 := [0, 0, 0, 0, 0, 0, 0, 0, 1, 1, 1, 1, 2, 2, 2, 2, 3, 3, 3, 3, 4, 4, 4, 4, 5, 5, 5, 5, 0]
def tab4 : List Int32 := [1, 2, 3, 4, 5, 7, 9, 13, 17, 25, 33, 49, 65, 97, 129, 193, 257, 385, 513, 769, 1025, 1537, 2049, 3073, 4097, 6145, 8193, 12289, 16385, 24577]
def tab5 : List Int32 := [0, 0, 0, 0, 1, 1, 2, 2, 3, 3, 4, 4, 5, 5, 6, 6, 7, 7, 8, 8, 9, 9, 10, 10, 11, 11, 12, 12, 13, 13]
def tab6 : List Int32 := [0, 498536548, 997073096, 651767980, 1994146192, 1802195444, 1303535960, 1342533948, -306674912, -267414716, -690576408, -882789492, -1687895376, -2032938284, -1609899400, -1111625188]
