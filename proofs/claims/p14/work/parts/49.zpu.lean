/-! What an archive is, as a function of its bytes. -/
def W2 (g : Int → Int) (k : Int) : Int := g k + 256 * g (k + 1)
def W4 (g : Int → Int) (k : Int) : Int := W2 g k + 65536 * W2 g (k + 2)
def STn (g : Int → Int) (k a b : Int) : Int := if g k = 80 ∧ g (k + 1) = 75 ∧ g (k + 2) = a ∧ g (k + 3) = b then 1 else 0
theorem W2_r {g : Int → Int} (h : ∀ k, 0 ≤ g k ∧ g k ≤ 255) (k : Int) : 0 ≤ W2 g k ∧ W2 g k ≤ 65535 := by
  have h1 := h k
  have h2 := h (k + 1)
  unfold W2
  omega
theorem W4_r {g : Int → Int} (h : ∀ k, 0 ≤ g k ∧ g k ≤ 255) (k : Int) : 0 ≤ W4 g k ∧ W4 g k ≤ 4294967295 := by
  have h1 := W2_r h k
  have h2 := W2_r h (k + 2)
  unfold W4
  omega
/-- the end record: looked for from the end -/
def ER (g : Int → Int) (f : Int) : Nat → Int
  | 0 => -1
  | n + 1 => if STn g n 5 6 = 1 ∧ W2 g ((n : Int) + 20) = f - n - 22 then n else ER g f n
theorem ER_step {g : Int → Int} {f e : Int} (h : 0 ≤ e) : ER g f (e + 1).toNat = if STn g e 5 6 = 1 ∧ W2 g (e + 20) = f - e - 22 then e else ER g f e.toNat := by
  rw [show (e + 1).toNat = e.toNat + 1 by omega]
  show (if STn g (e.toNat : Int) 5 6 = 1 ∧ W2 g ((e.toNat : Int) + 20) = f - (e.toNat : Int) - 22 then (e.toNat : Int) else ER g f e.toNat) = _
  rw [Int.toNat_of_nonneg h]
theorem ER_r (g : Int → Int) (f : Int) (n : Nat) : -1 ≤ ER g f n ∧ ER g f n < n := by
  induction n with
  | zero => exact ⟨Int.le_refl _, (by decide : (-1 : Int) < 0)⟩
  | succ n ih =>
    show -1 ≤ (if _ then (n : Int) else ER g f n) ∧ (if _ then (n : Int) else ER g f n) < _
    split
    · omega
    · omega
def EN (g : Int → Int) (f : Int) : Int := ER g f (f - 21).toNat
/-- the same bytes from a and from b on, so many -/
def EQn (g : Int → Int) (a b : Int) : Nat → Int
  | 0 => 1
  | n + 1 => if EQn g a b n = 1 ∧ g (a + n) = g (b + n) then 1 else 0
theorem EQn_step {g : Int → Int} {a b e : Int} (h : 0 ≤ e) : EQn g a b (e + 1).toNat = if EQn g a b e.toNat = 1 ∧ g (a + e) = g (b + e) then 1 else 0 := by
  rw [show (e + 1).toNat = e.toNat + 1 by omega]
  show (if EQn g a b e.toNat = 1 ∧ g (a + (e.toNat : Int)) = g (b + (e.toNat : Int)) then (1 : Int) else 0) = _
  rw [Int.toNat_of_nonneg h]
theorem EQn_no {g : Int → Int} {a b : Int} {m n : Nat} (h : EQn g a b m = 0) (hl : m ≤ n) : EQn g a b n = 0 := by
  induction n with
  | zero =>
    have : m = 0 := by omega
    rw [this] at h
    exact h
  | succ n ih =>
    by_cases e : m = n + 1
    · rw [← e]; exact h
    · show (if EQn g a b n = 1 ∧ _ then (1 : Int) else 0) = 0
      rw [if_neg]
      have := ih (by omega)
      omega
/-- letters from a on, so many -/
def LTn (g : Int → Int) (a : Int) : Nat → Int
  | 0 => 1
  | n + 1 => if LTn g a n = 1 ∧ 33 ≤ g (a + n) ∧ g (a + n) ≤ 126 then 1 else 0
theorem LTn_step {g : Int → Int} {a e : Int} (h : 0 ≤ e) : LTn g a (e + 1).toNat = if LTn g a e.toNat = 1 ∧ 33 ≤ g (a + e) ∧ g (a + e) ≤ 126 then 1 else 0 := by
  rw [show (e + 1).toNat = e.toNat + 1 by omega]
  show (if LTn g a e.toNat = 1 ∧ 33 ≤ g (a + (e.toNat : Int)) ∧ g (a + (e.toNat : Int)) ≤ 126 then (1 : Int) else 0) = _
  rw [Int.toNat_of_nonneg h]
theorem LTn_no {g : Int → Int} {a : Int} {m n : Nat} (h : LTn g a m = 0) (hl : m ≤ n) : LTn g a n = 0 := by
  induction n with
  | zero =>
    have : m = 0 := by omega
    rw [this] at h
    exact h
  | succ n ih =>
    by_cases e : m = n + 1
    · rw [← e]; exact h
    · show (if LTn g a n = 1 ∧ _ then (1 : Int) else 0) = 0
      rw [if_neg]
      have := ih (by omega)
      omega
def SNn (g : Int → Int) (a b : Int) : Int := if W2 g (a + 28) = W2 g (b + 28) then EQn g (a + 46) (b + 46) (W2 g (a + 28)).toNat else 0
/-- is the name of entry x one of those of the first ones -/
def DPn (g hs : Int → Int) (x : Int) : Nat → Int
  | 0 => 0
  | j + 1 => if DPn g hs x j = 1 ∨ SNn g (hs j) (hs x) = 1 then 1 else 0
theorem DPn_step {g hs : Int → Int} {x e : Int} (h : 0 ≤ e) : DPn g hs x (e + 1).toNat = if DPn g hs x e.toNat = 1 ∨ SNn g (hs e) (hs x) = 1 then 1 else 0 := by
  rw [show (e + 1).toNat = e.toNat + 1 by omega]
  show (if DPn g hs x e.toNat = 1 ∨ SNn g (hs (e.toNat : Int)) (hs x) = 1 then (1 : Int) else 0) = _
  rw [Int.toNat_of_nonneg h]
theorem DPn_yes {g hs : Int → Int} {x : Int} {m n : Nat} (h : DPn g hs x m = 1) (hl : m ≤ n) : DPn g hs x n = 1 := by
  induction n with
  | zero =>
    have : m = 0 := by omega
    rw [this] at h
    exact h
  | succ n ih =>
    by_cases e : m = n + 1
    · rw [← e]; exact h
    · show (if DPn g hs x n = 1 ∨ _ then (1 : Int) else 0) = 1
      rw [if_pos (Or.inl (ih (by omega)))]
theorem DPn_eq {g hs hs' : Int → Int} {x : Int} : ∀ {n : Nat}, (∀ j : Int, 0 ≤ j → j < n → hs j = hs' j) → hs x = hs' x → DPn g hs x n = DPn g hs' x n
  | 0, _, _ => rfl
  | n + 1, h, hx => by
    show (if DPn g hs x n = 1 ∨ SNn g (hs n) (hs x) = 1 then (1 : Int) else 0) = (if DPn g hs' x n = 1 ∨ SNn g (hs' n) (hs' x) = 1 then (1 : Int) else 0)
    rw [DPn_eq (n := n) (fun j a b => h j a (by omega)) hx, h n (by omega) (by omega), hx]
def NRn (g hs : Int → Int) (x : Int) : Int := if 1 ≤ W2 g (hs x + 28) ∧ W2 g (hs x + 28) ≤ 40 ∧ LTn g (hs x + 46) (W2 g (hs x + 28)).toNat = 1 ∧ DPn g hs x x.toNat = 0 then 1 else 0
theorem NRn_eq {g hs hs' : Int → Int} {x : Int} (h0 : 0 ≤ x) (h : ∀ j : Int, 0 ≤ j → j < x → hs j = hs' j) (hx : hs x = hs' x) : NRn g hs x = NRn g hs' x := by
  unfold NRn
  rw [DPn_eq (n := x.toNat) (fun j a b => h j a (by omega)) hx, hx]
/-- is the local header right: of the header h, at l, ahead of dir -/
def LRn (g : Int → Int) (h l dir : Int) : Int := if l + 30 + W2 g (h + 28) ≤ dir ∧ STn g l 3 4 = 1 ∧ W2 g (l + 26) = W2 g (h + 28) ∧ EQn g (l + 30) (h + 46) (W2 g (h + 28)).toNat = 1 ∧ l + 30 + W2 g (h + 28) + W2 g (l + 28) + W4 g (h + 20) ≤ dir then 1 else 0
def NXn (g : Int → Int) (h : Int) : Int := h + 46 + W2 g (h + 28) + W2 g (h + 30) + W2 g (h + 32)
def HS (g : Int → Int) (dir : Int) : Nat → Int
  | 0 => dir
  | k + 1 => NXn g (HS g dir k)
def hsf (g : Int → Int) (dir : Int) : Int → Int := fun k => HS g dir k.toNat
theorem hsf_step {g : Int → Int} {dir k : Int} (h : 0 ≤ k) : hsf g dir (k + 1) = NXn g (hsf g dir k) := by
  unfold hsf
  rw [show (k + 1).toNat = k.toNat + 1 by omega]
  rfl
/-- is entry k right -/
def VKn (g : Int → Int) (e dir ba k : Int) : Int := if hsf g dir k + 46 ≤ e ∧ STn g (hsf g dir k) 1 2 = 1 ∧ W2 g (hsf g dir k + 34) = 0 ∧ NXn g (hsf g dir k) ≤ e ∧ NRn g (hsf g dir) k = 1 ∧ LRn g (hsf g dir k) (ba + W4 g (hsf g dir k + 42)) dir = 1 then 1 else 0
def AVn (g : Int → Int) (e dir ba : Int) : Nat → Int
  | 0 => 1
  | k + 1 => if AVn g e dir ba k = 1 ∧ VKn g e dir ba k = 1 then 1 else 0
theorem AVn_step {g : Int → Int} {e dir ba k : Int} (h : 0 ≤ k) : AVn g e dir ba (k + 1).toNat = if AVn g e dir ba k.toNat = 1 ∧ VKn g e dir ba k = 1 then 1 else 0 := by
  rw [show (k + 1).toNat = k.toNat + 1 by omega]
  show (if AVn g e dir ba k.toNat = 1 ∧ VKn g e dir ba (k.toNat : Int) = 1 then (1 : Int) else 0) = _
  rw [Int.toNat_of_nonneg h]
theorem AVn_no {g : Int → Int} {e dir ba : Int} {m n : Nat} (h : AVn g e dir ba m = 0) (hl : m ≤ n) : AVn g e dir ba n = 0 := by
  induction n with
  | zero =>
    have : m = 0 := by omega
    rw [this] at h
    exact h
  | succ n ih =>
    by_cases e9 : m = n + 1
    · rw [← e9]; exact h
    · show (if AVn g e dir ba n = 1 ∧ _ then (1 : Int) else 0) = 0
      rw [if_neg]
      have := ih (by omega)
      omega
/-- is it an archive -/
def FOn (g : Int → Int) (f : Int) : Int := if 0 ≤ EN g f ∧ W2 g (EN g f + 4) = 0 ∧ W2 g (EN g f + 6) = 0 ∧ W2 g (EN g f + 8) = W2 g (EN g f + 10) ∧ W2 g (EN g f + 8) ≤ 64 ∧ 0 ≤ EN g f - W4 g (EN g f + 12) ∧ 0 ≤ EN g f - W4 g (EN g f + 12) - W4 g (EN g f + 16) ∧ AVn g (EN g f) (EN g f - W4 g (EN g f + 12)) (EN g f - W4 g (EN g f + 12) - W4 g (EN g f + 16)) (W2 g (EN g f + 8)).toNat = 1 ∧ hsf g (EN g f - W4 g (EN g f + 12)) (W2 g (EN g f + 8)) = EN g f then 1 else 0
theorem gl_of {l : List Int32} {r z : Int} (e : l.getD r.toNat 0 = Int32.ofInt z) (h : -2147483648 ≤ z ∧ z ≤ 2147483647) : gl l r = z := by
  unfold gl
  rw [e, i32_to h]
theorem gl_set {l : List Int32} {x y j : Int} (hx : 0 ≤ x ∧ x < l.length) (hy : -2147483648 ≤ y ∧ y ≤ 2147483647) (hj : 0 ≤ j) : gl (l.set x.toNat (Int32.ofInt y)) j = if j = x then y else gl l j := by
  unfold gl
  rw [List.getD_eq_getElem?_getD]
  by_cases e : j = x
  · subst e
    rw [if_pos rfl, List.getElem?_set_self (by omega), Option.getD_some, i32_to hy]
  · rw [if_neg e, List.getElem?_set_ne (by omega), ← List.getD_eq_getElem?_getD]
/-- the same bytes of two rows -/
def EQ2 (g h : Int → Int) (a b : Int) : Nat → Int
  | 0 => 1
  | n + 1 => if EQ2 g h a b n = 1 ∧ g (a + n) = h (b + n) then 1 else 0
theorem EQ2_step {g h : Int → Int} {a b e : Int} (he : 0 ≤ e) : EQ2 g h a b (e + 1).toNat = if EQ2 g h a b e.toNat = 1 ∧ g (a + e) = h (b + e) then 1 else 0 := by
  rw [show (e + 1).toNat = e.toNat + 1 by omega]
  show (if EQ2 g h a b e.toNat = 1 ∧ g (a + (e.toNat : Int)) = h (b + (e.toNat : Int)) then (1 : Int) else 0) = _
  rw [Int.toNat_of_nonneg he]
theorem EQ2_no {g h : Int → Int} {a b : Int} {m n : Nat} (e : EQ2 g h a b m = 0) (hl : m ≤ n) : EQ2 g h a b n = 0 := by
  induction n with
  | zero =>
    have : m = 0 := by omega
    rw [this] at e
    exact e
  | succ n ih =>
    by_cases q : m = n + 1
    · rw [← q]; exact e
    · show (if EQ2 g h a b n = 1 ∧ _ then (1 : Int) else 0) = 0
      rw [if_neg]
      have := ih (by omega)
      omega
theorem EQ2_self {g : Int → Int} {a b : Int} : ∀ n : Nat, EQ2 g g a b n = EQn g a b n
  | 0 => rfl
  | n + 1 => by
    show (if EQ2 g g a b n = 1 ∧ g (a + n) = g (b + n) then (1 : Int) else 0) = (if EQn g a b n = 1 ∧ g (a + n) = g (b + n) then (1 : Int) else 0)
    rw [EQ2_self n]
/-- the header of one more entry -/
def hsx (hs : Int → Int) (e x : Int) : Int → Int := fun j => if j = e then x else hs j
/-- the first entry with that name, among so many -/
def LK (g h hs : Int → Int) (x n : Int) : Nat → Int
  | 0 => -1
  | j + 1 => if LK g h hs x n j ≠ -1 then LK g h hs x n j else if W2 g (hs j + 28) = n ∧ EQ2 g h (hs j + 46) x n.toNat = 1 then j else -1
theorem LK_step {g h hs : Int → Int} {x n e : Int} (he : 0 ≤ e) : LK g h hs x n (e + 1).toNat = if LK g h hs x n e.toNat ≠ -1 then LK g h hs x n e.toNat else if W2 g (hs e + 28) = n ∧ EQ2 g h (hs e + 46) x n.toNat = 1 then e else -1 := by
  rw [show (e + 1).toNat = e.toNat + 1 by omega]
  show (if LK g h hs x n e.toNat ≠ -1 then LK g h hs x n e.toNat else if W2 g (hs (e.toNat : Int) + 28) = n ∧ EQ2 g h (hs (e.toNat : Int) + 46) x n.toNat = 1 then (e.toNat : Int) else -1) = _
  rw [Int.toNat_of_nonneg he]
theorem LK_yes {g h hs : Int → Int} {x n v : Int} {m k : Nat} (e : LK g h hs x n m = v) (hv : v ≠ -1) (hl : m ≤ k) : LK g h hs x n k = v := by
  induction k with
  | zero =>
    have : m = 0 := by omega
    rw [← this]
    exact e
  | succ k ih =>
    by_cases q : m = k + 1
    · rw [← q]; exact e
    · have := ih (by omega)
      show (if LK g h hs x n k ≠ -1 then LK g h hs x n k else _) = v
      rw [if_pos (by rw [this]; exact hv), this]
theorem DPn_r (g hs : Int → Int) (x : Int) (n : Nat) : DPn g hs x n = 0 ∨ DPn g hs x n = 1 := by
  cases n with
  | zero => exact Or.inl rfl
  | succ n =>
    show (if _ then (1 : Int) else 0) = 0 ∨ (if _ then (1 : Int) else 0) = 1
    split
    · exact Or.inr rfl
    · exact Or.inl rfl
/-- no entry with that name: the same said otherwise -/
theorem LK_dp {g hs : Int → Int} {e x : Int} (he : 0 ≤ e) : ∀ m : Nat, (m : Int) ≤ e → (LK g g hs (x + 46) (W2 g (x + 28)) m = -1 ↔ DPn g (hsx hs e x) e m = 0)
  | 0, _ => ⟨fun _ => rfl, fun _ => rfl⟩
  | m + 1, hm => by
    have ih := LK_dp (g := g) (hs := hs) (x := x) he m (by omega)
    have e1 : hsx hs e x m = hs m := if_neg (by omega)
    have e2 : hsx hs e x e = x := if_pos rfl
    show (if LK g g hs (x + 46) (W2 g (x + 28)) m ≠ -1 then LK g g hs (x + 46) (W2 g (x + 28)) m else if W2 g (hs m + 28) = W2 g (x + 28) ∧ EQ2 g g (hs m + 46) (x + 46) (W2 g (x + 28)).toNat = 1 then (m : Int) else -1) = -1 ↔ (if DPn g (hsx hs e x) e m = 1 ∨ SNn g (hsx hs e x m) (hsx hs e x e) = 1 then (1 : Int) else 0) = 0
    rw [e1, e2, EQ2_self]
    have h4 : SNn g (hs m) x = 1 ↔ (W2 g (hs m + 28) = W2 g (x + 28) ∧ EQn g (hs m + 46) (x + 46) (W2 g (x + 28)).toNat = 1) := by
      unfold SNn
      by_cases q : W2 g (hs m + 28) = W2 g (x + 28)
      · rw [if_pos q, q]
        exact ⟨fun z => ⟨rfl, z⟩, fun z => z.2⟩
      · rw [if_neg q]
        exact ⟨fun z => absurd z (by decide), fun z => absurd z.1 q⟩
    have h5 := DPn_r g (hsx hs e x) e m
    by_cases q : LK g g hs (x + 46) (W2 g (x + 28)) m = -1
    · rw [if_neg (fun z => z q)]
      have d := ih.mp q
      by_cases u : W2 g (hs m + 28) = W2 g (x + 28) ∧ EQn g (hs m + 46) (x + 46) (W2 g (x + 28)).toNat = 1
      · rw [if_pos u, if_pos (Or.inr (h4.mpr u))]
        exact ⟨fun z => by omega, fun z => by omega⟩
      · rw [if_neg u, if_neg (fun z => by
          rcases z with z | z
          · omega
          · exact u (h4.mp z))]
        exact ⟨fun _ => rfl, fun _ => rfl⟩
    · rw [if_pos q]
      have d : DPn g (hsx hs e x) e m = 1 := by
        rcases h5 with h5 | h5
        · exact absurd (ih.mpr h5) q
        · exact h5
      rw [if_pos (Or.inl d)]
      exact ⟨fun z => absurd z q, fun z => by omega⟩
theorem EN_le (g : Int → Int) (f : Int) : -1 ≤ EN g f ∧ (0 ≤ EN g f → EN g f + 22 ≤ f) := by
  unfold EN
  have := ER_r g f (f - 21).toNat
  omega
