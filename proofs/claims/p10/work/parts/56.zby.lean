/-! The bytes of the model's rows, as a function of its long words. -/
def mby (Lc : List Int64) (r k : Int) : Int := (((Lc.getD (1000 * r + k / 8).toNat 0) >>> ((Int32.ofInt (8 * (k % 8))).toInt64 &&& 63)).toInt32 &&& 255).toInt
/-- a row's bytes -/
def gc (Lc : List Int64) (r : Int) : Int → Int := fun k => if 0 ≤ k ∧ k < 8000 then mby Lc r k else 0
def W2 (g : Int → Int) (k : Int) : Int := g k + 256 * g (k + 1)
def W4 (g : Int → Int) (k : Int) : Int := W2 g k + 65536 * W2 g (k + 2)
def STn (g : Int → Int) (k a b : Int) : Int := if g k = 80 ∧ g (k + 1) = 75 ∧ g (k + 2) = a ∧ g (k + 3) = b then 1 else 0
theorem mby_r (Lc : List Int64) (r k : Int) : 0 ≤ mby Lc r k ∧ mby Lc r k ≤ 255 := by
  unfold mby
  have h := Jvm.Kit.i32_mask (((Lc.getD (1000 * r + k / 8).toNat 0) >>> ((Int32.ofInt (8 * (k % 8))).toInt64 &&& 63)).toInt32) 255 (k := 8) (by decide) (by decide)
  rw [h, show (2 : Int) ^ 8 = 256 from rfl]
  omega
theorem gc_r (Lc : List Int64) (r k : Int) : 0 ≤ gc Lc r k ∧ gc Lc r k ≤ 255 := by
  unfold gc
  split
  · exact mby_r Lc r k
  · omega
theorem gc_at {Lc : List Int64} {r k : Int} (h : 0 ≤ k ∧ k < 8000) : gc Lc r k = mby Lc r k := if_pos h
theorem W2_r {g : Int → Int} (h : ∀ k, 0 ≤ g k ∧ g k ≤ 255) (k : Int) : 0 ≤ W2 g k ∧ W2 g k ≤ 65535 := by
  have h1 := h k
  have h2 := h (k + 1)
  unfold W2
  omega
theorem W4_r {g : Int → Int} (h : ∀ k, 0 ≤ g k ∧ g k ≤ 255) (k : Int) : 0 ≤ W4 g k ∧ W4 g k ≤ 4294967295 := by
  have h1 := W2_r h k
  have h2 := W2_r h (k + 2)
  unfold W4
  omega
theorem bm8 (x : Int) : (x.bmod (2 ^ 32)) % 2 ^ 8 = x % 2 ^ 8 := by
  simp only [Int.bmod]
  split <;> omega
theorem T.iandw {ξ : Nat → Option (Nat × List Int32)} {d j pc : Nat} {lv : qLV} {r : List Value} {σ : qH} {Q : Option Value → qH → Prop} {a : Int} (hf : qfe j pc = some (.iand, 1)) (g : T ξ d j (pc + 1) lv (J (a % 256) :: r) σ Q) : T ξ d j pc lv (J 255 :: J a :: r) σ Q :=
  T.sim hf (show some (lv, Value.int (Int32.ofInt a &&& Int32.ofInt 255) :: r) = _ by
    rw [i32_is (x := Int32.ofInt a &&& Int32.ofInt 255) (z := a % 256)]
    rw [Jvm.Kit.i32_mask _ _ (k := 8) (by decide) (by decide), Int32.toInt_ofInt]
    exact bm8 a) g
/-- reading a byte -/
theorem s_M_get {ξ : Nat → Option (Nat × List Int32)} {c io mo fa pl ns rw en wy wh bi ed sz md bd li wk we : Int} {Lc : List Int64} {la lm ln lh ld lk lt : List Int32} (d : Nat) (x y : Int) (σ : qH) (hM : MS σ c io mo fa pl ns rw en wy wh bi ed sz md bd li wk we Lc la lm ln lh ld lk lt) (h : 0 ≤ x ∧ 0 ≤ y ∧ 1000 * x + y / 8 < 7000) : T ξ d j_M_get 0 (lv_args 0 [.ref 137, J x, J y]) [] σ (fun v σ' => ∃ (z : Int), v = some (J z) ∧ σ' = σ ∧ 0 ≤ z ∧ z ≤ 255 ∧ z = mby Lc x y) := by
  have n0 := hM.len
  refine T.go 1 (fun n9 => (rfl : _ = exe ξ n9 d j_M_get 1 [(0, .ref 137), (1, J x), (2, J y)] [.ref 137] σ)) ?_
  refine T.get rfl rfl rfl hM.ob rfl ?_
  refine T.go 2 (fun n9 => (rfl : _ = exe ξ n9 d j_M_get 8 [(0, .ref 137), (1, J x), (2, J y)] [J x, J 1000, .ref 138] σ)) ?_
  refine T.imul rfl ?_
  refine T.go 2 (fun n9 => (rfl : _ = exe ξ n9 d j_M_get 12 [(0, .ref 137), (1, J x), (2, J y)] [J 8, J y, J (1000 * x), .ref 138] σ)) ?_
  refine T.idivc (c := 8) rfl (by decide) (by omega) ?_
  refine T.iadd rfl ?_
  refine T.lald rfl hM.c138 (by omega) (fun z1 _ _ e1 => ?_)
  refine T.go 3 (fun n9 => (rfl : _ = exe ξ n9 d j_M_get 20 [(0, .ref 137), (1, J x), (2, J y)] [J 8, J y, J 8, JL z1] σ)) ?_
  refine T.iremc (c := 8) rfl (by decide) (by omega) ?_
  refine T.imul rfl ?_
  refine T.some2 rfl rfl (fun z2 _ _ e2 => ?_)
  refine T.l2i rfl ?_
  have key : ((Int64.ofInt z2).toInt32 &&& 255).toInt = z2 % 256 := by
    rw [show (Int64.ofInt z2).toInt32 = Int32.ofInt z2 by rw [← Int32.toInt_inj, Int64.toInt_toInt32, Int64.toInt_ofInt, Int32.toInt_ofInt]; exact Int.bmod_bmod_of_dvd (by decide)]
    rw [Jvm.Kit.i32_mask (Int32.ofInt z2) 255 (k := 8) (by decide) (by decide), Int32.toInt_ofInt]
    exact bm8 z2
  have hb : mby Lc x y = z2 % 256 := by
    unfold mby
    rw [e1, e2, key]
  refine T.go 1 (fun n9 => (rfl : _ = exe ξ n9 d j_M_get 27 [(0, .ref 137), (1, J x), (2, J y)] [J 255, J z2] σ)) ?_
  refine T.iandw rfl ?_
  exact T.ireti rfl rfl ⟨_, rfl, rfl, by omega, by omega, hb.symm⟩
/-- the end record: looked for from the end -/
def ER (g : Int → Int) (f : Int) : Nat → Int
  | 0 => -1
  | n + 1 => if STn g n 5 6 = 1 ∧ W2 g ((n : Int) + 20) = f - n - 22 then n else ER g f n
theorem ER_step {g : Int → Int} {f e : Int} (h : 0 ≤ e) : ER g f (e + 1).toNat = if STn g e 5 6 = 1 ∧ W2 g (e + 20) = f - e - 22 then e else ER g f e.toNat := by
  rw [show (e + 1).toNat = e.toNat + 1 by omega]
  show (if STn g (e.toNat : Int) 5 6 = 1 ∧ W2 g ((e.toNat : Int) + 20) = f - (e.toNat : Int) - 22 then (e.toNat : Int) else ER g f e.toNat) = _
  rw [Int.toNat_of_nonneg h]
theorem ER_r (g : Int → Int) (f : Int) (n : Nat) : -1 ≤ ER g f n ∧ ER g f n < n := by
  induction n with
  | zero => exact ⟨Int.le_refl _, (by decide : (-1 : Int) < 0)⟩
  | succ n ih =>
    show -1 ≤ (if _ then (n : Int) else ER g f n) ∧ (if _ then (n : Int) else ER g f n) < _
    split
    · omega
    · omega
/-- a length, a head -/
def gl (l : List Int32) (r : Int) : Int := (l.getD r.toNat 0).toInt
theorem gl_of {l : List Int32} {r z : Int} (e : l.getD r.toNat 0 = Int32.ofInt z) (h : -2147483648 ≤ z ∧ z ≤ 2147483647) : gl l r = z := by
  unfold gl
  rw [e, i32_to h]
def EN (g : Int → Int) (f : Int) : Int := ER g f (f - 21).toNat
/-- the same bytes from a and from b on, so many -/
def EQn (g : Int → Int) (a b : Int) : Nat → Int
  | 0 => 1
  | n + 1 => if EQn g a b n = 1 ∧ g (a + n) = g (b + n) then 1 else 0
theorem EQn_r (g : Int → Int) (a b : Int) (n : Nat) : 0 ≤ EQn g a b n ∧ EQn g a b n ≤ 1 := by
  cases n with
  | zero => exact ⟨(by decide : (0 : Int) ≤ 1), Int.le_refl _⟩
  | succ n =>
    show 0 ≤ (if _ then (1 : Int) else 0) ∧ (if _ then (1 : Int) else 0) ≤ 1
    split <;> omega
theorem EQn_step {g : Int → Int} {a b e : Int} (h : 0 ≤ e) : EQn g a b (e + 1).toNat = if EQn g a b e.toNat = 1 ∧ g (a + e) = g (b + e) then 1 else 0 := by
  rw [show (e + 1).toNat = e.toNat + 1 by omega]
  show (if EQn g a b e.toNat = 1 ∧ g (a + (e.toNat : Int)) = g (b + (e.toNat : Int)) then (1 : Int) else 0) = _
  rw [Int.toNat_of_nonneg h]
theorem EQn_no {g : Int → Int} {a b : Int} {m n : Nat} (h : EQn g a b m = 0) (hl : m ≤ n) : EQn g a b n = 0 := by
  induction n with
  | zero =>
    have : m = 0 := by omega
    rw [this] at h
    exact h
  | succ n ih =>
    by_cases e : m = n + 1
    · rw [← e]; exact h
    · show (if EQn g a b n = 1 ∧ _ then (1 : Int) else 0) = 0
      rw [if_neg]
      have := ih (by omega)
      omega
/-- letters from a on, so many -/
def LTn (g : Int → Int) (a : Int) : Nat → Int
  | 0 => 1
  | n + 1 => if LTn g a n = 1 ∧ 33 ≤ g (a + n) ∧ g (a + n) ≤ 126 then 1 else 0
theorem LTn_r (g : Int → Int) (a : Int) (n : Nat) : 0 ≤ LTn g a n ∧ LTn g a n ≤ 1 := by
  cases n with
  | zero => exact ⟨(by decide : (0 : Int) ≤ 1), Int.le_refl _⟩
  | succ n =>
    show 0 ≤ (if _ then (1 : Int) else 0) ∧ (if _ then (1 : Int) else 0) ≤ 1
    split <;> omega
theorem LTn_step {g : Int → Int} {a e : Int} (h : 0 ≤ e) : LTn g a (e + 1).toNat = if LTn g a e.toNat = 1 ∧ 33 ≤ g (a + e) ∧ g (a + e) ≤ 126 then 1 else 0 := by
  rw [show (e + 1).toNat = e.toNat + 1 by omega]
  show (if LTn g a e.toNat = 1 ∧ 33 ≤ g (a + (e.toNat : Int)) ∧ g (a + (e.toNat : Int)) ≤ 126 then (1 : Int) else 0) = _
  rw [Int.toNat_of_nonneg h]
theorem LTn_no {g : Int → Int} {a : Int} {m n : Nat} (h : LTn g a m = 0) (hl : m ≤ n) : LTn g a n = 0 := by
  induction n with
  | zero =>
    have : m = 0 := by omega
    rw [this] at h
    exact h
  | succ n ih =>
    by_cases e : m = n + 1
    · rw [← e]; exact h
    · show (if LTn g a n = 1 ∧ _ then (1 : Int) else 0) = 0
      rw [if_neg]
      have := ih (by omega)
      omega
def SNn (g : Int → Int) (a b : Int) : Int := if W2 g (a + 28) = W2 g (b + 28) then EQn g (a + 46) (b + 46) (W2 g (a + 28)).toNat else 0
theorem SNn_r (g : Int → Int) (a b : Int) : 0 ≤ SNn g a b ∧ SNn g a b ≤ 1 := by
  unfold SNn
  split
  · exact EQn_r g _ _ _
  · omega
/-- is the name of entry x one of those of the first ones -/
def DPn (g hs : Int → Int) (x : Int) : Nat → Int
  | 0 => 0
  | j + 1 => if DPn g hs x j = 1 ∨ SNn g (hs j) (hs x) = 1 then 1 else 0
theorem DPn_step {g hs : Int → Int} {x e : Int} (h : 0 ≤ e) : DPn g hs x (e + 1).toNat = if DPn g hs x e.toNat = 1 ∨ SNn g (hs e) (hs x) = 1 then 1 else 0 := by
  rw [show (e + 1).toNat = e.toNat + 1 by omega]
  show (if DPn g hs x e.toNat = 1 ∨ SNn g (hs (e.toNat : Int)) (hs x) = 1 then (1 : Int) else 0) = _
  rw [Int.toNat_of_nonneg h]
theorem DPn_yes {g hs : Int → Int} {x : Int} {m n : Nat} (h : DPn g hs x m = 1) (hl : m ≤ n) : DPn g hs x n = 1 := by
  induction n with
  | zero =>
    have : m = 0 := by omega
    rw [this] at h
    exact h
  | succ n ih =>
    by_cases e : m = n + 1
    · rw [← e]; exact h
    · show (if DPn g hs x n = 1 ∨ _ then (1 : Int) else 0) = 1
      rw [if_pos (Or.inl (ih (by omega)))]
theorem DPn_eq {g hs hs' : Int → Int} {x : Int} : ∀ {n : Nat}, (∀ j : Int, 0 ≤ j → j < n → hs j = hs' j) → hs x = hs' x → DPn g hs x n = DPn g hs' x n
  | 0, _, _ => rfl
  | n + 1, h, hx => by
    show (if DPn g hs x n = 1 ∨ SNn g (hs n) (hs x) = 1 then (1 : Int) else 0) = (if DPn g hs' x n = 1 ∨ SNn g (hs' n) (hs' x) = 1 then (1 : Int) else 0)
    rw [DPn_eq (n := n) (fun j a b => h j a (by omega)) hx, h n (by omega) (by omega), hx]
def NRn (g hs : Int → Int) (x : Int) : Int := if 1 ≤ W2 g (hs x + 28) ∧ W2 g (hs x + 28) ≤ 40 ∧ LTn g (hs x + 46) (W2 g (hs x + 28)).toNat = 1 ∧ DPn g hs x x.toNat = 0 then 1 else 0
theorem NRn_eq {g hs hs' : Int → Int} {x : Int} (h0 : 0 ≤ x) (h : ∀ j : Int, 0 ≤ j → j < x → hs j = hs' j) (hx : hs x = hs' x) : NRn g hs x = NRn g hs' x := by
  unfold NRn
  rw [DPn_eq (n := x.toNat) (fun j a b => h j a (by omega)) hx, hx]
/-- is the local header right: of the header h, at l, ahead of dir -/
def LRn (g : Int → Int) (h l dir : Int) : Int := if l + 30 + W2 g (h + 28) ≤ dir ∧ STn g l 3 4 = 1 ∧ W2 g (l + 26) = W2 g (h + 28) ∧ EQn g (l + 30) (h + 46) (W2 g (h + 28)).toNat = 1 ∧ l + 30 + W2 g (h + 28) + W2 g (l + 28) + W4 g (h + 20) ≤ dir then 1 else 0
def NXn (g : Int → Int) (h : Int) : Int := h + 46 + W2 g (h + 28) + W2 g (h + 30) + W2 g (h + 32)
def HS (g : Int → Int) (dir : Int) : Nat → Int
  | 0 => dir
  | k + 1 => NXn g (HS g dir k)
def hsf (g : Int → Int) (dir : Int) : Int → Int := fun k => HS g dir k.toNat
theorem hsf_step {g : Int → Int} {dir k : Int} (h : 0 ≤ k) : hsf g dir (k + 1) = NXn g (hsf g dir k) := by
  unfold hsf
  rw [show (k + 1).toNat = k.toNat + 1 by omega]
  rfl
/-- is entry k right -/
def VKn (g : Int → Int) (e dir ba k : Int) : Int := if hsf g dir k + 46 ≤ e ∧ STn g (hsf g dir k) 1 2 = 1 ∧ W2 g (hsf g dir k + 34) = 0 ∧ NXn g (hsf g dir k) ≤ e ∧ NRn g (hsf g dir) k = 1 ∧ LRn g (hsf g dir k) (ba + W4 g (hsf g dir k + 42)) dir = 1 then 1 else 0
def AVn (g : Int → Int) (e dir ba : Int) : Nat → Int
  | 0 => 1
  | k + 1 => if AVn g e dir ba k = 1 ∧ VKn g e dir ba k = 1 then 1 else 0
theorem AVn_step {g : Int → Int} {e dir ba k : Int} (h : 0 ≤ k) : AVn g e dir ba (k + 1).toNat = if AVn g e dir ba k.toNat = 1 ∧ VKn g e dir ba k = 1 then 1 else 0 := by
  rw [show (k + 1).toNat = k.toNat + 1 by omega]
  show (if AVn g e dir ba k.toNat = 1 ∧ VKn g e dir ba (k.toNat : Int) = 1 then (1 : Int) else 0) = _
  rw [Int.toNat_of_nonneg h]
theorem AVn_no {g : Int → Int} {e dir ba : Int} {m n : Nat} (h : AVn g e dir ba m = 0) (hl : m ≤ n) : AVn g e dir ba n = 0 := by
  induction n with
  | zero =>
    have : m = 0 := by omega
    rw [this] at h
    exact h
  | succ n ih =>
    by_cases e9 : m = n + 1
    · rw [← e9]; exact h
    · show (if AVn g e dir ba n = 1 ∧ _ then (1 : Int) else 0) = 0
      rw [if_neg]
      have := ih (by omega)
      omega
/-- is it an archive -/
def FOn (g : Int → Int) (f : Int) : Int := if 0 ≤ EN g f ∧ W2 g (EN g f + 4) = 0 ∧ W2 g (EN g f + 6) = 0 ∧ W2 g (EN g f + 8) = W2 g (EN g f + 10) ∧ W2 g (EN g f + 8) ≤ 64 ∧ 0 ≤ EN g f - W4 g (EN g f + 12) ∧ 0 ≤ EN g f - W4 g (EN g f + 12) - W4 g (EN g f + 16) ∧ AVn g (EN g f) (EN g f - W4 g (EN g f + 12)) (EN g f - W4 g (EN g f + 12) - W4 g (EN g f + 16)) (W2 g (EN g f + 8)).toNat = 1 ∧ hsf g (EN g f - W4 g (EN g f + 12)) (W2 g (EN g f + 8)) = EN g f then 1 else 0
theorem gl_set {l : List Int32} {x y j : Int} (hx : 0 ≤ x ∧ x < l.length) (hy : -2147483648 ≤ y ∧ y ≤ 2147483647) (hj : 0 ≤ j) : gl (l.set x.toNat (Int32.ofInt y)) j = if j = x then y else gl l j := by
  unfold gl
  rw [List.getD_eq_getElem?_getD]
  by_cases e : j = x
  · subst e
    rw [if_pos rfl, List.getElem?_set_self (by omega), Option.getD_some, i32_to hy]
  · rw [if_neg e, List.getElem?_set_ne (by omega), ← List.getD_eq_getElem?_getD]
