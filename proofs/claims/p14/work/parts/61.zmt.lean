/-! The model's unpacking: what it stands on. -/
/-- lengths of codes, from a place on -/
def lkf (l : List Int32) (x : Int) : Int → Int := fun k => gl l (x + k)
/-- the bytes made, nothing beyond -/
def nm (Lc : List Int64) (m : Int) : Int → Int := fun k => if 0 ≤ k ∧ k < m then gc Lc 4 k else 0
theorem nmB_0 {Lc : List Int64} : nm Lc 0 = fun _ => 0 := by
  funext k
  unfold nm
  rw [if_neg (by omega)]
theorem nm_put {A B : List Int64} {m v : Int} (hm : 0 ≤ m) (h : gc B 4 = updG (gc A 4) m v) : nm B (m + 1) = updG (nm A m) m v := by
  funext k
  show (if 0 ≤ k ∧ k < m + 1 then gc B 4 k else 0) = (if k = m then v else (if 0 ≤ k ∧ k < m then gc A 4 k else 0))
  rw [h]
  show (if 0 ≤ k ∧ k < m + 1 then (if k = m then v else gc A 4 k) else 0) = _
  by_cases e : k = m
  · rw [if_pos (show 0 ≤ k ∧ k < m + 1 by omega), if_pos e, if_pos e]
  · by_cases c : 0 ≤ k ∧ k < m
    · rw [if_pos (show 0 ≤ k ∧ k < m + 1 by omega), if_neg e, if_neg e, if_pos c]
    · rw [if_neg (show ¬ (0 ≤ k ∧ k < m + 1) by omega), if_neg e, if_neg c]
theorem nm_at {Lc : List Int64} {m k : Int} (h : 0 ≤ k ∧ k < m) : nm Lc m k = gc Lc 4 k := if_pos h
/-- unpacking in the model has come to u, or it is bad -/
def MR (bd bi md : Int) (o : Int → Int) (u : US) : Prop := (bd = 0 ∧ u.1 = true ∧ bi = u.2.1 ∧ md = u.2.2.1 ∧ o = u.2.2.2) ∨ (bd = 1 ∧ u.1 = false)
theorem MR_yes {bd bi md : Int} {o : Int → Int} {u v : US} (h : bd = 0) (h1 : (true, bi, md, o) = v) (e : v = u) : MR bd bi md o u := by
  subst h1
  subst e
  exact Or.inl ⟨h, rfl, rfl, rfl, rfl⟩
theorem MR_no {bd bi md : Int} {o : Int → Int} {u : US} (h : bd = 1) (e : u.1 = false) : MR bd bi md o u := Or.inr ⟨h, e⟩
theorem bt_k {g : Int → Int} {b k p : Int} (h : b % 8 = 0) (hk : 0 ≤ k ∧ k < 8) (hp : P2 k = p) : bt g (b + k) = g (b / 8) / p % 2 := by
  unfold bt
  rw [show (b + k) / 8 = b / 8 by omega, show (b + k) % 8 = k by omega, hp]
/-- eight bits at a byte's place are the byte -/
theorem BV_8 {g : Int → Int} {b : Int} (h : b % 8 = 0) (hg : 0 ≤ g (b / 8) ∧ g (b / 8) ≤ 255) : BV g b 8 = g (b / 8) := by
  show 0 + bt g (b + 0) * P2 0 + bt g (b + 1) * P2 1 + bt g (b + 2) * P2 2 + bt g (b + 3) * P2 3 + bt g (b + 4) * P2 4 + bt g (b + 5) * P2 5 + bt g (b + 6) * P2 6 + bt g (b + 7) * P2 7 = g (b / 8)
  rw [bt_k h (by decide) (show P2 0 = 1 by decide), bt_k h (by decide) (show P2 1 = 2 by decide), bt_k h (by decide) (show P2 2 = 4 by decide), bt_k h (by decide) (show P2 3 = 8 by decide), bt_k h (by decide) (show P2 4 = 16 by decide), bt_k h (by decide) (show P2 5 = 32 by decide), bt_k h (by decide) (show P2 6 = 64 by decide), bt_k h (by decide) (show P2 7 = 128 by decide)]
  have e0 : P2 0 = 1 := by decide
  have e1 : P2 1 = 2 := by decide
  have e2 : P2 2 = 4 := by decide
  have e3 : P2 3 = 8 := by decide
  have e4 : P2 4 = 16 := by decide
  have e5 : P2 5 = 32 := by decide
  have e6 : P2 6 = 64 := by decide
  have e7 : P2 7 = 128 := by decide
  rw [e0, e1, e2, e3, e4, e5, e6, e7]
  omega
theorem PK_at {L : Int → Int} {l w k : Int} {n : Nat} (h0 : 0 ≤ k) (hk : k < n) (hL : L k = l) (hw : MY L l k.toNat = w) : PK L l w n = k := by
  induction n with
  | zero => omega
  | succ n ih =>
    show (if L n = l ∧ MY L l n = w then (n : Int) else PK L l w n) = k
    by_cases e : k = n
    · subst e
      rw [if_pos ⟨hL, hw⟩]
    · have h1 := MY_step (L := L) (l := l) h0
      rw [if_pos hL] at h1
      have h2 := MY_mono (L := L) (l := l) (i := (k + 1).toNat) (n := n) (by omega)
      rw [if_neg (fun q => by have := q.2; omega)]
      exact ih (by omega)
/-! Lengths that are the same: the same signs. -/
theorem SG_congr {g : Int → Int} {e : Int} {L L' : Int → Int} {n : Nat} (h : ∀ k : Int, 0 ≤ k → k < n → L k = L' k) (k : Nat) : ∀ b w f : Int, SG g e L n k b w f = SG g e L' n k b w f := by
  induction k with
  | zero => intro b w f; rfl
  | succ k ih =>
    intro b w f
    simp only [SG]
    rw [MY_congr h, PK_congr h, ih]
theorem CB_congr {g : Int → Int} {e size : Int} {L L' : Int → Int} {n : Nat} (h : ∀ k : Int, 0 ≤ k → k < n → L k = L' k) (s b m : Int) (o : Int → Int) : CB g e size L n s b m o = CB g e size L' n s b m o := by
  unfold CB
  rw [SG_congr h]
theorem OS_congr {g : Int → Int} {e size : Int} {L L' : Int → Int} {n : Nat} (h : ∀ k : Int, 0 ≤ k → k < n → L k = L' k) (s : Int × Int) (m : Int) (o : Int → Int) : OS g e size L n s m o = OS g e size L' n s m o := by
  unfold OS
  rw [CB_congr h]
theorem FS_congr {g : Int → Int} {e size : Int} {L1 L1' L2 L2' : Int → Int} {n1 n2 : Nat} (h1 : ∀ k : Int, 0 ≤ k → k < n1 → L1 k = L1' k) (h2 : ∀ k : Int, 0 ≤ k → k < n2 → L2 k = L2' k) (k : Nat) : ∀ (b m : Int) (o : Int → Int), FS g e size L1 n1 L2 n2 k b m o = FS g e size L1' n1 L2' n2 k b m o := by
  induction k with
  | zero => intro b m o; rfl
  | succ k ih =>
    intro b m o
    simp only [FS]
    rw [SG_congr h1, OS_congr h2, ih]
theorem SGm_hit {g : Int → Int} {e b w f k : Int} {L : Int → Int} {m : Nat} (hk : 1 ≤ k ∧ k ≤ 15) (he : b < e) (h : 2 * w + bt g b - 2 * f < MY L k m) : SG g e L m (16 - k).toNat b w f = (PK L k (2 * w + bt g b - 2 * f) m, b + 1) := by
  rw [show (16 - k).toNat = (15 - k).toNat + 1 by omega]
  simp only [SG]
  rw [if_neg (by omega), show (15 : Int) - ((15 - k).toNat : Int) = k by omega, if_pos h]
theorem SGm_miss {g : Int → Int} {e b w f k : Int} {L : Int → Int} {m : Nat} (hk : 1 ≤ k ∧ k ≤ 15) (he : b < e) (h : ¬ 2 * w + bt g b - 2 * f < MY L k m) : SG g e L m (16 - k).toNat b w f = SG g e L m (16 - (k + 1)).toNat (b + 1) (2 * w + bt g b) (2 * f + MY L k m) := by
  rw [show (16 - k).toNat = (15 - k).toNat + 1 by omega, show (16 - (k + 1)).toNat = (15 - k).toNat by omega]
  simp only [SG]
  rw [if_neg (by omega), show (15 : Int) - ((15 - k).toNat : Int) = k by omega, if_neg h]
theorem SGm_end {g : Int → Int} {e b w f : Int} {L : Int → Int} {m k : Nat} {s : Int × Int} (h : e ≤ b ∨ k = 0) (hs : SG g e L m k b w f = s) : s.1 < 0 := by
  rw [← hs, SG_end h]
  exact (by decide : (-1 : Int) < 0)
theorem SGm_yes {x y b1 z : Int} {s : Int × Int} {bd : Int} (hs : (x, y) = s) (h0 : 0 ≤ x) (hz : z = x) (hb : b1 = y) (hd : bd = 0) : (0 ≤ s.1 ∧ z = s.1 ∧ b1 = s.2 ∧ bd = 0) ∨ (s.1 < 0 ∧ bd = 1) := by
  subst hs
  exact Or.inl ⟨h0, hz, hb, hd⟩
/-! Lengths told, in the model's two rows. -/
def gw2 (l : List Int32) (x m : Int) : Int → Int := fun j => if 0 ≤ j ∧ j < m then gl l (if j < x then j else 300 + j - x) else 0
theorem gw2_0 (l : List Int32) (x : Int) : gw2 l x 0 = fun _ => 0 := by
  funext j
  unfold gw2
  rw [if_neg (by omega)]
theorem gw2_put {l l' : List Int32} {x a p v : Int} (h : ∀ t : Int, 0 ≤ t → gl l' t = if t = p then v else gl l t) (ha : 0 ≤ a) (hx : 0 ≤ x ∧ x ≤ 300) (hp : (a < x ∧ p = a) ∨ (x ≤ a ∧ p = 300 + a - x)) : gw2 l' x (a + 1) = updG (gw2 l x a) a v := by
  funext j
  show (if 0 ≤ j ∧ j < a + 1 then gl l' (if j < x then j else 300 + j - x) else 0) = (if j = a then v else (if 0 ≤ j ∧ j < a then gl l (if j < x then j else 300 + j - x) else 0))
  by_cases e : j = a
  · subst e
    rw [if_pos (by omega), if_pos rfl, h _ (by split <;> omega), if_pos]
    split <;> omega
  · rw [if_neg e]
    by_cases c : 0 ≤ j ∧ j < a
    · rw [if_pos (by omega), if_pos c, h _ (by split <;> omega), if_neg]
      split <;> omega
    · rw [if_neg (by omega), if_neg c]
theorem FILL_0 (L : Int → Int) (a v : Int) : FILL L a 0 v = L := by
  funext j
  unfold FILL
  rw [if_neg (by omega)]
theorem FILL_step {L : Int → Int} {a k v : Int} (h : 0 ≤ k) : FILL L a (k + 1) v = updG (FILL L a k v) (a + k) v := by
  funext j
  show (if a ≤ j ∧ j < a + (k + 1) then v else L j) = (if j = a + k then v else (if a ≤ j ∧ j < a + k then v else L j))
  by_cases e : j = a + k
  · rw [if_pos (by omega), if_pos e]
  · rw [if_neg e]
    by_cases c : a ≤ j ∧ j < a + k
    · rw [if_pos (by omega), if_pos c]
    · rw [if_neg (by omega), if_neg c]
theorem tLe_r (s : Int) : 1 ≤ tLe s := by
  unfold tLe
  split
  · omega
  split <;> omega
theorem TL_irr {g : Int → Int} {e : Int} {C : Int → Int} {n : Int} (k : Nat) : ∀ (k' : Nat) (a b : Int) (L : Int → Int), n - a ≤ k → n - a ≤ k' → TL g e C n k a b L = TL g e C n k' a b L := by
  induction k with
  | zero =>
    intro k' a b L h1 h2
    rw [TL_end (by omega), TL_end (by omega)]
  | succ k ih =>
    intro k' a b L h1 h2
    cases k' with
    | zero => rw [TL_end (by omega), TL_end (by omega)]
    | succ k' =>
      simp only [TL]
      generalize SG g e C 19 15 b 0 0 = s
      by_cases c1 : n ≤ a
      · rw [if_pos c1, if_pos c1]
      rw [if_neg c1, if_neg c1]
      by_cases c2 : s.1 < 0 ∨ (s.1 = 16 ∧ a = 0) ∨ e < s.2 + tBi s.1 ∨ n - a < tLe s.1 + BV g s.2 (tBi s.1).toNat
      · rw [if_pos c2, if_pos c2]
      rw [if_neg c2, if_neg c2]
      have h3 := tLe_r s.1
      have h4 := (BV_r g s.2 (tBi s.1).toNat).1
      exact ih k' _ _ _ (by omega) (by omega)
def TC (g : Int → Int) (b : Int) : Int → Int := CQ g (b + 4) (4 + BV g b 4).toNat
def TT (g : Int → Int) (e n b : Int) : Bool × Int × (Int → Int) := TL g e (TC g b) n n.toNat 0 (b + 4 + 3 * (4 + BV g b 4)) (fun _ => 0)
def TG (g : Int → Int) (e n b : Int) : Prop := b + 4 ≤ e ∧ b + 4 + 3 * (4 + BV g b 4) ≤ e ∧ OKQ (TC g b) 19 ∧ (TT g e n b).1 = true
theorem TQ_TT (g : Int → Int) (e b : Int) : TQ g e b = TT g e (hlQ g b + hdQ g b) (b + 10) := by
  unfold TQ TT TC hcQ
  rw [show b + 10 + 4 = b + 14 by omega]
theorem TL_one {g : Int → Int} {e : Int} {C : Int → Int} {n a b t v : Int} {L : Int → Int} {W : Int × Int} {R : Bool × Int × (Int → Int)} (hR : TL g e C n (n - a).toNat a b L = R) (hW : SG g e C 19 15 b 0 0 = W) (h : a < n) (h1 : 0 ≤ W.1) (h2 : ¬ (W.1 = 16 ∧ a = 0)) (h3 : W.2 + tBi W.1 ≤ e) (ht : t = tLe W.1 + BV g W.2 (tBi W.1).toNat) (h4 : t ≤ n - a) (hv : v = tVa L a W.1) : TL g e C n (n - (a + t)).toNat (a + t) (W.2 + tBi W.1) (FILL L a t v) = R := by
  have h5 := tLe_r W.1
  have h6 := (BV_r g W.2 (tBi W.1).toNat).1
  rw [← hR, show (n - a).toNat = (n - a - 1).toNat + 1 by omega, TL_on hW (by omega) h1 h2 h3 (by omega), ← ht, ← hv]
  exact TL_irr _ _ _ _ _ (by omega) (by omega)
theorem TL_bad {g : Int → Int} {e : Int} {C : Int → Int} {n a b : Int} {L : Int → Int} {W : Int × Int} {R : Bool × Int × (Int → Int)} (hR : TL g e C n (n - a).toNat a b L = R) (hW : SG g e C 19 15 b 0 0 = W) (h : a < n) (h1 : W.1 < 0 ∨ (W.1 = 16 ∧ a = 0) ∨ e < W.2 + tBi W.1 ∨ n - a < tLe W.1 + BV g W.2 (tBi W.1).toNat) : R.1 = false := by
  rw [← hR, show (n - a).toNat = (n - a - 1).toNat + 1 by omega]
  exact TL_no hW (by omega) h1
theorem TG_no {g : Int → Int} {e n b : Int} (h : (TT g e n b).1 = false) : ¬ TG g e n b := fun q => by
  have := q.2.2.2
  rw [h] at this
  exact absurd this (by decide)
