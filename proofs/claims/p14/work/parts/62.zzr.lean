/-! The model's lines of an index. -/
def N10 (u : Int → Int) (x y : Int) : Prop := ∀ j : Int, x ≤ j → j < y → u j ≠ 10
def N34 (u : Int → Int) (a k : Int) : Prop := ∀ j : Int, 0 ≤ j → j < k → u (a + j) ≠ 34
theorem N34_0 {u : Int → Int} {a : Int} : N34 u a 0 := fun j h1 h2 => absurd h1 (by omega)
theorem N34_s {u : Int → Int} {a k : Int} (h : N34 u a k) (h1 : u (a + k) ≠ 34) : N34 u a (k + 1) := fun j a1 a2 => by
  by_cases q : j = k
  · rw [q]
    exact h1
  · exact h j a1 (by omega)
theorem LNE_to {u : Int → Int} {f x y m : Int} (hy : u y = 10) (hn : N10 u x y) (hxy : x ≤ y) (h : LNE u f x m) : (m = y - x - 4 ∧ 1 ≤ y - x - 4 ∧ u x = 45 ∧ u (x + 1) = 32 ∧ u (x + 2) = 34 ∧ u (y - 1) = 34) ∧ N34 u (x + 3) (y - x - 4) := by
  obtain ⟨h1, h2, h3, h4, h5, h6, h7, h8⟩ := h
  have l1 : ¬ x + 4 + m < y := fun l => hn (x + 4 + m) (by omega) l h8
  have l2 : ¬ y < x + 4 + m := fun l => by
    by_cases q0 : y = x
    · rw [q0] at hy
      omega
    · by_cases q1 : y = x + 1
      · rw [q1] at hy
        omega
      · by_cases q2 : y = x + 2
        · rw [q2] at hy
          omega
        · by_cases q3 : y = x + 3 + m
          · rw [q3] at hy
            omega
          · have h9 := (h6 (y - x - 3) (by omega) (by omega)).2
            rw [show x + 3 + (y - x - 3) = y by omega] at h9
            exact h9 hy
  have e : m = y - x - 4 := by omega
  subst e
  rw [show x + 3 + (y - x - 4) = y - 1 by omega] at h7
  exact ⟨⟨rfl, h1, h3, h4, h5, h7⟩, fun j a b => (h6 j a b).1⟩
theorem LNE_of {u : Int → Int} {f x y n : Int} (hy : u y = 10) (hn : N10 u x y) (e : n = y - x - 4) (hf : y < f) (h1 : 1 ≤ n) (h2 : u x = 45) (h3 : u (x + 1) = 32) (h4 : u (x + 2) = 34) (h5 : u (y - 1) = 34) (h6 : N34 u (x + 3) n) : LNE u f x n := by
  refine ⟨h1, by omega, h2, h3, h4, fun k a b => ⟨h6 k a b, hn _ (by omega) (by omega)⟩, ?_, ?_⟩
  · rw [show x + 3 + n = y - 1 by omega]
    exact h5
  · rw [show x + 4 + n = y by omega]
    exact hy
/-- is the name of the entry at h the one -/
def MTn (g u : Int → Int) (h s n : Int) : Prop := W2 g (h + 28) = n ∧ EQ2 g u (h + 46) s n.toNat = 1
/-- the entry of that name among the first k -/
def FND (g u hs : Int → Int) (s n k f : Int) : Prop := (f = -1 ∧ ∀ j : Int, 0 ≤ j → j < k → ¬ MTn g u (hs j) s n) ∨ (0 ≤ f ∧ f < k ∧ MTn g u (hs f) s n)
theorem FND_0 {g u hs : Int → Int} {s n : Int} : FND g u hs s n 0 (-1) := Or.inl ⟨rfl, fun j a b => absurd b (by omega)⟩
theorem FND_no {g u hs : Int → Int} {s n k f : Int} (h : FND g u hs s n k f) (q : ¬ MTn g u (hs k) s n) : FND g u hs s n (k + 1) f := by
  rcases h with h | h
  · exact Or.inl ⟨h.1, fun j a b => if e : j = k then (by rw [e]; exact q) else h.2 j a (by omega)⟩
  · exact Or.inr ⟨h.1, by omega, h.2.2⟩
theorem FND_yes {g u hs : Int → Int} {s n k : Int} (h0 : 0 ≤ k) (q : MTn g u (hs k) s n) : FND g u hs s n (k + 1) k := Or.inr ⟨h0, by omega, q⟩
theorem FND_r {g u hs : Int → Int} {s n k f : Int} (h : FND g u hs s n k f) : f = -1 ∨ 0 ≤ f ∧ f < k := by
  rcases h with h | h
  · exact Or.inl h.1
  · exact Or.inr ⟨h.1, h.2.1⟩
theorem FND_nmd {g u : Int → Int} {lh ld : List Int32} {f s n e k y : Int} (hd : HDJ g f lh ld e) (he : e = NEf g f) (hk : k = e) (h : FND g u (gl lh) s n k y) : (0 ≤ y → NMD g f u s n y) ∧ (y < 0 → NNM g f u s n) := by
  subst hk
  rcases h with h | h
  · refine ⟨fun q => absurd q (by omega), fun _ j q => ?_⟩
    obtain ⟨q1, q2, q3, q4⟩ := q
    have := h.2 j q1 (by omega)
    rw [(hd j q1 (by omega)).1] at this
    exact this ⟨q3, q4⟩
  · refine ⟨fun _ => ?_, fun q => absurd q (by omega)⟩
    have q := h.2.2
    rw [(hd y h.1 h.2.1).1] at q
    exact ⟨h.1, by omega, q.1, q.2⟩
/-- a line that is right: its entry is y -/
def LW0 (g : Int → Int) (f : Int) (u : Int → Int) (fu x t y : Int) : Prop := ∃ n : Int, LNE u fu x n ∧ t = x + n + 4 ∧ NMD g f u (x + 3) n y ∧ MOK g f y
/-- a line that is wrong -/
def LW1 (g : Int → Int) (f : Int) (u : Int → Int) (fu x li : Int) : Prop := li = 6 ∨ NLN u fu x ∨ (∃ n : Int, LNE u fu x n ∧ NNM g f u (x + 3) n) ∨ ∃ n y : Int, LNE u fu x n ∧ NMD g f u (x + 3) n y ∧ NMT g f y
