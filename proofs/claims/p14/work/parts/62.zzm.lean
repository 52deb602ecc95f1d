/-! The model's mounts: what they are. -/
/-- the entry at H, D can be mounted, and has e entries then -/
def MNx (g : Int → Int) (H D e : Int) : Prop := ∃ o : Int → Int, RD g H D o ∧ FOn o (W4 g (H + 24)) = 1 ∧ e = NEf o (W4 g (H + 24))
def NMx (g : Int → Int) (H D : Int) : Prop := ∀ o : Int → Int, ¬ (RD g H D o ∧ FOn o (W4 g (H + 24)) = 1)
theorem nm_fo {Lc : List Int64} {m : Int} : (FOn (gc Lc 4) m = 1 → FOn (nm Lc m) m = 1 ∧ W2 (nm Lc m) (EN (nm Lc m) m + 8) = W2 (gc Lc 4) (EN (gc Lc 4) m + 8)) ∧ (FOn (nm Lc m) m = 1 → FOn (gc Lc 4) m = 1) := by
  have e : ∀ k : Int, 0 ≤ k → k < m → gc Lc 4 k = nm Lc m k := fun k a b => (if_pos ⟨a, b⟩).symm
  have r : ∀ k, 0 ≤ nm Lc m k ∧ nm Lc m k ≤ 255 := fun k => by
    show 0 ≤ (if _ then gc Lc 4 k else 0) ∧ (if _ then gc Lc 4 k else 0) ≤ 255
    split
    · exact gc_r Lc 4 k
    · omega
  exact ⟨fun q => FOn_c e (gc_r Lc 4) q, fun q => (FOn_c (fun k a b => (e k a b).symm) r q).1⟩
theorem FOn_01 (g : Int → Int) (f : Int) : FOn g f = 0 ∨ FOn g f = 1 := by
  unfold FOn
  split
  · exact Or.inr rfl
  · exact Or.inl rfl
/-- every mount can be mounted -/
def MTS (g : Int → Int) (f : Int) (lm : List Int32) (mo : Int) : Prop := ∀ j : Int, 0 ≤ j → j < mo → ∃ o : Int → Int, MNT g f (gl lm j) o
/-- how many entries entry y has as an archive -/
def ENx (g : Int → Int) (f y e : Int) : Prop := ∃ o : Int → Int, MNT g f y o ∧ e = NEf o (W4 g (Hj g f y + 24))
/-- the headers and the data are known -/
def HDJ (g : Int → Int) (f : Int) (lh ld : List Int32) (e : Int) : Prop := ∀ j : Int, 0 ≤ j → j < e → gl lh j = Hj g f j ∧ gl ld j = Dj g f j
def MTX (io : Int) (g : Int → Int) (f : Int) (lm : List Int32) (mo : Int) : Prop := io = 1 → MTS g f lm mo
def MOK (g : Int → Int) (f y : Int) : Prop := ∃ o : Int → Int, MNT g f y o
def MSET (lm lm1 : List Int32) (mo x : Int) : Prop := ∀ j : Int, 0 ≤ j → gl lm1 j = if j = mo then x else gl lm j
