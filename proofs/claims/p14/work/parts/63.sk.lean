/-! number, find: class and model answer alike. -/
def NBR (g : Int → Int) (f : Int) (lm : List Int32) (io mo : Int) (u : Int → Int) (n x k w : Int) : Prop := (k = 0 → NBV g f lm io mo u n x w) ∧ (k = 1 → ¬ (io = 1 ∧ 0 ≤ x ∧ x ≤ mo)) ∧ (0 ≤ k ∧ k ≤ 1)
def FNR (g : Int → Int) (f : Int) (lm : List Int32) (mo : Int) (u : Int → Int) (n x k w : Int) : Prop := (k = 0 → 1 ≤ x ∧ FNM g f lm mo u n x w) ∧ (k = 1 → x < 1) ∧ (0 ≤ k ∧ k ≤ 1)
/-- the archives, all at once -/
theorem R7_all {σ : qH} {g : Int → Int} {f io mo : Int} {lm : List Int32} (h : R7 σ g f lm io mo) (h255 : B255 g) (hfo : io = 1 → FOn g f = 1) : ∃ (O : Int → Int → Int) (F : Int → Int), (∀ i k, 0 ≤ O i k ∧ O i k ≤ 255) ∧ (∀ (i : Int) (a : Nat), AOF σ i a → SV σ a (O i) (F i)) ∧ ∀ i : Int, io = 1 ∧ 0 ≤ i ∧ i ≤ mo → ARX g f lm i (O i) (F i) ∧ FOn (O i) (F i) = 1 := by
  have h1 : ∀ i : Int, ∃ p : (Int → Int) × Int, B255 p.1 ∧ (∀ a : Nat, AOF σ i a → SV σ a p.1 p.2) ∧ (io = 1 ∧ 0 ≤ i ∧ i ≤ mo → ARX g f lm i p.1 p.2 ∧ FOn p.1 p.2 = 1) := fun i => by
    by_cases hv : io = 1 ∧ 0 ≤ i ∧ i ≤ mo
    · obtain ⟨o, fo, a1, a2, a3, a4⟩ := R7_arx h h255 (hfo hv.1) hv
      exact ⟨(o, fo), a2, a4, fun _ => ⟨a1, a3⟩⟩
    · obtain ⟨o, fo, a1, a2, -⟩ := R7_arz i h h255 hfo
      exact ⟨(o, fo), a1, a2, fun q => absurd q hv⟩
  exact ⟨fun i => (Classical.choose (h1 i)).1, fun i => (Classical.choose (h1 i)).2, fun i => (Classical.choose_spec (h1 i)).1, fun i a => (Classical.choose_spec (h1 i)).2.1 a, fun i => (Classical.choose_spec (h1 i)).2.2⟩
theorem FNZ_FNM {O : Int → Int → Int} {F : Int → Int} {g : Int → Int} {f io mo n x z : Int} {lm : List Int32} {u : Int → Int} (hx : 1 ≤ x) (hio : io = 1 ∨ mo = 0) (hA : ∀ i : Int, io = 1 ∧ 0 ≤ i ∧ i ≤ mo → ARX g f lm i (O i) (F i) ∧ FOn (O i) (F i) = 1) (h : FNZ O F mo u n x z) : FNM g f lm mo u n x z := by
  have hN : ∀ i : Int, i ≤ mo + 1 → NOF O F u n x i → NOX g f lm u n x i := fun i i1 q j a b => ⟨O j, F j, (hA j ⟨by omega, by omega, by omega⟩).1, q j a b⟩
  rcases h with ⟨a, q⟩ | ⟨i, k, i0, i1, h1, h2, h3⟩
  · exact Or.inl ⟨a, hN _ (by omega) q⟩
  · have e := hA i ⟨by omega, by omega, by omega⟩
    exact Or.inr ⟨i, k, i0, i1, ⟨O i, F i, e.1, e.2, h1⟩, h2, hN _ (by omega) h3⟩
