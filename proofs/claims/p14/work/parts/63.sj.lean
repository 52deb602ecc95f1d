/-! The model: find. -/
def NFX (g : Int → Int) (f : Int) (lm : List Int32) (u : Int → Int) (n i : Int) : Prop := ∃ (o : Int → Int) (fo : Int), ARX g f lm i o fo ∧ NNM o fo u 0 n
def YFX (g : Int → Int) (f : Int) (lm : List Int32) (u : Int → Int) (n i k : Int) : Prop := ∃ (o : Int → Int) (fo : Int), ARX g f lm i o fo ∧ FOn o fo = 1 ∧ NMD o fo u 0 n k
def NOX (g : Int → Int) (f : Int) (lm : List Int32) (u : Int → Int) (n x i : Int) : Prop := ∀ j : Int, x ≤ j → j < i → NFX g f lm u n j
theorem NOX_0 {g : Int → Int} {f : Int} {lm : List Int32} {u : Int → Int} {n x : Int} : NOX g f lm u n x x := fun j a b => absurd a (by omega)
theorem NOX_s {g : Int → Int} {f : Int} {lm : List Int32} {u : Int → Int} {n x i : Int} (h : NOX g f lm u n x i) (q : NFX g f lm u n i) : NOX g f lm u n x (i + 1) := fun j a b => by
  by_cases e : j = i
  · rw [e]; exact q
  · exact h j a (by omega)
theorem NOX_w {g : Int → Int} {f : Int} {lm : List Int32} {u : Int → Int} {n x i m : Int} (h : NOX g f lm u n x i) (q : m ≤ i) : NOX g f lm u n x m := fun j a b => h j a (by omega)
def FNM (g : Int → Int) (f : Int) (lm : List Int32) (mo : Int) (u : Int → Int) (n x z : Int) : Prop := (z = -1 ∧ NOX g f lm u n x (mo + 1)) ∨ ∃ i k : Int, x ≤ i ∧ i ≤ mo ∧ YFX g f lm u n i k ∧ z = 100 * i + k ∧ NOX g f lm u n x i
