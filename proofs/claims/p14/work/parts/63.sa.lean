/-! Which exception is thrown. -/
def QE (W ex : List Nat) (σ : qH) (RX : Nat → qH → Prop) (R : Option Value → qH → Prop) (o : Option Value ⊕ Nat) (σ' : qH) : Prop := match o with
  | .inl v => R v σ'
  | .inr e => e ∈ ex ∧ ∃ σ1, Fr W σ σ1 ∧ RX e σ1 ∧ σ' = σ1 ++ [.inr (.inr (.inr (.inr (.inr 6))))]
theorem QE_l {W ex : List Nat} {σ : qH} {RX : Nat → qH → Prop} {R : Option Value → qH → Prop} {v : Option Value} {σ' : qH} (h : R v σ') : QE W ex σ RX R (.inl v) σ' := h
theorem QE_r {W ex : List Nat} {σ : qH} {RX : Nat → qH → Prop} {R : Option Value → qH → Prop} {e : Nat} {σ1 : qH} (he : e ∈ ex) (h : Fr W σ σ1) (hr : RX e σ1) : QE W ex σ RX R (.inr e) (σ1 ++ [.inr (.inr (.inr (.inr (.inr 6))))]) := ⟨he, σ1, h, hr, rfl⟩
/-- why mount throws -/
def NOM (σ : qH) (g : Int → Int) (f x : Int) (e : Nat) : Prop := (e = 1 → ¬ (afld σ 16 11 = 1 ∧ 0 ≤ x ∧ x < NEf g f)) ∧ (e = 0 → (afld σ 16 11 = 1 ∧ 0 ≤ x ∧ x < NEf g f) ∧ NMT g f x) ∧ (e = 2 → (afld σ 16 11 = 1 ∧ 0 ≤ x ∧ x < NEf g f) ∧ MOK g f x ∧ 6 ≤ afld σ 16 14)
/-- why index throws -/
def NIE (σ : qH) (g : Int → Int) (f : Int) (e : Nat) : Prop := (e = 2 → afld σ 16 11 ≠ 1) ∧ (e = 0 → afld σ 16 11 = 1 ∧ NIX g f)
