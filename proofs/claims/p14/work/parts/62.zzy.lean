/-! open: which archives there are. -/
/-- the archive a stays as it is -/
def KPO (a : Nat) (σ s : qH) : Prop := ∀ (G : Int → Int) (F : Int), SV σ a G F → SV s a G F
