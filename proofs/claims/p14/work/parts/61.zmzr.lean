/-! A packed row, fine or bad. -/
/-- a packed row is fine, or bad -/
def IFm (g : Int → Int) (e sz b bd md : Int) (o : Int → Int) : Prop := (bd = 0 ∧ md = sz ∧ ∃ v : US, INF g e sz 64001 b 0 (fun _ => 0) v ∧ v.2.2.1 = sz ∧ e - v.2.1 ≤ 7 ∧ o = v.2.2.2) ∨ (bd = 1 ∧ ∀ v : US, INF g e sz 64001 b 0 (fun _ => 0) v → ¬ (v.2.2.1 = sz ∧ e - v.2.1 ≤ 7))
def IFy (g : Int → Int) (e sz b md : Int) (o : Int → Int) : Prop := ∃ v : US, INF g e sz 64001 b 0 (fun _ => 0) v ∧ v.2.2.1 = sz ∧ e - v.2.1 ≤ 7 ∧ md = sz ∧ o = v.2.2.2
def IFn (g : Int → Int) (e sz b : Int) : Prop := ∀ v : US, INF g e sz 64001 b 0 (fun _ => 0) v → ¬ (v.2.2.1 = sz ∧ e - v.2.1 ≤ 7)
