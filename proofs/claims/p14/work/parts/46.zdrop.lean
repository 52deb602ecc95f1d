/-- locals that stand last may go -/
theorem T.drop {ξ : Nat → Option (Nat × List Int32)} {d j pc : Nat} {lv : qLV} (ex : qLV) {st : List Value} {σ : qH} {Q : Option Value → qH → Prop} (hN : (lv.map Prod.fst).Nodup) (g : T ξ d j pc lv st σ Q) : T ξ d j pc (lv ++ ex) st σ Q := by
  obtain ⟨v, s, ⟨n, h1⟩, h2⟩ := g
  exact ⟨v, s, ⟨n, exe_weak n d j pc lv (lv ++ ex) st σ _ hN (fun _ _ h => qlg_app h) h1⟩, h2⟩
