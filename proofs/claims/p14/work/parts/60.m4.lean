/-! The model: entries, mounts, lists. -/
theorem gl_b {l : List Int32} {a b : Int} (h : BT l a b) (r : Int) : a ≤ gl l r ∧ gl l r ≤ b := h r.toNat
