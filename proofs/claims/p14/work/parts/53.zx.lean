/-! An entry that is read. -/
/-- n bytes o stand packed (or not) at D; the header is at H -/
def RD (g : Int → Int) (H D : Int) (o : Int → Int) : Prop := W2 g (H + 8) % 2 ≠ 1 ∧ (W2 g (H + 10) = 0 ∨ W2 g (H + 10) = 8) ∧ W4 g (H + 24) ≤ 8000 ∧ ((W2 g (H + 10) = 0 ∧ W4 g (H + 20) = W4 g (H + 24) ∧ o = PLC g (fun _ => 0) 0 D (W4 g (H + 24)).toNat) ∨ (W2 g (H + 10) = 8 ∧ ∃ v : US, INF g (8 * (D + W4 g (H + 20))) (W4 g (H + 24)) 64001 (8 * D) 0 (fun _ => 0) v ∧ v.2.2.1 = W4 g (H + 24) ∧ 8 * (D + W4 g (H + 20)) - v.2.1 ≤ 7 ∧ o = v.2.2.2)) ∧ 4294967295 - (CRN o (W4 g (H + 24)).toNat : Int) = W4 g (H + 16)
theorem RD_one {g : Int → Int} {H D : Int} {o o' : Int → Int} (h : RD g H D o) (k : RD g H D o') : o = o' := by
  obtain ⟨-, -, -, h, -⟩ := h
  obtain ⟨-, -, -, k, -⟩ := k
  rcases h with ⟨a, -, h⟩ | ⟨a, v, h1, -, -, h⟩ <;> rcases k with ⟨c, -, k⟩ | ⟨c, w, k1, -, -, k⟩
  · rw [h, k]
  · omega
  · omega
  · rw [h, k, INF_one _ h1 k1]
/-- what is 6, 7, 8, 9 -/
theorem RD_6 {g : Int → Int} {H D : Int} {o : Int → Int} (h : W2 g (H + 8) % 2 = 1 ∨ (W2 g (H + 10) ≠ 0 ∧ W2 g (H + 10) ≠ 8)) : ¬ RD g H D o := fun q => by
  have q1 := q.1
  have q2 := q.2.1
  omega
theorem RD_7 {g : Int → Int} {H D : Int} {o : Int → Int} (h : 8000 < W4 g (H + 24)) : ¬ RD g H D o := fun q => by
  have q1 := q.2.2.1
  omega
theorem RD_80 {g : Int → Int} {H D : Int} {o : Int → Int} (h0 : W2 g (H + 10) = 0) (h : W4 g (H + 20) ≠ W4 g (H + 24)) : ¬ RD g H D o := fun q => by
  rcases q.2.2.2.1 with ⟨-, q1, -⟩ | ⟨q1, -⟩
  · exact h q1
  · omega
theorem RD_88 {g : Int → Int} {H D : Int} {o : Int → Int} (h0 : W2 g (H + 10) = 8) (h : ∀ v : US, INF g (8 * (D + W4 g (H + 20))) (W4 g (H + 24)) 64001 (8 * D) 0 (fun _ => 0) v → ¬ (v.2.2.1 = W4 g (H + 24) ∧ 8 * (D + W4 g (H + 20)) - v.2.1 ≤ 7)) : ¬ RD g H D o := fun q => by
  rcases q.2.2.2.1 with ⟨q1, -⟩ | ⟨-, v, q1, q2, q3, -⟩
  · omega
  · exact h v q1 ⟨q2, q3⟩
/-- all but the sum -/
def RQ (g : Int → Int) (H D : Int) (o : Int → Int) : Prop := W2 g (H + 8) % 2 ≠ 1 ∧ (W2 g (H + 10) = 0 ∨ W2 g (H + 10) = 8) ∧ W4 g (H + 24) ≤ 8000 ∧ ((W2 g (H + 10) = 0 ∧ W4 g (H + 20) = W4 g (H + 24) ∧ o = PLC g (fun _ => 0) 0 D (W4 g (H + 24)).toNat) ∨ (W2 g (H + 10) = 8 ∧ ∃ v : US, INF g (8 * (D + W4 g (H + 20))) (W4 g (H + 24)) 64001 (8 * D) 0 (fun _ => 0) v ∧ v.2.2.1 = W4 g (H + 24) ∧ 8 * (D + W4 g (H + 20)) - v.2.1 ≤ 7 ∧ o = v.2.2.2))
theorem RQ_0 {g : Int → Int} {H D : Int} {o : Int → Int} (h : W2 g (H + 8) % 2 ≠ 1) (h0 : W2 g (H + 10) = 0) (h1 : W4 g (H + 24) ≤ 8000) (h2 : W4 g (H + 20) = W4 g (H + 24)) (h3 : o = PLC g (fun _ => 0) 0 D (W4 g (H + 24)).toNat) : RQ g H D o := ⟨h, Or.inl h0, h1, Or.inl ⟨h0, h2, h3⟩⟩
theorem RQ_8 {g : Int → Int} {H D : Int} {o : Int → Int} {v : US} (h : W2 g (H + 8) % 2 ≠ 1) (h0 : W2 g (H + 10) = 8) (h1 : W4 g (H + 24) ≤ 8000) (h2 : INF g (8 * (D + W4 g (H + 20))) (W4 g (H + 24)) 64001 (8 * D) 0 (fun _ => 0) v) (h3 : v.2.2.1 = W4 g (H + 24)) (h4 : 8 * (D + W4 g (H + 20)) - v.2.1 ≤ 7) (h5 : o = v.2.2.2) : RQ g H D o := ⟨h, Or.inr h0, h1, Or.inr ⟨h0, v, h2, h3, h4, h5⟩⟩
theorem RD_is {g : Int → Int} {H D : Int} {o : Int → Int} (h : RQ g H D o) (h1 : 4294967295 - (CRN o (W4 g (H + 24)).toNat : Int) = W4 g (H + 16)) : RD g H D o := ⟨h.1, h.2.1, h.2.2.1, h.2.2.2, h1⟩
theorem RQ_one {g : Int → Int} {H D : Int} {o o' : Int → Int} (h : RQ g H D o) (k : RQ g H D o') : o = o' := by
  obtain ⟨-, -, -, h⟩ := h
  obtain ⟨-, -, -, k⟩ := k
  rcases h with ⟨a, -, h⟩ | ⟨a, v, h1, -, -, h⟩ <;> rcases k with ⟨c, -, k⟩ | ⟨c, w, k1, -, -, k⟩
  · rw [h, k]
  · omega
  · omega
  · rw [h, k, INF_one _ h1 k1]
theorem RD_9 {g : Int → Int} {H D : Int} {o o' : Int → Int} (h : RQ g H D o) (h1 : 4294967295 - (CRN o (W4 g (H + 24)).toNat : Int) ≠ W4 g (H + 16)) : ¬ RD g H D o' := fun q => by
  have e := RQ_one h ⟨q.1, q.2.1, q.2.2.1, q.2.2.2.1⟩
  subst e
  exact h1 q.2.2.2.2
