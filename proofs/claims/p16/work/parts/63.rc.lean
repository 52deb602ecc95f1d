/-! count: class and model answer alike. -/
theorem R7_count {σ : qH} {g : Int → Int} {f io mo x z z' : Int} {lm : List Int32} (h : R7 σ g f lm io mo) (hio : io = 0 ∨ io = 1) (c1 : x = -1 → afld σ 16 11 = 1 → z = 1 + afld σ 16 14) (c2 : x = -1 → afld σ 16 11 = 0 → z = 0) (c3 : x ≠ -1 → ¬ (afld σ 16 11 = 1 ∧ 0 ≤ x ∧ x ≤ afld σ 16 14) → z = -1) (c4 : x ≠ -1 → afld σ 16 11 = 1 ∧ 0 ≤ x ∧ x ≤ afld σ 16 14 → CNT σ x z) (m1 : x = -1 → io = 1 → z' = 1 + mo) (m2 : x = -1 → io = 0 → z' = 0) (m3 : x ≠ -1 → ¬ (io = 1 ∧ 0 ≤ x ∧ x ≤ mo) → z' = -1) (m4 : x = 0 → io = 1 → z' = NEf g f) (m5 : 1 ≤ x → io = 1 → x ≤ mo → ENx g f (gl lm (x - 1)) z') : z = z' := by
  obtain ⟨h1, h2, -, -, -, h6, h7, -⟩ := h
  rw [h1, h2] at c1 c3 c4
  rw [h1] at c2
  by_cases a : x = -1
  · rcases hio with q | q
    · rw [c2 a q, m2 a q]
    · rw [c1 a q, m1 a q]
  · by_cases b : io = 1 ∧ 0 ≤ x ∧ x ≤ mo
    · obtain ⟨r, -, ⟨-, -, -, r4, r5⟩, r6⟩ := c4 a b
      by_cases e : x = 0
      · have s := h6 (h1.trans b.1) r (r4 e)
        rw [r6, m4 e b.1]
        exact s.2.2.2.1
      · have l1 : 1 ≤ x := by omega
        obtain ⟨r', -, t2, ⟨o, ⟨u1, u2⟩, s⟩⟩ := h7 b.1 (x - 1) (by omega) (by omega)
        have r7 := r5 l1
        rw [t2] at r7
        have er : r' = r := by cases r7; rfl
        subst er
        obtain ⟨o', ⟨v1, v2⟩, v3⟩ := m5 l1 b.1 b.2.2
        have eo := RD_one u1 v1
        subst eo
        rw [r6, v3]
        exact s.2.2.2.1
    · rw [c3 a b, m3 a b]
