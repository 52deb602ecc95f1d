/-! read: class and model alike. -/
def VL (io mo x : Int) : Prop := io = 1 ∧ 0 ≤ x ∧ x ≤ mo
/-- r is as the archive's bytes o, where there are any -/
def AGB (r o : Int → Int) (fo : Int) : Prop := B255 r ∧ ∀ k : Int, 0 ≤ k → k < fo → r k = o k
/-- read, as the class leaves it -/
def HR0 (σ' : qH) (g : Int → Int) (f : Int) (lm : List Int32) (x y w : Int) : Prop := ∃ (o : Int → Int) (fo : Int) (ke sc : Nat), ARX g f lm x o fo ∧ (0 ≤ y ∧ y < NEf o fo) ∧ nfi 7 σ' = some (.ref ke) ∧ nfi 8 σ' = some (.ref sc) ∧ ke ≠ sc ∧ w = rl σ' ke ∧ ∀ r : Int → Int, AGB r o fo → RD r (Hj o fo y) (Dj o fo y) (nb σ' ke) ∧ rl σ' ke = W4 r (Hj o fo y + 24)
def HR2 (g : Int → Int) (f : Int) (lm : List Int32) (x y : Int) : Prop := ∃ (o : Int → Int) (fo : Int), ARX g f lm x o fo ∧ (0 ≤ y ∧ y < NEf o fo) ∧ ∀ r : Int → Int, AGB r o fo → ∀ b : Int → Int, ¬ RD r (Hj o fo y) (Dj o fo y) b
def HRd (σ' : qH) (g : Int → Int) (f : Int) (lm : List Int32) (io mo x y k w : Int) : Prop := (k = 0 → VL io mo x ∧ HR0 σ' g f lm x y w) ∧ (k = 1 → NHE g f lm io mo x y) ∧ (k = 2 → VL io mo x ∧ HR2 g f lm x y) ∧ (0 ≤ k ∧ k ≤ 2)
theorem HR0_Y {σ' : qH} {g : Int → Int} {f io mo x y w : Int} {lm : List Int32} (v : VL io mo x) (h : HR0 σ' g f lm x y w) : YHE g f lm io mo x y := by
  obtain ⟨o, fo, ke, sc, a1, a2, -⟩ := h
  exact ⟨v, o, fo, a1, a2.1, a2.2⟩
theorem HR2_Y {g : Int → Int} {f io mo x y : Int} {lm : List Int32} (v : VL io mo x) (h : HR2 g f lm x y) : YHE g f lm io mo x y := by
  obtain ⟨o, fo, a1, a2, -⟩ := h
  exact ⟨v, o, fo, a1, a2.1, a2.2⟩
theorem RDM_Y {g r3 : Int → Int} {f io mo x y z f3 : Int} {lm : List Int32} (h : RDM g f lm io mo x y z r3 f3) : YHE g f lm io mo x y := by
  obtain ⟨v, o, fo, r, b, a1, a2, -⟩ := h
  exact ⟨v, o, fo, a1, a2.1, a2.2⟩
theorem RDN_Y {g : Int → Int} {f io mo x y : Int} {lm : List Int32} (h : RDN g f lm io mo x y) : YHE g f lm io mo x y := by
  obtain ⟨v, o, fo, r, a1, a2, -⟩ := h
  exact ⟨v, o, fo, a1, a2.1, a2.2⟩
theorem read_00 {σ' : qH} {g q3 : Int → Int} {f io mo x y w w' e3 : Int} {lm : List Int32} (v : VL io mo x) (h : HR0 σ' g f lm x y w) (q : RDM g f lm io mo x y w' q3 e3) : w = w' ∧ KEP σ' q3 e3 := by
  obtain ⟨o, fo, ke, sc, a1, a2, a3, a4, a5, a6, a7⟩ := h
  obtain ⟨-, o', fo', r, b, b1, b2, b3, b4, b5, b6, b7, b8⟩ := q
  obtain ⟨e1, e2⟩ := ARX_one v.2.1 a1 b1
  subst e1
  subst e2
  obtain ⟨c1, c2⟩ := a7 r ⟨b3, b4⟩
  have eb := RD_one c1 b5
  have ew : w = w' := by rw [a6, c2, b6]
  refine ⟨ew, ke, sc, a3, a4, a5, fun k k0 k1 => ?_, by rw [b7, ← ew, a6]⟩
  rw [b8 k k0 (by rw [b7, ← ew, a6]; exact k1), ← eb]
  exact nb_ag k k0 k1
theorem read_02 {σ' : qH} {g : Int → Int} {f io mo x y w : Int} {lm : List Int32} (v : VL io mo x) (h : HR0 σ' g f lm x y w) (q : RDN g f lm io mo x y) : False := by
  obtain ⟨o, fo, ke, sc, a1, a2, a3, a4, a5, a6, a7⟩ := h
  obtain ⟨-, o', fo', r, b1, b2, b3, b4, b5⟩ := q
  obtain ⟨e1, e2⟩ := ARX_one v.2.1 a1 b1
  subst e1
  subst e2
  exact b5 _ (a7 r ⟨b3, b4⟩).1
theorem read_20 {g q3 : Int → Int} {f io mo x y w' e3 : Int} {lm : List Int32} (v : VL io mo x) (h : HR2 g f lm x y) (q : RDM g f lm io mo x y w' q3 e3) : False := by
  obtain ⟨o, fo, a1, a2, a3⟩ := h
  obtain ⟨-, o', fo', r, b, b1, b2, b3, b4, b5, -⟩ := q
  obtain ⟨e1, e2⟩ := ARX_one v.2.1 a1 b1
  subst e1
  subst e2
  exact a3 r ⟨b3, b4⟩ b b5
theorem read_both {σ1 : qH} {g r3 q3 : Int → Int} {f io mo x y k w k' w' f3 e3 : Int} {lm : List Int32} (h : HRd σ1 g f lm io mo x y k w) (hk : k ≠ 0 → KEP σ1 r3 f3) (q : RDR g f lm io mo x y k' w' r3 f3 q3 e3) : (k = k' ∧ (k = 0 → w = w')) ∧ KEP σ1 q3 e3 := by
  obtain ⟨h0, h1, h2, h3⟩ := h
  obtain ⟨q0, q1, q2, q3', q4⟩ := q
  rcases k3 h3 with a | a | a <;> rcases k3 q3' with b | b | b
  · have e := read_00 (h0 a).1 (h0 a).2 (q0 b)
    exact ⟨⟨a.trans b.symm, fun _ => e.1⟩, e.2⟩
  · exact (YN (HR0_Y (h0 a).1 (h0 a).2) (q1 b)).elim
  · exact (read_02 (h0 a).1 (h0 a).2 (q2 b)).elim
  · exact (YN (RDM_Y (q0 b)) (h1 a)).elim
  · obtain ⟨e1, e2⟩ := q4 (by rw [b]; decide)
    rw [e1, e2]
    exact ⟨⟨a.trans b.symm, fun z => absurd (a.symm.trans z) (by decide)⟩, hk (by rw [a]; decide)⟩
  · exact (YN (RDN_Y (q2 b)) (h1 a)).elim
  · exact (read_20 (h2 a).1 (h2 a).2 (q0 b)).elim
  · exact (YN (HR2_Y (h2 a).1 (h2 a).2) (q1 b)).elim
  · obtain ⟨e1, e2⟩ := q4 (by rw [b]; decide)
    rw [e1, e2]
    exact ⟨⟨a.trans b.symm, fun z => absurd (a.symm.trans z) (by decide)⟩, hk (by rw [a]; decide)⟩
/-- type, typed beside typed -/
theorem type_both {σ' : qH} {ln ln1 : List Int32} {ns ns1 x z z' L : Int} (e : z = TYv x ns) (e' : z' = TYv x ns) (hl : L = rl σ' 51) (c0 : z = 0 → rl σ' 51 = ns) (c1 : z = 1 → rl σ' 51 = ns + CW x 8) (c2 : z = 1 → AGR σ' 51 (TYA (gl ln) ns x 8)) (c3 : z = 0 → AGR σ' 51 (gl ln)) (hz : 0 ≤ z ∧ z ≤ 1) (m0 : z' = 0 → ns1 = ns) (m1 : z' = 1 → ns1 = ns + CW x 8) (m2 : z' = 1 → ∀ j : Int, 0 ≤ j → gl ln1 j = TYA (gl ln) ns x 8 j) (m3 : z' = 0 → ln1 = ln) : z = z' ∧ TYQ σ' ln1 ns1 := by
  have ez : z = z' := e.trans e'.symm
  refine ⟨ez, ?_⟩
  rcases k2 hz with a | a
  · have b : z' = 0 := ez ▸ a
    rw [m3 b, m0 b]
    exact ⟨c3 a, c0 a⟩
  · have b : z' = 1 := ez ▸ a
    rw [m1 b]
    exact ⟨fun k k0 k1 => (m2 b k k0).trans (c2 a k k0 k1), c1 a⟩
