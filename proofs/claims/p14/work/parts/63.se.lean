/-! Answers of class and model, in the same words. -/
def OUTW (σ : qH) (w : Int) : Prop := σ[146]? = some (.inr (.inr (.inl [Int64.ofInt w])))
theorem R7_arz {σ : qH} {g : Int → Int} {f io mo : Int} {lm : List Int32} (x : Int) (h : R7 σ g f lm io mo) (h255 : B255 g) (hfo : io = 1 → FOn g f = 1) : ∃ (o : Int → Int) (fo : Int), B255 o ∧ (∀ a : Nat, AOF σ x a → SV σ a o fo) ∧ (io = 1 ∧ 0 ≤ x ∧ x ≤ mo → ARX g f lm x o fo) := by
  by_cases hv : io = 1 ∧ 0 ≤ x ∧ x ≤ mo
  · obtain ⟨o, fo, a1, a2, -, a4⟩ := R7_arx h h255 (hfo hv.1) hv
    exact ⟨o, fo, a2, a4, fun _ => a1⟩
  · refine ⟨g, f, h255, fun a ha => ?_, fun q => absurd q hv⟩
    have e1 := h.1
    have e2 := h.2.1
    have b1 := ha.1
    have b2 := ha.2.1
    have b3 := ha.2.2.1
    exact absurd ⟨by omega, by omega, by omega⟩ hv
def ENR (g : Int → Int) (f : Int) (lm : List Int32) (io mo x y u k w : Int) : Prop := (k = 0 → ENV g f lm io mo x y u w) ∧ (k = 1 → NHE g f lm io mo x y) ∧ (k = 2 → YHE g f lm io mo x y ∧ (u < 0 ∨ 5 < u)) ∧ (0 ≤ k ∧ k ≤ 2)
def LTR (g : Int → Int) (f : Int) (lm : List Int32) (io mo x y u k w : Int) : Prop := (k = 0 → LTV g f lm io mo x y u w) ∧ (k = 1 → NHE g f lm io mo x y) ∧ (0 ≤ k ∧ k ≤ 1)
theorem YN {g : Int → Int} {f io mo x y : Int} {lm : List Int32} (h : YHE g f lm io mo x y) (q : NHE g f lm io mo x y) : False := by
  obtain ⟨⟨a, b, c⟩, o, fo, h1, h2, h3⟩ := h
  obtain ⟨o', fo', k1, k2⟩ := q a b c
  obtain ⟨e1, e2⟩ := ARX_one b h1 k1
  subst e1
  subst e2
  exact k2 ⟨h2, h3⟩
theorem u5 {u : Int} (a : 0 ≤ u ∧ u ≤ 5) (b : u < 0 ∨ 5 < u) : False := by omega
theorem k3 {k : Int} (h : 0 ≤ k ∧ k ≤ 2) : k = 0 ∨ k = 1 ∨ k = 2 := by omega
theorem k2 {k : Int} (h : 0 ≤ k ∧ k ≤ 1) : k = 0 ∨ k = 1 := by omega
theorem k4 {k : Int} (h : 0 ≤ k ∧ k ≤ 3) : k = 0 ∨ k = 1 ∨ k = 2 ∨ k = 3 := by omega
theorem ENR_y {σ : qH} {g o : Int → Int} {f fo io mo x y u z : Int} {lm : List Int32} (i1 : afld σ 16 11 = io) (i2 : afld σ 16 14 = mo) (hx : io = 1 ∧ 0 ≤ x ∧ x ≤ mo → ARX g f lm x o fo) (hv : afld σ 16 11 = 1 ∧ 0 ≤ x ∧ x ≤ afld σ 16 14 ∧ 0 ≤ y ∧ y < NEf o fo) (hu : 0 ≤ u ∧ u ≤ 5) (hz : z = EVv o (Hj o fo y) u) : ENR g f lm io mo x y u 0 z := by
  rw [i1, i2] at hv
  exact ⟨fun _ => ⟨⟨hv.1, hv.2.1, hv.2.2.1⟩, hu, o, fo, hx ⟨hv.1, hv.2.1, hv.2.2.1⟩, hv.2.2.2, hz⟩, fun q => absurd q (by decide), fun q => absurd q (by decide), by decide⟩
theorem LTR_y {σ : qH} {g o : Int → Int} {f fo io mo x y u z : Int} {lm : List Int32} (i1 : afld σ 16 11 = io) (i2 : afld σ 16 14 = mo) (hx : io = 1 ∧ 0 ≤ x ∧ x ≤ mo → ARX g f lm x o fo) (hv : afld σ 16 11 = 1 ∧ 0 ≤ x ∧ x ≤ afld σ 16 14 ∧ 0 ≤ y ∧ y < NEf o fo) (hz : z = LTv o (Hj o fo y) u) : LTR g f lm io mo x y u 0 z := by
  rw [i1, i2] at hv
  exact ⟨fun _ => ⟨⟨hv.1, hv.2.1, hv.2.2.1⟩, o, fo, hx ⟨hv.1, hv.2.1, hv.2.2.1⟩, hv.2.2.2, hz⟩, fun q => absurd q (by decide), by decide⟩
theorem NEN_n {σ : qH} {g o : Int → Int} {f fo io mo x y u : Int} {lm : List Int32} {e : Nat} (i1 : afld σ 16 11 = io) (i2 : afld σ 16 14 = mo) (hx : io = 1 ∧ 0 ≤ x ∧ x ≤ mo → ARX g f lm x o fo) (h : NEN σ o fo x y u e) (he : e = 1) : NHE g f lm io mo x y := fun q1 q2 q3 => by
  have h1 := h.1 he
  rw [i1, i2] at h1
  exact ⟨o, fo, hx ⟨q1, q2, q3⟩, fun q => h1 ⟨q1, q2, q3, q.1, q.2⟩⟩
theorem NEN_enr {σ : qH} {g o : Int → Int} {f fo io mo x y u k : Int} {lm : List Int32} {e : Nat} (i1 : afld σ 16 11 = io) (i2 : afld σ 16 14 = mo) (hx : io = 1 ∧ 0 ≤ x ∧ x ≤ mo → ARX g f lm x o fo) (h : NEN σ o fo x y u e) (he : (e = 1 ∧ k = 1) ∨ (e = 0 ∧ k = 2)) : ENR g f lm io mo x y u k 0 := by
  rcases he with ⟨a, b⟩ | ⟨a, b⟩
  · subst b
    exact ⟨fun q => absurd q (by decide), fun _ => NEN_n i1 i2 hx h a, fun q => absurd q (by decide), by decide⟩
  · subst b
    have h2 := h.2 a
    rw [i1, i2] at h2
    obtain ⟨⟨v1, v2, v3, v4⟩, hu⟩ := h2
    exact ⟨fun q => absurd q (by decide), fun q => absurd q (by decide), fun _ => ⟨⟨⟨v1, v2, v3⟩, o, fo, hx ⟨v1, v2, v3⟩, v4.1, v4.2⟩, hu⟩, by decide⟩
theorem NEN_ltr {σ : qH} {g o : Int → Int} {f fo io mo x y u k : Int} {lm : List Int32} {e : Nat} (i1 : afld σ 16 11 = io) (i2 : afld σ 16 14 = mo) (hx : io = 1 ∧ 0 ≤ x ∧ x ≤ mo → ARX g f lm x o fo) (h : NEN σ o fo x y u e) (he : e = 1 ∧ k = 1) : LTR g f lm io mo x y u k 0 := by
  obtain ⟨a, b⟩ := he
  subst b
  exact ⟨fun q => absurd q (by decide), fun _ => NEN_n i1 i2 hx h a, by decide⟩
/-- mount -/
def MTR (g : Int → Int) (f io mo x k w : Int) : Prop := (k = 0 → (io = 1 ∧ 0 ≤ x ∧ x < NEf g f) ∧ MOK g f x ∧ mo < 6 ∧ w = mo + 1) ∧ (k = 1 → ¬ (io = 1 ∧ 0 ≤ x ∧ x < NEf g f)) ∧ (k = 2 → (io = 1 ∧ 0 ≤ x ∧ x < NEf g f) ∧ NMT g f x) ∧ (k = 3 → (io = 1 ∧ 0 ≤ x ∧ x < NEf g f) ∧ MOK g f x ∧ 6 ≤ mo) ∧ (0 ≤ k ∧ k ≤ 3)
theorem NOM_both {σ : qH} {g : Int → Int} {f io mo x k : Int} {e : Nat} (i1 : afld σ 16 11 = io) (i2 : afld σ 16 14 = mo) (h : NOM σ g f x e) (hk : (e = 1 ∧ k = 1) ∨ (e = 0 ∧ k = 2) ∨ (e = 2 ∧ k = 3)) : (io = 1 → 0 ≤ x → x < NEf g f → mo < 6 → NMT g f x) ∧ MTR g f io mo x k 0 := by
  unfold NOM at h
  rw [i1, i2] at h
  obtain ⟨h1, h2, h3⟩ := h
  rcases hk with ⟨a, b⟩ | ⟨a, b⟩ | ⟨a, b⟩
  · subst b
    exact ⟨fun q1 q2 q3 _ => absurd ⟨q1, q2, q3⟩ (h1 a), fun q => absurd q (by decide), fun _ => h1 a, fun q => absurd q (by decide), fun q => absurd q (by decide), by decide⟩
  · subst b
    exact ⟨fun _ _ _ _ => (h2 a).2, fun q => absurd q (by decide), fun q => absurd q (by decide), fun _ => h2 a, fun q => absurd q (by decide), by decide⟩
  · subst b
    exact ⟨fun _ _ _ q => absurd q (Int.not_lt.mpr (h3 a).2.2), fun q => absurd q (by decide), fun q => absurd q (by decide), fun q => absurd q (by decide), fun _ => h3 a, by decide⟩
/-- index -/
def IXK (g : Int → Int) (f io k w : Int) : Prop := (k = 0 → io = 1 ∧ IDX g f w) ∧ (k = 1 → io ≠ 1) ∧ (k = 2 → io = 1 ∧ NIX g f) ∧ (0 ≤ k ∧ k ≤ 2)
theorem NIE_both {σ : qH} {g : Int → Int} {f io k : Int} {e : Nat} (i1 : afld σ 16 11 = io) (h : NIE σ g f e) (hk : (e = 2 ∧ k = 1) ∨ (e = 0 ∧ k = 2)) : (io = 1 → NIX g f) ∧ IXK g f io k 0 := by
  unfold NIE at h
  rw [i1] at h
  rcases hk with ⟨a, b⟩ | ⟨a, b⟩
  · subst b
    exact ⟨fun q => absurd q (h.1 a), fun q => absurd q (by decide), fun _ => h.1 a, fun q => absurd q (by decide), by decide⟩
  · subst b
    exact ⟨fun _ => (h.2 a).2, fun q => absurd q (by decide), fun q => absurd q (by decide), fun _ => h.2 a, by decide⟩
