/-! Calls that leave the archives alone. -/
theorem R7_WR {σ σ' : qH} {g : Int → Int} {f io mo : Int} {lm : List Int32} (h : R7 σ g f lm io mo) (hK : K σ) (hN : NA σ) (hF : Fr WR σ σ') (hn : nsx σ' = nsx σ) : R7 σ' g f lm io mo := h.fr hK hN hF hn (fun ou _ ho => (by decide : ∀ a ∈ ArL, a ∉ WR ∧ a + 1 ∉ WR ∧ a + 3 ∉ WR ∧ a + 4 ∉ WR) ou ho) (by decide) (by decide)
theorem nsx_fr {σ σ' : qH} {w : List Nat} (hK : K σ) (hF : Fr w σ σ') (hw : 16 ∉ w) : nsx σ' = nsx σ := by
  obtain ⟨ke, sc, tp, ou, mo, sg, ho, mc, lf, lp, hN, -⟩ := hK.na
  have h2 := hF.b.1 16 _ hw (fun l z => by cases z) hN
  exact (nsx_of h2).trans (nsx_of hN).symm
theorem tape_a : ∀ tp ∈ [63, 68], (16 ∉ [tp + 1] ∧ (∀ a ∈ ArM, a ∉ [tp + 1] ∧ a + 1 ∉ [tp + 1] ∧ a + 3 ∉ [tp + 1] ∧ a + 4 ∉ [tp + 1]) ∧ ∀ r ∈ [73, 74, 32, 34, 36, 38, 55], r ∉ [tp + 1]) ∧ ∀ ou ∈ [63, 68], tp ≠ ou → ou ∉ [tp + 1] ∧ ou + 1 ∉ [tp + 1] ∧ ou + 3 ∉ [tp + 1] ∧ ou + 4 ∉ [tp + 1] := by decide
theorem R7_tape {σ σ' : qH} {g : Int → Int} {f io mo : Int} {lm : List Int32} {tp : Nat} (h : R7 σ g f lm io mo) (hK : K σ) (hN : NA σ) (ht : nfi 9 σ = some (.ref tp)) (hF : Fr [tp + 1] σ σ') : R7 σ' g f lm io mo := by
  obtain ⟨ke, sc, tp9, ou9, mo9, sg, ho, mc, lf, lp, hc, f1, f2, f3, f4, -⟩ := hK.na
  have k9 : nfi 9 σ = some (.ref tp9) := (nfi_of hc).trans rfl
  have k10 : nfi 10 σ = some (.ref ou9) := (nfi_of hc).trans rfl
  rw [ht] at k9
  have e9 : tp = tp9 := by cases k9; rfl
  subst e9
  have w := tape_a tp (mem2 f3)
  refine h.fr hK hN hF (nsx_fr hK hF w.1.1) (fun ou q _ => ?_) w.1.2.1 w.1.2.2
  have ne := h.2.2.1 tp ou ht q
  rw [k10] at q
  have e8 : ou9 = ou := by cases q; rfl
  subst e8
  exact w.2 ou9 (mem2 f4) ne
