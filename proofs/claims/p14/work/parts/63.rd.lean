/-! Where mount or index throws. -/
theorem R7_nomount {σ σ' : qH} {g : Int → Int} {f io mo : Int} {lm : List Int32} {b : Nat} (h : R7 σ g f lm io mo) (hK : K σ) (hN : NA σ) (hb : b ∈ ArM) (hs : (nSg σ).getD 0 none = some b) (hF : Fr (WMb b) σ σ') (hm6 : mo ≤ 6) (hn : nsx σ' = nsx σ) (em : nMo σ' = nMo σ) (es : nSg σ' = nSg σ) : R7 σ' g f lm io mo := by
  obtain ⟨h1, h2, h3, h4, h5, h6, h7, h8, h9, h10, h11⟩ := h
  have hr := WMb_r b hb
  have e11 : afld σ' 16 11 = afld σ 16 11 := by rw [af_nfi, af_nfi, nsx_11 hn]
  refine ⟨e11.trans h1, ?_, ?_, ?_, ?_, ?_, ?_, h8.fr hK (by decide) hF hr.1 hr.2.1, h9.fr hK (by decide) hF hr.2.2.1 hr.2.2.2.1, h10.fr hN hF (by decide) hr.2.2.2.2, (rl_eq (hF.2.2.1 55 (by decide) hr.2.2.2.2)).trans h11⟩
  · rw [af_nfi, nsx_14 hn, ← af_nfi]
    exact h2
  · intro t o q1 q2
    rw [nsx_9 hn] at q1
    rw [nsx_10 hn] at q2
    exact h3 t o q1 q2
  · intro t o q1 q2
    rw [nsx_12 hn] at q1
    rw [nsx_13 hn] at q2
    exact h4 t o q1 q2
  · rw [em, es]
    exact h5
  · intro q o qo
    rw [nsx_10 hn] at qo
    rw [e11] at q
    obtain ⟨ke, sc, tp, ou, mo9, sg, ho, mc, lf, lp, hc, f1, f2, f3, f4, -⟩ := hK.na
    have k10 : nfi 10 σ = some (.ref ou) := (nfi_of hc).trans rfl
    rw [k10] at qo
    have e9 : ou = o := by cases qo; rfl
    subst e9
    have w := WMb_o ou (mem2 f4) b hb
    exact (h6 q ou k10).fr hK hN (na_tp f4) hF w.1 w.2.1 w.2.2.1 w.2.2.2
  · intro q i b0 b1
    obtain ⟨a, m1, m2, m3⟩ := h7 q i b0 b1
    have ne : a ≠ b := fun z => (h5 i.toNat 0 (by omega) (by omega)).2 (by rw [m2, hs, z])
    exact ⟨a, m1, by rw [em]; exact m2, m3.fr hK hN m1 hF (WMb_a a m1 b hb ne)⟩
theorem gd_of {l : List (Option Nat)} {v : Option Nat} (h : v ∈ l) : ∃ j : Nat, j < l.length ∧ l.getD j none = v := by
  obtain ⟨j, hj, e⟩ := List.mem_iff_getElem.mp h
  refine ⟨j, hj, ?_⟩
  rw [List.getD_eq_getElem?_getD, List.getElem?_eq_getElem hj, Option.getD_some]
  exact e
theorem R7_noindex {σ σ' : qH} {g : Int → Int} {f io mo : Int} {lm : List Int32} (h : R7 σ g f lm io mo) (hK : K σ) (hN : NA σ) (hF : Fr WI σ σ') (hm6 : mo ≤ 6) (hn : nsx σ' = nsx σ) (hk : KPS (nSg σ) σ σ') : R7 σ' g f lm io mo := by
  obtain ⟨h1, h2, h3, h4, h5, h6, h7, h8, h9, h10, h11⟩ := h
  have hm := nMo_fr hK hF hn (by decide) (by decide)
  have ln := nMo_len hK
  have e11 : afld σ' 16 11 = afld σ 16 11 := by rw [af_nfi, af_nfi, nsx_11 hn]
  refine ⟨e11.trans h1, ?_, ?_, ?_, ?_, ?_, ?_, h8.fr hK (by decide) hF (by decide) (by decide), h9.fr hK (by decide) hF (by decide) (by decide), h10.fr hN hF (by decide) (by decide), (rl_eq (hF.2.2.1 55 (by decide) (by decide))).trans h11⟩
  · rw [af_nfi, nsx_14 hn, ← af_nfi]
    exact h2
  · intro t o q1 q2
    rw [nsx_9 hn] at q1
    rw [nsx_10 hn] at q2
    exact h3 t o q1 q2
  · intro t o q1 q2
    rw [nsx_12 hn] at q1
    rw [nsx_13 hn] at q2
    exact h4 t o q1 q2
  · rw [hm.1, hm.2]
    exact h5
  · intro q o qo
    rw [nsx_10 hn] at qo
    rw [e11] at q
    obtain ⟨ke, sc, tp, ou, mo9, sg, ho, mc, lf, lp, hc, f1, f2, f3, f4, -⟩ := hK.na
    have k10 : nfi 10 σ = some (.ref ou) := (nfi_of hc).trans rfl
    rw [k10] at qo
    have e9 : ou = o := by cases qo; rfl
    subst e9
    have w := (by decide : ∀ a ∈ [63, 68], a ∉ WI ∧ a + 1 ∉ WI ∧ a + 3 ∉ WI ∧ a + 4 ∉ WI) ou (mem2 f4)
    exact (h6 q ou k10).fr hK hN (na_tp f4) hF w.1 w.2.1 w.2.2.1 w.2.2.2
  · intro q i b0 b1
    obtain ⟨a, m1, m2, o, m3, m4⟩ := h7 q i b0 b1
    have ns : some a ∉ nSg σ := fun z => by
      obtain ⟨j, j1, j2⟩ := gd_of z
      exact (h5 i.toNat j (by omega) (by omega)).2 (m2.trans j2.symm)
    exact ⟨a, m1, by rw [hm.1]; exact m2, o, m3, hk a m1 ns _ _ m4⟩
/-- the model's mounts can be mounted -/
theorem R7_mtx {σ : qH} {g : Int → Int} {f io mo : Int} {lm : List Int32} (h : R7 σ g f lm io mo) : MTX io g f lm mo := by
  obtain ⟨-, -, -, -, -, -, h7, -⟩ := h
  intro q i b0 b1
  obtain ⟨a, -, -, o, m3, -⟩ := h7 q i b0 b1
  exact ⟨o, m3⟩
theorem R7_ndp {σ : qH} {g : Int → Int} {f io mo : Int} {lm : List Int32} (h : R7 σ g f lm io mo) : NDP (nSg σ) := fun i j hi hj ne => ((h.2.2.2.2.1 i j hi hj).1 ne).2
