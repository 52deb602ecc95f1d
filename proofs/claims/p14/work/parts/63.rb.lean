/-! The class beside the model: after open. -/
theorem nMo_fr2 {σ σ' : qH} {w : List Nat} (hK : K σ) (hF : Fr w σ σ') (e12 : nfi 12 σ' = nfi 12 σ) (e13 : nfi 13 σ' = nfi 13 σ) (h3 : 73 ∉ w) (h4 : 74 ∉ w) : nMo σ' = nMo σ ∧ nSg σ' = nSg σ := by
  obtain ⟨ke, sc, tp, ou, mo, sg, ho, mc, lf, lp, hN, f1, f2, f3, f4, f5, f6, -⟩ := hK.na
  obtain ⟨l1, c1, -, -⟩ := hK.refs (na_mo f5).1
  obtain ⟨l2, c2, -, -⟩ := hK.refs (na_mo f6).1
  have n12 : nfi 12 σ = some (.ref mo) := (nfi_of hN).trans rfl
  have n13 : nfi 13 σ = some (.ref sg) := (nfi_of hN).trans rfl
  have d1 := hF.b.1 mo _ (by rcases f5 with rfl | rfl <;> assumption) (fun l z => by cases z) c1
  have d2 := hF.b.1 sg _ (by rcases f6 with rfl | rfl <;> assumption) (fun l z => by cases z) c2
  exact ⟨(nMo_of (e12.trans n12) d1).trans (nMo_of n12 c1).symm, (nSg_of (e13.trans n13) d2).trans (nSg_of n13 c2).symm⟩
/-- what open may change -/
def WO (tp ou : Nat) : List Nat := [16, tp, tp + 1, tp + 3, tp + 4, ou + 1, 59, 61]
theorem WO_r : ∀ tp ∈ [63, 68], ∀ ou ∈ [63, 68], 73 ∉ WO tp ou ∧ 74 ∉ WO tp ou ∧ 32 ∉ WO tp ou ∧ 34 ∉ WO tp ou ∧ 36 ∉ WO tp ou ∧ 38 ∉ WO tp ou ∧ 55 ∉ WO tp ou := by decide
theorem WO_a : ∀ tp ∈ [63, 68], ∀ ou ∈ [63, 68], ∀ a ∈ ArM, a ∉ WO tp ou ∧ a + 1 ∉ WO tp ou ∧ a + 3 ∉ WO tp ou ∧ a + 4 ∉ WO tp ou := by decide
theorem R7_open {σ σ' : qH} {g g' : Int → Int} {f f' io mo : Int} {lm : List Int32} {tp ou : Nat} (h : R7 σ g f lm io mo) (hK : K σ) (hN : NA σ) (t9 : nfi 9 σ = some (.ref tp)) (t10 : nfi 10 σ = some (.ref ou)) (hF : Fr (WO tp ou) σ σ') (hv : SV σ' tp g' f') (n9 : nfi 9 σ' = some (.ref ou)) (n10 : nfi 10 σ' = some (.ref tp)) (e11 : afld σ' 16 11 = 1) (e14 : afld σ' 16 14 = 0) (n12 : nfi 12 σ' = nfi 12 σ) (n13 : nfi 13 σ' = nfi 13 σ) : R7 σ' g' f' lm 1 0 := by
  obtain ⟨h1, h2, h3, h4, h5, h6, h7, h8, h9, h10, h11⟩ := h
  obtain ⟨ke, sc, tp9, ou9, mo9, sg, ho, mc, lf, lp, hc, f1, f2, f3, f4, -⟩ := hK.na
  have k9 : nfi 9 σ = some (.ref tp9) := (nfi_of hc).trans rfl
  have k10 : nfi 10 σ = some (.ref ou9) := (nfi_of hc).trans rfl
  have ne := h3 tp ou t9 t10
  rw [t9] at k9
  have e9 : tp = tp9 := by cases k9; rfl
  subst e9
  rw [t10] at k10
  have e8 : ou = ou9 := by cases k10; rfl
  subst e8
  have w := WO_r tp (mem2 f3) ou (mem2 f4)
  have hm := nMo_fr2 hK hF n12 n13 w.1 w.2.1
  refine ⟨e11, e14, ?_, ?_, ?_, ?_, ?_, h8.fr hK (by decide) hF w.2.2.1 w.2.2.2.1, h9.fr hK (by decide) hF w.2.2.2.2.1 w.2.2.2.2.2.1, h10.fr hN hF (by decide) w.2.2.2.2.2.2, (rl_eq (hF.2.2.1 55 (by decide) w.2.2.2.2.2.2)).trans h11⟩
  · intro t o q1 q2
    rw [n9] at q1
    cases q1
    rw [n10] at q2
    cases q2
    exact fun z => ne z.symm
  · intro t o q1 q2
    rw [n12] at q1
    rw [n13] at q2
    exact h4 t o q1 q2
  · rw [hm.1, hm.2]
    exact h5
  · intro q o qo
    rw [n10] at qo
    cases qo
    exact hv
  · intro q i b0 b1
    exact absurd b1 (by omega)
/-- where an open fails -/
theorem R7_shut {σ σ' : qH} {g : Int → Int} {f io mo : Int} {lm : List Int32} {tp ou : Nat} (h : R7 σ g f lm io mo) (hK : K σ) (hN : NA σ) (t9 : nfi 9 σ = some (.ref tp)) (t10 : nfi 10 σ = some (.ref ou)) (hF : Fr (WO tp ou) σ σ') (hn : nsx σ' = nsx σ) (hk : KPO ou σ σ') : R7 σ' g f lm io mo := by
  obtain ⟨h1, h2, h3, h4, h5, h6, h7, h8, h9, h10, h11⟩ := h
  obtain ⟨ke, sc, tp9, ou9, mo9, sg, ho, mc, lf, lp, hc, f1, f2, f3, f4, -⟩ := hK.na
  have k9 : nfi 9 σ = some (.ref tp9) := (nfi_of hc).trans rfl
  have k10 : nfi 10 σ = some (.ref ou9) := (nfi_of hc).trans rfl
  rw [t9] at k9
  have e9 : tp = tp9 := by cases k9; rfl
  subst e9
  rw [t10] at k10
  have e8 : ou = ou9 := by cases k10; rfl
  subst e8
  have w := WO_r tp (mem2 f3) ou (mem2 f4)
  have hm := nMo_fr hK hF hn w.1 w.2.1
  have e11 : afld σ' 16 11 = afld σ 16 11 := by rw [af_nfi, af_nfi, nsx_11 hn]
  refine ⟨e11.trans h1, ?_, ?_, ?_, ?_, ?_, ?_, h8.fr hK (by decide) hF w.2.2.1 w.2.2.2.1, h9.fr hK (by decide) hF w.2.2.2.2.1 w.2.2.2.2.2.1, h10.fr hN hF (by decide) w.2.2.2.2.2.2, (rl_eq (hF.2.2.1 55 (by decide) w.2.2.2.2.2.2)).trans h11⟩
  · rw [af_nfi, nsx_14 hn, ← af_nfi]
    exact h2
  · intro t o q1 q2
    rw [nsx_9 hn] at q1
    rw [nsx_10 hn] at q2
    exact h3 t o q1 q2
  · intro t o q1 q2
    rw [nsx_12 hn] at q1
    rw [nsx_13 hn] at q2
    exact h4 t o q1 q2
  · rw [hm.1, hm.2]
    exact h5
  · intro q o qo
    rw [nsx_10 hn, t10] at qo
    have e7 : ou = o := by cases qo; rfl
    subst e7
    rw [e11] at q
    exact hk _ _ (h6 q ou t10)
  · intro q i b0 b1
    obtain ⟨a, m1, m2, m3⟩ := h7 q i b0 b1
    exact ⟨a, m1, by rw [hm.1]; exact m2, m3.fr hK hN m1 hF (WO_a tp (mem2 f3) ou (mem2 f4) a m1)⟩
