/-! The class beside the model: after mount. -/
theorem gd_set {l : List (Option Nat)} {p i : Nat} {v : Option Nat} (h : p < l.length) : (l.set p v).getD i none = if i = p then v else l.getD i none := by
  rw [List.getD_eq_getElem?_getD]
  by_cases q : i = p
  · rw [q, if_pos rfl, List.getElem?_set_self h, Option.getD_some]
  · rw [if_neg q, List.getElem?_set_ne (fun z => q z.symm), ← List.getD_eq_getElem?_getD]
theorem DIS_swap {l1 l2 : List (Option Nat)} {p : Nat} (h : DIS l1 l2) (hp : p < 6) (e1 : l1.length = 6) (e2 : l2.length = 6) : DIS (l1.set p (l2.getD 0 none)) (l2.set 0 (l1.getD p none)) := fun i j hi hj => by
  rw [gd_set (by omega), gd_set (by omega), gd_set (by omega), gd_set (by omega)]
  refine ⟨fun ne => ⟨?_, ?_⟩, ?_⟩
  · by_cases a : i = p
    · rw [if_pos a, if_neg (by omega)]
      exact fun z => (h j 0 hj (by omega)).2 z.symm
    · rw [if_neg a]
      by_cases b : j = p
      · rw [if_pos b]
        exact (h i 0 hi (by omega)).2
      · rw [if_neg b]
        exact ((h i j hi hj).1 ne).1
  · by_cases a : i = 0
    · rw [if_pos a, if_neg (by omega)]
      exact (h p j hp hj).2
    · rw [if_neg a]
      by_cases b : j = 0
      · rw [if_pos b]
        exact fun z => (h p i hp hi).2 z.symm
      · rw [if_neg b]
        exact ((h i j hi hj).1 ne).2
  · by_cases a : i = p
    · rw [if_pos a]
      by_cases b : j = 0
      · rw [if_pos b]
        exact fun z => (h p 0 hp (by omega)).2 z.symm
      · rw [if_neg b]
        exact ((h 0 j (by omega) hj).1 (fun z => b z.symm)).2
    · rw [if_neg a]
      by_cases b : j = 0
      · rw [if_pos b]
        exact ((h i p hi hp).1 a).1
      · rw [if_neg b]
        exact (h i j hi hj).2
theorem nMo_len {σ : qH} (hK : K σ) : (nMo σ).length = 6 ∧ (nSg σ).length = 6 := by
  obtain ⟨ke, sc, tp, ou, mo, sg, ho, mc, lf, lp, hN, f1, f2, f3, f4, f5, f6, -⟩ := hK.na
  obtain ⟨l1, c1, e1, -⟩ := hK.refs (na_mo f5).1
  obtain ⟨l2, c2, e2, -⟩ := hK.refs (na_mo f6).1
  rw [nMo_of ((nfi_of hN).trans rfl) c1, nSg_of ((nfi_of hN).trans rfl) c2]
  exact ⟨e1, e2⟩
def WMb (b : Nat) : List Nat := [17, 18, 20, 21, 22, 24, 25, 26, 28, 29, 30, b, b + 1, b + 3, b + 4, 16, 73, 74]
set_option maxRecDepth 20000 in
theorem WMb_a : ∀ a ∈ ArM, ∀ b ∈ ArM, a ≠ b → a ∉ WMb b ∧ a + 1 ∉ WMb b ∧ a + 3 ∉ WMb b ∧ a + 4 ∉ WMb b := by decide
set_option maxRecDepth 20000 in
theorem WMb_o : ∀ a ∈ [63, 68], ∀ b ∈ ArM, a ∉ WMb b ∧ a + 1 ∉ WMb b ∧ a + 3 ∉ WMb b ∧ a + 4 ∉ WMb b := by decide
theorem WMb_r : ∀ b ∈ ArM, 32 ∉ WMb b ∧ 34 ∉ WMb b ∧ 36 ∉ WMb b ∧ 38 ∉ WMb b ∧ 55 ∉ WMb b := by decide
theorem R7_mount {σ σ' : qH} {g : Int → Int} {f io mo x : Int} {lm lm1 : List Int32} {b : Nat} (h : R7 σ g f lm io mo) (hK : K σ) (hN : NA σ) (hb : b ∈ ArM) (hs : (nSg σ).getD 0 none = some b) (hF : Fr (WMb b) σ σ') (hm : 0 ≤ mo ∧ mo < 6) (e14 : afld σ' 16 14 = mo + 1) (em : nMo σ' = (nMo σ).set mo.toNat (some b)) (es : nSg σ' = (nSg σ).set 0 ((nMo σ).getD mo.toNat none)) (n9 : nfi 9 σ' = nfi 9 σ) (n10 : nfi 10 σ' = nfi 10 σ) (n11 : nfi 11 σ' = nfi 11 σ) (n12 : nfi 12 σ' = nfi 12 σ) (n13 : nfi 13 σ' = nfi 13 σ) (ht : STM σ' b g f x) (hl : MSET lm lm1 mo x) : R7 σ' g f lm1 io (mo + 1) := by
  obtain ⟨h1, h2, h3, h4, h5, h6, h7, h8, h9, h10, h11⟩ := h
  have hr := WMb_r b hb
  have e11 : afld σ' 16 11 = afld σ 16 11 := by rw [af_nfi, af_nfi, n11]
  have ln := nMo_len hK
  refine ⟨e11.trans h1, e14, ?_, ?_, ?_, ?_, ?_, h8.fr hK (by decide) hF hr.1 hr.2.1, h9.fr hK (by decide) hF hr.2.2.1 hr.2.2.2.1, h10.fr hN hF (by decide) hr.2.2.2.2, (rl_eq (hF.2.2.1 55 (by decide) hr.2.2.2.2)).trans h11⟩
  · intro t o q1 q2
    rw [n9] at q1
    rw [n10] at q2
    exact h3 t o q1 q2
  · intro t o q1 q2
    rw [n12] at q1
    rw [n13] at q2
    exact h4 t o q1 q2
  · rw [em, es, ← hs]
    exact DIS_swap h5 (by omega) ln.1 ln.2
  · intro q o qo
    rw [n10] at qo
    rw [e11] at q
    obtain ⟨ke, sc, tp, ou, mo9, sg, ho, mc, lf, lp, hc, f1, f2, f3, f4, -⟩ := hK.na
    have k10 : nfi 10 σ = some (.ref ou) := (nfi_of hc).trans rfl
    rw [k10] at qo
    have e9 : ou = o := by cases qo; rfl
    subst e9
    have w := WMb_o ou (mem2 f4) b hb
    exact (h6 q ou k10).fr hK hN (na_tp f4) hF w.1 w.2.1 w.2.2.1 w.2.2.2
  · intro q i b0 b1
    rw [em, gd_set (by omega)]
    by_cases c : i = mo
    · rw [if_pos (by omega)]
      have e := hl i b0
      rw [if_pos c] at e
      exact ⟨b, hb, rfl, by rw [e]; exact ht⟩
    · rw [if_neg (by omega)]
      obtain ⟨a, m1, m2, m3⟩ := h7 q i b0 (by omega)
      have e := hl i b0
      rw [if_neg c] at e
      have ne : a ≠ b := fun z => (h5 i.toNat 0 (by omega) (by omega)).2 (by rw [m2, hs, z])
      exact ⟨a, m1, m2, by rw [e]; exact m3.fr hK hN m1 hF (WMb_a a m1 b hb ne)⟩
/-- after index: mounts and stage have changed places -/
theorem R7_index {σ σ' : qH} {g : Int → Int} {f io mo n : Int} {lm lm1 : List Int32} (h : R7 σ g f lm io mo) (hK : K σ) (hN : NA σ) (hF : Fr WI σ σ') (e14 : afld σ' 16 14 = n) (em : nMo σ' = nSg σ) (es : nSg σ' = nMo σ) (n9 : nfi 9 σ' = nfi 9 σ) (n10 : nfi 10 σ' = nfi 10 σ) (n11 : nfi 11 σ' = nfi 11 σ) (n12 : nfi 12 σ' = nfi 13 σ) (n13 : nfi 13 σ' = nfi 12 σ) (hd : STD σ' (nSg σ) g f n) (hl : ∀ i : Int, 0 ≤ i → i < n → IXE g f i (gl lm1 i)) (q0 : FOn g f = 1) : R7 σ' g f lm1 io n := by
  obtain ⟨h1, h2, h3, h4, h5, h6, h7, h8, h9, h10, h11⟩ := h
  have e11 : afld σ' 16 11 = afld σ 16 11 := by rw [af_nfi, af_nfi, n11]
  refine ⟨e11.trans h1, e14, ?_, ?_, ?_, ?_, ?_, h8.fr hK (by decide) hF (by decide) (by decide), h9.fr hK (by decide) hF (by decide) (by decide), h10.fr hN hF (by decide) (by decide), (rl_eq (hF.2.2.1 55 (by decide) (by decide))).trans h11⟩
  · intro t o q1 q2
    rw [n9] at q1
    rw [n10] at q2
    exact h3 t o q1 q2
  · intro t o q1 q2
    rw [n12] at q1
    rw [n13] at q2
    exact fun z => h4 o t q2 q1 z.symm
  · rw [em, es]
    exact fun i j hi hj => ⟨fun ne => ⟨((h5 i j hi hj).1 ne).2, ((h5 i j hi hj).1 ne).1⟩, fun z => (h5 j i hj hi).2 z.symm⟩
  · intro q o qo
    rw [n10] at qo
    rw [e11] at q
    obtain ⟨ke, sc, tp, ou, mo9, sg, ho, mc, lf, lp, hc, f1, f2, f3, f4, -⟩ := hK.na
    have k10 : nfi 10 σ = some (.ref ou) := (nfi_of hc).trans rfl
    rw [k10] at qo
    have e9 : ou = o := by cases qo; rfl
    subst e9
    have w := (by decide : ∀ a ∈ [63, 68], a ∉ WI ∧ a + 1 ∉ WI ∧ a + 3 ∉ WI ∧ a + 4 ∉ WI) ou (mem2 f4)
    exact (h6 q ou k10).fr hK hN (na_tp f4) hF w.1 w.2.1 w.2.2.1 w.2.2.2
  · intro q i b0 b1
    obtain ⟨b, y, m1, m2, m3, m4⟩ := hd i b0 b1
    have e := IXE_one q0 m3 (hl i b0 b1)
    rw [em]
    exact ⟨b, m1, m2, by rw [← e]; exact m4⟩
