/-! The class beside the model: outer archive, mounts, stage. -/
def TNO (σ : qH) : Prop := ∀ tp ou : Nat, nfi 9 σ = some (.ref tp) → nfi 10 σ = some (.ref ou) → tp ≠ ou
/-- no archive stands twice among mounts and stage -/
def DIS (l1 l2 : List (Option Nat)) : Prop := ∀ i j : Nat, i < 6 → j < 6 → (i ≠ j → l1.getD i none ≠ l1.getD j none ∧ l2.getD i none ≠ l2.getD j none) ∧ l1.getD i none ≠ l2.getD j none
/-- the mounts have what the entries lm have -/
def MAM (σ : qH) (g : Int → Int) (f : Int) (lm : List Int32) (mo : Int) : Prop := ∀ i : Int, 0 ≤ i → i < mo → ∃ a : Nat, a ∈ ArM ∧ (nMo σ).getD i.toNat none = some a ∧ STM σ a g f (gl lm i)
def R7 (σ : qH) (g : Int → Int) (f : Int) (lm : List Int32) (io mo : Int) : Prop := afld σ 16 11 = io ∧ afld σ 16 14 = mo ∧ TNO σ ∧ MSD σ ∧ DIS (nMo σ) (nSg σ) ∧ OUX σ g f ∧ (io = 1 → MAM σ g f lm mo) ∧ CD σ 31 fixA 288 ∧ CD σ 35 (fun _ => 5) 32 ∧ AGR σ 55 ixn ∧ rl σ 55 = 9
def nint (v : Option Value) : Int := match v with
  | some (.int x) => x.toInt
  | _ => 0
theorem af_nfi {σ : qH} {i : Nat} : afld σ 16 i = nint (nfi i σ) := by
  unfold afld nfi nint
  cases (σ[16]? : Option qC) with
  | none => rfl
  | some c => cases c with
    | inl p => rfl
    | inr q => rfl
theorem nMo_fr {σ σ' : qH} {w : List Nat} (hK : K σ) (hF : Fr w σ σ') (hn : nsx σ' = nsx σ) (h3 : 73 ∉ w) (h4 : 74 ∉ w) : nMo σ' = nMo σ ∧ nSg σ' = nSg σ := by
  obtain ⟨ke, sc, tp, ou, mo, sg, ho, mc, lf, lp, hN, f1, f2, f3, f4, f5, f6, -⟩ := hK.na
  obtain ⟨l1, c1, -, -⟩ := hK.refs (na_mo f5).1
  obtain ⟨l2, c2, -, -⟩ := hK.refs (na_mo f6).1
  have n12 : nfi 12 σ = some (.ref mo) := (nfi_of hN).trans rfl
  have n13 : nfi 13 σ = some (.ref sg) := (nfi_of hN).trans rfl
  have d1 := hF.b.1 mo _ (by rcases f5 with rfl | rfl <;> assumption) (fun l z => by cases z) c1
  have d2 := hF.b.1 sg _ (by rcases f6 with rfl | rfl <;> assumption) (fun l z => by cases z) c2
  exact ⟨(nMo_of ((nsx_12 hn).trans n12) d1).trans (nMo_of n12 c1).symm, (nSg_of ((nsx_13 hn).trans n13) d2).trans (nSg_of n13 c2).symm⟩
theorem nsx_9 {σ σ' : qH} (h : nsx σ' = nsx σ) : nfi 9 σ' = nfi 9 σ := congrArg Prod.fst h
theorem nsx_10 {σ σ' : qH} (h : nsx σ' = nsx σ) : nfi 10 σ' = nfi 10 σ := congrArg (fun q => q.2.1) h
theorem nsx_11 {σ σ' : qH} (h : nsx σ' = nsx σ) : nfi 11 σ' = nfi 11 σ := congrArg (fun q => q.2.2.1) h
theorem nsx_14 {σ σ' : qH} (h : nsx σ' = nsx σ) : nfi 14 σ' = nfi 14 σ := congrArg (fun q => q.2.2.2.2.2) h
theorem R7.fr {σ σ' : qH} {g : Int → Int} {f io mo : Int} {lm : List Int32} {w : List Nat} (h : R7 σ g f lm io mo) (hK : K σ) (hN : NA σ) (hF : Fr w σ σ') (hn : nsx σ' = nsx σ) (a1 : ∀ ou : Nat, nfi 10 σ = some (.ref ou) → ou ∈ ArL → ou ∉ w ∧ ou + 1 ∉ w ∧ ou + 3 ∉ w ∧ ou + 4 ∉ w) (a2 : ∀ a ∈ ArM, a ∉ w ∧ a + 1 ∉ w ∧ a + 3 ∉ w ∧ a + 4 ∉ w) (a3 : ∀ r ∈ [73, 74, 32, 34, 36, 38, 55], r ∉ w) : R7 σ' g f lm io mo := by
  obtain ⟨h1, h2, h3, h4, h5, h6, h7, h8, h9, h10, h11⟩ := h
  have hm := nMo_fr hK hF hn (a3 73 (by decide)) (a3 74 (by decide))
  obtain ⟨ke, sc, tp, ou, mo9, sg, ho, mc, lf, lp, hc, f1, f2, f3, f4, -⟩ := hK.na
  have n10 : nfi 10 σ = some (.ref ou) := (nfi_of hc).trans rfl
  have e11 : afld σ' 16 11 = afld σ 16 11 := by rw [af_nfi, af_nfi, nsx_11 hn]
  refine ⟨e11.trans h1, ?_, ?_, ?_, ?_, ?_, ?_, h8.fr hK (by decide) hF (a3 32 (by decide)) (a3 34 (by decide)), h9.fr hK (by decide) hF (a3 36 (by decide)) (a3 38 (by decide)), h10.fr hN hF (by decide) (a3 55 (by decide)), (rl_eq (hF.2.2.1 55 (by decide) (a3 55 (by decide)))).trans h11⟩
  · rw [af_nfi, nsx_14 hn, ← af_nfi]
    exact h2
  · intro t o q1 q2
    rw [nsx_9 hn] at q1
    rw [nsx_10 hn] at q2
    exact h3 t o q1 q2
  · intro t o q1 q2
    rw [nsx_12 hn] at q1
    rw [nsx_13 hn] at q2
    exact h4 t o q1 q2
  · rw [hm.1, hm.2]
    exact h5
  · intro q o qo
    rw [nsx_10 hn] at qo
    rw [e11] at q
    have b := a1 o qo (by rw [n10] at qo; cases qo; exact na_tp f4)
    rw [n10] at qo
    cases qo
    exact (h6 q ou n10).fr hK hN (na_tp f4) hF b.1 b.2.1 b.2.2.1 b.2.2.2
  · intro q i b0 b1
    obtain ⟨a, m1, m2, m3⟩ := h7 q i b0 b1
    exact ⟨a, m1, by rw [hm.1]; exact m2, m3.fr hK hN m1 hF (a2 a m1)⟩
