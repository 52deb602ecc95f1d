/-! An archive that has been looked through. -/
def DRf (g : Int → Int) (f : Int) : Int := EN g f - W4 g (EN g f + 12)
def BAf (g : Int → Int) (f : Int) : Int := EN g f - W4 g (EN g f + 12) - W4 g (EN g f + 16)
def NEf (g : Int → Int) (f : Int) : Int := W2 g (EN g f + 8)
/-- the header of entry j, and where its data begin -/
def Hj (g : Int → Int) (f j : Int) : Int := hsf g (DRf g f) j
def Dj (g : Int → Int) (f j : Int) : Int := DT g (BAf g f) (hsf g (DRf g f) j)
/-- the archive a has the bytes g, f of them, and knows its entries -/
def SV (σ : qH) (a : Nat) (g : Int → Int) (f : Int) : Prop := rl σ (a + 1) = f ∧ AGR σ (a + 1) g ∧ FOn g f = 1 ∧ afld σ a 3 = NEf g f ∧ ∀ j : Int, 0 ≤ j → j < NEf g f → gl (il σ (a + 3)) j = Hj g f j ∧ gl (il σ (a + 4)) j = Dj g f j
theorem FO_ent {g : Int → Int} {f : Int} (h255 : ∀ k, 0 ≤ g k ∧ g k ≤ 255) (q : FOn g f = 1) : (0 ≤ NEf g f ∧ NEf g f ≤ 64) ∧ ∀ j : Int, 0 ≤ j → j < NEf g f → 0 ≤ Hj g f j ∧ Hj g f j + 46 + W2 g (Hj g f j + 28) ≤ f ∧ 0 ≤ Dj g f j ∧ Dj g f j + W4 g (Hj g f j + 20) ≤ f ∧ Hj g f j + 68 ≤ f := by
  obtain ⟨a1, -, -, -, a5, a6, a7, a8, -⟩ := FO_un q
  have hl := (EN_le g f).2 a1
  have w8 := W2_r h255 (EN g f + 8)
  have w12 := W4_r h255 (EN g f + 12)
  refine ⟨⟨w8.1, a5⟩, fun j j0 j1 => ?_⟩
  have hI := HS_in h255 a6 _ a8 (by omega) j.toNat (by unfold NEf at j1; omega)
  obtain ⟨v1, -, -, v4, -, v6⟩ := VK_un (AV_all _ a8 j j0 (by unfold NEf at j1; omega))
  have e1 : Hj g f j = HS g (EN g f - W4 g (EN g f + 12)) j.toNat := rfl
  have e2 : hsf g (EN g f - W4 g (EN g f + 12)) j = Hj g f j := rfl
  rw [e2] at v1 v4 v6
  rw [← e1] at hI
  have w28 := W2_r h255 (Hj g f j + 28)
  have w30 := W2_r h255 (Hj g f j + 30)
  have w32 := W2_r h255 (Hj g f j + 32)
  have w42 := W4_r h255 (Hj g f j + 42)
  unfold NXn at v4
  obtain ⟨-, -, -, -, l5⟩ := LR_un v6
  have e3 : Dj g f j = BAf g f + W4 g (Hj g f j + 42) + 30 + W2 g (Hj g f j + 28) + W2 g (BAf g f + W4 g (Hj g f j + 42) + 28) := rfl
  have e4 : BAf g f = EN g f - W4 g (EN g f + 12) - W4 g (EN g f + 16) := rfl
  rw [← e4] at l5 a7
  have wb := W2_r h255 (BAf g f + W4 g (Hj g f j + 42) + 28)
  have w20 := W4_r h255 (Hj g f j + 20)
  omega
theorem SV.fr {σ σ' : qH} {a : Nat} {g : Int → Int} {f : Int} {w : List Nat} (h : SV σ a g f) (hK : K σ) (hN : NA σ) (ha : a ∈ ArL) (hF : Fr w σ σ') (h0 : a ∉ w) (h1 : a + 1 ∉ w) (h3 : a + 3 ∉ w) (h4 : a + 4 ∉ w) : SV σ' a g f := by
  obtain ⟨q1, q2, q3, q4, q5⟩ := h
  have hr := (kdX_ar _ ha).2.2.1
  refine ⟨(rl_eq (hF.2.2.1 (a + 1) (List.mem_cons_of_mem _ hr) h1)).trans q1, q2.fr hN hF hr h1, q3, ?_, fun j a0 a1 => ?_⟩
  · obtain ⟨e, er, di, ba, fp, hc, -⟩ := hK.arc ha
    have hc' := hF.b.1 a _ h0 (fun l z => by cases z) hc
    rw [← q4]
    unfold afld
    rw [hc', hc]
  · rw [il_fr hK (kdX_ar _ ha).2.2.2.1 hF h3, il_fr hK (kdX_ar _ ha).2.2.2.2 hF h4]
    exact q5 j a0 a1
/-- references of an array -/
def rls (σ : qH) (i : Nat) : List (Option Nat) := match σ[i]? with
  | some (.inr (.inr (.inr (.inl l)))) => l
  | _ => []
theorem rls_of {σ : qH} {i : Nat} {l : List (Option Nat)} (h : σ[i]? = some (.inr (.inr (.inr (.inl l))))) : rls σ i = l := by
  unfold rls
  rw [h]
/-- the outer archive has the bytes g, f of them -/
def OUT (σ : qH) (g : Int → Int) (f : Int) : Prop := ∀ ou : Nat, nfi 10 σ = some (.ref ou) → SV σ ou g f
/-- the archive b stands at x on the stage -/
def STG (σ : qH) (x : Int) (b : Nat) : Prop := ∀ sg : Nat, nfi 13 σ = some (.ref sg) → (rls σ sg).getD x.toNat none = some b
/-- entry y can be mounted: it is read, and is an archive -/
def MNT (g : Int → Int) (f y : Int) (o : Int → Int) : Prop := RD g (Hj g f y) (Dj g f y) o ∧ FOn o (W4 g (Hj g f y + 24)) = 1
theorem ArM_8 : ∀ u ∈ ArM, mst (u + 1) = 8000 := by decide
/-- the mounts, and the stage -/
def nMo (σ : qH) : List (Option Nat) := match nfi 12 σ with
  | some (.ref i) => rls σ i
  | _ => []
def nSg (σ : qH) : List (Option Nat) := match nfi 13 σ with
  | some (.ref i) => rls σ i
  | _ => []
theorem nMo_of {σ : qH} {i : Nat} {l : List (Option Nat)} (h : nfi 12 σ = some (.ref i)) (hc : σ[i]? = some (.inr (.inr (.inr (.inl l))))) : nMo σ = l := by
  unfold nMo
  rw [h]
  exact rls_of hc
theorem nSg_of {σ : qH} {i : Nat} {l : List (Option Nat)} (h : nfi 13 σ = some (.ref i)) (hc : σ[i]? = some (.inr (.inr (.inr (.inl l))))) : nSg σ = l := by
  unfold nSg
  rw [h]
  exact rls_of hc
theorem nsx_12 {σ σ' : qH} (h : nsx σ' = nsx σ) : nfi 12 σ' = nfi 12 σ := congrArg (fun q => q.2.2.2.1) h
theorem nsx_13 {σ σ' : qH} (h : nsx σ' = nsx σ) : nfi 13 σ' = nfi 13 σ := congrArg (fun q => q.2.2.2.2.1) h
def OUX (σ : qH) (g : Int → Int) (f : Int) : Prop := afld σ 16 11 = 1 → OUT σ g f
/-- mounts and stage are two arrays -/
def MSD (σ : qH) : Prop := ∀ mo sg : Nat, nfi 12 σ = some (.ref mo) → nfi 13 σ = some (.ref sg) → mo ≠ sg
/-- the archive b is what entry y has -/
def STM (σ : qH) (b : Nat) (g : Int → Int) (f y : Int) : Prop := ∃ o : Int → Int, MNT g f y o ∧ SV σ b o (W4 g (Hj g f y + 24))
def NMT (g : Int → Int) (f y : Int) : Prop := ∀ o : Int → Int, ¬ MNT g f y o
