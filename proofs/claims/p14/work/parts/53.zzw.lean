/-! The object's fields that say which archives it has. -/
def nfi (i : Nat) (σ : qH) : Option Value := match (σ[16]? : Option qC) with
  | some (.inl (_, fs)) => fs[i]?
  | _ => none
def nsx (σ : qH) : Option Value × Option Value × Option Value × Option Value × Option Value × Option Value := (nfi 9 σ, nfi 10 σ, nfi 11 σ, nfi 12 σ, nfi 13 σ, nfi 14 σ)
theorem nfi_of {σ : qH} {ci i : Nat} {fs : List Value} (h : σ[16]? = some (.inl (ci, fs))) : nfi i σ = fs[i]? := by
  unfold nfi
  rw [h]
theorem nsx_of {σ : qH} {ci : Nat} {fs : List Value} (h : σ[16]? = some (.inl (ci, fs))) : nsx σ = (fs[9]?, fs[10]?, fs[11]?, fs[12]?, fs[13]?, fs[14]?) := by
  unfold nsx
  rw [nfi_of h, nfi_of h, nfi_of h, nfi_of h, nfi_of h, nfi_of h]
theorem nsx_tpf {σ σ' : qH} (h : nsx σ' = nsx σ) : tpf σ' = tpf σ := congrArg Prod.fst h
/-- what reading may change: no archive -/
def WR : List Nat := [16, 17, 18, 20, 21, 22, 24, 25, 26, 28, 29, 30, 41, 42, 44, 45, 51, 57, 59, 61]
theorem WR_P : ∀ r ∈ WR, r ∈ WP := by decide
