/-! The class is the same: only the model or what lies behind has changed. -/
def SM (σ σ' : qH) : Prop := ∀ i : Nat, (i < 137 ∨ 146 < i) → i < σ.length → σ'[i]? = σ[i]?
theorem SM.fm {σ σ' : qH} (h : FM σ σ') : SM σ σ' := fun i a _ => h.1 i (by omega)
theorem SM.push {σ : qH} {c : qC} : SM σ (σ ++ [c]) := fun i _ b => List.getElem?_append_left b
theorem SM.out {σ : qH} {c : qC} : SM σ (σ.set 146 c) := fun i a _ => List.getElem?_set_ne (by omega)
theorem SM.br {σ σ' : qH} (hK : K σ) (h : SM σ σ') {r : Nat} (hr : r ∈ RwL) : bref σ' r = bref σ r := by
  have := RwL_lt r hr
  have := hK.len
  unfold bref
  rw [h r (Or.inl (by omega)) (by omega)]
theorem NA_SM {σ σ' : qH} (hK : K σ) (h : SM σ σ') (n : NA σ) : NA σ' := fun r hr q hq d => by
  rw [SM.br hK h hr, SM.br hK h hq]
  exact n r hr q hq d
theorem AGT_SM {σ σ' : qH} {g : Int → Int} (hK : K σ) (h : SM σ σ') (a : AGT σ g) : AGT σ' g := by
  obtain ⟨ke, sc, tp, ou, mo, sg, ho, mc, lf, lp, hc, f1, f2, f3, -⟩ := hK.na
  have e1 : tpf σ = some (.ref tp) := tpf_of hc rfl
  have hl := hK.len
  have hr : tp + 1 ∈ RwL := by rcases f3 with rfl | rfl <;> decide
  have hlt := RwL_lt _ hr
  refine ⟨tp, (tpf_eq (h 16 (by omega) (by omega))).trans e1, (a.at e1).keep (CT_same hK hr (SM.br hK h hr) (fun b l _ e => ?_)) (rl_eq (h (tp + 1) (by omega) (by omega)))⟩
  rw [h b (hK.byt e).2 (List.getElem?_eq_some_iff.mp e).1]
  exact e
theorem AGR_SM {σ σ' : qH} {r : Nat} {g : Int → Int} (hK : K σ) (h : SM σ σ') (hr : r ∈ RwL) (a : AGR σ r g) : AGR σ' r g := by
  have hl := hK.len
  have hlt := RwL_lt _ hr
  refine a.keep (CT_same hK hr (SM.br hK h hr) (fun b l _ e => ?_)) (rl_eq (h r (by omega) (by omega)))
  rw [h b (hK.byt e).2 (List.getElem?_eq_some_iff.mp e).1]
  exact e
theorem cel_SM {σ σ' : qH} {i : Nat} (hK : K σ) (h : SM σ σ') (hi : i < 137) : σ'[i]? = σ[i]? := h i (Or.inl hi) (by have := hK.len; omega)
theorem il_SM {σ σ' : qH} {i : Nat} (hK : K σ) (h : SM σ σ') (hi : i < 137) : il σ' i = il σ i := by
  unfold il
  rw [cel_SM hK h hi]
theorem af_SM {σ σ' : qH} {i j : Nat} (hK : K σ) (h : SM σ σ') (hi : i < 137) : afld σ' i j = afld σ i j := by
  unfold afld
  rw [cel_SM hK h hi]
theorem SV_SM {σ σ' : qH} {a : Nat} {g : Int → Int} {f : Int} (hK : K σ) (h : SM σ σ') (ha : a ∈ ArL) (q : SV σ a g f) : SV σ' a g f := by
  obtain ⟨q1, q2, q3, q4, q5⟩ := q
  have hl := hK.len
  have la : a + 4 < 137 := (by decide : ∀ a ∈ ArL, a + 4 < 137) a ha
  have hr := (kdX_ar _ ha).2.2.1
  refine ⟨(rl_eq (h (a + 1) (by omega) (by omega))).trans q1, AGR_SM hK h hr q2, q3, (af_SM hK h (by omega)).trans q4, fun j b0 b1 => ?_⟩
  rw [il_SM hK h (by omega), il_SM hK h (by omega)]
  exact q5 j b0 b1
theorem nfi_SM {σ σ' : qH} {i : Nat} (hK : K σ) (h : SM σ σ') : nfi i σ' = nfi i σ := by
  unfold nfi
  rw [cel_SM hK h (by decide)]
theorem nMo_SM {σ σ' : qH} (hK : K σ) (h : SM σ σ') : nMo σ' = nMo σ ∧ nSg σ' = nSg σ := by
  obtain ⟨ke, sc, tp, ou, mo, sg, ho, mc, lf, lp, hN, f1, f2, f3, f4, f5, f6, -⟩ := hK.na
  obtain ⟨l1, c1, -, -⟩ := hK.refs (na_mo f5).1
  obtain ⟨l2, c2, -, -⟩ := hK.refs (na_mo f6).1
  have n12 : nfi 12 σ = some (.ref mo) := (nfi_of hN).trans rfl
  have n13 : nfi 13 σ = some (.ref sg) := (nfi_of hN).trans rfl
  have d1 := (cel_SM hK h (show mo < 137 by omega)).trans c1
  have d2 := (cel_SM hK h (show sg < 137 by omega)).trans c2
  exact ⟨(nMo_of ((nfi_SM hK h).trans n12) d1).trans (nMo_of n12 c1).symm, (nSg_of ((nfi_SM hK h).trans n13) d2).trans (nSg_of n13 c2).symm⟩
theorem R7_SM {σ σ' : qH} {g : Int → Int} {f io mo : Int} {lm : List Int32} (hK : K σ) (h : SM σ σ') (r : R7 σ g f lm io mo) : R7 σ' g f lm io mo := by
  obtain ⟨h1, h2, h3, h4, h5, h6, h7, h8, h9, h10, h11⟩ := r
  have hm := nMo_SM hK h
  refine ⟨(af_SM hK h (by decide)).trans h1, (af_SM hK h (by decide)).trans h2, ?_, ?_, ?_, ?_, ?_, ?_, ?_, AGR_SM hK h (by decide) h10, (rl_eq (cel_SM hK h (by decide))).trans h11⟩
  · intro t o q1 q2
    rw [nfi_SM hK h] at q1 q2
    exact h3 t o q1 q2
  · intro t o q1 q2
    rw [nfi_SM hK h] at q1 q2
    exact h4 t o q1 q2
  · rw [hm.1, hm.2]
    exact h5
  · intro q o qo
    rw [nfi_SM hK h] at qo
    rw [af_SM hK h (by decide)] at q
    have s := h6 q o qo
    obtain ⟨ke, sc, tp, ou, mo9, sg, ho, mc, lf, lp, hc, f1, f2, f3, f4, -⟩ := hK.na
    have k10 : nfi 10 σ = some (.ref ou) := (nfi_of hc).trans rfl
    rw [k10] at qo
    have e9 : ou = o := by cases qo; rfl
    subst e9
    exact SV_SM hK h (na_tp f4) s
  · intro q i b0 b1
    obtain ⟨a, m1, m2, o, m3, m4⟩ := h7 q i b0 b1
    exact ⟨a, m1, by rw [hm.1]; exact m2, o, m3, SV_SM hK h (ArM_L m1) m4⟩
  · unfold CD at h8 ⊢
    rw [il_SM hK h (by decide), il_SM hK h (by decide)]
    exact h8
  · unfold CD at h9 ⊢
    rw [il_SM hK h (by decide), il_SM hK h (by decide)]
    exact h9
