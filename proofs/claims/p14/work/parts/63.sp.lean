/-! The typed name and the kept row, class beside model. -/
theorem TX.one {ξ : Nat → Option (Nat × List Int32)} {d j pc : Nat} {lv : qLV} {st : List Value} {σ : qH} {n m : Nat} {o o' : (Option Value ⊕ Nat) × qH} (h : exx ξ n d j pc lv st σ = some o) (q : exx ξ m d j pc lv st σ = some o') : o = o' := by
  have h1 := exx_fuel h (Nat.le_max_left n m)
  have h2 := exx_fuel q (Nat.le_max_right n m)
  rw [h1] at h2
  exact Option.some.inj h2
/-- what holds of a run's end for each r, holds for all at once -/
theorem TX.all {α : Type} {ξ : Nat → Option (Nat × List Int32)} {d j pc : Nat} {lv : qLV} {st : List Value} {σ : qH} {P : α → Prop} {Q : α → Option Value ⊕ Nat → qH → Prop} (r0 : α) (h0 : P r0) (h : ∀ r, P r → TX ξ d j pc lv st σ (Q r)) : TX ξ d j pc lv st σ (fun o s => ∀ r, P r → Q r o s) := by
  obtain ⟨n, o, s, e, -⟩ := h r0 h0
  refine ⟨n, o, s, e, fun r hr => ?_⟩
  obtain ⟨m, o', s', e', q'⟩ := h r hr
  have k := TX.one e e'
  cases k
  exact q'
def KEP (σ : qH) (r3 : Int → Int) (f3 : Int) : Prop := ∃ ke sc : Nat, nfi 7 σ = some (.ref ke) ∧ nfi 8 σ = some (.ref sc) ∧ ke ≠ sc ∧ AGR σ ke r3 ∧ rl σ ke = f3
theorem K.ks {σ : qH} {ke sc : Nat} (hK : K σ) (h7 : nfi 7 σ = some (.ref ke)) (h8 : nfi 8 σ = some (.ref sc)) : (ke = 59 ∨ ke = 61) ∧ (sc = 59 ∨ sc = 61) := by
  obtain ⟨ke', sc', tp, ou, mo, sg, ho, mc, lf, lp, hc, f1, f2, -⟩ := hK.na
  have q7 : nfi 7 σ = some (.ref ke') := (nfi_of hc).trans rfl
  have q8 : nfi 8 σ = some (.ref sc') := (nfi_of hc).trans rfl
  have e7 : ke = ke' := by
    rw [h7] at q7
    cases q7
    rfl
  have e8 : sc = sc' := by
    rw [h8] at q8
    cases q8
    rfl
  rw [e7, e8]
  exact ⟨f1, f2⟩
theorem KEP.kpr {σ σ' : qH} {r3 : Int → Int} {f3 : Int} (h : KEP σ r3 f3) (hk : nsk σ' = nsk σ) (hp : ∀ ke sc : Nat, nfi 7 σ = some (.ref ke) → nfi 8 σ = some (.ref sc) → ke ≠ sc → CT σ' ke = CT σ ke ∧ rl σ' ke = rl σ ke) : KEP σ' r3 f3 := by
  obtain ⟨ke, sc, h7, h8, hn, ha, hl⟩ := h
  obtain ⟨c, l⟩ := hp ke sc h7 h8 hn
  exact ⟨ke, sc, (nsk_7 hk).trans h7, (nsk_8 hk).trans h8, hn, ha.keep c l, l.trans hl⟩
theorem KEP.fr {σ σ' : qH} {r3 : Int → Int} {f3 : Int} {w : List Nat} (h : KEP σ r3 f3) (hK : K σ) (hN : NA σ) (hF : Fr w σ σ') (hk : nsk σ' = nsk σ) (hw : ∀ ke ∈ [59, 61], ∀ sc ∈ [59, 61], nfi 8 σ = some (.ref sc) → ke ≠ sc → ke ∉ w) : KEP σ' r3 f3 := h.kpr hk (fun ke sc h7 h8 hn => by
  obtain ⟨f1, f2⟩ := hK.ks h7 h8
  have hw1 := hw ke (mem2 f1) sc (mem2 f2) h8 hn
  exact ⟨(hF.b.2 hN).2 ke (na_ke f1) hw1, rl_eq (hF.2.2.1 ke (List.mem_cons_of_mem _ (na_ke f1)) hw1)⟩)
theorem nsk_fr {σ σ' : qH} {w : List Nat} (hK : K σ) (hF : Fr w σ σ') (hw : 16 ∉ w) : nsk σ' = nsk σ := by
  obtain ⟨ke, sc, tp, ou, mo, sg, ho, mc, lf, lp, hc, -⟩ := hK.na
  rw [nsk_of (hF.b.1 16 _ hw (fun l z => by cases z) hc), nsk_of hc]
theorem nsk_SM {σ σ' : qH} (hK : K σ) (h : SM σ σ') : nsk σ' = nsk σ := by
  unfold nsk
  rw [nfi_SM hK h, nfi_SM hK h]
theorem CT_SM {σ σ' : qH} {r : Nat} (hK : K σ) (h : SM σ σ') (hr : r ∈ RwL) : CT σ' r = CT σ r ∧ rl σ' r = rl σ r := by
  have hlt := RwL_lt _ hr
  have hl := hK.len
  refine ⟨CT_same hK hr (SM.br hK h hr) (fun b l _ e => ?_), rl_eq (h r (Or.inl (by omega)) (by omega))⟩
  rw [h b (hK.byt e).2 (List.getElem?_eq_some_iff.mp e).1]
  exact e
theorem KEP_SM {σ σ' : qH} {r3 : Int → Int} {f3 : Int} (hK : K σ) (h : SM σ σ') (q : KEP σ r3 f3) : KEP σ' r3 f3 := q.kpr (nsk_SM hK h) (fun ke sc h7 h8 _ => CT_SM hK h (na_ke (hK.ks h7 h8).1))
theorem TYQ.fr {σ σ' : qH} {ln : List Int32} {ns : Int} {w : List Nat} (h : TYQ σ ln ns) (hN : NA σ) (hF : Fr w σ σ') (hw : 51 ∉ w) : TYQ σ' ln ns := ⟨h.1.fr hN hF (by decide) hw, (rl_eq (hF.2.2.1 51 (by decide) hw)).trans h.2⟩
theorem TYQ_SM {σ σ' : qH} {ln : List Int32} {ns : Int} (hK : K σ) (h : SM σ σ') (q : TYQ σ ln ns) : TYQ σ' ln ns := by
  have e := CT_SM (r := 51) hK h (by decide)
  exact ⟨q.1.keep e.1 e.2, e.2.trans q.2⟩
theorem TYQ_0 {σ : qH} {ln : List Int32} (h : rl σ 51 = 0) : TYQ σ ln 0 := ⟨AGR.none h, h⟩
/-- all that the law keeps of the class beside the model -/
def R9 (σ : qH) (g : Int → Int) (f : Int) (lm : List Int32) (io mo : Int) (ln : List Int32) (ns : Int) (r3 : Int → Int) (f3 : Int) : Prop := R7 σ g f lm io mo ∧ TYQ σ ln ns ∧ KEP σ r3 f3 ∧ (io = 1 ∨ mo = 0)
/-- octet -/
def OCR (r3 : Int → Int) (f3 x z : Int) : Prop := (0 ≤ x → x < f3 → z = r3 x) ∧ (x < 0 ∨ f3 ≤ x → z = -1)
theorem OCR_one {r3 : Int → Int} {f3 x z z' : Int} (h : OCR r3 f3 x z) (q : OCR r3 f3 x z') : z = z' := by
  by_cases c : 0 ≤ x ∧ x < f3
  · rw [h.1 c.1 c.2, q.1 c.1 c.2]
  · rw [h.2 (by omega), q.2 (by omega)]
/-- read -/
def RDR (g : Int → Int) (f : Int) (lm : List Int32) (io mo x y k w : Int) (r3 : Int → Int) (f3 : Int) (q3 : Int → Int) (e3 : Int) : Prop := (k = 0 → RDM g f lm io mo x y w q3 e3) ∧ (k = 1 → NHE g f lm io mo x y) ∧ (k = 2 → RDN g f lm io mo x y) ∧ (0 ≤ k ∧ k ≤ 2) ∧ (k ≠ 0 → q3 = r3 ∧ e3 = f3)
