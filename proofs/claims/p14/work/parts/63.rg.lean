/-! What a call needs of the object, and what it leaves of the tape. -/
set_option maxRecDepth 10000 in
theorem WI_P : ∀ r ∈ WI, r ∈ WP := by decide
set_option maxRecDepth 10000 in
set_option maxHeartbeats 1000000 in
theorem WMb_P : ∀ b ∈ ArM, ∀ r ∈ WMb b, r ∈ WP := by decide
theorem tape_keep {σ σ' : qH} {w : List Nat} (hK : K σ) (hN : NA σ) (hF : Fr w σ σ') (hw : ∀ r ∈ w, r ∈ WP) (h9 : nfi 9 σ' = nfi 9 σ) : tl σ' = tl σ ∧ ∀ g : Int → Int, AGT σ g → AGT σ' g := by
  have hp : tpf σ' = tpf σ := h9
  exact ⟨tl_keep hK (hF.sub hw) hp, fun g a => a.keep hK hN (hF.sub hw) hp⟩
theorem na_910 {σ : qH} (hK : K σ) : ∃ tp ou : Nat, nfi 9 σ = some (.ref tp) ∧ nfi 10 σ = some (.ref ou) := by
  obtain ⟨ke, sc, tp, ou, mo, sg, ho, mc, lf, lp, hc, -⟩ := hK.na
  exact ⟨tp, ou, (nfi_of hc).trans rfl, (nfi_of hc).trans rfl⟩
theorem na_st {σ : qH} (hK : K σ) : ∃ b : Nat, b ∈ ArM ∧ (nSg σ).getD 0 none = some b ∧ STG σ 0 b := by
  obtain ⟨ke, sc, tp, ou, mo, sg, ho, mc, lf, lp, hc, f1, f2, f3, f4, f5, f6, -⟩ := hK.na
  obtain ⟨l, c, hl, hm⟩ := hK.refs (na_mo f6).1
  have n13 : nfi 13 σ = some (.ref sg) := (nfi_of hc).trans rfl
  cases l with
  | nil => exact absurd hl (by decide)
  | cons x r =>
    obtain ⟨a, e, ha⟩ := hm x (List.mem_cons_self ..)
    subst e
    exact ⟨a, ha, by rw [nSg_of n13 c]; rfl, STG_of (x := 0) n13 c rfl⟩
/-- mount, as the class leaves it -/
def HMo (σ' : qH) (g1 : Int → Int) (f1 : Int) (lm : List Int32) (io mo x z : Int) : Prop := (z = 0 ∧ σ'[146]? = some (.inr (.inr (.inl [Int64.ofInt (mo + 1)]))) ∧ io = 1 ∧ 0 ≤ x ∧ x < NEf g1 f1 ∧ mo < 6 ∧ MOK g1 f1 x ∧ ∀ lm1 : List Int32, MSET lm lm1 mo x → R7 σ' g1 f1 lm1 io (mo + 1)) ∨ (z ≠ 0 ∧ (io = 1 → 0 ≤ x → x < NEf g1 f1 → mo < 6 → NMT g1 f1 x) ∧ R7 σ' g1 f1 lm io mo)
/-- mount, as the model leaves it -/
def MMo (g1 : Int → Int) (f1 : Int) (lm : List Int32) (io mo x c : Int) (lm1 : List Int32) (mo1 : Int) : Prop := (c = 0 → io = 1 ∧ 0 ≤ x ∧ x < NEf g1 f1 ∧ mo < 6 ∧ mo1 = mo + 1) ∧ (c = 0 → MOK g1 f1 x) ∧ (c = 0 → MSET lm lm1 mo x) ∧ (c ≠ 0 → mo1 = mo ∧ lm1 = lm) ∧ (c ≠ 0 → io = 1 → 0 ≤ x → x < NEf g1 f1 → mo < 6 → NMT g1 f1 x)
theorem mount_both {σ' : qH} {g1 : Int → Int} {f1 io mo x z c mo1 : Int} {lm lm1 : List Int32} (h : HMo σ' g1 f1 lm io mo x z) (q : MMo g1 f1 lm io mo x c lm1 mo1) : R7 σ' g1 f1 lm1 io mo1 := by
  obtain ⟨p1, p2, p3, p4, p5⟩ := q
  rcases h with ⟨hz, -, i1, x0, x1, m6, hk, hr⟩ | ⟨hz, hn, hr⟩
  · by_cases hc : c = 0
    · rw [(p1 hc).2.2.2.2]
      exact hr lm1 (p3 hc)
    · obtain ⟨o, ho⟩ := hk
      exact absurd ho (p5 hc i1 x0 x1 m6 o)
  · by_cases hc : c = 0
    · obtain ⟨a1, a2, a3, a4, -⟩ := p1 hc
      obtain ⟨o, ho⟩ := p2 hc
      exact absurd ho (hn a1 a2 a3 a4 o)
    · obtain ⟨e1, e2⟩ := p4 hc
      rw [e1, e2]
      exact hr
def IXL (g1 : Int → Int) (f1 : Int) (lm1 : List Int32) (n : Int) : Prop := ∀ i : Int, 0 ≤ i → i < n → IXE g1 f1 i (gl lm1 i)
/-- index, as the class leaves it -/
def HIx (σ' : qH) (g1 : Int → Int) (f1 : Int) (lm : List Int32) (io mo z : Int) : Prop := (z = 0 ∧ io = 1 ∧ ∃ n : Int, σ'[146]? = some (.inr (.inr (.inl [Int64.ofInt n]))) ∧ IDX g1 f1 n ∧ ∀ lm1 : List Int32, IXL g1 f1 lm1 n → R7 σ' g1 f1 lm1 io n) ∨ (z ≠ 0 ∧ (io = 1 → NIX g1 f1) ∧ R7 σ' g1 f1 lm io mo)
/-- index, as the model leaves it -/
def MIx (g1 : Int → Int) (f1 : Int) (lm : List Int32) (io mo c : Int) (lm1 : List Int32) (mo1 : Int) : Prop := (c = 0 → io = 1 ∧ IXM g1 f1 lm1 mo1) ∧ (c ≠ 0 → mo1 = mo ∧ lm1 = lm) ∧ (c ≠ 0 → io = 1 → NIX g1 f1)
theorem index_both {σ' : qH} {g1 : Int → Int} {f1 io mo z c mo1 : Int} {lm lm1 : List Int32} (h : HIx σ' g1 f1 lm io mo z) (q : MIx g1 f1 lm io mo c lm1 mo1) (fo : io = 1 → FOn g1 f1 = 1) : R7 σ' g1 f1 lm1 io mo1 := by
  obtain ⟨p1, p2, p3⟩ := q
  rcases h with ⟨hz, i1, n, -, hd, hr⟩ | ⟨hz, hn, hr⟩
  · by_cases hc : c = 0
    · obtain ⟨-, h1, h2⟩ := p1 hc
      have e : mo1 = n := IDX_one (fo i1) h1 hd
      rw [e]
      rw [e] at h2
      exact hr lm1 (fun i a b => (h2 i a b).1)
    · exact absurd hd (p3 hc i1 n)
  · by_cases hc : c = 0
    · obtain ⟨i1, h1, -⟩ := p1 hc
      exact absurd h1 (hn i1 mo1)
    · obtain ⟨e1, e2⟩ := p2 hc
      rw [e1, e2]
      exact hr
/-- open, as the class and as the model leave it -/
def HOp (σ' : qH) (g : Int → Int) (t : Int) (g1 : Int → Int) (f1 : Int) (lm : List Int32) (io mo z : Int) : Prop := (FOn g t = 1 → z = 0 ∧ σ'[146]? = some (.inr (.inr (.inl [Int64.ofInt (W2 g (EN g t + 8))]))) ∧ R7 σ' g t lm 1 0) ∧ (FOn g t = 0 → z = 1 ∧ R7 σ' g1 f1 lm io mo)
def MOp (g : Int → Int) (t : Int) (g1 : Int → Int) (f1 io mo z c : Int) (g1' : Int → Int) (f1' io' mo' : Int) : Prop := (FOn g t = 1 → (c = 0 ∧ z = W2 g (EN g t + 8)) ∧ io' = 1 ∧ mo' = 0 ∧ g1' = g ∧ f1' = t) ∧ (FOn g t = 0 → c = 1 ∧ io' = io ∧ mo' = mo ∧ g1' = g1 ∧ f1' = f1)
theorem open_both {σ' : qH} {g g1 g1' : Int → Int} {t f1 io mo z z' c f1' io' mo' : Int} {lm : List Int32} (h : HOp σ' g t g1 f1 lm io mo z) (q : MOp g t g1 f1 io mo z' c g1' f1' io' mo') : R7 σ' g1' f1' lm io' mo' := by
  rcases FOn_01 g t with hF | hF
  · obtain ⟨-, e1, e2, e3, e4⟩ := q.2 hF
    rw [e1, e2, e3, e4]
    exact (h.2 hF).2
  · obtain ⟨-, e1, e2, e3, e4⟩ := q.1 hF
    rw [e1, e2, e3, e4]
    exact (h.1 hF).2.2
/-- count, as the class and as the model answer -/
def HCt (σ : qH) (x z : Int) : Prop := (x = -1 → afld σ 16 11 = 1 → z = 1 + afld σ 16 14) ∧ (x = -1 → afld σ 16 11 = 0 → z = 0) ∧ (x ≠ -1 → ¬ (afld σ 16 11 = 1 ∧ 0 ≤ x ∧ x ≤ afld σ 16 14) → z = -1) ∧ (x ≠ -1 → afld σ 16 11 = 1 ∧ 0 ≤ x ∧ x ≤ afld σ 16 14 → CNT σ x z)
def MCt (g1 : Int → Int) (f1 : Int) (lm : List Int32) (io mo x z : Int) : Prop := (x = -1 → io = 1 → z = 1 + mo) ∧ (x = -1 → io = 0 → z = 0) ∧ (x ≠ -1 → ¬ (io = 1 ∧ 0 ≤ x ∧ x ≤ mo) → z = -1) ∧ (x = 0 → io = 1 → z = NEf g1 f1) ∧ (1 ≤ x → io = 1 → x ≤ mo → ENx g1 f1 (gl lm (x - 1)) z)
