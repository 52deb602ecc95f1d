/-! number, find, read: from the class's contracts to the common words. -/
theorem R7_ary {σ : qH} {g : Int → Int} {f io mo : Int} {lm : List Int32} (x : Int) (h : R7 σ g f lm io mo) (h255 : B255 g) (hfo : io = 1 → FOn g f = 1) : ∃ (o : Int → Int) (fo : Int), B255 o ∧ (∀ a : Nat, AOF σ x a → SV σ a o fo) ∧ (io = 1 ∧ 0 ≤ x ∧ x ≤ mo → ARX g f lm x o fo ∧ FOn o fo = 1) := by
  obtain ⟨O, F, a1, a2, a3⟩ := R7_all h h255 hfo
  exact ⟨O x, F x, a1 x, a2 x, a3 x⟩
theorem NBR_y {σ : qH} {g o u : Int → Int} {f fo io mo ns x z : Int} {lm : List Int32} (i1 : afld σ 16 11 = io) (i2 : afld σ 16 14 = mo) (hl : rl σ 51 = ns) (hx : io = 1 ∧ 0 ≤ x ∧ x ≤ mo → ARX g f lm x o fo ∧ FOn o fo = 1) (hv : afld σ 16 11 = 1 ∧ 0 ≤ x ∧ x ≤ afld σ 16 14) (h1 : z ≠ -1 → NMD o fo u 0 (rl σ 51) z) (h2 : z = -1 → NNM o fo u 0 (rl σ 51)) : NBR g f lm io mo u ns x 0 z := by
  rw [i1, i2] at hv
  rw [hl] at h1 h2
  obtain ⟨b1, b2⟩ := hx hv
  exact ⟨fun _ => ⟨hv, o, fo, b1, b2, h1, h2⟩, fun q => absurd q (by decide), by decide⟩
theorem NBR_n {σ : qH} {g u : Int → Int} {f io mo ns x : Int} {lm : List Int32} (i1 : afld σ 16 11 = io) (i2 : afld σ 16 14 = mo) (h : ¬ (afld σ 16 11 = 1 ∧ 0 ≤ x ∧ x ≤ afld σ 16 14)) : NBR g f lm io mo u ns x 1 0 := by
  rw [i1, i2] at h
  exact ⟨fun q => absurd q (by decide), fun _ => h, by decide⟩
theorem FNR_y {σ : qH} {O : Int → Int → Int} {F : Int → Int} {g u : Int → Int} {f io mo ns x z : Int} {lm : List Int32} (i2 : afld σ 16 14 = mo) (hl : rl σ 51 = ns) (hio : io = 1 ∨ mo = 0) (hA : ∀ i : Int, io = 1 ∧ 0 ≤ i ∧ i ≤ mo → ARX g f lm i (O i) (F i) ∧ FOn (O i) (F i) = 1) (hx : 1 ≤ x) (h : FNZ O F (afld σ 16 14) u (rl σ 51) x z) : FNR g f lm mo u ns x 0 z := by
  rw [i2, hl] at h
  exact ⟨fun _ => ⟨hx, FNZ_FNM hx hio hA h⟩, fun q => absurd q (by decide), by decide⟩
theorem FNR_n {g u : Int → Int} {f mo ns x : Int} {lm : List Int32} (h : x < 1) : FNR g f lm mo u ns x 1 0 := ⟨fun q => absurd q (by decide), fun _ => h, by decide⟩
theorem nb_SM {σ σ' : qH} {r : Nat} (hK : K σ) (h : SM σ σ') (hr : r ∈ RwL) : nb σ' r = nb σ r := by
  obtain ⟨e1, e2⟩ := CT_SM hK h hr
  funext k
  unfold nb rb
  rw [e1, e2]
theorem HRd_y {σ s s' : qH} {g o : Int → Int} {f fo io mo x y z : Int} {lm : List Int32} {ke sc : Nat} (i1 : afld σ 16 11 = io) (i2 : afld σ 16 14 = mo) (hKs : K s) (hm : SM s s') (hx : io = 1 ∧ 0 ≤ x ∧ x ≤ mo → ARX g f lm x o fo) (hv : afld σ 16 11 = 1 ∧ 0 ≤ x ∧ x ≤ afld σ 16 14 ∧ 0 ≤ y ∧ y < NEf o fo) (hks : ke ≠ sc) (fsc : sc = 59 ∨ sc = 61) (m7 : nfi 7 s = some (.ref sc)) (m8 : nfi 8 s = some (.ref ke)) (hz : z = rl s sc) (hal : ∀ r : Int → Int, AGB r o fo → RD r (Hj o fo y) (Dj o fo y) (nb s sc) ∧ rl s sc = W4 r (Hj o fo y + 24)) : HRd s' g f lm io mo x y 0 z := by
  rw [i1, i2] at hv
  obtain ⟨v1, v2, v3, v4⟩ := hv
  have e := (CT_SM hKs hm (na_ke fsc)).2
  refine ⟨fun _ => ⟨⟨v1, v2, v3⟩, o, fo, sc, ke, hx ⟨v1, v2, v3⟩, v4, (nfi_SM hKs hm).trans m7, (nfi_SM hKs hm).trans m8, fun q => hks q.symm, by rw [e]; exact hz, fun r hr => ?_⟩, fun q => absurd q (by decide), fun q => absurd q (by decide), by decide⟩
  rw [nb_SM hKs hm (na_ke fsc), e]
  exact hal r hr
theorem NRE_rdr {σ s' : qH} {g o : Int → Int} {f fo io mo x y k : Int} {lm : List Int32} {e : Nat} (i1 : afld σ 16 11 = io) (i2 : afld σ 16 14 = mo) (hx : io = 1 ∧ 0 ≤ x ∧ x ≤ mo → ARX g f lm x o fo) (h0 : AGB o o fo) (hal : ∀ r : Int → Int, AGB r o fo → NRE σ o fo r x y e) (he : (e = 1 ∧ k = 1) ∨ (e = 0 ∧ k = 2)) : HRd s' g f lm io mo x y k 0 := by
  rcases he with ⟨a, b⟩ | ⟨a, b⟩
  · subst b
    have h1 := (hal o h0).1 a
    rw [i1, i2] at h1
    exact ⟨fun q => absurd q (by decide), fun _ q1 q2 q3 => ⟨o, fo, hx ⟨q1, q2, q3⟩, fun q => h1 ⟨q1, q2, q3, q.1, q.2⟩⟩, fun q => absurd q (by decide), by decide⟩
  · subst b
    have h1 := ((hal o h0).2 a).1
    rw [i1, i2] at h1
    obtain ⟨v1, v2, v3, v4⟩ := h1
    exact ⟨fun q => absurd q (by decide), fun q => absurd q (by decide), fun _ => ⟨⟨v1, v2, v3⟩, o, fo, hx ⟨v1, v2, v3⟩, v4, fun r hr => ((hal r hr).2 a).2⟩, by decide⟩
theorem X9_tape {σ σ' : qH} {ns f3 : Int} {ln : List Int32} {r3 : Int → Int} {tp : Nat} (q : X9 σ ln ns r3 f3) (hK : K σ) (hN : NA σ) (e9 : nfi 9 σ = some (.ref tp)) (hF : Fr [tp + 1] σ σ') : X9 σ' ln ns r3 f3 := by
  obtain ⟨ke, sc, tp', ou, mo, sg, ho, mc, lf, lp, hc, -, -, f3, -⟩ := hK.na
  have q9 : nfi 9 σ = some (.ref tp') := (nfi_of hc).trans rfl
  have e : tp = tp' := by
    rw [e9] at q9
    cases q9
    rfl
  subst e
  have hd := (by decide : ∀ t ∈ [63, 68], 16 ∉ [t + 1] ∧ 51 ∉ [t + 1] ∧ ∀ ke ∈ [59, 61], ke ∉ [t + 1]) tp (mem2 f3)
  exact X9_fr q hK hN hF (nsk_fr hK hF hd.1) hd.2.1 (NKW_0 hd.2.2)
