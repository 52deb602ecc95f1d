/-! attribute, value: class beside model. -/
/-- the value's row, and the manifest's name -/
def VW (σ : qH) (r6 : Int → Int) (f6 : Int) : Prop := VAQ σ r6 f6 ∧ AGR σ 53 mfn ∧ rl σ 53 = 20
theorem MFN_fr {σ σ' : qH} {w : List Nat} (h : AGR σ 53 mfn ∧ rl σ 53 = 20) (hN : NA σ) (hF : Fr w σ σ') (hw : 53 ∉ w) : AGR σ' 53 mfn ∧ rl σ' 53 = 20 := ⟨h.1.fr hN hF (by decide) hw, (rl_eq (hF.2.2.1 53 (by decide) hw)).trans h.2⟩
theorem MFN_SM {σ σ' : qH} (hK : K σ) (h : SM σ σ') (q : AGR σ 53 mfn ∧ rl σ 53 = 20) : AGR σ' 53 mfn ∧ rl σ' 53 = 20 := by
  obtain ⟨c1, c2⟩ := CT_SM hK h (r := 53) (by decide)
  exact ⟨q.1.keep c1 c2, c2.trans q.2⟩
theorem VW.fr {σ σ' : qH} {r6 : Int → Int} {f6 : Int} {w : List Nat} (h : VW σ r6 f6) (hN : NA σ) (hF : Fr w σ σ') (h3 : 53 ∉ w) (h7 : 57 ∉ w) : VW σ' r6 f6 := ⟨h.1.fr hN hF h7, MFN_fr h.2 hN hF h3⟩
theorem VW_SM {σ σ' : qH} {r6 : Int → Int} {f6 : Int} (hK : K σ) (h : SM σ σ') (q : VW σ r6 f6) : VW σ' r6 f6 := ⟨VAQ_SM hK h q.1, MFN_SM hK h q.2⟩
theorem WMb_v : ∀ b ∈ ArM, 53 ∉ WMb b ∧ 57 ∉ WMb b := by decide
theorem WO_v : ∀ tp ∈ [63, 68], ∀ ou ∈ [63, 68], 53 ∉ WO tp ou ∧ 57 ∉ WO tp ou := by decide
theorem WRs_v : ∀ sc ∈ [59, 61], 53 ∉ WRs sc ∧ 57 ∉ WRs sc := by decide
theorem WAs_v : ∀ sc ∈ [59, 61], 53 ∉ WAs sc := by decide
theorem VW_tape {σ σ' : qH} {r6 : Int → Int} {f6 : Int} {tp : Nat} (q : VW σ r6 f6) (hK : K σ) (hN : NA σ) (e9 : nfi 9 σ = some (.ref tp)) (hF : Fr [tp + 1] σ σ') : VW σ' r6 f6 := by
  obtain ⟨ke, sc, tp', ou, mo, sg, ho, mc, lf, lp, hc, -, -, f3, -⟩ := hK.na
  have q9 : nfi 9 σ = some (.ref tp') := (nfi_of hc).trans rfl
  have e : tp = tp' := by
    rw [e9] at q9
    cases q9
    rfl
  subst e
  have hd := (by decide : ∀ t ∈ [63, 68], 53 ∉ [t + 1] ∧ 57 ∉ [t + 1]) tp (mem2 f3)
  exact q.fr hN hF hd.1 hd.2
theorem VW_open {σ σ' : qH} {r6 : Int → Int} {f6 : Int} {tp ou : Nat} (q : VW σ r6 f6) (hK : K σ) (hN : NA σ) (e9 : nfi 9 σ = some (.ref tp)) (e10 : nfi 10 σ = some (.ref ou)) (hF : Fr (WO tp ou) σ σ') : VW σ' r6 f6 := by
  obtain ⟨ke, sc, tp', ou', mo, sg, ho, mc, lf, lp, hc, -, -, f3, f4, -⟩ := hK.na
  have q9 : nfi 9 σ = some (.ref tp') := (nfi_of hc).trans rfl
  have q10 : nfi 10 σ = some (.ref ou') := (nfi_of hc).trans rfl
  have e : tp = tp' := by
    rw [e9] at q9
    cases q9
    rfl
  have e' : ou = ou' := by
    rw [e10] at q10
    cases q10
    rfl
  subst e
  subst e'
  have hd := WO_v tp (mem2 f3) ou (mem2 f4)
  exact q.fr hN hF hd.1 hd.2
theorem J_one {x y : Int} (h : some (J x) = some (J y)) (hx : -2147483648 ≤ x ∧ x ≤ 2147483647) (hy : -2147483648 ≤ y ∧ y ≤ 2147483647) : y = x := by
  have h2 : Int32.ofInt x = Int32.ofInt y := by
    have h3 : J x = J y := Option.some.inj h
    first
      | exact Value.int.inj h3
      | injection h3
  rw [← i32_to hx, ← i32_to hy, h2]
theorem HAt_y {σ s s' : qH} {g o v : Int → Int} {f fo io mo x n z : Int} {lm : List Int32} (i1 : afld σ 16 11 = io) (i2 : afld σ 16 14 = mo) (hKs : K s) (hm : SM s s') (hx : io = 1 ∧ 0 ≤ x ∧ x ≤ mo → ARX g f lm x o fo ∧ FOn o fo = 1) (hv : afld σ 16 11 = 1 ∧ 0 ≤ x ∧ x ≤ afld σ 16 14) (hal : ∀ r : Int → Int, AGB r o fo → ATO o fo r v n (nb s 57) (rl s 57) z) : HAt s' g f lm io mo x 0 z v n := by
  rw [i1, i2] at hv
  obtain ⟨a1, a2⟩ := hx hv
  refine ⟨fun _ => ⟨hv, o, fo, a1, a2, fun r hr => ?_⟩, fun q => absurd q (by decide), fun q => absurd q (by decide), by decide⟩
  rw [nb_SM hKs hm (by decide), (CT_SM hKs hm (r := 57) (by decide)).2]
  exact hal r hr
theorem NAE_hat {σ s' : qH} {g o v : Int → Int} {f fo io mo x n k : Int} {lm : List Int32} {e : Nat} (i1 : afld σ 16 11 = io) (i2 : afld σ 16 14 = mo) (hx : io = 1 ∧ 0 ≤ x ∧ x ≤ mo → ARX g f lm x o fo ∧ FOn o fo = 1) (h0 : AGB o o fo) (hal : ∀ r : Int → Int, AGB r o fo → NAE σ o fo r x e) (he : (e = 1 ∧ k = 1) ∨ (e = 0 ∧ k = 2)) : HAt s' g f lm io mo x k 0 v n := by
  rcases he with ⟨a, rfl⟩ | ⟨a, rfl⟩
  · have h1 := (hal o h0).1 a
    rw [i1, i2] at h1
    exact ⟨fun q => absurd q (by decide), fun _ => h1, fun q => absurd q (by decide), by decide⟩
  · have h1 := ((hal o h0).2 a).1
    rw [i1, i2] at h1
    obtain ⟨a1, a2⟩ := hx h1
    exact ⟨fun q => absurd q (by decide), fun q => absurd q (by decide), fun _ => ⟨h1, o, fo, a1, a2, fun r hr => ((hal r hr).2 a).2⟩, by decide⟩
