/-! What stands beside R7. -/
def X9 (σ : qH) (ln : List Int32) (ns : Int) (r3 : Int → Int) (f3 : Int) : Prop := TYQ σ ln ns ∧ KEP σ r3 f3
theorem X9_SM {σ σ' : qH} {ns f3 : Int} {ln : List Int32} {r3 : Int → Int} (hK : K σ) (h : SM σ σ') (q : X9 σ ln ns r3 f3) : X9 σ' ln ns r3 f3 := ⟨TYQ_SM hK h q.1, KEP_SM hK h q.2⟩
/-- no kept row in the list -/
def NKW (σ : qH) (w : List Nat) : Prop := ∀ ke ∈ [59, 61], ∀ sc ∈ [59, 61], nfi 8 σ = some (.ref sc) → ke ≠ sc → ke ∉ w
theorem NKW_0 {σ : qH} {w : List Nat} (h : ∀ ke ∈ [59, 61], ke ∉ w) : NKW σ w := fun ke hk _ _ _ _ => h ke hk
theorem X9_fr {σ σ' : qH} {ns f3 : Int} {ln : List Int32} {r3 : Int → Int} {w : List Nat} (q : X9 σ ln ns r3 f3) (hK : K σ) (hN : NA σ) (hF : Fr w σ σ') (hk : nsk σ' = nsk σ) (h51 : 51 ∉ w) (hw : NKW σ w) : X9 σ' ln ns r3 f3 := ⟨q.1.fr hN hF h51, q.2.fr hK hN hF hk hw⟩
theorem X9_cl {σ σ' : qH} {ns f3 : Int} {ln : List Int32} {r3 : Int → Int} {w : List Nat} (q : X9 σ ln ns r3 f3) (hK : K σ) (hN : NA σ) (hF : Fr w σ σ') (hk : nsk σ' = nsk σ) (h51 : rl σ' 51 = 0) (hw : NKW σ w) : X9 σ' ln 0 r3 f3 := ⟨TYQ_0 h51, q.2.fr hK hN hF hk hw⟩
def WRs (sc : Nat) : List Nat := [16, 17, 18, 20, 21, 22, 24, 25, 26, 28, 29, 30, sc]
def WAs (sc : Nat) : List Nat := [16, 17, 18, 20, 21, 22, 24, 25, 26, 28, 29, 30, 41, 42, 44, 45, 51, 57, sc]
theorem WRs_R : ∀ sc ∈ [59, 61], ∀ r ∈ WRs sc, r ∈ WR := by decide
theorem WAs_R : ∀ sc ∈ [59, 61], ∀ r ∈ WAs sc, r ∈ WR := by decide
theorem WRs_k : ∀ ke ∈ [59, 61], ∀ sc ∈ [59, 61], ke ≠ sc → ke ∉ WRs sc := by decide
theorem WAs_k : ∀ ke ∈ [59, 61], ∀ sc ∈ [59, 61], ke ≠ sc → ke ∉ WAs sc := by decide
theorem NKW_s {σ : qH} {W : Nat → List Nat} {sc : Nat} (h8 : nfi 8 σ = some (.ref sc)) (h : ∀ ke ∈ [59, 61], ∀ sc ∈ [59, 61], ke ≠ sc → ke ∉ W sc) : NKW σ (W sc) := fun ke hk s hs q ne => by
  rw [h8] at q
  have e : sc = s := by
    cases q
    rfl
  subst e
  exact h ke hk sc hs ne
theorem WMb_k : ∀ b ∈ ArM, (∀ ke ∈ [59, 61], ke ∉ WMb b) ∧ 51 ∉ WMb b := by decide
theorem WO_k : ∀ tp ∈ [63, 68], ∀ ou ∈ [63, 68], 51 ∉ WO tp ou := by decide
theorem KPR_at {k : Nat} {σ s : qH} (h : KPR [k] σ s) : CT s k = CT σ k ∧ rl s k = rl σ k := h k (List.mem_singleton.mpr rfl)
theorem X9_kpr {σ σ' : qH} {ns f3 : Int} {ln : List Int32} {r3 : Int → Int} {w : List Nat} {ke : Nat} (q : X9 σ ln ns r3 f3) (hN : NA σ) (hF : Fr w σ σ') (hk : nsk σ' = nsk σ) (h51 : 51 ∉ w) (h7 : nfi 7 σ = some (.ref ke)) (hp : KPR [ke] σ σ') : X9 σ' ln ns r3 f3 := ⟨q.1.fr hN hF h51, q.2.kpr hk (fun ke' _ q7 _ _ => by
  rw [h7] at q7
  have e : ke = ke' := by
    cases q7
    rfl
  subst e
  exact KPR_at hp)⟩
theorem KEP_cl {σ σ' : qH} {r3 : Int → Int} {f3 : Int} (h : KEP σ r3 f3) (q : KCL σ σ') : KEP σ' r3 0 := by
  obtain ⟨ke, sc, h7, h8, hn, -, -⟩ := h
  have e := q.2 ke h7
  exact ⟨ke, sc, (nsk_7 q.1).trans h7, (nsk_8 q.1).trans h8, hn, AGR.none e, e⟩
theorem KEP_rows {σ σ' : qH} {r3 : Int → Int} {f3 : Int} (hK : K σ) (h : KEP σ r3 f3) (hk : nsk σ' = nsk σ) (q : KPR [59, 61] σ σ') : KEP σ' r3 f3 := h.kpr hk (fun ke sc h7 h8 _ => q ke (mem2 (hK.ks h7 h8).1))
/-- open -/
def XOp (σ' : qH) (g : Int → Int) (t : Int) (ln : List Int32) (ns : Int) (r3 : Int → Int) (f3 : Int) : Prop := (FOn g t = 1 → X9 σ' ln ns r3 0) ∧ (FOn g t = 0 → X9 σ' ln ns r3 f3)
def MX3 (g : Int → Int) (t f3 f3' : Int) : Prop := (FOn g t = 1 → f3' = 0) ∧ (FOn g t = 0 → f3' = f3)
theorem xopen_both {σ' : qH} {g : Int → Int} {t ns f3 f3' : Int} {ln : List Int32} {r3 : Int → Int} (h : XOp σ' g t ln ns r3 f3) (q : MX3 g t f3 f3') : X9 σ' ln ns r3 f3' := by
  rcases FOn_01 g t with hF | hF
  · rw [q.2 hF]
    exact h.2 hF
  · rw [q.1 hF]
    exact h.1 hF
/-- type, as the class and as the model leave it -/
def CTy (σ' : qH) (ln : List Int32) (ns x z : Int) : Prop := z = TYv x ns ∧ (z = 0 → rl σ' 51 = ns) ∧ (z = 1 → rl σ' 51 = ns + CW x 8) ∧ (z = 1 → AGR σ' 51 (TYA (gl ln) ns x 8)) ∧ (z = 0 → AGR σ' 51 (gl ln)) ∧ (0 ≤ z ∧ z ≤ 1)
def MTy (ln : List Int32) (ns x z : Int) (ln1 : List Int32) (ns1 : Int) : Prop := z = TYv x ns ∧ (z = 0 → ns1 = ns) ∧ (z = 1 → ns1 = ns + CW x 8) ∧ (z = 1 → ∀ j : Int, 0 ≤ j → gl ln1 j = TYA (gl ln) ns x 8 j) ∧ (z = 0 → ln1 = ln)
theorem ty_both {σ' : qH} {ln ln1 : List Int32} {ns ns1 x z z' : Int} (c : CTy σ' ln ns x z) (m : MTy ln ns x z' ln1 ns1) : z = z' ∧ TYQ σ' ln1 ns1 := type_both (L := rl σ' 51) c.1 m.1 rfl c.2.1 c.2.2.1 c.2.2.2.1 c.2.2.2.2.1 c.2.2.2.2.2 m.2.1 m.2.2.1 m.2.2.2.1 m.2.2.2.2
theorem mo_io {g1 : Int → Int} {f1 io mo x c mo1 : Int} {lm lm1 : List Int32} (h : io = 1 ∨ mo = 0) (q : MMo g1 f1 lm io mo x c lm1 mo1) : io = 1 ∨ mo1 = 0 := by
  by_cases hc : c = 0
  · exact Or.inl (q.1 hc).1
  · rw [(q.2.2.2.1 hc).1]
    exact h
theorem ix_io {g1 : Int → Int} {f1 io mo c mo1 : Int} {lm lm1 : List Int32} (h : io = 1 ∨ mo = 0) (q : MIx g1 f1 lm io mo c lm1 mo1) : io = 1 ∨ mo1 = 0 := by
  by_cases hc : c = 0
  · exact Or.inl (q.1 hc).1
  · rw [(q.2.1 hc).1]
    exact h
theorem op_io {g g1 g1' : Int → Int} {t f1 io mo z c f1' io' mo' : Int} (h : io = 1 ∨ mo = 0) (q : MOp g t g1 f1 io mo z c g1' f1' io' mo') : io' = 1 ∨ mo' = 0 := by
  rcases FOn_01 g t with hF | hF
  · obtain ⟨-, e1, e2, -, -⟩ := q.2 hF
    rw [e1, e2]
    exact h
  · exact Or.inl (q.1 hF).2.1
