/-! What a row's methods leave, and the unpacker's two rows. -/
/-- all cells but the row r and bytes are as they were -/
def FrR (r : Nat) (σ σ' : qH) : Prop := ∀ (k : Nat) (c : qC), k ≠ r → (∀ l, c ≠ .inr (.inl (1, l))) → σ[k]? = some c → σ'[k]? = some c
/-- all cells but ints are as they were -/
def FrC (σ σ' : qH) : Prop := ∀ (k : Nat) (c : qC), (∀ l, c ≠ .inr (.inl (0, l))) → σ[k]? = some c → σ'[k]? = some c
theorem FrR.refl {r : Nat} {σ : qH} : FrR r σ σ := fun _ _ _ _ h => h
theorem FrR.trans {r : Nat} {σ σ1 σ2 : qH} (h : FrR r σ σ1) (g : FrR r σ1 σ2) : FrR r σ σ2 := fun k c a b e => g k c a b (h k c a b e)
theorem FrR.one {r : Nat} {σ σ' : qH} (ho : ∀ {k : Nat} {z : qC}, k ≠ r → σ[k]? = some z → σ'[k]? = some z) : FrR r σ σ' := fun _ _ a _ e => ho a e
theorem FrR.byt {r b : Nat} {σ σ' : qH} {l : List Int32} (hb : σ[b]? = some (.inr (.inl (1, l)))) (ho : ∀ {k : Nat} {z : qC}, k ≠ b → σ[k]? = some z → σ'[k]? = some z) : FrR r σ σ' := fun _ _ _ h e => ho (fun q => by
  subst q
  rw [hb] at e
  exact h l (Option.some.inj e).symm) e
/-- the unpacker reads from the row s, writes to the row t, and its bits end within s -/
def UL (s t : Nat) (σ : qH) : Prop := ∃ (w bi be ro m n : Int) (b : Nat) (bs : List Int32), σ[17]? = some (.inl (6, [.ref 18, .ref 19, .ref 23, .ref 27, .ref 31, .ref 35, .ref s, .ref t, J w, J bi, J be, J ro])) ∧ σ[s]? = some (.inl (5, [J m, .ref b, J n])) ∧ σ[b]? = some (.inr (.inl (1, bs))) ∧ (be ≤ 8 * n ∧ 0 ≤ n ∧ n ≤ 8000 ∧ be % 8 = 0 ∧ bi ≤ be ∧ -100000 ≤ w ∧ w ≤ 8000 ∧ 0 ≤ bi ∧ bi ≤ 64007 ∧ 0 ≤ be ∧ be ≤ 64000 ∧ (ro = 0 ∨ ro = 1))
theorem UL.unf {s t : Nat} {σ : qH} (hK : K σ) (h : UL s t σ) (hs : s ∈ RwL) : ∃ (w bi be ro m n : Int) (b : Nat) (bs : List Int32), σ[17]? = some (.inl (6, [.ref 18, .ref 19, .ref 23, .ref 27, .ref 31, .ref 35, .ref s, .ref t, J w, J bi, J be, J ro])) ∧ σ[s]? = some (.inl (5, [J m, .ref b, J n])) ∧ σ[b]? = some (.inr (.inl (1, bs))) ∧ (be ≤ 8 * n ∧ be % 8 = 0 ∧ bi ≤ be ∧ -100000 ≤ w ∧ w ≤ 8000 ∧ 0 ≤ bi ∧ bi ≤ 64007 ∧ 0 ≤ be ∧ be ≤ 64000 ∧ (ro = 0 ∨ ro = 1)) ∧ (0 ≤ n ∧ n ≤ bs.length ∧ (bs.length : Int) ≤ m ∧ m ≤ 8000) ∧ 16 ≤ b ∧ bs.all qisb = true := by
  obtain ⟨w, bi, be, ro, m, n, b, bs, h1, h2, h3, h4⟩ := h
  obtain ⟨m', n', b', bs', g1, g2, g3, g4, g5, g6, g7, g8, -⟩ := hK.row hs
  rw [h2] at g1
  simp only [Option.some.injEq, Sum.inl.injEq, Prod.mk.injEq, List.cons.injEq, Value.ref.injEq, true_and, and_true] at g1
  obtain ⟨e1, e2, e3⟩ := g1
  subst e2
  rw [h3] at g2
  cases g2
  have e4 : n = n' := by
    have e5 : Int32.ofInt n = Int32.ofInt n' := Value.int.inj e3
    have e6 := congrArg Int32.toInt e5
    rw [i32_to (by omega), i32_to (by omega)] at e6
    exact e6
  subst e4
  refine ⟨w, bi, be, ro, m', n, b, bs, h1, ?_, h3, by omega, ⟨g3, g4, g5, g6⟩, g7, g8⟩
  rw [h2, e1]
theorem UL.row {s t : Nat} {w9 : List Nat} {σ σ' : qH} (h : UL s t σ) (hF : Fr w9 σ σ') (hR : FrR t σ σ') (hs : s ∈ RwL) (hst : s ≠ t) (ht : t ∈ RwL) : UL s t σ' := by
  obtain ⟨w, bi, be, ro, m, n, b, bs, h1, h2, h3, h4⟩ := h
  have h17 : (17 : Nat) ≠ t := fun e => absurd (e ▸ ht) (by decide)
  have k1 := hR 17 _ h17 (fun l e => by cases e) h1
  have k2 := hR s _ hst (fun l e => by cases e) h2
  have k3 := hF.2.2.2.2.2.2.1 b (List.getElem?_eq_some_iff.mp h3).1
  rw [kds_at h3] at k3
  obtain ⟨c, hc, e⟩ := kds_in k3
  obtain ⟨bs', rfl, hl⟩ := kdc_arr e
  exact ⟨w, bi, be, ro, m, n, b, bs', k1, k2, hc, h4⟩
theorem UL.ints {s t : Nat} {σ σ' : qH} (h : UL s t σ) (hR : FrC σ σ') : UL s t σ' := by
  obtain ⟨w, bi, be, ro, m, n, b, bs, h1, h2, h3, h4⟩ := h
  exact ⟨w, bi, be, ro, m, n, b, bs, hR 17 _ (fun l e => by cases e) h1, hR s _ (fun l e => by cases e) h2, hR b _ (fun l e => by cases e) h3, h4⟩
section
variable {ξ : Nat → Option (Nat × List Int32)} {d j pc : Nat} {lv : qLV} {r : List Value} {σ : qH} {Q : Option Value → qH → Prop} {a b : Int}
end
section
variable {ξ : Nat → Option (Nat × List Int32)}
theorem set_frc {σ : qH} {i : Nat} {l l' : List Int32} (hi : σ[i]? = some (.inr (.inl (0, l)))) : FrC σ (σ.set i (.inr (.inl (0, l')))) := fun k c h e => set_ho (fun q => by
  subst q
  rw [hi] at e
  exact h l (Option.some.inj e).symm) e
theorem FrC.trans {σ σ1 σ2 : qH} (h : FrC σ σ1) (g : FrC σ1 σ2) : FrC σ σ2 := fun k c a e => g k c a (h k c a e)
theorem Cd_ne : ∀ c ∈ CdL, 18 ≠ c + 1 ∧ 18 ≠ c + 2 ∧ 18 ≠ c + 3 ∧ c + 1 ∉ RwL ∧ c + 2 ∉ RwL ∧ c + 3 ∉ RwL ∧ Nat.blt (c + 1) qnE = false ∧ Nat.blt (c + 2) qnE = false ∧ Nat.blt (c + 3) qnE = false ∧ c + 3 < 137 := by decide +kernel
end
theorem CdL_lt2 : ∀ c ∈ CdL, 16 ≤ c ∧ c < 137 := by decide +kernel
/-- a row's length -/
def rl (σ : qH) (r : Nat) : Int := match σ[r]? with
  | some (.inl (_, [_, _, .int n])) => n.toInt
  | _ => 0
theorem rl_of {σ : qH} {r b : Nat} {m n : Int} (h : σ[r]? = some (.inl (5, [J m, .ref b, J n]))) (hn : 0 ≤ n ∧ n ≤ 8000) : rl σ r = n := by
  unfold rl
  rw [h]
  exact i32_to ⟨by omega, by omega⟩
theorem rl_eq {σ σ' : qH} {r : Nat} (h : σ'[r]? = σ[r]?) : rl σ' r = rl σ r := by unfold rl; rw [h]
/-! the tape: which archive it is, and its length -/
def tpf (σ : qH) : Option Value := match (σ[16]? : Option qC) with
  | some (.inl (_, fs)) => fs[9]?
  | _ => none
def tl (σ : qH) : Int := match tpf σ with
  | some (.ref tp) => rl σ (tp + 1)
  | _ => 0
theorem tpf_of {σ : qH} {ci : Nat} {fs : List Value} {v : Value} (h : σ[16]? = some (.inl (ci, fs))) (hv : fs[9]? = some v) : tpf σ = some v := by
  unfold tpf
  rw [h]
  exact hv
theorem tpf_eq {σ σ' : qH} (h : σ'[16]? = σ[16]?) : tpf σ' = tpf σ := by unfold tpf; rw [h]
theorem tl_at {σ : qH} {ci tp : Nat} {fs : List Value} (h : σ[16]? = some (.inl (ci, fs))) (hv : fs[9]? = some (.ref tp)) : tl σ = rl σ (tp + 1) := by
  unfold tl
  rw [tpf_of h hv]
theorem mst_tp {tp : Nat} (h : tp = 63 ∨ tp = 68) : mst (tp + 1) = 8000 := by rcases h with rfl | rfl <;> decide
theorem tl_keep {σ σ' : qH} (hK : K σ) (h : Fr WP σ σ') (ht : tpf σ' = tpf σ) : tl σ' = tl σ := by
  obtain ⟨ke, sc, tp, ou, mo, sg, ho, mc, lf, lp, hN, f1, f2, f3, -⟩ := hK.na
  have e1 : tpf σ = some (.ref tp) := tpf_of hN rfl
  unfold tl
  rw [ht, e1]
  refine rl_eq (h.2.2.1 (tp + 1) ?_ ?_)
  · rcases f3 with rfl | rfl <;> decide
  · rcases f3 with rfl | rfl <;> decide
