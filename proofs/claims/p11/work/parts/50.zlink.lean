/-! What a row's methods leave, and the unpacker's two rows. -/
/-- all cells but the row r and bytes are as they were -/
def FrR (r : Nat) (σ σ' : qH) : Prop := ∀ (k : Nat) (c : qC), k ≠ r → (∀ l, c ≠ .inr (.inl (1, l))) → σ[k]? = some c → σ'[k]? = some c
/-- all cells but ints are as they were -/
def FrC (σ σ' : qH) : Prop := ∀ (k : Nat) (c : qC), (∀ l, c ≠ .inr (.inl (0, l))) → σ[k]? = some c → σ'[k]? = some c
theorem FrR.refl {r : Nat} {σ : qH} : FrR r σ σ := fun _ _ _ _ h => h
theorem FrR.trans {r : Nat} {σ σ1 σ2 : qH} (h : FrR r σ σ1) (g : FrR r σ1 σ2) : FrR r σ σ2 := fun k c a b e => g k c a b (h k c a b e)
theorem FrR.one {r : Nat} {σ σ' : qH} (ho : ∀ {k : Nat} {z : qC}, k ≠ r → σ[k]? = some z → σ'[k]? = some z) : FrR r σ σ' := fun _ _ a _ e => ho a e
theorem FrR.byt {r b : Nat} {σ σ' : qH} {l : List Int32} (hb : σ[b]? = some (.inr (.inl (1, l)))) (ho : ∀ {k : Nat} {z : qC}, k ≠ b → σ[k]? = some z → σ'[k]? = some z) : FrR r σ σ' := fun _ _ _ h e => ho (fun q => by
  subst q
  rw [hb] at e
  exact h l (Option.some.inj e).symm) e
/-- the unpacker reads from the row s, writes to the row t, and its bits end within s -/
def UL (s t : Nat) (σ : qH) : Prop := ∃ (w bi be ro m n : Int) (b : Nat) (bs : List Int32), σ[17]? = some (.inl (6, [.ref 18, .ref 19, .ref 23, .ref 27, .ref 31, .ref 35, .ref s, .ref t, J w, J bi, J be, J ro])) ∧ σ[s]? = some (.inl (5, [J m, .ref b, J n])) ∧ σ[b]? = some (.inr (.inl (1, bs))) ∧ (be ≤ 8 * n ∧ 0 ≤ n ∧ n ≤ 8000 ∧ be % 8 = 0 ∧ bi ≤ be ∧ -100000 ≤ w ∧ w ≤ 8000 ∧ 0 ≤ bi ∧ bi ≤ 64007 ∧ 0 ≤ be ∧ be ≤ 64000 ∧ (ro = 0 ∨ ro = 1))
theorem UL.unf {s t : Nat} {σ : qH} (hK : K σ) (h : UL s t σ) (hs : s ∈ RwL) : ∃ (w bi be ro m n : Int) (b : Nat) (bs : List Int32), σ[17]? = some (.inl (6, [.ref 18, .ref 19, .ref 23, .ref 27, .ref 31, .ref 35, .ref s, .ref t, J w, J bi, J be, J ro])) ∧ σ[s]? = some (.inl (5, [J m, .ref b, J n])) ∧ σ[b]? = some (.inr (.inl (1, bs))) ∧ (be ≤ 8 * n ∧ be % 8 = 0 ∧ bi ≤ be ∧ -100000 ≤ w ∧ w ≤ 8000 ∧ 0 ≤ bi ∧ bi ≤ 64007 ∧ 0 ≤ be ∧ be ≤ 64000 ∧ (ro = 0 ∨ ro = 1)) ∧ (0 ≤ n ∧ n ≤ bs.length ∧ (bs.length : Int) ≤ m ∧ m ≤ 8000) ∧ 16 ≤ b ∧ bs.all qisb = true := by
  obtain ⟨w, bi, be, ro, m, n, b, bs, h1, h2, h3, h4⟩ := h
  obtain ⟨m', n', b', bs', g1, g2, g3, g4, g5, g6, g7, g8, -⟩ := hK.row hs
  rw [h2] at g1
  simp only [Option.some.injEq, Sum.inl.injEq, Prod.mk.injEq, List.cons.injEq, Value.ref.injEq, true_and, and_true] at g1
  obtain ⟨e1, e2, e3⟩ := g1
  subst e2
  rw [h3] at g2
  cases g2
  have e4 : n = n' := by
    have e5 : Int32.ofInt n = Int32.ofInt n' := Value.int.inj e3
    have e6 := congrArg Int32.toInt e5
    rw [i32_to (by omega), i32_to (by omega)] at e6
    exact e6
  subst e4
  refine ⟨w, bi, be, ro, m', n, b, bs, h1, ?_, h3, by omega, ⟨g3, g4, g5, g6⟩, g7, g8⟩
  rw [h2, e1]
theorem UL.row {s t : Nat} {w9 : List Nat} {σ σ' : qH} (h : UL s t σ) (hF : Fr w9 σ σ') (hR : FrR t σ σ') (hs : s ∈ RwL) (hst : s ≠ t) (ht : t ∈ RwL) : UL s t σ' := by
  obtain ⟨w, bi, be, ro, m, n, b, bs, h1, h2, h3, h4⟩ := h
  have h17 : (17 : Nat) ≠ t := fun e => absurd (e ▸ ht) (by decide)
  have k1 := hR 17 _ h17 (fun l e => by cases e) h1
  have k2 := hR s _ hst (fun l e => by cases e) h2
  have k3 := hF.2.2.2.2.2.2.1 b (List.getElem?_eq_some_iff.mp h3).1
  rw [kds_at h3] at k3
  obtain ⟨c, hc, e⟩ := kds_in k3
  obtain ⟨bs', rfl, hl⟩ := kdc_arr e
  exact ⟨w, bi, be, ro, m, n, b, bs', k1, k2, hc, h4⟩
theorem UL.ints {s t : Nat} {σ σ' : qH} (h : UL s t σ) (hR : FrC σ σ') : UL s t σ' := by
  obtain ⟨w, bi, be, ro, m, n, b, bs, h1, h2, h3, h4⟩ := h
  exact ⟨w, bi, be, ro, m, n, b, bs, hR 17 _ (fun l e => by cases e) h1, hR s _ (fun l e => by cases e) h2, hR b _ (fun l e => by cases e) h3, h4⟩
section
variable {ξ : Nat → Option (Nat × List Int32)} {d j pc : Nat} {lv : qLV} {r : List Value} {σ : qH} {Q : Option Value → qH → Prop} {a b : Int}
theorem or_nn {x y : Int32} (hx : 0 ≤ x.toInt ∧ x.toInt ≤ 65535) (hy : 0 ≤ y.toInt ∧ y.toInt ≤ 65535) : 0 ≤ (x ||| y).toInt ∧ (x ||| y).toInt ≤ 65535 := by
  have key : ∀ z : Int32, (0 ≤ z.toInt ∧ z.toInt ≤ 65535) ↔ z.toBitVec.toNat < 2 ^ 16 := fun z => by
    have h1 : z.toInt = z.toBitVec.toInt := rfl
    rw [h1, BitVec.toInt_eq_toNat_cond]
    have := z.toBitVec.isLt
    split
    · omega
    · omega
  rw [key] at hx hy ⊢
  rw [Int32.toBitVec_or, BitVec.toNat_or]
  exact Nat.or_lt_two_pow hx hy
theorem T.iorx (hf : qfe j pc = some (.ior, 1)) (ha : -2147483648 ≤ a ∧ a ≤ 2147483647) (hb : -2147483648 ≤ b ∧ b ≤ 2147483647) (g : ∀ z : Int, -2147483648 ≤ z → z ≤ 2147483647 → (0 ≤ a ∧ a ≤ 65535 ∧ 0 ≤ b ∧ b ≤ 65535 → 0 ≤ z ∧ z ≤ 65535) → T ξ d j (pc + 1) lv (J z :: r) σ Q) : T ξ d j pc lv (J b :: J a :: r) σ Q := by
  refine T.some1 (x := Int32.ofInt a ||| Int32.ofInt b) hf rfl (fun z h1 h2 e => g z h1 h2 (fun h => ?_))
  have h3 := or_nn (x := Int32.ofInt a) (y := Int32.ofInt b) (by rw [i32_to ha]; omega) (by rw [i32_to hb]; omega)
  rw [e, i32_to ⟨h1, h2⟩] at h3
  exact h3
theorem T.ishlx (hf : qfe j pc = some (.ishl, 1)) (g : ∀ z : Int, -2147483648 ≤ z → z ≤ 2147483647 → (0 ≤ a ∧ a ≤ 1 ∧ 0 ≤ b ∧ b ≤ 15 → 0 ≤ z ∧ z ≤ 32768) → T ξ d j (pc + 1) lv (J z :: r) σ Q) : T ξ d j pc lv (J b :: J a :: r) σ Q := by
  refine T.some1 (x := Int32.ofInt a <<< (Int32.ofInt b &&& 31)) hf rfl (fun z h1 h2 e => g z h1 h2 (fun h => ?_))
  have h4 : ∀ (k : Fin 2) (m : Fin 16), 0 ≤ (Int32.ofInt (k.val : Int) <<< (Int32.ofInt (m.val : Int) &&& 31)).toInt ∧ (Int32.ofInt (k.val : Int) <<< (Int32.ofInt (m.val : Int) &&& 31)).toInt ≤ 32768 := by decide
  have h5 := h4 ⟨a.toNat, by omega⟩ ⟨b.toNat, by omega⟩
  simp only [Int.toNat_of_nonneg h.1, Int.toNat_of_nonneg h.2.2.1] at h5
  rw [e, i32_to ⟨h1, h2⟩] at h5
  exact h5
end
theorem LO_at {X1 : List Int32} {i z : Int} (h : X1 = [16, 17, 18, 0, 8, 7, 9, 6, 10, 5, 11, 4, 12, 3, 13, 2, 14, 1, 15]) (hi : 0 ≤ i ∧ i < 19) (hz : -2147483648 ≤ z ∧ z ≤ 2147483647) (e : X1.getD i.toNat 0 = Int32.ofInt z) : 0 ≤ z ∧ z ≤ 18 := by
  subst h
  have h4 : ∀ k : Fin 19, 0 ≤ (([16, 17, 18, 0, 8, 7, 9, 6, 10, 5, 11, 4, 12, 3, 13, 2, 14, 1, 15] : List Int32).getD k.val 0).toInt ∧ (([16, 17, 18, 0, 8, 7, 9, 6, 10, 5, 11, 4, 12, 3, 13, 2, 14, 1, 15] : List Int32).getD k.val 0).toInt ≤ 18 := by decide
  have h5 := h4 ⟨i.toNat, by omega⟩
  simp only [e, i32_to hz] at h5
  exact h5
section
variable {ξ : Nat → Option (Nat × List Int32)}
theorem set_frc {σ : qH} {i : Nat} {l l' : List Int32} (hi : σ[i]? = some (.inr (.inl (0, l)))) : FrC σ (σ.set i (.inr (.inl (0, l')))) := fun k c h e => set_ho (fun q => by
  subst q
  rw [hi] at e
  exact h l (Option.some.inj e).symm) e
theorem FrC.trans {σ σ1 σ2 : qH} (h : FrC σ σ1) (g : FrC σ1 σ2) : FrC σ σ2 := fun k c a e => g k c a (h k c a e)
/-- Arrays.fill of a whole array -/
theorem s_J_fill2 (d i : Nat) (y : Int) (σ : qH) (hK : K σ) {n : Nat} (hk : kdX[i]? = some (1, 0, n)) (hn : n < 2147483648) (h16 : Nat.blt i qnE = false) (hr : i ∉ RwL) (hm : i < 137 ∨ 146 < i) : T ξ d j_J_fill2 0 (lv_args 0 [.ref i, J y]) [] σ (fun v σ' => v = none ∧ Fr [i] σ σ' ∧ FrC σ σ') := by
  obtain ⟨li, hi, hl⟩ := hK.ints hk
  obtain ⟨li', e, -, g⟩ := c_fill2 (ξ := ξ) d i (Int32.ofInt y) li σ h16 (by omega) hi
  exact ⟨_, _, g, rfl, Fr.other hK hi (by simp only [kdc, e]) trivial hr hm (fun _ z => by cases z) (by simp), set_frc hi⟩
theorem s_J_fill (d i : Nat) (a b y : Int) (σ : qH) (hK : K σ) {n : Nat} (hk : kdX[i]? = some (1, 0, n)) (hn : n < 2147483648) (h16 : Nat.blt i qnE = false) (hr : i ∉ RwL) (hm : i < 137 ∨ 146 < i) (hab : 0 ≤ a ∧ a ≤ b ∧ b ≤ n) : T ξ (d + 1) j_J_fill 0 (lv_args 0 [.ref i, J a, J b, J y]) [] σ (fun v σ' => v = none ∧ Fr [i] σ σ' ∧ FrC σ σ') := by
  obtain ⟨li, hi, hl⟩ := hK.ints hk
  have cv : ∀ z : Int, 0 ≤ z → Int32.ofNat z.toNat = Int32.ofInt z := fun z hz => by
    rw [← Int32.ofInt_eq_ofNat, Int.toNat_of_nonneg hz]
  obtain ⟨li', e, -, g⟩ := c_fill (ξ := ξ) d i a.toNat b.toNat (Int32.ofInt y) li σ h16 (by omega) (by omega) (by omega) hi
  rw [cv a hab.1, cv b (by omega)] at g
  exact ⟨_, _, g, rfl, Fr.other hK hi (by simp only [kdc, e]) trivial hr hm (fun _ z => by cases z) (by simp), set_frc hi⟩
theorem Cd_ne : ∀ c ∈ CdL, 18 ≠ c + 1 ∧ 18 ≠ c + 2 ∧ 18 ≠ c + 3 ∧ c + 1 ∉ RwL ∧ c + 2 ∉ RwL ∧ c + 3 ∉ RwL ∧ Nat.blt (c + 1) qnE = false ∧ Nat.blt (c + 2) qnE = false ∧ Nat.blt (c + 3) qnE = false ∧ c + 3 < 137 := by decide +kernel
theorem s_C_learn (d c : Nat) (fr n fl : Int) (σ : qH) (hK : K σ) (hc : c ∈ CdL) (hfl : fl = 0 ∨ fl = 1) : T ξ (d + 1) j_C_learn 0 (lv_args 0 [.ref c, .ref 18, J fr, J n, J fl]) [] σ (fun v σ' => ∃ z : Int, v = some (J z) ∧ Fr [c + 1, c + 2, c + 3] σ σ' ∧ 0 ≤ z ∧ z ≤ 1 ∧ FrC σ σ') := by
  obtain ⟨k1, k2, k3, n3, k4, n3l⟩ := kdX_cd c hc
  obtain ⟨e1, e2, e3, r1, r2, r3, b1, b2, b3, l3⟩ := Cd_ne c hc
  have hco := hK.cod hc
  obtain ⟨la, ha, hla⟩ := hK.ints kdX_18
  obtain ⟨lc, hlc, hlcn⟩ := hK.ints k2
  obtain ⟨lp, hlp, hlpn⟩ := hK.ints k3
  obtain ⟨ls, hls, hlsn⟩ := hK.ints k4
  obtain ⟨b, lc', lp', ls', hb, q1, q2, q3, -, g⟩ := c_learn (ξ := ξ) d c 18 (c + 1) (c + 2) (c + 3) (Int32.ofInt fr) (Int32.ofInt n) (Int32.ofInt fl) la lc lp ls σ (by rcases hfl with rfl | rfl; exact Or.inl rfl; exact Or.inr rfl) hlcn hlpn (by omega) (by omega) rfl b1 b2 b3 (CdL_lt c hc) e1 e2 e3 (by omega) (by omega) (by omega) hco ha hlc hlp hls
  have f1 : Fr [c + 1, c + 2, c + 3] σ (σ.set (c + 1) (.inr (.inl (0, lc')))) := Fr.other hK hlc (by simp only [kdc, q1, hlcn]) trivial r1 (Or.inl (by omega)) (fun _ z => by cases z) (by simp)
  have p2 : (σ.set (c + 1) (.inr (.inl (0, lc'))))[c + 2]? = some (.inr (.inl (0, lp))) := set_ho (by omega) hlp
  have f2 : Fr [c + 1, c + 2, c + 3] (σ.set (c + 1) (.inr (.inl (0, lc')))) ((σ.set (c + 1) (.inr (.inl (0, lc')))).set (c + 2) (.inr (.inl (0, lp')))) := Fr.other f1.1 p2 (by simp only [kdc, q2, hlpn]) trivial r2 (Or.inl (by omega)) (fun _ z => by cases z) (by simp)
  have p3 : ((σ.set (c + 1) (.inr (.inl (0, lc')))).set (c + 2) (.inr (.inl (0, lp'))))[c + 3]? = some (.inr (.inl (0, ls))) := set_ho (by omega) (set_ho (by omega) hls)
  have f3 : Fr [c + 1, c + 2, c + 3] ((σ.set (c + 1) (.inr (.inl (0, lc')))).set (c + 2) (.inr (.inl (0, lp')))) (((σ.set (c + 1) (.inr (.inl (0, lc')))).set (c + 2) (.inr (.inl (0, lp')))).set (c + 3) (.inr (.inl (0, ls')))) := Fr.other f2.1 p3 (by simp only [kdc, q3]) trivial r3 (Or.inl (by omega)) (fun _ z => by cases z) (by simp)
  rcases hb with rfl | rfl
  · exact ⟨_, _, g, 0, rfl, (f1.trans f2).trans f3, by decide, by decide, ((set_frc hlc).trans (set_frc p2)).trans (set_frc p3)⟩
  · exact ⟨_, _, g, 1, rfl, (f1.trans f2).trans f3, by decide, by decide, ((set_frc hlc).trans (set_frc p2)).trans (set_frc p3)⟩
end
theorem CdL_lt2 : ∀ c ∈ CdL, 16 ≤ c ∧ c < 137 := by decide +kernel
/-- a row's length -/
def rl (σ : qH) (r : Nat) : Int := match σ[r]? with
  | some (.inl (_, [_, _, .int n])) => n.toInt
  | _ => 0
theorem rl_of {σ : qH} {r b : Nat} {m n : Int} (h : σ[r]? = some (.inl (5, [J m, .ref b, J n]))) (hn : 0 ≤ n ∧ n ≤ 8000) : rl σ r = n := by
  unfold rl
  rw [h]
  exact i32_to ⟨by omega, by omega⟩
theorem rl_eq {σ σ' : qH} {r : Nat} (h : σ'[r]? = σ[r]?) : rl σ' r = rl σ r := by unfold rl; rw [h]
/-! the tape: which archive it is, and its length -/
def tpf (σ : qH) : Option Value := match (σ[16]? : Option qC) with
  | some (.inl (_, fs)) => fs[9]?
  | _ => none
def tl (σ : qH) : Int := match tpf σ with
  | some (.ref tp) => rl σ (tp + 1)
  | _ => 0
theorem tpf_of {σ : qH} {ci : Nat} {fs : List Value} {v : Value} (h : σ[16]? = some (.inl (ci, fs))) (hv : fs[9]? = some v) : tpf σ = some v := by
  unfold tpf
  rw [h]
  exact hv
theorem tpf_eq {σ σ' : qH} (h : σ'[16]? = σ[16]?) : tpf σ' = tpf σ := by unfold tpf; rw [h]
theorem tl_at {σ : qH} {ci tp : Nat} {fs : List Value} (h : σ[16]? = some (.inl (ci, fs))) (hv : fs[9]? = some (.ref tp)) : tl σ = rl σ (tp + 1) := by
  unfold tl
  rw [tpf_of h hv]
theorem mst_tp {tp : Nat} (h : tp = 63 ∨ tp = 68) : mst (tp + 1) = 8000 := by rcases h with rfl | rfl <;> decide
theorem tl_keep {σ σ' : qH} (hK : K σ) (h : Fr WP σ σ') (ht : tpf σ' = tpf σ) : tl σ' = tl σ := by
  obtain ⟨ke, sc, tp, ou, mo, sg, ho, mc, lf, lp, hN, f1, f2, f3, -⟩ := hK.na
  have e1 : tpf σ = some (.ref tp) := tpf_of hN rfl
  unfold tl
  rw [ht, e1]
  refine rl_eq (h.2.2.1 (tp + 1) ?_ ?_)
  · rcases f3 with rfl | rfl <;> decide
  · rcases f3 with rfl | rfl <;> decide
