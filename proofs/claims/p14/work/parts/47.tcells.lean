/-! Steps on cells, calls and returns, with something said of the end. -/
section
variable {ξ : Nat → Option (Nat × List Int32)} {d j pc : Nat} {lv : qLV} {st r : List Value} {σ : qH} {Q : Option Value → qH → Prop} {x y : Int}
theorem T.get {idx ci k i : Nat} {nb : Bool} {q : Nat × Nat} {fs : List Value} {v : Value} (hf : qfe j pc = some (.getfield idx, 3)) (hx : qlk (qxL.getD (qco j) []) idx = none) (hl : qlk (qfL.getD (qco j) []) idx = some ((ci, k, nb), q)) (hi : σ[i]? = some (.inl (ci, fs))) (hv : fs[k]? = some v) (g : T ξ d j (pc + 3) lv (v :: r) σ Q) : T ξ d j pc lv (.ref i :: r) σ Q := by
  obtain ⟨w, s, h1, h2⟩ := g
  exact ⟨w, s, G.get hf hx hl hi hv h1, h2⟩
theorem T.put {idx ci k i : Nat} {nb : Bool} {q : Nat × Nat} {fs fs' : List Value} {v : Value} (hf : qfe j pc = some (.putfield idx, 3)) (hl : qlk (qfL.getD (qco j) []) idx = some ((ci, k, nb), q)) (hi : σ[i]? = some (.inl (ci, fs))) (hk : Nat.blt k fs.length = true) (hv : qfit (qcty ci k) v = true) (hn : (!(qfn ci k).2.2.2 || (!nb && (qisI j && Nat.beq ci (qco j)))) = true) (he : fs.set k v = fs') (g : T ξ d j (pc + 3) lv r (σ.set i (.inl (ci, fs'))) Q) : T ξ d j pc lv (v :: .ref i :: r) σ Q := by
  subst he
  obtain ⟨w, s, h1, h2⟩ := g
  exact ⟨w, s, G.put hf hl hi hk hv hn h1, h2⟩
theorem T.iald {i : Nat} {li : List Int32} (hf : qfe j pc = some (.iaload, 1)) (hn : Nat.blt i qnE = false) (hi : σ[i]? = some (.inr (.inl (0, li)))) (hx : 0 ≤ x ∧ x < li.length ∧ x ≤ 2147483647) (g : ∀ z : Int, -2147483648 ≤ z → z ≤ 2147483647 → li.getD x.toNat 0 = Int32.ofInt z → T ξ d j (pc + 1) lv (J z :: r) σ Q) : T ξ d j pc lv (J x :: .ref i :: r) σ Q := by
  obtain ⟨z, e, z1, z2⟩ := i32_of (li.getD x.toNat 0)
  obtain ⟨w, s, h1, h2⟩ := g z z1 z2 e
  refine ⟨w, s, G.iald hf hn hi (i32_ix hx.1 hx.2.1 hx.2.2) ?_, h2⟩
  rw [i32_nat ⟨by omega, hx.2.2⟩, e]
  exact h1
theorem T.bald {i : Nat} {li : List Int32} (hf : qfe j pc = some (.baload, 1)) (hn : Nat.blt i qnE = false) (hi : σ[i]? = some (.inr (.inl (1, li)))) (hx : 0 ≤ x ∧ x < li.length ∧ x ≤ 2147483647) (g : ∀ z : Int, -2147483648 ≤ z → z ≤ 2147483647 → li.getD x.toNat 0 = Int32.ofInt z → T ξ d j (pc + 1) lv (J z :: r) σ Q) : T ξ d j pc lv (J x :: .ref i :: r) σ Q := by
  obtain ⟨z, e, z1, z2⟩ := i32_of (li.getD x.toNat 0)
  obtain ⟨w, s, h1, h2⟩ := g z z1 z2 e
  refine ⟨w, s, G.bald hf hn hi (i32_ix hx.1 hx.2.1 hx.2.2) ?_, h2⟩
  rw [i32_nat ⟨by omega, hx.2.2⟩, e]
  exact h1
theorem T.lald {i : Nat} {li : List Int64} (hf : qfe j pc = some (.laload, 1)) (hi : σ[i]? = some (.inr (.inr (.inl li)))) (hx : 0 ≤ x ∧ x < li.length ∧ x ≤ 2147483647) (g : ∀ z : Int, -9223372036854775808 ≤ z → z ≤ 9223372036854775807 → li.getD x.toNat 0 = Int64.ofInt z → T ξ d j (pc + 1) lv (JL z :: r) σ Q) : T ξ d j pc lv (J x :: .ref i :: r) σ Q := by
  obtain ⟨z, e, z1, z2⟩ := i64_of (li.getD x.toNat 0)
  obtain ⟨w, s, h1, h2⟩ := g z z1 z2 e
  refine ⟨w, s, G.lald hf hi (i32_ix hx.1 hx.2.1 hx.2.2) ?_, h2⟩
  rw [i32_nat ⟨by omega, hx.2.2⟩, e]
  exact h1
theorem T.aald {i : Nat} {li : List (Option Nat)} (hf : qfe j pc = some (.aaload, 1)) (hi : σ[i]? = some (.inr (.inr (.inr (.inl li))))) (hx : 0 ≤ x ∧ x < li.length ∧ x ≤ 2147483647) {a : Nat} (ha : li.getD x.toNat none = some a) (g : T ξ d j (pc + 1) lv (.ref a :: r) σ Q) : T ξ d j pc lv (J x :: .ref i :: r) σ Q := by
  obtain ⟨w, s, h1, h2⟩ := g
  refine ⟨w, s, G.aald hf hi (i32_ix hx.1 hx.2.1 hx.2.2) ?_, h2⟩
  rw [i32_nat ⟨by omega, hx.2.2⟩, ha]
  exact h1
theorem T.ilen {i t : Nat} {li : List Int32} (hf : qfe j pc = some (.arraylength, 1)) (hn : Nat.blt i qnE = false) (hi : σ[i]? = some (.inr (.inl (t, li)))) (g : T ξ d j (pc + 1) lv (J li.length :: r) σ Q) : T ξ d j pc lv (.ref i :: r) σ Q := by
  obtain ⟨w, s, h1, h2⟩ := g
  exact ⟨w, s, G.ilen hf hn hi h1, h2⟩
/-- a table that stands outside -/
theorem T.xld {i : Nat} {li : List Int32} (hf : qfe j pc = some (.iaload, 1)) (hn : Nat.blt i qnE = true) (hi : ξ i = some (0, li)) (hx : 0 ≤ x ∧ x < li.length ∧ x ≤ 2147483647) (g : ∀ z : Int, -2147483648 ≤ z → z ≤ 2147483647 → li.getD x.toNat 0 = Int32.ofInt z → T ξ d j (pc + 1) lv (J z :: r) σ Q) : T ξ d j pc lv (J x :: .ref i :: r) σ Q := by
  obtain ⟨z, e, z1, z2⟩ := i32_of (li.getD x.toNat 0)
  refine T.go 1 (fun n => ex_rd hf rfl rfl ?_) (g z z1 z2 e)
  unfold qrd
  simp only [hn, hi, i32_ix hx.1 hx.2.1 hx.2.2, cond_true, i32_nat ⟨show -2147483648 ≤ x by omega, hx.2.2⟩, e]
theorem T.xlen {i : Nat} {li : List Int32} (hf : qfe j pc = some (.arraylength, 1)) (hn : Nat.blt i qnE = true) (hi : ξ i = some (0, li)) (g : T ξ d j (pc + 1) lv (J li.length :: r) σ Q) : T ξ d j pc lv (.ref i :: r) σ Q :=
  T.go 1 (fun n => ex_rd hf rfl rfl (by unfold qrd; simp only [hn, hi, cond_true]; rfl)) g
theorem T.iast {i : Nat} {li : List Int32} (hf : qfe j pc = some (.iastore, 1)) (hi : σ[i]? = some (.inr (.inl (0, li)))) (hx : 0 ≤ x ∧ x < li.length ∧ x ≤ 2147483647) (g : T ξ d j (pc + 1) lv r (σ.set i (.inr (.inl (0, li.set x.toNat (Int32.ofInt y))))) Q) : T ξ d j pc lv (J y :: J x :: .ref i :: r) σ Q := by
  obtain ⟨w, s, h1, h2⟩ := g
  refine ⟨w, s, G.iast hf hi (i32_ix hx.1 hx.2.1 hx.2.2) ?_, h2⟩
  rw [i32_nat ⟨by omega, hx.2.2⟩]
  exact h1
theorem T.bast {i : Nat} {li : List Int32} (hf : qfe j pc = some (.bastore, 1)) (hi : σ[i]? = some (.inr (.inl (1, li)))) (hx : 0 ≤ x ∧ x < li.length ∧ x ≤ 2147483647) (g : T ξ d j (pc + 1) lv r (σ.set i (.inr (.inl (1, li.set x.toNat (Int32.ofInt y).toInt8.toInt32)))) Q) : T ξ d j pc lv (J y :: J x :: .ref i :: r) σ Q := by
  obtain ⟨w, s, h1, h2⟩ := g
  refine ⟨w, s, G.bast hf hi (i32_ix hx.1 hx.2.1 hx.2.2) ?_, h2⟩
  rw [i32_nat ⟨by omega, hx.2.2⟩]
  exact h1
theorem T.last {i : Nat} {li : List Int64} (hf : qfe j pc = some (.lastore, 1)) (hi : σ[i]? = some (.inr (.inr (.inl li)))) (hx : 0 ≤ x ∧ x < li.length ∧ x ≤ 2147483647) (g : T ξ d j (pc + 1) lv r (σ.set i (.inr (.inr (.inl (li.set x.toNat (Int64.ofInt y)))))) Q) : T ξ d j pc lv (JL y :: J x :: .ref i :: r) σ Q := by
  obtain ⟨w, s, h1, h2⟩ := g
  refine ⟨w, s, G.last hf hi (i32_ix hx.1 hx.2.1 hx.2.2) ?_, h2⟩
  rw [i32_nat ⟨by omega, hx.2.2⟩]
  exact h1
/-- a call by an object -/
theorem T.callv {idx k n i ci : Nat} {q : Nat × Nat} {as : List Value} {fs : List Value} {Q1 : Option Value → qH → Prop} (hf : qfe j pc = some (.invokevirtual idx, 3)) (hl : qlk (qmL.getD (qco j) []) idx = some ((0, k, n), q)) (ht : qtk n st = some (as, .ref i :: r)) (hn : Nat.blt i qnE = false) (hi : σ[i]? = some (.inl (ci, fs))) (hk : (Nat.beq ci (qco k) && (Nat.ble (qcat r) 8 && (Nat.beq (qkd k) 0 && Nat.ble (lg_sl (.ref i :: as)).length (qnl k)))) = true) (hc : T ξ d k 0 (lv_args 0 (.ref i :: as)) [] σ Q1) (g : ∀ v s, Q1 v s → T ξ (d + 1) j (pc + 3) lv (v.toList ++ r) s Q) : T ξ (d + 1) j pc lv st σ Q := by
  obtain ⟨v, s, c1, c2⟩ := hc
  obtain ⟨w, t, h1, h2⟩ := g v s c2
  simp only [Bool.and_eq_true] at hk
  refine ⟨w, t, G.call (k := k) (as := .ref i :: as) (r := r) hf rfl rfl rfl rfl rfl rfl ?_ c1 h1, h2⟩
  unfold qca
  simp only [hl, ht, qrc_at hn hi hk.1, hk.2.1, hk.2.2.1, hk.2.2.2, Bool.and_self, cond_true]
/-- a call of a static method, of the same class or of its nest -/
theorem T.calls {idx k n kd : Nat} {q : Nat × Nat} {as : List Value} {Q1 : Option Value → qH → Prop} (hf : qfe j pc = some (.invokestatic idx, 3)) (hl : qlk (qmL.getD (qco j) []) idx = some ((kd, k, n), q)) (hkd : kd = 1 ∨ kd = 3) (ht : qtk n st = some (as, r)) (hk : (Nat.ble (qcat r) 8 && (Nat.beq (qkd k) 1 && Nat.ble (lg_sl as).length (qnl k))) = true) (hc : T ξ d k 0 (lv_args 0 as) [] σ Q1) (g : ∀ v s, Q1 v s → T ξ (d + 1) j (pc + 3) lv (v.toList ++ r) s Q) : T ξ (d + 1) j pc lv st σ Q := by
  obtain ⟨v, s, c1, c2⟩ := hc
  obtain ⟨w, t, h1, h2⟩ := g v s c2
  refine ⟨w, t, G.call (k := k) (as := as) (r := r) hf rfl rfl rfl rfl rfl rfl ?_ c1 h1, h2⟩
  unfold qca
  rcases hkd with rfl | rfl
  · simp only [hl, ht, hk, cond_true]
  · simp only [hl, ht, hk, cond_true]
theorem T.ireti (hf : qfe j pc = some (.ireturn, 1)) (hr : qrt j = some .int) (q : Q (some (J x)) σ) : T ξ d j pc lv [J x] σ Q := T.end 1 (fun n => ex_re hf rfl rfl rfl rfl rfl (by unfold qre; simp only [hr])) q
theorem T.iretz (hf : qfe j pc = some (.ireturn, 1)) (hr : qrt j = some .boolean) (hz : x = 0 ∨ x = 1) (q : Q (some (J x)) σ) : T ξ d j pc lv [J x] σ Q := T.end 1 (fun n => ex_re hf rfl rfl rfl rfl rfl (by
  unfold qre
  simp only [hr]
  rcases hz with rfl | rfl
  · rfl
  · rfl)) q
theorem T.lret (hf : qfe j pc = some (.lreturn, 1)) (hr : qrt j = some .long) (q : Q (some (JL x)) σ) : T ξ d j pc lv [JL x] σ Q := T.end 1 (fun n => ex_re hf rfl rfl rfl rfl rfl (by unfold qre; simp only [hr])) q
theorem T.vret (hf : qfe j pc = some (.return_, 1)) (hr : qrt j = none) (q : Q none σ) : T ξ d j pc lv [] σ Q := T.end 1 (fun n => ex_re hf rfl rfl rfl rfl rfl (by unfold qre; simp only [hr])) q
end
