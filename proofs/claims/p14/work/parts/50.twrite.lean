/-! Writes that keep K, and what follows of the class's own tables. -/
theorem qisb_i8 (y : Int32) : qisb y.toInt8.toInt32 = true := by
  have h1 : (y.toInt8.toInt32).toInt = y.toInt8.toInt := Int8.toInt_toInt32 _
  have h2 := Int8.le_toInt y.toInt8
  have h3 := Int8.toInt_le y.toInt8
  unfold qisb
  simp only [Bool.and_eq_true, decide_eq_true_eq]
  have m1 : Int8.minValue.toInt = -128 := by decide
  have m2 : Int8.maxValue.toInt = 127 := by decide
  refine ⟨Int32.le_iff_toInt_le.mpr ?_, Int32.le_iff_toInt_le.mpr ?_⟩
  · rw [h1, show (-128 : Int32).toInt = -128 by decide]
    omega
  · rw [h1, show (127 : Int32).toInt = 127 by decide]
    omega
theorem all_set {li : List Int32} {x : Nat} {y : Int32} (h : li.all qisb = true) (hy : qisb y = true) : (li.set x y).all qisb = true := by
  rw [List.all_eq_true] at h ⊢
  intro z hz
  rcases List.mem_or_eq_of_mem_set hz with h1 | h1
  · exact h z h1
  · rw [h1]; exact hy
theorem all_cp {la lb : List Int32} {sp dp n : Nat} (h1 : la.all qisb = true) (h2 : lb.all qisb = true) : (qcp la lb sp dp n).all qisb = true := by
  rw [List.all_eq_true] at h1 h2 ⊢
  intro z hz
  unfold qcp at hz
  rcases List.mem_append.mp hz with h | h
  · exact h2 z (List.mem_of_mem_take h)
  · rcases List.mem_append.mp h with h | h
    · exact h1 z (List.mem_of_mem_drop (List.mem_of_mem_take h))
    · exact h2 z (List.mem_of_mem_drop h)
theorem ArM_L {a : Nat} (h : a ∈ ArM) : a ∈ ArL := List.mem_cons_of_mem _ (List.mem_cons_of_mem _ h)
theorem ArL_nR : ∀ a ∈ ArL, a ∉ RwL := by decide +kernel
theorem ArA_nR : ∀ a ∈ ArL, a + 3 ∉ RwL ∧ a + 4 ∉ RwL := by decide +kernel
theorem CdL_lt : ∀ c ∈ CdL, Nat.blt c qnE = false := by decide +kernel
theorem kdX_18 : kdX[18]? = some (1, 0, 320) := by decide +kernel
theorem kdX_44 : kdX[44]? = some (1, 0, 2000) := by decide +kernel
theorem kdX_45 : kdX[45]? = some (1, 0, 2000) := by decide +kernel
theorem kdX_49 : kdX[49]? = some (1, 0, 6) := by decide +kernel
theorem kdX_50 : kdX[50]? = some (1, 0, 6) := by decide +kernel
theorem na_ke {ke : Nat} (h : ke = 59 ∨ ke = 61) : ke ∈ RwL := by
  rcases h with rfl | rfl <;> decide
theorem na_tp {tp : Nat} (h : tp = 63 ∨ tp = 68) : tp ∈ ArL := by
  rcases h with rfl | rfl <;> decide
theorem na_mo {mo : Nat} (h : mo = 73 ∨ mo = 74) : kdX[mo]? = some (3, 0, 6) ∧ mo ∉ RwL ∧ mo < 137 := by
  rcases h with rfl | rfl <;> decide +kernel
/-- the rows that a call may change which is none of feed, end, open; and the object itself -/
def WP : List Nat := [16, 17, 18, 19, 20, 21, 22, 23, 24, 25, 26, 27, 28, 29, 30, 31, 32, 33, 34, 35, 36, 37, 38, 39, 40, 41, 42, 43, 44, 45, 46, 47, 48, 49, 50, 51, 52, 53, 54, 55, 56, 57, 58, 59, 60, 61, 62, 73, 74, 75, 76, 77, 78, 79, 80, 81, 82, 83, 84, 85, 86, 87, 88, 89, 90, 91, 92, 93, 94, 95, 96, 97, 98, 99, 100, 101, 102, 103, 104, 105, 106, 107, 108, 109, 110, 111, 112, 113, 114, 115, 116, 117, 118, 119, 120, 121, 122, 123, 124, 125, 126, 127, 128, 129, 130, 131, 132, 133, 134, 135, 136]
theorem mem2 {k a b : Nat} (h : k = a ∨ k = b) : k ∈ [a, b] := by rcases h with rfl | rfl <;> simp
theorem nm_0 {k : Nat} : k ∉ ([] : List Nat) := fun h => by cases h
theorem nm_c {k x : Nat} {l : List Nat} (h : k ≠ x) (g : k ∉ l) : k ∉ x :: l := fun z => by
  rcases List.mem_cons.mp z with z | z
  · exact h z
  · exact g z
theorem em_at {li : List (Option Nat)} {x : Int} (h : ∀ y ∈ li, ∃ a : Nat, y = some a ∧ a ∈ ArM) (hx : 0 ≤ x ∧ x < li.length) : ∃ a : Nat, li.getD x.toNat none = some a ∧ a ∈ ArM := by
  have hlt : x.toNat < li.length := by omega
  obtain ⟨a, h1, h2⟩ := h _ (List.getElem_mem hlt)
  refine ⟨a, ?_, h2⟩
  rw [List.getD_eq_getElem?_getD, List.getElem?_eq_getElem hlt, h1]
  rfl
/-- the six tables -/
def XT (ξ : Nat → Option (Nat × List Int32)) : Prop := (∃ l, ξ 1 = some (0, l) ∧ l = [16, 17, 18, 0, 8, 7, 9, 6, 10, 5, 11, 4, 12, 3, 13, 2, 14, 1, 15]) ∧ (∃ l, ξ 2 = some (0, l) ∧ l = tab2) ∧ (∃ l, ξ 3 = some (0, l) ∧ l = tab3) ∧ (∃ l, ξ 4 = some (0, l) ∧ l = tab4) ∧ (∃ l, ξ 5 = some (0, l) ∧ l = tab5) ∧ (∃ l, ξ 6 = some (0, l) ∧ l = tab6)
section
variable {ξ : Nat → Option (Nat × List Int32)} {d j pc : Nat} {lv : qLV} {st r : List Value} {σ : qH} {Q : Option Value → qH → Prop} {x y : Int} {w : List Nat}
theorem set_ho {i : Nat} {c1 : qC} : ∀ {k : Nat} {z : qC}, k ≠ i → σ[k]? = some z → (σ.set i c1)[k]? = some z := fun h e => by rw [List.getElem?_set_ne (fun q => h q.symm)]; exact e
theorem T.putF {idx ci k i : Nat} {nb : Bool} {q : Nat × Nat} {fs fs' : List Value} {v : Value} (hf : qfe j pc = some (.putfield idx, 3)) (hl : qlk (qfL.getD (qco j) []) idx = some ((ci, k, nb), q)) (hi : σ[i]? = some (.inl (ci, fs))) (hk : Nat.blt k fs.length = true) (hv : qfit (qcty ci k) v = true) (hn : (!(qfn ci k).2.2.2 || (!nb && (qisI j && Nat.beq ci (qco j)))) = true) (he : fs.set k v = fs') (hF : Fr w σ (σ.set i (.inl (ci, fs')))) (g : ∀ σ' : qH, Fr w σ σ' → σ'[i]? = some (.inl (ci, fs')) → (∀ {k : Nat} {z : qC}, k ≠ i → σ[k]? = some z → σ'[k]? = some z) → T ξ d j (pc + 3) lv r σ' Q) : T ξ d j pc lv (v :: .ref i :: r) σ Q :=
  T.put hf hl hi hk hv hn he (g _ hF (qs_at hi) set_ho)
theorem T.newB {idx i b : Nat} {nb : Bool} {q : Nat × Nat} {m n : Int} {bs : List Int32} (hf1 : qfe j pc = some (.newarray .byte, 2)) (hf2 : qfe j (pc + 2) = some (.putfield idx, 3)) (hl : qlk (qfL.getD (qco j) []) idx = some ((5, 1, nb), q)) (hK : K σ) (hr : i ∈ RwL) (hi : σ[i]? = some (.inl (5, [J m, .ref b, J n]))) (hb : σ[b]? = some (.inr (.inl (1, bs)))) (h1 : (bs.length : Int) < m ∧ 0 ≤ n ∧ n ≤ m ∧ m ≤ 8000 ∧ m = mst i) (hw : i ∈ w)
    (g : ∀ (σ' : qH) (l' : List Int32), (l'.length : Int) = m → l' = List.replicate m.toNat 0 → Fr w σ σ' → σ'[i]? = some (.inl (5, [J m, .ref σ.length, J n])) → σ'[σ.length]? = some (.inr (.inl (1, l'))) → (∀ {k : Nat} {z : qC}, k ≠ i → σ[k]? = some z → σ'[k]? = some z) → T ξ d j (pc + 5) lv r σ' Q) : T ξ d j pc lv (J m :: .ref i :: r) σ Q := by
  have hi2 := qs_push (y := nbs m) hi
  have hlt := (List.getElem?_eq_some_iff.mp hi).1
  have e : ∀ n9, exe ξ (n9 + 1) d j pc lv (J m :: .ref i :: r) σ = exe ξ n9 d j (pc + 2) lv (.ref σ.length :: .ref i :: r) (σ ++ [nbs m]) := fun n9 => by
    refine ex_al hf1 rfl rfl rfl rfl ?_
    show (bif !(decide (Int32.ofInt m < 0)) && Nat.ble (Int32.ofInt m).toNatClampNeg 100000 then some (.ref i :: r, (.inr (.inl (1, List.replicate (Int32.ofInt m).toNatClampNeg 0)) : qC)) else none) = _
    have a1 : (!(decide (Int32.ofInt m < 0))) = true := by
      simp only [Bool.not_eq_true', decide_eq_false_iff_not, show (0 : Int32) = Int32.ofInt 0 from rfl, i32_lt (show -2147483648 ≤ m ∧ m ≤ 2147483647 by omega) (show -2147483648 ≤ (0 : Int) ∧ (0 : Int) ≤ 2147483647 by decide)]
      omega
    rw [a1, i32_nat (by omega), Nat.ble_eq_true_of_le (show m.toNat ≤ 100000 by omega)]
    rfl
  refine T.go 1 e (T.put hf2 hl hi2 rfl rfl rfl rfl (g _ (List.replicate m.toNat 0) (by rw [List.length_replicate]; omega) rfl (Fr.new hK hr hi hb h1 hw) (qs_at hi2) ?_ ?_))
  · rw [List.getElem?_set_ne (by omega), List.getElem?_append_right (Nat.le_refl _), Nat.sub_self]
    rfl
  · intro k z h e
    exact set_ho h (qs_push e)
theorem T.iastF {i : Nat} {li : List Int32} (hf : qfe j pc = some (.iastore, 1)) (hK : K σ) (hi : σ[i]? = some (.inr (.inl (0, li)))) (hx : 0 ≤ x ∧ x < li.length ∧ x ≤ 2147483647) (hn : i ∉ RwL) (hm : i < 137 ∨ 146 < i) (hw : i ∈ w) (g : ∀ σ' : qH, Fr w σ σ' → σ'[i]? = some (.inr (.inl (0, li.set x.toNat (Int32.ofInt y)))) → (∀ {k : Nat} {z : qC}, k ≠ i → σ[k]? = some z → σ'[k]? = some z) → T ξ d j (pc + 1) lv r σ' Q) : T ξ d j pc lv (J y :: J x :: .ref i :: r) σ Q :=
  T.iast hf hi hx (g _ (Fr.other hK hi (by simp only [kdc, List.length_set]) trivial hn hm (fun _ z => by cases z) hw) (qs_at hi) set_ho)
theorem T.bastF {i rr : Nat} {mm nn : Value} {li : List Int32} (hf : qfe j pc = some (.bastore, 1)) (hK : K σ) (hr : rr ∈ RwL) (hrow : σ[rr]? = some (.inl (5, [mm, .ref i, nn]))) (hw : rr ∈ w) (hi : σ[i]? = some (.inr (.inl (1, li)))) (hx : 0 ≤ x ∧ x < li.length ∧ x ≤ 2147483647) (g : ∀ (σ' : qH) (l' : List Int32), l'.length = li.length → l' = li.set x.toNat (Int32.ofInt y).toInt8.toInt32 → Fr w σ σ' → σ'[i]? = some (.inr (.inl (1, l'))) → (∀ {k : Nat} {z : qC}, k ≠ i → σ[k]? = some z → σ'[k]? = some z) → T ξ d j (pc + 1) lv r σ' Q) : T ξ d j pc lv (J y :: J x :: .ref i :: r) σ Q :=
  T.bast hf hi hx (g _ _ List.length_set rfl (Fr.byt hK hr hrow hi List.length_set (all_set (hK.2 _ _ hi) (qisb_i8 _)) hw) (qs_at hi) set_ho)
theorem T.aastF {i a : Nat} {li : List (Option Nat)} {fs : List Value} (hf : qfe j pc = some (.aastore, 1)) (hK : K σ) (ha : σ[a]? = some (.inl (1, fs))) (hi : σ[i]? = some (.inr (.inr (.inr (.inl li))))) (hm : ∀ x ∈ li, ∃ a : Nat, x = some a ∧ a ∈ ArM) (hx : 0 ≤ x ∧ x < li.length ∧ x ≤ 2147483647) (hA : a ∈ ArM) (hn : i ∉ RwL) (hm2 : i < 137 ∨ 146 < i) (hw : i ∈ w) (g : ∀ (σ' : qH), Fr w σ σ' → σ'[i]? = some (.inr (.inr (.inr (.inl (li.set x.toNat (some a)))))) → (∀ {k : Nat} {z : qC}, k ≠ i → σ[k]? = some z → σ'[k]? = some z) → T ξ d j (pc + 1) lv r σ' Q) : T ξ d j pc lv (.ref a :: J x :: .ref i :: r) σ Q := by
  have hF : Fr w σ (σ.set i (.inr (.inr (.inr (.inl (li.set x.toNat (some a))))))) := Fr.other hK hi (by simp only [kdc, List.length_set]) (fun y hy => by
    rcases List.mem_or_eq_of_mem_set hy with h | h
    · exact hm y h
    · exact ⟨a, h, hA⟩) hn hm2 (fun _ z => by cases z) hw
  refine T.go 1 (fun n => ex_wr hf rfl rfl rfl ?_) (g _ hF (qs_at hi) set_ho)
  unfold qwr
  simp only [hi, ha, i32_ix hx.1 hx.2.1 hx.2.2, cond_true, i32_nat ⟨show -2147483648 ≤ x by omega, hx.2.2⟩]
theorem T.acopy {idx u v i k : Nat} {q : Nat × Nat} {la lb : List Int32} {sp dp n : Int} (hf : qfe j pc = some (.invokestatic idx, 3)) (hl : qlk (qmL.getD (qco j) []) idx = some ((8, u, v), q)) (hK : K σ) (ha : σ[i]? = some (.inr (.inl (1, la)))) (hb : σ[k]? = some (.inr (.inl (1, lb)))) (hx : 0 ≤ sp ∧ 0 ≤ dp ∧ 0 ≤ n ∧ sp + n ≤ la.length ∧ dp + n ≤ lb.length ∧ sp ≤ 2147483647 ∧ dp ≤ 2147483647 ∧ n ≤ 2147483647) (hq : la.all qisb = true) (hc : Nat.ble (qcat r) 8 = true) {rr : Nat} {mm nn : Value} (hr : rr ∈ RwL) (hrow : σ[rr]? = some (.inl (5, [mm, .ref k, nn]))) (hw : rr ∈ w)
    (g : ∀ (σ' : qH) (l' : List Int32), l'.length = lb.length → l' = qcp la lb sp.toNat dp.toNat n.toNat → Fr w σ σ' → σ'[k]? = some (.inr (.inl (1, l'))) → (∀ {k9 : Nat} {z : qC}, k9 ≠ k → σ[k9]? = some z → σ'[k9]? = some z) → T ξ (d + 1) j (pc + 3) lv r σ' Q) : T ξ (d + 1) j pc lv (J n :: J dp :: .ref k :: J sp :: .ref i :: r) σ Q := by
  obtain ⟨h1, h2, h3, h4, h5, h6, h7, h8⟩ := hx
  have e1 : (qcp la lb sp.toNat dp.toNat n.toNat).length = lb.length := qcp_len (by omega) (by omega)
  refine T.go 1 (fun n9 => ex_in hf rfl rfl rfl rfl rfl rfl (r := r) (σ1 := σ.set k (.inr (.inl (1, qcp la lb sp.toNat dp.toNat n.toNat)))) ?_) (g _ _ e1 rfl (Fr.byt hK hr hrow hb e1 (all_cp hq (hK.2 _ _ hb)) hw) (qs_at hb) set_ho)
  have nn : ∀ z : Int, 0 ≤ z → z ≤ 2147483647 → (!(decide (Int32.ofInt z < 0))) = true := fun z a b => by
    simp only [Bool.not_eq_true', decide_eq_false_iff_not, show (0 : Int32) = Int32.ofInt 0 from rfl, i32_lt (show -2147483648 ≤ z ∧ z ≤ 2147483647 by omega) (show -2147483648 ≤ (0 : Int) ∧ (0 : Int) ≤ 2147483647 by decide)]
    omega
  unfold qca
  simp only [hl, ha, hb, hc, nn _ h1 h6, nn _ h2 h7, nn _ h3 h8, hq, i32_nat ⟨show -2147483648 ≤ sp by omega, h6⟩, i32_nat ⟨show -2147483648 ≤ dp by omega, h7⟩, i32_nat ⟨show -2147483648 ≤ n by omega, h8⟩, Nat.ble_eq_true_of_le (show sp.toNat + n.toNat ≤ la.length by omega), Nat.ble_eq_true_of_le (show dp.toNat + n.toNat ≤ lb.length by omega), Bool.and_self, cond_true]
end
section
variable {ξ : Nat → Option (Nat × List Int32)} {d j pc : Nat} {lv : qLV} {r : List Value} {σ : qH} {Q : Option Value → qH → Prop} {a : Int}
end
