/-! class Codes: how it learns lengths (no code goes wrong; arrays keep their lengths). -/
theorem n32a (a b : Nat) : Int32.ofNat a + Int32.ofNat b = Int32.ofNat (a + b) := (Int32.ofNat_add a b).symm
theorem n32of {x : Int32} (h : 0 ≤ x.toInt) : x = Int32.ofNat x.toInt.toNat := by
  apply Int32.toInt_inj.mp
  have h2 := Int32.toInt_lt x
  rw [n32 (by omega)]
  omega
theorem q_mask15 (x : Int32) : 0 ≤ (x &&& 15).toInt ∧ (x &&& 15).toInt < 16 := by
  rw [Jvm.Kit.i32_mask x 15 (k := 4) (by decide) (by decide)]
  omega
theorem q_dif {σ : qH} {i j : Nat} {a b : qC} (hi : σ[i]? = some a) (hj : σ[j]? = some b) (h : a ≠ b) : i ≠ j := fun e => by
  subst e
  rw [hi] at hj
  exact h (Option.some.inj hj)
/-- counts after m lengths -/
def cntOk (lc : List Int32) (m : Nat) : Prop := lc.length = 16 ∧ ∀ t, t < 16 → 0 ≤ (lc.getD t 0).toInt ∧ (lc.getD t 0).toInt ≤ m
theorem cntOk.inc {lc : List Int32} {m t : Nat} (h : cntOk lc m) (ht : t < 16) (hm : m < 2147483647) : cntOk (lc.set t (lc.getD t 0 + 1)) (m + 1) := by
  refine ⟨by rw [List.length_set]; exact h.1, fun u hu => ?_⟩
  rw [getD_set _ _ _ _ (by rw [h.1]; exact ht)]
  obtain ⟨h1, h2⟩ := h.2 u hu
  split
  · rename_i e
    subst e
    rw [Jvm.Kit.i32_add (by show -2 ^ 31 ≤ _ + (1 : Int); omega) (by show _ + (1 : Int) < _; omega)]
    show 0 ≤ _ + (1 : Int) ∧ _ + (1 : Int) ≤ _
    omega
  · omega
/-- the lengths that stand in a list, from fa on -/
def LN (la : List Int32) (fa : Nat) : Int → Int := fun k => (la.getD (fa + k.toNat) 0 &&& 15).toInt
theorem LN_r (la : List Int32) (fa : Nat) (k : Int) : 0 ≤ LN la fa k ∧ LN la fa k ≤ 15 := by
  have := q_mask15 (la.getD (fa + k.toNat) 0)
  unfold LN
  omega
/-- counts are what they must be -/
def cntV (la : List Int32) (fa : Nat) (lc : List Int32) (m : Nat) : Prop := ∀ t : Nat, t < 16 → (lc.getD t 0).toInt = MY (LN la fa) t m
theorem cntV.inc {la : List Int32} {fa : Nat} {lc : List Int32} {m : Nat} (h : cntV la fa lc m) (hk : cntOk lc m) (hm : m < 2147483647) : cntV la fa (lc.set (la.getD (fa + m) 0 &&& 15).toNatClampNeg (lc.getD (la.getD (fa + m) 0 &&& 15).toNatClampNeg 0 + 1)) (m + 1) := by
  intro t ht
  have hv := q_mask15 (la.getD (fa + m) 0)
  have hc : (la.getD (fa + m) 0 &&& 15).toNatClampNeg = (la.getD (fa + m) 0 &&& 15).toInt.toNat := rfl
  have hL : LN la fa (m : Int) = (la.getD (fa + m) 0 &&& 15).toInt := rfl
  rw [getD_set _ _ _ _ (by rw [hk.1]; omega)]
  have hM : MY (LN la fa) t (m + 1) = MY (LN la fa) t m + (if LN la fa (m : Int) = t then 1 else 0) := rfl
  rw [hM, ← h t ht, hL]
  by_cases e : t = (la.getD (fa + m) 0 &&& 15).toNatClampNeg
  · have h1 := hk.2 t ht
    rw [if_pos e, if_pos (by omega), ← e, Jvm.Kit.i32_add (by show -2 ^ 31 ≤ _ + (1 : Int); omega) (by show _ + (1 : Int) < _; omega)]
    rfl
  · rw [if_neg e, if_neg (by omega), Int.add_zero]
section
variable {ξ : Nat → Option (Nat × List Int32)}
theorem c_count_loop (d i a c p s fa nn : Nat) (fl : Int32) (la : List Int32) (hnc : Nat.blt c qnE = false) (hna : Nat.blt a qnE = false) (hac : a ≠ c) (hic : i ≠ c) (hfa : fa + nn ≤ la.length) (hla : la.length < 2147483648) : ∀ (f m : Nat) (lc : List Int32) (σ : qH), m + f = nn → cntOk lc m → cntV la fa lc m → σ[i]? = some (.inl (2, [.ref c, .ref p, .ref s])) → σ[a]? = some (.inr (.inl (0, la))) → σ[c]? = some (.inr (.inl (0, lc))) →
    ∃ lc' : List Int32, cntOk lc' nn ∧ cntV la fa lc' nn ∧ ∀ o, G ξ d j_C_learn 74 [(0, .ref i), (1, .ref a), (2, .int (Int32.ofNat fa)), (3, .int (Int32.ofNat nn)), (4, .int fl), (5, .int (Int32.ofNat nn))] [] (σ.set c (.inr (.inl (0, lc')))) o → G ξ d j_C_learn 44 [(0, .ref i), (1, .ref a), (2, .int (Int32.ofNat fa)), (3, .int (Int32.ofNat nn)), (4, .int fl), (5, .int (Int32.ofNat m))] [] σ o := by
  intro f
  induction f with
  | zero =>
    intro m lc σ hm hk hkv hi ha hc
    have e : m = nn := by omega
    subst e
    refine ⟨lc, hk, hkv, fun o g => ?_⟩
    rw [qs_id hc] at g
    refine G.go 3 (fun n => (rfl : _ = exe ξ n d j_C_learn (if Int32.ofNat m ≤ Int32.ofNat m then 74 else 50) [(0, .ref i), (1, .ref a), (2, .int (Int32.ofNat fa)), (3, .int (Int32.ofNat m)), (4, .int fl), (5, .int (Int32.ofNat m))] [] σ)) ?_
    rw [if_pos (Int32.le_refl _)]
    exact g
  | succ f ih =>
    intro m lc σ hm hk hkv hi ha hc
    have hv := q_mask15 (la.getD (fa + m) 0)
    have ht : ((la.getD (fa + m) 0) &&& 15).toNatClampNeg < 16 := by
      show (((la.getD (fa + m) 0) &&& 15).toInt.toNat) < 16
      omega
    have hk2 := hk.inc ht (by omega)
    obtain ⟨lc', h1, h1v, h2⟩ := ih (m + 1) _ (σ.set c (.inr (.inl (0, lc.set ((la.getD (fa + m) 0) &&& 15).toNatClampNeg (lc.getD ((la.getD (fa + m) 0) &&& 15).toNatClampNeg 0 + 1))))) (by omega) hk2 (hkv.inc hk (by omega)) (qs_ne hic.symm hi) (qs_ne hac.symm ha) (qs_at hc)
    refine ⟨lc', h1, h1v, fun o g => ?_⟩
    have h3 := h2 o (by rw [List.set_set]; exact g)
    refine G.go 3 (fun n => (rfl : _ = exe ξ n d j_C_learn (if Int32.ofNat nn ≤ Int32.ofNat m then 74 else 50) [(0, .ref i), (1, .ref a), (2, .int (Int32.ofNat fa)), (3, .int (Int32.ofNat nn)), (4, .int fl), (5, .int (Int32.ofNat m))] [] σ)) ?_
    rw [if_neg (fun z => by have := (n32le (by omega) (by omega)).mp z; omega)]
    refine G.go 1 (fun n => (rfl : _ = exe ξ n d j_C_learn 51 [(0, .ref i), (1, .ref a), (2, .int (Int32.ofNat fa)), (3, .int (Int32.ofNat nn)), (4, .int fl), (5, .int (Int32.ofNat m))] [.ref i] σ)) ?_
    refine G.get rfl rfl rfl hi rfl ?_
    refine G.go 4 (fun n => (rfl : _ = exe ξ n d j_C_learn 59 [(0, .ref i), (1, .ref a), (2, .int (Int32.ofNat fa)), (3, .int (Int32.ofNat nn)), (4, .int fl), (5, .int (Int32.ofNat m))] [.int (Int32.ofNat fa + Int32.ofNat m), .ref a, .ref c] σ)) ?_
    rw [n32a]
    refine G.iald rfl hna ha (qix_n (by omega) hla) ?_
    rw [n32c (by omega)]
    refine G.go 3 (fun n => (rfl : _ = exe ξ n d j_C_learn 64 [(0, .ref i), (1, .ref a), (2, .int (Int32.ofNat fa)), (3, .int (Int32.ofNat nn)), (4, .int fl), (5, .int (Int32.ofNat m))] [.int (la.getD (fa + m) 0 &&& 15), .ref c, .int (la.getD (fa + m) 0 &&& 15), .ref c] σ)) ?_
    refine G.iald rfl hnc hc (qix_of hv.1 (by rw [hk.1]; exact hv.2)) ?_
    refine G.go 2 (fun n => (rfl : _ = exe ξ n d j_C_learn 67 [(0, .ref i), (1, .ref a), (2, .int (Int32.ofNat fa)), (3, .int (Int32.ofNat nn)), (4, .int fl), (5, .int (Int32.ofNat m))] [.int (lc.getD (la.getD (fa + m) 0 &&& 15).toNatClampNeg 0 + 1), .int (la.getD (fa + m) 0 &&& 15), .ref c] σ)) ?_
    refine G.iast rfl hc (qix_of hv.1 (by rw [hk.1]; exact hv.2)) ?_
    refine G.go 2 (fun n => (rfl : _ = exe ξ n d j_C_learn 44 [(0, .ref i), (1, .ref a), (2, .int (Int32.ofNat fa)), (3, .int (Int32.ofNat nn)), (4, .int fl), (5, .int (Int32.ofNat m + Int32.ofInt 1))] [] (σ.set c (.inr (.inl (0, lc.set ((la.getD (fa + m) 0) &&& 15).toNatClampNeg (lc.getD ((la.getD (fa + m) 0) &&& 15).toNatClampNeg 0 + 1))))))) ?_
    rw [n32i]
    exact h3
end
