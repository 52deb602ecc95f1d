/-! Runs of the law and of its helpers, with something said of their end. -/
def TH (ξ : Nat → Option (Nat × List Int32)) (d j pc : Nat) (lv : qLV) (st : List Value) (σ : qH) (Q : Option Value → qH → Prop) : Prop := ∃ (v : Option Value) (σ' : qH), GH ξ d j pc lv st σ (v, σ') ∧ Q v σ'
section
variable {ξ : Nat → Option (Nat × List Int32)} {d j pc t : Nat} {lv lv' : qLV} {st st' r : List Value} {σ σ' : qH} {Q : Option Value → qH → Prop} {a b c p s x y off : Int}
theorem TH.go (k : Nat) {pc' : Nat} (h : ∀ n, exh ξ (n + k) d j pc lv st σ = exh ξ n d j pc' lv' st' σ') (g : TH ξ d j pc' lv' st' σ' Q) : TH ξ d j pc lv st σ Q := by
  obtain ⟨v, s, h1, h2⟩ := g
  exact ⟨v, s, GH.go k h h1, h2⟩
theorem TH.step {pc' : Nat} (h : ∀ n, run1 ξ n d j pc lv st σ = some (pc', lv', st', σ')) (g : TH ξ d j pc' lv' st' σ' Q) : TH ξ d j pc lv st σ Q := by
  obtain ⟨v, s, h1, h2⟩ := g
  exact ⟨v, s, GH.step h h1, h2⟩
theorem TH.mono {Q1 : Option Value → qH → Prop} (g : TH ξ d j pc lv st σ Q1) (h : ∀ v s, Q1 v s → Q v s) : TH ξ d j pc lv st σ Q := by
  obtain ⟨v, s, h1, h2⟩ := g
  exact ⟨v, s, h1, h v s h2⟩
theorem TH.drop {lv : qLV} (ex : qLV) (hN : (lv.map Prod.fst).Nodup) (g : TH ξ d j pc lv st σ Q) : TH ξ d j pc (lv ++ ex) st σ Q := by
  obtain ⟨v, s, ⟨N, h1⟩, h2⟩ := g
  exact ⟨v, s, ⟨N, fun n hn => exh_weak n d j pc lv (lv ++ ex) st σ _ hN (fun _ _ h => qlg_app h) (h1 n hn)⟩, h2⟩
theorem TH.sim {ins : Instr} {len : Nat} (hf : qfe j pc = some (ins, len)) (h : qsim (qnl j) ins len lv st = some (lv', st')) (g : TH ξ d j (pc + len) lv' st' σ Q) : TH ξ d j pc lv st σ Q := TH.step (fun n => by unfold run1; rw [hf]; simp only [h]) g
theorem TH.jmp {ins : Instr} {len pc' : Nat} (hf : qfe j pc = some (ins, len)) (h0 : qsim (qnl j) ins len lv st = none) (h : qjmp ins len pc st = some (pc', st')) (g : TH ξ d j pc' lv st' σ Q) : TH ξ d j pc lv st σ Q := TH.step (fun n => by unfold run1; rw [hf]; simp only [h0, h]) g
theorem TH.xld {i : Nat} {li : List Int32} (hf : qfe j pc = some (.iaload, 1)) (hn : Nat.blt i qnE = true) (hi : ξ i = some (0, li)) (hx : 0 ≤ x ∧ x < li.length ∧ x ≤ 2147483647) (g : ∀ z : Int, -2147483648 ≤ z → z ≤ 2147483647 → li.getD x.toNat 0 = Int32.ofInt z → TH ξ d j (pc + 1) lv (J z :: r) σ Q) : TH ξ d j pc lv (J x :: .ref i :: r) σ Q := by
  obtain ⟨z, e, z1, z2⟩ := i32_of (li.getD x.toNat 0)
  refine TH.step (fun n => run1_rd hf rfl rfl ?_) (g z z1 z2 e)
  unfold qrd
  simp only [hn, hi, i32_ix hx.1 hx.2.1 hx.2.2, cond_true, i32_nat ⟨show -2147483648 ≤ x by omega, hx.2.2⟩, e]
theorem TH.xlen {i : Nat} {li : List Int32} (hf : qfe j pc = some (.arraylength, 1)) (hn : Nat.blt i qnE = true) (hi : ξ i = some (0, li)) (g : TH ξ d j (pc + 1) lv (J li.length :: r) σ Q) : TH ξ d j pc lv (.ref i :: r) σ Q :=
  TH.step (fun n => run1_rd hf rfl rfl (by unfold qrd; simp only [hn, hi, cond_true]; rfl)) g
theorem TH.callv {idx k n i ci : Nat} {q : Nat × Nat} {as : List Value} {fs : List Value} {Q1 : Option Value → qH → Prop} (hf : qfe j pc = some (.invokevirtual idx, 3)) (hl : qlk (qmL.getD (qco j) []) idx = some ((0, k, n), q)) (ht : qtk n st = some (as, .ref i :: r)) (hn : Nat.blt i qnE = false) (hi : σ[i]? = some (.inl (ci, fs))) (hk : (Nat.beq ci (qco k) && (Nat.ble (qcat r) 8 && (Nat.beq (qkd k) 0 && Nat.ble (lg_sl (.ref i :: as)).length (qnl k)))) = true) (hc : T ξ d k 0 (lv_args 0 (.ref i :: as)) [] σ Q1) (g : ∀ v s, Q1 v s → TH ξ (d + 1) j (pc + 3) lv (v.toList ++ r) s Q) : TH ξ (d + 1) j pc lv st σ Q := by
  obtain ⟨v, s, c1, c2⟩ := hc
  obtain ⟨w, t, h1, h2⟩ := g v s c2
  simp only [Bool.and_eq_true] at hk
  refine ⟨w, t, GH.call (k := k) (as := .ref i :: as) (r := r) hf rfl rfl rfl rfl rfl ?_ c1 h1, h2⟩
  unfold qca
  simp only [hl, ht, qrc_at hn hi hk.1, hk.2.1, hk.2.2.1, hk.2.2.2, Bool.and_self, cond_true]
theorem TH.callx {idx k n i ci : Nat} {q : Nat × Nat} {as : List Value} {fs : List Value} {Q1 : Option Value ⊕ Nat → qH → Prop} (hf : qfe j pc = some (.invokevirtual idx, 3)) (hl : qlk (qmL.getD (qco j) []) idx = some ((0, k, n), q)) (ht : qtk n st = some (as, .ref i :: r)) (hn : Nat.blt i qnE = false) (hi : σ[i]? = some (.inl (ci, fs))) (hk : (Nat.beq ci (qco k) && (Nat.ble (qcat r) 8 && (Nat.beq (qkd k) 0 && Nat.ble (lg_sl (.ref i :: as)).length (qnl k)))) = true) (hc : TX ξ d k 0 (lv_args 0 (.ref i :: as)) [] σ Q1) (g : ∀ v s, Q1 (.inl v) s → TH ξ (d + 1) j (pc + 3) lv (v.toList ++ r) s Q) (g2 : ∀ e s, Q1 (.inr e) s → ∃ h9, qhf (qhr j) pc e = some h9 ∧ TH ξ (d + 1) j h9 lv [.ref (s.length - 1)] s Q) : TH ξ (d + 1) j pc lv st σ Q := by
  obtain ⟨n1, o, s, c1, c2⟩ := hc
  simp only [Bool.and_eq_true] at hk
  have hq : qca j (.invokevirtual idx) 3 st σ = some (.inl (k, .ref i :: as, r)) := by
    unfold qca
    simp only [hl, ht, qrc_at hn hi hk.1, hk.2.1, hk.2.2.1, hk.2.2.2, Bool.and_self, cond_true]
  cases o with
  | inl v =>
    obtain ⟨w, t, h1, h2⟩ := g v s c2
    exact ⟨w, t, GH.call (k := k) (as := .ref i :: as) (r := r) hf rfl rfl rfl rfl rfl hq ⟨n1, exx_ret n1 _ _ _ _ _ _ _ _ c1⟩ h1, h2⟩
  | inr e =>
    obtain ⟨h9, hh, w, t, h1, h2⟩ := g2 e s c2
    exact ⟨w, t, GH.catch (k := k) (as := .ref i :: as) (r := r) hf rfl rfl hq ⟨n1, c1⟩ hh h1, h2⟩
theorem TH.help {ins : Instr} {len k : Nat} {as : List Value} {Q1 : Option Value → qH → Prop} (hf : qfe j pc = some (ins, len)) (hr : ∀ n, run1 ξ n (d + 1) j pc lv st σ = none) (hq : qre j ins len st = none) (h : qhc j ins len st = some (k, as, r)) (hc : TH ξ d k 0 (lv_args 0 as) [] σ Q1) (g : ∀ v s, Q1 v s → TH ξ (d + 1) j (pc + 3) lv (v.toList ++ r) s Q) : TH ξ (d + 1) j pc lv st σ Q := by
  obtain ⟨v, s, c1, c2⟩ := hc
  obtain ⟨w, t, h1, h2⟩ := g v s c2
  exact ⟨w, t, GH.help hf hr hq h c1 h1, h2⟩
theorem TH.end (k : Nat) {v : Option Value} (h : ∀ n, exh ξ (n + k) d j pc lv st σ = some (v, σ')) (q : Q v σ') : TH ξ d j pc lv st σ Q := ⟨v, σ', GH.end k h, q⟩
theorem TH.last {i : Nat} {li : List Int64} (hf : qfe j pc = some (.lastore, 1)) (hi : σ[i]? = some (.inr (.inr (.inl li)))) (hx : 0 ≤ x ∧ x < li.length ∧ x ≤ 2147483647) (g : TH ξ d j (pc + 1) lv r (σ.set i (.inr (.inr (.inl (li.set x.toNat (Int64.ofInt y)))))) Q) : TH ξ d j pc lv (JL y :: J x :: .ref i :: r) σ Q := by
  obtain ⟨w, s, h1, h2⟩ := g
  refine ⟨w, s, GH.last hf hi (i32_ix hx.1 hx.2.1 hx.2.2) ?_, h2⟩
  rw [i32_nat ⟨by omega, hx.2.2⟩]
  exact h1
theorem TH.iadd (hf : qfe j pc = some (.iadd, 1)) (g : TH ξ d j (pc + 1) lv (J (a + b) :: r) σ Q) : TH ξ d j pc lv (J b :: J a :: r) σ Q :=
  TH.sim hf (show some (lv, Value.int (Int32.ofInt a + Int32.ofInt b) :: r) = _ by rw [← Int32.ofInt_add]) g
theorem TH.isub (hf : qfe j pc = some (.isub, 1)) (g : TH ξ d j (pc + 1) lv (J (a - b) :: r) σ Q) : TH ξ d j pc lv (J b :: J a :: r) σ Q :=
  TH.sim hf (show some (lv, Value.int (Int32.ofInt a - Int32.ofInt b) :: r) = _ by rw [← Int32.ofInt_sub]) g
theorem TH.i2l (hf : qfe j pc = some (.i2l, 1)) (ha : -2147483648 ≤ a ∧ a ≤ 2147483647) (g : TH ξ d j (pc + 1) lv (JL a :: r) σ Q) : TH ξ d j pc lv (J a :: r) σ Q :=
  TH.sim hf (show some (lv, Value.long (Int32.ofInt a).toInt64 :: r) = _ by rw [show (Int32.ofInt a).toInt64 = Int64.ofInt a by rw [← Int64.toInt_inj, Int32.toInt_toInt64, i32_to ha, i64_to (by omega)]]) g
theorem TH.iinc {k : Nat} {n : Int} (hf : qfe j pc = some (.iinc k n, 3)) (hk : qlg lv k = some (J a)) (hb : Nat.blt k (qnl j) = true) (hl : qls1 lv k (J (a + n)) = lv') (g : TH ξ d j (pc + 3) lv' st σ Q) : TH ξ d j pc lv st σ Q :=
  TH.sim hf (show (match 3, qlg lv k with
    | 3, some (.int x) => bif Nat.blt k (qnl j) then some (qls1 lv k (.int (x + Int32.ofInt n)), st) else none
    | _, _ => none) = _ by rw [hk]; show (bif Nat.blt k (qnl j) then _ else _) = _; rw [hb, ← hl, show J (a + n) = Value.int (Int32.ofInt (a + n)) from rfl, Int32.ofInt_add]; rfl) g
theorem TH.some2 {ins : Instr} {len : Nat} {x : Int64} (hf : qfe j pc = some (ins, len)) (h : qsim (qnl j) ins len lv st = some (lv, .long x :: r)) (g : ∀ z : Int, -9223372036854775808 ≤ z → z ≤ 9223372036854775807 → x = Int64.ofInt z → TH ξ d j (pc + len) lv (JL z :: r) σ Q) : TH ξ d j pc lv st σ Q := by
  obtain ⟨z, e, h1, h2⟩ := i64_of x
  exact TH.sim hf h (by rw [e]; exact g z h1 h2 e)
theorem TH.lcmp (hf : qfe j pc = some (.lcmp, 1)) (ha : -9223372036854775808 ≤ a ∧ a ≤ 9223372036854775807) (hb : -9223372036854775808 ≤ b ∧ b ≤ 9223372036854775807) (g1 : a < b → TH ξ d j (pc + 1) lv (J (-1) :: r) σ Q) (g2 : a = b → TH ξ d j (pc + 1) lv (J 0 :: r) σ Q) (g3 : b < a → TH ξ d j (pc + 1) lv (J 1 :: r) σ Q) : TH ξ d j pc lv (JL b :: JL a :: r) σ Q := by
  have e1 : ∀ x y : Int, -9223372036854775808 ≤ x ∧ x ≤ 9223372036854775807 → -9223372036854775808 ≤ y ∧ y ≤ 9223372036854775807 → (Int64.ofInt x < Int64.ofInt y) = (x < y) := fun x y hx hy => by rw [Int64.lt_iff_toInt_lt, i64_to hx, i64_to hy]
  have e2 : (Int64.ofInt a = Int64.ofInt b) = (a = b) := by rw [← Int64.toInt_inj, i64_to ha, i64_to hb]
  by_cases h1 : a < b
  · exact TH.sim hf (show some (lv, Value.int (lg_cmp (Int64.ofInt a) (Int64.ofInt b)) :: r) = some (lv, J (-1) :: r) by
      unfold lg_cmp
      simp only [e1 a b ha hb, e1 b a hb ha, e2]
      rw [if_neg (by omega), if_neg (by omega)]; rfl) (g1 h1)
  · by_cases h2 : a = b
    · exact TH.sim hf (show some (lv, Value.int (lg_cmp (Int64.ofInt a) (Int64.ofInt b)) :: r) = some (lv, J 0 :: r) by
        unfold lg_cmp
        simp only [e1 a b ha hb, e1 b a hb ha, e2]
        rw [if_neg (by omega), if_pos h2]; rfl) (g2 h2)
    · exact TH.sim hf (show some (lv, Value.int (lg_cmp (Int64.ofInt a) (Int64.ofInt b)) :: r) = some (lv, J 1 :: r) by
        unfold lg_cmp
        simp only [e1 a b ha hb, e1 b a hb ha, e2]
        rw [if_pos (by omega)]; rfl) (g3 (by omega))
theorem TH.icmp_gt (hf : qfe j pc = some (.if_icmp .gt off, 3)) (ht : qtg ((pc : Int) + off) = some t) (ha : -2147483648 ≤ a ∧ a ≤ 2147483647) (hb : -2147483648 ≤ b ∧ b ≤ 2147483647) (g1 : b < a → TH ξ d j t lv r σ Q) (g2 : ¬ b < a → TH ξ d j (pc + 3) lv r σ Q) : TH ξ d j pc lv (J b :: J a :: r) σ Q := by
  have e : qjmp (.if_icmp .gt off) 3 pc (J b :: J a :: r) = some (if Int32.ofInt b < Int32.ofInt a then t else pc + 3, r) := by unfold qjmp; simp only [ht]
  simp only [show (Int32.ofInt b < Int32.ofInt a) = (b < a) from i32_lt hb ha] at e
  by_cases h : b < a
  · rw [if_pos h] at e; exact TH.jmp hf rfl e (g1 h)
  · rw [if_neg h] at e; exact TH.jmp hf rfl e (g2 h)
theorem TH.icmp_eq (hf : qfe j pc = some (.if_icmp .eq off, 3)) (ht : qtg ((pc : Int) + off) = some t) (ha : -2147483648 ≤ a ∧ a ≤ 2147483647) (hb : -2147483648 ≤ b ∧ b ≤ 2147483647) (g1 : a = b → TH ξ d j t lv r σ Q) (g2 : ¬ a = b → TH ξ d j (pc + 3) lv r σ Q) : TH ξ d j pc lv (J b :: J a :: r) σ Q := by
  have e : qjmp (.if_icmp .eq off) 3 pc (J b :: J a :: r) = some (if Int32.ofInt a = Int32.ofInt b then t else pc + 3, r) := by unfold qjmp; simp only [ht]
  simp only [show (Int32.ofInt a = Int32.ofInt b) = (a = b) from i32_eq ha hb] at e
  by_cases h : a = b
  · rw [if_pos h] at e; exact TH.jmp hf rfl e (g1 h)
  · rw [if_neg h] at e; exact TH.jmp hf rfl e (g2 h)
theorem TH.if_ne (hf : qfe j pc = some (.ifCond .ne off, 3)) (ht : qtg ((pc : Int) + off) = some t) (ha : -2147483648 ≤ a ∧ a ≤ 2147483647) (g1 : ¬ a = 0 → TH ξ d j t lv r σ Q) (g2 : a = 0 → TH ξ d j (pc + 3) lv r σ Q) : TH ξ d j pc lv (J a :: r) σ Q := by
  have e : qjmp (.ifCond .ne off) 3 pc (J a :: r) = some (if Int32.ofInt a = (0 : Int32) then pc + 3 else t, r) := by unfold qjmp; simp only [ht]
  simp only [show (Int32.ofInt a = (0 : Int32)) = (a = 0) from (show (Int32.ofInt a = Int32.ofInt 0) = _ from i32_eq ha (by decide))] at e
  by_cases h : a = 0
  · rw [if_pos h] at e; exact TH.jmp hf rfl e (g2 h)
  · rw [if_neg h] at e; exact TH.jmp hf rfl e (g1 h)
theorem TH.iandm (k : Nat) (hf : qfe j pc = some (.iand, 1)) (hk : k < 31) (hp : (2 : Int) ^ k = p) (hc : (Int32.ofInt c).toBitVec.toNat = 2 ^ k - 1) (ha : -2147483648 ≤ a ∧ a ≤ 2147483647) (g : TH ξ d j (pc + 1) lv (J (a % p) :: r) σ Q) : TH ξ d j pc lv (J c :: J a :: r) σ Q :=
  TH.sim hf (show some (lv, Value.int (Int32.ofInt a &&& Int32.ofInt c) :: r) = _ by
    rw [i32_is (x := Int32.ofInt a &&& Int32.ofInt c) (z := a % p)]
    rw [Jvm.Kit.i32_mask _ _ (k := k) (by omega) hc, i32_to ha, hp]) g
end
