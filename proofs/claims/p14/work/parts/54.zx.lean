/-! Runs that may end in a throw, with something said of their end: the same rules. -/
def TX (ξ : Nat → Option (Nat × List Int32)) (d j pc : Nat) (lv : qLV) (st : List Value) (σ : qH) (Q : Option Value ⊕ Nat → qH → Prop) : Prop := ∃ (n : Nat) (o : Option Value ⊕ Nat) (σ' : qH), exx ξ n d j pc lv st σ = some (o, σ') ∧ Q o σ'
section
variable {ξ : Nat → Option (Nat × List Int32)} {n d j pc len : Nat} {lv lv' : qLV} {st st' r : List Value} {σ σ' : qH} {ins : Instr}
theorem xx_step {pc' : Nat} (ht : qthr j pc = none) (h : run1 ξ n d j pc lv st σ = some (pc', lv', st', σ')) : exx ξ (n + 1) d j pc lv st σ = exx ξ n d j pc' lv' st' σ' := by
  rw [exx, ht]
  simp only [h]
theorem xx_sim (ht : qthr j pc = none) (hf : qfe j pc = some (ins, len)) (h : qsim (qnl j) ins len lv st = some (lv', st')) : exx ξ (n + 1) d j pc lv st σ = exx ξ n d j (pc + len) lv' st' σ :=
  xx_step ht (by unfold run1; rw [hf]; simp only [h])
theorem xx_jmp {pc' : Nat} (ht : qthr j pc = none) (hf : qfe j pc = some (ins, len)) (h0 : qsim (qnl j) ins len lv st = none) (h : qjmp ins len pc st = some (pc', st')) : exx ξ (n + 1) d j pc lv st σ = exx ξ n d j pc' lv st' σ :=
  xx_step ht (by unfold run1; rw [hf]; simp only [h0, h])
theorem xx_rd (ht : qthr j pc = none) (hf : qfe j pc = some (ins, len)) (h0 : qsim (qnl j) ins len lv st = none) (h1 : qjmp ins len pc st = none) (h : qrd ξ (qco j) ins len st σ = some st') : exx ξ (n + 1) d j pc lv st σ = exx ξ n d j (pc + len) lv st' σ := xx_step ht (run1_rd hf h0 h1 h)
theorem xx_wr (ht : qthr j pc = none) (hf : qfe j pc = some (ins, len)) (h0 : qsim (qnl j) ins len lv st = none) (h1 : qjmp ins len pc st = none) (h2 : qrd ξ (qco j) ins len st σ = none) (h : qwr (qisI j) (qco j) ins len st σ = some (st', σ')) : exx ξ (n + 1) d j pc lv st σ = exx ξ n d j (pc + len) lv st' σ' := xx_step ht (run1_wr hf h0 h1 h2 h)
end
section
variable {ξ : Nat → Option (Nat × List Int32)} {d j pc : Nat} {lv lv' : qLV} {st st' r : List Value} {σ σ' : qH} {Q : Option Value ⊕ Nat → qH → Prop} {a b c p s x y off : Int} {t : Nat} {w : List Nat}
theorem TX.go (k : Nat) {pc' : Nat} (h : ∀ n, exx ξ (n + k) d j pc lv st σ = exx ξ n d j pc' lv' st' σ') (g : TX ξ d j pc' lv' st' σ' Q) : TX ξ d j pc lv st σ Q := by
  obtain ⟨n, v, s, h1, h2⟩ := g
  exact ⟨n + k, v, s, by rw [h]; exact h1, h2⟩
theorem TX.sim {ins : Instr} {len : Nat} (ht : qthr j pc = none) (hf : qfe j pc = some (ins, len)) (h : qsim (qnl j) ins len lv st = some (lv', st')) (g : TX ξ d j (pc + len) lv' st' σ Q) : TX ξ d j pc lv st σ Q := TX.go 1 (fun n => xx_sim ht hf h) g
theorem TX.jmp {ins : Instr} {len pc' : Nat} (ht : qthr j pc = none) (hf : qfe j pc = some (ins, len)) (h0 : qsim (qnl j) ins len lv st = none) (h : qjmp ins len pc st = some (pc', st')) (g : TX ξ d j pc' lv st' σ Q) : TX ξ d j pc lv st σ Q := TX.go 1 (fun n => xx_jmp ht hf h0 h) g
theorem TX.get {idx ci k i : Nat} {nb : Bool} {q : Nat × Nat} {fs : List Value} {v : Value} (ht : qthr j pc = none) (hf : qfe j pc = some (.getfield idx, 3)) (hx : qlk (qxL.getD (qco j) []) idx = none) (hl : qlk (qfL.getD (qco j) []) idx = some ((ci, k, nb), q)) (hi : σ[i]? = some (.inl (ci, fs))) (hv : fs[k]? = some v) (g : TX ξ d j (pc + 3) lv (v :: r) σ Q) : TX ξ d j pc lv (.ref i :: r) σ Q :=
  TX.go 1 (fun n => xx_rd ht hf rfl rfl (by unfold qrd; simp only [hx, hl, hi, hv, Nat.beq_refl, cond_true])) g
theorem TX.put {idx ci k i : Nat} {nb : Bool} {q : Nat × Nat} {fs fs' : List Value} {v : Value} (ht : qthr j pc = none) (hf : qfe j pc = some (.putfield idx, 3)) (hl : qlk (qfL.getD (qco j) []) idx = some ((ci, k, nb), q)) (hi : σ[i]? = some (.inl (ci, fs))) (hk : Nat.blt k fs.length = true) (hv : qfit (qcty ci k) v = true) (hn : (!(qfn ci k).2.2.2 || (!nb && (qisI j && Nat.beq ci (qco j)))) = true) (he : fs.set k v = fs') (g : TX ξ d j (pc + 3) lv r (σ.set i (.inl (ci, fs'))) Q) : TX ξ d j pc lv (v :: .ref i :: r) σ Q := by
  subst he
  exact TX.go 1 (fun n => xx_wr ht hf rfl rfl rfl (by unfold qwr; simp only [hl, hi, hk, hv, hn, Nat.beq_refl, Bool.and_true, Bool.true_and, cond_true])) g
theorem TX.iald {i : Nat} {li : List Int32} (ht : qthr j pc = none) (hf : qfe j pc = some (.iaload, 1)) (hn : Nat.blt i qnE = false) (hi : σ[i]? = some (.inr (.inl (0, li)))) (hx : 0 ≤ x ∧ x < li.length ∧ x ≤ 2147483647) (g : ∀ z : Int, -2147483648 ≤ z → z ≤ 2147483647 → li.getD x.toNat 0 = Int32.ofInt z → TX ξ d j (pc + 1) lv (J z :: r) σ Q) : TX ξ d j pc lv (J x :: .ref i :: r) σ Q := by
  obtain ⟨z, e, z1, z2⟩ := i32_of (li.getD x.toNat 0)
  exact TX.go 1 (fun n => xx_rd ht hf rfl rfl (by unfold qrd; simp only [hn, hi, i32_ix hx.1 hx.2.1 hx.2.2, cond_false, cond_true, i32_nat ⟨show -2147483648 ≤ x by omega, hx.2.2⟩, e])) (g z z1 z2 e)
theorem TX.aald {i : Nat} {li : List (Option Nat)} (ht : qthr j pc = none) (hf : qfe j pc = some (.aaload, 1)) (hi : σ[i]? = some (.inr (.inr (.inr (.inl li))))) (hx : 0 ≤ x ∧ x < li.length ∧ x ≤ 2147483647) {a : Nat} (ha : li.getD x.toNat none = some a) (g : TX ξ d j (pc + 1) lv (.ref a :: r) σ Q) : TX ξ d j pc lv (J x :: .ref i :: r) σ Q :=
  TX.go 1 (fun n => xx_rd ht hf rfl rfl (by unfold qrd; simp only [hi, i32_ix hx.1 hx.2.1 hx.2.2, cond_true, i32_nat ⟨show -2147483648 ≤ x by omega, hx.2.2⟩, ha]; rfl)) g
theorem TX.callv {idx k n i ci : Nat} {q : Nat × Nat} {as : List Value} {fs : List Value} {Q1 : Option Value → qH → Prop} (ht : qthr j pc = none) (hf : qfe j pc = some (.invokevirtual idx, 3)) (hl : qlk (qmL.getD (qco j) []) idx = some ((0, k, n), q)) (ht2 : qtk n st = some (as, .ref i :: r)) (hn : Nat.blt i qnE = false) (hi : σ[i]? = some (.inl (ci, fs))) (hk : (Nat.beq ci (qco k) && (Nat.ble (qcat r) 8 && (Nat.beq (qkd k) 0 && Nat.ble (lg_sl (.ref i :: as)).length (qnl k)))) = true) (hc : T ξ d k 0 (lv_args 0 (.ref i :: as)) [] σ Q1) (g : ∀ v s, Q1 v s → TX ξ (d + 1) j (pc + 3) lv (v.toList ++ r) s Q) : TX ξ (d + 1) j pc lv st σ Q := by
  obtain ⟨v, s, ⟨n1, c1⟩, c2⟩ := hc
  obtain ⟨n2, w, t, h1, h2⟩ := g v s c2
  simp only [Bool.and_eq_true] at hk
  have hq : qca j (.invokevirtual idx) 3 st σ = some (.inl (k, .ref i :: as, r)) := by
    unfold qca
    simp only [hl, ht2, qrc_at hn hi hk.1, hk.2.1, hk.2.2.1, hk.2.2.2, Bool.and_self, cond_true]
  refine ⟨n1 + n2 + 1, w, t, ?_, h2⟩
  rw [xx_step ht (pc' := pc + 3) (lv' := lv) (st' := v.toList ++ r) (σ' := s) (by
    unfold run1
    rw [hf]
    simp only [show qsim (qnl j) (.invokevirtual idx) 3 lv st = none from rfl, show qjmp (.invokevirtual idx) 3 pc st = none from rfl, show qrd ξ (qco j) (.invokevirtual idx) 3 st σ = none from rfl, show qwr (qisI j) (qco j) (.invokevirtual idx) 3 st σ = none from rfl, show qal (qco j) (.invokevirtual idx) 3 st = none from rfl, hq, exe_fuel c1 (Nat.le_add_right n1 n2)])]
  exact exx_fuel h1 (Nat.le_add_left n2 n1)
theorem TX.end (k : Nat) {o : Option Value ⊕ Nat} (h : ∀ n, exx ξ (n + k) d j pc lv st σ = some (o, σ')) (q : Q o σ') : TX ξ d j pc lv st σ Q := ⟨0 + k, o, σ', h 0, q⟩
theorem TX.ret {v : Option Value} {ins : Instr} {len : Nat} (ht : qthr j pc = none) (hf : qfe j pc = some (ins, len)) (hr : qre j ins len st = some v) (q : Q (.inl v) σ) : TX ξ d j pc lv st σ Q := TX.end 1 (fun n => by rw [exx, ht]; simp only [run1_ret hf hr, hf, hr]) q
theorem TX.throw {e9 : Nat} (hd : Nat.ble 6 d = true) (hq : Nat.ble (qcat st) 8 = true) (ht : qthr j pc = some e9) (q : Q (.inr e9) (σ ++ [.inr (.inr (.inr (.inr (.inr 6))))])) : TX ξ d j pc lv st σ Q := TX.end 1 (fun n => by rw [exx, ht]; simp only [hd, hq, Bool.and_self, cond_true]) q
theorem TX.ireti (ht : qthr j pc = none) (hf : qfe j pc = some (.ireturn, 1)) (hr : qrt j = some .int) (q : Q (.inl (some (J x))) σ) : TX ξ d j pc lv [J x] σ Q := TX.ret ht hf (by unfold qre; simp only [hr]) q
theorem TX.lret (ht : qthr j pc = none) (hf : qfe j pc = some (.lreturn, 1)) (hr : qrt j = some .long) (q : Q (.inl (some (JL x))) σ) : TX ξ d j pc lv [JL x] σ Q := TX.ret ht hf (by unfold qre; simp only [hr]) q
theorem TX.aastF {i a : Nat} {li : List (Option Nat)} {fs : List Value} (ht : qthr j pc = none) (hf : qfe j pc = some (.aastore, 1)) (hK : K σ) (ha : σ[a]? = some (.inl (1, fs))) (hi : σ[i]? = some (.inr (.inr (.inr (.inl li))))) (hm : ∀ x ∈ li, ∃ a : Nat, x = some a ∧ a ∈ ArM) (hx : 0 ≤ x ∧ x < li.length ∧ x ≤ 2147483647) (hA : a ∈ ArM) (hn : i ∉ RwL) (hm2 : i < 137 ∨ 146 < i) (hw : i ∈ w) (g : ∀ (σ' : qH), Fr w σ σ' → σ'[i]? = some (.inr (.inr (.inr (.inl (li.set x.toNat (some a)))))) → (∀ {k : Nat} {z : qC}, k ≠ i → σ[k]? = some z → σ'[k]? = some z) → TX ξ d j (pc + 1) lv r σ' Q) : TX ξ d j pc lv (.ref a :: J x :: .ref i :: r) σ Q := by
  have hF : Fr w σ (σ.set i (.inr (.inr (.inr (.inl (li.set x.toNat (some a))))))) := Fr.other hK hi (by simp only [kdc, List.length_set]) (fun y hy => by
    rcases List.mem_or_eq_of_mem_set hy with h | h
    · exact hm y h
    · exact ⟨a, h, hA⟩) hn hm2 (fun _ z => by cases z) hw
  refine TX.go 1 (fun n => xx_wr ht hf rfl rfl rfl ?_) (g _ hF (qs_at hi) set_ho)
  unfold qwr
  simp only [hi, ha, i32_ix hx.1 hx.2.1 hx.2.2, cond_true, i32_nat ⟨show -2147483648 ≤ x by omega, hx.2.2⟩]
theorem TX.iadd (ht9 : qthr j pc = none) (hf : qfe j pc = some (.iadd, 1)) (g : TX ξ d j (pc + 1) lv (J (a + b) :: r) σ Q) : TX ξ d j pc lv (J b :: J a :: r) σ Q :=
  TX.sim ht9 hf (show some (lv, Value.int (Int32.ofInt a + Int32.ofInt b) :: r) = _ by rw [← Int32.ofInt_add]) g
theorem TX.isub (ht9 : qthr j pc = none) (hf : qfe j pc = some (.isub, 1)) (g : TX ξ d j (pc + 1) lv (J (a - b) :: r) σ Q) : TX ξ d j pc lv (J b :: J a :: r) σ Q :=
  TX.sim ht9 hf (show some (lv, Value.int (Int32.ofInt a - Int32.ofInt b) :: r) = _ by rw [← Int32.ofInt_sub]) g
theorem TX.imul (ht9 : qthr j pc = none) (hf : qfe j pc = some (.imul, 1)) (g : TX ξ d j (pc + 1) lv (J (a * b) :: r) σ Q) : TX ξ d j pc lv (J b :: J a :: r) σ Q :=
  TX.sim ht9 hf (show some (lv, Value.int (Int32.ofInt a * Int32.ofInt b) :: r) = _ by rw [← Int32.ofInt_mul]) g
theorem TX.i2l (ht9 : qthr j pc = none) (hf : qfe j pc = some (.i2l, 1)) (ha : -2147483648 ≤ a ∧ a ≤ 2147483647) (g : TX ξ d j (pc + 1) lv (JL a :: r) σ Q) : TX ξ d j pc lv (J a :: r) σ Q :=
  TX.sim ht9 hf (show some (lv, Value.long (Int32.ofInt a).toInt64 :: r) = _ by rw [show (Int32.ofInt a).toInt64 = Int64.ofInt a by rw [← Int64.toInt_inj, Int32.toInt_toInt64, i32_to ha, i64_to (by omega)]]) g
theorem TX.iinc {k : Nat} {n : Int} (ht9 : qthr j pc = none) (hf : qfe j pc = some (.iinc k n, 3)) (hk : qlg lv k = some (J a)) (hb : Nat.blt k (qnl j) = true) (hl : qls1 lv k (J (a + n)) = lv') (g : TX ξ d j (pc + 3) lv' st σ Q) : TX ξ d j pc lv st σ Q :=
  TX.sim ht9 hf (show (match 3, qlg lv k with
    | 3, some (.int x) => bif Nat.blt k (qnl j) then some (qls1 lv k (.int (x + Int32.ofInt n)), st) else none
    | _, _ => none) = _ by rw [hk]; show (bif Nat.blt k (qnl j) then _ else _) = _; rw [hb, ← hl, show J (a + n) = Value.int (Int32.ofInt (a + n)) from rfl, Int32.ofInt_add]; rfl) g
theorem TX.icmp_eq (ht9 : qthr j pc = none) (hf : qfe j pc = some (.if_icmp .eq off, 3)) (ht : qtg ((pc : Int) + off) = some t) (ha : -2147483648 ≤ a ∧ a ≤ 2147483647) (hb : -2147483648 ≤ b ∧ b ≤ 2147483647) (g1 : a = b → TX ξ d j t lv r σ Q) (g2 : ¬ a = b → TX ξ d j (pc + 3) lv r σ Q) : TX ξ d j pc lv (J b :: J a :: r) σ Q := by
  have e : qjmp (.if_icmp .eq off) 3 pc (J b :: J a :: r) = some (if Int32.ofInt a = Int32.ofInt b then t else pc + 3, r) := by unfold qjmp; simp only [ht]
  simp only [show (Int32.ofInt a = Int32.ofInt b) = (a = b) from i32_eq ha hb] at e
  by_cases h : a = b
  · rw [if_pos h] at e; exact TX.jmp ht9 hf rfl e (g1 h)
  · rw [if_neg h] at e; exact TX.jmp ht9 hf rfl e (g2 h)
theorem TX.if_eq (ht9 : qthr j pc = none) (hf : qfe j pc = some (.ifCond .eq off, 3)) (ht : qtg ((pc : Int) + off) = some t) (ha : -2147483648 ≤ a ∧ a ≤ 2147483647) (g1 : a = 0 → TX ξ d j t lv r σ Q) (g2 : ¬ a = 0 → TX ξ d j (pc + 3) lv r σ Q) : TX ξ d j pc lv (J a :: r) σ Q := by
  have e : qjmp (.ifCond .eq off) 3 pc (J a :: r) = some (if Int32.ofInt a = (0 : Int32) then t else pc + 3, r) := by unfold qjmp; simp only [ht]
  simp only [show (Int32.ofInt a = (0 : Int32)) = (a = 0) from (show (Int32.ofInt a = Int32.ofInt 0) = _ from i32_eq ha (by decide))] at e
  by_cases h : a = 0
  · rw [if_pos h] at e; exact TX.jmp ht9 hf rfl e (g1 h)
  · rw [if_neg h] at e; exact TX.jmp ht9 hf rfl e (g2 h)
theorem TX.icmp_ne (ht9 : qthr j pc = none) (hf : qfe j pc = some (.if_icmp .ne off, 3)) (ht : qtg ((pc : Int) + off) = some t) (ha : -2147483648 ≤ a ∧ a ≤ 2147483647) (hb : -2147483648 ≤ b ∧ b ≤ 2147483647) (g1 : ¬ a = b → TX ξ d j t lv r σ Q) (g2 : a = b → TX ξ d j (pc + 3) lv r σ Q) : TX ξ d j pc lv (J b :: J a :: r) σ Q := by
  have e : qjmp (.if_icmp .ne off) 3 pc (J b :: J a :: r) = some (if Int32.ofInt a = Int32.ofInt b then pc + 3 else t, r) := by unfold qjmp; simp only [ht]
  simp only [show (Int32.ofInt a = Int32.ofInt b) = (a = b) from i32_eq ha hb] at e
  by_cases h : a = b
  · rw [if_pos h] at e; exact TX.jmp ht9 hf rfl e (g2 h)
  · rw [if_neg h] at e; exact TX.jmp ht9 hf rfl e (g1 h)
theorem TX.if_ne (ht9 : qthr j pc = none) (hf : qfe j pc = some (.ifCond .ne off, 3)) (ht : qtg ((pc : Int) + off) = some t) (ha : -2147483648 ≤ a ∧ a ≤ 2147483647) (g1 : ¬ a = 0 → TX ξ d j t lv r σ Q) (g2 : a = 0 → TX ξ d j (pc + 3) lv r σ Q) : TX ξ d j pc lv (J a :: r) σ Q := by
  have e : qjmp (.ifCond .ne off) 3 pc (J a :: r) = some (if Int32.ofInt a = (0 : Int32) then pc + 3 else t, r) := by unfold qjmp; simp only [ht]
  simp only [show (Int32.ofInt a = (0 : Int32)) = (a = 0) from (show (Int32.ofInt a = Int32.ofInt 0) = _ from i32_eq ha (by decide))] at e
  by_cases h : a = 0
  · rw [if_pos h] at e; exact TX.jmp ht9 hf rfl e (g2 h)
  · rw [if_neg h] at e; exact TX.jmp ht9 hf rfl e (g1 h)
theorem TX.icmp_lt (ht9 : qthr j pc = none) (hf : qfe j pc = some (.if_icmp .lt off, 3)) (ht : qtg ((pc : Int) + off) = some t) (ha : -2147483648 ≤ a ∧ a ≤ 2147483647) (hb : -2147483648 ≤ b ∧ b ≤ 2147483647) (g1 : a < b → TX ξ d j t lv r σ Q) (g2 : ¬ a < b → TX ξ d j (pc + 3) lv r σ Q) : TX ξ d j pc lv (J b :: J a :: r) σ Q := by
  have e : qjmp (.if_icmp .lt off) 3 pc (J b :: J a :: r) = some (if Int32.ofInt a < Int32.ofInt b then t else pc + 3, r) := by unfold qjmp; simp only [ht]
  simp only [show (Int32.ofInt a < Int32.ofInt b) = (a < b) from i32_lt ha hb] at e
  by_cases h : a < b
  · rw [if_pos h] at e; exact TX.jmp ht9 hf rfl e (g1 h)
  · rw [if_neg h] at e; exact TX.jmp ht9 hf rfl e (g2 h)
theorem TX.if_lt (ht9 : qthr j pc = none) (hf : qfe j pc = some (.ifCond .lt off, 3)) (ht : qtg ((pc : Int) + off) = some t) (ha : -2147483648 ≤ a ∧ a ≤ 2147483647) (g1 : a < 0 → TX ξ d j t lv r σ Q) (g2 : ¬ a < 0 → TX ξ d j (pc + 3) lv r σ Q) : TX ξ d j pc lv (J a :: r) σ Q := by
  have e : qjmp (.ifCond .lt off) 3 pc (J a :: r) = some (if Int32.ofInt a < (0 : Int32) then t else pc + 3, r) := by unfold qjmp; simp only [ht]
  simp only [show (Int32.ofInt a < (0 : Int32)) = (a < 0) from (show (Int32.ofInt a < Int32.ofInt 0) = _ from i32_lt ha (by decide))] at e
  by_cases h : a < 0
  · rw [if_pos h] at e; exact TX.jmp ht9 hf rfl e (g1 h)
  · rw [if_neg h] at e; exact TX.jmp ht9 hf rfl e (g2 h)
theorem TX.icmp_ge (ht9 : qthr j pc = none) (hf : qfe j pc = some (.if_icmp .ge off, 3)) (ht : qtg ((pc : Int) + off) = some t) (ha : -2147483648 ≤ a ∧ a ≤ 2147483647) (hb : -2147483648 ≤ b ∧ b ≤ 2147483647) (g1 : b ≤ a → TX ξ d j t lv r σ Q) (g2 : ¬ b ≤ a → TX ξ d j (pc + 3) lv r σ Q) : TX ξ d j pc lv (J b :: J a :: r) σ Q := by
  have e : qjmp (.if_icmp .ge off) 3 pc (J b :: J a :: r) = some (if Int32.ofInt b ≤ Int32.ofInt a then t else pc + 3, r) := by unfold qjmp; simp only [ht]
  simp only [show (Int32.ofInt b ≤ Int32.ofInt a) = (b ≤ a) from i32_le hb ha] at e
  by_cases h : b ≤ a
  · rw [if_pos h] at e; exact TX.jmp ht9 hf rfl e (g1 h)
  · rw [if_neg h] at e; exact TX.jmp ht9 hf rfl e (g2 h)
theorem TX.if_ge (ht9 : qthr j pc = none) (hf : qfe j pc = some (.ifCond .ge off, 3)) (ht : qtg ((pc : Int) + off) = some t) (ha : -2147483648 ≤ a ∧ a ≤ 2147483647) (g1 : 0 ≤ a → TX ξ d j t lv r σ Q) (g2 : ¬ 0 ≤ a → TX ξ d j (pc + 3) lv r σ Q) : TX ξ d j pc lv (J a :: r) σ Q := by
  have e : qjmp (.ifCond .ge off) 3 pc (J a :: r) = some (if (0 : Int32) ≤ Int32.ofInt a then t else pc + 3, r) := by unfold qjmp; simp only [ht]
  simp only [show ((0 : Int32) ≤ Int32.ofInt a) = (0 ≤ a) from (show (Int32.ofInt 0 ≤ Int32.ofInt a) = _ from i32_le (by decide) ha)] at e
  by_cases h : 0 ≤ a
  · rw [if_pos h] at e; exact TX.jmp ht9 hf rfl e (g1 h)
  · rw [if_neg h] at e; exact TX.jmp ht9 hf rfl e (g2 h)
theorem TX.icmp_gt (ht9 : qthr j pc = none) (hf : qfe j pc = some (.if_icmp .gt off, 3)) (ht : qtg ((pc : Int) + off) = some t) (ha : -2147483648 ≤ a ∧ a ≤ 2147483647) (hb : -2147483648 ≤ b ∧ b ≤ 2147483647) (g1 : b < a → TX ξ d j t lv r σ Q) (g2 : ¬ b < a → TX ξ d j (pc + 3) lv r σ Q) : TX ξ d j pc lv (J b :: J a :: r) σ Q := by
  have e : qjmp (.if_icmp .gt off) 3 pc (J b :: J a :: r) = some (if Int32.ofInt b < Int32.ofInt a then t else pc + 3, r) := by unfold qjmp; simp only [ht]
  simp only [show (Int32.ofInt b < Int32.ofInt a) = (b < a) from i32_lt hb ha] at e
  by_cases h : b < a
  · rw [if_pos h] at e; exact TX.jmp ht9 hf rfl e (g1 h)
  · rw [if_neg h] at e; exact TX.jmp ht9 hf rfl e (g2 h)
theorem TX.icmp_le (ht9 : qthr j pc = none) (hf : qfe j pc = some (.if_icmp .le off, 3)) (ht : qtg ((pc : Int) + off) = some t) (ha : -2147483648 ≤ a ∧ a ≤ 2147483647) (hb : -2147483648 ≤ b ∧ b ≤ 2147483647) (g1 : a ≤ b → TX ξ d j t lv r σ Q) (g2 : ¬ a ≤ b → TX ξ d j (pc + 3) lv r σ Q) : TX ξ d j pc lv (J b :: J a :: r) σ Q := by
  have e : qjmp (.if_icmp .le off) 3 pc (J b :: J a :: r) = some (if Int32.ofInt a ≤ Int32.ofInt b then t else pc + 3, r) := by unfold qjmp; simp only [ht]
  simp only [show (Int32.ofInt a ≤ Int32.ofInt b) = (a ≤ b) from i32_le ha hb] at e
  by_cases h : a ≤ b
  · rw [if_pos h] at e; exact TX.jmp ht9 hf rfl e (g1 h)
  · rw [if_neg h] at e; exact TX.jmp ht9 hf rfl e (g2 h)
theorem TX.if_le (ht9 : qthr j pc = none) (hf : qfe j pc = some (.ifCond .le off, 3)) (ht : qtg ((pc : Int) + off) = some t) (ha : -2147483648 ≤ a ∧ a ≤ 2147483647) (g1 : a ≤ 0 → TX ξ d j t lv r σ Q) (g2 : ¬ a ≤ 0 → TX ξ d j (pc + 3) lv r σ Q) : TX ξ d j pc lv (J a :: r) σ Q := by
  have e : qjmp (.ifCond .le off) 3 pc (J a :: r) = some (if Int32.ofInt a ≤ (0 : Int32) then t else pc + 3, r) := by unfold qjmp; simp only [ht]
  simp only [show (Int32.ofInt a ≤ (0 : Int32)) = (a ≤ 0) from (show (Int32.ofInt a ≤ Int32.ofInt 0) = _ from i32_le ha (by decide))] at e
  by_cases h : a ≤ 0
  · rw [if_pos h] at e; exact TX.jmp ht9 hf rfl e (g1 h)
  · rw [if_neg h] at e; exact TX.jmp ht9 hf rfl e (g2 h)
theorem TX.putF {idx ci k i : Nat} {nb : Bool} {q : Nat × Nat} {fs fs' : List Value} {v : Value} (ht9 : qthr j pc = none) (hf : qfe j pc = some (.putfield idx, 3)) (hl : qlk (qfL.getD (qco j) []) idx = some ((ci, k, nb), q)) (hi : σ[i]? = some (.inl (ci, fs))) (hk : Nat.blt k fs.length = true) (hv : qfit (qcty ci k) v = true) (hn : (!(qfn ci k).2.2.2 || (!nb && (qisI j && Nat.beq ci (qco j)))) = true) (he : fs.set k v = fs') (hF : Fr w σ (σ.set i (.inl (ci, fs')))) (g : ∀ σ' : qH, Fr w σ σ' → σ'[i]? = some (.inl (ci, fs')) → (∀ {k : Nat} {z : qC}, k ≠ i → σ[k]? = some z → σ'[k]? = some z) → TX ξ d j (pc + 3) lv r σ' Q) : TX ξ d j pc lv (v :: .ref i :: r) σ Q :=
  TX.put ht9 hf hl hi hk hv hn he (g _ hF (qs_at hi) set_ho)
end
/-- a return, or a throw of one of these with one cell made for it -/
def QX (W ex : List Nat) (σ : qH) (RX : qH → Prop) (R : Option Value → qH → Prop) (o : Option Value ⊕ Nat) (σ' : qH) : Prop := match o with
  | .inl v => R v σ'
  | .inr e => e ∈ ex ∧ ∃ σ1, Fr W σ σ1 ∧ RX σ1 ∧ σ' = σ1 ++ [.inr (.inr (.inr (.inr (.inr 6))))]
theorem QX_l {W ex : List Nat} {σ : qH} {RX : qH → Prop} {R : Option Value → qH → Prop} {v : Option Value} {σ' : qH} (h : R v σ') : QX W ex σ RX R (.inl v) σ' := h
theorem QX_r {W ex : List Nat} {σ : qH} {RX : qH → Prop} {R : Option Value → qH → Prop} {e : Nat} {σ1 : qH} (he : e ∈ ex) (h : Fr W σ σ1) (hr : RX σ1) : QX W ex σ RX R (.inr e) (σ1 ++ [.inr (.inr (.inr (.inr (.inr 6))))]) := ⟨he, σ1, h, hr, rfl⟩
theorem sw_out {x lo hi dflt off : Int} {offs : Array Int} {pc len t : Nat} {r : List Value} (hd : dflt = off) (h : x < lo ∨ hi < x) (hx : -2147483648 ≤ x ∧ x ≤ 2147483647) (ht : qtg ((pc : Int) + off) = some t) : qjmp (.tableswitch dflt lo hi offs) len pc (J x :: r) = some (t, r) := by
  subst hd
  unfold qjmp
  simp only [i32_to hx]
  have e : (decide (x < lo) || decide (hi < x)) = true := by simpa using h
  rw [e]
  simp only [cond_true, ht]
theorem sw_in {x v lo hi dflt off : Int} {offs : Array Int} {pc len t : Nat} {r : List Value} (hv : x = v) (h : (decide (v < lo) || decide (hi < v)) = false ∧ -2147483648 ≤ v ∧ v ≤ 2147483647) (ho : offs[(v - lo).toNat]? = some off) (ht : qtg ((pc : Int) + off) = some t) : qjmp (.tableswitch dflt lo hi offs) len pc (J x :: r) = some (t, r) := by
  subst hv
  unfold qjmp
  simp only [i32_to h.2, h.1, cond_false, ho, ht]
theorem tl_note {σ σ' : qH} (hK : K σ) (h : Fr [16] σ σ') (ht : tpf σ' = tpf σ) : tl σ' = tl σ := by
  obtain ⟨ke, sc, tp, ou, mo, sg, ho, mc, lf, lp, hN, f1, f2, f3, -⟩ := hK.na
  have e1 : tpf σ = some (.ref tp) := tpf_of hN rfl
  unfold tl
  rw [ht, e1]
  refine rl_eq (h.2.2.1 (tp + 1) ?_ ?_)
  · rcases f3 with rfl | rfl <;> decide
  · rcases f3 with rfl | rfl <;> decide
