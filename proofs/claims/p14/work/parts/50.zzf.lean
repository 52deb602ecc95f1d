/-! A row's bytes as a function; fields of an archive. -/
def rb (σ : qH) (r : Nat) (k : Int) : Int := ((CT σ r).getD k.toNat 0).toInt % 256
/-- g is what the row has -/
def AGR (σ : qH) (r : Nat) (g : Int → Int) : Prop := ∀ k : Int, 0 ≤ k → k < rl σ r → g k = rb σ r k
theorem rb_of {σ : qH} {r : Nat} {l : List Int32} {x z : Int} (h : CT σ r = l) (e : l.getD x.toNat 0 = Int32.ofInt z) (hz : -2147483648 ≤ z ∧ z ≤ 2147483647) : rb σ r x = z % 256 := by
  unfold rb
  rw [h, e, i32_to hz]
theorem qb_at {l : List Int32} {x z : Int} (h : l.all qisb = true) (e : l.getD x.toNat 0 = Int32.ofInt z) (hz : -2147483648 ≤ z ∧ z ≤ 2147483647) : -128 ≤ z ∧ z ≤ 127 := by
  have h1 : qisb (l.getD x.toNat 0) = true := by
    rw [List.getD_eq_getElem?_getD]
    cases hx : l[x.toNat]? with
    | none => decide
    | some v => exact List.all_eq_true.mp h v (List.mem_of_getElem? hx)
  rw [e] at h1
  unfold qisb at h1
  simp only [Bool.and_eq_true, decide_eq_true_eq, Int32.le_iff_toInt_le, i32_to hz] at h1
  have e1 : (-128 : Int32).toInt = -128 := by decide
  have e2 : (127 : Int32).toInt = 127 := by decide
  omega
theorem AGR.keep {σ σ' : qH} {r : Nat} {g : Int → Int} (h : AGR σ r g) (e : CT σ' r = CT σ r) (l : rl σ' r = rl σ r) : AGR σ' r g := fun k a b => by
  rw [l] at b
  rw [h k a b]
  unfold rb
  rw [e]
theorem AGR.fr {σ σ' : qH} {r : Nat} {w : List Nat} {g : Int → Int} (h : AGR σ r g) (hN : NA σ) (hF : Fr w σ σ') (hr : r ∈ RwL) (hw : r ∉ w) : AGR σ' r g := h.keep ((hF.b.2 hN).2 r hr hw) (rl_eq (hF.2.2.1 r (List.mem_cons_of_mem _ hr) hw))
/-- a field of an object -/
def afld (σ : qH) (a i : Nat) : Int := match σ[a]? with
  | some (.inl (_, fs)) => (match fs[i]? with
    | some (.int v) => v.toInt
    | _ => 0)
  | _ => 0
theorem af_of {σ : qH} {a ci i : Nat} {fs : List Value} {v : Int} (h : σ[a]? = some (.inl (ci, fs))) (e : fs[i]? = some (J v)) (hv : -2147483648 ≤ v ∧ v ≤ 2147483647) : afld σ a i = v := by
  unfold afld
  rw [h]
  simp only [e, i32_to hv]
/-- ints of an array -/
def il (σ : qH) (i : Nat) : List Int32 := match σ[i]? with
  | some (.inr (.inl (0, l))) => l
  | _ => []
theorem il_of {σ : qH} {i : Nat} {l : List Int32} (h : σ[i]? = some (.inr (.inl (0, l)))) : il σ i = l := by
  unfold il
  rw [h]
  rfl
theorem i8_mod (x : Int32) : (x.toInt8.toInt32).toInt % 256 = x.toInt % 256 := by
  rw [Int8.toInt_toInt32, Int32.toInt_toInt8]
  simp only [Int.bmod]
  split <;> omega
theorem i2b_mod {x z : Int} (e : (Int32.ofInt x).toInt8.toInt32 = Int32.ofInt z) (hx : -2147483648 ≤ x ∧ x ≤ 2147483647) (hz : -2147483648 ≤ z ∧ z ≤ 2147483647) : z % 256 = x % 256 := by
  have h := i8_mod (Int32.ofInt x)
  rw [e, i32_to hz, i32_to hx] at h
  exact h
theorem AGR_add {σ S : qH} {r : Nat} {l l0 : List Int32} {x n v : Int} {g : Int → Int} (hc : CT σ r = l) (hn : rl σ r = n) (hS : CT S r = l0.set n.toNat (Int32.ofInt x).toInt8.toInt32) (hr : rl S r = n + 1) (h0 : 0 ≤ n ∧ n < l0.length) (hl : l0 = l ∨ n = 0) (hx : -2147483648 ≤ x ∧ x ≤ 2147483647) (hv : x % 256 = v) (hg : AGR σ r g) : AGR S r (updG g n v) := by
  intro k a b
  rw [hr] at b
  unfold updG rb
  rw [hS, List.getD_eq_getElem?_getD]
  by_cases q : k = n
  · rw [if_pos q, q, List.getElem?_set_self (by omega), Option.getD_some, i8_mod, i32_to hx]
    exact hv.symm
  · rw [if_neg q, List.getElem?_set_ne (by omega), ← List.getD_eq_getElem?_getD]
    rcases hl with hl | hl
    · rw [hg k a (by omega), hl, ← hc]
      rfl
    · omega
/-- the tape's row has g -/
def AGT (σ : qH) (g : Int → Int) : Prop := ∃ tp : Nat, tpf σ = some (.ref tp) ∧ AGR σ (tp + 1) g
def up4 (g : Int → Int) (t x : Int) : Int → Int := updG (updG (updG (updG g t (x / 16777216 % 256)) (t + 1) (x / 65536 % 256)) (t + 2) (x / 256 % 256)) (t + 3) (x % 256)
section
variable {ξ : Nat → Option (Nat × List Int32)} {d j pc : Nat} {lv : qLV} {r : List Value} {σ : qH} {Q : Option Value → qH → Prop} {a s : Int}
theorem T.iushrq {p : Int} (k : Nat) (hf : qfe j pc = some (.iushr, 1)) (ha : -2147483648 ≤ a ∧ a ≤ 2147483647) (hs : s = k) (hp : p = 2 ^ k) (hk : k = 0 ∨ k = 8 ∨ k = 16 ∨ k = 24) (g : ∀ z : Int, -2147483648 ≤ z → z ≤ 2147483647 → z % 256 = a / p % 256 → T ξ d j (pc + 1) lv (J z :: r) σ Q) : T ξ d j pc lv (J s :: J a :: r) σ Q := by
  refine T.some1 (x := ((Int32.ofInt a).toUInt32 >>> ((Int32.ofInt s).toUInt32 &&& Int32.toUInt32 31)).toInt32) hf rfl (fun z h1 h2 e => g z h1 h2 ?_)
  have e2 := congrArg (fun q : Int32 => q.toBitVec.toNat) e
  have n32 : ∀ q : Int, ((Int32.ofInt q).toBitVec.toNat : Int) = q % 4294967296 := fun q => by
    have : (Int32.ofInt q).toBitVec = BitVec.ofInt 32 q := rfl
    rw [this, BitVec.toNat_ofInt]
    omega
  have hsh : ((Int32.ofInt s).toUInt32 &&& Int32.toUInt32 31).toNat % 32 = k := by
    subst hs
    rcases hk with rfl | rfl | rfl | rfl <;> decide
  have e3 : (((Int32.ofInt a).toUInt32 >>> ((Int32.ofInt s).toUInt32 &&& Int32.toUInt32 31)).toInt32).toBitVec.toNat = (Int32.ofInt a).toBitVec.toNat / 2 ^ k := by
    show ((Int32.ofInt a).toUInt32 >>> ((Int32.ofInt s).toUInt32 &&& Int32.toUInt32 31)).toNat = _
    rw [UInt32.toNat_shiftRight, hsh, Nat.shiftRight_eq_div_pow]
    rfl
  have e4 : (Int32.ofInt z).toBitVec.toNat = (Int32.ofInt a).toBitVec.toNat / 2 ^ k := by rw [← e3]; exact e2.symm
  have e5 := n32 z
  have e6 := n32 a
  rcases hk with rfl | rfl | rfl | rfl
  · simp only [Nat.pow_zero, Nat.div_one] at e4
    have : p = 1 := hp
    subst this
    omega
  · have : p = 256 := hp
    subst this
    have : (2 : Nat) ^ 8 = 256 := by decide
    rw [this] at e4
    omega
  · have : p = 65536 := hp
    subst this
    have : (2 : Nat) ^ 16 = 65536 := by decide
    rw [this] at e4
    omega
  · have : p = 16777216 := hp
    subst this
    have : (2 : Nat) ^ 24 = 16777216 := by decide
    rw [this] at e4
    omega
end
theorem AGT.at {σ : qH} {g : Int → Int} {tp : Nat} (h : AGT σ g) (e : tpf σ = some (.ref tp)) : AGR σ (tp + 1) g := by
  obtain ⟨tp', e', h'⟩ := h
  rw [e] at e'
  cases e'
  exact h'
theorem AGT.keep {σ σ' : qH} {g : Int → Int} (h : AGT σ g) (hK : K σ) (hN : NA σ) (hF : Fr WP σ σ') (ht : tpf σ' = tpf σ) : AGT σ' g := by
  obtain ⟨ke, sc, tp, ou, mo, sg, ho, mc, lf, lp, hc, f1, f2, f3, -⟩ := hK.na
  have e1 : tpf σ = some (.ref tp) := tpf_of hc rfl
  have h1 := h.at e1
  refine ⟨tp, ht.trans e1, h1.fr hN hF ?_ ?_⟩
  · rcases f3 with rfl | rfl <;> decide
  · rcases f3 with rfl | rfl <;> decide
theorem AGR.short {σ σ' : qH} {r : Nat} {g : Int → Int} (h : AGR σ r g) (e : CT σ' r = CT σ r) (l : rl σ' r ≤ rl σ r) : AGR σ' r g := fun k a b => by
  rw [h k a (by omega)]
  unfold rb
  rw [e]
theorem AGR.none {σ : qH} {r : Nat} {g : Int → Int} (l : rl σ r = 0) : AGR σ r g := fun k a b => by omega
def up20 (g : Int → Int) (t a b c d e : Int) : Int → Int := up4 (up4 (up4 (up4 (up4 g t a) (t + 4) b) (t + 8) c) (t + 12) d) (t + 16) e
theorem AGT_0 {σ : qH} {g : Int → Int} (hK : K σ) (h : tl σ = 0) : AGT σ g := by
  obtain ⟨ke, sc, tp, ou, mo, sg, ho, mc, lf, lp, hc, f1, f2, f3, -⟩ := hK.na
  refine ⟨tp, tpf_of hc rfl, AGR.none ?_⟩
  rw [← tl_at hc rfl]
  exact h
