/-! Shifts by what is computed; bits. -/
section
variable {ξ : Nat → Option (Nat × List Int32)} {d j pc : Nat} {lv : qLV} {st r : List Value} {σ : qH} {Q : Option Value → qH → Prop} {a b c p s : Int}
theorem T.ishlq (hf : qfe j pc = some (.ishl, 1)) (ha : 0 ≤ a ∧ a ≤ 1000) (hb : 0 ≤ b ∧ b ≤ 16) (g : ∀ z : Int, 0 ≤ z → z ≤ 65536000 → z = a * P2 b → (a = 0 → z = 0) → (a = 1 → z = P2 b) → T ξ d j (pc + 1) lv (J z :: r) σ Q) : T ξ d j pc lv (J b :: J a :: r) σ Q := by
  have : b = 0 ∨ b = 1 ∨ b = 2 ∨ b = 3 ∨ b = 4 ∨ b = 5 ∨ b = 6 ∨ b = 7 ∨ b = 8 ∨ b = 9 ∨ b = 10 ∨ b = 11 ∨ b = 12 ∨ b = 13 ∨ b = 14 ∨ b = 15 ∨ b = 16 := by omega
  rcases this with rfl | rfl | rfl | rfl | rfl | rfl | rfl | rfl | rfl | rfl | rfl | rfl | rfl | rfl | rfl | rfl | rfl
  · exact T.ishl (p := 1) 0 hf (by decide) (by decide) (by omega) (by omega) (g _ (by omega) (by omega) rfl (fun h => by omega) (fun h => by rw [h]; rfl))
  · exact T.ishl (p := 2) 1 hf (by decide) (by decide) (by omega) (by omega) (g _ (by omega) (by omega) rfl (fun h => by omega) (fun h => by rw [h]; rfl))
  · exact T.ishl (p := 4) 2 hf (by decide) (by decide) (by omega) (by omega) (g _ (by omega) (by omega) rfl (fun h => by omega) (fun h => by rw [h]; rfl))
  · exact T.ishl (p := 8) 3 hf (by decide) (by decide) (by omega) (by omega) (g _ (by omega) (by omega) rfl (fun h => by omega) (fun h => by rw [h]; rfl))
  · exact T.ishl (p := 16) 4 hf (by decide) (by decide) (by omega) (by omega) (g _ (by omega) (by omega) rfl (fun h => by omega) (fun h => by rw [h]; rfl))
  · exact T.ishl (p := 32) 5 hf (by decide) (by decide) (by omega) (by omega) (g _ (by omega) (by omega) rfl (fun h => by omega) (fun h => by rw [h]; rfl))
  · exact T.ishl (p := 64) 6 hf (by decide) (by decide) (by omega) (by omega) (g _ (by omega) (by omega) rfl (fun h => by omega) (fun h => by rw [h]; rfl))
  · exact T.ishl (p := 128) 7 hf (by decide) (by decide) (by omega) (by omega) (g _ (by omega) (by omega) rfl (fun h => by omega) (fun h => by rw [h]; rfl))
  · exact T.ishl (p := 256) 8 hf (by decide) (by decide) (by omega) (by omega) (g _ (by omega) (by omega) rfl (fun h => by omega) (fun h => by rw [h]; rfl))
  · exact T.ishl (p := 512) 9 hf (by decide) (by decide) (by omega) (by omega) (g _ (by omega) (by omega) rfl (fun h => by omega) (fun h => by rw [h]; rfl))
  · exact T.ishl (p := 1024) 10 hf (by decide) (by decide) (by omega) (by omega) (g _ (by omega) (by omega) rfl (fun h => by omega) (fun h => by rw [h]; rfl))
  · exact T.ishl (p := 2048) 11 hf (by decide) (by decide) (by omega) (by omega) (g _ (by omega) (by omega) rfl (fun h => by omega) (fun h => by rw [h]; rfl))
  · exact T.ishl (p := 4096) 12 hf (by decide) (by decide) (by omega) (by omega) (g _ (by omega) (by omega) rfl (fun h => by omega) (fun h => by rw [h]; rfl))
  · exact T.ishl (p := 8192) 13 hf (by decide) (by decide) (by omega) (by omega) (g _ (by omega) (by omega) rfl (fun h => by omega) (fun h => by rw [h]; rfl))
  · exact T.ishl (p := 16384) 14 hf (by decide) (by decide) (by omega) (by omega) (g _ (by omega) (by omega) rfl (fun h => by omega) (fun h => by rw [h]; rfl))
  · exact T.ishl (p := 32768) 15 hf (by decide) (by decide) (by omega) (by omega) (g _ (by omega) (by omega) rfl (fun h => by omega) (fun h => by rw [h]; rfl))
  · exact T.ishl (p := 65536) 16 hf (by decide) (by decide) (by omega) (by omega) (g _ (by omega) (by omega) rfl (fun h => by omega) (fun h => by rw [h]; rfl))
theorem T.iorp {k : Int} (hf : qfe j pc = some (.ior, 1)) (hk : 0 ≤ k ∧ k ≤ 16) (ha : 0 ≤ a ∧ a < P2 k) (hb : b = 0 ∨ b = P2 k) (g : T ξ d j (pc + 1) lv (J (a + b) :: r) σ Q) : T ξ d j pc lv (J b :: J a :: r) σ Q := by
  rcases hb with h | h
  · exact T.iorm (p := P2 k) k.toNat 0 hf (by omega) rfl ha (by omega) g
  · exact T.iorm (p := P2 k) k.toNat 1 hf (by omega) rfl ha (by omega) g
end
theorem T.ishrv {ξ : Nat → Option (Nat × List Int32)} {d j pc : Nat} {lv : qLV} {r : List Value} {σ : qH} {Q : Option Value → qH → Prop} {a s : Int} (hf : qfe j pc = some (.ishr, 1)) (ha : -2147483648 ≤ a ∧ a ≤ 2147483647) (hs : 0 ≤ s ∧ s ≤ 31) (g : T ξ d j (pc + 1) lv (J (a / P2 s) :: r) σ Q) : T ξ d j pc lv (J s :: J a :: r) σ Q :=
  T.sim hf (show some (lv, Value.int (Int32.ofInt a >>> (Int32.ofInt s &&& 31)) :: r) = _ by
    have h4 : ∀ m : Fin 32, ((Int32.ofInt (m.val : Int) &&& 31).toBitVec.smod 32).toNat = m.val := by decide
    have h5 := h4 ⟨s.toNat, by omega⟩
    simp only [Int.toNat_of_nonneg hs.1] at h5
    rw [i32_is (x := Int32.ofInt a >>> (Int32.ofInt s &&& 31)) (z := a / P2 s)]
    rw [Jvm.Kit.i32_shr _ _ h5, i32_to ha]
    rfl) g
theorem dP2_r {q n : Int} (h : -2147483648 ≤ q ∧ q ≤ 2147483647) : -2147483648 ≤ q / P2 n ∧ q / P2 n ≤ 2147483647 := by
  have hp : 0 < P2 n := by
    unfold P2
    exact Int.pow_pos (by decide)
  by_cases hq : 0 ≤ q
  · have h1 := Int.ediv_nonneg hq (Int.le_of_lt hp)
    have h2 := Int.ediv_le_self (P2 n) hq
    omega
  · have h1 : q / P2 n < 0 := Int.ediv_neg_of_neg_of_pos (by omega) hp
    have h2 : q ≤ q / P2 n := Int.le_ediv_of_mul_le hp (by
      have h3 := Int.mul_nonneg (show 0 ≤ -q by omega) (show 0 ≤ P2 n - 1 by omega)
      rw [Int.mul_sub, Int.neg_mul, Int.mul_one] at h3
      omega)
    omega
/-- a bit of a byte, whether it is read with its sign or not -/
theorem bt_of {g : Int → Int} {b z : Int} (h : z % 256 = g (b / 8)) : z / P2 (b % 8) % 2 = bt g b := by
  unfold bt
  rw [← h]
  have : b % 8 = 0 ∨ b % 8 = 1 ∨ b % 8 = 2 ∨ b % 8 = 3 ∨ b % 8 = 4 ∨ b % 8 = 5 ∨ b % 8 = 6 ∨ b % 8 = 7 := by omega
  rcases this with e | e | e | e | e | e | e | e <;> rw [e]
  · show z / 1 % 2 = z % 256 / 1 % 2; omega
  · show z / 2 % 2 = z % 256 / 2 % 2; omega
  · show z / 4 % 2 = z % 256 / 4 % 2; omega
  · show z / 8 % 2 = z % 256 / 8 % 2; omega
  · show z / 16 % 2 = z % 256 / 16 % 2; omega
  · show z / 32 % 2 = z % 256 / 32 % 2; omega
  · show z / 64 % 2 = z % 256 / 64 % 2; omega
  · show z / 128 % 2 = z % 256 / 128 % 2; omega
theorem T.iorr {ξ : Nat → Option (Nat × List Int32)} {d j pc : Nat} {lv : qLV} {r : List Value} {σ : qH} {Q : Option Value → qH → Prop} {a b p : Int} (k : Nat) (q : Int) (hf : qfe j pc = some (.ior, 1)) (hk : k < 32) (hp : (2 : Int) ^ k = p) (hb : 0 ≤ b ∧ b < p) (ha : a = q * p) (g : T ξ d j (pc + 1) lv (J (b + a) :: r) σ Q) : T ξ d j pc lv (J b :: J a :: r) σ Q :=
  T.sim hf (show some (lv, Value.int (Int32.ofInt a ||| Int32.ofInt b) :: r) = _ by
    subst ha; subst hp
    have : Int32.ofInt (q * 2 ^ k) ||| Int32.ofInt b = Int32.ofInt (b + q * 2 ^ k) := by
      rw [Int32.or_comm]
      exact Int32.toBitVec_inj.mp (by
        rw [Int32.toBitVec_or]
        exact bv_or hk hb.1 hb.2)
    rw [this]) g
/-- ints that a call leaves -/
theorem il_fr {σ σ' : qH} {i : Nat} {w : List Nat} {n : Nat} (hK : K σ) (hk : kdX[i]? = some (1, 0, n)) (hF : Fr w σ σ') (hw : i ∉ w) : il σ' i = il σ i := by
  obtain ⟨li, h, -⟩ := hK.ints hk
  rw [il_of h, il_of (hF.b.1 i _ hw (fun l z => by cases z) h)]
/-- the codes at c are those of the m lengths L -/
def CD (σ : qH) (c : Nat) (L : Int → Int) (m : Nat) : Prop := CDL (il σ (c + 1)) (il σ (c + 3)) L m
theorem CD.fr {σ σ' : qH} {c m : Nat} {L : Int → Int} {w : List Nat} (h : CD σ c L m) (hK : K σ) (hc : c ∈ CdL) (hF : Fr w σ σ') (h1 : c + 1 ∉ w) (h3 : c + 3 ∉ w) : CD σ' c L m := by
  obtain ⟨-, k1, -, n, k3, -⟩ := kdX_cd c hc
  unfold CD
  rw [il_fr hK k1 hF h1, il_fr hK k3 hF h3]
  exact h

theorem il_len {σ : qH} {i n : Nat} (hK : K σ) (hk : kdX[i]? = some (1, 0, n)) : (il σ i).length = n := by
  obtain ⟨li, h, e⟩ := hK.ints hk
  rw [il_of h]
  exact e
theorem gl_any (l : List Int32) (j : Int) : -2147483648 ≤ gl l j ∧ gl l j ≤ 2147483647 := by
  unfold gl
  have h1 := Int32.le_toInt (l.getD j.toNat 0)
  have h2 := Int32.toInt_lt (l.getD j.toNat 0)
  omega
section
variable {ξ : Nat → Option (Nat × List Int32)}
/-- Arrays.fill, and what is there then -/
theorem s_J_ffill2 (d i : Nat) (y : Int) (σ : qH) (hK : K σ) {n : Nat} (hk : kdX[i]? = some (1, 0, n)) (hn : n < 2147483648) (h16 : Nat.blt i qnE = false) (hr : i ∉ RwL) (hm : i < 137 ∨ 146 < i) (hy : -2147483648 ≤ y ∧ y ≤ 2147483647) : T ξ d j_J_fill2 0 (lv_args 0 [.ref i, J y]) [] σ (fun v σ' => v = none ∧ Fr [i] σ σ' ∧ FrC σ σ' ∧ (∀ t : Int, 0 ≤ t → t < n → gl (il σ' i) t = y)) := by
  obtain ⟨li, hi, hl⟩ := hK.ints hk
  obtain ⟨li', e, f, g⟩ := c_fill2 (ξ := ξ) d i (Int32.ofInt y) li σ h16 (by omega) hi
  exact ⟨_, _, g, rfl, Fr.other hK hi (by simp only [kdc, e]) trivial hr hm (fun _ z => by cases z) (by simp), set_frc hi, fun t a b => by
    rw [il_of (qs_at hi)]
    unfold gl
    rw [f t.toNat (by omega), i32_to hy]⟩
theorem s_J_ffill (d i : Nat) (a b y : Int) (σ : qH) (hK : K σ) {n : Nat} (hk : kdX[i]? = some (1, 0, n)) (hn : n < 2147483648) (h16 : Nat.blt i qnE = false) (hr : i ∉ RwL) (hm : i < 137 ∨ 146 < i) (hab : 0 ≤ a ∧ a ≤ b ∧ b ≤ n) (hy : -2147483648 ≤ y ∧ y ≤ 2147483647) : T ξ (d + 1) j_J_fill 0 (lv_args 0 [.ref i, J a, J b, J y]) [] σ (fun v σ' => v = none ∧ Fr [i] σ σ' ∧ FrC σ σ' ∧ (∀ t : Int, 0 ≤ t → gl (il σ' i) t = if a ≤ t ∧ t < b then y else gl (il σ i) t)) := by
  obtain ⟨li, hi, hl⟩ := hK.ints hk
  have cv : ∀ z : Int, 0 ≤ z → Int32.ofNat z.toNat = Int32.ofInt z := fun z hz => by
    rw [← Int32.ofInt_eq_ofNat, Int.toNat_of_nonneg hz]
  obtain ⟨li', e, f, g⟩ := c_fill (ξ := ξ) d i a.toNat b.toNat (Int32.ofInt y) li σ h16 (by omega) (by omega) (by omega) hi
  rw [cv a hab.1, cv b (by omega)] at g
  exact ⟨_, _, g, rfl, Fr.other hK hi (by simp only [kdc, e]) trivial hr hm (fun _ z => by cases z) (by simp), set_frc hi, fun t h0 => by
    rw [il_of (qs_at hi), il_of hi]
    unfold gl
    rw [f t.toNat]
    by_cases c : a ≤ t ∧ t < b
    · rw [if_pos (by omega), if_pos c, i32_to hy]
    · rw [if_neg (by omega), if_neg c]⟩
theorem and15 {x : Int32} (h : 0 ≤ x.toInt ∧ x.toInt ≤ 15) : (x &&& 15).toInt = x.toInt := by
  rw [Jvm.Kit.i32_mask x 15 (k := 4) (by decide) (by decide)]
  omega
theorem s_C_flearn (d c : Nat) (L : Int → Int) (fr n fl : Int) (σ : qH) (hK : K σ) (hc : c ∈ CdL) (hfl : fl = 0 ∨ fl = 1) (h0 : 0 ≤ fr) (h1 : 0 ≤ n) (h2 : fr + n ≤ 320) (h3 : n ≤ (il σ (c + 3)).length) (hL : ∀ k : Int, 0 ≤ k → k < n → gl (il σ 18) (fr + k) = L k ∧ 0 ≤ L k ∧ L k ≤ 15) : T ξ (d + 1) j_C_learn 0 (lv_args 0 [.ref c, .ref 18, J fr, J n, J fl]) [] σ (fun v σ' => ∃ z : Int, v = some (J z) ∧ Fr [c + 1, c + 2, c + 3] σ σ' ∧ 0 ≤ z ∧ z ≤ 1 ∧ FrC σ σ' ∧ CD σ' c L n.toNat ∧ (z = 1 ↔ (OKQ L n.toNat ∨ (THQ L n.toNat 15 = 0 ∧ fl = 1)))) := by
  obtain ⟨k1, k2, k3, n3, k4, n3l⟩ := kdX_cd c hc
  obtain ⟨e1, e2, e3, r1, r2, r3, b1, b2, b3, l3⟩ := Cd_ne c hc
  have hco := hK.cod hc
  obtain ⟨la, ha, hla⟩ := hK.ints kdX_18
  obtain ⟨lc, hlc, hlcn⟩ := hK.ints k2
  obtain ⟨lp, hlp, hlpn⟩ := hK.ints k3
  obtain ⟨ls, hls, hlsn⟩ := hK.ints k4
  rw [il_of hls] at h3
  obtain ⟨b, lc', lp', ls', hb, q1, q2, q3, q4, g⟩ := c_learn (ξ := ξ) d c 18 (c + 1) (c + 2) (c + 3) (Int32.ofInt fr) (Int32.ofInt n) (Int32.ofInt fl) la lc lp ls σ (by rcases hfl with rfl | rfl; exact Or.inl rfl; exact Or.inr rfl) hlcn hlpn (by omega) (by omega) rfl b1 b2 b3 (CdL_lt c hc) e1 e2 e3 (by omega) (by omega) (by omega) hco ha hlc hlp hls
  have f1 : Fr [c + 1, c + 2, c + 3] σ (σ.set (c + 1) (.inr (.inl (0, lc')))) := Fr.other hK hlc (by simp only [kdc, q1, hlcn]) trivial r1 (Or.inl (by omega)) (fun _ z => by cases z) (by simp)
  have p2 : (σ.set (c + 1) (.inr (.inl (0, lc'))))[c + 2]? = some (.inr (.inl (0, lp))) := set_ho (by omega) hlp
  have f2 : Fr [c + 1, c + 2, c + 3] (σ.set (c + 1) (.inr (.inl (0, lc')))) ((σ.set (c + 1) (.inr (.inl (0, lc')))).set (c + 2) (.inr (.inl (0, lp')))) := Fr.other f1.1 p2 (by simp only [kdc, q2, hlpn]) trivial r2 (Or.inl (by omega)) (fun _ z => by cases z) (by simp)
  have p3 : ((σ.set (c + 1) (.inr (.inl (0, lc')))).set (c + 2) (.inr (.inl (0, lp'))))[c + 3]? = some (.inr (.inl (0, ls))) := set_ho (by omega) (set_ho (by omega) hls)
  have f3 : Fr [c + 1, c + 2, c + 3] ((σ.set (c + 1) (.inr (.inl (0, lc')))).set (c + 2) (.inr (.inl (0, lp')))) (((σ.set (c + 1) (.inr (.inl (0, lc')))).set (c + 2) (.inr (.inl (0, lp')))).set (c + 3) (.inr (.inl (0, ls')))) := Fr.other f2.1 p3 (by simp only [kdc, q3]) trivial r3 (Or.inl (by omega)) (fun _ z => by cases z) (by simp)
  have t1 : (Int32.ofInt fr).toInt = fr := i32_to (by omega)
  have t2 : (Int32.ofInt n).toInt = n := i32_to (by omega)
  rw [t1, t2] at q4
  have q5 := q4 h0 h1 h3 (by omega)
  have hLN : ∀ k : Int, 0 ≤ k → k < n.toNat → LN la fr.toNat k = L k := fun k a b => by
    have h9 := hL k a (by omega)
    rw [il_of ha] at h9
    have e9 : gl la (fr + k) = (la.getD (fr.toNat + k.toNat) 0).toInt := by
      unfold gl
      rw [show (fr + k).toNat = fr.toNat + k.toNat by omega]
    rw [e9] at h9
    unfold LN
    rw [and15 (by omega)]
    exact h9.1
  have q6 := CDL_congr hLN q5.1
  have q7 := q5.2
  rw [OKQ_congr hLN, THQ_congr hLN] at q7
  have i1 : il (((σ.set (c + 1) (.inr (.inl (0, lc')))).set (c + 2) (.inr (.inl (0, lp')))).set (c + 3) (.inr (.inl (0, ls')))) (c + 1) = lc' := il_of (set_ho (by omega) (set_ho (by omega) (qs_at hlc)))
  have i3 : il (((σ.set (c + 1) (.inr (.inl (0, lc')))).set (c + 2) (.inr (.inl (0, lp')))).set (c + 3) (.inr (.inl (0, ls')))) (c + 3) = ls' := il_of (qs_at p3)
  have q8 : CD (((σ.set (c + 1) (.inr (.inl (0, lc')))).set (c + 2) (.inr (.inl (0, lp')))).set (c + 3) (.inr (.inl (0, ls')))) c L n.toNat := by
    unfold CD
    rw [i1, i3]
    exact q6
  have q9 : Int32.ofInt fl = 1 ↔ fl = 1 := by rcases hfl with rfl | rfl <;> decide
  rw [q9] at q7
  rcases hb with rfl | rfl
  · exact ⟨_, _, g, 0, rfl, (f1.trans f2).trans f3, by decide, by decide, ((set_frc hlc).trans (set_frc p2)).trans (set_frc p3), q8, ⟨fun z => absurd z (by decide), fun z => absurd (q7.mpr z) (by decide)⟩⟩
  · exact ⟨_, _, g, 1, rfl, (f1.trans f2).trans f3, by decide, by decide, ((set_frc hlc).trans (set_frc p2)).trans (set_frc p3), q8, ⟨fun _ => q7.mp rfl, fun _ => rfl⟩⟩
end
/-- a row's bytes, nothing beyond its length -/
def nb (σ : qH) (r : Nat) : Int → Int := fun k => if 0 ≤ k ∧ k < rl σ r then rb σ r k else 0
theorem nb_ag {σ : qH} {r : Nat} : AGR σ r (nb σ r) := fun k a b => if_pos ⟨a, b⟩
theorem nb_0 {σ : qH} {r : Nat} (h : rl σ r = 0) : nb σ r = fun _ => 0 := by
  funext k
  unfold nb
  rw [if_neg (by omega)]
theorem nb_fr {σ σ' : qH} {r : Nat} {w : List Nat} (hN : NA σ) (hF : Fr w σ σ') (hr : r ∈ RwL) (hw : r ∉ w) : nb σ' r = nb σ r := by
  have e1 := (hF.b.2 hN).2 r hr hw
  have e2 := rl_eq (hF.2.2.1 r (List.mem_cons_of_mem _ hr) hw)
  unfold nb rb
  rw [e1, e2]
/-- nothing beyond n -/
def ZB (g : Int → Int) (n : Int) : Prop := ∀ k : Int, ¬ (0 ≤ k ∧ k < n) → g k = 0
theorem nb_zb {σ : qH} {r : Nat} : ZB (nb σ r) (rl σ r) := fun k h => if_neg h
theorem nb_of {σ : qH} {r : Nat} {g : Int → Int} (h : AGR σ r g) (z : ZB g (rl σ r)) : nb σ r = g := by
  funext k
  unfold nb
  split
  · rename_i c
    rw [h k c.1 c.2]
  · rename_i c
    rw [z k c]
theorem ZB_upd {g : Int → Int} {n v : Int} (h : ZB g n) (hn : 0 ≤ n) : ZB (updG g n v) (n + 1) := fun k c => by
  unfold updG
  rw [if_neg (by omega)]
  exact h k (by omega)
theorem ZB_plc {g o : Int → Int} {m a : Int} {n : Nat} (h : ZB o m) (hm : 0 ≤ m) : ZB (PLC g o m a n) (m + n) := fun k c => by
  rw [PLC_at, if_neg (by omega)]
  exact h k (by omega)
