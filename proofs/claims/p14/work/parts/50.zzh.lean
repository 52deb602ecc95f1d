/-! What unpacking does, step by step. -/
section
variable {g : Int → Int} {e size : Int} {L L1 L2 : Int → Int} {n n1 n2 : Nat} {s b m : Int} {o : Int → Int}
theorem CB_is (h1 : s < 29) (h2 : b + cBi s ≤ e) (h3 : 0 ≤ (SG g e L n 15 (b + cBi s) 0 0).1) (h4 : (SG g e L n 15 (b + cBi s) 0 0).1 < 30) (h5 : (SG g e L n 15 (b + cBi s) 0 0).2 + wBi (SG g e L n 15 (b + cBi s) 0 0).1 ≤ e) (h6 : wLe (SG g e L n 15 (b + cBi s) 0 0).1 + BV g (SG g e L n 15 (b + cBi s) 0 0).2 (wBi (SG g e L n 15 (b + cBi s) 0 0).1).toNat ≤ m) (h7 : cLe s + BV g b (cBi s).toNat ≤ size - m) : CB g e size L n s b m o = (true, (SG g e L n 15 (b + cBi s) 0 0).2 + wBi (SG g e L n 15 (b + cBi s) 0 0).1, m + (cLe s + BV g b (cBi s).toNat), CPY o m (wLe (SG g e L n 15 (b + cBi s) 0 0).1 + BV g (SG g e L n 15 (b + cBi s) 0 0).2 (wBi (SG g e L n 15 (b + cBi s) 0 0).1).toNat) (cLe s + BV g b (cBi s).toNat).toNat) := by
  unfold CB CB2 CB3
  rw [if_neg (by omega), if_neg (by omega), if_neg (by omega)]
theorem CB_no (h : 29 ≤ s ∨ e < b + cBi s ∨ (SG g e L n 15 (b + cBi s) 0 0).1 < 0 ∨ 30 ≤ (SG g e L n 15 (b + cBi s) 0 0).1 ∨ e < (SG g e L n 15 (b + cBi s) 0 0).2 + wBi (SG g e L n 15 (b + cBi s) 0 0).1 ∨ m < wLe (SG g e L n 15 (b + cBi s) 0 0).1 + BV g (SG g e L n 15 (b + cBi s) 0 0).2 (wBi (SG g e L n 15 (b + cBi s) 0 0).1).toNat ∨ size - m < cLe s + BV g b (cBi s).toNat) : (CB g e size L n s b m o).1 = false := by
  unfold CB CB2 CB3
  by_cases c1 : 29 ≤ s ∨ e < b + cBi s
  · rw [if_pos c1]; rfl
  rw [if_neg c1]
  by_cases c2 : (SG g e L n 15 (b + cBi s) 0 0).1 < 0 ∨ 30 ≤ (SG g e L n 15 (b + cBi s) 0 0).1 ∨ e < (SG g e L n 15 (b + cBi s) 0 0).2 + wBi (SG g e L n 15 (b + cBi s) 0 0).1
  · rw [if_pos c2]; rfl
  rw [if_neg c2, if_pos (by omega)]
  rfl
theorem FS_end {k : Nat} (h : (SG g e L1 n1 15 b 0 0).1 = 256) : FS g e size L1 n1 L2 n2 (k + 1) b m o = (true, (SG g e L1 n1 15 b 0 0).2, m, o) := by
  simp only [FS]
  rw [if_pos h]
theorem FS_on {k : Nat} {u : US} (h : (SG g e L1 n1 15 b 0 0).1 ≠ 256) (h1 : OS g e size L2 n2 (SG g e L1 n1 15 b 0 0) m o = u) (h2 : u.1 = true) : FS g e size L1 n1 L2 n2 (k + 1) b m o = FS g e size L1 n1 L2 n2 k u.2.1 u.2.2.1 u.2.2.2 := by
  simp only [FS]
  rw [if_neg h, h1, if_pos h2]
theorem FS_no {k : Nat} (h : (SG g e L1 n1 15 b 0 0).1 ≠ 256) (h1 : (OS g e size L2 n2 (SG g e L1 n1 15 b 0 0) m o).1 = false) : (FS g e size L1 n1 L2 n2 (k + 1) b m o).1 = false := by
  simp only [FS]
  rw [if_neg h, if_neg (by rw [h1]; decide)]
  rfl
theorem OS_none {q : Int × Int} (h : q.1 < 0) : (OS g e size L n q m o).1 = false := by
  unfold OS
  rw [if_pos h]
  rfl
theorem OS_lit {q : Int × Int} (h : 0 ≤ q.1) (h1 : q.1 < 256) (h2 : m < size) : OS g e size L n q m o = (true, q.2, m + 1, updG o m q.1) := by
  unfold OS
  rw [if_neg (by omega), if_pos h1, if_pos h2]
theorem OS_full {q : Int × Int} (h : 0 ≤ q.1) (h1 : q.1 < 256) (h2 : ¬ m < size) : (OS g e size L n q m o).1 = false := by
  unfold OS
  rw [if_neg (by omega), if_pos h1, if_neg h2]
  rfl
theorem OS_cpy {q : Int × Int} (h : 256 ≤ q.1) : OS g e size L n q m o = CB g e size L n (q.1 - 257) q.2 m o := by
  unfold OS
  rw [if_neg (by omega), if_neg (by omega)]
theorem FS_endW {k : Nat} {W : Int × Int} (hW : SG g e L1 n1 15 b 0 0 = W) (h : W.1 = 256) : FS g e size L1 n1 L2 n2 (k + 1) b m o = (true, W.2, m, o) := by
  subst hW
  exact FS_end h
theorem FS_litW {k : Nat} {W : Int × Int} (hW : SG g e L1 n1 15 b 0 0 = W) (h : 0 ≤ W.1) (h1 : W.1 < 256) (h2 : m < size) : FS g e size L1 n1 L2 n2 (k + 1) b m o = FS g e size L1 n1 L2 n2 k W.2 (m + 1) (updG o m W.1) := by
  subst hW
  exact FS_on (u := (true, (SG g e L1 n1 15 b 0 0).2, m + 1, updG o m (SG g e L1 n1 15 b 0 0).1)) (by omega) (OS_lit h h1 h2) rfl
theorem FS_cpyW {k : Nat} {W : Int × Int} (hW : SG g e L1 n1 15 b 0 0 = W) (h : 256 < W.1) (h2 : (CB g e size L2 n2 (W.1 - 257) W.2 m o).1 = true) : FS g e size L1 n1 L2 n2 (k + 1) b m o = FS g e size L1 n1 L2 n2 k (CB g e size L2 n2 (W.1 - 257) W.2 m o).2.1 (CB g e size L2 n2 (W.1 - 257) W.2 m o).2.2.1 (CB g e size L2 n2 (W.1 - 257) W.2 m o).2.2.2 := by
  subst hW
  exact FS_on (by omega) (OS_cpy (by omega)) h2
theorem FS_noW {k : Nat} {W : Int × Int} (hW : SG g e L1 n1 15 b 0 0 = W) (h : W.1 < 0 ∨ (0 ≤ W.1 ∧ W.1 < 256 ∧ ¬ m < size)) : (FS g e size L1 n1 L2 n2 (k + 1) b m o).1 = false := by
  subst hW
  refine FS_no (by omega) ?_
  rcases h with h | h
  · exact OS_none h
  · exact OS_full h.1 h.2.1 h.2.2
theorem FS_noC {k : Nat} {W : Int × Int} (hW : SG g e L1 n1 15 b 0 0 = W) (h : 256 < W.1) (h1 : (CB g e size L2 n2 (W.1 - 257) W.2 m o).1 = false) : (FS g e size L1 n1 L2 n2 (k + 1) b m o).1 = false := by
  subst hW
  refine FS_no (by omega) ?_
  rw [OS_cpy (by omega)]
  exact h1
end
/-- lengths in a list, nothing beyond m -/
def gw (l : List Int32) (m : Int) : Int → Int := fun j => if 0 ≤ j ∧ j < m then gl l j else 0
theorem gw_0 (l : List Int32) : gw l 0 = fun _ => 0 := by
  funext j
  unfold gw
  rw [if_neg (by omega)]
theorem gw_fill {l l' : List Int32} {k x v : Int} (hk : 0 ≤ k) (hx : 0 ≤ x) (h : ∀ t : Int, 0 ≤ t → gl l' t = if k ≤ t ∧ t < k + x then v else gl l t) : gw l' (k + x) = FILL (gw l k) k x v := by
  funext j
  show (if 0 ≤ j ∧ j < k + x then gl l' j else 0) = (if k ≤ j ∧ j < k + x then v else (if 0 ≤ j ∧ j < k then gl l j else 0))
  by_cases c : k ≤ j ∧ j < k + x
  · rw [if_pos (by omega), if_pos c, h j (by omega), if_pos c]
  · rw [if_neg c]
    by_cases c2 : 0 ≤ j ∧ j < k
    · rw [if_pos (by omega), if_pos c2, h j (by omega), if_neg c]
    · rw [if_neg (by omega), if_neg c2]
section
variable {g : Int → Int} {e : Int} {C : Int → Int} {n at_ b : Int} {L : Int → Int}
theorem TL_end {k : Nat} (h : n ≤ at_) : TL g e C n k at_ b L = (decide (at_ = n), b, L) := by
  cases k with
  | zero => rfl
  | succ k =>
    simp only [TL]
    rw [if_pos h]
theorem TL_on {k : Nat} {s : Int × Int} (hs : SG g e C 19 15 b 0 0 = s) (h : ¬ n ≤ at_) (h1 : 0 ≤ s.1) (h2 : ¬ (s.1 = 16 ∧ at_ = 0)) (h3 : s.2 + tBi s.1 ≤ e) (h4 : tLe s.1 + BV g s.2 (tBi s.1).toNat ≤ n - at_) : TL g e C n (k + 1) at_ b L = TL g e C n k (at_ + (tLe s.1 + BV g s.2 (tBi s.1).toNat)) (s.2 + tBi s.1) (FILL L at_ (tLe s.1 + BV g s.2 (tBi s.1).toNat) (tVa L at_ s.1)) := by
  simp only [TL]
  rw [hs, if_neg h, if_neg (by omega)]
theorem TL_no {k : Nat} {s : Int × Int} (hs : SG g e C 19 15 b 0 0 = s) (h : ¬ n ≤ at_) (h1 : s.1 < 0 ∨ (s.1 = 16 ∧ at_ = 0) ∨ e < s.2 + tBi s.1 ∨ n - at_ < tLe s.1 + BV g s.2 (tBi s.1).toNat) : (TL g e C n (k + 1) at_ b L).1 = false := by
  simp only [TL]
  rw [hs, if_neg h, if_pos h1]
theorem TL_r (k : Nat) : ∀ (at_ b : Int) (L : Int → Int), (∀ j, 0 ≤ L j ∧ L j ≤ 15) → ∀ j, 0 ≤ (TL g e C n k at_ b L).2.2 j ∧ (TL g e C n k at_ b L).2.2 j ≤ 15 := by
  induction k with
  | zero => intro at_ b L h; exact h
  | succ k ih =>
    intro at_ b L h
    simp only [TL]
    generalize SG g e C 19 15 b 0 0 = s
    by_cases c1 : n ≤ at_
    · rw [if_pos c1]; exact h
    rw [if_neg c1]
    by_cases c2 : s.1 < 0 ∨ (s.1 = 16 ∧ at_ = 0) ∨ e < s.2 + tBi s.1 ∨ n - at_ < tLe s.1 + BV g s.2 (tBi s.1).toNat
    · rw [if_pos c2]; exact h
    rw [if_neg c2]
    refine ih _ _ _ (fun j => ?_)
    unfold FILL tVa
    split
    · split
      · omega
      · split
        · exact h _
        · omega
    · exact h j
end
/-! The tables. -/
theorem tb_at {X Y : List Int32} {f : Int → Int} {n : Nat} {i z : Int} (h : X = Y) (hd : ∀ k : Fin n, (Y.getD k.val 0).toInt = f k.val) (hi : 0 ≤ i ∧ i < n) (hz : -2147483648 ≤ z ∧ z ≤ 2147483647) (e : X.getD i.toNat 0 = Int32.ofInt z) : z = f i := by
  subst h
  have h5 := hd ⟨i.toNat, by omega⟩
  simp only [e, i32_to hz, Int.toNat_of_nonneg hi.1] at h5
  exact h5
theorem tab1_ok : ∀ k : Fin 19, (([16, 17, 18, 0, 8, 7, 9, 6, 10, 5, 11, 4, 12, 3, 13, 2, 14, 1, 15] : List Int32).getD k.val 0).toInt = ordQ k.val := by decide +kernel
theorem tab2_ok : ∀ k : Fin 29, (tab2.getD k.val 0).toInt = cLe k.val := by decide +kernel
theorem tab3_ok : ∀ k : Fin 29, (tab3.getD k.val 0).toInt = cBi k.val := by decide +kernel
theorem tab4_ok : ∀ k : Fin 30, (tab4.getD k.val 0).toInt = wLe k.val := by decide +kernel
theorem tab5_ok : ∀ k : Fin 30, (tab5.getD k.val 0).toInt = wBi k.val := by decide +kernel
theorem fin_r {f : Int → Int} {n : Nat} {a b k : Int} (h : ∀ k : Fin n, a ≤ f k.val ∧ f k.val ≤ b) (hk : 0 ≤ k ∧ k < n) : a ≤ f k ∧ f k ≤ b := by
  have h5 := h ⟨k.toNat, by omega⟩
  simp only [Int.toNat_of_nonneg hk.1] at h5
  exact h5
theorem cLe_b {k : Int} (h : 0 ≤ k ∧ k < 29) : 3 ≤ cLe k ∧ cLe k ≤ 258 := fin_r (n := 29) (by decide +kernel) h
theorem cBi_b {k : Int} (h : 0 ≤ k ∧ k < 29) : 0 ≤ cBi k ∧ cBi k ≤ 5 := fin_r (n := 29) (by decide +kernel) h
theorem wLe_b {k : Int} (h : 0 ≤ k ∧ k < 30) : 1 ≤ wLe k ∧ wLe k ≤ 24577 := fin_r (n := 30) (by decide +kernel) h
theorem wBi_b {k : Int} (h : 0 ≤ k ∧ k < 30) : 0 ≤ wBi k ∧ wBi k ≤ 13 := fin_r (n := 30) (by decide +kernel) h
/-! Exclusive or, of sixteen bits. -/
theorem xor16 {n : Nat} (h : n < 65536) : n ^^^ 65535 = 65535 - n := by
  have e1 : (BitVec.ofNat 16 n ^^^ BitVec.allOnes 16).toNat = (~~~ (BitVec.ofNat 16 n)).toNat := by rw [BitVec.xor_allOnes]
  rw [BitVec.toNat_xor, BitVec.toNat_not, BitVec.toNat_allOnes, BitVec.toNat_ofNat, Nat.mod_eq_of_lt h] at e1
  exact e1
theorem i32_xor {a b : Int} (ha : 0 ≤ a ∧ a ≤ 65535) (hb : 0 ≤ b ∧ b ≤ 65535) : Int32.ofInt a ^^^ Int32.ofInt b = Int32.ofInt ((a.toNat ^^^ b.toNat : Nat) : Int) := by
  apply Int32.toBitVec_inj.mp
  rw [Int32.toBitVec_xor]
  apply BitVec.eq_of_toNat_eq
  rw [BitVec.toNat_xor]
  have e : ∀ q : Int, 0 ≤ q → q ≤ 65535 → (Int32.ofInt q).toBitVec.toNat = q.toNat := fun q h1 h2 => by
    have : (Int32.ofInt q).toBitVec = BitVec.ofInt 32 q := rfl
    rw [this, BitVec.toNat_ofInt]
    omega
  have hx : a.toNat ^^^ b.toNat < 2 ^ 16 := Nat.xor_lt_two_pow (by omega) (by omega)
  rw [e a ha.1 ha.2, e b hb.1 hb.2, e _ (by omega) (by omega), Int.toNat_natCast]
theorem T.ixorq {ξ : Nat → Option (Nat × List Int32)} {d j pc : Nat} {lv : qLV} {r : List Value} {σ : qH} {Q : Option Value → qH → Prop} {a b : Int} (hf : qfe j pc = some (.ixor, 1)) (ha : 0 ≤ a ∧ a ≤ 65535) (hb : 0 ≤ b ∧ b ≤ 65535) (g : ∀ z : Int, 0 ≤ z → z ≤ 65535 → (z = 65535 ↔ a + b = 65535) → (b = 65535 → z = 65535 - a) → T ξ d j (pc + 1) lv (J z :: r) σ Q) : T ξ d j pc lv (J b :: J a :: r) σ Q := by
  have hx : a.toNat ^^^ b.toNat < 2 ^ 16 := Nat.xor_lt_two_pow (by omega) (by omega)
  refine T.sim hf (show some (lv, Value.int (Int32.ofInt a ^^^ Int32.ofInt b) :: r) = _ by rw [i32_xor ha hb]) (g _ (by omega) (by omega) ⟨fun q => ?_, fun q => ?_⟩ (fun q => ?_))
  · have h1 : a.toNat ^^^ b.toNat = 65535 := by omega
    have h2 : a.toNat ^^^ (a.toNat ^^^ b.toNat) = b.toNat := by rw [← Nat.xor_assoc, Nat.xor_self, Nat.zero_xor]
    rw [h1, xor16 (by omega)] at h2
    omega
  · have h1 : b.toNat = a.toNat ^^^ 65535 := by rw [xor16 (by omega)]; omega
    rw [h1, ← Nat.xor_assoc, Nat.xor_self, Nat.zero_xor]
    rfl
  · have h1 : b.toNat = 65535 := by omega
    rw [h1, xor16 (by omega)]
    omega
/-! Rows. -/
theorem qcp_at {la lb : List Int32} {sp dp n : Nat} (h1 : sp + n ≤ la.length) (h2 : dp + n ≤ lb.length) (k : Nat) : (qcp la lb sp dp n).getD k 0 = if dp ≤ k ∧ k < dp + n then la.getD (sp + (k - dp)) 0 else lb.getD k 0 := by
  unfold qcp
  rw [List.getD_eq_getElem?_getD, List.getD_eq_getElem?_getD, List.getD_eq_getElem?_getD]
  have l1 : (lb.take dp).length = dp := by rw [List.length_take]; omega
  have l2 : ((la.drop sp).take n).length = n := by rw [List.length_take, List.length_drop]; omega
  by_cases c1 : k < dp
  · rw [if_neg (by omega), List.getElem?_append_left (by omega), List.getElem?_take_of_lt c1]
  · rw [List.getElem?_append_right (by omega), l1]
    by_cases c2 : k < dp + n
    · rw [if_pos (by omega), List.getElem?_append_left (by omega), List.getElem?_take_of_lt (by omega), List.getElem?_drop]
    · rw [if_neg (by omega), List.getElem?_append_right (by omega), l2, List.getElem?_drop, show dp + n + (k - dp - n) = k by omega]
theorem AGR_part {σ S : qH} {r o : Nat} {l l0 lo : List Int32} {m x n : Int} {g h : Int → Int} (hc : CT σ r = l) (hm : rl σ r = m) (hco : CT σ o = lo) (hS : CT S r = qcp lo l0 x.toNat m.toNat n.toNat) (hr : rl S r = m + n) (h0 : 0 ≤ m ∧ 0 ≤ x ∧ 0 ≤ n ∧ x + n ≤ lo.length ∧ m + n ≤ l0.length ∧ x + n ≤ rl σ o) (hl : l0 = l ∨ m = 0) (hg : AGR σ o g) (hh : AGR σ r h) : AGR S r (PLC g h m x n.toNat) := by
  intro k a b
  rw [hr] at b
  unfold rb
  rw [PLC_at, hS, qcp_at (by omega) (by omega)]
  by_cases q : m ≤ k ∧ k < m + n.toNat
  · rw [if_pos q, if_pos (by omega), hg _ (by omega) (by omega)]
    unfold rb
    rw [hco, show (x + (k - m)).toNat = x.toNat + (k.toNat - m.toNat) by omega]
  · rw [if_neg q, if_neg (by omega)]
    rcases hl with hl | hl
    · rw [hh k a (by omega), hl, ← hc]
      rfl
    · omega
theorem nb_r {σ : qH} {r : Nat} (k : Int) : 0 ≤ nb σ r k ∧ nb σ r k ≤ 255 := by
  unfold nb rb
  split <;> omega
/-- unpacking has come to u -/
def UR (σ : qH) (t : Nat) (u : US) : Prop := u.1 = true ∧ afld σ 17 9 = u.2.1 ∧ rl σ t = u.2.2.1 ∧ nb σ t = u.2.2.2
theorem UR_fs {σ : qH} {t : Nat} {u v : US} (h : UR σ t u) (e : u = v) : UR σ t v := e ▸ h
theorem nb_set {σ σ' : qH} {i t ci : Nat} {fs : List Value} (hK : K σ) (ht : t ∈ RwL) (hi : σ[i]? = some (.inl (ci, fs))) (h : t ≠ i) (ho : ∀ {k : Nat} {z : qC}, k ≠ i → σ[k]? = some z → σ'[k]? = some z) : nb σ' t = nb σ t ∧ rl σ' t = rl σ t := by
  obtain ⟨m, n, b, bs, h1, h2, g1, g2, g3, g4, -⟩ := hK.row ht
  have k1 := ho h h1
  have k2 := ho (q_dif h2 hi (fun z => by cases z)) h2
  have e1 : rl σ' t = rl σ t := by rw [rl_of k1 (by omega), rl_of h1 (by omega)]
  refine ⟨?_, e1⟩
  unfold nb rb
  rw [CT_of k1 k2, CT_of h1 h2, e1]
theorem PLN_no {g : Int → Int} {e size b m : Int} {o : Int → Int} (h : e < b + 32 ∨ BV g b 16 + BV g (b + 16) 16 ≠ 65535 ∨ e < b + 32 + 8 * BV g b 16 ∨ size - m < BV g b 16) : (PLN g e size b m o).1 = false := by
  unfold PLN
  rw [if_pos h]
  rfl
theorem PLN_is {g : Int → Int} {e size b m : Int} {o : Int → Int} (h : ¬ (e < b + 32 ∨ BV g b 16 + BV g (b + 16) 16 ≠ 65535 ∨ e < b + 32 + 8 * BV g b 16 ∨ size - m < BV g b 16)) : PLN g e size b m o = (true, b + 32 + 8 * BV g b 16, m + BV g b 16, PLC g o m ((b + 32) / 8) (BV g b 16).toNat) := by
  unfold PLN
  rw [if_neg h]
theorem tB_lo {s : Int} (h : s < 16) : tBi s = 0 ∧ tLe s = 1 := by
  unfold tBi tLe
  rw [if_pos h, if_pos h]
  exact ⟨rfl, rfl⟩
theorem tB_16 {s : Int} (h : s = 16) : tBi s = 2 ∧ tLe s = 3 := by subst h; decide
theorem tB_17 {s : Int} (h : s = 17) : tBi s = 3 ∧ tLe s = 3 := by subst h; decide
theorem tB_18 {s : Int} (h : s = 18) : tBi s = 7 ∧ tLe s = 11 := by subst h; decide
theorem tV_lo {L : Int → Int} {a s : Int} (h : s < 16) : tVa L a s = s := if_pos h
theorem tV_16 {L : Int → Int} {a s : Int} (h : s = 16) : tVa L a s = L (a - 1) := by subst h; rfl
theorem tV_17 {L : Int → Int} {a s : Int} (h : 16 < s) : tVa L a s = 0 := by
  unfold tVa
  rw [if_neg (by omega), if_neg (by omega)]
theorem BV_0 (g : Int → Int) (b : Int) : BV g b 0 = 0 := rfl
theorem BV_1 (g : Int → Int) (b : Int) : BV g b 1 = bt g b := by
  show 0 + bt g (b + 0) * P2 0 = bt g b
  rw [Int.add_zero, Int.zero_add, show P2 0 = 1 from rfl, Int.mul_one]
/-! Blocks, one behind the other. -/
section
variable {g : Int → Int} {e size b m : Int} {o : Int → Int} {u v : US} {k : Nat}
theorem INF_no (h : ∀ u, ¬ BK g e size b m o u) : ¬ INF g e size (k + 1) b m o v := fun ⟨u, q, _⟩ => h u q
theorem INF_st0 (h : BK g e size b m o u) (hb : bt g b ≠ 1) : INF g e size (k + 1) b m o v ↔ INF g e size k u.2.1 u.2.2.1 u.2.2.2 v := by
  constructor
  · rintro ⟨w, q1, q2 | q2⟩
    · exact absurd q2.1 hb
    · rw [BK_one h q1]
      exact q2.2
  · intro q
    exact ⟨u, h, Or.inr ⟨hb, q⟩⟩
theorem INF_st1 (h : BK g e size b m o u) (hb : bt g b = 1) : INF g e size (k + 1) b m o u := ⟨u, h, Or.inl ⟨hb, rfl⟩⟩
theorem US_eta {x y : Int} {w : Int → Int} (u1 : u.1 = true) (u2 : x = u.2.1) (u3 : y = u.2.2.1) (u4 : w = u.2.2.2) : ((true, x, y, w) : US) = u := by
  obtain ⟨a, c, d, f⟩ := u
  have h1 : a = true := u1
  have h2 : x = c := u2
  have h3 : y = d := u3
  have h4 : w = f := u4
  rw [h1, h2, h3, h4]
theorem BK_noE (h : e < b + 3) : ∀ u, ¬ BK g e size b m o u := fun u q => by have := q.1; omega
theorem BK_no0 (h0 : BV g (b + 1) 2 = 0) (h : (PLN g e size ((b + 3 + 7) / 8 * 8) m o).1 = false) : ∀ u, ¬ BK g e size b m o u := fun u q => by
  obtain ⟨-, q1, q2 | q2 | q2⟩ := q
  · rw [q2.2, h] at q1
    exact absurd q1 (by decide)
  · have := q2.1; omega
  · have := q2.1; omega
theorem BK_no1 (h0 : BV g (b + 1) 2 = 1) (h : (FS g e size fixA 288 (fun _ => 5) 32 64001 (b + 3) m o).1 = false) : ∀ u, ¬ BK g e size b m o u := fun u q => by
  obtain ⟨-, q1, q2 | q2 | q2⟩ := q
  · have := q2.1; omega
  · rw [q2.2, h] at q1
    exact absurd q1 (by decide)
  · have := q2.1; omega
theorem BK_no2 (h0 : BV g (b + 1) 2 = 2) (h : ¬ DQ g e (b + 3)) : ∀ u, ¬ BK g e size b m o u := fun u q => by
  obtain ⟨-, q1, q2 | q2 | q2⟩ := q
  · have := q2.1; omega
  · have := q2.1; omega
  · exact h q2.2.1
theorem BK_no3 (h0 : BV g (b + 1) 2 = 2) (h : (DYN g e size (b + 3) m o).1 = false) : ∀ u, ¬ BK g e size b m o u := fun u q => by
  obtain ⟨-, q1, q2 | q2 | q2⟩ := q
  · have := q2.1; omega
  · have := q2.1; omega
  · rw [q2.2.2, h] at q1
    exact absurd q1 (by decide)
theorem BK_no4 (h0 : BV g (b + 1) 2 ≠ 0 ∧ BV g (b + 1) 2 ≠ 1 ∧ BV g (b + 1) 2 ≠ 2) : ∀ u, ¬ BK g e size b m o u := fun u q => by
  obtain ⟨-, q1, q2 | q2 | q2⟩ := q
  · have := q2.1; omega
  · have := q2.1; omega
  · have := q2.1; omega
end
