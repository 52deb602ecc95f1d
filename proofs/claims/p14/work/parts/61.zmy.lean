/-! Blocks of signs, blocks, with just enough fuel. -/
section
variable {g : Int → Int} {e sz b m : Int} {L1 L2 : Int → Int} {n1 n2 : Nat} {o : Int → Int} {W : Int × Int} {u : US}
def FX (g : Int → Int) (e sz : Int) (L1 : Int → Int) (n1 : Nat) (L2 : Int → Int) (n2 : Nat) (b m : Int) (o : Int → Int) (u : US) : Prop := u.1 = true ∧ u = FS g e sz L1 n1 L2 n2 (e - b + 1).toNat b m o
theorem FX_end (hW : SG g e L1 n1 15 b 0 0 = W) (h : W.1 = 256) (hb : b ≤ e) : FX g e sz L1 n1 L2 n2 b m o (true, W.2, m, o) := by
  refine ⟨rfl, ?_⟩
  rw [show (e - b + 1).toNat = (e - b).toNat + 1 by omega, FS_endW hW h]
theorem FX_lit (hW : SG g e L1 n1 15 b 0 0 = W) (h : 0 ≤ W.1) (h1 : W.1 < 256) (h2 : m < sz) (hb : b ≤ e) : FX g e sz L1 n1 L2 n2 b m o u ↔ FX g e sz L1 n1 L2 n2 W.2 (m + 1) (updG o m W.1) u := by
  have hr := SG_r (g := g) (e := e) (L := L1) (n := n1) 15 b 0 0 (Int.le_refl _)
  rw [hW] at hr
  have h3 := hr.2.2 h
  unfold FX
  rw [show (e - b + 1).toNat = (e - b).toNat + 1 by omega, FS_litW hW h h1 h2, FS_irr (e - b).toNat (e - W.2 + 1).toNat _ _ _ (by omega) (by omega) (by omega)]
theorem FX_cpy (hW : SG g e L1 n1 15 b 0 0 = W) (h : 256 < W.1) (h2 : (CB g e sz L2 n2 (W.1 - 257) W.2 m o).1 = true) (hb : b ≤ e) : FX g e sz L1 n1 L2 n2 b m o u ↔ FX g e sz L1 n1 L2 n2 (CB g e sz L2 n2 (W.1 - 257) W.2 m o).2.1 (CB g e sz L2 n2 (W.1 - 257) W.2 m o).2.2.1 (CB g e sz L2 n2 (W.1 - 257) W.2 m o).2.2.2 u := by
  have hr := SG_r (g := g) (e := e) (L := L1) (n := n1) 15 b 0 0 (Int.le_refl _)
  rw [hW] at hr
  have h3 := hr.2.2 (by omega)
  have h4 := CB_b (by omega) h2
  unfold FX
  rw [show (e - b + 1).toNat = (e - b).toNat + 1 by omega, FS_cpyW hW h h2, FS_irr (e - b).toNat (e - (CB g e sz L2 n2 (W.1 - 257) W.2 m o).2.1 + 1).toNat _ _ _ (by omega) (by omega) (by omega)]
theorem FX_noW (hW : SG g e L1 n1 15 b 0 0 = W) (h : W.1 < 0 ∨ (0 ≤ W.1 ∧ W.1 < 256 ∧ ¬ m < sz)) (hb : b ≤ e) : ¬ FX g e sz L1 n1 L2 n2 b m o u := fun q => by
  obtain ⟨q1, q2⟩ := q
  rw [show (e - b + 1).toNat = (e - b).toNat + 1 by omega] at q2
  rw [q2, FS_noW hW h] at q1
  exact absurd q1 (by decide)
theorem FX_noC (hW : SG g e L1 n1 15 b 0 0 = W) (h : 256 < W.1) (h1 : (CB g e sz L2 n2 (W.1 - 257) W.2 m o).1 = false) (hb : b ≤ e) : ¬ FX g e sz L1 n1 L2 n2 b m o u := fun q => by
  obtain ⟨q1, q2⟩ := q
  rw [show (e - b + 1).toNat = (e - b).toNat + 1 by omega] at q2
  rw [q2, FS_noC hW h h1] at q1
  exact absurd q1 (by decide)
/-- a block of signs: with fixed codes (x = 0), or with codes of its own -/
def CX (g : Int → Int) (e sz x b m : Int) (o : Int → Int) (u : US) : Prop := u.1 = true ∧ ((x = 0 ∧ u = FS g e sz fixA 288 (fun _ => 5) 32 64001 b m o) ∨ (x = 1 ∧ DQ g e b ∧ u = DYN g e sz b m o))
theorem CX_fix {x : Int} {l : List Int32} (hx : x = 0) (h1 : ∀ j : Int, 0 ≤ j → j < 288 → gl l j = fixA j) (h2 : ∀ j : Int, 0 ≤ j → j < 32 → gl l (300 + j) = 5) (hb : b ≤ e) (hb0 : 0 ≤ b) (he : e ≤ 64000) : FX g e sz (lkf l 0) 288 (lkf l 300) 32 b m o u ↔ CX g e sz x b m o u := by
  have e1 : FS g e sz (lkf l 0) 288 (lkf l 300) 32 (e - b + 1).toNat b m o = FS g e sz fixA 288 (fun _ => 5) 32 64001 b m o := by
    have e0 : FS g e sz (lkf l 0) 288 (lkf l 300) 32 (e - b + 1).toNat b m o = FS g e sz fixA 288 (fun _ => 5) 32 (e - b + 1).toNat b m o := FS_congr (L1 := lkf l 0) (L1' := fixA) (L2 := lkf l 300) (L2' := fun _ => 5) (n1 := 288) (n2 := 32) (fun k a c => by
      show gl l (0 + k) = _
      rw [Int.zero_add]
      exact h1 k a (by omega)) (fun k a c => h2 k a (by omega)) _ _ _ _
    rw [e0]
    exact FS_irr _ _ _ _ _ hb (by omega) (by omega)
  unfold FX CX
  rw [e1]
  exact ⟨fun q => ⟨q.1, Or.inl ⟨hx, q.2⟩⟩, fun q => ⟨q.1, q.2.elim And.right (fun c => absurd c.1 (by omega))⟩⟩
theorem CX_dyn {x b1 : Int} {l : List Int32} (hx : x = 1) (hD : DQ g e b) (hb1 : b1 = (TQ g e b).2.1) (h1 : ∀ j : Int, 0 ≤ j → j < hlQ g b → gl l j = (TQ g e b).2.2 j) (h2 : ∀ j : Int, 0 ≤ j → j < hdQ g b → gl l (300 + j) = (TQ g e b).2.2 (hlQ g b + j)) (hb : b1 ≤ e) (hb0 : 0 ≤ b1) (he : e ≤ 64000) : FX g e sz (lkf l 0) (hlQ g b).toNat (lkf l 300) (hdQ g b).toNat b1 m o u ↔ CX g e sz x b m o u := by
  have e1 : FS g e sz (lkf l 0) (hlQ g b).toNat (lkf l 300) (hdQ g b).toNat (e - b1 + 1).toNat b1 m o = DYN g e sz b m o := by
    have e0 : FS g e sz (lkf l 0) (hlQ g b).toNat (lkf l 300) (hdQ g b).toNat (e - b1 + 1).toNat b1 m o = FS g e sz (TQ g e b).2.2 (hlQ g b).toNat (fun j => (TQ g e b).2.2 (hlQ g b + j)) (hdQ g b).toNat (e - b1 + 1).toNat b1 m o := FS_congr (L1 := lkf l 0) (L1' := (TQ g e b).2.2) (L2 := lkf l 300) (L2' := fun j => (TQ g e b).2.2 (hlQ g b + j)) (n1 := (hlQ g b).toNat) (n2 := (hdQ g b).toNat) (fun k a c => by
      show gl l (0 + k) = _
      rw [Int.zero_add]
      exact h1 k a (by omega)) (fun k a c => h2 k a (by omega)) _ _ _ _
    rw [e0, FS_irr (e - b1 + 1).toNat 64001 _ _ _ hb (by omega) (by omega), hb1]
    rfl
  unfold FX CX
  rw [e1]
  exact ⟨fun q => ⟨q.1, Or.inr ⟨hx, hD, q.2⟩⟩, fun q => ⟨q.1, q.2.elim (fun c => absurd c.1 (by omega)) (fun c => c.2.2)⟩⟩
theorem CX_no {x : Int} (hx : x = 1) (h : ¬ DQ g e b) : ¬ CX g e sz x b m o u := fun q => q.2.elim (fun c => absurd c.1 (by omega)) (fun c => h c.2.1)
theorem BK_0 (h0 : BV g (b + 1) 2 = 0) (hb : b + 3 ≤ e) (h : (PLN g e sz ((b + 3 + 7) / 8 * 8) m o).1 = true) : BK g e sz b m o (PLN g e sz ((b + 3 + 7) / 8 * 8) m o) := ⟨hb, h, Or.inl ⟨h0, rfl⟩⟩
theorem BK_C {x : Int} (h0 : BV g (b + 1) 2 = x + 1) (hb : b + 3 ≤ e) (h : CX g e sz x (b + 3) m o u) : BK g e sz b m o u := ⟨hb, h.1, h.2.elim (fun c => Or.inr (Or.inl ⟨by omega, c.2⟩)) (fun c => Or.inr (Or.inr ⟨by omega, c.2⟩))⟩
theorem BK_noC {x : Int} (h0 : BV g (b + 1) 2 = x + 1) (hx : x = 0 ∨ x = 1) (h : ∀ u, ¬ CX g e sz x (b + 3) m o u) : ∀ u, ¬ BK g e sz b m o u := fun u q => by
  obtain ⟨-, q1, q2 | q2 | q2⟩ := q
  · have := q2.1; omega
  · exact h u ⟨q1, Or.inl ⟨by have := q2.1; omega, q2.2⟩⟩
  · exact h u ⟨q1, Or.inr ⟨by have := q2.1; omega, q2.2⟩⟩
theorem INFm_0 {v : US} (h : BK g e sz b m o v) (hb : bt g b ≠ 1) (hbe : b ≤ e) : INF g e sz (e - b + 1).toNat b m o u ↔ INF g e sz (e - v.2.1 + 1).toNat v.2.1 v.2.2.1 v.2.2.2 u := by
  have h1 := BK_b h
  rw [show (e - b + 1).toNat = (e - b).toNat + 1 by omega, INF_st0 h hb]
  exact ⟨INF_irr _ _ _ _ _ _ (by omega) (by omega) (by omega), INF_irr _ _ _ _ _ _ (by omega) (by omega) (by omega)⟩
theorem INFm_1 (h : BK g e sz b m o u) (hb : bt g b = 1) (hbe : b ≤ e) : INF g e sz (e - b + 1).toNat b m o u := by
  rw [show (e - b + 1).toNat = (e - b).toNat + 1 by omega]
  exact INF_st1 h hb
theorem INFm_no (h : ∀ u, ¬ BK g e sz b m o u) (hbe : b ≤ e) : ¬ INF g e sz (e - b + 1).toNat b m o u := by
  rw [show (e - b + 1).toNat = (e - b).toNat + 1 by omega]
  exact INF_no h
theorem INFm_all (hb : 0 ≤ b ∧ b ≤ e) (he : e ≤ 64000) : INF g e sz (e - b + 1).toNat b m o u ↔ INF g e sz 64001 b m o u := ⟨INF_irr _ _ _ _ _ _ (by omega) (by omega) (by omega), INF_irr _ _ _ _ _ _ (by omega) (by omega) (by omega)⟩
end
theorem DQ_TG {g : Int → Int} {e b : Int} : DQ g e b ↔ (hlQ g b ≤ 286 ∧ hdQ g b ≤ 30 ∧ TG g e (hlQ g b + hdQ g b) (b + 10) ∧ (TQ g e b).2.2 256 ≠ 0 ∧ OKQ (TQ g e b).2.2 (hlQ g b).toNat ∧ (OKQ (fun j => (TQ g e b).2.2 (hlQ g b + j)) (hdQ g b).toNat ∨ THQ (fun j => (TQ g e b).2.2 (hlQ g b + j)) (hdQ g b).toNat 15 = 0)) := by
  have e1 : TC g (b + 10) = CQ g (b + 14) (hcQ g b).toNat := by
    unfold TC hcQ
    rw [show b + 10 + 4 = b + 14 by omega]
  have e2 : hcQ g b = 4 + BV g (b + 10) 4 := rfl
  unfold DQ TG
  rw [e1, ← TQ_TT]
  constructor
  · rintro ⟨h1, h2, h3, h4, h5, h6, h7, h8, h9⟩
    exact ⟨h2, h3, ⟨by omega, by omega, h5, h6⟩, h7, h8, h9⟩
  · rintro ⟨h2, h3, ⟨h1, h4, h5, h6⟩, h7, h8, h9⟩
    exact ⟨by omega, h2, h3, by omega, h5, h6, h7, h8, h9⟩
theorem TQ_r (g : Int → Int) (e b j : Int) : 0 ≤ (TQ g e b).2.2 j ∧ (TQ g e b).2.2 j ≤ 15 := TL_r _ _ _ _ (fun _ => by decide) j
theorem THQ_nn (L : Int → Int) (n l : Nat) : 0 ≤ THQ L n l := by
  induction l with
  | zero => exact Int.le_refl _
  | succ l ih =>
    have := (MY_r L ((l : Int) + 1) n).1
    show 0 ≤ THQ L n l + MY L ((l : Int) + 1) n
    omega
/-- none of them has a code -/
theorem THQ_many {L L' : Int → Int} {n : Nat} (h : ∀ k : Int, 0 ≤ k → k < n → L k = L' k) (hr : ∀ k, 0 ≤ L' k ∧ L' k ≤ 15) : (n : Int) ≤ MY L 0 n ↔ THQ L' n 15 = 0 := by
  have h1 := THQ_n (L := L') (n := n) (fun k _ _ => hr k)
  have h2 := THQ_nn L' n 15
  rw [MY_congr h]
  omega
theorem P2_div {z i : Int} (hz : 0 ≤ z) : (z / P2 i % 2).toNat = z.toNat / 2 ^ i.toNat % 2 := by
  obtain ⟨n, rfl⟩ := Int.eq_ofNat_of_zero_le hz
  unfold P2
  have h : ((n : Int) / 2 ^ i.toNat % 2) = ((n / 2 ^ i.toNat % 2 : Nat) : Int) := by
    rw [Int.natCast_emod, Int.natCast_ediv, Int.natCast_pow]
    rfl
  rw [h, Int.toNat_natCast, Int.toNat_natCast]
/-- one bit of a sum -/
theorem cM_st {v s : Nat} {i t w z q : Int} (hi : 0 ≤ i) (ht : t.toNat = cM v i.toNat s) (h0 : 0 ≤ t) (hz0 : 0 ≤ z) (hv : z.toNat = v) (hw : w.toNat = (t / P2 1).toNat ^^^ q.toNat) (hq : (t % 2 = z / P2 i % 2 ∧ q = 0) ∨ (t % 2 ≠ z / P2 i % 2 ∧ q = 3988292384)) : w.toNat = cM v (i + 1).toNat s := by
  have e1 : P2 1 = 2 := by decide
  have e2 := P2_div (z := z) (i := i) hz0
  rw [hv] at e2
  have e3 : 0 ≤ z / P2 i % 2 := Int.emod_nonneg _ (by decide)
  rw [show (i + 1).toNat = i.toNat + 1 by omega, hw, e1]
  show (t / 2).toNat ^^^ q.toNat = (cM v i.toNat s / 2) ^^^ (if cM v i.toNat s % 2 = v / 2 ^ i.toNat % 2 then 0 else 3988292384)
  rw [← ht, ← e2, show (t / 2).toNat = t.toNat / 2 by omega]
  rcases hq with ⟨h1, h2⟩ | ⟨h1, h2⟩
  · rw [if_pos (by omega), h2]
    rfl
  · rw [if_neg (by omega), h2]
    rfl
