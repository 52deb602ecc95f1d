/-! Archive x, in the class and in the model. -/
section
variable {g g' : Int → Int} {f : Int}
theorem Hj_c (h : ∀ k : Int, 0 ≤ k → k < f → g k = g' k) (h255 : ∀ k, 0 ≤ g k ∧ g k ≤ 255) (q : FOn g f = 1) {j : Int} (j0 : 0 ≤ j) (j1 : j < NEf g f) : Hj g' f j = Hj g f j ∧ Dj g' f j = Dj g f j := by
  obtain ⟨a1, -, -, -, a5, a6, a7, a8, -⟩ := FO_un q
  have hl := (EN_le g f).2 a1
  have e0 := EN_c h
  have w8 := W2_r h255 (EN g f + 8)
  have w12 := W4_r h255 (EN g f + 12)
  have w16 := W4_r h255 (EN g f + 16)
  have c12 := W4_c h (k := EN g f + 12) (by omega) (by omega)
  have c16 := W4_c h (k := EN g f + 16) (by omega) (by omega)
  have dr : DRf g' f = DRf g f := by
    unfold DRf
    rw [← e0, ← c12]
  have ba : BAf g' f = BAf g f := by
    unfold BAf
    rw [← e0, ← c12, ← c16]
  have hh : Hj g' f j = Hj g f j := by
    have := HS_c h h255 (e := EN g f) (ba := EN g f - W4 g (EN g f + 12) - W4 g (EN g f + 16)) (by omega) hl _ a8 j.toNat (by unfold NEf at j1; omega)
    show HS g' (DRf g' f) j.toNat = HS g (DRf g f) j.toNat
    rw [dr]
    exact this.symm
  refine ⟨hh, ?_⟩
  have hf := (FO_ent h255 q).2 j j0 j1
  obtain ⟨v1, -, -, v4, -, v6⟩ := VK_un (AV_all _ a8 j j0 (by unfold NEf at j1; omega))
  have e2 : hsf g (EN g f - W4 g (EN g f + 12)) j = Hj g f j := rfl
  rw [e2] at v6
  obtain ⟨l1, -, -, -, l5⟩ := LR_un v6
  have e4 : BAf g f = EN g f - W4 g (EN g f + 12) - W4 g (EN g f + 16) := rfl
  rw [← e4] at l1 l5 a7
  have w28 := W2_r h255 (Hj g f j + 28)
  have w42 := W4_r h255 (Hj g f j + 42)
  have d1 : Dj g f j = BAf g f + W4 g (Hj g f j + 42) + 30 + W2 g (Hj g f j + 28) + W2 g (BAf g f + W4 g (Hj g f j + 42) + 28) := rfl
  have d2 : Dj g' f j = BAf g' f + W4 g' (Hj g' f j + 42) + 30 + W2 g' (Hj g' f j + 28) + W2 g' (BAf g' f + W4 g' (Hj g' f j + 42) + 28) := rfl
  rw [d1, d2, hh, ba, ← W4_c h (k := Hj g f j + 42) (by omega) (by omega), ← W2_c h (k := Hj g f j + 28) (by omega) (by omega), ← W2_c h (k := BAf g f + W4 g (Hj g f j + 42) + 28) (by omega) (by omega)]
end
/-- bytes -/
def B255 (o : Int → Int) : Prop := ∀ k : Int, 0 ≤ o k ∧ o k ≤ 255
theorem B255_0 : B255 (fun _ => 0) := fun _ => ⟨Int.le_refl 0, (by decide : (0 : Int) ≤ 255)⟩
theorem B255_up {o : Int → Int} {p v : Int} (h : B255 o) (hv : 0 ≤ v ∧ v ≤ 255) : B255 (updG o p v) := fun k => by
  unfold updG
  by_cases q : k = p
  · rw [if_pos q]; exact hv
  · rw [if_neg q]; exact h k
theorem B255_cpy {o : Int → Int} {m back : Int} (h : B255 o) : ∀ n : Nat, B255 (CPY o m back n)
  | 0 => h
  | n + 1 => B255_up (B255_cpy h n) (B255_cpy h n _)
theorem B255_plc {g o : Int → Int} {m a : Int} (hg : B255 g) (h : B255 o) : ∀ n : Nat, B255 (PLC g o m a n)
  | 0 => h
  | n + 1 => B255_up (B255_plc hg h n) (hg _)
theorem B255_os {g : Int → Int} {e size : Int} {L : Int → Int} {n : Nat} {s : Int × Int} {m : Int} {o : Int → Int} (h : B255 o) : B255 (OS g e size L n s m o).2.2.2 := by
  unfold OS
  by_cases c1 : s.1 < 0
  · rw [if_pos c1]; exact B255_0
  rw [if_neg c1]
  by_cases c2 : s.1 < 256
  · rw [if_pos c2]
    by_cases c3 : m < size
    · rw [if_pos c3]; exact B255_up h ⟨by omega, by omega⟩
    · rw [if_neg c3]; exact B255_0
  rw [if_neg c2]
  unfold CB
  by_cases c4 : 29 ≤ s.1 - 257 ∨ e < s.2 + cBi (s.1 - 257)
  · rw [if_pos c4]; exact B255_0
  rw [if_neg c4]
  unfold CB2
  generalize SG g e L n 15 (s.2 + cBi (s.1 - 257)) 0 0 = w
  by_cases c5 : w.1 < 0 ∨ 30 ≤ w.1 ∨ e < w.2 + wBi w.1
  · rw [if_pos c5]; exact B255_0
  rw [if_neg c5]
  unfold CB3
  generalize wLe w.1 + BV g w.2 (wBi w.1).toNat = bk
  generalize cLe (s.1 - 257) + BV g s.2 (cBi (s.1 - 257)).toNat = nn
  by_cases c6 : m < bk ∨ size - m < nn
  · rw [if_pos c6]; exact B255_0
  · rw [if_neg c6]; exact B255_cpy h _
theorem B255_fs {g : Int → Int} {e size : Int} {L1 L2 : Int → Int} {n1 n2 : Nat} : ∀ (k : Nat) (b m : Int) (o : Int → Int), B255 o → B255 (FS g e size L1 n1 L2 n2 k b m o).2.2.2
  | 0, _, _, _, _ => B255_0
  | k + 1, b, m, o, h => by
    unfold FS
    by_cases c1 : (SG g e L1 n1 15 b 0 0).1 = 256
    · rw [if_pos c1]; exact h
    rw [if_neg c1]
    by_cases c2 : (OS g e size L2 n2 (SG g e L1 n1 15 b 0 0) m o).1 = true
    · rw [if_pos c2]; exact B255_fs k _ _ _ (B255_os h)
    · rw [if_neg c2]; exact B255_0
theorem B255_bk {g : Int → Int} {e size b m : Int} {o : Int → Int} {u : US} (hg : B255 g) (ho : B255 o) (h : BK g e size b m o u) : B255 u.2.2.2 := by
  obtain ⟨-, -, h⟩ := h
  rcases h with ⟨-, h⟩ | ⟨-, h⟩ | ⟨-, -, h⟩
  · rw [h]
    unfold PLN
    generalize (b + 3 + 7) / 8 * 8 = b1
    by_cases c : e < b1 + 32 ∨ BV g b1 16 + BV g (b1 + 16) 16 ≠ 65535 ∨ e < b1 + 32 + 8 * BV g b1 16 ∨ size - m < BV g b1 16
    · rw [if_pos c]; exact B255_0
    · rw [if_neg c]; exact B255_plc hg ho _
  · rw [h]; exact B255_fs _ _ _ _ ho
  · rw [h]; exact B255_fs _ _ _ _ ho
theorem B255_inf {g : Int → Int} {e size : Int} (hg : B255 g) : ∀ (k : Nat) {b m : Int} {o : Int → Int} {u : US}, B255 o → INF g e size k b m o u → B255 u.2.2.2
  | 0, _, _, _, _, _, h => absurd h (fun q => q)
  | k + 1, b, m, o, u, ho, h => by
    obtain ⟨v, h1, h2⟩ := h
    have hv := B255_bk hg ho h1
    rcases h2 with ⟨-, rfl⟩ | ⟨-, h2⟩
    · exact hv
    · exact B255_inf hg k hv h2
theorem B255_rd {g o : Int → Int} {H D : Int} (hg : B255 g) (h : RD g H D o) : B255 o := by
  obtain ⟨-, -, -, h, -⟩ := h
  rcases h with ⟨-, -, h⟩ | ⟨-, v, h1, -, -, h⟩
  · rw [h]; exact B255_plc hg B255_0 _
  · rw [h]; exact B255_inf hg _ B255_0 h1
/-- the archive x has the bytes o, fo of them -/
def ARX (g : Int → Int) (f : Int) (lm : List Int32) (x : Int) (o : Int → Int) (fo : Int) : Prop := (x = 0 → o = g ∧ fo = f) ∧ (1 ≤ x → MNT g f (gl lm (x - 1)) o ∧ fo = W4 g (Hj g f (gl lm (x - 1)) + 24))
theorem ARX_one {g o o' : Int → Int} {f x fo fo' : Int} {lm : List Int32} (h0 : 0 ≤ x) (h : ARX g f lm x o fo) (h' : ARX g f lm x o' fo') : o = o' ∧ fo = fo' := by
  by_cases q : x = 0
  · obtain ⟨a, b⟩ := h.1 q
    obtain ⟨a', b'⟩ := h'.1 q
    exact ⟨a.trans a'.symm, b.trans b'.symm⟩
  · obtain ⟨a, b⟩ := h.2 (by omega)
    obtain ⟨a', b'⟩ := h'.2 (by omega)
    exact ⟨RD_one a.1 a'.1, b.trans b'.symm⟩
/-- every archive that is there has its bytes -/
theorem R7_arx {σ : qH} {g : Int → Int} {f io mo x : Int} {lm : List Int32} (h : R7 σ g f lm io mo) (h255 : B255 g) (hfo : FOn g f = 1) (hv : io = 1 ∧ 0 ≤ x ∧ x ≤ mo) : ∃ (o : Int → Int) (fo : Int), ARX g f lm x o fo ∧ B255 o ∧ FOn o fo = 1 ∧ ∀ a : Nat, AOF σ x a → SV σ a o fo := by
  obtain ⟨e1, e2, -, -, -, hO, hM, -⟩ := h
  obtain ⟨v1, v2, v3⟩ := hv
  by_cases q : x = 0
  · have hs := hO (by omega)
    exact ⟨g, f, ⟨fun _ => ⟨rfl, rfl⟩, fun z => by omega⟩, h255, hfo, fun a ha => hs a (ha.2.2.2.1 q)⟩
  · obtain ⟨a, -, m2, o, m3, m4⟩ := hM v1 (x - 1) (by omega) (by omega)
    refine ⟨o, _, ⟨fun z => by omega, fun _ => ⟨m3, rfl⟩⟩, B255_rd h255 m3.1, m3.2, fun a' ha => ?_⟩
    · have e := ha.2.2.2.2 (by omega)
      rw [m2] at e
      cases e
      exact m4
/-- what is told of an entry -/
def EVv (o : Int → Int) (H u : Int) : Int := if u = 0 then W4 o (H + 24) else if u = 1 then W4 o (H + 20) else if u = 2 then W2 o (H + 10) else if u = 3 then W4 o (H + 16) else if u = 4 then W2 o (H + 8) else W2 o (H + 28)
/-- a letter of its name -/
def LTv (o : Int → Int) (H u : Int) : Int := if 0 ≤ u ∧ u < W2 o (H + 28) then o (H + 46 + u) else -1
/-- why entry throws -/
def NEN (σ : qH) (o : Int → Int) (fo x y u : Int) (e : Nat) : Prop := (e = 1 → ¬ (afld σ 16 11 = 1 ∧ 0 ≤ x ∧ x ≤ afld σ 16 14 ∧ 0 ≤ y ∧ y < NEf o fo)) ∧ (e = 0 → (afld σ 16 11 = 1 ∧ 0 ≤ x ∧ x ≤ afld σ 16 14 ∧ 0 ≤ y ∧ y < NEf o fo) ∧ (u < 0 ∨ 5 < u))
/-- the model uses the archive x: its row has r, fr bytes of it, and it knows the entries -/
def ARY (g : Int → Int) (f : Int) (lm : List Int32) (x : Int) (r : Int → Int) (fr : Int) (lh ld : List Int32) (en : Int) : Prop := ∃ (o : Int → Int) (fo : Int), ARX g f lm x o fo ∧ fr = fo ∧ (∀ k : Int, 0 ≤ k → k < fo → r k = o k) ∧ FOn o fo = 1 ∧ en = NEf o fo ∧ HDJ o fo lh ld en
/-- the archive x is there, and has no entry y -/
def NHE (g : Int → Int) (f : Int) (lm : List Int32) (io mo x y : Int) : Prop := io = 1 → 0 ≤ x → x ≤ mo → ∃ (o : Int → Int) (fo : Int), ARX g f lm x o fo ∧ ¬ (0 ≤ y ∧ y < NEf o fo)
/-- the archive x is there, and has an entry y -/
def YHE (g : Int → Int) (f : Int) (lm : List Int32) (io mo x y : Int) : Prop := (io = 1 ∧ 0 ≤ x ∧ x ≤ mo) ∧ ∃ (o : Int → Int) (fo : Int), ARX g f lm x o fo ∧ 0 ≤ y ∧ y < NEf o fo
def ENV (g : Int → Int) (f : Int) (lm : List Int32) (io mo x y u z : Int) : Prop := (io = 1 ∧ 0 ≤ x ∧ x ≤ mo) ∧ (0 ≤ u ∧ u ≤ 5) ∧ ∃ (o : Int → Int) (fo : Int), ARX g f lm x o fo ∧ (0 ≤ y ∧ y < NEf o fo) ∧ z = EVv o (Hj o fo y) u
def LTV (g : Int → Int) (f : Int) (lm : List Int32) (io mo x y u z : Int) : Prop := (io = 1 ∧ 0 ≤ x ∧ x ≤ mo) ∧ ∃ (o : Int → Int) (fo : Int), ARX g f lm x o fo ∧ (0 ≤ y ∧ y < NEf o fo) ∧ z = LTv o (Hj o fo y) u
