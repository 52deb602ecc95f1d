/-! The model and its arrays. -/
def mfs (c io mo fa pl ns rw en wy wh bi ed sz md bd li wk we : Int) : List Value := [J c, .ref 138, .ref 139, J io, J mo, .ref 140, J fa, J pl, J ns, .ref 141, J rw, J en, .ref 142, .ref 143, J wy, J wh, J bi, J ed, J sz, J md, J bd, .ref 144, J li, .ref 145, J wk, J we]
/-- ints of a list lie between -/
def BT (l : List Int32) (a b : Int) : Prop := ∀ i : Nat, a ≤ (l.getD i 0).toInt ∧ (l.getD i 0).toInt ≤ b
theorem BT.at {l : List Int32} {a b x z : Int} (h : BT l a b) (e : l.getD x.toNat 0 = Int32.ofInt z) (hz : -2147483648 ≤ z ∧ z ≤ 2147483647) : a ≤ z ∧ z ≤ b := by
  have := h x.toNat
  rw [e, i32_to hz] at this
  exact this
theorem BT.set {l : List Int32} {a b y : Int} {x : Nat} (h : BT l a b) (h0 : a ≤ 0 ∧ 0 ≤ b) (hy : a ≤ y ∧ y ≤ b) (hr : -2147483648 ≤ y ∧ y ≤ 2147483647) : BT (l.set x (Int32.ofInt y)) a b := by
  intro i
  rw [List.getD_eq_getElem?_getD]
  by_cases e : x = i
  · subst e
    by_cases hx : x < l.length
    · rw [List.getElem?_set_self hx]
      show a ≤ (Int32.ofInt y).toInt ∧ _
      rw [Option.getD_some, i32_to hr]
      exact hy
    · rw [List.getElem?_eq_none (by rw [List.length_set]; omega)]
      exact h0
  · rw [List.getElem?_set_ne e, ← List.getD_eq_getElem?_getD]
    exact h i
def MS (σ : qH) (c io mo fa pl ns rw en wy wh bi ed sz md bd li wk we : Int) (Lc : List Int64) (la lm ln lh ld lk lt : List Int32) : Prop := (σ[137]? = some (.inl (7, mfs c io mo fa pl ns rw en wy wh bi ed sz md bd li wk we)) ∧ σ[138]? = some (.inr (.inr (.inl Lc))) ∧ σ[139]? = some (.inr (.inl (0, la))) ∧ σ[140]? = some (.inr (.inl (0, lm))) ∧ σ[141]? = some (.inr (.inl (0, ln))) ∧ σ[142]? = some (.inr (.inl (0, lh))) ∧ σ[143]? = some (.inr (.inl (0, ld))) ∧ σ[144]? = some (.inr (.inl (0, lk))) ∧ σ[145]? = some (.inr (.inl (0, lt)))) ∧ (Lc.length = 7000 ∧ la.length = 7 ∧ lm.length = 6 ∧ ln.length = 40 ∧ lh.length = 64 ∧ ld.length = 64 ∧ lk.length = 360 ∧ lt.length = 6) ∧ (BT la 0 8000 ∧ BT lm 0 63 ∧ BT lh 0 8000 ∧ BT lt 0 63) ∧ (-2147483648 ≤ c ∧ c ≤ 2147483647 ∧ 0 ≤ io ∧ io ≤ 1 ∧ 0 ≤ mo ∧ mo ≤ 6 ∧ -2147483648 ≤ fa ∧ fa ≤ 2147483647 ∧ -2147483648 ≤ pl ∧ pl ≤ 2147483647 ∧ 0 ≤ ns ∧ ns ≤ 40 ∧ 0 ≤ rw ∧ rw ≤ 4 ∧ 0 ≤ en ∧ en ≤ 64 ∧ -2147483648 ≤ wy ∧ wy ≤ 2147483647 ∧ -2147483648 ≤ wh ∧ wh ≤ 2147483647 ∧ -2147483648 ≤ bi ∧ bi ≤ 2147483647 ∧ -2147483648 ≤ ed ∧ ed ≤ 2147483647 ∧ -2147483648 ≤ sz ∧ sz ≤ 2147483647 ∧ -2147483648 ≤ md ∧ md ≤ 2147483647 ∧ 0 ≤ bd ∧ bd ≤ 1 ∧ 0 ≤ li ∧ li ≤ 6 ∧ -2147483648 ≤ wk ∧ wk ≤ 2147483647 ∧ -2147483648 ≤ we ∧ we ≤ 2147483647)
/-- what the model leaves as it was -/
def FM (σ σ' : qH) : Prop := (∀ i : Nat, i < 137 ∨ 145 < i → σ'[i]? = σ[i]?) ∧ σ'.length = σ.length ∧ qsz σ' = qsz σ ∧ kds σ' = kds σ
theorem FM.refl {σ : qH} : FM σ σ := ⟨fun _ _ => rfl, rfl, rfl, rfl⟩
theorem FM.trans {σ σ1 σ2 : qH} (h : FM σ σ1) (g : FM σ1 σ2) : FM σ σ2 := ⟨fun i a => (g.1 i a).trans (h.1 i a), g.2.1.trans h.2.1, g.2.2.1.trans h.2.2.1, g.2.2.2.trans h.2.2.2⟩
theorem FM.set {σ : qH} {i : Nat} {c0 c1 : qC} (hi : σ[i]? = some c0) (e : kdc c1 = kdc c0) (h : 137 ≤ i ∧ i ≤ 145) : FM σ (σ.set i c1) := ⟨fun k hk => List.getElem?_set_ne (by omega), List.length_set, qsz_set hi (kdc_qcs e), kds_set hi e⟩
theorem FM.keepK {σ σ' : qH} (hK : K σ) (h : FM σ σ') : K σ' := by
  refine ⟨by rw [h.2.2.2]; exact hK.1, fun i c hc => ?_⟩
  rw [h.2.2.2]
  by_cases hi : i < 137 ∨ 145 < i
  · rw [h.1 i hi] at hc
    exact hK.2 i c hc
  · have h1 := kds_at hc
    rw [h.2.2.2] at h1
    have h2 : kdX[i]? = some (kdc c) := by
      rw [← hK.1, List.getElem?_take, if_pos (by omega)]
      exact h1
    have h3 : ∀ k < 9, ∀ x, kdX[137 + k]? = some x → x = (0, 7, 26) ∨ x.1 = 2 ∨ (x.1 = 1 ∧ x.2.1 = 0) := by decide +kernel
    have h4 := h3 (i - 137) (by omega) _ (by rw [show 137 + (i - 137) = i by omega]; exact h2)
    rcases c with ⟨x, fs⟩ | ⟨t, li⟩ | li | li | ⟨t, li⟩ | k
    · rcases h4 with h4 | h4 | h4
      · simp only [kdc, Prod.mk.injEq] at h4
        obtain ⟨-, rfl, -⟩ := h4
        trivial
      · cases h4
      · cases h4.1
    · rcases h4 with h4 | h4 | h4
      · cases h4
      · cases h4
      · have : t = 0 := h4.2
        subst this
        trivial
    · trivial
    · rcases h4 with h4 | h4 | h4
      · cases h4
      · cases h4
      · cases h4.1
    · trivial
    · trivial
section
variable {σ : qH} {c io mo fa pl ns rw en wy wh bi ed sz md bd li wk we : Int} {Lc : List Int64} {la lm ln lh ld lk lt : List Int32} {c' io' mo' fa' pl' ns' rw' en' wy' wh' bi' ed' sz' md' bd' li' wk' we' : Int}
theorem MS.rg (h : MS σ c io mo fa pl ns rw en wy wh bi ed sz md bd li wk we Lc la lm ln lh ld lk lt) : -2147483648 ≤ c ∧ c ≤ 2147483647 ∧ 0 ≤ io ∧ io ≤ 1 ∧ 0 ≤ mo ∧ mo ≤ 6 ∧ -2147483648 ≤ fa ∧ fa ≤ 2147483647 ∧ -2147483648 ≤ pl ∧ pl ≤ 2147483647 ∧ 0 ≤ ns ∧ ns ≤ 40 ∧ 0 ≤ rw ∧ rw ≤ 4 ∧ 0 ≤ en ∧ en ≤ 64 ∧ -2147483648 ≤ wy ∧ wy ≤ 2147483647 ∧ -2147483648 ≤ wh ∧ wh ≤ 2147483647 ∧ -2147483648 ≤ bi ∧ bi ≤ 2147483647 ∧ -2147483648 ≤ ed ∧ ed ≤ 2147483647 ∧ -2147483648 ≤ sz ∧ sz ≤ 2147483647 ∧ -2147483648 ≤ md ∧ md ≤ 2147483647 ∧ 0 ≤ bd ∧ bd ≤ 1 ∧ 0 ≤ li ∧ li ≤ 6 ∧ -2147483648 ≤ wk ∧ wk ≤ 2147483647 ∧ -2147483648 ≤ we ∧ we ≤ 2147483647 := h.2.2.2
theorem MS.len (h : MS σ c io mo fa pl ns rw en wy wh bi ed sz md bd li wk we Lc la lm ln lh ld lk lt) : Lc.length = 7000 ∧ la.length = 7 ∧ lm.length = 6 ∧ ln.length = 40 ∧ lh.length = 64 ∧ ld.length = 64 ∧ lk.length = 360 ∧ lt.length = 6 := h.2.1
theorem MS.ob (h : MS σ c io mo fa pl ns rw en wy wh bi ed sz md bd li wk we Lc la lm ln lh ld lk lt) : σ[137]? = some (.inl (7, [J c, .ref 138, .ref 139, J io, J mo, .ref 140, J fa, J pl, J ns, .ref 141, J rw, J en, .ref 142, .ref 143, J wy, J wh, J bi, J ed, J sz, J md, J bd, .ref 144, J li, .ref 145, J wk, J we])) := h.1.1
theorem MS.c138 (h : MS σ c io mo fa pl ns rw en wy wh bi ed sz md bd li wk we Lc la lm ln lh ld lk lt) : σ[138]? = some (.inr (.inr (.inl Lc))) := h.1.2.1
theorem MS.c139 (h : MS σ c io mo fa pl ns rw en wy wh bi ed sz md bd li wk we Lc la lm ln lh ld lk lt) : σ[139]? = some (.inr (.inl (0, la))) := h.1.2.2.1
theorem MS.c140 (h : MS σ c io mo fa pl ns rw en wy wh bi ed sz md bd li wk we Lc la lm ln lh ld lk lt) : σ[140]? = some (.inr (.inl (0, lm))) := h.1.2.2.2.1
theorem MS.c141 (h : MS σ c io mo fa pl ns rw en wy wh bi ed sz md bd li wk we Lc la lm ln lh ld lk lt) : σ[141]? = some (.inr (.inl (0, ln))) := h.1.2.2.2.2.1
theorem MS.c142 (h : MS σ c io mo fa pl ns rw en wy wh bi ed sz md bd li wk we Lc la lm ln lh ld lk lt) : σ[142]? = some (.inr (.inl (0, lh))) := h.1.2.2.2.2.2.1
theorem MS.c143 (h : MS σ c io mo fa pl ns rw en wy wh bi ed sz md bd li wk we Lc la lm ln lh ld lk lt) : σ[143]? = some (.inr (.inl (0, ld))) := h.1.2.2.2.2.2.2.1
theorem MS.c144 (h : MS σ c io mo fa pl ns rw en wy wh bi ed sz md bd li wk we Lc la lm ln lh ld lk lt) : σ[144]? = some (.inr (.inl (0, lk))) := h.1.2.2.2.2.2.2.2.1
theorem MS.c145 (h : MS σ c io mo fa pl ns rw en wy wh bi ed sz md bd li wk we Lc la lm ln lh ld lk lt) : σ[145]? = some (.inr (.inl (0, lt))) := h.1.2.2.2.2.2.2.2.2
theorem MS.b139 (h : MS σ c io mo fa pl ns rw en wy wh bi ed sz md bd li wk we Lc la lm ln lh ld lk lt) : BT la 0 8000 := h.2.2.1.1
theorem MS.b140 (h : MS σ c io mo fa pl ns rw en wy wh bi ed sz md bd li wk we Lc la lm ln lh ld lk lt) : BT lm 0 63 := h.2.2.1.2.1
theorem MS.b142 (h : MS σ c io mo fa pl ns rw en wy wh bi ed sz md bd li wk we Lc la lm ln lh ld lk lt) : BT lh 0 8000 := h.2.2.1.2.2.1
theorem MS.b145 (h : MS σ c io mo fa pl ns rw en wy wh bi ed sz md bd li wk we Lc la lm ln lh ld lk lt) : BT lt 0 63 := h.2.2.1.2.2.2
theorem MS.set (h : MS σ c io mo fa pl ns rw en wy wh bi ed sz md bd li wk we Lc la lm ln lh ld lk lt) (hr : -2147483648 ≤ c' ∧ c' ≤ 2147483647 ∧ 0 ≤ io' ∧ io' ≤ 1 ∧ 0 ≤ mo' ∧ mo' ≤ 6 ∧ -2147483648 ≤ fa' ∧ fa' ≤ 2147483647 ∧ -2147483648 ≤ pl' ∧ pl' ≤ 2147483647 ∧ 0 ≤ ns' ∧ ns' ≤ 40 ∧ 0 ≤ rw' ∧ rw' ≤ 4 ∧ 0 ≤ en' ∧ en' ≤ 64 ∧ -2147483648 ≤ wy' ∧ wy' ≤ 2147483647 ∧ -2147483648 ≤ wh' ∧ wh' ≤ 2147483647 ∧ -2147483648 ≤ bi' ∧ bi' ≤ 2147483647 ∧ -2147483648 ≤ ed' ∧ ed' ≤ 2147483647 ∧ -2147483648 ≤ sz' ∧ sz' ≤ 2147483647 ∧ -2147483648 ≤ md' ∧ md' ≤ 2147483647 ∧ 0 ≤ bd' ∧ bd' ≤ 1 ∧ 0 ≤ li' ∧ li' ≤ 6 ∧ -2147483648 ≤ wk' ∧ wk' ≤ 2147483647 ∧ -2147483648 ≤ we' ∧ we' ≤ 2147483647) : MS (σ.set 137 (.inl (7, [J c', .ref 138, .ref 139, J io', J mo', .ref 140, J fa', J pl', J ns', .ref 141, J rw', J en', .ref 142, .ref 143, J wy', J wh', J bi', J ed', J sz', J md', J bd', .ref 144, J li', .ref 145, J wk', J we']))) c' io' mo' fa' pl' ns' rw' en' wy' wh' bi' ed' sz' md' bd' li' wk' we' Lc la lm ln lh ld lk lt := ⟨⟨qs_at h.ob, set_ho (by decide) h.c138, set_ho (by decide) h.c139, set_ho (by decide) h.c140, set_ho (by decide) h.c141, set_ho (by decide) h.c142, set_ho (by decide) h.c143, set_ho (by decide) h.c144, set_ho (by decide) h.c145⟩, h.2.1, h.2.2.1, hr⟩
theorem MS.setL (h : MS σ c io mo fa pl ns rw en wy wh bi ed sz md bd li wk we Lc la lm ln lh ld lk lt) {Lc' : List Int64} (hl : Lc'.length = 7000) : MS (σ.set 138 (.inr (.inr (.inl Lc')))) c io mo fa pl ns rw en wy wh bi ed sz md bd li wk we Lc' la lm ln lh ld lk lt := ⟨⟨set_ho (by decide) h.ob, qs_at h.c138, set_ho (by decide) h.c139, set_ho (by decide) h.c140, set_ho (by decide) h.c141, set_ho (by decide) h.c142, set_ho (by decide) h.c143, set_ho (by decide) h.c144, set_ho (by decide) h.c145⟩, ⟨hl, h.2.1.2⟩, h.2.2⟩
theorem MS.set139 (h : MS σ c io mo fa pl ns rw en wy wh bi ed sz md bd li wk we Lc la lm ln lh ld lk lt) {l' : List Int32} (hl : l'.length = 7) (hb : BT l' 0 8000) : MS (σ.set 139 (.inr (.inl (0, l')))) c io mo fa pl ns rw en wy wh bi ed sz md bd li wk we Lc l' lm ln lh ld lk lt := ⟨⟨set_ho (by decide) h.ob, set_ho (by decide) h.c138, qs_at h.c139, set_ho (by decide) h.c140, set_ho (by decide) h.c141, set_ho (by decide) h.c142, set_ho (by decide) h.c143, set_ho (by decide) h.c144, set_ho (by decide) h.c145⟩, ⟨h.len.1, hl, h.len.2.2.1, h.len.2.2.2.1, h.len.2.2.2.2.1, h.len.2.2.2.2.2.1, h.len.2.2.2.2.2.2.1, h.len.2.2.2.2.2.2.2⟩, ⟨hb, h.b140, h.b142, h.b145⟩, h.rg⟩
theorem MS.set140 (h : MS σ c io mo fa pl ns rw en wy wh bi ed sz md bd li wk we Lc la lm ln lh ld lk lt) {l' : List Int32} (hl : l'.length = 6) (hb : BT l' 0 63) : MS (σ.set 140 (.inr (.inl (0, l')))) c io mo fa pl ns rw en wy wh bi ed sz md bd li wk we Lc la l' ln lh ld lk lt := ⟨⟨set_ho (by decide) h.ob, set_ho (by decide) h.c138, set_ho (by decide) h.c139, qs_at h.c140, set_ho (by decide) h.c141, set_ho (by decide) h.c142, set_ho (by decide) h.c143, set_ho (by decide) h.c144, set_ho (by decide) h.c145⟩, ⟨h.len.1, h.len.2.1, hl, h.len.2.2.2.1, h.len.2.2.2.2.1, h.len.2.2.2.2.2.1, h.len.2.2.2.2.2.2.1, h.len.2.2.2.2.2.2.2⟩, ⟨h.b139, hb, h.b142, h.b145⟩, h.rg⟩
theorem MS.set141 (h : MS σ c io mo fa pl ns rw en wy wh bi ed sz md bd li wk we Lc la lm ln lh ld lk lt) {l' : List Int32} (hl : l'.length = 40) : MS (σ.set 141 (.inr (.inl (0, l')))) c io mo fa pl ns rw en wy wh bi ed sz md bd li wk we Lc la lm l' lh ld lk lt := ⟨⟨set_ho (by decide) h.ob, set_ho (by decide) h.c138, set_ho (by decide) h.c139, set_ho (by decide) h.c140, qs_at h.c141, set_ho (by decide) h.c142, set_ho (by decide) h.c143, set_ho (by decide) h.c144, set_ho (by decide) h.c145⟩, ⟨h.len.1, h.len.2.1, h.len.2.2.1, hl, h.len.2.2.2.2.1, h.len.2.2.2.2.2.1, h.len.2.2.2.2.2.2.1, h.len.2.2.2.2.2.2.2⟩, ⟨h.b139, h.b140, h.b142, h.b145⟩, h.rg⟩
theorem MS.set142 (h : MS σ c io mo fa pl ns rw en wy wh bi ed sz md bd li wk we Lc la lm ln lh ld lk lt) {l' : List Int32} (hl : l'.length = 64) (hb : BT l' 0 8000) : MS (σ.set 142 (.inr (.inl (0, l')))) c io mo fa pl ns rw en wy wh bi ed sz md bd li wk we Lc la lm ln l' ld lk lt := ⟨⟨set_ho (by decide) h.ob, set_ho (by decide) h.c138, set_ho (by decide) h.c139, set_ho (by decide) h.c140, set_ho (by decide) h.c141, qs_at h.c142, set_ho (by decide) h.c143, set_ho (by decide) h.c144, set_ho (by decide) h.c145⟩, ⟨h.len.1, h.len.2.1, h.len.2.2.1, h.len.2.2.2.1, hl, h.len.2.2.2.2.2.1, h.len.2.2.2.2.2.2.1, h.len.2.2.2.2.2.2.2⟩, ⟨h.b139, h.b140, hb, h.b145⟩, h.rg⟩
theorem MS.set143 (h : MS σ c io mo fa pl ns rw en wy wh bi ed sz md bd li wk we Lc la lm ln lh ld lk lt) {l' : List Int32} (hl : l'.length = 64) : MS (σ.set 143 (.inr (.inl (0, l')))) c io mo fa pl ns rw en wy wh bi ed sz md bd li wk we Lc la lm ln lh l' lk lt := ⟨⟨set_ho (by decide) h.ob, set_ho (by decide) h.c138, set_ho (by decide) h.c139, set_ho (by decide) h.c140, set_ho (by decide) h.c141, set_ho (by decide) h.c142, qs_at h.c143, set_ho (by decide) h.c144, set_ho (by decide) h.c145⟩, ⟨h.len.1, h.len.2.1, h.len.2.2.1, h.len.2.2.2.1, h.len.2.2.2.2.1, hl, h.len.2.2.2.2.2.2.1, h.len.2.2.2.2.2.2.2⟩, ⟨h.b139, h.b140, h.b142, h.b145⟩, h.rg⟩
theorem MS.set144 (h : MS σ c io mo fa pl ns rw en wy wh bi ed sz md bd li wk we Lc la lm ln lh ld lk lt) {l' : List Int32} (hl : l'.length = 360) : MS (σ.set 144 (.inr (.inl (0, l')))) c io mo fa pl ns rw en wy wh bi ed sz md bd li wk we Lc la lm ln lh ld l' lt := ⟨⟨set_ho (by decide) h.ob, set_ho (by decide) h.c138, set_ho (by decide) h.c139, set_ho (by decide) h.c140, set_ho (by decide) h.c141, set_ho (by decide) h.c142, set_ho (by decide) h.c143, qs_at h.c144, set_ho (by decide) h.c145⟩, ⟨h.len.1, h.len.2.1, h.len.2.2.1, h.len.2.2.2.1, h.len.2.2.2.2.1, h.len.2.2.2.2.2.1, hl, h.len.2.2.2.2.2.2.2⟩, ⟨h.b139, h.b140, h.b142, h.b145⟩, h.rg⟩
theorem MS.set145 (h : MS σ c io mo fa pl ns rw en wy wh bi ed sz md bd li wk we Lc la lm ln lh ld lk lt) {l' : List Int32} (hl : l'.length = 6) (hb : BT l' 0 63) : MS (σ.set 145 (.inr (.inl (0, l')))) c io mo fa pl ns rw en wy wh bi ed sz md bd li wk we Lc la lm ln lh ld lk l' := ⟨⟨set_ho (by decide) h.ob, set_ho (by decide) h.c138, set_ho (by decide) h.c139, set_ho (by decide) h.c140, set_ho (by decide) h.c141, set_ho (by decide) h.c142, set_ho (by decide) h.c143, set_ho (by decide) h.c144, qs_at h.c145⟩, ⟨h.len.1, h.len.2.1, h.len.2.2.1, h.len.2.2.2.1, h.len.2.2.2.2.1, h.len.2.2.2.2.2.1, h.len.2.2.2.2.2.2.1, hl⟩, ⟨h.b139, h.b140, h.b142, hb⟩, h.rg⟩
end
section
variable {ξ : Nat → Option (Nat × List Int32)} {d j pc : Nat} {lv : qLV} {r : List Value} {σ : qH} {Q : Option Value → qH → Prop} {x y : Int} {c io mo fa pl ns rw en wy wh bi ed sz md bd li wk we : Int} {Lc : List Int64} {la lm ln lh ld lk lt : List Int32} {c' io' mo' fa' pl' ns' rw' en' wy' wh' bi' ed' sz' md' bd' li' wk' we' : Int}
theorem T.mput {idx k : Nat} {nb : Bool} {q : Nat × Nat} {v : Value} (h : MS σ c io mo fa pl ns rw en wy wh bi ed sz md bd li wk we Lc la lm ln lh ld lk lt) (hf : qfe j pc = some (.putfield idx, 3)) (hl : qlk (qfL.getD (qco j) []) idx = some ((7, k, nb), q)) (hk : Nat.blt k 26 = true) (hv : qfit (qcty 7 k) v = true) (hn : (!(qfn 7 k).2.2.2 || (!nb && (qisI j && Nat.beq 7 (qco j)))) = true) (he : ([J c, .ref 138, .ref 139, J io, J mo, .ref 140, J fa, J pl, J ns, .ref 141, J rw, J en, .ref 142, .ref 143, J wy, J wh, J bi, J ed, J sz, J md, J bd, .ref 144, J li, .ref 145, J wk, J we]).set k v = [J c', .ref 138, .ref 139, J io', J mo', .ref 140, J fa', J pl', J ns', .ref 141, J rw', J en', .ref 142, .ref 143, J wy', J wh', J bi', J ed', J sz', J md', J bd', .ref 144, J li', .ref 145, J wk', J we']) (hr : -2147483648 ≤ c' ∧ c' ≤ 2147483647 ∧ 0 ≤ io' ∧ io' ≤ 1 ∧ 0 ≤ mo' ∧ mo' ≤ 6 ∧ -2147483648 ≤ fa' ∧ fa' ≤ 2147483647 ∧ -2147483648 ≤ pl' ∧ pl' ≤ 2147483647 ∧ 0 ≤ ns' ∧ ns' ≤ 40 ∧ 0 ≤ rw' ∧ rw' ≤ 4 ∧ 0 ≤ en' ∧ en' ≤ 64 ∧ -2147483648 ≤ wy' ∧ wy' ≤ 2147483647 ∧ -2147483648 ≤ wh' ∧ wh' ≤ 2147483647 ∧ -2147483648 ≤ bi' ∧ bi' ≤ 2147483647 ∧ -2147483648 ≤ ed' ∧ ed' ≤ 2147483647 ∧ -2147483648 ≤ sz' ∧ sz' ≤ 2147483647 ∧ -2147483648 ≤ md' ∧ md' ≤ 2147483647 ∧ 0 ≤ bd' ∧ bd' ≤ 1 ∧ 0 ≤ li' ∧ li' ≤ 6 ∧ -2147483648 ≤ wk' ∧ wk' ≤ 2147483647 ∧ -2147483648 ≤ we' ∧ we' ≤ 2147483647) (g : ∀ σ' : qH, MS σ' c' io' mo' fa' pl' ns' rw' en' wy' wh' bi' ed' sz' md' bd' li' wk' we' Lc la lm ln lh ld lk lt → FM σ σ' → T ξ d j (pc + 3) lv r σ' Q) : T ξ d j pc lv (v :: .ref 137 :: r) σ Q :=
  T.put hf hl h.ob hk hv hn he (g _ (h.set hr) (FM.set h.ob rfl (by decide)))
theorem T.mlast (h : MS σ c io mo fa pl ns rw en wy wh bi ed sz md bd li wk we Lc la lm ln lh ld lk lt) (hf : qfe j pc = some (.lastore, 1)) (hx : 0 ≤ x ∧ x < 7000) (g : ∀ σ' : qH, MS σ' c io mo fa pl ns rw en wy wh bi ed sz md bd li wk we (Lc.set x.toNat (Int64.ofInt y)) la lm ln lh ld lk lt → FM σ σ' → T ξ d j (pc + 1) lv r σ' Q) : T ξ d j pc lv (JL y :: J x :: .ref 138 :: r) σ Q :=
  T.last hf h.c138 (by have := h.len.1; omega) (g _ (h.setL (by rw [List.length_set]; exact h.len.1)) (FM.set h.c138 (by simp only [kdc, List.length_set]) (by decide)))
theorem T.mast139 (h : MS σ c io mo fa pl ns rw en wy wh bi ed sz md bd li wk we Lc la lm ln lh ld lk lt) (hf : qfe j pc = some (.iastore, 1)) (hx : 0 ≤ x ∧ x < 7) (hy : 0 ≤ y ∧ y ≤ 8000) (g : ∀ σ' : qH, MS σ' c io mo fa pl ns rw en wy wh bi ed sz md bd li wk we Lc (la.set x.toNat (Int32.ofInt y)) lm ln lh ld lk lt → FM σ σ' → T ξ d j (pc + 1) lv r σ' Q) : T ξ d j pc lv (J y :: J x :: .ref 139 :: r) σ Q :=
  T.iast hf h.c139 (by have := h.len.2.1; omega) (g _ (h.set139 (by rw [List.length_set]; exact h.len.2.1) (h.b139.set (by decide) hy (by omega))) (FM.set h.c139 (by simp only [kdc, List.length_set]) (by decide)))
theorem T.mast140 (h : MS σ c io mo fa pl ns rw en wy wh bi ed sz md bd li wk we Lc la lm ln lh ld lk lt) (hf : qfe j pc = some (.iastore, 1)) (hx : 0 ≤ x ∧ x < 6) (hy : 0 ≤ y ∧ y ≤ 63) (g : ∀ σ' : qH, MS σ' c io mo fa pl ns rw en wy wh bi ed sz md bd li wk we Lc la (lm.set x.toNat (Int32.ofInt y)) ln lh ld lk lt → FM σ σ' → T ξ d j (pc + 1) lv r σ' Q) : T ξ d j pc lv (J y :: J x :: .ref 140 :: r) σ Q :=
  T.iast hf h.c140 (by have := h.len.2.2.1; omega) (g _ (h.set140 (by rw [List.length_set]; exact h.len.2.2.1) (h.b140.set (by decide) hy (by omega))) (FM.set h.c140 (by simp only [kdc, List.length_set]) (by decide)))
theorem T.mast141 (h : MS σ c io mo fa pl ns rw en wy wh bi ed sz md bd li wk we Lc la lm ln lh ld lk lt) (hf : qfe j pc = some (.iastore, 1)) (hx : 0 ≤ x ∧ x < 40) (g : ∀ σ' : qH, MS σ' c io mo fa pl ns rw en wy wh bi ed sz md bd li wk we Lc la lm (ln.set x.toNat (Int32.ofInt y)) lh ld lk lt → FM σ σ' → T ξ d j (pc + 1) lv r σ' Q) : T ξ d j pc lv (J y :: J x :: .ref 141 :: r) σ Q :=
  T.iast hf h.c141 (by have := h.len.2.2.2.1; omega) (g _ (h.set141 (by rw [List.length_set]; exact h.len.2.2.2.1)) (FM.set h.c141 (by simp only [kdc, List.length_set]) (by decide)))
theorem T.mast142 (h : MS σ c io mo fa pl ns rw en wy wh bi ed sz md bd li wk we Lc la lm ln lh ld lk lt) (hf : qfe j pc = some (.iastore, 1)) (hx : 0 ≤ x ∧ x < 64) (hy : 0 ≤ y ∧ y ≤ 8000) (g : ∀ σ' : qH, MS σ' c io mo fa pl ns rw en wy wh bi ed sz md bd li wk we Lc la lm ln (lh.set x.toNat (Int32.ofInt y)) ld lk lt → FM σ σ' → T ξ d j (pc + 1) lv r σ' Q) : T ξ d j pc lv (J y :: J x :: .ref 142 :: r) σ Q :=
  T.iast hf h.c142 (by have := h.len.2.2.2.2.1; omega) (g _ (h.set142 (by rw [List.length_set]; exact h.len.2.2.2.2.1) (h.b142.set (by decide) hy (by omega))) (FM.set h.c142 (by simp only [kdc, List.length_set]) (by decide)))
theorem T.mast143 (h : MS σ c io mo fa pl ns rw en wy wh bi ed sz md bd li wk we Lc la lm ln lh ld lk lt) (hf : qfe j pc = some (.iastore, 1)) (hx : 0 ≤ x ∧ x < 64) (g : ∀ σ' : qH, MS σ' c io mo fa pl ns rw en wy wh bi ed sz md bd li wk we Lc la lm ln lh (ld.set x.toNat (Int32.ofInt y)) lk lt → FM σ σ' → T ξ d j (pc + 1) lv r σ' Q) : T ξ d j pc lv (J y :: J x :: .ref 143 :: r) σ Q :=
  T.iast hf h.c143 (by have := h.len.2.2.2.2.2.1; omega) (g _ (h.set143 (by rw [List.length_set]; exact h.len.2.2.2.2.2.1)) (FM.set h.c143 (by simp only [kdc, List.length_set]) (by decide)))
theorem T.mast144 (h : MS σ c io mo fa pl ns rw en wy wh bi ed sz md bd li wk we Lc la lm ln lh ld lk lt) (hf : qfe j pc = some (.iastore, 1)) (hx : 0 ≤ x ∧ x < 360) (g : ∀ σ' : qH, MS σ' c io mo fa pl ns rw en wy wh bi ed sz md bd li wk we Lc la lm ln lh ld (lk.set x.toNat (Int32.ofInt y)) lt → FM σ σ' → T ξ d j (pc + 1) lv r σ' Q) : T ξ d j pc lv (J y :: J x :: .ref 144 :: r) σ Q :=
  T.iast hf h.c144 (by have := h.len.2.2.2.2.2.2.1; omega) (g _ (h.set144 (by rw [List.length_set]; exact h.len.2.2.2.2.2.2.1)) (FM.set h.c144 (by simp only [kdc, List.length_set]) (by decide)))
theorem T.mast145 (h : MS σ c io mo fa pl ns rw en wy wh bi ed sz md bd li wk we Lc la lm ln lh ld lk lt) (hf : qfe j pc = some (.iastore, 1)) (hx : 0 ≤ x ∧ x < 6) (hy : 0 ≤ y ∧ y ≤ 63) (g : ∀ σ' : qH, MS σ' c io mo fa pl ns rw en wy wh bi ed sz md bd li wk we Lc la lm ln lh ld lk (lt.set x.toNat (Int32.ofInt y)) → FM σ σ' → T ξ d j (pc + 1) lv r σ' Q) : T ξ d j pc lv (J y :: J x :: .ref 145 :: r) σ Q :=
  T.iast hf h.c145 (by have := h.len.2.2.2.2.2.2.2; omega) (g _ (h.set145 (by rw [List.length_set]; exact h.len.2.2.2.2.2.2.2) (h.b145.set (by decide) hy (by omega))) (FM.set h.c145 (by simp only [kdc, List.length_set]) (by decide)))
end
