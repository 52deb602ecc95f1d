/-! The model's index. -/
theorem LNE_c {u u' : Int → Int} {f a n : Int} (h : ∀ k : Int, 0 ≤ k → k < f → u k = u' k) (h0 : 0 ≤ a) (q : LNE u f a n) : LNE u' f a n := by
  obtain ⟨h1, h2, h3, h4, h5, h6, h7, h8⟩ := q
  refine ⟨h1, h2, ?_, ?_, ?_, fun k b c => ?_, ?_, ?_⟩
  · rw [← h a h0 (by omega)]; exact h3
  · rw [← h (a + 1) (by omega) (by omega)]; exact h4
  · rw [← h (a + 2) (by omega) (by omega)]; exact h5
  · rw [← h (a + 3 + k) (by omega) (by omega)]; exact h6 k b c
  · rw [← h (a + 3 + n) (by omega) (by omega)]; exact h7
  · rw [← h (a + 4 + n) (by omega) (by omega)]; exact h8
theorem EQ2_c {g u u' : Int → Int} {f a s : Int} (h : ∀ k : Int, 0 ≤ k → k < f → u k = u' k) (h0 : 0 ≤ s) : ∀ {n : Nat}, s + n ≤ f → EQ2 g u a s n = EQ2 g u' a s n
  | 0, _ => rfl
  | n + 1, l => by
    show (if EQ2 g u a s n = 1 ∧ g (a + n) = u (s + n) then (1 : Int) else 0) = (if EQ2 g u' a s n = 1 ∧ g (a + n) = u' (s + n) then (1 : Int) else 0)
    rw [EQ2_c h h0 (n := n) (by omega), h (s + n) (by omega) (by omega)]
theorem NMD_c {g u u' : Int → Int} {f f' s n y : Int} (h : ∀ k : Int, 0 ≤ k → k < f' → u k = u' k) (h0 : 0 ≤ s) (hn : 0 ≤ n) (hl : s + n ≤ f') (q : NMD g f u s n y) : NMD g f u' s n y := by
  obtain ⟨h1, h2, h3, h4⟩ := q
  exact ⟨h1, h2, h3, by rw [← EQ2_c h h0 (by omega)]; exact h4⟩
theorem NLN_10 {u : Int → Int} {f x : Int} (h : N10 u x f) (h0 : 0 ≤ x) : NLN u f x := fun n q => by
  obtain ⟨h1, h2, -, -, -, -, -, h8⟩ := q
  exact h (x + 4 + n) (by omega) (by omega) h8
theorem N10_0 {u : Int → Int} {x : Int} : N10 u x x := fun j a b => absurd a (by omega)
theorem N10_s {u : Int → Int} {x k : Int} (h : N10 u x k) (h1 : u k ≠ 10) : N10 u x (k + 1) := fun j a b => by
  by_cases q : j = k
  · rw [q]
    exact h1
  · exact h j a (by omega)
/-- the first lines are read and mounted: v has the index -/
def IXR (g : Int → Int) (f : Int) (v : Int → Int) (fv : Int) (lt : List Int32) (li a : Int) : Prop := ∃ (w : Int) (u : Int → Int), IXU g f w u ∧ fv = W4 g (Hj g f w + 24) ∧ (∀ k : Int, 0 ≤ k → k < fv → v k = u k) ∧ LNA u fv li.toNat a ∧ ∀ i : Int, 0 ≤ i → i < li → IXE g f i (gl lt i) ∧ MOK g f (gl lt i)
theorem IXR_one {g : Int → Int} {f w w' : Int} {u u' : Int → Int} (q0 : FOn g f = 1) (h : IXU g f w u) (h' : IXU g f w' u') : w = w' ∧ u = u' := by
  have e := NMD_one q0 h.1 h'.1
  subst e
  exact ⟨rfl, RD_one h.2 h'.2⟩
/-- an index that mounts goes on behind a line that begins before its end -/
theorem IDX_gt {g v : Int → Int} {f fv li a n : Int} {lt : List Int32} (q0 : FOn g f = 1) (h : IXR g f v fv lt li a) (ha : a < fv) (h0 : 0 ≤ li) (q : IDX g f n) : li < n ∧ ∃ (y m : Int) (o u : Int → Int), (∀ k : Int, 0 ≤ k → k < fv → v k = u k) ∧ LNE u fv a m ∧ NMD g f u (a + 3) m y ∧ MNT g f y o := by
  obtain ⟨w, u, h1, h2, h3, h4, -⟩ := h
  obtain ⟨b1, b2, ⟨w', u', c1, c2⟩, b4⟩ := q
  obtain ⟨e1, e2⟩ := IXR_one q0 h1 c1
  subst e1
  subst e2
  rw [← h2] at c2
  have l : ¬ n.toNat ≤ li.toNat := fun l => LNA_no1 h4 ha l c2
  have l2 : li < n := by omega
  obtain ⟨y, o, ⟨w2, u2, a2, m2, d1, d2, d3, d4⟩, d5⟩ := b4 li h0 l2
  obtain ⟨e1, e2⟩ := IXR_one q0 h1 d1
  subst e1
  subst e2
  rw [← h2] at d2 d3
  have e3 := LNA_one h4 d2
  subst e3
  exact ⟨l2, y, m2, o, u, h3, d3, d4, d5⟩
theorem IXR_no {g v : Int → Int} {f fv li a : Int} {lt : List Int32} (q0 : FOn g f = 1) (h : IXR g f v fv lt li a) (ha : a < fv) (ha0 : 0 ≤ a) (h0 : 0 ≤ li) (q : LW1 g f v fv a li) : NIX g f := fun n k => by
  obtain ⟨l, y, m, o, u, e, k1, k2, k3⟩ := IDX_gt q0 h ha h0 k
  have k1' : LNE v fv a m := LNE_c (fun k b c => (e k b c).symm) ha0 k1
  have l1 := k1.1
  have l2 := k1.2.1
  rcases q with q | q | ⟨m', q1, q2⟩ | ⟨m', y', q1, q2, q3⟩
  · have := k.2.1
    omega
  · exact q m k1'
  · have e2 := LNE_one k1' q1
    subst e2
    exact q2 y (NMD_c (fun k b c => (e k b c).symm) (by omega) (by omega) (by omega) k2)
  · have e2 := LNE_one k1' q1
    subst e2
    have e3 := NMD_one q0 q2 (NMD_c (fun k b c => (e k b c).symm) (by omega) (by omega) (by omega) k2)
    subst e3
    exact q3 o k3
theorem IXR_s {g v v' : Int → Int} {f fv fv' li a t : Int} {lt lt' : List Int32} (h : IXR g f v fv lt li a) (ha0 : 0 ≤ a) (h0 : 0 ≤ li) (q : LW0 g f v fv a t (gl lt' li)) (hl : ∀ j : Int, 0 ≤ j → j < li → gl lt' j = gl lt j) (ev : v' = v) (ef : fv' = fv) : IXR g f v' fv' lt' (li + 1) (t + 1) := by
  subst ev
  subst ef
  obtain ⟨w, u, h1, h2, h3, h4, h5⟩ := h
  obtain ⟨m, k1, k2, k3, k4⟩ := q
  have l1 := k1.1
  have l2 := k1.2.1
  have k1' := LNE_c h3 ha0 k1
  have k3' := NMD_c h3 (by omega) (by omega) (by omega) k3
  refine ⟨w, u, h1, h2, h3, ?_, fun i b c => ?_⟩
  · rw [show t + 1 = a + (m + 5) by omega]
    exact LNA_s h0 h4 k1'
  · by_cases e : i = li
    · subst e
      exact ⟨⟨w, u, a, m, h1, by rw [← h2]; exact h4, by rw [← h2]; exact k1', k3'⟩, k4⟩
    · rw [hl i b (by omega)]
      exact h5 i b (by omega)
/-- what the model lists -/
def IXM (g : Int → Int) (f : Int) (lt : List Int32) (li : Int) : Prop := IDX g f li ∧ ∀ i : Int, 0 ≤ i → i < li → IXE g f i (gl lt i) ∧ MOK g f (gl lt i)
theorem IXR_end {g v : Int → Int} {f fv li a : Int} {lt : List Int32} (h : IXR g f v fv lt li a) (ha : a = fv) (h0 : 0 ≤ li) (h6 : li ≤ 6) : IXM g f lt li := by
  subst ha
  obtain ⟨w, u, h1, h2, h3, h4, h5⟩ := h
  refine ⟨⟨h0, h6, ⟨w, u, h1, by rw [← h2]; exact h4⟩, fun i b c => ?_⟩, h5⟩
  obtain ⟨o, q⟩ := (h5 i b c).2
  exact ⟨gl lt i, o, (h5 i b c).1, q⟩
