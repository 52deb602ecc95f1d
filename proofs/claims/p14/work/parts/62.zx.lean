/-! Entries by name; the lines of an index. -/
theorem LK_eq {g h hs hs' : Int → Int} {x n : Int} : ∀ {m : Nat}, (∀ j : Int, 0 ≤ j → j < m → hs j = hs' j) → LK g h hs x n m = LK g h hs' x n m
  | 0, _ => rfl
  | m + 1, e => by
    show (if LK g h hs x n m ≠ -1 then LK g h hs x n m else if W2 g (hs m + 28) = n ∧ EQ2 g h (hs m + 46) x n.toNat = 1 then (m : Int) else -1) = (if LK g h hs' x n m ≠ -1 then LK g h hs' x n m else if W2 g (hs' m + 28) = n ∧ EQ2 g h (hs' m + 46) x n.toNat = 1 then (m : Int) else -1)
    rw [LK_eq (m := m) (fun j a b => e j a (by omega)), e m (by omega) (by omega)]
theorem LK_no {g h hs : Int → Int} {x n : Int} : ∀ {m : Nat}, LK g h hs x n m = -1 → ∀ j : Int, 0 ≤ j → j < m → ¬ (W2 g (hs j + 28) = n ∧ EQ2 g h (hs j + 46) x n.toNat = 1)
  | 0, _, j, a, b => absurd b (by omega)
  | m + 1, e, j, a, b => by
    have e' : (if LK g h hs x n m ≠ -1 then LK g h hs x n m else if W2 g (hs m + 28) = n ∧ EQ2 g h (hs m + 46) x n.toNat = 1 then (m : Int) else -1) = -1 := e
    by_cases q : LK g h hs x n m = -1
    · rw [if_neg (fun z => z q)] at e'
      by_cases jm : j = m
      · subst jm
        intro u
        rw [if_pos u] at e'
        omega
      · exact LK_no (m := m) q j a (by omega)
    · rw [if_pos q] at e'
      exact absurd e' q
theorem LK_is {g h hs : Int → Int} {x n : Int} : ∀ {m : Nat}, LK g h hs x n m ≠ -1 → 0 ≤ LK g h hs x n m ∧ LK g h hs x n m < m ∧ W2 g (hs (LK g h hs x n m) + 28) = n ∧ EQ2 g h (hs (LK g h hs x n m) + 46) x n.toNat = 1
  | 0, e => absurd rfl e
  | m + 1, e => by
    by_cases q : LK g h hs x n m = -1
    · by_cases u : W2 g (hs m + 28) = n ∧ EQ2 g h (hs m + 46) x n.toNat = 1
      · have e' : LK g h hs x n (m + 1) = m := by
          show (if LK g h hs x n m ≠ -1 then LK g h hs x n m else if W2 g (hs m + 28) = n ∧ EQ2 g h (hs m + 46) x n.toNat = 1 then (m : Int) else -1) = m
          rw [if_neg (fun z => z q), if_pos u]
        rw [e']
        exact ⟨by omega, by omega, u.1, u.2⟩
      · have e' : LK g h hs x n (m + 1) = -1 := by
          show (if LK g h hs x n m ≠ -1 then LK g h hs x n m else if W2 g (hs m + 28) = n ∧ EQ2 g h (hs m + 46) x n.toNat = 1 then (m : Int) else -1) = -1
          rw [if_neg (fun z => z q), if_neg u]
        exact absurd e' e
    · have e' : LK g h hs x n (m + 1) = LK g h hs x n m := if_pos q
      rw [e']
      have := LK_is (m := m) q
      exact ⟨this.1, by omega, this.2.2⟩
theorem EQ2_tr {g u : Int → Int} {a b s : Int} : ∀ {n : Nat}, EQ2 g u a s n = 1 → EQ2 g u b s n = 1 → EQn g a b n = 1
  | 0, _, _ => rfl
  | n + 1, h1, h2 => by
    have h1' : (if EQ2 g u a s n = 1 ∧ g (a + n) = u (s + n) then (1 : Int) else 0) = 1 := h1
    have h2' : (if EQ2 g u b s n = 1 ∧ g (b + n) = u (s + n) then (1 : Int) else 0) = 1 := h2
    by_cases q1 : EQ2 g u a s n = 1 ∧ g (a + n) = u (s + n)
    · by_cases q2 : EQ2 g u b s n = 1 ∧ g (b + n) = u (s + n)
      · show (if EQn g a b n = 1 ∧ g (a + n) = g (b + n) then (1 : Int) else 0) = 1
        rw [if_pos ⟨EQ2_tr q1.1 q2.1, q1.2.trans q2.2.symm⟩]
      · rw [if_neg q2] at h2'
        exact absurd h2' (by decide)
    · rw [if_neg q1] at h1'
      exact absurd h1' (by decide)
/-- entry y of the archive has the name that u has from s on, n letters -/
def NMD (g : Int → Int) (f : Int) (u : Int → Int) (s n y : Int) : Prop := 0 ≤ y ∧ y < NEf g f ∧ W2 g (Hj g f y + 28) = n ∧ EQ2 g u (Hj g f y + 46) s n.toNat = 1
theorem NR_dp {g hs : Int → Int} {x : Int} (h : NRn g hs x = 1) : DPn g hs x x.toNat = 0 := by
  unfold NRn at h
  split at h
  · rename_i q
    exact q.2.2.2
  · exact absurd h (by decide)
theorem NMD_lt {g u : Int → Int} {f s n y y' : Int} (q : FOn g f = 1) (h : NMD g f u s n y) (h' : NMD g f u s n y') (l : y < y') : False := by
  obtain ⟨-, -, -, -, -, -, -, a8, -⟩ := FO_un q
  obtain ⟨h1, h2, h3, h4⟩ := h
  obtain ⟨k1, k2, k3, k4⟩ := h'
  obtain ⟨-, -, -, -, v5, -⟩ := VK_un (AV_all _ a8 y' k1 (by unfold NEf at k2; omega))
  have d0 := NR_dp v5
  have sn : SNn g (hsf g (EN g f - W4 g (EN g f + 12)) y) (hsf g (EN g f - W4 g (EN g f + 12)) y') = 1 := by
    unfold SNn
    rw [if_pos (show W2 g (hsf g (EN g f - W4 g (EN g f + 12)) y + 28) = W2 g (hsf g (EN g f - W4 g (EN g f + 12)) y' + 28) from h3.trans k3.symm)]
    rw [show W2 g (hsf g (EN g f - W4 g (EN g f + 12)) y + 28) = n from h3]
    exact EQ2_tr h4 k4
  have d1 : DPn g (hsf g (EN g f - W4 g (EN g f + 12))) y' (y + 1).toNat = 1 := by
    rw [DPn_step h1, if_pos (Or.inr sn)]
  have d2 := DPn_yes d1 (show (y + 1).toNat ≤ y'.toNat by omega)
  rw [d2] at d0
  exact absurd d0 (by decide)
theorem NMD_one {g u : Int → Int} {f s n y y' : Int} (q : FOn g f = 1) (h : NMD g f u s n y) (h' : NMD g f u s n y') : y = y' := by
  have l1 : ¬ y < y' := fun l => NMD_lt q h h' l
  have l2 : ¬ y' < y := fun l => NMD_lt q h' h l
  omega
/-- what looking up finds -/
theorem LK_nmd {g u hs : Int → Int} {f s n e : Int} (he : e = NEf g f) (h0 : 0 ≤ e) (hh : ∀ j : Int, 0 ≤ j → j < NEf g f → hs j = Hj g f j) : (LK g u hs s n e.toNat ≠ -1 → NMD g f u s n (LK g u hs s n e.toNat)) ∧ (LK g u hs s n e.toNat = -1 → ∀ y : Int, ¬ NMD g f u s n y) := by
  have e1 : LK g u hs s n e.toNat = LK g u (Hj g f) s n e.toNat := LK_eq (fun j a b => hh j a (by omega))
  rw [e1]
  refine ⟨fun h => ?_, fun h y q => ?_⟩
  · have q := LK_is h
    exact ⟨q.1, by omega, q.2.2⟩
  · exact LK_no h y q.1 (by have := q.2.1; have := q.1; omega) q.2.2
/-- a line of an index: - "name" and the line's end, n letters -/
def LNE (u : Int → Int) (f a n : Int) : Prop := 1 ≤ n ∧ a + n + 4 < f ∧ u a = 45 ∧ u (a + 1) = 32 ∧ u (a + 2) = 34 ∧ (∀ k : Int, 0 ≤ k → k < n → u (a + 3 + k) ≠ 34 ∧ u (a + 3 + k) ≠ 10) ∧ u (a + 3 + n) = 34 ∧ u (a + 4 + n) = 10
theorem LNE_one {u : Int → Int} {f a n m : Int} (h : LNE u f a n) (h' : LNE u f a m) : n = m := by
  have h1 := h.1
  have h2 := h'.1
  have l1 : ¬ n < m := fun l => (h'.2.2.2.2.2.1 n (by omega) l).1 h.2.2.2.2.2.2.1
  have l2 : ¬ m < n := fun l => (h.2.2.2.2.2.1 m (by omega) l).1 h'.2.2.2.2.2.2.1
  omega
/-- neither " nor a line's end -/
def NQ (u : Int → Int) (a k : Int) : Prop := ∀ j : Int, a ≤ j → j < k → u j ≠ 34 ∧ u j ≠ 10
theorem NQ_0 {u : Int → Int} {a : Int} : NQ u a a := fun j h1 h2 => absurd h1 (by omega)
theorem NQ_s {u : Int → Int} {a k : Int} (h : NQ u a k) (h1 : u k ≠ 34) (h2 : u k ≠ 10) : NQ u a (k + 1) := fun j a1 a2 => by
  by_cases q : j = k
  · rw [q]
    exact ⟨h1, h2⟩
  · exact h j a1 (by omega)
theorem LNE_mk {u : Int → Int} {f a k : Int} (h0 : 1 ≤ k - a - 3) (h1 : k + 1 < f) (h2 : u a = 45) (h3 : u (a + 1) = 32) (h4 : u (a + 2) = 34) (hq : NQ u (a + 3) k) (h5 : u k = 34) (h6 : u (k + 1) = 10) : LNE u f a (k - a - 3) := by
  refine ⟨h0, by omega, h2, h3, h4, fun j a1 a2 => hq _ (by omega) (by omega), ?_, ?_⟩
  · rw [show a + 3 + (k - a - 3) = k by omega]
    exact h5
  · rw [show a + 4 + (k - a - 3) = k + 1 by omega]
    exact h6
theorem LNE_stop {u : Int → Int} {f a k n : Int} (hq : NQ u (a + 3) k) (hk : a + 3 ≤ k) (h : LNE u f a n) : (k = a + 3 + n ∧ u k = 34 ∧ u (k + 1) = 10 ∧ k + 1 < f) ∨ (k < a + 3 + n ∧ u k ≠ 34 ∧ u k ≠ 10 ∧ k < f) := by
  obtain ⟨h1, h2, -, -, -, h6, h7, h8⟩ := h
  have l1 : ¬ a + 3 + n < k := fun l => (hq _ (by omega) l).1 h7
  by_cases q : k = a + 3 + n
  · refine Or.inl ⟨q, ?_, ?_, by omega⟩
    · rw [q]
      exact h7
    · rw [q, show a + 3 + n + 1 = a + 4 + n by omega]
      exact h8
  · have h9 := h6 (k - a - 3) (by omega) (by omega)
    rw [show a + 3 + (k - a - 3) = k by omega] at h9
    exact Or.inr ⟨by omega, h9.1, h9.2, by omega⟩
theorem at_or {g : Int → Int} {z x L : Int} (h0 : 0 ≤ x) (p0 : 0 ≤ x → x < L → z = g x) (p1 : x < 0 ∨ L ≤ x → z = -1) : (z = -1 ∧ L ≤ x) ∨ (z = g x ∧ x < L) := by
  by_cases q : x < L
  · exact Or.inr ⟨p0 h0 q, q⟩
  · exact Or.inl ⟨p1 (Or.inr (by omega)), by omega⟩
/-- so many lines end at a -/
def LNA (u : Int → Int) (f : Int) : Nat → Int → Prop
  | 0, a => a = 0
  | i + 1, a => ∃ b n : Int, LNA u f i b ∧ LNE u f b n ∧ a = b + n + 5
theorem LNA_one {u : Int → Int} {f : Int} : ∀ {i : Nat} {a b : Int}, LNA u f i a → LNA u f i b → a = b
  | 0, a, b, h, h' => by
    have h1 : a = 0 := h
    have h2 : b = 0 := h'
    omega
  | i + 1, a, b, h, h' => by
    obtain ⟨c, n, h1, h2, h3⟩ := h
    obtain ⟨c', n', h1', h2', h3'⟩ := h'
    have e := LNA_one h1 h1'
    subst e
    have e2 := LNE_one h2 h2'
    omega
theorem LNA_r {u : Int → Int} {f : Int} (h0 : 0 ≤ f) : ∀ {i : Nat} {a : Int}, LNA u f i a → 0 ≤ a ∧ a ≤ f
  | 0, a, h => by
    have h1 : a = 0 := h
    omega
  | i + 1, a, h => by
    obtain ⟨c, n, h1, h2, h3⟩ := h
    have h4 := LNA_r h0 h1
    have h5 := h2.1
    have h6 := h2.2.1
    omega
theorem LNA_lt {u : Int → Int} {f : Int} : ∀ {m i : Nat} {e : Int}, LNA u f m e → i < m → ∃ b n : Int, LNA u f i b ∧ LNE u f b n
  | 0, i, e, _, l => absurd l (by omega)
  | m + 1, i, e, h, l => by
    obtain ⟨c, n, h1, h2, -⟩ := h
    by_cases q : i = m
    · subst q
      exact ⟨c, n, h1, h2⟩
    · exact LNA_lt h1 (by omega)
theorem LNA_no1 {u : Int → Int} {f x : Int} {k m : Nat} (h : LNA u f k x) (hx : x < f) (l : m ≤ k) : ¬ LNA u f m f := fun h' => by
  by_cases q : m = k
  · subst q
    have := LNA_one h h'
    omega
  · obtain ⟨b, n, h1, h2⟩ := LNA_lt h (show m < k by omega)
    have e := LNA_one h1 h'
    have h3 := h2.2.1
    have h4 := h2.1
    omega
theorem LNA_no2 {u : Int → Int} {f x : Int} {k m : Nat} (h : LNA u f k x) (hx : x < f) (hn : ∀ n : Int, ¬ LNE u f x n) : ¬ LNA u f m f := fun h' => by
  by_cases l : m ≤ k
  · exact LNA_no1 h hx l h'
  · obtain ⟨b, n, h1, h2⟩ := LNA_lt h' (show k < m by omega)
    have e := LNA_one h1 h
    subst e
    exact hn n h2
theorem LNA_end {u : Int → Int} {f : Int} {n m : Nat} (h : LNA u f n f) (h' : LNA u f m f) : n = m := by
  by_cases l : n < m
  · obtain ⟨b, k, h1, h2⟩ := LNA_lt h' l
    have e := LNA_one h1 h
    have h3 := h2.2.1
    have h4 := h2.1
    omega
  · by_cases l2 : m < n
    · obtain ⟨b, k, h1, h2⟩ := LNA_lt h l2
      have e := LNA_one h1 h'
      have h3 := h2.2.1
      have h4 := h2.1
      omega
    · omega
/-- where the names of the first k lines begin, and how long they are -/
def LNI (u : Int → Int) (f : Int) (l1 l2 : List Int32) (k : Int) : Prop := ∀ i : Int, 0 ≤ i → i < k → ∃ b n : Int, LNA u f i.toNat b ∧ LNE u f b n ∧ gl l1 i = b + 3 ∧ gl l2 i = n
theorem LNI_0 {u : Int → Int} {f : Int} {l1 l2 : List Int32} : LNI u f l1 l2 0 := fun i a b => absurd b (by omega)
theorem LNI_s {u : Int → Int} {f x n k : Int} {l1 l2 l1' l2' : List Int32} (h : LNI u f l1 l2 k) (hk : 0 ≤ k) (ha : LNA u f k.toNat x) (he : LNE u f x n) (e1 : ∀ j : Int, 0 ≤ j → gl l1' j = if j = k then x + 3 else gl l1 j) (e2 : ∀ j : Int, 0 ≤ j → gl l2' j = if j = k then n else gl l2 j) : LNI u f l1' l2' (k + 1) := fun i a b => by
  by_cases q : i = k
  · subst q
    exact ⟨x, n, ha, he, by rw [e1 i a, if_pos rfl], by rw [e2 i a, if_pos rfl]⟩
  · obtain ⟨b', n', h1, h2, h3, h4⟩ := h i a (by omega)
    exact ⟨b', n', h1, h2, by rw [e1 i a, if_neg q]; exact h3, by rw [e2 i a, if_neg q]; exact h4⟩
theorem LNA_s {u : Int → Int} {f x n k : Int} (hk : 0 ≤ k) (ha : LNA u f k.toNat x) (he : LNE u f x n) : LNA u f (k + 1).toNat (x + (n + 5)) := by
  rw [show (k + 1).toNat = k.toNat + 1 by omega]
  exact ⟨x, n, ha, he, by omega⟩
/-- index.txt -/
def ixn (k : Int) : Int := if k = 0 then 105 else if k = 1 then 110 else if k = 2 then 100 else if k = 3 then 101 else if k = 4 then 120 else if k = 5 then 46 else if k = 6 then 116 else if k = 7 then 120 else if k = 8 then 116 else 0
/-- u is what stands in index.txt -/
def IXU (g : Int → Int) (f : Int) (y : Int) (u : Int → Int) : Prop := NMD g f ixn 0 9 y ∧ RD g (Hj g f y) (Dj g f y) u
/-- y is the entry of line i -/
def IXE (g : Int → Int) (f : Int) (i y : Int) : Prop := ∃ (w : Int) (u : Int → Int) (b n : Int), IXU g f w u ∧ LNA u (W4 g (Hj g f w + 24)) i.toNat b ∧ LNE u (W4 g (Hj g f w + 24)) b n ∧ NMD g f u (b + 3) n y
theorem IXE_one {g : Int → Int} {f i y y' : Int} (q : FOn g f = 1) (h : IXE g f i y) (h' : IXE g f i y') : y = y' := by
  obtain ⟨w, u, b, n, ⟨h1, h2⟩, h3, h4, h5⟩ := h
  obtain ⟨w', u', b', n', ⟨h1', h2'⟩, h3', h4', h5'⟩ := h'
  have e1 := NMD_one q h1 h1'
  subst e1
  have e2 := RD_one h2 h2'
  subst e2
  have e3 := LNA_one h3 h3'
  subst e3
  have e4 := LNE_one h4 h4'
  subst e4
  exact NMD_one q h5 h5'
/-- the index can be mounted: n lines -/
def IDX (g : Int → Int) (f : Int) (n : Int) : Prop := 0 ≤ n ∧ n ≤ 6 ∧ (∃ (w : Int) (u : Int → Int), IXU g f w u ∧ LNA u (W4 g (Hj g f w + 24)) n.toNat (W4 g (Hj g f w + 24))) ∧ ∀ i : Int, 0 ≤ i → i < n → ∃ (y : Int) (o : Int → Int), IXE g f i y ∧ MNT g f y o
theorem IDX_one {g : Int → Int} {f n m : Int} (q : FOn g f = 1) (h : IDX g f n) (h' : IDX g f m) : n = m := by
  obtain ⟨a1, -, ⟨w, u, ⟨h1, h2⟩, h3⟩, -⟩ := h
  obtain ⟨b1, -, ⟨w', u', ⟨h1', h2'⟩, h3'⟩, -⟩ := h'
  have e1 := NMD_one q h1 h1'
  subst e1
  have e2 := RD_one h2 h2'
  subst e2
  have e3 := LNA_end h3 h3'
  omega
/-- no such line there -/
def NLN (u : Int → Int) (f x : Int) : Prop := ∀ n : Int, ¬ LNE u f x n
/-- no index of six lines at most -/
def NLA (u : Int → Int) (f : Int) : Prop := ∀ m : Nat, m ≤ 6 → ¬ LNA u f m f
/-- n lines, all told -/
def LOK (u : Int → Int) (f : Int) (l1 l2 : List Int32) (n : Int) : Prop := LNA u f n.toNat f ∧ 0 ≤ n ∧ n ≤ 6 ∧ LNI u f l1 l2 n
