/-! Rows that are the same up to their length are the same archive. -/
/-- where the data of the header h begin -/
def DT (g : Int → Int) (ba h : Int) : Int := ba + W4 g (h + 42) + 30 + W2 g (h + 28) + W2 g (ba + W4 g (h + 42) + 28)
section
variable {g g' : Int → Int} {f : Int}
theorem W2_c (h : ∀ k : Int, 0 ≤ k → k < f → g k = g' k) {k : Int} (h0 : 0 ≤ k) (h1 : k + 1 < f) : W2 g k = W2 g' k := by
  unfold W2
  rw [h k h0 (by omega), h (k + 1) (by omega) h1]
theorem W4_c (h : ∀ k : Int, 0 ≤ k → k < f → g k = g' k) {k : Int} (h0 : 0 ≤ k) (h1 : k + 3 < f) : W4 g k = W4 g' k := by
  unfold W4
  rw [W2_c h h0 (by omega), W2_c h (k := k + 2) (by omega) (by omega)]
theorem STn_c (h : ∀ k : Int, 0 ≤ k → k < f → g k = g' k) {k a b : Int} (h0 : 0 ≤ k) (h1 : k + 3 < f) : STn g k a b = STn g' k a b := by
  unfold STn
  rw [h k h0 (by omega), h (k + 1) (by omega) (by omega), h (k + 2) (by omega) (by omega), h (k + 3) (by omega) h1]
theorem EQn_c (h : ∀ k : Int, 0 ≤ k → k < f → g k = g' k) {a b : Int} (n : Nat) (ha : 0 ≤ a ∧ a + n ≤ f) (hb : 0 ≤ b ∧ b + n ≤ f) : EQn g a b n = EQn g' a b n := by
  induction n with
  | zero => rfl
  | succ n ih =>
    show (if EQn g a b n = 1 ∧ g (a + n) = g (b + n) then (1 : Int) else 0) = (if EQn g' a b n = 1 ∧ g' (a + n) = g' (b + n) then (1 : Int) else 0)
    rw [ih (by omega) (by omega), h (a + n) (by omega) (by omega), h (b + n) (by omega) (by omega)]
theorem LTn_c (h : ∀ k : Int, 0 ≤ k → k < f → g k = g' k) {a : Int} (n : Nat) (ha : 0 ≤ a ∧ a + n ≤ f) : LTn g a n = LTn g' a n := by
  induction n with
  | zero => rfl
  | succ n ih =>
    show (if LTn g a n = 1 ∧ 33 ≤ g (a + n) ∧ g (a + n) ≤ 126 then (1 : Int) else 0) = (if LTn g' a n = 1 ∧ 33 ≤ g' (a + n) ∧ g' (a + n) ≤ 126 then (1 : Int) else 0)
    rw [ih (by omega), h (a + n) (by omega) (by omega)]
theorem ER_c (h : ∀ k : Int, 0 ≤ k → k < f → g k = g' k) (n : Nat) (hn : (n : Int) + 21 ≤ f) : ER g f n = ER g' f n := by
  induction n with
  | zero => rfl
  | succ n ih =>
    show (if STn g n 5 6 = 1 ∧ W2 g ((n : Int) + 20) = f - n - 22 then (n : Int) else ER g f n) = (if STn g' n 5 6 = 1 ∧ W2 g' ((n : Int) + 20) = f - n - 22 then (n : Int) else ER g' f n)
    rw [STn_c h (by omega) (by omega), W2_c h (k := (n : Int) + 20) (by omega) (by omega), ih (by omega)]
theorem EN_c (h : ∀ k : Int, 0 ≤ k → k < f → g k = g' k) : EN g f = EN g' f := by
  unfold EN
  by_cases c : 21 ≤ f
  · exact ER_c h _ (by omega)
  · rw [show (f - 21).toNat = 0 by omega]
    rfl
theorem SNn_c (h : ∀ k : Int, 0 ≤ k → k < f → g k = g' k) (h255 : ∀ k, 0 ≤ g k ∧ g k ≤ 255) {a b : Int} (ha : 0 ≤ a ∧ a + 46 + W2 g (a + 28) ≤ f) (hb : 0 ≤ b ∧ b + 46 + W2 g (b + 28) ≤ f) : SNn g a b = SNn g' a b := by
  have w1 := W2_r h255 (a + 28)
  have w2 := W2_r h255 (b + 28)
  unfold SNn
  rw [← W2_c h (k := a + 28) (by omega) (by omega), ← W2_c h (k := b + 28) (by omega) (by omega)]
  by_cases c : W2 g (a + 28) = W2 g (b + 28)
  · rw [if_pos c, if_pos c]
    exact EQn_c h _ (by omega) (by omega)
  · rw [if_neg c, if_neg c]
theorem DPn_c (h : ∀ k : Int, 0 ≤ k → k < f → g k = g' k) (h255 : ∀ k, 0 ≤ g k ∧ g k ≤ 255) {hs : Int → Int} {x : Int} (n : Nat) (hj : ∀ j : Int, 0 ≤ j → j < n → 0 ≤ hs j ∧ hs j + 46 + W2 g (hs j + 28) ≤ f) (hx : 0 ≤ hs x ∧ hs x + 46 + W2 g (hs x + 28) ≤ f) : DPn g hs x n = DPn g' hs x n := by
  induction n with
  | zero => rfl
  | succ n ih =>
    show (if DPn g hs x n = 1 ∨ SNn g (hs n) (hs x) = 1 then (1 : Int) else 0) = (if DPn g' hs x n = 1 ∨ SNn g' (hs n) (hs x) = 1 then (1 : Int) else 0)
    rw [ih (fun j a b => hj j a (by omega)), SNn_c h h255 (hj n (by omega) (by omega)) hx]
/-- what is known of the first n entries -/
theorem AV_all {e dir ba : Int} (n : Nat) (h : AVn g e dir ba n = 1) : ∀ j : Int, 0 ≤ j → j < n → VKn g e dir ba j = 1 := by
  induction n with
  | zero => intro j a b; omega
  | succ n ih =>
    have h0 : (if AVn g e dir ba n = 1 ∧ VKn g e dir ba n = 1 then (1 : Int) else 0) = 1 := h
    by_cases c : AVn g e dir ba n = 1 ∧ VKn g e dir ba n = 1
    · intro j a b
      by_cases q : j = n
      · rw [q]; exact c.2
      · exact ih c.1 j a (by omega)
    · rw [if_neg c] at h0
      exact absurd h0 (by decide)
theorem VK_un {e dir ba k : Int} (h : VKn g e dir ba k = 1) : hsf g dir k + 46 ≤ e ∧ STn g (hsf g dir k) 1 2 = 1 ∧ W2 g (hsf g dir k + 34) = 0 ∧ NXn g (hsf g dir k) ≤ e ∧ NRn g (hsf g dir) k = 1 ∧ LRn g (hsf g dir k) (ba + W4 g (hsf g dir k + 42)) dir = 1 := by
  unfold VKn at h
  by_cases c : hsf g dir k + 46 ≤ e ∧ STn g (hsf g dir k) 1 2 = 1 ∧ W2 g (hsf g dir k + 34) = 0 ∧ NXn g (hsf g dir k) ≤ e ∧ NRn g (hsf g dir) k = 1 ∧ LRn g (hsf g dir k) (ba + W4 g (hsf g dir k + 42)) dir = 1
  · exact c
  · rw [if_neg c] at h
    exact absurd h (by decide)
theorem LR_un {h l dir : Int} (q : LRn g h l dir = 1) : l + 30 + W2 g (h + 28) ≤ dir ∧ STn g l 3 4 = 1 ∧ W2 g (l + 26) = W2 g (h + 28) ∧ EQn g (l + 30) (h + 46) (W2 g (h + 28)).toNat = 1 ∧ l + 30 + W2 g (h + 28) + W2 g (l + 28) + W4 g (h + 20) ≤ dir := by
  unfold LRn at q
  by_cases c : l + 30 + W2 g (h + 28) ≤ dir ∧ STn g l 3 4 = 1 ∧ W2 g (l + 26) = W2 g (h + 28) ∧ EQn g (l + 30) (h + 46) (W2 g (h + 28)).toNat = 1 ∧ l + 30 + W2 g (h + 28) + W2 g (l + 28) + W4 g (h + 20) ≤ dir
  · exact c
  · rw [if_neg c] at q
    exact absurd q (by decide)
theorem NR_un {hs : Int → Int} {x : Int} (q : NRn g hs x = 1) : 1 ≤ W2 g (hs x + 28) ∧ W2 g (hs x + 28) ≤ 40 ∧ LTn g (hs x + 46) (W2 g (hs x + 28)).toNat = 1 ∧ DPn g hs x x.toNat = 0 := by
  unfold NRn at q
  by_cases c : 1 ≤ W2 g (hs x + 28) ∧ W2 g (hs x + 28) ≤ 40 ∧ LTn g (hs x + 46) (W2 g (hs x + 28)).toNat = 1 ∧ DPn g hs x x.toNat = 0
  · exact c
  · rw [if_neg c] at q
    exact absurd q (by decide)
/-- headers lie within -/
theorem HS_in {e dir ba : Int} (h255 : ∀ k, 0 ≤ g k ∧ g k ≤ 255) (hd : 0 ≤ dir) (n : Nat) (h : AVn g e dir ba n = 1) (hn : dir ≤ e) : ∀ j : Nat, j ≤ n → 0 ≤ HS g dir j ∧ HS g dir j ≤ e := by
  intro j
  induction j with
  | zero => intro _; exact ⟨hd, hn⟩
  | succ j ih =>
    intro hj
    have h1 := ih (by omega)
    have h2 := (VK_un (AV_all n h j (by omega) (by omega))).2.2.2.1
    have e1 : hsf g dir (j : Int) = HS g dir j := rfl
    rw [e1] at h2
    have w1 := W2_r h255 (HS g dir j + 28)
    have w2 := W2_r h255 (HS g dir j + 30)
    have w3 := W2_r h255 (HS g dir j + 32)
    have h3 : HS g dir (j + 1) = NXn g (HS g dir j) := rfl
    rw [h3]
    refine ⟨?_, h2⟩
    unfold NXn
    omega
theorem HS_c (h : ∀ k : Int, 0 ≤ k → k < f → g k = g' k) (h255 : ∀ k, 0 ≤ g k ∧ g k ≤ 255) {e dir ba : Int} (hd : 0 ≤ dir ∧ dir ≤ e) (he : e + 22 ≤ f) (n : Nat) (hA : AVn g e dir ba n = 1) : ∀ j : Nat, j ≤ n → HS g dir j = HS g' dir j := by
  intro j
  induction j with
  | zero => intro _; rfl
  | succ j ih =>
    intro hj
    have h1 := HS_in h255 hd.1 n hA hd.2 j (by omega)
    have h2 := (VK_un (AV_all n hA j (by omega) (by omega))).1
    have e1 : hsf g dir (j : Int) = HS g dir j := rfl
    rw [e1] at h2
    show NXn g (HS g dir j) = NXn g' (HS g' dir j)
    rw [← ih (by omega)]
    unfold NXn
    rw [W2_c h (k := HS g dir j + 28) (by omega) (by omega), W2_c h (k := HS g dir j + 30) (by omega) (by omega), W2_c h (k := HS g dir j + 32) (by omega) (by omega)]
theorem AV_c (h : ∀ k : Int, 0 ≤ k → k < f → g k = g' k) (h255 : ∀ k, 0 ≤ g k ∧ g k ≤ 255) {e dir ba : Int} (hd : 0 ≤ dir ∧ dir ≤ e) (hb : 0 ≤ ba) (he : e + 22 ≤ f) (n : Nat) (hA : AVn g e dir ba n = 1) : ∀ j : Nat, j ≤ n → AVn g' e dir ba j = 1 := by
  have hH := HS_c h h255 hd he n hA
  have hI := HS_in h255 hd.1 n hA hd.2
  have hN : ∀ j : Nat, j < n → HS g dir j + 46 + W2 g (HS g dir j + 28) ≤ e := fun j hj => by
    have h2 := (VK_un (AV_all n hA j (by omega) (by omega))).2.2.2.1
    have e1 : hsf g dir (j : Int) = HS g dir j := rfl
    rw [e1] at h2
    unfold NXn at h2
    have w2 := W2_r h255 (HS g dir j + 30)
    have w3 := W2_r h255 (HS g dir j + 32)
    omega
  intro j
  induction j with
  | zero => intro _; rfl
  | succ j ih =>
    intro hj
    obtain ⟨v1, v2, v3, v4, v5, v6⟩ := VK_un (AV_all n hA j (by omega) (by omega))
    have e1 : hsf g dir (j : Int) = HS g dir j := rfl
    have e2 : hsf g' dir (j : Int) = HS g dir j := (hH j (by omega)).symm
    have p0 := hI j (by omega)
    have p1 := hN j (by omega)
    have hw := W2_r h255
    have w28 := hw (HS g dir j + 28)
    have c28 := W2_c h (k := HS g dir j + 28) (by omega) (by omega)
    have v5u := NR_un v5
    rw [e1] at v1 v2 v3 v4 v6 v5u
    obtain ⟨l1, l2, l3, l4, l5⟩ := LR_un v6
    have q42 := W4_r h255 (HS g dir j + 42)
    have q20 := W4_r h255 (HS g dir j + 20)
    have w26 := hw (ba + W4 g (HS g dir j + 42) + 28)
    show (if AVn g' e dir ba j = 1 ∧ VKn g' e dir ba j = 1 then (1 : Int) else 0) = 1
    rw [if_pos]
    refine ⟨ih (by omega), ?_⟩
    unfold VKn
    rw [e2, if_pos]
    refine ⟨v1, by rw [← STn_c h (by omega) (by omega)]; exact v2, by rw [← W2_c h (k := HS g dir j + 34) (by omega) (by omega)]; exact v3, ?_, ?_, ?_⟩
    · have v4' := v4
      unfold NXn at v4' ⊢
      rw [← c28, ← W2_c h (k := HS g dir j + 30) (by omega) (by omega), ← W2_c h (k := HS g dir j + 32) (by omega) (by omega)]
      exact v4'
    · unfold NRn
      rw [e2, ← c28, if_pos]
      refine ⟨v5u.1, v5u.2.1, by rw [← LTn_c h _ (by omega)]; exact v5u.2.2.1, ?_⟩
      have d1 : DPn g' (hsf g' dir) (j : Int) ((j : Int)).toNat = DPn g' (hsf g dir) (j : Int) ((j : Int)).toNat := DPn_eq (fun i a b => (hH i.toNat (by omega)).symm) (hH j (by omega)).symm
      have dj : ∀ i : Int, 0 ≤ i → i < ((j : Int)).toNat → 0 ≤ hsf g dir i ∧ hsf g dir i + 46 + W2 g (hsf g dir i + 28) ≤ f := fun i a b => by
        have := hI i.toNat (by omega)
        have := hN i.toNat (by omega)
        show 0 ≤ HS g dir i.toNat ∧ HS g dir i.toNat + 46 + W2 g (HS g dir i.toNat + 28) ≤ f
        omega
      have dx : 0 ≤ hsf g dir (j : Int) ∧ hsf g dir (j : Int) + 46 + W2 g (hsf g dir (j : Int) + 28) ≤ f := by
        rw [e1]
        omega
      rw [d1, ← DPn_c h h255 _ dj dx]
      exact v5u.2.2.2
    · unfold LRn
      rw [← c28, ← W4_c h (k := HS g dir j + 42) (by omega) (by omega), ← W4_c h (k := HS g dir j + 20) (by omega) (by omega), if_pos]
      refine ⟨l1, by rw [← STn_c h (by omega) (by omega)]; exact l2, by rw [← W2_c h (k := ba + W4 g (HS g dir j + 42) + 26) (by omega) (by omega)]; exact l3, by rw [← EQn_c h _ (by omega) (by omega)]; exact l4, by rw [← W2_c h (k := ba + W4 g (HS g dir j + 42) + 28) (by omega) (by omega)]; exact l5⟩
theorem FO_un (q : FOn g f = 1) : 0 ≤ EN g f ∧ W2 g (EN g f + 4) = 0 ∧ W2 g (EN g f + 6) = 0 ∧ W2 g (EN g f + 8) = W2 g (EN g f + 10) ∧ W2 g (EN g f + 8) ≤ 64 ∧ 0 ≤ EN g f - W4 g (EN g f + 12) ∧ 0 ≤ EN g f - W4 g (EN g f + 12) - W4 g (EN g f + 16) ∧ AVn g (EN g f) (EN g f - W4 g (EN g f + 12)) (EN g f - W4 g (EN g f + 12) - W4 g (EN g f + 16)) (W2 g (EN g f + 8)).toNat = 1 ∧ hsf g (EN g f - W4 g (EN g f + 12)) (W2 g (EN g f + 8)) = EN g f := by
  unfold FOn at q
  split at q
  · rename_i c
    exact c
  · exact absurd q (by decide)
theorem FOn_c (h : ∀ k : Int, 0 ≤ k → k < f → g k = g' k) (h255 : ∀ k, 0 ≤ g k ∧ g k ≤ 255) (q : FOn g f = 1) : FOn g' f = 1 ∧ W2 g' (EN g' f + 8) = W2 g (EN g f + 8) := by
  obtain ⟨a1, a2, a3, a4, a5, a6, a7, a8, a9⟩ := FO_un q
  have hl := (EN_le g f).2 a1
  have e0 := EN_c h
  have w8 := W2_r h255 (EN g f + 8)
  have w12 := W4_r h255 (EN g f + 12)
  have c4 := W2_c h (k := EN g f + 4) (by omega) (by omega)
  have c6 := W2_c h (k := EN g f + 6) (by omega) (by omega)
  have c8 := W2_c h (k := EN g f + 8) (by omega) (by omega)
  have c10 := W2_c h (k := EN g f + 10) (by omega) (by omega)
  have c12 := W4_c h (k := EN g f + 12) (by omega) (by omega)
  have c16 := W4_c h (k := EN g f + 16) (by omega) (by omega)
  refine ⟨?_, by rw [← e0, c8]⟩
  unfold FOn
  rw [← e0, ← c4, ← c6, ← c8, ← c10, ← c12, ← c16, if_pos]
  refine ⟨a1, a2, a3, a4, a5, a6, a7, AV_c h h255 (by omega) a7 hl _ a8 _ (Nat.le_refl _), ?_⟩
  have := HS_c h h255 (e := EN g f) (ba := EN g f - W4 g (EN g f + 12) - W4 g (EN g f + 16)) (by omega) hl _ a8 _ (Nat.le_refl _)
  show HS g' _ _ = EN g f
  rw [← this]
  exact a9
end
