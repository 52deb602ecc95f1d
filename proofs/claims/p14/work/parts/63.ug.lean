/-! The manifest: lines laid one behind the other in a row. -/
/-- from s on stands l -/
def JLs (J : Int → Int) (s : Int) (l : List Int) : Prop := ∀ i : Nat, i < l.length → l.getD i (-1) = J (s + i)
theorem JL_nil {J : Int → Int} {s : Int} : JLs J s [] := fun i h => absurd h (Nat.not_lt_zero i)
theorem SB_gd (u : Int → Int) {n i : Nat} {p : Int} (h : i < n) : (SB u n p).getD i (-1) = u (p + i) := by
  rw [List.getD_eq_getElem?_getD, SB_at u n p i h]
  rfl
theorem JL_app {u J : Int → Int} {s m p : Int} {n : Nat} {l : List Int} (h : JLs J s l) (hm : m = s + l.length) : JLs (PLC u J m p n) s (l ++ SB u n p) := fun i hi => by
  rw [List.length_append, SB_len] at hi
  rw [PLC_at]
  by_cases c : i < l.length
  · rw [if_neg (by omega), List.getD_eq_getElem?_getD, List.getElem?_append_left c, ← List.getD_eq_getElem?_getD]
    exact h i c
  · rw [if_pos (by omega), List.getD_eq_getElem?_getD, List.getElem?_append_right (by omega), ← List.getD_eq_getElem?_getD, SB_gd u (by omega)]
    congr 1
    omega
theorem JL_keep {u J : Int → Int} {s m p : Int} {n : Nat} {l : List Int} (h : JLs J s l) (hm : s + l.length ≤ m) : JLs (PLC u J m p n) s l := fun i hi => by
  rw [PLC_at, if_neg (by omega)]
  exact h i hi
theorem JL_new {u J : Int → Int} {m p : Int} {n : Nat} : JLs (PLC u J m p n) m (SB u n p) := by
  have h := JL_app (u := u) (J := J) (s := m) (m := m) (p := p) (n := n) (l := []) JL_nil (by show m = m + ((0 : Nat) : Int); omega)
  exact h
/-- the length of the name, as the row tells it -/
theorem NLP_TW {J : Int → Int} {f s z : Int} {l : List Int} (h : NLP J f s z) (q : JLs J s l) (hf : s + l.length = f) : (TWn l : Int) = z := by
  obtain ⟨h0, h1, h2, h3⟩ := h
  have e := TWn_is (l := l) (n := z.toNat) (fun i hi => by
    rw [q i (by omega)]
    exact h2 i (by omega) (by omega)) (by
    by_cases c : s + z < f
    · rw [q z.toNat (by omega), show s + (z.toNat : Int) = s + z by omega]
      exact h3 c
    · rw [List.getD_eq_getElem?_getD, List.getElem?_eq_none (by omega)]
      show ¬ NBY (-1)
      decide)
  omega
/-- what at answers in the open line -/
theorem JL_at {J : Int → Int} {s f k z : Int} {l : List Int} (q : JLs J s l) (hf : s + l.length = f) (h0 : 0 ≤ s) (hk : 0 ≤ k) (a1 : 0 ≤ s + k → s + k < f → z = J (s + k)) (a2 : s + k < 0 ∨ f ≤ s + k → z = -1) : l.getD k.toNat (-1) = z := by
  by_cases c : s + k < f
  · rw [q k.toNat (by omega), a1 (by omega) c, show s + (k.toNat : Int) = s + k by omega]
  · rw [a2 (by omega), List.getD_eq_getElem?_getD, List.getElem?_eq_none (by omega)]
    rfl
theorem SMf_SMN {J K : Int → Int} {s t n : Int} {l l' : List Int} (q : JLs J s l) (q' : JLs K t l') (h : n ≤ l.length) (h' : n ≤ l'.length) : SMf J K s t n ↔ SMN l l' n := by
  constructor
  · intro m i i0 i1
    rw [q i.toNat (by omega), q' i.toNat (by omega), show s + (i.toNat : Int) = s + i by omega, show t + (i.toNat : Int) = t + i by omega]
    exact m i i0 i1
  · intro m i i0 i1
    have e := m i i0 i1
    rw [q i.toNat (by omega), q' i.toNat (by omega), show s + (i.toNat : Int) = s + i by omega, show t + (i.toNat : Int) = t + i by omega] at e
    exact e
theorem SAM_comm {l l' : List Int} (h : SAM l l') : SAM l' l := ⟨h.1.symm, fun i i0 i1 => (h.2 i i0 (by rw [h.1]; exact i1)).symm⟩
theorem NML_r (l : List Int) : 0 ≤ NML l ∧ (NML l ≠ 0 → NML l + 2 ≤ l.length) := by
  unfold NML
  split
  · rename_i c
    refine ⟨by omega, fun _ => ?_⟩
    rcases Nat.lt_or_ge (TWn l + 1) l.length with q | q
    · omega
    · have e : l.getD (TWn l + 1) (-1) = -1 := by
        rw [List.getD_eq_getElem?_getD, List.getElem?_eq_none q]
        rfl
      rw [e] at c
      exact absurd c.2 (by decide)
  · exact ⟨Int.le_refl _, fun q => absurd rfl q⟩
/-- what goes on takes room -/
theorem SGM_len (u : Int → Int) (f e a : Int) : a + (SGM u f e a).length ≤ NXT u f e a := by
  obtain ⟨n, hn⟩ : ∃ n : Nat, (e - a).toNat = n := ⟨_, rfl⟩
  induction n using Nat.strongRecOn generalizing a with
  | ind n ih =>
    by_cases h : a < e ∧ u a = 32
    · have l := (LSt_r u f a).1
      have l2 := LE_r u f a
      have q := ih (e - (LSt u f a + 1)).toNat (by omega) (LSt u f a + 1) rfl
      rw [NXT_go h, SGM_go h, List.length_append, SB_len]
      omega
    · rw [NXT_no h, SGM_no h]
      show a + ((0 : Nat) : Int) ≤ a
      omega
theorem BHD_len (u : Int → Int) (f e b : Int) : b + (LIN u f e b).length + 1 ≤ BHD u f e b := by
  have l2 := LE_r u f b
  have q := SGM_len u f e (LSt u f b + 1)
  unfold BHD LIN
  rw [List.length_append, SB_len]
  omega
theorem BRl_4 {u : Int → Int} {f e : Int} {i : Nat} (h : ∀ j : Nat, j < i → OKL u f e j) : 4 * (i : Int) ≤ BRl u f e i := by
  induction i with
  | zero => exact Int.le_refl _
  | succ i ih =>
    have h1 := ih (fun j hj => h j (by omega))
    have h2 := BHD_len u f e (BRl u f e i)
    have h3 := (h i (by omega)).1
    have h4 := NML_r (LIN u f e (BRl u f e i))
    have h5 := h4.2 h3
    have h6 := h4.1
    show 4 * ((i + 1 : Nat) : Int) ≤ BHD u f e (BRl u f e i)
    omega
/-- the first i lines stand in the row -/
def CLD (J : Int → Int) (l1 l2 : List Int32) (u : Int → Int) (f e : Int) (i : Nat) (m : Int) : Prop := ∀ j : Nat, j < i → 0 ≤ gl l1 j ∧ gl l1 j + (LIN u f e (BRl u f e j)).length ≤ m ∧ JLs J (gl l1 j) (LIN u f e (BRl u f e j)) ∧ gl l2 j = NML (LIN u f e (BRl u f e j)) ∧ OKL u f e j
/-- the value asked for, among the first i lines -/
def VLU (u : Int → Int) (f e : Int) (v : Int → Int) (nq : Int) (l1 : List Int32) (i : Nat) (vs vl : Int) : Prop := (vs = -1 ∧ ∀ j : Nat, j < i → ¬ ASK (LIN u f e (BRl u f e j)) v nq) ∨ ∃ j : Nat, j < i ∧ ASK (LIN u f e (BRl u f e j)) v nq ∧ vs = gl l1 j + NML (LIN u f e (BRl u f e j)) + 2 ∧ vl = (LIN u f e (BRl u f e j)).length - NML (LIN u f e (BRl u f e j)) - 2
