/-! The manifest: what learn's loop keeps. -/
theorem LRI_0 {τ : qH} {u v : Int → Int} {f e nq : Int} (h : MS0 τ) : LRI τ u f e v nq 0 := ⟨MMI_0 u f, Or.inl ⟨rfl, h⟩⟩
/-- the open line, in the words of joinLine -/
theorem LRI_s {τ : qH} {u v : Int → Int} {f e nq a : Int} (h : LRI τ u f e v nq a) (ha : a < e) : ∃ (i : Nat) (pre : List Int), SST τ u f e v nq i pre ∧ (u a ≠ 32 → 0 ≤ afld τ 41 4 → pre = LIN u f e (BRl u f e i)) ∧ (afld τ 41 4 = -1 → a = 0) ∧ (0 ≤ afld τ 41 4 → pre ++ SGM u f e a = LIN u f e (BRl u f e i) ∧ NXT u f e a = BHD u f e (BRl u f e i) ∧ BRl u f e i < e) := by
  obtain ⟨-, h⟩ := h
  rcases h with ⟨h1, h2⟩ | ⟨i, pre, h1, h2, h3, h4⟩
  · have q := h2.2.1
    exact ⟨0, [], Or.inl ⟨h2, rfl, rfl⟩, fun _ z => by omega, fun _ => h1, fun z => by omega⟩
  · have q := h1.2.1
    refine ⟨i, pre, Or.inr h1, fun z _ => ?_, fun z => by omega, fun _ => ⟨h2, h3, h4⟩⟩
    rw [SGM_no (fun k => z k.2), List.append_nil] at h2
    exact h2
theorem LRI_go {τ τ' : qH} {u v : Int → Int} {f e nq a : Int} {i : Nat} {pre : List Int} (m : MMI u f a) (ha : a < f) (hl : a < LEe u f a) (he : a < e) (q : u a = 32) (h2 : pre ++ SGM u f e a = LIN u f e (BRl u f e i)) (h3 : NXT u f e a = BHD u f e (BRl u f e i)) (h4 : BRl u f e i < e) (h : MST τ' u f e v nq i (pre ++ SB u (LEe u f a - a - 1).toNat (a + 1))) : LRI τ' u f e v nq (LSt u f a + 1) := by
  refine ⟨MMI_s m ⟨ha, hl⟩, Or.inr ⟨i, _, h, ?_, ?_, h4⟩⟩
  · rw [List.append_assoc, ← SGM_go ⟨he, q⟩]
    exact h2
  · rw [← NXT_go ⟨he, q⟩]
    exact h3
theorem LRI_first {τ' : qH} {u v : Int → Int} {f e nq a : Int} (m : MMI u f a) (ha : a < f) (hl : a < LEe u f a) (he : a < e) (a0 : a = 0) (h : MST τ' u f e v nq 0 (SB u (LEe u f a - a).toNat a)) : LRI τ' u f e v nq (LSt u f a + 1) := by
  refine ⟨MMI_s m ⟨ha, hl⟩, Or.inr ⟨0, _, h, ?_, ?_, ?_⟩⟩
  · rw [a0]
    rfl
  · rw [a0]
    rfl
  · show (0 : Int) < e
    omega
theorem LRI_next {τ' : qH} {u v : Int → Int} {f e nq a : Int} {i : Nat} (m : MMI u f a) (ha : a < f) (hl : a < LEe u f a) (he : a < e) (q : u a ≠ 32) (h3 : NXT u f e a = BHD u f e (BRl u f e i)) (h : MST τ' u f e v nq (i + 1) (SB u (LEe u f a - a).toNat a)) : LRI τ' u f e v nq (LSt u f a + 1) := by
  have e1 : BRl u f e (i + 1) = a := by
    show BHD u f e (BRl u f e i) = a
    rw [← h3, NXT_no (fun k => q k.2)]
  refine ⟨MMI_s m ⟨ha, hl⟩, Or.inr ⟨i + 1, _, h, ?_, ?_, ?_⟩⟩
  · rw [e1]
    rfl
  · rw [e1]
    rfl
  · rw [e1]
    exact he
theorem LRI_out {τ : qH} {u v : Int → Int} {f e nq a : Int} (hf : 0 ≤ f) (hi : IME u f e) (h : LRI τ u f e v nq a) (q : ¬ (a < f ∧ a < LEe u f a)) : LRO τ u f e v nq := by
  obtain ⟨m, h⟩ := h
  have ee := IME_at hi m q
  have hae : e ≤ a := by
    by_cases c : a < f
    · rw [if_pos c] at ee
      omega
    · rw [if_neg c] at ee
      omega
  rcases h with ⟨h1, h2⟩ | ⟨i, pre, h1, h2, h3, h4⟩
  · refine Or.inl ⟨?_, h2⟩
    by_cases c : a < f
    · rw [if_pos c] at ee
      omega
    · rw [if_neg c] at ee
      omega
  · rw [SGM_no (fun k => by omega), List.append_nil] at h2
    rw [NXT_no (fun k => by omega)] at h3
    exact Or.inr ⟨i, by rw [← h2]; exact h1, by omega, h4⟩
theorem BRl_0 (u : Int → Int) (f e : Int) (i : Nat) : 0 ≤ BRl u f e i := by
  by_cases c : i = 0
  · rw [c]
    exact Int.le_refl _
  · have := BRl_lt u f e (i := 0) (j := i) (by omega)
    have e0 : BRl u f e 0 = 0 := rfl
    omega
theorem LRO_0 {u : Int → Int} {f e : Int} (h : e = 0) (n1 : NOL u f) (n2 : ¬ (0 < f ∧ u 0 = 32)) : MFV u f e := ⟨n1, n2, fun i hi => by
  have := BRl_0 u f e i
  omega⟩
theorem LRO_y {τ : qH} {u v : Int → Int} {f e nq : Int} {i : Nat} (h : MST τ u f e v nq i (LIN u f e (BRl u f e i))) (h2 : e ≤ BHD u f e (BRl u f e i)) (ok : OKL u f e i) (n1 : NOL u f) (n2 : ¬ (0 < f ∧ u 0 = 32)) : MFV u f e := ⟨n1, n2, fun j hj => by
  have h5 := h.2.2.2.2.1
  by_cases c : j = i
  · rw [c]; exact ok
  · by_cases d : j < i
    · exact (h5 j d).2.2.2.2
    · have l := BRl_lt u f e (i := i) (j := i + 1) (by omega)
      have e1 : BRl u f e (i + 1) = BHD u f e (BRl u f e i) := rfl
      by_cases g : j = i + 1
      · rw [g] at hj
        omega
      · have l2 := BRl_lt u f e (i := i + 1) (j := j) (by omega)
        omega⟩
theorem OKL_no {u : Int → Int} {f e : Int} {i : Nat} (h : BRl u f e i < e) (q : ¬ OKL u f e i) : ¬ MFV u f e := fun m => q (m.2.2 i h)
