/-! The manifest: the class's state, a line joined or begun. -/
theorem JLs_ag {σ : qH} {r : Nat} {g : Int → Int} {s : Int} {l : List Int} (h : AGR σ r g) (q : JLs g s l) (h0 : 0 ≤ s) (hl : s + l.length ≤ rl σ r) : JLs (nb σ r) s l := fun i hi => by
  rw [q i hi]
  exact (h (s + i) (by omega) (by omega)).trans (nb_ag (σ := σ) (r := r) (s + i) (by omega) (by omega)).symm
theorem CLD_ag {σ σ' : qH} {u w : Int → Int} {l1 l2 : List Int32} {f e m p : Int} {n i : Nat} (h : CLD (nb σ 42) l1 l2 u f e i m) (hm : m ≤ rl σ 42) (ag : AGR σ' 42 (PLC w (nb σ 42) (rl σ 42) p n)) (hr : rl σ' 42 = rl σ 42 + n) : CLD (nb σ' 42) l1 l2 u f e i m := fun j hj => by
  obtain ⟨c1, c2, c3, c4, c5⟩ := h j hj
  exact ⟨c1, c2, JLs_ag ag (JL_keep c3 (by omega)) c1 (by omega), c4, c5⟩
theorem MST_go {σ σ' : qH} {u v w : Int → Int} {f e nq p : Int} {i n : Nat} {pre : List Int} (h : MST σ u f e v nq i pre) (s : MSM σ σ') (ag : AGR σ' 42 (PLC w (nb σ 42) (rl σ 42) p n)) (hr : rl σ' 42 = rl σ 42 + n) : MST σ' u f e v nq i (pre ++ SB w n p) := by
  obtain ⟨h1, h2, h3, h4, h5, h6⟩ := h
  obtain ⟨s3, s4, s6, s7, s44, s45, -⟩ := s
  have hc := CLD_ag h5 (by omega) ag hr
  rw [MST, s3, s4, s6, s7, s44, s45]
  refine ⟨h1, h2, JLs_ag ag (JL_app h3 h4.symm) h2 ?_, ?_, hc, h6⟩
  · rw [List.length_append, SB_len]
    omega
  · rw [List.length_append, SB_len]
    omega
theorem MST_new {σ σ' : qH} {u v w : Int → Int} {f e nq p : Int} {i n : Nat} (c3 : afld σ' 41 3 = i) (hc : CLD (nb σ 42) (il σ' 44) (il σ' 45) u f e i (rl σ 42)) (hv : VLU u f e v nq (il σ' 44) i (afld σ' 41 6) (afld σ' 41 7)) (os : afld σ' 41 4 = rl σ 42) (h0 : 0 ≤ rl σ 42) (ag : AGR σ' 42 (PLC w (nb σ 42) (rl σ 42) p n)) (hr : rl σ' 42 = rl σ 42 + n) : MST σ' u f e v nq i (SB w n p) := by
  rw [MST, os]
  refine ⟨c3, h0, JLs_ag ag JL_new h0 ?_, ?_, CLD_ag hc (Int.le_refl _) ag hr, hv⟩
  · rw [SB_len]
    omega
  · rw [SB_len]
    omega
/-- while the main part goes on, at the line at a -/
def LRI (τ : qH) (u : Int → Int) (f e : Int) (v : Int → Int) (nq a : Int) : Prop := MMI u f a ∧ ((a = 0 ∧ MS0 τ) ∨ ∃ (i : Nat) (pre : List Int), MST τ u f e v nq i pre ∧ pre ++ SGM u f e a = LIN u f e (BRl u f e i) ∧ NXT u f e a = BHD u f e (BRl u f e i) ∧ BRl u f e i < e)
/-- behind the main part -/
def LRO (τ : qH) (u : Int → Int) (f e : Int) (v : Int → Int) (nq : Int) : Prop := (e = 0 ∧ MS0 τ) ∨ ∃ i : Nat, MST τ u f e v nq i (LIN u f e (BRl u f e i)) ∧ e ≤ BHD u f e (BRl u f e i) ∧ BRl u f e i < e
theorem IME_in {u : Int → Int} {f e a : Int} (h : IME u f e) (m : MMI u f a) (ha : a < f) (q : a < LEe u f a) : a < e := by
  obtain ⟨k, ⟨i, ek, hi⟩, h⟩ := h
  obtain ⟨j, ea, hj⟩ := m
  rcases Nat.lt_trichotomy i j with c | c | c
  · have b := hj i c
    rw [← ek] at b
    omega
  · subst c
    have e9 : k = a := ek.trans ea.symm
    subst e9
    omega
  · have b := LST_le u f (i := j + 1) (j := i) (by omega)
    have b2 := LST_lt u f j
    rw [← ea] at b2
    rw [← ek] at b
    omega
theorem IME_at {u : Int → Int} {f e a : Int} (h : IME u f e) (m : MMI u f a) (q : ¬ (a < f ∧ a < LEe u f a)) : e = if a < f then a else f := by
  have h2 : IME u f (if a < f then a else f) := by
    refine ⟨a, m, ?_⟩
    by_cases c : a < f
    · rw [if_pos c]
      exact Or.inl ⟨c, fun z => q ⟨c, z⟩, rfl⟩
    · rw [if_neg c]
      exact Or.inr ⟨by omega, rfl⟩
  exact IME_one h h2
