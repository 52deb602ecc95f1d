/-! The manifest: the class's state, a line closed. -/
/-- i lines are closed, the open one tells pre so far -/
def MST (σ : qH) (u : Int → Int) (f e : Int) (v : Int → Int) (nq : Int) (i : Nat) (pre : List Int) : Prop := afld σ 41 3 = i ∧ 0 ≤ afld σ 41 4 ∧ JLs (nb σ 42) (afld σ 41 4) pre ∧ afld σ 41 4 + pre.length = rl σ 42 ∧ CLD (nb σ 42) (il σ 44) (il σ 45) u f e i (afld σ 41 4) ∧ VLU u f e v nq (il σ 44) i (afld σ 41 6) (afld σ 41 7)
/-- no line has begun -/
def MS0 (σ : qH) : Prop := afld σ 41 3 = 0 ∧ afld σ 41 4 = -1 ∧ rl σ 42 = 0 ∧ afld σ 41 6 = -1
theorem MST_kn {σ : qH} {u v : Int → Int} {f e nq : Int} {i : Nat} {pre : List Int} (h : MST σ u f e v nq i pre) : KNP σ := fun j j0 j1 => by
  obtain ⟨h1, h2, -, h4, h5, -⟩ := h
  obtain ⟨c1, c2, -, c4, c5⟩ := h5 j.toNat (by omega)
  rw [show ((j.toNat : Nat) : Int) = j by omega] at c1 c2 c4
  have r := (NML_r (LIN u f e (BRl u f e j.toNat))).2 c5.1
  exact ⟨c1, by omega⟩
theorem MST_ok {σ : qH} {u v : Int → Int} {f e nq : Int} {i : Nat} (h : MST σ u f e v nq i (LIN u f e (BRl u f e i))) : (NML (LIN u f e (BRl u f e i)) ≠ 0 ∧ NKN (nb σ 42) (il σ 44) (il σ 45) (afld σ 41 4) (NML (LIN u f e (BRl u f e i))) (afld σ 41 3)) ↔ OKL u f e i := by
  obtain ⟨h1, h2, h3, h4, h5, -⟩ := h
  constructor
  · rintro ⟨n0, k⟩
    have r := (NML_r (LIN u f e (BRl u f e i))).2 n0
    refine ⟨n0, fun j hj s => ?_⟩
    obtain ⟨c1, c2, c3, c4, c5⟩ := h5 j hj
    have r2 := (NML_r (LIN u f e (BRl u f e j))).2 c5.1
    have s1 := s.1
    refine k j (by omega) (by omega) ⟨by rw [c4]; exact s.1.symm, ?_⟩
    refine (SMf_SMN c3 h3 (by omega) (by omega)).mpr (fun q q0 q1 => ?_)
    exact (s.2 q q0 q1).symm
  · rintro ⟨n0, k⟩
    have r := (NML_r (LIN u f e (BRl u f e i))).2 n0
    refine ⟨n0, fun j j0 j1 q => ?_⟩
    obtain ⟨c1, c2, c3, c4, c5⟩ := h5 j.toNat (by omega)
    rw [show ((j.toNat : Nat) : Int) = j by omega] at c1 c2 c3 c4
    have r2 := (NML_r (LIN u f e (BRl u f e j.toNat))).2 c5.1
    obtain ⟨q1, q2⟩ := q
    rw [c4] at q1
    refine k j.toNat (by omega) ⟨q1.symm, fun t t0 t1 => ?_⟩
    exact ((SMf_SMN c3 h3 (by omega) (by omega)).mp q2 t t0 t1).symm
theorem MST_cl {σ σ' : qH} {u v : Int → Int} {f e nq : Int} {i : Nat} (h : MST σ u f e v nq i (LIN u f e (BRl u f e i))) (c : CLS σ σ' (nb σ 42) (LIN u f e (BRl u f e i)) v nq) (hnb : nb σ' 42 = nb σ 42) (hrl : rl σ' 42 = rl σ 42) : OKL u f e i ∧ afld σ' 41 3 = ((i + 1 : Nat) : Int) ∧ CLD (nb σ' 42) (il σ' 44) (il σ' 45) u f e (i + 1) (rl σ' 42) ∧ VLU u f e v nq (il σ' 44) (i + 1) (afld σ' 41 6) (afld σ' 41 7) := by
  have ok := (MST_ok h).mp c.1
  obtain ⟨h1, h2, h3, h4, h5, h6⟩ := h
  obtain ⟨-, c3, c4, c44, c45, -, cA, cN⟩ := c
  have e44 : ∀ j : Nat, j < i → gl (il σ' 44) j = gl (il σ 44) j := fun j hj => by rw [c44 j (by omega), if_neg (by omega)]
  have e45 : ∀ j : Nat, j < i → gl (il σ' 45) j = gl (il σ 45) j := fun j hj => by rw [c45 j (by omega), if_neg (by omega)]
  have f44 : gl (il σ' 44) (i : Int) = afld σ 41 4 := by rw [c44 i (by omega), if_pos h1.symm]
  have f45 : gl (il σ' 45) (i : Int) = NML (LIN u f e (BRl u f e i)) := by rw [c45 i (by omega), if_pos h1.symm]
  refine ⟨ok, by omega, fun j hj => ?_, ?_⟩
  · rw [hnb, hrl]
    by_cases q : j = i
    · rw [q, f44, f45]
      exact ⟨h2, by omega, h3, rfl, ok⟩
    · obtain ⟨d1, d2, d3, d4, d5⟩ := h5 j (by omega)
      rw [e44 j (by omega), e45 j (by omega)]
      exact ⟨d1, by omega, d3, d4, d5⟩
  · by_cases a : ASK (LIN u f e (BRl u f e i)) v nq
    · obtain ⟨a1, a2⟩ := cA a
      exact Or.inr ⟨i, by omega, a, by rw [f44]; exact a1, a2⟩
    · obtain ⟨a1, a2⟩ := cN a
      rcases h6 with ⟨b1, b2⟩ | ⟨j, b1, b2, b3, b4⟩
      · refine Or.inl ⟨by rw [a1]; exact b1, fun j hj => ?_⟩
        by_cases q : j = i
        · rw [q]; exact a
        · exact b2 j (by omega)
      · exact Or.inr ⟨j, by omega, b2, by rw [a1, e44 j b1]; exact b3, by rw [a2]; exact b4⟩
