/-! The manifest: what learn answers. -/
/-- while the main part goes on, and behind it -/
def LRU (τ : qH) (u : Int → Int) (f e : Int) (v : Int → Int) (nq um a : Int) : Prop := (um = 1 ∧ LRI τ u f e v nq a) ∨ (um = 0 ∧ LRO τ u f e v nq)
/-- the first line doesn't begin with a blank, or it is still to come -/
def N32 (τ : qH) (u : Int → Int) (um a : Int) : Prop := (1 ≤ a ∧ u 0 ≠ 32) ∨ (a = 0 ∧ um = 1 ∧ afld τ 41 4 = -1)
/-- the value that was asked for -/
def LVR (σ' : qH) (u : Int → Int) (f e : Int) (v : Int → Int) (nq : Int) : Prop := (afld σ' 41 6 = -1 ∧ ∀ j : Nat, BRl u f e j < e → ¬ ASK (LIN u f e (BRl u f e j)) v nq) ∨ ∃ j : Nat, BRl u f e j < e ∧ ASK (LIN u f e (BRl u f e j)) v nq ∧ 0 ≤ afld σ' 41 6 ∧ JLs (nb σ' 42) (afld σ' 41 6) (VAL (LIN u f e (BRl u f e j))) ∧ afld σ' 41 7 = (VAL (LIN u f e (BRl u f e j))).length ∧ afld σ' 41 6 + afld σ' 41 7 ≤ rl σ' 42
theorem LRU_in {τ : qH} {u v : Int → Int} {f e nq um a : Int} (h : LRU τ u f e v nq um a) (q : um ≠ 0) : LRI τ u f e v nq a := h.elim (fun x => x.2) (fun x => absurd x.1 q)
theorem LRU_no {τ : qH} {u v : Int → Int} {f e nq um a : Int} (h : LRU τ u f e v nq um a) (q : um = 0) : LRO τ u f e v nq := h.elim (fun x => by have := x.1; omega) (fun x => x.2)
theorem LRU_out {τ : qH} {u v : Int → Int} {f e nq um a : Int} (hf : 0 ≤ f) (hi : IME u f e) (h : LRU τ u f e v nq um a) (q : f ≤ a) : LRO τ u f e v nq := h.elim (fun x => LRI_out hf hi x.2 (fun z => by omega)) (fun x => x.2)
theorem LRO_s {τ : qH} {u v : Int → Int} {f e nq : Int} (h : LRO τ u f e v nq) : ∃ (i : Nat) (pre : List Int), SST τ u f e v nq i pre ∧ (afld τ 41 4 = -1 → e = 0) ∧ (0 ≤ afld τ 41 4 → pre = LIN u f e (BRl u f e i) ∧ e ≤ BHD u f e (BRl u f e i) ∧ BRl u f e i < e) := by
  rcases h with ⟨h1, h2⟩ | ⟨i, h1, h2, h3⟩
  · have q := h2.2.1
    exact ⟨0, [], Or.inl ⟨h2, rfl, rfl⟩, fun _ => h1, fun z => by omega⟩
  · have q := h1.2.1
    exact ⟨i, _, Or.inr h1, fun z => by omega, fun _ => ⟨rfl, h2, h3⟩⟩
theorem SST_lt {τ : qH} {u v : Int → Int} {f e nq : Int} {i : Nat} {pre : List Int} (h : SST τ u f e v nq i pre) (q : 0 ≤ afld τ 41 4 → BRl u f e i < e) (he : e ≤ 8000) : afld τ 41 3 < 2000 := by
  obtain ⟨s1, s2, s3, s4⟩ := SST_r h
  by_cases c : 0 ≤ afld τ 41 4
  · have M := s3 c
    have b := BRl_4 (u := u) (f := f) (e := e) (i := i) (fun j hj => (M.2.2.2.2.1 j hj).2.2.2.2)
    have b2 := q c
    omega
  · have m := (s2 (by omega)).1.1
    omega
theorem LRI_no {τ : qH} {u : Int → Int} {f e a z : Int} {i : Nat} {X1 X2 : Prop} {X3 : Prop} {X4 : Prop} (ha : a < f) (hr : -1 ≤ afld τ 41 4) (h0 : afld τ 41 4 = -1 → a = 0) (h1 : 0 ≤ afld τ 41 4 → X3 ∧ X4 ∧ BRl u f e i < e) (p1 : u a = 32 → 0 ≤ afld τ 41 4 → z = 1 ∧ X1) (p2 : u a ≠ 32 → afld τ 41 4 = -1 → z = 1 ∧ X2) (p3 : u a ≠ 32 → 0 ≤ afld τ 41 4 → z = 0 → ¬ OKL u f e i) (hz : z = 0) : ¬ MFV u f e := by
  by_cases c : u a = 32
  · by_cases d : 0 ≤ afld τ 41 4
    · have := (p1 c d).1
      omega
    · have a0 := h0 (by omega)
      rw [a0] at c ha
      exact fun m => m.2.1 ⟨ha, c⟩
  · by_cases d : 0 ≤ afld τ 41 4
    · exact OKL_no (h1 d).2.2 (p3 c d hz)
    · have := (p2 c (by omega)).1
      omega
theorem LRI_yes {τ τ' : qH} {u v : Int → Int} {f e nq a z n : Int} {i : Nat} {pre : List Int} (h : LRI τ u f e v nq a) (ha : a < f) (hl : a < LEe u f a) (he : a < e) (hr : -1 ≤ afld τ 41 4) (h0 : afld τ 41 4 = -1 → a = 0) (h1 : 0 ≤ afld τ 41 4 → pre ++ SGM u f e a = LIN u f e (BRl u f e i) ∧ NXT u f e a = BHD u f e (BRl u f e i) ∧ BRl u f e i < e) (p0 : u a = 32 → afld τ 41 4 = -1 → z = 0) (p1 : u a = 32 → 0 ≤ afld τ 41 4 → z = 1 ∧ MST τ' u f e v nq i (pre ++ SB u (n - 1).toNat (a + 1))) (p2 : u a ≠ 32 → afld τ 41 4 = -1 → z = 1 ∧ MST τ' u f e v nq 0 (SB u n.toNat a)) (p4 : u a ≠ 32 → 0 ≤ afld τ 41 4 → z = 1 → OKL u f e i ∧ MST τ' u f e v nq (i + 1) (SB u n.toNat a)) (hn : n = LEe u f a - a) (hz : z = 1) : LRI τ' u f e v nq (LSt u f a + 1) := by
  have m := h.1
  subst hn
  by_cases c : u a = 32
  · by_cases d : 0 ≤ afld τ 41 4
    · obtain ⟨e1, e2, e3⟩ := h1 d
      exact LRI_go (τ := τ) m ha hl he c e1 e2 e3 (p1 c d).2
    · have := p0 c (by omega)
      omega
  · by_cases d : 0 ≤ afld τ 41 4
    · exact LRI_next m ha hl he c (h1 d).2.1 (p4 c d hz).2
    · exact LRI_first m ha hl he (h0 (by omega)) (p2 c (by omega)).2
theorem LEe_32 {u : Int → Int} {f a : Int} (ha : a < f) (q : ¬ a < LEe u f a) : u a ≠ 32 := by
  have l := LSt_r u f a
  have t := LSt_10 u f a (by omega)
  unfold LEe at q
  by_cases c : LSt u f a < f ∧ a < LSt u f a ∧ u (LSt u f a - 1) = 13
  · rw [if_pos c] at q
    rw [show a = LSt u f a - 1 by omega, c.2.2]
    decide
  · rw [if_neg c] at q
    have e : LSt u f a = a := by omega
    rw [e] at t
    rcases t with t | t
    · omega
    · rw [t]
      decide
theorem N32_A {τ τ' : qH} {u : Int → Int} {um um' a b z : Int} (h : N32 τ u um a) (p0 : u a = 32 → afld τ 41 4 = -1 → z = 0) (hz : z = 1) (hb : 1 ≤ b) : N32 τ' u um' b := by
  rcases h with h | ⟨h1, -, h3⟩
  · exact Or.inl ⟨hb, h.2⟩
  · refine Or.inl ⟨hb, fun c => ?_⟩
    rw [h1] at p0
    have := p0 c h3
    omega
theorem N32_B {τ τ' : qH} {u : Int → Int} {f um um' a b : Int} (h : N32 τ u um a) (ha : a < f) (q : ¬ a < LEe u f a) (hb : 1 ≤ b) : N32 τ' u um' b := by
  rcases h with h | ⟨h1, -, h3⟩
  · exact Or.inl ⟨hb, h.2⟩
  · refine Or.inl ⟨hb, ?_⟩
    have c := LEe_32 ha q
    rw [h1] at c
    exact c
theorem N32_C {τ τ' : qH} {u : Int → Int} {um um' a b : Int} (h : N32 τ u um a) (q : um = 0) (hb : 1 ≤ b) : N32 τ' u um' b := by
  rcases h with h | ⟨-, h2, -⟩
  · exact Or.inl ⟨hb, h.2⟩
  · omega
theorem N32_out {τ : qH} {u : Int → Int} {f um a : Int} (h : N32 τ u um a) (q : f ≤ a) : ¬ (0 < f ∧ u 0 = 32) := by
  rcases h with h | ⟨h1, -, -⟩
  · exact fun z => h.2 z.2
  · exact fun z => by omega
theorem LRO_no {τ : qH} {u v : Int → Int} {f e nq z : Int} {i : Nat} {pre : List Int} {X : Prop} (h : SST τ u f e v nq i pre) (h1 : 0 ≤ afld τ 41 4 → pre = LIN u f e (BRl u f e i) ∧ e ≤ BHD u f e (BRl u f e i) ∧ BRl u f e i < e) (p0 : afld τ 41 4 = -1 → z = 1 ∧ X) (p1 : 0 ≤ afld τ 41 4 → z = 0 → NML pre = 0 ∨ ¬ NKN (nb τ 42) (il τ 44) (il τ 45) (afld τ 41 4) (NML pre) (afld τ 41 3)) (hz : z = 0) : ¬ MFV u f e := by
  obtain ⟨s1, s2, s3, s4⟩ := SST_r h
  by_cases c : 0 ≤ afld τ 41 4
  · obtain ⟨e1, e2, e3⟩ := h1 c
    have M := s3 c
    have cl := p1 c hz
    rw [e1] at M cl
    refine OKL_no e3 (fun ok => ?_)
    have k := (MST_ok M).mpr ok
    rcases cl with q | q
    · exact k.1 q
    · exact q k.2
  · have := (p0 (by omega)).1
    omega
theorem VAL_len {l : List Int} (h : NML l + 2 ≤ l.length) : ((VAL l).length : Int) = l.length - NML l - 2 := by
  have := (NML_r l).1
  unfold VAL
  rw [List.length_drop]
  omega
theorem JLs_drop {J : Int → Int} {s : Int} {l : List Int} (h : JLs J s l) (k : Nat) : JLs J (s + k) (l.drop k) := fun i hi => by
  rw [List.length_drop] at hi
  rw [List.getD_eq_getElem?_getD, List.getElem?_drop, ← List.getD_eq_getElem?_getD, h (k + i) (by omega)]
  congr 1
  omega
theorem LRO_yes {τ σ' : qH} {u v : Int → Int} {f e nq z : Int} {i : Nat} {pre : List Int} (h : SST τ u f e v nq i pre) (h0 : afld τ 41 4 = -1 → e = 0) (h1 : 0 ≤ afld τ 41 4 → pre = LIN u f e (BRl u f e i) ∧ e ≤ BHD u f e (BRl u f e i) ∧ BRl u f e i < e) (p0 : afld τ 41 4 = -1 → z = 1 ∧ MSM τ σ') (p2 : 0 ≤ afld τ 41 4 → z = 1 → CLS τ σ' (nb τ 42) pre v nq) (hnb : nb σ' 42 = nb τ 42) (hrl : rl σ' 42 = rl τ 42) (n1 : NOL u f) (n2 : ¬ (0 < f ∧ u 0 = 32)) (hz : z = 1) : MFV u f e ∧ LVR σ' u f e v nq := by
  obtain ⟨s1, s2, s3, s4⟩ := SST_r h
  by_cases c : 0 ≤ afld τ 41 4
  · obtain ⟨e1, e2, e3⟩ := h1 c
    have M := s3 c
    have cl := p2 c hz
    rw [e1] at M cl
    obtain ⟨o1, o2, o3, o4⟩ := MST_cl M cl hnb hrl
    refine ⟨LRO_y M e2 o1 n1 n2, ?_⟩
    rcases o4 with ⟨a1, a2⟩ | ⟨j, a1, a2, a3, a4⟩
    · refine Or.inl ⟨a1, fun j hj => a2 j ?_⟩
      have e9 : BRl u f e (i + 1) = BHD u f e (BRl u f e i) := rfl
      exact BRl_le (u := u) (f := f) (e := e) (by omega)
    · obtain ⟨d1, d2, d3, d4, d5⟩ := o3 j a1
      have r := NML_r (LIN u f e (BRl u f e j))
      have r2 := r.2 d5.1
      have vl := VAL_len r2
      refine Or.inr ⟨j, ?_, a2, by omega, ?_, by omega, by omega⟩
      · by_cases q : j = i
        · rw [q]; exact e3
        · have := BRl_lt u f e (i := j) (j := i) (by omega)
          omega
      · have k := JLs_drop d3 ((NML (LIN u f e (BRl u f e j))).toNat + 2)
        rw [show gl (il σ' 44) (j : Int) + (((NML (LIN u f e (BRl u f e j))).toNat + 2 : Nat) : Int) = afld σ' 41 6 by omega] at k
        exact k
  · have m0 := (s2 (by omega)).1
    have ms := (p0 (by omega)).2
    have e0 := h0 (by omega)
    refine ⟨LRO_0 e0 n1 n2, Or.inl ⟨by rw [ms.2.2.1]; exact m0.2.2.2, fun j hj => ?_⟩⟩
    have := BRl_0 u f e j
    omega
