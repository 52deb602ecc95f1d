/-! The model: attribute. -/
theorem LK_in {r u h : Int → Int} {n en z : Int} (hz : z = LK r u h 0 n en.toNat) (he : 0 ≤ en) : z = -1 ∨ (0 ≤ z ∧ z < en) := by
  by_cases q : z = -1
  · exact Or.inl q
  · rw [hz] at q
    have k := LK_is q
    rw [← hz] at k
    have k1 := k.1
    have k2 := k.2.1
    exact Or.inr ⟨k1, by omega⟩
/-- the entry of that name, in the archive in use -/
def ARK (g : Int → Int) (f : Int) (lm : List Int32) (x : Int) (r : Int → Int) (lh ld : List Int32) (z : Int) : Prop := ∃ (o : Int → Int) (fo : Int), ARX g f lm x o fo ∧ AGB r o fo ∧ (z ≠ -1 → NMD o fo mfn 0 20 z ∧ gl lh z = Hj o fo z ∧ gl ld z = Dj o fo z) ∧ (z = -1 → NNM o fo mfn 0 20)
theorem ARY_at {g r : Int → Int} {f x fr en z : Int} {lm lh ld : List Int32} (h : ARY g f lm x r fr lh ld en) (hg : B255 g) (hr : B255 r) (h0 : 0 ≤ x) (he : 0 ≤ en) (hz : z = LK r mfn (gl lh) 0 20 en.toNat) : ARK g f lm x r lh ld z := by
  obtain ⟨o, fo, c1, c2, c3, c4⟩ := ARY_lk h hg h0 (by decide) he hz
  obtain ⟨o', fo', a1, a2, a3, a4, a5, a6⟩ := h
  obtain ⟨e1, e2⟩ := ARX_one h0 c1 a1
  subst e1
  subst e2
  refine ⟨o, fo, c1, ⟨hr, a3⟩, fun q => ?_, c4⟩
  have m := c3 q
  have m1 := m.1
  have m2 := m.2.1
  exact ⟨m, a6 z m1 (by omega)⟩
theorem ATE_1 {g r : Int → Int} {f x z : Int} {lm lh ld : List Int32} (h : ARK g f lm x r lh ld z) (hz : z ≠ -1) (q : ∀ b : Int → Int, ¬ RD r (gl lh z) (gl ld z) b) : ATE g f lm x := by
  obtain ⟨o, fo, a1, a2, a3, -⟩ := h
  obtain ⟨b1, b2, b3⟩ := a3 hz
  rw [b2, b3] at q
  exact ⟨o, fo, r, a1, a2, z, b1, Or.inl q⟩
/-- the manifest is read into u5 -/
def AMR (g : Int → Int) (f : Int) (lm : List Int32) (x k : Int) (u5 : Int → Int) (f5 : Int) : Prop := ∃ (o : Int → Int) (fo : Int) (r b : Int → Int), ARX g f lm x o fo ∧ AGB r o fo ∧ NMD o fo mfn 0 20 k ∧ RD r (Hj o fo k) (Dj o fo k) b ∧ f5 = W4 r (Hj o fo k + 24) ∧ EQF u5 b f5
theorem AMR_0 {g r b u5 : Int → Int} {f x z f5 : Int} {lm lh ld : List Int32} (h : ARK g f lm x r lh ld z) (hz : z ≠ -1) (q : RD r (gl lh z) (gl ld z) b) (ef : f5 = W4 r (gl lh z + 24)) (eu : EQF u5 b f5) : AMR g f lm x z u5 f5 := by
  obtain ⟨o, fo, a1, a2, a3, -⟩ := h
  obtain ⟨b1, b2, b3⟩ := a3 hz
  rw [b2, b3] at q
  rw [b2] at ef
  exact ⟨o, fo, r, b, a1, a2, b1, q, ef, eu⟩
theorem ATE_2 {g u5 : Int → Int} {f x k f5 e : Int} {lm : List Int32} (h : AMR g f lm x k u5 f5) (hi : IME u5 f5 e) (he : e ≤ f5) (q : ¬ MFV u5 f5 e) : ATE g f lm x := by
  obtain ⟨o, fo, r, b, a1, a2, a3, a4, a5, a6⟩ := h
  exact ⟨o, fo, r, a1, a2, k, a3, Or.inr ⟨b, f5, e, a4, a5, IME_c a6 hi, fun m => q (MFV_c a6.symm he m)⟩⟩
def AMB (g : Int → Int) (f : Int) (lm : List Int32) (x k : Int) (u5 : Int → Int) (f5 e : Int) : Prop := AMR g f lm x k u5 f5 ∧ IME u5 f5 e ∧ e ≤ f5 ∧ MFV u5 f5 e
/-- the line found, of those before a -/
def FNI (u : Int → Int) (f e : Int) (v : Int → Int) (n fd a : Int) : Prop := ∃ i : Nat, a = BRl u f e i ∧ ((fd = -1 ∧ ∀ j : Nat, j < i → ¬ ASK (LIN u f e (BRl u f e j)) v n) ∨ ∃ j : Nat, j < i ∧ fd = BRl u f e j ∧ BRl u f e j < e ∧ ASK (LIN u f e (BRl u f e j)) v n)
theorem FNI_0 {u v : Int → Int} {f e n : Int} : FNI u f e v n (-1) 0 := ⟨0, rfl, Or.inl ⟨rfl, fun j h => absurd h (Nat.not_lt_zero j)⟩⟩
theorem FNI_y {u v : Int → Int} {f e n fd a : Int} (h : FNI u f e v n fd a) (ha : a < e) (q : ASK (LIN u f e a) v n) : FNI u f e v n a (BHD u f e a) := by
  obtain ⟨i, e1, -⟩ := h
  rw [e1] at ha q ⊢
  exact ⟨i + 1, rfl, Or.inr ⟨i, Nat.lt_succ_self i, rfl, ha, q⟩⟩
theorem FNI_n {u v : Int → Int} {f e n fd a : Int} (h : FNI u f e v n fd a) (q : ¬ ASK (LIN u f e a) v n) : FNI u f e v n fd (BHD u f e a) := by
  obtain ⟨i, e1, h⟩ := h
  rw [e1] at q ⊢
  refine ⟨i + 1, rfl, ?_⟩
  rcases h with ⟨h1, h2⟩ | ⟨j, h1, h2, h3, h4⟩
  · refine Or.inl ⟨h1, fun j hj => ?_⟩
    by_cases c : j = i
    · rw [c]; exact q
    · exact h2 j (by omega)
  · exact Or.inr ⟨j, by omega, h2, h3, h4⟩
theorem ATM_0 {g r v r6 : Int → Int} {f x z n f6 : Int} {lm lh ld : List Int32} (h : ARK g f lm x r lh ld z) (hz : z = -1) (h6 : f6 = 0) : ATM g f lm x v n r6 f6 (-1) := by
  obtain ⟨o, fo, a1, a2, -, a4⟩ := h
  exact ⟨o, fo, r, a1, a2, Or.inl ⟨a4 hz, rfl, h6⟩⟩
theorem ATM_n {g u5 v r6 : Int → Int} {f x k f5 e n fd a f6 : Int} {lm : List Int32} (h : AMB g f lm x k u5 f5 e) (q : FNI u5 f5 e v n fd a) (hd : fd < 0) (ha : e ≤ a) (h6 : f6 = 0) : ATM g f lm x v n r6 f6 (-1) := by
  obtain ⟨⟨o, fo, r, b, a1, a2, a3, a4, a5, a6⟩, hi, he, m⟩ := h
  refine ⟨o, fo, r, a1, a2, Or.inr ⟨k, b, f5, e, a3, a4, a5, IME_c a6 hi, MFV_c a6 he m, VLX_c a6 he (Or.inl ⟨rfl, h6, fun j hj => ?_⟩)⟩⟩
  obtain ⟨i, e1, q⟩ := q
  rcases q with ⟨-, q⟩ | ⟨j', q1, q2, -, -⟩
  · exact q j (BRl_le (u := u5) (f := f5) (e := e) (by omega))
  · have := BRl_0 u5 f5 e j'
    omega
theorem ATM_y {g u5 v r6 : Int → Int} {f x k f5 e n fd a f6 z : Int} {lm : List Int32} (h : AMB g f lm x k u5 f5 e) (q : FNI u5 f5 e v n fd a) (hd : 0 ≤ fd) (kv : KVL (VAL (LIN u5 f5 e fd)) r6 z) (h6 : f6 = z) : ATM g f lm x v n r6 f6 z := by
  obtain ⟨⟨o, fo, r, b, a1, a2, a3, a4, a5, a6⟩, hi, he, m⟩ := h
  obtain ⟨i, e1, q⟩ := q
  rcases q with ⟨q, -⟩ | ⟨j, q1, q2, q3, q4⟩
  · omega
  · rw [q2] at kv
    exact ⟨o, fo, r, a1, a2, Or.inr ⟨k, b, f5, e, a3, a4, a5, IME_c a6 hi, MFV_c a6 he m, VLX_c a6 he (Or.inr ⟨j, q3, q4, kv, h6⟩)⟩⟩

set_option maxHeartbeats 4000000 in
theorem s_M_ewordByte {ξ : Nat → Option (Nat × List Int32)} (d : Nat) (x : Int) (y : Int) (σ : qH) (rx : -2147483648 ≤ x ∧ x ≤ 2147483647) (ry : -2147483648 ≤ y ∧ y ≤ 2147483647) (pre0 : 0 ≤ y) : T ξ d j_M_wordByte 0 (lv_args 0 [J x, J y]) [] σ (fun v σ' => ∃ (z : Int), v = some (J z) ∧ σ' = σ ∧ 0 ≤ z ∧ z ≤ 255 ∧ (x = 1 → y ≤ 19 → z = mfn y)) := by
  refine T.go 1 (fun n9 => (rfl : _ = exe ξ n9 d j_M_wordByte 1 [(0, J x), (1, J y)] [J x] σ)) ?_
  refine T.if_ne rfl rfl (by omega) (fun c1 => ?_) (fun c1 => ?_)
  · refine T.go 3 (fun n9 => (rfl : _ = exe ξ n9 d j_M_wordByte 15 [(0, J x), (1, J y), (2, JL 5567949153222872646)] [J x] σ)) ?_
    refine T.if_ne rfl rfl (by omega) (fun c2 => ?_) (fun c2 => ?_)
    · refine T.go 3 (fun n9 => (rfl : _ = exe ξ n9 d j_M_wordByte 30 [(0, J x), (1, J y), (2, JL 5567949153222872646), (4, JL 3408452297481930067)] [J x] σ)) ?_
      refine T.if_ne rfl rfl (by omega) (fun c3 => ?_) (fun c3 => ?_)
      · refine T.go 4 (fun n9 => (rfl : _ = exe ξ n9 d j_M_wordByte 45 [(0, J x), (1, J y), (2, JL 5567949153222872646), (4, JL 3408452297481930067), (6, JL 6065870711157686272)] [J 23, J y] σ)) ?_
        refine T.icmp_le rfl rfl (by omega) (by omega) (fun c4 => ?_) (fun c4 => ?_)
        · refine T.go 2 (fun n9 => (rfl : _ = exe ξ n9 d j_M_wordByte 53 [(0, J x), (1, J y), (2, JL 5567949153222872646), (4, JL 3408452297481930067), (6, JL 6065870711157686272)] [J 8, J y] σ)) ?_
          refine T.icmp_ge rfl rfl (by omega) (by omega) (fun c5 => ?_) (fun c5 => ?_)
          · refine T.go 2 (fun n9 => (rfl : _ = exe ξ n9 d j_M_wordByte 63 [(0, J x), (1, J y), (2, JL 5567949153222872646), (4, JL 3408452297481930067), (6, JL 6065870711157686272)] [J 16, J y] σ)) ?_
            refine T.icmp_ge rfl rfl (by omega) (by omega) (fun c6 => ?_) (fun c6 => ?_)
            · refine T.go 7 (fun n9 => (rfl : _ = exe ξ n9 d j_M_wordByte 84 [(0, J x), (1, J y), (2, JL 5567949153222872646), (4, JL 3408452297481930067), (6, JL 6065870711157686272), (8, JL 6065870711157686272)] [J 8, J y, J 8, J 56, JL 6065870711157686272] σ)) ?_
              refine T.iremc (c := 8) rfl (by decide) (by omega) ?_
              refine T.imul rfl ?_
              refine T.isub rfl ?_
              refine T.lshrp rfl (by omega) (by omega) ?_
              refine T.l2i rfl ?_
              refine T.go 1 (fun n9 => (rfl : _ = exe ξ n9 d j_M_wordByte 92 [(0, J x), (1, J y), (2, JL 5567949153222872646), (4, JL 3408452297481930067), (6, JL 6065870711157686272), (8, JL 6065870711157686272)] [J 255, J (6065870711157686272 / P2 (56 - (8 * (y % 8))))] σ)) ?_
              refine T.iandw rfl ?_
              exact T.ireti rfl rfl ⟨_, rfl, rfl, by omega, by omega, (fun h1 h2 => by first | (exfalso; omega) | (rcases (by omega : y = 0 ∨ y = 1 ∨ y = 2 ∨ y = 3 ∨ y = 4 ∨ y = 5 ∨ y = 6 ∨ y = 7) with h | h | h | h | h | h | h | h <;> (rw [h]; decide +kernel)) | (rcases (by omega : y = 8 ∨ y = 9 ∨ y = 10 ∨ y = 11 ∨ y = 12 ∨ y = 13 ∨ y = 14 ∨ y = 15) with h | h | h | h | h | h | h | h <;> (rw [h]; decide +kernel)) | (rcases (by omega : y = 16 ∨ y = 17 ∨ y = 18 ∨ y = 19) with h | h | h | h <;> (rw [h]; decide +kernel)))⟩
            · refine T.go 8 (fun n9 => (rfl : _ = exe ξ n9 d j_M_wordByte 84 [(0, J x), (1, J y), (2, JL 5567949153222872646), (4, JL 3408452297481930067), (6, JL 6065870711157686272), (8, JL 3408452297481930067)] [J 8, J y, J 8, J 56, JL 3408452297481930067] σ)) ?_
              refine T.iremc (c := 8) rfl (by decide) (by omega) ?_
              refine T.imul rfl ?_
              refine T.isub rfl ?_
              refine T.lshrp rfl (by omega) (by omega) ?_
              refine T.l2i rfl ?_
              refine T.go 1 (fun n9 => (rfl : _ = exe ξ n9 d j_M_wordByte 92 [(0, J x), (1, J y), (2, JL 5567949153222872646), (4, JL 3408452297481930067), (6, JL 6065870711157686272), (8, JL 3408452297481930067)] [J 255, J (3408452297481930067 / P2 (56 - (8 * (y % 8))))] σ)) ?_
              refine T.iandw rfl ?_
              exact T.ireti rfl rfl ⟨_, rfl, rfl, by omega, by omega, (fun h1 h2 => by first | (exfalso; omega) | (rcases (by omega : y = 0 ∨ y = 1 ∨ y = 2 ∨ y = 3 ∨ y = 4 ∨ y = 5 ∨ y = 6 ∨ y = 7) with h | h | h | h | h | h | h | h <;> (rw [h]; decide +kernel)) | (rcases (by omega : y = 8 ∨ y = 9 ∨ y = 10 ∨ y = 11 ∨ y = 12 ∨ y = 13 ∨ y = 14 ∨ y = 15) with h | h | h | h | h | h | h | h <;> (rw [h]; decide +kernel)) | (rcases (by omega : y = 16 ∨ y = 17 ∨ y = 18 ∨ y = 19) with h | h | h | h <;> (rw [h]; decide +kernel)))⟩
          · refine T.go 8 (fun n9 => (rfl : _ = exe ξ n9 d j_M_wordByte 84 [(0, J x), (1, J y), (2, JL 5567949153222872646), (4, JL 3408452297481930067), (6, JL 6065870711157686272), (8, JL 5567949153222872646)] [J 8, J y, J 8, J 56, JL 5567949153222872646] σ)) ?_
            refine T.iremc (c := 8) rfl (by decide) (by omega) ?_
            refine T.imul rfl ?_
            refine T.isub rfl ?_
            refine T.lshrp rfl (by omega) (by omega) ?_
            refine T.l2i rfl ?_
            refine T.go 1 (fun n9 => (rfl : _ = exe ξ n9 d j_M_wordByte 92 [(0, J x), (1, J y), (2, JL 5567949153222872646), (4, JL 3408452297481930067), (6, JL 6065870711157686272), (8, JL 5567949153222872646)] [J 255, J (5567949153222872646 / P2 (56 - (8 * (y % 8))))] σ)) ?_
            refine T.iandw rfl ?_
            exact T.ireti rfl rfl ⟨_, rfl, rfl, by omega, by omega, (fun h1 h2 => by first | (exfalso; omega) | (rcases (by omega : y = 0 ∨ y = 1 ∨ y = 2 ∨ y = 3 ∨ y = 4 ∨ y = 5 ∨ y = 6 ∨ y = 7) with h | h | h | h | h | h | h | h <;> (rw [h]; decide +kernel)) | (rcases (by omega : y = 8 ∨ y = 9 ∨ y = 10 ∨ y = 11 ∨ y = 12 ∨ y = 13 ∨ y = 14 ∨ y = 15) with h | h | h | h | h | h | h | h <;> (rw [h]; decide +kernel)) | (rcases (by omega : y = 16 ∨ y = 17 ∨ y = 18 ∨ y = 19) with h | h | h | h <;> (rw [h]; decide +kernel)))⟩
        · refine T.go 1 (fun n9 => (rfl : _ = exe ξ n9 d j_M_wordByte 49 [(0, J x), (1, J y), (2, JL 5567949153222872646), (4, JL 3408452297481930067), (6, JL 6065870711157686272)] [J 0] σ)) ?_
          exact T.ireti rfl rfl ⟨_, rfl, rfl, by omega, by omega, (fun h1 h2 => by first | (exfalso; omega) | (rcases (by omega : y = 0 ∨ y = 1 ∨ y = 2 ∨ y = 3 ∨ y = 4 ∨ y = 5 ∨ y = 6 ∨ y = 7) with h | h | h | h | h | h | h | h <;> (rw [h]; decide +kernel)) | (rcases (by omega : y = 8 ∨ y = 9 ∨ y = 10 ∨ y = 11 ∨ y = 12 ∨ y = 13 ∨ y = 14 ∨ y = 15) with h | h | h | h | h | h | h | h <;> (rw [h]; decide +kernel)) | (rcases (by omega : y = 16 ∨ y = 17 ∨ y = 18 ∨ y = 19) with h | h | h | h <;> (rw [h]; decide +kernel)))⟩
      · refine T.go 5 (fun n9 => (rfl : _ = exe ξ n9 d j_M_wordByte 45 [(0, J x), (1, J y), (2, JL 5567949153222872646), (4, JL 3408452297481930067), (6, JL 0)] [J 23, J y] σ)) ?_
        refine T.icmp_le rfl rfl (by omega) (by omega) (fun c7 => ?_) (fun c7 => ?_)
        · refine T.go 2 (fun n9 => (rfl : _ = exe ξ n9 d j_M_wordByte 53 [(0, J x), (1, J y), (2, JL 5567949153222872646), (4, JL 3408452297481930067), (6, JL 0)] [J 8, J y] σ)) ?_
          refine T.icmp_ge rfl rfl (by omega) (by omega) (fun c8 => ?_) (fun c8 => ?_)
          · refine T.go 2 (fun n9 => (rfl : _ = exe ξ n9 d j_M_wordByte 63 [(0, J x), (1, J y), (2, JL 5567949153222872646), (4, JL 3408452297481930067), (6, JL 0)] [J 16, J y] σ)) ?_
            refine T.icmp_ge rfl rfl (by omega) (by omega) (fun c9 => ?_) (fun c9 => ?_)
            · refine T.go 7 (fun n9 => (rfl : _ = exe ξ n9 d j_M_wordByte 84 [(0, J x), (1, J y), (2, JL 5567949153222872646), (4, JL 3408452297481930067), (6, JL 0), (8, JL 0)] [J 8, J y, J 8, J 56, JL 0] σ)) ?_
              refine T.iremc (c := 8) rfl (by decide) (by omega) ?_
              refine T.imul rfl ?_
              refine T.isub rfl ?_
              refine T.lshrp rfl (by omega) (by omega) ?_
              refine T.l2i rfl ?_
              refine T.go 1 (fun n9 => (rfl : _ = exe ξ n9 d j_M_wordByte 92 [(0, J x), (1, J y), (2, JL 5567949153222872646), (4, JL 3408452297481930067), (6, JL 0), (8, JL 0)] [J 255, J (0 / P2 (56 - (8 * (y % 8))))] σ)) ?_
              refine T.iandw rfl ?_
              exact T.ireti rfl rfl ⟨_, rfl, rfl, by omega, by omega, (fun h1 h2 => by first | (exfalso; omega) | (rcases (by omega : y = 0 ∨ y = 1 ∨ y = 2 ∨ y = 3 ∨ y = 4 ∨ y = 5 ∨ y = 6 ∨ y = 7) with h | h | h | h | h | h | h | h <;> (rw [h]; decide +kernel)) | (rcases (by omega : y = 8 ∨ y = 9 ∨ y = 10 ∨ y = 11 ∨ y = 12 ∨ y = 13 ∨ y = 14 ∨ y = 15) with h | h | h | h | h | h | h | h <;> (rw [h]; decide +kernel)) | (rcases (by omega : y = 16 ∨ y = 17 ∨ y = 18 ∨ y = 19) with h | h | h | h <;> (rw [h]; decide +kernel)))⟩
            · refine T.go 8 (fun n9 => (rfl : _ = exe ξ n9 d j_M_wordByte 84 [(0, J x), (1, J y), (2, JL 5567949153222872646), (4, JL 3408452297481930067), (6, JL 0), (8, JL 3408452297481930067)] [J 8, J y, J 8, J 56, JL 3408452297481930067] σ)) ?_
              refine T.iremc (c := 8) rfl (by decide) (by omega) ?_
              refine T.imul rfl ?_
              refine T.isub rfl ?_
              refine T.lshrp rfl (by omega) (by omega) ?_
              refine T.l2i rfl ?_
              refine T.go 1 (fun n9 => (rfl : _ = exe ξ n9 d j_M_wordByte 92 [(0, J x), (1, J y), (2, JL 5567949153222872646), (4, JL 3408452297481930067), (6, JL 0), (8, JL 3408452297481930067)] [J 255, J (3408452297481930067 / P2 (56 - (8 * (y % 8))))] σ)) ?_
              refine T.iandw rfl ?_
              exact T.ireti rfl rfl ⟨_, rfl, rfl, by omega, by omega, (fun h1 h2 => by first | (exfalso; omega) | (rcases (by omega : y = 0 ∨ y = 1 ∨ y = 2 ∨ y = 3 ∨ y = 4 ∨ y = 5 ∨ y = 6 ∨ y = 7) with h | h | h | h | h | h | h | h <;> (rw [h]; decide +kernel)) | (rcases (by omega : y = 8 ∨ y = 9 ∨ y = 10 ∨ y = 11 ∨ y = 12 ∨ y = 13 ∨ y = 14 ∨ y = 15) with h | h | h | h | h | h | h | h <;> (rw [h]; decide +kernel)) | (rcases (by omega : y = 16 ∨ y = 17 ∨ y = 18 ∨ y = 19) with h | h | h | h <;> (rw [h]; decide +kernel)))⟩
          · refine T.go 8 (fun n9 => (rfl : _ = exe ξ n9 d j_M_wordByte 84 [(0, J x), (1, J y), (2, JL 5567949153222872646), (4, JL 3408452297481930067), (6, JL 0), (8, JL 5567949153222872646)] [J 8, J y, J 8, J 56, JL 5567949153222872646] σ)) ?_
            refine T.iremc (c := 8) rfl (by decide) (by omega) ?_
            refine T.imul rfl ?_
            refine T.isub rfl ?_
            refine T.lshrp rfl (by omega) (by omega) ?_
            refine T.l2i rfl ?_
            refine T.go 1 (fun n9 => (rfl : _ = exe ξ n9 d j_M_wordByte 92 [(0, J x), (1, J y), (2, JL 5567949153222872646), (4, JL 3408452297481930067), (6, JL 0), (8, JL 5567949153222872646)] [J 255, J (5567949153222872646 / P2 (56 - (8 * (y % 8))))] σ)) ?_
            refine T.iandw rfl ?_
            exact T.ireti rfl rfl ⟨_, rfl, rfl, by omega, by omega, (fun h1 h2 => by first | (exfalso; omega) | (rcases (by omega : y = 0 ∨ y = 1 ∨ y = 2 ∨ y = 3 ∨ y = 4 ∨ y = 5 ∨ y = 6 ∨ y = 7) with h | h | h | h | h | h | h | h <;> (rw [h]; decide +kernel)) | (rcases (by omega : y = 8 ∨ y = 9 ∨ y = 10 ∨ y = 11 ∨ y = 12 ∨ y = 13 ∨ y = 14 ∨ y = 15) with h | h | h | h | h | h | h | h <;> (rw [h]; decide +kernel)) | (rcases (by omega : y = 16 ∨ y = 17 ∨ y = 18 ∨ y = 19) with h | h | h | h <;> (rw [h]; decide +kernel)))⟩
        · refine T.go 1 (fun n9 => (rfl : _ = exe ξ n9 d j_M_wordByte 49 [(0, J x), (1, J y), (2, JL 5567949153222872646), (4, JL 3408452297481930067), (6, JL 0)] [J 0] σ)) ?_
          exact T.ireti rfl rfl ⟨_, rfl, rfl, by omega, by omega, (fun h1 h2 => by first | (exfalso; omega) | (rcases (by omega : y = 0 ∨ y = 1 ∨ y = 2 ∨ y = 3 ∨ y = 4 ∨ y = 5 ∨ y = 6 ∨ y = 7) with h | h | h | h | h | h | h | h <;> (rw [h]; decide +kernel)) | (rcases (by omega : y = 8 ∨ y = 9 ∨ y = 10 ∨ y = 11 ∨ y = 12 ∨ y = 13 ∨ y = 14 ∨ y = 15) with h | h | h | h | h | h | h | h <;> (rw [h]; decide +kernel)) | (rcases (by omega : y = 16 ∨ y = 17 ∨ y = 18 ∨ y = 19) with h | h | h | h <;> (rw [h]; decide +kernel)))⟩
    · refine T.go 4 (fun n9 => (rfl : _ = exe ξ n9 d j_M_wordByte 30 [(0, J x), (1, J y), (2, JL 5567949153222872646), (4, JL 8358680908399640576)] [J x] σ)) ?_
      refine T.if_ne rfl rfl (by omega) (fun c10 => ?_) (fun c10 => ?_)
      · refine T.go 4 (fun n9 => (rfl : _ = exe ξ n9 d j_M_wordByte 45 [(0, J x), (1, J y), (2, JL 5567949153222872646), (4, JL 8358680908399640576), (6, JL 6065870711157686272)] [J 23, J y] σ)) ?_
        refine T.icmp_le rfl rfl (by omega) (by omega) (fun c11 => ?_) (fun c11 => ?_)
        · refine T.go 2 (fun n9 => (rfl : _ = exe ξ n9 d j_M_wordByte 53 [(0, J x), (1, J y), (2, JL 5567949153222872646), (4, JL 8358680908399640576), (6, JL 6065870711157686272)] [J 8, J y] σ)) ?_
          refine T.icmp_ge rfl rfl (by omega) (by omega) (fun c12 => ?_) (fun c12 => ?_)
          · refine T.go 2 (fun n9 => (rfl : _ = exe ξ n9 d j_M_wordByte 63 [(0, J x), (1, J y), (2, JL 5567949153222872646), (4, JL 8358680908399640576), (6, JL 6065870711157686272)] [J 16, J y] σ)) ?_
            refine T.icmp_ge rfl rfl (by omega) (by omega) (fun c13 => ?_) (fun c13 => ?_)
            · refine T.go 7 (fun n9 => (rfl : _ = exe ξ n9 d j_M_wordByte 84 [(0, J x), (1, J y), (2, JL 5567949153222872646), (4, JL 8358680908399640576), (6, JL 6065870711157686272), (8, JL 6065870711157686272)] [J 8, J y, J 8, J 56, JL 6065870711157686272] σ)) ?_
              refine T.iremc (c := 8) rfl (by decide) (by omega) ?_
              refine T.imul rfl ?_
              refine T.isub rfl ?_
              refine T.lshrp rfl (by omega) (by omega) ?_
              refine T.l2i rfl ?_
              refine T.go 1 (fun n9 => (rfl : _ = exe ξ n9 d j_M_wordByte 92 [(0, J x), (1, J y), (2, JL 5567949153222872646), (4, JL 8358680908399640576), (6, JL 6065870711157686272), (8, JL 6065870711157686272)] [J 255, J (6065870711157686272 / P2 (56 - (8 * (y % 8))))] σ)) ?_
              refine T.iandw rfl ?_
              exact T.ireti rfl rfl ⟨_, rfl, rfl, by omega, by omega, (fun h1 h2 => by first | (exfalso; omega) | (rcases (by omega : y = 0 ∨ y = 1 ∨ y = 2 ∨ y = 3 ∨ y = 4 ∨ y = 5 ∨ y = 6 ∨ y = 7) with h | h | h | h | h | h | h | h <;> (rw [h]; decide +kernel)) | (rcases (by omega : y = 8 ∨ y = 9 ∨ y = 10 ∨ y = 11 ∨ y = 12 ∨ y = 13 ∨ y = 14 ∨ y = 15) with h | h | h | h | h | h | h | h <;> (rw [h]; decide +kernel)) | (rcases (by omega : y = 16 ∨ y = 17 ∨ y = 18 ∨ y = 19) with h | h | h | h <;> (rw [h]; decide +kernel)))⟩
            · refine T.go 8 (fun n9 => (rfl : _ = exe ξ n9 d j_M_wordByte 84 [(0, J x), (1, J y), (2, JL 5567949153222872646), (4, JL 8358680908399640576), (6, JL 6065870711157686272), (8, JL 8358680908399640576)] [J 8, J y, J 8, J 56, JL 8358680908399640576] σ)) ?_
              refine T.iremc (c := 8) rfl (by decide) (by omega) ?_
              refine T.imul rfl ?_
              refine T.isub rfl ?_
              refine T.lshrp rfl (by omega) (by omega) ?_
              refine T.l2i rfl ?_
              refine T.go 1 (fun n9 => (rfl : _ = exe ξ n9 d j_M_wordByte 92 [(0, J x), (1, J y), (2, JL 5567949153222872646), (4, JL 8358680908399640576), (6, JL 6065870711157686272), (8, JL 8358680908399640576)] [J 255, J (8358680908399640576 / P2 (56 - (8 * (y % 8))))] σ)) ?_
              refine T.iandw rfl ?_
              exact T.ireti rfl rfl ⟨_, rfl, rfl, by omega, by omega, (fun h1 h2 => by first | (exfalso; omega) | (rcases (by omega : y = 0 ∨ y = 1 ∨ y = 2 ∨ y = 3 ∨ y = 4 ∨ y = 5 ∨ y = 6 ∨ y = 7) with h | h | h | h | h | h | h | h <;> (rw [h]; decide +kernel)) | (rcases (by omega : y = 8 ∨ y = 9 ∨ y = 10 ∨ y = 11 ∨ y = 12 ∨ y = 13 ∨ y = 14 ∨ y = 15) with h | h | h | h | h | h | h | h <;> (rw [h]; decide +kernel)) | (rcases (by omega : y = 16 ∨ y = 17 ∨ y = 18 ∨ y = 19) with h | h | h | h <;> (rw [h]; decide +kernel)))⟩
          · refine T.go 8 (fun n9 => (rfl : _ = exe ξ n9 d j_M_wordByte 84 [(0, J x), (1, J y), (2, JL 5567949153222872646), (4, JL 8358680908399640576), (6, JL 6065870711157686272), (8, JL 5567949153222872646)] [J 8, J y, J 8, J 56, JL 5567949153222872646] σ)) ?_
            refine T.iremc (c := 8) rfl (by decide) (by omega) ?_
            refine T.imul rfl ?_
            refine T.isub rfl ?_
            refine T.lshrp rfl (by omega) (by omega) ?_
            refine T.l2i rfl ?_
            refine T.go 1 (fun n9 => (rfl : _ = exe ξ n9 d j_M_wordByte 92 [(0, J x), (1, J y), (2, JL 5567949153222872646), (4, JL 8358680908399640576), (6, JL 6065870711157686272), (8, JL 5567949153222872646)] [J 255, J (5567949153222872646 / P2 (56 - (8 * (y % 8))))] σ)) ?_
            refine T.iandw rfl ?_
            exact T.ireti rfl rfl ⟨_, rfl, rfl, by omega, by omega, (fun h1 h2 => by first | (exfalso; omega) | (rcases (by omega : y = 0 ∨ y = 1 ∨ y = 2 ∨ y = 3 ∨ y = 4 ∨ y = 5 ∨ y = 6 ∨ y = 7) with h | h | h | h | h | h | h | h <;> (rw [h]; decide +kernel)) | (rcases (by omega : y = 8 ∨ y = 9 ∨ y = 10 ∨ y = 11 ∨ y = 12 ∨ y = 13 ∨ y = 14 ∨ y = 15) with h | h | h | h | h | h | h | h <;> (rw [h]; decide +kernel)) | (rcases (by omega : y = 16 ∨ y = 17 ∨ y = 18 ∨ y = 19) with h | h | h | h <;> (rw [h]; decide +kernel)))⟩
        · refine T.go 1 (fun n9 => (rfl : _ = exe ξ n9 d j_M_wordByte 49 [(0, J x), (1, J y), (2, JL 5567949153222872646), (4, JL 8358680908399640576), (6, JL 6065870711157686272)] [J 0] σ)) ?_
          exact T.ireti rfl rfl ⟨_, rfl, rfl, by omega, by omega, (fun h1 h2 => by first | (exfalso; omega) | (rcases (by omega : y = 0 ∨ y = 1 ∨ y = 2 ∨ y = 3 ∨ y = 4 ∨ y = 5 ∨ y = 6 ∨ y = 7) with h | h | h | h | h | h | h | h <;> (rw [h]; decide +kernel)) | (rcases (by omega : y = 8 ∨ y = 9 ∨ y = 10 ∨ y = 11 ∨ y = 12 ∨ y = 13 ∨ y = 14 ∨ y = 15) with h | h | h | h | h | h | h | h <;> (rw [h]; decide +kernel)) | (rcases (by omega : y = 16 ∨ y = 17 ∨ y = 18 ∨ y = 19) with h | h | h | h <;> (rw [h]; decide +kernel)))⟩
      · refine T.go 5 (fun n9 => (rfl : _ = exe ξ n9 d j_M_wordByte 45 [(0, J x), (1, J y), (2, JL 5567949153222872646), (4, JL 8358680908399640576), (6, JL 0)] [J 23, J y] σ)) ?_
        refine T.icmp_le rfl rfl (by omega) (by omega) (fun c14 => ?_) (fun c14 => ?_)
        · refine T.go 2 (fun n9 => (rfl : _ = exe ξ n9 d j_M_wordByte 53 [(0, J x), (1, J y), (2, JL 5567949153222872646), (4, JL 8358680908399640576), (6, JL 0)] [J 8, J y] σ)) ?_
          refine T.icmp_ge rfl rfl (by omega) (by omega) (fun c15 => ?_) (fun c15 => ?_)
          · refine T.go 2 (fun n9 => (rfl : _ = exe ξ n9 d j_M_wordByte 63 [(0, J x), (1, J y), (2, JL 5567949153222872646), (4, JL 8358680908399640576), (6, JL 0)] [J 16, J y] σ)) ?_
            refine T.icmp_ge rfl rfl (by omega) (by omega) (fun c16 => ?_) (fun c16 => ?_)
            · refine T.go 7 (fun n9 => (rfl : _ = exe ξ n9 d j_M_wordByte 84 [(0, J x), (1, J y), (2, JL 5567949153222872646), (4, JL 8358680908399640576), (6, JL 0), (8, JL 0)] [J 8, J y, J 8, J 56, JL 0] σ)) ?_
              refine T.iremc (c := 8) rfl (by decide) (by omega) ?_
              refine T.imul rfl ?_
              refine T.isub rfl ?_
              refine T.lshrp rfl (by omega) (by omega) ?_
              refine T.l2i rfl ?_
              refine T.go 1 (fun n9 => (rfl : _ = exe ξ n9 d j_M_wordByte 92 [(0, J x), (1, J y), (2, JL 5567949153222872646), (4, JL 8358680908399640576), (6, JL 0), (8, JL 0)] [J 255, J (0 / P2 (56 - (8 * (y % 8))))] σ)) ?_
              refine T.iandw rfl ?_
              exact T.ireti rfl rfl ⟨_, rfl, rfl, by omega, by omega, (fun h1 h2 => by first | (exfalso; omega) | (rcases (by omega : y = 0 ∨ y = 1 ∨ y = 2 ∨ y = 3 ∨ y = 4 ∨ y = 5 ∨ y = 6 ∨ y = 7) with h | h | h | h | h | h | h | h <;> (rw [h]; decide +kernel)) | (rcases (by omega : y = 8 ∨ y = 9 ∨ y = 10 ∨ y = 11 ∨ y = 12 ∨ y = 13 ∨ y = 14 ∨ y = 15) with h | h | h | h | h | h | h | h <;> (rw [h]; decide +kernel)) | (rcases (by omega : y = 16 ∨ y = 17 ∨ y = 18 ∨ y = 19) with h | h | h | h <;> (rw [h]; decide +kernel)))⟩
            · refine T.go 8 (fun n9 => (rfl : _ = exe ξ n9 d j_M_wordByte 84 [(0, J x), (1, J y), (2, JL 5567949153222872646), (4, JL 8358680908399640576), (6, JL 0), (8, JL 8358680908399640576)] [J 8, J y, J 8, J 56, JL 8358680908399640576] σ)) ?_
              refine T.iremc (c := 8) rfl (by decide) (by omega) ?_
              refine T.imul rfl ?_
              refine T.isub rfl ?_
              refine T.lshrp rfl (by omega) (by omega) ?_
              refine T.l2i rfl ?_
              refine T.go 1 (fun n9 => (rfl : _ = exe ξ n9 d j_M_wordByte 92 [(0, J x), (1, J y), (2, JL 5567949153222872646), (4, JL 8358680908399640576), (6, JL 0), (8, JL 8358680908399640576)] [J 255, J (8358680908399640576 / P2 (56 - (8 * (y % 8))))] σ)) ?_
              refine T.iandw rfl ?_
              exact T.ireti rfl rfl ⟨_, rfl, rfl, by omega, by omega, (fun h1 h2 => by first | (exfalso; omega) | (rcases (by omega : y = 0 ∨ y = 1 ∨ y = 2 ∨ y = 3 ∨ y = 4 ∨ y = 5 ∨ y = 6 ∨ y = 7) with h | h | h | h | h | h | h | h <;> (rw [h]; decide +kernel)) | (rcases (by omega : y = 8 ∨ y = 9 ∨ y = 10 ∨ y = 11 ∨ y = 12 ∨ y = 13 ∨ y = 14 ∨ y = 15) with h | h | h | h | h | h | h | h <;> (rw [h]; decide +kernel)) | (rcases (by omega : y = 16 ∨ y = 17 ∨ y = 18 ∨ y = 19) with h | h | h | h <;> (rw [h]; decide +kernel)))⟩
          · refine T.go 8 (fun n9 => (rfl : _ = exe ξ n9 d j_M_wordByte 84 [(0, J x), (1, J y), (2, JL 5567949153222872646), (4, JL 8358680908399640576), (6, JL 0), (8, JL 5567949153222872646)] [J 8, J y, J 8, J 56, JL 5567949153222872646] σ)) ?_
            refine T.iremc (c := 8) rfl (by decide) (by omega) ?_
            refine T.imul rfl ?_
            refine T.isub rfl ?_
            refine T.lshrp rfl (by omega) (by omega) ?_
            refine T.l2i rfl ?_
            refine T.go 1 (fun n9 => (rfl : _ = exe ξ n9 d j_M_wordByte 92 [(0, J x), (1, J y), (2, JL 5567949153222872646), (4, JL 8358680908399640576), (6, JL 0), (8, JL 5567949153222872646)] [J 255, J (5567949153222872646 / P2 (56 - (8 * (y % 8))))] σ)) ?_
            refine T.iandw rfl ?_
            exact T.ireti rfl rfl ⟨_, rfl, rfl, by omega, by omega, (fun h1 h2 => by first | (exfalso; omega) | (rcases (by omega : y = 0 ∨ y = 1 ∨ y = 2 ∨ y = 3 ∨ y = 4 ∨ y = 5 ∨ y = 6 ∨ y = 7) with h | h | h | h | h | h | h | h <;> (rw [h]; decide +kernel)) | (rcases (by omega : y = 8 ∨ y = 9 ∨ y = 10 ∨ y = 11 ∨ y = 12 ∨ y = 13 ∨ y = 14 ∨ y = 15) with h | h | h | h | h | h | h | h <;> (rw [h]; decide +kernel)) | (rcases (by omega : y = 16 ∨ y = 17 ∨ y = 18 ∨ y = 19) with h | h | h | h <;> (rw [h]; decide +kernel)))⟩
        · refine T.go 1 (fun n9 => (rfl : _ = exe ξ n9 d j_M_wordByte 49 [(0, J x), (1, J y), (2, JL 5567949153222872646), (4, JL 8358680908399640576), (6, JL 0)] [J 0] σ)) ?_
          exact T.ireti rfl rfl ⟨_, rfl, rfl, by omega, by omega, (fun h1 h2 => by first | (exfalso; omega) | (rcases (by omega : y = 0 ∨ y = 1 ∨ y = 2 ∨ y = 3 ∨ y = 4 ∨ y = 5 ∨ y = 6 ∨ y = 7) with h | h | h | h | h | h | h | h <;> (rw [h]; decide +kernel)) | (rcases (by omega : y = 8 ∨ y = 9 ∨ y = 10 ∨ y = 11 ∨ y = 12 ∨ y = 13 ∨ y = 14 ∨ y = 15) with h | h | h | h | h | h | h | h <;> (rw [h]; decide +kernel)) | (rcases (by omega : y = 16 ∨ y = 17 ∨ y = 18 ∨ y = 19) with h | h | h | h <;> (rw [h]; decide +kernel)))⟩
  · refine T.go 4 (fun n9 => (rfl : _ = exe ξ n9 d j_M_wordByte 15 [(0, J x), (1, J y), (2, JL 7597120008391390328)] [J x] σ)) ?_
    refine T.if_ne rfl rfl (by omega) (fun c17 => ?_) (fun c17 => ?_)
    · refine T.go 3 (fun n9 => (rfl : _ = exe ξ n9 d j_M_wordByte 30 [(0, J x), (1, J y), (2, JL 7597120008391390328), (4, JL 3408452297481930067)] [J x] σ)) ?_
      refine T.if_ne rfl rfl (by omega) (fun c18 => ?_) (fun c18 => ?_)
      · refine T.go 4 (fun n9 => (rfl : _ = exe ξ n9 d j_M_wordByte 45 [(0, J x), (1, J y), (2, JL 7597120008391390328), (4, JL 3408452297481930067), (6, JL 6065870711157686272)] [J 23, J y] σ)) ?_
        refine T.icmp_le rfl rfl (by omega) (by omega) (fun c19 => ?_) (fun c19 => ?_)
        · refine T.go 2 (fun n9 => (rfl : _ = exe ξ n9 d j_M_wordByte 53 [(0, J x), (1, J y), (2, JL 7597120008391390328), (4, JL 3408452297481930067), (6, JL 6065870711157686272)] [J 8, J y] σ)) ?_
          refine T.icmp_ge rfl rfl (by omega) (by omega) (fun c20 => ?_) (fun c20 => ?_)
          · refine T.go 2 (fun n9 => (rfl : _ = exe ξ n9 d j_M_wordByte 63 [(0, J x), (1, J y), (2, JL 7597120008391390328), (4, JL 3408452297481930067), (6, JL 6065870711157686272)] [J 16, J y] σ)) ?_
            refine T.icmp_ge rfl rfl (by omega) (by omega) (fun c21 => ?_) (fun c21 => ?_)
            · refine T.go 7 (fun n9 => (rfl : _ = exe ξ n9 d j_M_wordByte 84 [(0, J x), (1, J y), (2, JL 7597120008391390328), (4, JL 3408452297481930067), (6, JL 6065870711157686272), (8, JL 6065870711157686272)] [J 8, J y, J 8, J 56, JL 6065870711157686272] σ)) ?_
              refine T.iremc (c := 8) rfl (by decide) (by omega) ?_
              refine T.imul rfl ?_
              refine T.isub rfl ?_
              refine T.lshrp rfl (by omega) (by omega) ?_
              refine T.l2i rfl ?_
              refine T.go 1 (fun n9 => (rfl : _ = exe ξ n9 d j_M_wordByte 92 [(0, J x), (1, J y), (2, JL 7597120008391390328), (4, JL 3408452297481930067), (6, JL 6065870711157686272), (8, JL 6065870711157686272)] [J 255, J (6065870711157686272 / P2 (56 - (8 * (y % 8))))] σ)) ?_
              refine T.iandw rfl ?_
              exact T.ireti rfl rfl ⟨_, rfl, rfl, by omega, by omega, (fun h1 h2 => by first | (exfalso; omega) | (rcases (by omega : y = 0 ∨ y = 1 ∨ y = 2 ∨ y = 3 ∨ y = 4 ∨ y = 5 ∨ y = 6 ∨ y = 7) with h | h | h | h | h | h | h | h <;> (rw [h]; decide +kernel)) | (rcases (by omega : y = 8 ∨ y = 9 ∨ y = 10 ∨ y = 11 ∨ y = 12 ∨ y = 13 ∨ y = 14 ∨ y = 15) with h | h | h | h | h | h | h | h <;> (rw [h]; decide +kernel)) | (rcases (by omega : y = 16 ∨ y = 17 ∨ y = 18 ∨ y = 19) with h | h | h | h <;> (rw [h]; decide +kernel)))⟩
            · refine T.go 8 (fun n9 => (rfl : _ = exe ξ n9 d j_M_wordByte 84 [(0, J x), (1, J y), (2, JL 7597120008391390328), (4, JL 3408452297481930067), (6, JL 6065870711157686272), (8, JL 3408452297481930067)] [J 8, J y, J 8, J 56, JL 3408452297481930067] σ)) ?_
              refine T.iremc (c := 8) rfl (by decide) (by omega) ?_
              refine T.imul rfl ?_
              refine T.isub rfl ?_
              refine T.lshrp rfl (by omega) (by omega) ?_
              refine T.l2i rfl ?_
              refine T.go 1 (fun n9 => (rfl : _ = exe ξ n9 d j_M_wordByte 92 [(0, J x), (1, J y), (2, JL 7597120008391390328), (4, JL 3408452297481930067), (6, JL 6065870711157686272), (8, JL 3408452297481930067)] [J 255, J (3408452297481930067 / P2 (56 - (8 * (y % 8))))] σ)) ?_
              refine T.iandw rfl ?_
              exact T.ireti rfl rfl ⟨_, rfl, rfl, by omega, by omega, (fun h1 h2 => by first | (exfalso; omega) | (rcases (by omega : y = 0 ∨ y = 1 ∨ y = 2 ∨ y = 3 ∨ y = 4 ∨ y = 5 ∨ y = 6 ∨ y = 7) with h | h | h | h | h | h | h | h <;> (rw [h]; decide +kernel)) | (rcases (by omega : y = 8 ∨ y = 9 ∨ y = 10 ∨ y = 11 ∨ y = 12 ∨ y = 13 ∨ y = 14 ∨ y = 15) with h | h | h | h | h | h | h | h <;> (rw [h]; decide +kernel)) | (rcases (by omega : y = 16 ∨ y = 17 ∨ y = 18 ∨ y = 19) with h | h | h | h <;> (rw [h]; decide +kernel)))⟩
          · refine T.go 8 (fun n9 => (rfl : _ = exe ξ n9 d j_M_wordByte 84 [(0, J x), (1, J y), (2, JL 7597120008391390328), (4, JL 3408452297481930067), (6, JL 6065870711157686272), (8, JL 7597120008391390328)] [J 8, J y, J 8, J 56, JL 7597120008391390328] σ)) ?_
            refine T.iremc (c := 8) rfl (by decide) (by omega) ?_
            refine T.imul rfl ?_
            refine T.isub rfl ?_
            refine T.lshrp rfl (by omega) (by omega) ?_
            refine T.l2i rfl ?_
            refine T.go 1 (fun n9 => (rfl : _ = exe ξ n9 d j_M_wordByte 92 [(0, J x), (1, J y), (2, JL 7597120008391390328), (4, JL 3408452297481930067), (6, JL 6065870711157686272), (8, JL 7597120008391390328)] [J 255, J (7597120008391390328 / P2 (56 - (8 * (y % 8))))] σ)) ?_
            refine T.iandw rfl ?_
            exact T.ireti rfl rfl ⟨_, rfl, rfl, by omega, by omega, (fun h1 h2 => by first | (exfalso; omega) | (rcases (by omega : y = 0 ∨ y = 1 ∨ y = 2 ∨ y = 3 ∨ y = 4 ∨ y = 5 ∨ y = 6 ∨ y = 7) with h | h | h | h | h | h | h | h <;> (rw [h]; decide +kernel)) | (rcases (by omega : y = 8 ∨ y = 9 ∨ y = 10 ∨ y = 11 ∨ y = 12 ∨ y = 13 ∨ y = 14 ∨ y = 15) with h | h | h | h | h | h | h | h <;> (rw [h]; decide +kernel)) | (rcases (by omega : y = 16 ∨ y = 17 ∨ y = 18 ∨ y = 19) with h | h | h | h <;> (rw [h]; decide +kernel)))⟩
        · refine T.go 1 (fun n9 => (rfl : _ = exe ξ n9 d j_M_wordByte 49 [(0, J x), (1, J y), (2, JL 7597120008391390328), (4, JL 3408452297481930067), (6, JL 6065870711157686272)] [J 0] σ)) ?_
          exact T.ireti rfl rfl ⟨_, rfl, rfl, by omega, by omega, (fun h1 h2 => by first | (exfalso; omega) | (rcases (by omega : y = 0 ∨ y = 1 ∨ y = 2 ∨ y = 3 ∨ y = 4 ∨ y = 5 ∨ y = 6 ∨ y = 7) with h | h | h | h | h | h | h | h <;> (rw [h]; decide +kernel)) | (rcases (by omega : y = 8 ∨ y = 9 ∨ y = 10 ∨ y = 11 ∨ y = 12 ∨ y = 13 ∨ y = 14 ∨ y = 15) with h | h | h | h | h | h | h | h <;> (rw [h]; decide +kernel)) | (rcases (by omega : y = 16 ∨ y = 17 ∨ y = 18 ∨ y = 19) with h | h | h | h <;> (rw [h]; decide +kernel)))⟩
      · refine T.go 5 (fun n9 => (rfl : _ = exe ξ n9 d j_M_wordByte 45 [(0, J x), (1, J y), (2, JL 7597120008391390328), (4, JL 3408452297481930067), (6, JL 0)] [J 23, J y] σ)) ?_
        refine T.icmp_le rfl rfl (by omega) (by omega) (fun c22 => ?_) (fun c22 => ?_)
        · refine T.go 2 (fun n9 => (rfl : _ = exe ξ n9 d j_M_wordByte 53 [(0, J x), (1, J y), (2, JL 7597120008391390328), (4, JL 3408452297481930067), (6, JL 0)] [J 8, J y] σ)) ?_
          refine T.icmp_ge rfl rfl (by omega) (by omega) (fun c23 => ?_) (fun c23 => ?_)
          · refine T.go 2 (fun n9 => (rfl : _ = exe ξ n9 d j_M_wordByte 63 [(0, J x), (1, J y), (2, JL 7597120008391390328), (4, JL 3408452297481930067), (6, JL 0)] [J 16, J y] σ)) ?_
            refine T.icmp_ge rfl rfl (by omega) (by omega) (fun c24 => ?_) (fun c24 => ?_)
            · refine T.go 7 (fun n9 => (rfl : _ = exe ξ n9 d j_M_wordByte 84 [(0, J x), (1, J y), (2, JL 7597120008391390328), (4, JL 3408452297481930067), (6, JL 0), (8, JL 0)] [J 8, J y, J 8, J 56, JL 0] σ)) ?_
              refine T.iremc (c := 8) rfl (by decide) (by omega) ?_
              refine T.imul rfl ?_
              refine T.isub rfl ?_
              refine T.lshrp rfl (by omega) (by omega) ?_
              refine T.l2i rfl ?_
              refine T.go 1 (fun n9 => (rfl : _ = exe ξ n9 d j_M_wordByte 92 [(0, J x), (1, J y), (2, JL 7597120008391390328), (4, JL 3408452297481930067), (6, JL 0), (8, JL 0)] [J 255, J (0 / P2 (56 - (8 * (y % 8))))] σ)) ?_
              refine T.iandw rfl ?_
              exact T.ireti rfl rfl ⟨_, rfl, rfl, by omega, by omega, (fun h1 h2 => by first | (exfalso; omega) | (rcases (by omega : y = 0 ∨ y = 1 ∨ y = 2 ∨ y = 3 ∨ y = 4 ∨ y = 5 ∨ y = 6 ∨ y = 7) with h | h | h | h | h | h | h | h <;> (rw [h]; decide +kernel)) | (rcases (by omega : y = 8 ∨ y = 9 ∨ y = 10 ∨ y = 11 ∨ y = 12 ∨ y = 13 ∨ y = 14 ∨ y = 15) with h | h | h | h | h | h | h | h <;> (rw [h]; decide +kernel)) | (rcases (by omega : y = 16 ∨ y = 17 ∨ y = 18 ∨ y = 19) with h | h | h | h <;> (rw [h]; decide +kernel)))⟩
            · refine T.go 8 (fun n9 => (rfl : _ = exe ξ n9 d j_M_wordByte 84 [(0, J x), (1, J y), (2, JL 7597120008391390328), (4, JL 3408452297481930067), (6, JL 0), (8, JL 3408452297481930067)] [J 8, J y, J 8, J 56, JL 3408452297481930067] σ)) ?_
              refine T.iremc (c := 8) rfl (by decide) (by omega) ?_
              refine T.imul rfl ?_
              refine T.isub rfl ?_
              refine T.lshrp rfl (by omega) (by omega) ?_
              refine T.l2i rfl ?_
              refine T.go 1 (fun n9 => (rfl : _ = exe ξ n9 d j_M_wordByte 92 [(0, J x), (1, J y), (2, JL 7597120008391390328), (4, JL 3408452297481930067), (6, JL 0), (8, JL 3408452297481930067)] [J 255, J (3408452297481930067 / P2 (56 - (8 * (y % 8))))] σ)) ?_
              refine T.iandw rfl ?_
              exact T.ireti rfl rfl ⟨_, rfl, rfl, by omega, by omega, (fun h1 h2 => by first | (exfalso; omega) | (rcases (by omega : y = 0 ∨ y = 1 ∨ y = 2 ∨ y = 3 ∨ y = 4 ∨ y = 5 ∨ y = 6 ∨ y = 7) with h | h | h | h | h | h | h | h <;> (rw [h]; decide +kernel)) | (rcases (by omega : y = 8 ∨ y = 9 ∨ y = 10 ∨ y = 11 ∨ y = 12 ∨ y = 13 ∨ y = 14 ∨ y = 15) with h | h | h | h | h | h | h | h <;> (rw [h]; decide +kernel)) | (rcases (by omega : y = 16 ∨ y = 17 ∨ y = 18 ∨ y = 19) with h | h | h | h <;> (rw [h]; decide +kernel)))⟩
          · refine T.go 8 (fun n9 => (rfl : _ = exe ξ n9 d j_M_wordByte 84 [(0, J x), (1, J y), (2, JL 7597120008391390328), (4, JL 3408452297481930067), (6, JL 0), (8, JL 7597120008391390328)] [J 8, J y, J 8, J 56, JL 7597120008391390328] σ)) ?_
            refine T.iremc (c := 8) rfl (by decide) (by omega) ?_
            refine T.imul rfl ?_
            refine T.isub rfl ?_
            refine T.lshrp rfl (by omega) (by omega) ?_
            refine T.l2i rfl ?_
            refine T.go 1 (fun n9 => (rfl : _ = exe ξ n9 d j_M_wordByte 92 [(0, J x), (1, J y), (2, JL 7597120008391390328), (4, JL 3408452297481930067), (6, JL 0), (8, JL 7597120008391390328)] [J 255, J (7597120008391390328 / P2 (56 - (8 * (y % 8))))] σ)) ?_
            refine T.iandw rfl ?_
            exact T.ireti rfl rfl ⟨_, rfl, rfl, by omega, by omega, (fun h1 h2 => by first | (exfalso; omega) | (rcases (by omega : y = 0 ∨ y = 1 ∨ y = 2 ∨ y = 3 ∨ y = 4 ∨ y = 5 ∨ y = 6 ∨ y = 7) with h | h | h | h | h | h | h | h <;> (rw [h]; decide +kernel)) | (rcases (by omega : y = 8 ∨ y = 9 ∨ y = 10 ∨ y = 11 ∨ y = 12 ∨ y = 13 ∨ y = 14 ∨ y = 15) with h | h | h | h | h | h | h | h <;> (rw [h]; decide +kernel)) | (rcases (by omega : y = 16 ∨ y = 17 ∨ y = 18 ∨ y = 19) with h | h | h | h <;> (rw [h]; decide +kernel)))⟩
        · refine T.go 1 (fun n9 => (rfl : _ = exe ξ n9 d j_M_wordByte 49 [(0, J x), (1, J y), (2, JL 7597120008391390328), (4, JL 3408452297481930067), (6, JL 0)] [J 0] σ)) ?_
          exact T.ireti rfl rfl ⟨_, rfl, rfl, by omega, by omega, (fun h1 h2 => by first | (exfalso; omega) | (rcases (by omega : y = 0 ∨ y = 1 ∨ y = 2 ∨ y = 3 ∨ y = 4 ∨ y = 5 ∨ y = 6 ∨ y = 7) with h | h | h | h | h | h | h | h <;> (rw [h]; decide +kernel)) | (rcases (by omega : y = 8 ∨ y = 9 ∨ y = 10 ∨ y = 11 ∨ y = 12 ∨ y = 13 ∨ y = 14 ∨ y = 15) with h | h | h | h | h | h | h | h <;> (rw [h]; decide +kernel)) | (rcases (by omega : y = 16 ∨ y = 17 ∨ y = 18 ∨ y = 19) with h | h | h | h <;> (rw [h]; decide +kernel)))⟩
    · refine T.go 4 (fun n9 => (rfl : _ = exe ξ n9 d j_M_wordByte 30 [(0, J x), (1, J y), (2, JL 7597120008391390328), (4, JL 8358680908399640576)] [J x] σ)) ?_
      refine T.if_ne rfl rfl (by omega) (fun c25 => ?_) (fun c25 => ?_)
      · refine T.go 4 (fun n9 => (rfl : _ = exe ξ n9 d j_M_wordByte 45 [(0, J x), (1, J y), (2, JL 7597120008391390328), (4, JL 8358680908399640576), (6, JL 6065870711157686272)] [J 23, J y] σ)) ?_
        refine T.icmp_le rfl rfl (by omega) (by omega) (fun c26 => ?_) (fun c26 => ?_)
        · refine T.go 2 (fun n9 => (rfl : _ = exe ξ n9 d j_M_wordByte 53 [(0, J x), (1, J y), (2, JL 7597120008391390328), (4, JL 8358680908399640576), (6, JL 6065870711157686272)] [J 8, J y] σ)) ?_
          refine T.icmp_ge rfl rfl (by omega) (by omega) (fun c27 => ?_) (fun c27 => ?_)
          · refine T.go 2 (fun n9 => (rfl : _ = exe ξ n9 d j_M_wordByte 63 [(0, J x), (1, J y), (2, JL 7597120008391390328), (4, JL 8358680908399640576), (6, JL 6065870711157686272)] [J 16, J y] σ)) ?_
            refine T.icmp_ge rfl rfl (by omega) (by omega) (fun c28 => ?_) (fun c28 => ?_)
            · refine T.go 7 (fun n9 => (rfl : _ = exe ξ n9 d j_M_wordByte 84 [(0, J x), (1, J y), (2, JL 7597120008391390328), (4, JL 8358680908399640576), (6, JL 6065870711157686272), (8, JL 6065870711157686272)] [J 8, J y, J 8, J 56, JL 6065870711157686272] σ)) ?_
              refine T.iremc (c := 8) rfl (by decide) (by omega) ?_
              refine T.imul rfl ?_
              refine T.isub rfl ?_
              refine T.lshrp rfl (by omega) (by omega) ?_
              refine T.l2i rfl ?_
              refine T.go 1 (fun n9 => (rfl : _ = exe ξ n9 d j_M_wordByte 92 [(0, J x), (1, J y), (2, JL 7597120008391390328), (4, JL 8358680908399640576), (6, JL 6065870711157686272), (8, JL 6065870711157686272)] [J 255, J (6065870711157686272 / P2 (56 - (8 * (y % 8))))] σ)) ?_
              refine T.iandw rfl ?_
              exact T.ireti rfl rfl ⟨_, rfl, rfl, by omega, by omega, (fun h1 h2 => by first | (exfalso; omega) | (rcases (by omega : y = 0 ∨ y = 1 ∨ y = 2 ∨ y = 3 ∨ y = 4 ∨ y = 5 ∨ y = 6 ∨ y = 7) with h | h | h | h | h | h | h | h <;> (rw [h]; decide +kernel)) | (rcases (by omega : y = 8 ∨ y = 9 ∨ y = 10 ∨ y = 11 ∨ y = 12 ∨ y = 13 ∨ y = 14 ∨ y = 15) with h | h | h | h | h | h | h | h <;> (rw [h]; decide +kernel)) | (rcases (by omega : y = 16 ∨ y = 17 ∨ y = 18 ∨ y = 19) with h | h | h | h <;> (rw [h]; decide +kernel)))⟩
            · refine T.go 8 (fun n9 => (rfl : _ = exe ξ n9 d j_M_wordByte 84 [(0, J x), (1, J y), (2, JL 7597120008391390328), (4, JL 8358680908399640576), (6, JL 6065870711157686272), (8, JL 8358680908399640576)] [J 8, J y, J 8, J 56, JL 8358680908399640576] σ)) ?_
              refine T.iremc (c := 8) rfl (by decide) (by omega) ?_
              refine T.imul rfl ?_
              refine T.isub rfl ?_
              refine T.lshrp rfl (by omega) (by omega) ?_
              refine T.l2i rfl ?_
              refine T.go 1 (fun n9 => (rfl : _ = exe ξ n9 d j_M_wordByte 92 [(0, J x), (1, J y), (2, JL 7597120008391390328), (4, JL 8358680908399640576), (6, JL 6065870711157686272), (8, JL 8358680908399640576)] [J 255, J (8358680908399640576 / P2 (56 - (8 * (y % 8))))] σ)) ?_
              refine T.iandw rfl ?_
              exact T.ireti rfl rfl ⟨_, rfl, rfl, by omega, by omega, (fun h1 h2 => by first | (exfalso; omega) | (rcases (by omega : y = 0 ∨ y = 1 ∨ y = 2 ∨ y = 3 ∨ y = 4 ∨ y = 5 ∨ y = 6 ∨ y = 7) with h | h | h | h | h | h | h | h <;> (rw [h]; decide +kernel)) | (rcases (by omega : y = 8 ∨ y = 9 ∨ y = 10 ∨ y = 11 ∨ y = 12 ∨ y = 13 ∨ y = 14 ∨ y = 15) with h | h | h | h | h | h | h | h <;> (rw [h]; decide +kernel)) | (rcases (by omega : y = 16 ∨ y = 17 ∨ y = 18 ∨ y = 19) with h | h | h | h <;> (rw [h]; decide +kernel)))⟩
          · refine T.go 8 (fun n9 => (rfl : _ = exe ξ n9 d j_M_wordByte 84 [(0, J x), (1, J y), (2, JL 7597120008391390328), (4, JL 8358680908399640576), (6, JL 6065870711157686272), (8, JL 7597120008391390328)] [J 8, J y, J 8, J 56, JL 7597120008391390328] σ)) ?_
            refine T.iremc (c := 8) rfl (by decide) (by omega) ?_
            refine T.imul rfl ?_
            refine T.isub rfl ?_
            refine T.lshrp rfl (by omega) (by omega) ?_
            refine T.l2i rfl ?_
            refine T.go 1 (fun n9 => (rfl : _ = exe ξ n9 d j_M_wordByte 92 [(0, J x), (1, J y), (2, JL 7597120008391390328), (4, JL 8358680908399640576), (6, JL 6065870711157686272), (8, JL 7597120008391390328)] [J 255, J (7597120008391390328 / P2 (56 - (8 * (y % 8))))] σ)) ?_
            refine T.iandw rfl ?_
            exact T.ireti rfl rfl ⟨_, rfl, rfl, by omega, by omega, (fun h1 h2 => by first | (exfalso; omega) | (rcases (by omega : y = 0 ∨ y = 1 ∨ y = 2 ∨ y = 3 ∨ y = 4 ∨ y = 5 ∨ y = 6 ∨ y = 7) with h | h | h | h | h | h | h | h <;> (rw [h]; decide +kernel)) | (rcases (by omega : y = 8 ∨ y = 9 ∨ y = 10 ∨ y = 11 ∨ y = 12 ∨ y = 13 ∨ y = 14 ∨ y = 15) with h | h | h | h | h | h | h | h <;> (rw [h]; decide +kernel)) | (rcases (by omega : y = 16 ∨ y = 17 ∨ y = 18 ∨ y = 19) with h | h | h | h <;> (rw [h]; decide +kernel)))⟩
        · refine T.go 1 (fun n9 => (rfl : _ = exe ξ n9 d j_M_wordByte 49 [(0, J x), (1, J y), (2, JL 7597120008391390328), (4, JL 8358680908399640576), (6, JL 6065870711157686272)] [J 0] σ)) ?_
          exact T.ireti rfl rfl ⟨_, rfl, rfl, by omega, by omega, (fun h1 h2 => by first | (exfalso; omega) | (rcases (by omega : y = 0 ∨ y = 1 ∨ y = 2 ∨ y = 3 ∨ y = 4 ∨ y = 5 ∨ y = 6 ∨ y = 7) with h | h | h | h | h | h | h | h <;> (rw [h]; decide +kernel)) | (rcases (by omega : y = 8 ∨ y = 9 ∨ y = 10 ∨ y = 11 ∨ y = 12 ∨ y = 13 ∨ y = 14 ∨ y = 15) with h | h | h | h | h | h | h | h <;> (rw [h]; decide +kernel)) | (rcases (by omega : y = 16 ∨ y = 17 ∨ y = 18 ∨ y = 19) with h | h | h | h <;> (rw [h]; decide +kernel)))⟩
      · refine T.go 5 (fun n9 => (rfl : _ = exe ξ n9 d j_M_wordByte 45 [(0, J x), (1, J y), (2, JL 7597120008391390328), (4, JL 8358680908399640576), (6, JL 0)] [J 23, J y] σ)) ?_
        refine T.icmp_le rfl rfl (by omega) (by omega) (fun c29 => ?_) (fun c29 => ?_)
        · refine T.go 2 (fun n9 => (rfl : _ = exe ξ n9 d j_M_wordByte 53 [(0, J x), (1, J y), (2, JL 7597120008391390328), (4, JL 8358680908399640576), (6, JL 0)] [J 8, J y] σ)) ?_
          refine T.icmp_ge rfl rfl (by omega) (by omega) (fun c30 => ?_) (fun c30 => ?_)
          · refine T.go 2 (fun n9 => (rfl : _ = exe ξ n9 d j_M_wordByte 63 [(0, J x), (1, J y), (2, JL 7597120008391390328), (4, JL 8358680908399640576), (6, JL 0)] [J 16, J y] σ)) ?_
            refine T.icmp_ge rfl rfl (by omega) (by omega) (fun c31 => ?_) (fun c31 => ?_)
            · refine T.go 7 (fun n9 => (rfl : _ = exe ξ n9 d j_M_wordByte 84 [(0, J x), (1, J y), (2, JL 7597120008391390328), (4, JL 8358680908399640576), (6, JL 0), (8, JL 0)] [J 8, J y, J 8, J 56, JL 0] σ)) ?_
              refine T.iremc (c := 8) rfl (by decide) (by omega) ?_
              refine T.imul rfl ?_
              refine T.isub rfl ?_
              refine T.lshrp rfl (by omega) (by omega) ?_
              refine T.l2i rfl ?_
              refine T.go 1 (fun n9 => (rfl : _ = exe ξ n9 d j_M_wordByte 92 [(0, J x), (1, J y), (2, JL 7597120008391390328), (4, JL 8358680908399640576), (6, JL 0), (8, JL 0)] [J 255, J (0 / P2 (56 - (8 * (y % 8))))] σ)) ?_
              refine T.iandw rfl ?_
              exact T.ireti rfl rfl ⟨_, rfl, rfl, by omega, by omega, (fun h1 h2 => by first | (exfalso; omega) | (rcases (by omega : y = 0 ∨ y = 1 ∨ y = 2 ∨ y = 3 ∨ y = 4 ∨ y = 5 ∨ y = 6 ∨ y = 7) with h | h | h | h | h | h | h | h <;> (rw [h]; decide +kernel)) | (rcases (by omega : y = 8 ∨ y = 9 ∨ y = 10 ∨ y = 11 ∨ y = 12 ∨ y = 13 ∨ y = 14 ∨ y = 15) with h | h | h | h | h | h | h | h <;> (rw [h]; decide +kernel)) | (rcases (by omega : y = 16 ∨ y = 17 ∨ y = 18 ∨ y = 19) with h | h | h | h <;> (rw [h]; decide +kernel)))⟩
            · refine T.go 8 (fun n9 => (rfl : _ = exe ξ n9 d j_M_wordByte 84 [(0, J x), (1, J y), (2, JL 7597120008391390328), (4, JL 8358680908399640576), (6, JL 0), (8, JL 8358680908399640576)] [J 8, J y, J 8, J 56, JL 8358680908399640576] σ)) ?_
              refine T.iremc (c := 8) rfl (by decide) (by omega) ?_
              refine T.imul rfl ?_
              refine T.isub rfl ?_
              refine T.lshrp rfl (by omega) (by omega) ?_
              refine T.l2i rfl ?_
              refine T.go 1 (fun n9 => (rfl : _ = exe ξ n9 d j_M_wordByte 92 [(0, J x), (1, J y), (2, JL 7597120008391390328), (4, JL 8358680908399640576), (6, JL 0), (8, JL 8358680908399640576)] [J 255, J (8358680908399640576 / P2 (56 - (8 * (y % 8))))] σ)) ?_
              refine T.iandw rfl ?_
              exact T.ireti rfl rfl ⟨_, rfl, rfl, by omega, by omega, (fun h1 h2 => by first | (exfalso; omega) | (rcases (by omega : y = 0 ∨ y = 1 ∨ y = 2 ∨ y = 3 ∨ y = 4 ∨ y = 5 ∨ y = 6 ∨ y = 7) with h | h | h | h | h | h | h | h <;> (rw [h]; decide +kernel)) | (rcases (by omega : y = 8 ∨ y = 9 ∨ y = 10 ∨ y = 11 ∨ y = 12 ∨ y = 13 ∨ y = 14 ∨ y = 15) with h | h | h | h | h | h | h | h <;> (rw [h]; decide +kernel)) | (rcases (by omega : y = 16 ∨ y = 17 ∨ y = 18 ∨ y = 19) with h | h | h | h <;> (rw [h]; decide +kernel)))⟩
          · refine T.go 8 (fun n9 => (rfl : _ = exe ξ n9 d j_M_wordByte 84 [(0, J x), (1, J y), (2, JL 7597120008391390328), (4, JL 8358680908399640576), (6, JL 0), (8, JL 7597120008391390328)] [J 8, J y, J 8, J 56, JL 7597120008391390328] σ)) ?_
            refine T.iremc (c := 8) rfl (by decide) (by omega) ?_
            refine T.imul rfl ?_
            refine T.isub rfl ?_
            refine T.lshrp rfl (by omega) (by omega) ?_
            refine T.l2i rfl ?_
            refine T.go 1 (fun n9 => (rfl : _ = exe ξ n9 d j_M_wordByte 92 [(0, J x), (1, J y), (2, JL 7597120008391390328), (4, JL 8358680908399640576), (6, JL 0), (8, JL 7597120008391390328)] [J 255, J (7597120008391390328 / P2 (56 - (8 * (y % 8))))] σ)) ?_
            refine T.iandw rfl ?_
            exact T.ireti rfl rfl ⟨_, rfl, rfl, by omega, by omega, (fun h1 h2 => by first | (exfalso; omega) | (rcases (by omega : y = 0 ∨ y = 1 ∨ y = 2 ∨ y = 3 ∨ y = 4 ∨ y = 5 ∨ y = 6 ∨ y = 7) with h | h | h | h | h | h | h | h <;> (rw [h]; decide +kernel)) | (rcases (by omega : y = 8 ∨ y = 9 ∨ y = 10 ∨ y = 11 ∨ y = 12 ∨ y = 13 ∨ y = 14 ∨ y = 15) with h | h | h | h | h | h | h | h <;> (rw [h]; decide +kernel)) | (rcases (by omega : y = 16 ∨ y = 17 ∨ y = 18 ∨ y = 19) with h | h | h | h <;> (rw [h]; decide +kernel)))⟩
        · refine T.go 1 (fun n9 => (rfl : _ = exe ξ n9 d j_M_wordByte 49 [(0, J x), (1, J y), (2, JL 7597120008391390328), (4, JL 8358680908399640576), (6, JL 0)] [J 0] σ)) ?_
          exact T.ireti rfl rfl ⟨_, rfl, rfl, by omega, by omega, (fun h1 h2 => by first | (exfalso; omega) | (rcases (by omega : y = 0 ∨ y = 1 ∨ y = 2 ∨ y = 3 ∨ y = 4 ∨ y = 5 ∨ y = 6 ∨ y = 7) with h | h | h | h | h | h | h | h <;> (rw [h]; decide +kernel)) | (rcases (by omega : y = 8 ∨ y = 9 ∨ y = 10 ∨ y = 11 ∨ y = 12 ∨ y = 13 ∨ y = 14 ∨ y = 15) with h | h | h | h | h | h | h | h <;> (rw [h]; decide +kernel)) | (rcases (by omega : y = 16 ∨ y = 17 ∨ y = 18 ∨ y = 19) with h | h | h | h <;> (rw [h]; decide +kernel)))⟩

set_option maxHeartbeats 4000000 in
theorem s_M_elistNamed {ξ : Nat → Option (Nat × List Int32)} {c io mo fa pl ns rw en wy wh bi ed sz md bd li wk we : Int} {Lc : List Int64} {la lm ln lh ld lk lt : List Int32} (d : Nat) (x : Int) (σ : qH) (hM : MS σ c io mo fa pl ns rw en wy wh bi ed sz md bd li wk we Lc la lm ln lh ld lk lt) (rx : -2147483648 ≤ x ∧ x ≤ 2147483647) (pre0 : x = 1) (pre1 : HD (gc Lc rw) lh ld en) : T ξ (d + 3) j_M_listNamed 0 (lv_args 0 [.ref 137, J x]) [] σ (fun v σ' => ∃ (z : Int), v = some (J z) ∧ σ' = σ ∧ -1 ≤ z ∧ z ≤ 64 ∧ z = LK (gc Lc rw) mfn (gl lh) 0 20 en.toNat) := by
  have r0 := hM.rg
  have n0 := hM.len
  have loop14 : ∀ (f14 : Nat) (n : Int) (k : Int), n = 20 → 0 ≤ k → k ≤ en → LK (gc Lc rw) mfn (gl lh) 0 20 k.toNat = -1 → (en - k).toNat < f14 → T ξ (d + 3) j_M_listNamed 14 [(0, .ref 137), (1, J x), (2, J n), (3, J k)] [] σ (fun v σ' => ∃ (z : Int), v = some (J z) ∧ σ' = σ ∧ -1 ≤ z ∧ z ≤ 64 ∧ z = LK (gc Lc rw) mfn (gl lh) 0 20 en.toNat) := by
    intro f14
    induction f14 with
    | zero => intro n k i0 i1 i2 i3 hm14; omega
    | succ f14 ih14 =>
      intro n k i0 i1 i2 i3 hm14
      have loop41 : ∀ (f41 : Nat) (q4 : Int) (i : Int), 0 ≤ q4 → q4 ≤ 1 → 0 ≤ i → i ≤ 20 → k < en → (q4 = 0 → ¬ (W2 (gc Lc rw) (gl lh k + 28) = 20 ∧ EQ2 (gc Lc rw) mfn (gl lh k + 46) 0 (20 : Int).toNat = 1)) → (q4 = 1 → W2 (gc Lc rw) (gl lh k + 28) = 20 ∧ EQ2 (gc Lc rw) mfn (gl lh k + 46) 0 i.toNat = 1) → (n - i).toNat < f41 → T ξ (d + 3) j_M_listNamed 41 [(0, .ref 137), (1, J x), (2, J n), (3, J k), (4, J q4), (5, J i)] [] σ (fun v σ' => ∃ (z : Int), v = some (J z) ∧ σ' = σ ∧ -1 ≤ z ∧ z ≤ 64 ∧ z = LK (gc Lc rw) mfn (gl lh) 0 20 en.toNat) := by
        intro f41
        induction f41 with
        | zero => intro q4 i j0 j1 j2 j3 j4 j5 j6 hm41; omega
        | succ f41 ih41 =>
          intro q4 i j0 j1 j2 j3 j4 j5 j6 hm41
          have hdk := pre1 k (by omega) (by omega)
          refine T.go 2 (fun n9 => (rfl : _ = exe ξ n9 (d + 3) j_M_listNamed 44 [(0, .ref 137), (1, J x), (2, J n), (3, J k), (4, J q4), (5, J i)] [J n, J i] σ)) ?_
          refine T.icmp_ge rfl rfl (by omega) (by omega) (fun c1 => ?_) (fun c1 => ?_)
          · refine T.go 1 (fun n9 => (rfl : _ = exe ξ n9 (d + 3) j_M_listNamed 96 [(0, .ref 137), (1, J x), (2, J n), (3, J k), (4, J q4), (5, J i)] [J q4] σ)) ?_
            refine T.if_eq rfl rfl (by omega) (fun c2 => ?_) (fun c2 => ?_)
            · refine T.iinc (lv' := [(0, .ref 137), (1, J x), (2, J n), (3, J (k + 1)), (4, J q4), (5, J i)]) rfl rfl rfl rfl ?_
              refine T.go 1 (fun n9 => (rfl : _ = exe ξ n9 (d + 3) j_M_listNamed 14 [(0, .ref 137), (1, J x), (2, J n), (3, J (k + 1)), (4, J q4), (5, J i)] [] σ)) ?_
              refine T.drop (lv := [(0, .ref 137), (1, J x), (2, J n), (3, J (k + 1))]) [(4, J q4), (5, J i)] (by simp) ?_
              exact ih14  n (k + 1)  (by omega) (by omega) (by omega) (by rw [LK_step (by omega), if_neg (fun q => q i3), if_neg (by omega)]) (by omega)
            · refine T.go 1 (fun n9 => (rfl : _ = exe ξ n9 (d + 3) j_M_listNamed 100 [(0, .ref 137), (1, J x), (2, J n), (3, J k), (4, J q4), (5, J i)] [J k] σ)) ?_
              exact T.ireti rfl rfl ⟨_, rfl, rfl, by omega, by omega, (LK_yes (m := (k + 1).toNat) (by rw [LK_step (by omega), if_neg (fun q => q i3), if_pos ⟨by omega, by rw [show (20 : Int).toNat = i.toNat by omega]; exact (j6 (by omega)).2⟩]) (by omega) (by omega)).symm⟩
          · refine T.go 1 (fun n9 => (rfl : _ = exe ξ n9 (d + 3) j_M_listNamed 49 [(0, .ref 137), (1, J x), (2, J n), (3, J k), (4, J q4), (5, J i)] [J q4] σ)) ?_
            refine T.if_eq rfl rfl (by omega) (fun c3 => ?_) (fun c3 => ?_)
            · refine T.go 1 (fun n9 => (rfl : _ = exe ξ n9 (d + 3) j_M_listNamed 96 [(0, .ref 137), (1, J x), (2, J n), (3, J k), (4, J q4), (5, J i)] [J q4] σ)) ?_
              refine T.if_eq rfl rfl (by omega) (fun c4 => ?_) (fun c4 => ?_)
              · refine T.iinc (lv' := [(0, .ref 137), (1, J x), (2, J n), (3, J (k + 1)), (4, J q4), (5, J i)]) rfl rfl rfl rfl ?_
                refine T.go 1 (fun n9 => (rfl : _ = exe ξ n9 (d + 3) j_M_listNamed 14 [(0, .ref 137), (1, J x), (2, J n), (3, J (k + 1)), (4, J q4), (5, J i)] [] σ)) ?_
                refine T.drop (lv := [(0, .ref 137), (1, J x), (2, J n), (3, J (k + 1))]) [(4, J q4), (5, J i)] (by simp) ?_
                exact ih14  n (k + 1)  (by omega) (by omega) (by omega) (by rw [LK_step (by omega), if_neg (fun q => q i3), if_neg (by omega)]) (by omega)
              · refine T.go 1 (fun n9 => (rfl : _ = exe ξ n9 (d + 3) j_M_listNamed 100 [(0, .ref 137), (1, J x), (2, J n), (3, J k), (4, J q4), (5, J i)] [J k] σ)) ?_
                exact T.ireti rfl rfl ⟨_, rfl, rfl, by omega, by omega, (LK_yes (m := (k + 1).toNat) (by rw [LK_step (by omega), if_neg (fun q => q i3), if_pos ⟨by omega, by rw [show (20 : Int).toNat = i.toNat by omega]; exact (j6 (by omega)).2⟩]) (by omega) (by omega)).symm⟩
            · refine T.go 2 (fun n9 => (rfl : _ = exe ξ n9 (d + 3) j_M_listNamed 54 [(0, .ref 137), (1, J x), (2, J n), (3, J k), (4, J q4), (5, J i)] [.ref 137, .ref 137] σ)) ?_
              refine T.get rfl rfl rfl hM.ob rfl ?_
              refine T.go 1 (fun n9 => (rfl : _ = exe ξ n9 (d + 3) j_M_listNamed 58 [(0, .ref 137), (1, J x), (2, J n), (3, J k), (4, J q4), (5, J i)] [.ref 137, J rw, .ref 137] σ)) ?_
              refine T.get rfl rfl rfl hM.ob rfl ?_
              refine T.go 1 (fun n9 => (rfl : _ = exe ξ n9 (d + 3) j_M_listNamed 62 [(0, .ref 137), (1, J x), (2, J n), (3, J k), (4, J q4), (5, J i)] [J k, .ref 142, J rw, .ref 137] σ)) ?_
              refine T.iald rfl rfl hM.c142 (by omega) (fun z1 hzz1 hyz1 hez1 => ?_)
              have hbz1 := hM.b142.at hez1 ⟨hzz1, hyz1⟩
              have gzz1 := gl_of hez1 ⟨hzz1, hyz1⟩
              subst gzz1
              refine T.go 1 (fun n9 => (rfl : _ = exe ξ n9 (d + 3) j_M_listNamed 65 [(0, .ref 137), (1, J x), (2, J n), (3, J k), (4, J q4), (5, J i)] [J 46, J (gl lh k), J rw, .ref 137] σ)) ?_
              refine T.iadd rfl ?_
              refine T.go 1 (fun n9 => (rfl : _ = exe ξ n9 (d + 3) j_M_listNamed 68 [(0, .ref 137), (1, J x), (2, J n), (3, J k), (4, J q4), (5, J i)] [J i, J ((gl lh k) + 46), J rw, .ref 137] σ)) ?_
              refine T.iadd rfl ?_
              refine T.callv (as := [J rw, J (((gl lh k) + 46) + i)]) (r := []) rfl rfl rfl rfl hM.ob rfl (s_M_get (d + 2) rw (((gl lh k) + 46) + i) σ hM (by omega)) (fun v1 s1 hqs1 => ?_)
              obtain ⟨z2, rfl, esz2, hzz2, hyz2, pz2_0⟩ := hqs1
              rw [esz2]
              have gg := gc_at (Lc := Lc) (r := rw) (k := gl lh k + 46 + i) (by omega)
              refine T.go 2 (fun n9 => (rfl : _ = exe ξ n9 (d + 3) j_M_listNamed 75 [(0, .ref 137), (1, J x), (2, J n), (3, J k), (4, J q4), (5, J i)] [J i, J x, J z2] σ)) ?_
              refine T.calls (as := [J x, J i]) (r := [J z2]) rfl rfl (by decide) rfl rfl (s_M_ewordByte (d + 2) x i σ (by omega) (by omega) (by omega)) (fun v2 s2 hqs2 => ?_)
              obtain ⟨z3, rfl, esz3, hzz3, hyz3, pz3_0⟩ := hqs2
              rw [esz3]
              have iz : mfn (0 + i) = mfn i := by rw [Int.zero_add]
              have ez := pz3_0 (by omega) (by omega)
              refine T.icmp_ne rfl rfl (by omega) (by omega) (fun c5 => ?_) (fun c5 => ?_)
              · refine T.go 2 (fun n9 => (rfl : _ = exe ξ n9 (d + 3) j_M_listNamed 88 [(0, .ref 137), (1, J x), (2, J n), (3, J k), (4, J 0), (5, J i)] [] σ)) ?_
                refine T.iinc (lv' := [(0, .ref 137), (1, J x), (2, J n), (3, J k), (4, J 0), (5, J (i + 1))]) rfl rfl rfl rfl ?_
                refine T.go 1 (fun n9 => (rfl : _ = exe ξ n9 (d + 3) j_M_listNamed 41 [(0, .ref 137), (1, J x), (2, J n), (3, J k), (4, J 0), (5, J (i + 1))] [] σ)) ?_
                exact ih41  0 (i + 1)  (by omega) (by omega) (by omega) (by omega) (by omega) (fun q u => by have := EQ2_no (m := (i + 1).toNat) (n := (20 : Int).toNat) (by rw [EQ2_step (by omega), if_neg (by omega)] : EQ2 (gc Lc rw) mfn (gl lh k + 46) 0 (i + 1).toNat = 0) (by omega); omega) (fun q => absurd q (by omega)) (by omega)
              · refine T.go 3 (fun n9 => (rfl : _ = exe ξ n9 (d + 3) j_M_listNamed 88 [(0, .ref 137), (1, J x), (2, J n), (3, J k), (4, J 1), (5, J i)] [] σ)) ?_
                refine T.iinc (lv' := [(0, .ref 137), (1, J x), (2, J n), (3, J k), (4, J 1), (5, J (i + 1))]) rfl rfl rfl rfl ?_
                refine T.go 1 (fun n9 => (rfl : _ = exe ξ n9 (d + 3) j_M_listNamed 41 [(0, .ref 137), (1, J x), (2, J n), (3, J k), (4, J 1), (5, J (i + 1))] [] σ)) ?_
                exact ih41  1 (i + 1)  (by omega) (by omega) (by omega) (by omega) (by omega) (fun q => absurd q (by omega)) (fun q => ⟨by omega, by rw [EQ2_step (by omega), if_pos ⟨by omega, by omega⟩]⟩) (by omega)
      refine T.go 2 (fun n9 => (rfl : _ = exe ξ n9 (d + 3) j_M_listNamed 16 [(0, .ref 137), (1, J x), (2, J n), (3, J k)] [.ref 137, J k] σ)) ?_
      refine T.get rfl rfl rfl hM.ob rfl ?_
      refine T.icmp_ge rfl rfl (by omega) (by omega) (fun c6 => ?_) (fun c6 => ?_)
      · refine T.go 1 (fun n9 => (rfl : _ = exe ξ n9 (d + 3) j_M_listNamed 108 [(0, .ref 137), (1, J x), (2, J n), (3, J k)] [J (-1)] σ)) ?_
        exact T.ireti rfl rfl ⟨_, rfl, rfl, by omega, by omega, (by rw [show en.toNat = k.toNat by omega]; exact i3.symm)⟩
      · refine T.go 2 (fun n9 => (rfl : _ = exe ξ n9 (d + 3) j_M_listNamed 24 [(0, .ref 137), (1, J x), (2, J n), (3, J k)] [J k, .ref 137] σ)) ?_
        refine T.callv (as := [J k]) (r := []) rfl rfl rfl rfl hM.ob rfl (s_M_nameLength d k σ hM (by omega) (by omega) (by omega)) (fun v3 s3 hqs3 => ?_)
        obtain ⟨z4, rfl, esz4, hzz4, hyz4, pz4_0⟩ := hqs3
        rw [esz4]
        have hdk := pre1 k (by omega) (by omega)
        have e5 := pz4_0 (by omega)
        subst e5
        refine T.go 1 (fun n9 => (rfl : _ = exe ξ n9 (d + 3) j_M_listNamed 28 [(0, .ref 137), (1, J x), (2, J n), (3, J k)] [J n, J (W2 (gc Lc rw) (gl lh k + 28))] σ)) ?_
        refine T.icmp_ne rfl rfl (by omega) (by omega) (fun c7 => ?_) (fun c7 => ?_)
        · refine T.go 4 (fun n9 => (rfl : _ = exe ξ n9 (d + 3) j_M_listNamed 41 [(0, .ref 137), (1, J x), (2, J n), (3, J k), (4, J 0), (5, J 0)] [] σ)) ?_
          exact loop41 _ 0 0  (by omega) (by omega) (by omega) (by omega) (by omega) (fun q u => by omega) (fun q => absurd q (by omega)) (Nat.lt_succ_self _)
        · refine T.go 5 (fun n9 => (rfl : _ = exe ξ n9 (d + 3) j_M_listNamed 41 [(0, .ref 137), (1, J x), (2, J n), (3, J k), (4, J 1), (5, J 0)] [] σ)) ?_
          exact loop41 _ 1 0  (by omega) (by omega) (by omega) (by omega) (by omega) (fun q => absurd q (by omega)) (fun q => ⟨by omega, rfl⟩) (Nat.lt_succ_self _)
  refine T.go 1 (fun n9 => (rfl : _ = exe ξ n9 (d + 3) j_M_listNamed 1 [(0, .ref 137), (1, J x)] [J x] σ)) ?_
  refine T.if_ne rfl rfl (by omega) (fun c8 => ?_) (fun c8 => ?_)
  · refine T.go 4 (fun n9 => (rfl : _ = exe ξ n9 (d + 3) j_M_listNamed 14 [(0, .ref 137), (1, J x), (2, J 20), (3, J 0)] [] σ)) ?_
    exact loop14 _ 20 0  (by omega) (by omega) (by omega) rfl (Nat.lt_succ_self _)
  · refine T.go 5 (fun n9 => (rfl : _ = exe ξ n9 (d + 3) j_M_listNamed 14 [(0, .ref 137), (1, J x), (2, J 9), (3, J 0)] [] σ)) ?_
    exact loop14 _ 9 0  (by omega) (by omega) (by omega) rfl (Nat.lt_succ_self _)

set_option maxHeartbeats 4000000 in
theorem s_M_eattribute {ξ : Nat → Option (Nat × List Int32)} {c io mo fa pl ns rw en wy wh bi ed sz md bd li wk we : Int} {Lc : List Int64} {la lm ln lh ld lk lt : List Int32} (d : Nat) (x : Int) (σ : qH) (hM : MS σ c io mo fa pl ns rw en wy wh bi ed sz md bd li wk we Lc la lm ln lh ld lk lt) (rx : -2147483648 ≤ x ∧ x ≤ 2147483647) (pre0 : OKM Lc la lm io mo) (pre1 : MTX io (gc Lc 1) (gl la 1) lm mo) : T ξ (d + 10) j_M_attribute 0 (lv_args 0 [.ref 137, J x]) [] σ (fun v σ' => ∃ (z : Int) (c1 : Int) (rw1 : Int) (en1 : Int) (wy1 : Int) (wh1 : Int) (bi1 : Int) (ed1 : Int) (sz1 : Int) (md1 : Int) (bd1 : Int) (Lc1 : List Int64) (la1 : List Int32) (lk1 : List Int32) (lh1 : List Int32) (ld1 : List Int32) (fa1 : Int) (pl1 : Int) (ns1 : Int) (wk1 : Int) (we1 : Int), v = some (J z) ∧ MS σ' c1 io mo fa1 pl1 ns1 rw1 en1 wy1 wh1 bi1 ed1 sz1 md1 bd1 li wk1 we1 Lc1 la1 lm ln lh1 ld1 lk1 lt ∧ FM σ σ' ∧ -2147483648 ≤ z ∧ z ≤ 2147483647 ∧ OKM Lc1 la1 lm io mo ∧ gl la1 0 = gl la 0 ∧ ns1 = 0 ∧ gc Lc1 0 = gc Lc 0 ∧ gc Lc1 1 = gc Lc 1 ∧ gl la1 1 = gl la 1 ∧ gc Lc1 3 = gc Lc 3 ∧ gl la1 3 = gl la 3 ∧ (c1 = 0 → VL io mo x ∧ ATM (gc Lc 1) (gl la 1) lm x (gl ln) ns (gc Lc1 6) (gl la1 6) z) ∧ (c1 = 1 → ¬ (io = 1 ∧ 0 ≤ x ∧ x ≤ mo)) ∧ (c1 = 2 → VL io mo x ∧ ATE (gc Lc 1) (gl la 1) lm x) ∧ (0 ≤ c1 ∧ c1 ≤ 2) ∧ (c1 ≠ 0 → gc Lc1 6 = gc Lc 6 ∧ gl la1 6 = gl la 6)) := by
  have r0 := hM.rg
  have n0 := hM.len
  have loop111 : ∀ (f111 : Nat) (n : Int) (k3 : Int) (f4 : Int) (e5 : Int) (a6 : Int) (c9 : Int) (rw9 : Int) (en9 : Int) (wy9 : Int) (wh9 : Int) (bi9 : Int) (ed9 : Int) (sz9 : Int) (md9 : Int) (bd9 : Int) (Lc9 : List Int64) (la9 : List Int32) (lk9 : List Int32) (lh9 : List Int32) (ld9 : List Int32) (fa9 : Int) (pl9 : Int) (ns9 : Int) (wk9 : Int) (we9 : Int) (τ : qH), MS τ c9 io mo fa9 pl9 ns9 rw9 en9 wy9 wh9 bi9 ed9 sz9 md9 bd9 li wk9 we9 Lc9 la9 lm ln lh9 ld9 lk9 lt → FM σ τ → RG [2, 4, 5, 6] Lc Lc9 → LG [2, 4, 5, 6] la la9 → 0 ≤ n → n ≤ 40 → -1 ≤ f4 → f4 ≤ 8000 → 0 ≤ e5 → e5 ≤ 8000 → 0 ≤ a6 → a6 ≤ 8002 → ns9 = 0 → 0 ≤ k3 → k3 ≤ 64 → AMB (gc Lc 1) (gl la 1) lm x k3 (gc Lc9 5) (gl la9 5) e5 → FNI (gc Lc9 5) (gl la9 5) e5 (gl ln) ns f4 a6 → n = ns → c9 = 0 → (io = 1 ∧ 0 ≤ x ∧ x ≤ mo) → (e5 - a6).toNat < f111 → T ξ (d + 10) j_M_attribute 111 [(0, .ref 137), (1, J x), (2, J n), (3, J k3), (4, J f4), (5, J e5), (6, J a6)] [] τ (fun v σ' => ∃ (z : Int) (c1 : Int) (rw1 : Int) (en1 : Int) (wy1 : Int) (wh1 : Int) (bi1 : Int) (ed1 : Int) (sz1 : Int) (md1 : Int) (bd1 : Int) (Lc1 : List Int64) (la1 : List Int32) (lk1 : List Int32) (lh1 : List Int32) (ld1 : List Int32) (fa1 : Int) (pl1 : Int) (ns1 : Int) (wk1 : Int) (we1 : Int), v = some (J z) ∧ MS σ' c1 io mo fa1 pl1 ns1 rw1 en1 wy1 wh1 bi1 ed1 sz1 md1 bd1 li wk1 we1 Lc1 la1 lm ln lh1 ld1 lk1 lt ∧ FM σ σ' ∧ -2147483648 ≤ z ∧ z ≤ 2147483647 ∧ OKM Lc1 la1 lm io mo ∧ gl la1 0 = gl la 0 ∧ ns1 = 0 ∧ gc Lc1 0 = gc Lc 0 ∧ gc Lc1 1 = gc Lc 1 ∧ gl la1 1 = gl la 1 ∧ gc Lc1 3 = gc Lc 3 ∧ gl la1 3 = gl la 3 ∧ (c1 = 0 → VL io mo x ∧ ATM (gc Lc 1) (gl la 1) lm x (gl ln) ns (gc Lc1 6) (gl la1 6) z) ∧ (c1 = 1 → ¬ (io = 1 ∧ 0 ≤ x ∧ x ≤ mo)) ∧ (c1 = 2 → VL io mo x ∧ ATE (gc Lc 1) (gl la 1) lm x) ∧ (0 ≤ c1 ∧ c1 ≤ 2) ∧ (c1 ≠ 0 → gc Lc1 6 = gc Lc 6 ∧ gl la1 6 = gl la 6)) := by
    intro f111
    induction f111 with
    | zero => intro n k3 f4 e5 a6 c9 rw9 en9 wy9 wh9 bi9 ed9 sz9 md9 bd9 Lc9 la9 lk9 lh9 ld9 fa9 pl9 ns9 wk9 we9 τ mτ fτ gτ kτ i0 i1 i2 i3 i4 i5 i6 i7 i8 i9 i10 i11 i12 i13 i14 i15 hm111; omega
    | succ f111 ih111 =>
      intro n k3 f4 e5 a6 c9 rw9 en9 wy9 wh9 bi9 ed9 sz9 md9 bd9 Lc9 la9 lk9 lh9 ld9 fa9 pl9 ns9 wk9 we9 τ mτ fτ gτ kτ i0 i1 i2 i3 i4 i5 i6 i7 i8 i9 i10 i11 i12 i13 i14 i15 hm111
      have rτ := mτ.rg
      have nτ := mτ.len
      refine T.go 2 (fun n9 => (rfl : _ = exe ξ n9 (d + 10) j_M_attribute 115 [(0, .ref 137), (1, J x), (2, J n), (3, J k3), (4, J f4), (5, J e5), (6, J a6)] [J e5, J a6] τ)) ?_
      refine T.icmp_ge rfl rfl (by omega) (by omega) (fun c1 => ?_) (fun c1 => ?_)
      · refine T.go 1 (fun n9 => (rfl : _ = exe ξ n9 (d + 10) j_M_attribute 148 [(0, .ref 137), (1, J x), (2, J n), (3, J k3), (4, J f4), (5, J e5), (6, J a6)] [.ref 137] τ)) ?_
        refine T.get rfl rfl rfl mτ.ob rfl ?_
        refine T.go 2 (fun n9 => (rfl : _ = exe ξ n9 (d + 10) j_M_attribute 154 [(0, .ref 137), (1, J x), (2, J n), (3, J k3), (4, J f4), (5, J e5), (6, J a6)] [J 0, J 6, .ref 139] τ)) ?_
        refine T.mast139 mτ rfl (by omega) (by omega) (fun s1 ms1 fs1 => ?_)
        have ns1 := ms1.len
        have gs1 := fτ.trans fs1
        have lgs1 := kτ.trans (LG.set (S := [2, 4, 5, 6]) (A := la9) (x := 6) (v := Int32.ofInt 0) (by decide) (by decide)) (fun _ z => z)
        have gss1 : ∀ j : Int, 0 ≤ j → gl (la9.set (6 : Int).toNat (Int32.ofInt 0)) j = if j = 6 then 0 else gl la9 j := fun j hj => gl_set ⟨by omega, by omega⟩ ⟨by omega, by omega⟩ hj
        have ges1 : gl (la9.set (6 : Int).toNat (Int32.ofInt 0)) 6 = 0 := (gss1 6 (by omega)).trans (if_pos rfl)
        refine T.go 1 (fun n9 => (rfl : _ = exe ξ n9 (d + 10) j_M_attribute 157 [(0, .ref 137), (1, J x), (2, J n), (3, J k3), (4, J f4), (5, J e5), (6, J a6)] [J f4] s1)) ?_
        refine T.if_ge rfl rfl (by omega) (fun c2 => ?_) (fun c2 => ?_)
        · refine T.go 3 (fun n9 => (rfl : _ = exe ξ n9 (d + 10) j_M_attribute 169 [(0, .ref 137), (1, J x), (2, J n), (3, J k3), (4, J f4), (5, J e5), (6, J a6)] [J e5, J f4, .ref 137] s1)) ?_
          refine T.callv (as := [J f4, J e5]) (r := []) rfl rfl rfl rfl ms1.ob rfl (s_M_ekeepValue (d + 5) f4 e5 s1 ms1 (by omega) (by omega) (by omega) (by omega) (by omega)) (fun v1 s2 hqs2 => ?_)
          obtain ⟨z1, wk_1, we_1, Lc_1, la_1, rfl, ms2, fs2, hzz1, hyz1, pz1_0, pz1_1, pz1_2, pz1_3⟩ := hqs2
          have ns2 := ms2.len
          have rs2 := ms2.rg
          have gs2 := gs1.trans fs2
          have rgs2 := gτ.trans pz1_0 (by decide)
          have lgs2 := lgs1.trans pz1_1 (by decide)
          exact T.ireti rfl rfl ⟨_, c9, rw9, en9, wy9, wh9, bi9, ed9, sz9, md9, bd9, Lc_1, la_1, lk9, lh9, ld9, fa9, pl9, ns9, wk_1, we_1, rfl, ms2, gs2, by omega, by omega, (pre0.keep rgs2 lgs2 (by decide)), (lgs2 0 (by decide) (by decide)), by omega, (rgs2 0 (by decide) (by decide)), (rgs2 1 (by decide) (by decide)), (lgs2 1 (by decide) (by decide)), (rgs2 3 (by decide) (by decide)), (lgs2 3 (by decide) (by decide)), (fun _ => ⟨⟨by omega, by omega, by omega⟩, ATM_y i11 i12 (by omega) (by have q := pz1_2; rw [(gss1 5 (by decide)).trans (if_neg (by decide))] at q; exact q) pz1_3⟩), (fun h => absurd h (by omega)), (fun h => absurd h (by omega)), by omega, (fun h => absurd (by omega) h)⟩
        · refine T.go 2 (fun n9 => (rfl : _ = exe ξ n9 (d + 10) j_M_attribute 172 [(0, .ref 137), (1, J x), (2, J n), (3, J k3), (4, J f4), (5, J e5), (6, J a6)] [J (-1)] s1)) ?_
          exact T.ireti rfl rfl ⟨_, c9, rw9, en9, wy9, wh9, bi9, ed9, sz9, md9, bd9, Lc9, (la9.set (6 : Int).toNat (Int32.ofInt 0)), lk9, lh9, ld9, fa9, pl9, ns9, wk9, we9, rfl, ms1, gs1, by omega, by omega, (pre0.keep gτ lgs1 (by decide)), (lgs1 0 (by decide) (by decide)), by omega, (gτ 0 (by decide) (by decide)), (gτ 1 (by decide) (by decide)), (lgs1 1 (by decide) (by decide)), (gτ 3 (by decide) (by decide)), (lgs1 3 (by decide) (by decide)), (fun _ => ⟨⟨by omega, by omega, by omega⟩, ATM_n i11 i12 (by omega) (by omega) ges1⟩), (fun h => absurd h (by omega)), (fun h => absurd h (by omega)), by omega, (fun h => absurd (by omega) h)⟩
      · refine T.go 4 (fun n9 => (rfl : _ = exe ξ n9 (d + 10) j_M_attribute 124 [(0, .ref 137), (1, J x), (2, J n), (3, J k3), (4, J f4), (5, J e5), (6, J a6)] [J n, J e5, J a6, .ref 137] τ)) ?_
        refine T.callv (as := [J a6, J e5, J n]) (r := []) rfl rfl rfl rfl mτ.ob rfl (s_M_eisAsked (d + 5) a6 e5 n τ mτ (by omega) (by omega) (by omega) (by omega) (by omega) (by omega) (by omega) (by omega)) (fun v2 s3 hqs3 => ?_)
        obtain ⟨z2, wk_2, we_2, rfl, ms3, fs3, hzz2, hyz2, pz2_0, pz2_1⟩ := hqs3
        have ns3 := ms3.len
        have rs3 := ms3.rg
        have gs3 := fτ.trans fs3
        refine T.if_eq rfl rfl (by omega) (fun c3 => ?_) (fun c3 => ?_)
        · refine T.go 3 (fun n9 => (rfl : _ = exe ξ n9 (d + 10) j_M_attribute 139 [(0, .ref 137), (1, J x), (2, J n), (3, J k3), (4, J f4), (5, J e5), (6, J a6)] [J e5, J a6, .ref 137] s3)) ?_
          refine T.callv (as := [J a6, J e5]) (r := []) rfl rfl rfl rfl ms3.ob rfl (s_M_ebehind (d + 7) a6 e5 s3 ms3 (by omega) (by omega) (by omega) (by omega) (by omega)) (fun v3 s4 hqs4 => ?_)
          obtain ⟨z3, rfl, esz3, hzz3, hyz3, pz3_0, pz3_1⟩ := hqs4
          rw [esz3]
          refine T.go 2 (fun n9 => (rfl : _ = exe ξ n9 (d + 10) j_M_attribute 111 [(0, .ref 137), (1, J x), (2, J n), (3, J k3), (4, J f4), (5, J e5), (6, J z3)] [] s3)) ?_
          exact ih111  n k3 f4 e5 z3 c9 rw9 en9 wy9 wh9 bi9 ed9 sz9 md9 bd9 Lc9 la9 lk9 lh9 ld9 fa9 pl9 ns9 wk_2 we_2 s3 ms3 gs3 gτ kτ (by omega) (by omega) (by omega) (by omega) (by omega) (by omega) (by omega) (by omega) (by omega) (by omega) (by omega) i11 (by rw [pz3_0]; exact FNI_n i12 (by have q := pz2_1 (by omega); rw [i13] at q; exact q)) (by omega) (by omega) (by omega) (by omega)
        · refine T.go 5 (fun n9 => (rfl : _ = exe ξ n9 (d + 10) j_M_attribute 139 [(0, .ref 137), (1, J x), (2, J n), (3, J k3), (4, J a6), (5, J e5), (6, J a6)] [J e5, J a6, .ref 137] s3)) ?_
          refine T.callv (as := [J a6, J e5]) (r := []) rfl rfl rfl rfl ms3.ob rfl (s_M_ebehind (d + 7) a6 e5 s3 ms3 (by omega) (by omega) (by omega) (by omega) (by omega)) (fun v4 s5 hqs5 => ?_)
          obtain ⟨z4, rfl, esz4, hzz4, hyz4, pz4_0, pz4_1⟩ := hqs5
          rw [esz4]
          refine T.go 2 (fun n9 => (rfl : _ = exe ξ n9 (d + 10) j_M_attribute 111 [(0, .ref 137), (1, J x), (2, J n), (3, J k3), (4, J a6), (5, J e5), (6, J z4)] [] s3)) ?_
          exact ih111  n k3 a6 e5 z4 c9 rw9 en9 wy9 wh9 bi9 ed9 sz9 md9 bd9 Lc9 la9 lk9 lh9 ld9 fa9 pl9 ns9 wk_2 we_2 s3 ms3 gs3 gτ kτ (by omega) (by omega) (by omega) (by omega) (by omega) (by omega) (by omega) (by omega) (by omega) (by omega) (by omega) i11 (by rw [pz4_0]; exact FNI_y i12 (by omega) (by have q := pz2_0 (by omega); rw [i13] at q; exact q)) (by omega) (by omega) (by omega) (by omega)
  refine T.go 1 (fun n9 => (rfl : _ = exe ξ n9 (d + 10) j_M_attribute 1 [(0, .ref 137), (1, J x)] [.ref 137] σ)) ?_
  refine T.callv (as := []) (r := []) rfl rfl rfl rfl hM.ob rfl (s_M_eusedName (d + 9)  σ hM ) (fun v5 s6 hqs6 => ?_)
  obtain ⟨z5, ns_1, rfl, ms6, fs6, hzz5, hyz5, pz5_0, pz5_1⟩ := hqs6
  have ns6 := ms6.len
  have rs6 := ms6.rg
  refine T.go 4 (fun n9 => (rfl : _ = exe ξ n9 (d + 10) j_M_attribute 8 [(0, .ref 137), (1, J x), (2, J z5)] [J x, .ref 137, .ref 137] s6)) ?_
  refine T.callv (as := [J x]) (r := [.ref 137]) rfl rfl rfl rfl ms6.ob rfl (s_M_fisArchive (d + 8) x s6 ms6 (by omega)) (fun v6 s7 hqs7 => ?_)
  obtain ⟨z6, rfl, esz6, hzz6, hyz6, pz6_0, pz6_1⟩ := hqs7
  rw [esz6]
  refine T.if_eq rfl rfl (by omega) (fun c4 => ?_) (fun c4 => ?_)
  · refine T.go 1 (fun n9 => (rfl : _ = exe ξ n9 (d + 10) j_M_attribute 19 [(0, .ref 137), (1, J x), (2, J z5)] [J 1, .ref 137] s6)) ?_
    refine T.mput (c' := 1) (io' := io) (mo' := mo) (fa' := fa) (pl' := pl) (ns' := ns_1) (rw' := rw) (en' := en) (wy' := wy) (wh' := wh) (bi' := bi) (ed' := ed) (sz' := sz) (md' := md) (bd' := bd) (li' := li) (wk' := wk) (we' := we) ms6 rfl rfl rfl rfl rfl rfl (by omega) (fun s8 ms8 fs8 => ?_)
    have gs8 := fs6.trans fs8
    refine T.go 1 (fun n9 => (rfl : _ = exe ξ n9 (d + 10) j_M_attribute 23 [(0, .ref 137), (1, J x), (2, J z5)] [.ref 137] s8)) ?_
    refine T.get rfl rfl rfl ms8.ob rfl ?_
    refine T.go 2 (fun n9 => (rfl : _ = exe ξ n9 (d + 10) j_M_attribute 30 [(0, .ref 137), (1, J x), (2, J z5)] [J 0] s8)) ?_
    exact T.ireti rfl rfl ⟨_, 1, rw, en, wy, wh, bi, ed, sz, md, bd, Lc, la, lk, lh, ld, fa, pl, ns_1, wk, we, rfl, ms8, gs8, by omega, by omega, (pre0.keep (RG.refl (S := [2, 4, 5, 6])) (LG.refl (S := [2, 4, 5, 6])) (by decide)), ((LG.refl (S := [2, 4, 5, 6])) 0 (by decide) (by decide)), by omega, ((RG.refl (S := [2, 4, 5, 6])) 0 (by decide) (by decide)), ((RG.refl (S := [2, 4, 5, 6])) 1 (by decide) (by decide)), ((LG.refl (S := [2, 4, 5, 6])) 1 (by decide) (by decide)), ((RG.refl (S := [2, 4, 5, 6])) 3 (by decide) (by decide)), ((LG.refl (S := [2, 4, 5, 6])) 3 (by decide) (by decide)), (fun h => absurd h (by omega)), (fun _ => pz6_1 (by omega)), (fun h => absurd h (by omega)), by omega, (fun _ => ⟨rfl, rfl⟩)⟩
  · refine T.go 2 (fun n9 => (rfl : _ = exe ξ n9 (d + 10) j_M_attribute 19 [(0, .ref 137), (1, J x), (2, J z5)] [J 0, .ref 137] s6)) ?_
    refine T.mput (c' := 0) (io' := io) (mo' := mo) (fa' := fa) (pl' := pl) (ns' := ns_1) (rw' := rw) (en' := en) (wy' := wy) (wh' := wh) (bi' := bi) (ed' := ed) (sz' := sz) (md' := md) (bd' := bd) (li' := li) (wk' := wk) (we' := we) ms6 rfl rfl rfl rfl rfl rfl (by omega) (fun s9 ms9 fs9 => ?_)
    have gs9 := fs6.trans fs9
    refine T.go 1 (fun n9 => (rfl : _ = exe ξ n9 (d + 10) j_M_attribute 23 [(0, .ref 137), (1, J x), (2, J z5)] [.ref 137] s9)) ?_
    refine T.get rfl rfl rfl ms9.ob rfl ?_
    refine T.go 3 (fun n9 => (rfl : _ = exe ξ n9 (d + 10) j_M_attribute 33 [(0, .ref 137), (1, J x), (2, J z5)] [J x, .ref 137] s9)) ?_
    obtain ⟨ok1, ok2⟩ := (pre0.keep (RG.refl (S := [2, 4, 5, 6])) (LG.refl (S := [2, 4, 5, 6])) (by decide)) (by omega)
    have mts := pre1 (by omega)
    refine T.callv (as := [J x]) (r := []) rfl rfl rfl rfl ms9.ob rfl (s_M_euse (d + 2) x s9 ms9 (by omega) (by omega) (by omega) (by omega) ok2 mts) (fun v7 s10 hqs10 => ?_)
    obtain ⟨rw_1, en_1, wy_1, wh_1, bi_1, ed_1, sz_1, md_1, bd_1, Lc_2, la_2, lk_1, lh_1, ld_1, rfl, ms10, fs10, pz7_0, pz7_1, pz7_2, pz7_3, pz7_4, pz7_5, pz7_6, pz7_7, pz7_8⟩ := hqs10
    have ns10 := ms10.len
    have rs10 := ms10.rg
    have gs10 := gs9.trans fs10
    have rgs10 := (RG.refl (S := [2, 4, 5, 6])).trans pz7_0 (by decide)
    have lgs10 := (LG.refl (S := [2, 4, 5, 6])).trans pz7_1 (by decide)
    refine T.go 2 (fun n9 => (rfl : _ = exe ξ n9 (d + 10) j_M_attribute 38 [(0, .ref 137), (1, J x), (2, J z5)] [J 1, .ref 137] s10)) ?_
    refine T.callv (as := [J 1]) (r := []) rfl rfl rfl rfl ms10.ob rfl (s_M_elistNamed (d + 6) 1 s10 ms10 (by omega) (by omega) pz7_2) (fun v8 s11 hqs11 => ?_)
    obtain ⟨z8, rfl, esz8, hzz8, hyz8, pz8_0⟩ := hqs11
    rw [esz8]
    have lkr := LK_in pz8_0 (by omega)
    have ark : ARK (gc Lc 1) (gl la 1) lm x (gc Lc_2 rw_1) lh_1 ld_1 z8 := ARY_at pz7_8 (gc_r Lc 1) (gc_r Lc_2 rw_1) (by omega) (by omega) pz8_0
    refine T.go 2 (fun n9 => (rfl : _ = exe ξ n9 (d + 10) j_M_attribute 43 [(0, .ref 137), (1, J x), (2, J z5), (3, J z8)] [J z8] s10)) ?_
    refine T.if_lt rfl rfl (by omega) (fun c5 => ?_) (fun c5 => ?_)
    · refine T.go 5 (fun n9 => (rfl : _ = exe ξ n9 (d + 10) j_M_attribute 67 [(0, .ref 137), (1, J x), (2, J z5), (3, J z8), (4, J (-1)), (5, J 0)] [J z8] s10)) ?_
      refine T.if_lt rfl rfl (by omega) (fun c6 => ?_) (fun c6 => ?_)
      · refine T.go 1 (fun n9 => (rfl : _ = exe ξ n9 (d + 10) j_M_attribute 148 [(0, .ref 137), (1, J x), (2, J z5), (3, J z8), (4, J (-1)), (5, J 0)] [.ref 137] s10)) ?_
        refine T.get rfl rfl rfl ms10.ob rfl ?_
        refine T.go 2 (fun n9 => (rfl : _ = exe ξ n9 (d + 10) j_M_attribute 154 [(0, .ref 137), (1, J x), (2, J z5), (3, J z8), (4, J (-1)), (5, J 0)] [J 0, J 6, .ref 139] s10)) ?_
        refine T.mast139 ms10 rfl (by omega) (by omega) (fun s12 ms12 fs12 => ?_)
        have ns12 := ms12.len
        have gs12 := gs10.trans fs12
        have lgs12 := lgs10.trans (LG.set (S := [2, 4, 5, 6]) (A := la_2) (x := 6) (v := Int32.ofInt 0) (by decide) (by decide)) (fun _ z => z)
        have gss12 : ∀ j : Int, 0 ≤ j → gl (la_2.set (6 : Int).toNat (Int32.ofInt 0)) j = if j = 6 then 0 else gl la_2 j := fun j hj => gl_set ⟨by omega, by omega⟩ ⟨by omega, by omega⟩ hj
        have ges12 : gl (la_2.set (6 : Int).toNat (Int32.ofInt 0)) 6 = 0 := (gss12 6 (by omega)).trans (if_pos rfl)
        refine T.go 4 (fun n9 => (rfl : _ = exe ξ n9 (d + 10) j_M_attribute 172 [(0, .ref 137), (1, J x), (2, J z5), (3, J z8), (4, J (-1)), (5, J 0)] [J (-1)] s12)) ?_
        exact T.ireti rfl rfl ⟨_, 0, rw_1, en_1, wy_1, wh_1, bi_1, ed_1, sz_1, md_1, bd_1, Lc_2, (la_2.set (6 : Int).toNat (Int32.ofInt 0)), lk_1, lh_1, ld_1, fa, pl, ns_1, wk, we, rfl, ms12, gs12, by omega, by omega, (pre0.keep rgs10 lgs12 (by decide)), (lgs12 0 (by decide) (by decide)), by omega, (rgs10 0 (by decide) (by decide)), (rgs10 1 (by decide) (by decide)), (lgs12 1 (by decide) (by decide)), (rgs10 3 (by decide) (by decide)), (lgs12 3 (by decide) (by decide)), (fun _ => ⟨⟨by omega, by omega, by omega⟩, ATM_0 ark (by omega) ges12⟩), (fun h => absurd h (by omega)), (fun h => absurd h (by omega)), by omega, (fun h => absurd (by omega) h)⟩
      · exfalso
        omega
    · refine T.go 2 (fun n9 => (rfl : _ = exe ξ n9 (d + 10) j_M_attribute 48 [(0, .ref 137), (1, J x), (2, J z5), (3, J z8)] [J z8, .ref 137] s10)) ?_
      have hx := pz7_2 z8 (by omega) (by omega)
      refine T.callv (as := [J z8]) (r := []) rfl rfl rfl rfl ms10.ob rfl (s_M_fisUnread (d + 3) z8 s10 ms10 (by omega) (by omega) (by omega) (by omega) (by omega) (by omega) (by omega)) (fun v9 s13 hqs13 => ?_)
      obtain ⟨z9, wy_2, wh_2, bi_2, ed_2, sz_2, md_2, bd_2, Lc_3, la_3, lk_2, rfl, ms13, fs13, hzz9, hyz9, pz9_0, pz9_1, pz9_2, pz9_3⟩ := hqs13
      have ns13 := ms13.len
      have rs13 := ms13.rg
      have gs13 := gs10.trans fs13
      have rgs13 := rgs10.trans pz9_0 (by decide)
      have lgs13 := lgs10.trans pz9_1 (by decide)
      refine T.if_eq rfl rfl (by omega) (fun c7 => ?_) (fun c7 => ?_)
      · refine T.go 5 (fun n9 => (rfl : _ = exe ξ n9 (d + 10) j_M_attribute 67 [(0, .ref 137), (1, J x), (2, J z5), (3, J z8), (4, J (-1)), (5, J 0)] [J z8] s13)) ?_
        refine T.if_lt rfl rfl (by omega) (fun c8 => ?_) (fun c8 => ?_)
        · exfalso
          omega
        · refine T.go 3 (fun n9 => (rfl : _ = exe ξ n9 (d + 10) j_M_attribute 73 [(0, .ref 137), (1, J x), (2, J z5), (3, J z8), (4, J (-1)), (5, J 0)] [J 5, J 4, .ref 137] s13)) ?_
          refine T.callv (as := [J 4, J 5]) (r := []) rfl rfl rfl rfl ms13.ob rfl (s_M_copyRow (d + 9) 4 5 s13 ms13 (by omega) (by omega) (by omega) (by omega) (by omega) (by omega) (by omega)) (fun v10 s14 hqs14 => ?_)
          obtain ⟨Lc_4, la_4, rfl, ms14, fs14, pz10_0, pz10_1, pz10_2, pz10_3⟩ := hqs14
          have ns14 := ms14.len
          have rs14 := ms14.rg
          have gs14 := gs13.trans fs14
          have rgs14 := rgs13.trans pz10_0 (by decide)
          have lgs14 := lgs13.trans pz10_1 (by decide)
          have ru := pz9_2 (by omega)
          have amr : AMR (gc Lc 1) (gl la 1) lm x z8 (gc Lc_4 5) (gl la_4 5) := AMR_0 ark (by omega) ru.1 (by rw [pz10_3]; exact ru.2.2) (fun k a b => by rw [pz10_2]; exact (nm_at ⟨a, by rw [ru.2.1]; rw [pz10_3, ru.2.2] at b; exact b⟩).symm)
          refine T.go 1 (fun n9 => (rfl : _ = exe ξ n9 (d + 10) j_M_attribute 77 [(0, .ref 137), (1, J x), (2, J z5), (3, J z8), (4, J (-1)), (5, J 0)] [.ref 137] s14)) ?_
          refine T.callv (as := []) (r := []) rfl rfl rfl rfl ms14.ob rfl (s_M_emainEnd (d + 7)  s14 ms14 ) (fun v11 s15 hqs15 => ?_)
          obtain ⟨z11, rfl, esz11, hzz11, hyz11, pz11_0, pz11_1⟩ := hqs15
          rw [esz11]
          refine T.go 3 (fun n9 => (rfl : _ = exe ξ n9 (d + 10) j_M_attribute 85 [(0, .ref 137), (1, J x), (2, J z5), (3, J z8), (4, J (-1)), (5, J z11)] [J z11, .ref 137] s14)) ?_
          refine T.callv (as := [J z11]) (r := []) rfl rfl rfl rfl ms14.ob rfl (s_M_eisManifestWrong (d + 4) z11 s14 ms14 (by omega) (by omega) (by omega)) (fun v12 s16 hqs16 => ?_)
          obtain ⟨z12, wk_3, we_3, rfl, ms16, fs16, hzz12, hyz12, pz12_0, pz12_1⟩ := hqs16
          have ns16 := ms16.len
          have rs16 := ms16.rg
          have gs16 := gs14.trans fs16
          refine T.if_eq rfl rfl (by omega) (fun c9 => ?_) (fun c9 => ?_)
          · refine T.go 2 (fun n9 => (rfl : _ = exe ξ n9 (d + 10) j_M_attribute 111 [(0, .ref 137), (1, J x), (2, J z5), (3, J z8), (4, J (-1)), (5, J z11), (6, J 0)] [] s16)) ?_
            exact loop111 _ z5 z8 (-1) z11 0 0 rw_1 en_1 wy_2 wh_2 bi_2 ed_2 sz_2 md_2 bd_2 Lc_4 la_4 lk_2 lh_1 ld_1 fa pl ns_1 wk_3 we_3 s16 ms16 gs16 rgs14 lgs14 (by omega) (by omega) (by omega) (by omega) (by omega) (by omega) (by omega) (by omega) (by omega) (by omega) (by omega) ⟨amr, pz11_0, pz11_1, pz12_0 (by omega)⟩ FNI_0 (by omega) (by omega) (by omega) (Nat.lt_succ_self _)
          · refine T.go 2 (fun n9 => (rfl : _ = exe ξ n9 (d + 10) j_M_attribute 94 [(0, .ref 137), (1, J x), (2, J z5), (3, J z8), (4, J (-1)), (5, J z11)] [J 10, .ref 137] s16)) ?_
            refine T.mput (c' := 0) (io' := io) (mo' := mo) (fa' := fa) (pl' := pl) (ns' := ns_1) (rw' := rw_1) (en' := en_1) (wy' := 10) (wh' := wh_2) (bi' := bi_2) (ed' := ed_2) (sz' := sz_2) (md' := md_2) (bd' := bd_2) (li' := li) (wk' := wk_3) (we' := we_3) ms16 rfl rfl rfl rfl rfl rfl (by omega) (fun s17 ms17 fs17 => ?_)
            have gs17 := gs16.trans fs17
            refine T.go 2 (fun n9 => (rfl : _ = exe ξ n9 (d + 10) j_M_attribute 99 [(0, .ref 137), (1, J x), (2, J z5), (3, J z8), (4, J (-1)), (5, J z11)] [J z8, .ref 137] s17)) ?_
            refine T.mput (c' := 0) (io' := io) (mo' := mo) (fa' := fa) (pl' := pl) (ns' := ns_1) (rw' := rw_1) (en' := en_1) (wy' := 10) (wh' := z8) (bi' := bi_2) (ed' := ed_2) (sz' := sz_2) (md' := md_2) (bd' := bd_2) (li' := li) (wk' := wk_3) (we' := we_3) ms17 rfl rfl rfl rfl rfl rfl (by omega) (fun s18 ms18 fs18 => ?_)
            have gs18 := gs17.trans fs18
            refine T.go 2 (fun n9 => (rfl : _ = exe ξ n9 (d + 10) j_M_attribute 104 [(0, .ref 137), (1, J x), (2, J z5), (3, J z8), (4, J (-1)), (5, J z11)] [J 2, .ref 137] s18)) ?_
            refine T.callv (as := [J 2]) (r := []) rfl rfl rfl rfl ms18.ob rfl (s_M_frefuseFault (d + 8) 2 s18 ms18 (by omega)) (fun v13 s19 hqs19 => ?_)
            obtain ⟨z13, c_1, fa_1, pl_1, rfl, ms19, fs19, hzz13, hyz13, pz13_0⟩ := hqs19
            have ns19 := ms19.len
            have rs19 := ms19.rg
            have gs19 := gs18.trans fs19
            exact T.ireti rfl rfl ⟨_, c_1, rw_1, en_1, 10, z8, bi_2, ed_2, sz_2, md_2, bd_2, Lc_4, la_4, lk_2, lh_1, ld_1, fa_1, pl_1, ns_1, wk_3, we_3, rfl, ms19, gs19, by omega, by omega, (pre0.keep rgs14 lgs14 (by decide)), (lgs14 0 (by decide) (by decide)), by omega, (rgs14 0 (by decide) (by decide)), (rgs14 1 (by decide) (by decide)), (lgs14 1 (by decide) (by decide)), (rgs14 3 (by decide) (by decide)), (lgs14 3 (by decide) (by decide)), (fun h => absurd h (by omega)), (fun h => absurd h (by omega)), (fun _ => ⟨⟨by omega, by omega, by omega⟩, ATE_2 amr pz11_0 pz11_1 (pz12_1 (by omega))⟩), by omega, (fun _ => ⟨((pz10_0 6 (by decide) (by decide)).trans ((pz9_0 6 (by decide) (by decide)).trans (pz7_0 6 (by decide) (by decide)))), ((pz10_1 6 (by decide) (by decide)).trans ((pz9_1 6 (by decide) (by decide)).trans (pz7_1 6 (by decide) (by decide))))⟩)⟩
      · refine T.go 2 (fun n9 => (rfl : _ = exe ξ n9 (d + 10) j_M_attribute 56 [(0, .ref 137), (1, J x), (2, J z5), (3, J z8)] [J 2, .ref 137] s13)) ?_
        refine T.callv (as := [J 2]) (r := []) rfl rfl rfl rfl ms13.ob rfl (s_M_frefuseFault (d + 8) 2 s13 ms13 (by omega)) (fun v14 s20 hqs20 => ?_)
        obtain ⟨z14, c_2, fa_2, pl_2, rfl, ms20, fs20, hzz14, hyz14, pz14_0⟩ := hqs20
        have ns20 := ms20.len
        have rs20 := ms20.rg
        have gs20 := gs13.trans fs20
        exact T.ireti rfl rfl ⟨_, c_2, rw_1, en_1, wy_2, wh_2, bi_2, ed_2, sz_2, md_2, bd_2, Lc_3, la_3, lk_2, lh_1, ld_1, fa_2, pl_2, ns_1, wk, we, rfl, ms20, gs20, by omega, by omega, (pre0.keep rgs13 lgs13 (by decide)), (lgs13 0 (by decide) (by decide)), by omega, (rgs13 0 (by decide) (by decide)), (rgs13 1 (by decide) (by decide)), (lgs13 1 (by decide) (by decide)), (rgs13 3 (by decide) (by decide)), (lgs13 3 (by decide) (by decide)), (fun h => absurd h (by omega)), (fun h => absurd h (by omega)), (fun _ => ⟨⟨by omega, by omega, by omega⟩, ATE_1 ark (by omega) (pz9_3 (by omega))⟩), by omega, (fun _ => ⟨((pz9_0 6 (by decide) (by decide)).trans (pz7_0 6 (by decide) (by decide))), ((pz9_1 6 (by decide) (by decide)).trans (pz7_1 6 (by decide) (by decide)))⟩)⟩
