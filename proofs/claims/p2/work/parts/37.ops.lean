/-! Calls on a fresh object, and on a fresh model. -/
def freshN (σ : qH) : Prop := σ[16]? = some (.inl (0, [.ref 17, .ref 41, .ref 48, .ref 51, .ref 53, .ref 55, .ref 57, .ref 59, .ref 61, .ref 63, .ref 68, .int 0, .ref 73, .ref 74, .int 0, .int 0, .int (-1)])) ∧ σ[51]? = some (.inl (5, [.int 40, .ref 52, .int 0])) ∧ σ[57]? = some (.inl (5, [.int 8000, .ref 58, .int 0])) ∧ σ[59]? = some (.inl (5, [.int 8000, .ref 60, .int 0])) ∧ σ[63]? = some (.inl (1, [.ref 64, .ref 66, .ref 67, .int 0, .int 0, .int 0, .int 0, .int (-1)])) ∧ σ[64]? = some (.inl (5, [.int 8000, .ref 65, .int 0]))
def freshB (σ : qH) : Prop := σ[52]? = some (.inr (.inl (1, []))) ∧ σ[65]? = some (.inr (.inl (1, []))) ∧ σ[58]? = some (.inr (.inl (1, []))) ∧ σ[60]? = some (.inr (.inl (1, [])))
def freshM (σ : qH) : Prop := σ[137]? = some (.inl (7, [.int 0, .ref 138, .ref 139, .int 0, .int 0, .ref 140, .int 0, .int (-1), .int 0, .ref 141, .int 0, .int 0, .ref 142, .ref 143, .int 0, .int 0, .int 0, .int 0, .int 0, .int 0, .int 0, .ref 144, .int 0, .ref 145, .int 0, .int 0])) ∧ σ[139]? = some (.inr (.inl (0, (List.replicate 7 0))))
/-- the cells from 137 on stay -/
def keepM (σ σ1 : qH) : Prop := ∀ (k : Nat) (c : qC), 137 ≤ k → σ[k]? = some c → σ1[k]? = some c
/-- at most a cells of b slots more -/
def sz (a b : Nat) (σ σ1 : qH) : Prop := σ1.length ≤ σ.length + a ∧ qsz σ1 ≤ qsz σ + b
theorem sz.refl (σ : qH) : sz 0 0 σ σ := ⟨Nat.le_refl _, Nat.le_refl _⟩
theorem sz.set {a b i : Nat} {σ σ1 : qH} {c0 c1 : qC} (h : sz a b σ σ1) (hi : σ1[i]? = some c0) (e : qcs c1 = qcs c0) : sz a b σ (σ1.set i c1) := ⟨by rw [List.length_set]; exact h.1, by rw [qsz_set hi e]; exact h.2⟩
theorem sz.push {a b : Nat} {σ σ1 : qH} {c : qC} (h : sz a b σ σ1) : sz (a + 1) (b + qcs c) σ (σ1 ++ [c]) := ⟨by rw [List.length_append]; have := h.1; simp only [List.length_cons, List.length_nil]; omega, by rw [qsz_push]; have := h.2; omega⟩
theorem sz.mono {a b a1 b1 : Nat} {σ σ1 : qH} (h : sz a b σ σ1) (ha : a ≤ a1) (hb : b ≤ b1) : sz a1 b1 σ σ1 := ⟨Nat.le_trans h.1 (by omega), Nat.le_trans h.2 (by omega)⟩
theorem sz.trans {a b a1 b1 : Nat} {σ σ1 σ2 : qH} (h : sz a b σ σ1) (h1 : sz a1 b1 σ1 σ2) : sz (a + a1) (b + b1) σ σ2 := ⟨by have := h.1; have := h1.1; omega, by have := h.2; have := h1.2; omega⟩
section
variable {ξ : Nat → Option (Nat × List Int32)}
theorem pN_fault (d : Nat) (σ : qH) (hF : freshN σ) : ∃ σ1 : qH, (keepM σ σ1 ∧ sz 1 8010 σ σ1) ∧ G ξ (d + 8) j_N_fault 0 (lv_args 0 [.ref 16]) [] σ (some (.int 0), σ1) := by
  obtain ⟨hN, hT, hV, hK, hA, hR⟩ := hF
  refine ⟨σ, ⟨(fun k c hk h => h), sz.mono (sz.refl σ) (by decide) (by decide)⟩, ?_⟩
  refine G.go 1 (fun n => (rfl : _ = exe ξ n (d + 8) j_N_fault 1 [(0, .ref 16)] [.ref 16] σ)) ?_
  refine G.get rfl rfl rfl hN rfl ?_
  exact G.end 1 (fun n => rfl)
theorem pN_place (d : Nat) (σ : qH) (hF : freshN σ) : ∃ σ1 : qH, (keepM σ σ1 ∧ sz 1 8010 σ σ1) ∧ G ξ (d + 8) j_N_place 0 (lv_args 0 [.ref 16]) [] σ (some (.int (-1)), σ1) := by
  obtain ⟨hN, hT, hV, hK, hA, hR⟩ := hF
  refine ⟨σ, ⟨(fun k c hk h => h), sz.mono (sz.refl σ) (by decide) (by decide)⟩, ?_⟩
  refine G.go 1 (fun n => (rfl : _ = exe ξ n (d + 8) j_N_place 1 [(0, .ref 16)] [.ref 16] σ)) ?_
  refine G.get rfl rfl rfl hN rfl ?_
  exact G.end 1 (fun n => rfl)
theorem pN_count1 (d : Nat) (a : Int32) (σ : qH) (hF : freshN σ) (c1 : a = (-1)) : ∃ σ1 : qH, (keepM σ σ1 ∧ sz 1 8010 σ σ1) ∧ G ξ (d + 8) j_N_count 0 (lv_args 0 [.ref 16, .int a]) [] σ (some (.int 0), σ1) := by
  obtain ⟨hN, hT, hV, hK, hA, hR⟩ := hF
  refine ⟨σ, ⟨(fun k c hk h => h), sz.mono (sz.refl σ) (by decide) (by decide)⟩, ?_⟩
  refine G.go 3 (fun n => (rfl : _ = exe ξ n (d + 8) j_N_count (if a = (-1) then 5 else 23) [(0, .ref 16), (1, .int a)] [] σ)) ?_
  rw [if_pos c1]
  refine G.go 1 (fun n => (rfl : _ = exe ξ n (d + 8) j_N_count 6 [(0, .ref 16), (1, .int a)] [.ref 16] σ)) ?_
  refine G.get rfl rfl rfl hN rfl ?_
  exact G.end 3 (fun n => rfl)
theorem pN_count2 (d : Nat) (a : Int32) (σ : qH) (hF : freshN σ) (c1 : ¬ a = (-1)) : ∃ σ1 : qH, (keepM σ σ1 ∧ sz 1 8010 σ σ1) ∧ G ξ (d + 8) j_N_count 0 (lv_args 0 [.ref 16, .int a]) [] σ (some (.int (-1)), σ1) := by
  obtain ⟨hN, hT, hV, hK, hA, hR⟩ := hF
  refine ⟨σ, ⟨(fun k c hk h => h), sz.mono (sz.refl σ) (by decide) (by decide)⟩, ?_⟩
  refine G.go 3 (fun n => (rfl : _ = exe ξ n (d + 8) j_N_count (if a = (-1) then 5 else 23) [(0, .ref 16), (1, .int a)] [] σ)) ?_
  rw [if_neg c1]
  refine G.go 2 (fun n => (rfl : _ = exe ξ n (d + 8) j_N_count 25 [(0, .ref 16), (1, .int a)] [.int a, .ref 16] σ)) ?_
  refine G.call (k := j_N_archiveOf) (as := [.ref 16, .int a]) (r := []) (v := some (.null)) (σ1 := σ) rfl rfl rfl rfl rfl rfl rfl ?_ ?_ ?_
  · show (bif qrc _ 16 j_N_archiveOf && _ then _ else _) = _
    rw [qrc_at rfl hN rfl]
    rfl
  · refine G.go 1 (fun n => (rfl : _ = exe ξ n (d + 7) j_N_archiveOf 1 [(0, .ref 16), (1, .int a)] [.ref 16] σ)) ?_
    refine G.get rfl rfl rfl hN rfl ?_
    exact G.end 3 (fun n => rfl)
  exact G.end 6 (fun n => rfl)
theorem pN_end1 (d : Nat) (a : Int32) (σ : qH) (hF : freshN σ) (c1 : a < 0) : ∃ σ1 : qH, (keepM σ σ1 ∧ sz 1 8010 σ σ1) ∧ G ξ (d + 8) j_N_end 0 (lv_args 0 [.ref 16, .int a]) [] σ (some (.int 0), σ1) := by
  obtain ⟨hN, hT, hV, hK, hA, hR⟩ := hF
  refine ⟨σ, ⟨(fun k c hk h => h), sz.mono (sz.refl σ) (by decide) (by decide)⟩, ?_⟩
  refine G.go 2 (fun n => (rfl : _ = exe ξ n (d + 8) j_N_end (if a < 0 then 18 else 4) [(0, .ref 16), (1, .int a)] [] σ)) ?_
  rw [if_pos c1]
  exact G.end 2 (fun n => rfl)
theorem pN_end2 (d : Nat) (a : Int32) (σ : qH) (hF : freshN σ) (c1 : ¬ a < 0) (c2 : ¬ a ≤ 0) : ∃ σ1 : qH, (keepM σ σ1 ∧ sz 1 8010 σ σ1) ∧ G ξ (d + 8) j_N_end 0 (lv_args 0 [.ref 16, .int a]) [] σ (some (.int 0), σ1) := by
  obtain ⟨hN, hT, hV, hK, hA, hR⟩ := hF
  refine ⟨σ, ⟨(fun k c hk h => h), sz.mono (sz.refl σ) (by decide) (by decide)⟩, ?_⟩
  refine G.go 2 (fun n => (rfl : _ = exe ξ n (d + 8) j_N_end (if a < 0 then 18 else 4) [(0, .ref 16), (1, .int a)] [] σ)) ?_
  rw [if_neg c1]
  refine G.go 2 (fun n => (rfl : _ = exe ξ n (d + 8) j_N_end 6 [(0, .ref 16), (1, .int a)] [.ref 16, .int a] σ)) ?_
  refine G.get rfl rfl rfl hN rfl ?_
  refine G.get rfl rfl rfl hA rfl ?_
  refine G.get rfl rfl rfl hR rfl ?_
  refine G.go 1 (fun n => (rfl : _ = exe ξ n (d + 8) j_N_end (if a ≤ 0 then 20 else 18) [(0, .ref 16), (1, .int a)] [] σ)) ?_
  rw [if_neg c2]
  exact G.end 2 (fun n => rfl)
theorem pN_end3 (d : Nat) (a : Int32) (σ : qH) (hF : freshN σ) (c1 : ¬ a < 0) (c2 : a ≤ 0) : ∃ σ1 : qH, (keepM σ σ1 ∧ sz 1 8010 σ σ1) ∧ G ξ (d + 8) j_N_end 0 (lv_args 0 [.ref 16, .int a]) [] σ (some (.int 1), σ1) := by
  obtain ⟨hN, hT, hV, hK, hA, hR⟩ := hF
  refine ⟨(σ.set 64 (.inl (5, [.int 8000, .ref 65, .int a]))), ⟨(fun k c hk h => (qs_ne (by omega) h)), sz.mono (sz.set (sz.refl σ) hR (by simp [qcs])) (by decide) (by decide)⟩, ?_⟩
  refine G.go 2 (fun n => (rfl : _ = exe ξ n (d + 8) j_N_end (if a < 0 then 18 else 4) [(0, .ref 16), (1, .int a)] [] σ)) ?_
  rw [if_neg c1]
  refine G.go 2 (fun n => (rfl : _ = exe ξ n (d + 8) j_N_end 6 [(0, .ref 16), (1, .int a)] [.ref 16, .int a] σ)) ?_
  refine G.get rfl rfl rfl hN rfl ?_
  refine G.get rfl rfl rfl hA rfl ?_
  refine G.get rfl rfl rfl hR rfl ?_
  refine G.go 1 (fun n => (rfl : _ = exe ξ n (d + 8) j_N_end (if a ≤ 0 then 20 else 18) [(0, .ref 16), (1, .int a)] [] σ)) ?_
  rw [if_pos c2]
  refine G.go 1 (fun n => (rfl : _ = exe ξ n (d + 8) j_N_end 21 [(0, .ref 16), (1, .int a)] [.ref 16] σ)) ?_
  refine G.get rfl rfl rfl hN rfl ?_
  refine G.get rfl rfl rfl hA rfl ?_
  refine G.go 1 (fun n => (rfl : _ = exe ξ n (d + 8) j_N_end 28 [(0, .ref 16), (1, .int a)] [.int a, .ref 64] σ)) ?_
  refine G.put rfl rfl hR rfl rfl rfl ?_
  exact G.end 2 (fun n => rfl)
theorem pN_octet1 (d : Nat) (a : Int32) (σ : qH) (hF : freshN σ) (c1 : a < 0) : ∃ σ1 : qH, (keepM σ σ1 ∧ sz 1 8010 σ σ1) ∧ G ξ (d + 8) j_N_octet 0 (lv_args 0 [.ref 16, .int a]) [] σ (some (.int (-1)), σ1) := by
  obtain ⟨hN, hT, hV, hK, hA, hR⟩ := hF
  refine ⟨σ, ⟨(fun k c hk h => h), sz.mono (sz.refl σ) (by decide) (by decide)⟩, ?_⟩
  refine G.go 1 (fun n => (rfl : _ = exe ξ n (d + 8) j_N_octet 1 [(0, .ref 16), (1, .int a)] [.ref 16] σ)) ?_
  refine G.get rfl rfl rfl hN rfl ?_
  refine G.go 1 (fun n => (rfl : _ = exe ξ n (d + 8) j_N_octet 5 [(0, .ref 16), (1, .int a)] [.int a, .ref 59] σ)) ?_
  refine G.call (k := j_R_at) (as := [.ref 59, .int a]) (r := []) (v := some (.int (-1))) (σ1 := σ) rfl rfl rfl rfl rfl rfl rfl ?_ ?_ ?_
  · show (bif qrc _ 59 j_R_at && _ then _ else _) = _
    rw [qrc_at rfl hK rfl]
    rfl
  · refine G.go 2 (fun n => (rfl : _ = exe ξ n (d + 7) j_R_at (if a < 0 then 25 else 4) [(0, .ref 59), (1, .int a)] [] σ)) ?_
    rw [if_pos c1]
    exact G.end 2 (fun n => rfl)
  exact G.end 1 (fun n => rfl)
theorem pN_octet2 (d : Nat) (a : Int32) (σ : qH) (hF : freshN σ) (c1 : ¬ a < 0) (c2 : 0 ≤ a) : ∃ σ1 : qH, (keepM σ σ1 ∧ sz 1 8010 σ σ1) ∧ G ξ (d + 8) j_N_octet 0 (lv_args 0 [.ref 16, .int a]) [] σ (some (.int (-1)), σ1) := by
  obtain ⟨hN, hT, hV, hK, hA, hR⟩ := hF
  refine ⟨σ, ⟨(fun k c hk h => h), sz.mono (sz.refl σ) (by decide) (by decide)⟩, ?_⟩
  refine G.go 1 (fun n => (rfl : _ = exe ξ n (d + 8) j_N_octet 1 [(0, .ref 16), (1, .int a)] [.ref 16] σ)) ?_
  refine G.get rfl rfl rfl hN rfl ?_
  refine G.go 1 (fun n => (rfl : _ = exe ξ n (d + 8) j_N_octet 5 [(0, .ref 16), (1, .int a)] [.int a, .ref 59] σ)) ?_
  refine G.call (k := j_R_at) (as := [.ref 59, .int a]) (r := []) (v := some (.int (-1))) (σ1 := σ) rfl rfl rfl rfl rfl rfl rfl ?_ ?_ ?_
  · show (bif qrc _ 59 j_R_at && _ then _ else _) = _
    rw [qrc_at rfl hK rfl]
    rfl
  · refine G.go 2 (fun n => (rfl : _ = exe ξ n (d + 7) j_R_at (if a < 0 then 25 else 4) [(0, .ref 59), (1, .int a)] [] σ)) ?_
    rw [if_neg c1]
    refine G.go 2 (fun n => (rfl : _ = exe ξ n (d + 7) j_R_at 6 [(0, .ref 59), (1, .int a)] [.ref 59, .int a] σ)) ?_
    refine G.get rfl rfl rfl hK rfl ?_
    refine G.go 1 (fun n => (rfl : _ = exe ξ n (d + 7) j_R_at (if 0 ≤ a then 25 else 12) [(0, .ref 59), (1, .int a)] [] σ)) ?_
    rw [if_pos c2]
    exact G.end 2 (fun n => rfl)
  exact G.end 1 (fun n => rfl)
theorem pN_value1 (d : Nat) (a : Int32) (σ : qH) (hF : freshN σ) (c1 : a < 0) : ∃ σ1 : qH, (keepM σ σ1 ∧ sz 1 8010 σ σ1) ∧ G ξ (d + 8) j_N_value 0 (lv_args 0 [.ref 16, .int a]) [] σ (some (.int (-1)), σ1) := by
  obtain ⟨hN, hT, hV, hK, hA, hR⟩ := hF
  refine ⟨σ, ⟨(fun k c hk h => h), sz.mono (sz.refl σ) (by decide) (by decide)⟩, ?_⟩
  refine G.go 1 (fun n => (rfl : _ = exe ξ n (d + 8) j_N_value 1 [(0, .ref 16), (1, .int a)] [.ref 16] σ)) ?_
  refine G.get rfl rfl rfl hN rfl ?_
  refine G.go 1 (fun n => (rfl : _ = exe ξ n (d + 8) j_N_value 5 [(0, .ref 16), (1, .int a)] [.int a, .ref 57] σ)) ?_
  refine G.call (k := j_R_at) (as := [.ref 57, .int a]) (r := []) (v := some (.int (-1))) (σ1 := σ) rfl rfl rfl rfl rfl rfl rfl ?_ ?_ ?_
  · show (bif qrc _ 57 j_R_at && _ then _ else _) = _
    rw [qrc_at rfl hV rfl]
    rfl
  · refine G.go 2 (fun n => (rfl : _ = exe ξ n (d + 7) j_R_at (if a < 0 then 25 else 4) [(0, .ref 57), (1, .int a)] [] σ)) ?_
    rw [if_pos c1]
    exact G.end 2 (fun n => rfl)
  exact G.end 1 (fun n => rfl)
theorem pN_value2 (d : Nat) (a : Int32) (σ : qH) (hF : freshN σ) (c1 : ¬ a < 0) (c2 : 0 ≤ a) : ∃ σ1 : qH, (keepM σ σ1 ∧ sz 1 8010 σ σ1) ∧ G ξ (d + 8) j_N_value 0 (lv_args 0 [.ref 16, .int a]) [] σ (some (.int (-1)), σ1) := by
  obtain ⟨hN, hT, hV, hK, hA, hR⟩ := hF
  refine ⟨σ, ⟨(fun k c hk h => h), sz.mono (sz.refl σ) (by decide) (by decide)⟩, ?_⟩
  refine G.go 1 (fun n => (rfl : _ = exe ξ n (d + 8) j_N_value 1 [(0, .ref 16), (1, .int a)] [.ref 16] σ)) ?_
  refine G.get rfl rfl rfl hN rfl ?_
  refine G.go 1 (fun n => (rfl : _ = exe ξ n (d + 8) j_N_value 5 [(0, .ref 16), (1, .int a)] [.int a, .ref 57] σ)) ?_
  refine G.call (k := j_R_at) (as := [.ref 57, .int a]) (r := []) (v := some (.int (-1))) (σ1 := σ) rfl rfl rfl rfl rfl rfl rfl ?_ ?_ ?_
  · show (bif qrc _ 57 j_R_at && _ then _ else _) = _
    rw [qrc_at rfl hV rfl]
    rfl
  · refine G.go 2 (fun n => (rfl : _ = exe ξ n (d + 7) j_R_at (if a < 0 then 25 else 4) [(0, .ref 57), (1, .int a)] [] σ)) ?_
    rw [if_neg c1]
    refine G.go 2 (fun n => (rfl : _ = exe ξ n (d + 7) j_R_at 6 [(0, .ref 57), (1, .int a)] [.ref 57, .int a] σ)) ?_
    refine G.get rfl rfl rfl hV rfl ?_
    refine G.go 1 (fun n => (rfl : _ = exe ξ n (d + 7) j_R_at (if 0 ≤ a then 25 else 12) [(0, .ref 57), (1, .int a)] [] σ)) ?_
    rw [if_pos c2]
    exact G.end 2 (fun n => rfl)
  exact G.end 1 (fun n => rfl)
theorem pN_find1 (d : Nat) (a : Int32) (σ : qH) (hF : freshN σ) (c3 : a < 1) (c1 : ¬ 1 ≤ a) : ∃ σ1 : qH, (keepM σ σ1 ∧ sz 1 8010 σ σ1) ∧ GX ξ (d + 8) j_N_find 0 (lv_args 0 [.ref 16, .int a]) [] σ 0 σ1 := by
  obtain ⟨hN, hT, hV, hK, hA, hR⟩ := hF
  refine ⟨((σ.set 51 (.inl (5, [.int 40, .ref 52, .int 0]))) ++ ([.inr (.inr (.inr (.inr (.inr 6))))] : qH)), ⟨(fun k c hk h => (qs_push (qs_ne (by omega) h))), sz.mono (sz.push (sz.set (sz.refl σ) hT (by simp [qcs]))) (by decide) (by decide)⟩, ?_⟩
  refine GX.go 3 (fun n => (rfl : _ = exx ξ n (d + 8) j_N_find (if 1 ≤ a then 9 else 5) [(0, .ref 16), (1, .int a)] [] σ)) ?_
  rw [if_neg c1]
  refine GX.go 4 (fun n => (rfl : _ = exx ξ n (d + 8) j_N_find 16 [(0, .ref 16), (1, .int a), (2, .int (-1))] [.ref 16] σ)) ?_
  refine GX.get rfl rfl rfl rfl hN rfl ?_
  refine GX.call (k := j_R_clear) (as := [.ref 51]) (r := []) (v := none) (σ1 := (σ.set 51 (.inl (5, [.int 40, .ref 52, .int 0])))) rfl rfl rfl rfl rfl rfl rfl ?_ ?_ ?_
  · show (bif qrc _ 51 j_R_clear && _ then _ else _) = _
    rw [qrc_at rfl hT rfl]
    rfl
  · refine G.go 2 (fun n => (rfl : _ = exe ξ n (d + 7) j_R_clear 2 [(0, .ref 51)] [.int 0, .ref 51] σ)) ?_
    refine G.put rfl rfl hT rfl rfl rfl ?_
    exact G.end 1 (fun n => rfl)
  refine GX.go 3 (fun n => (rfl : _ = exx ξ n (d + 8) j_N_find (if 1 ≤ a then 37 else 27) [(0, .ref 16), (1, .int a), (2, .int (-1))] [] (σ.set 51 (.inl (5, [.int 40, .ref 52, .int 0]))))) ?_
  rw [if_neg c1]
  exact GX.throw (Nat.ble_eq_true_of_le (by omega)) rfl rfl
theorem pN_find2 (d : Nat) (a : Int32) (σ : qH) (hF : freshN σ) (c3 : ¬ a < 1) (c1 : 1 ≤ a) (c2 : 0 < a) : ∃ σ1 : qH, (keepM σ σ1 ∧ sz 1 8010 σ σ1) ∧ G ξ (d + 8) j_N_find 0 (lv_args 0 [.ref 16, .int a]) [] σ (some (.int (-1)), σ1) := by
  obtain ⟨hN, hT, hV, hK, hA, hR⟩ := hF
  refine ⟨(σ.set 51 (.inl (5, [.int 40, .ref 52, .int 0]))), ⟨(fun k c hk h => (qs_ne (by omega) h)), sz.mono (sz.set (sz.refl σ) hT (by simp [qcs])) (by decide) (by decide)⟩, ?_⟩
  refine G.go 3 (fun n => (rfl : _ = exe ξ n (d + 8) j_N_find (if 1 ≤ a then 9 else 5) [(0, .ref 16), (1, .int a)] [] σ)) ?_
  rw [if_pos c1]
  refine G.go 2 (fun n => (rfl : _ = exe ξ n (d + 8) j_N_find 11 [(0, .ref 16), (1, .int a)] [.int a, .ref 16] σ)) ?_
  refine G.call (k := j_N_searchMounts) (as := [.ref 16, .int a]) (r := []) (v := some (.int (-1))) (σ1 := σ) rfl rfl rfl rfl rfl rfl rfl ?_ ?_ ?_
  · show (bif qrc _ 16 j_N_searchMounts && _ then _ else _) = _
    rw [qrc_at rfl hN rfl]
    rfl
  · refine G.go 5 (fun n => (rfl : _ = exe ξ n (d + 7) j_N_searchMounts (if a < 1 then 63 else 7) [(0, .ref 16), (1, .int a), (2, .int a)] [] σ)) ?_
    rw [if_neg c3]
    refine G.go 2 (fun n => (rfl : _ = exe ξ n (d + 7) j_N_searchMounts 9 [(0, .ref 16), (1, .int a), (2, .int a)] [.ref 16, .int a] σ)) ?_
    refine G.get rfl rfl rfl hN rfl ?_
    refine G.go 1 (fun n => (rfl : _ = exe ξ n (d + 7) j_N_searchMounts (if 0 < a then 63 else 15) [(0, .ref 16), (1, .int a), (2, .int a)] [] σ)) ?_
    rw [if_pos c2]
    exact G.end 2 (fun n => rfl)
  refine G.go 2 (fun n => (rfl : _ = exe ξ n (d + 8) j_N_find 16 [(0, .ref 16), (1, .int a), (2, .int (-1))] [.ref 16] σ)) ?_
  refine G.get rfl rfl rfl hN rfl ?_
  refine G.call (k := j_R_clear) (as := [.ref 51]) (r := []) (v := none) (σ1 := (σ.set 51 (.inl (5, [.int 40, .ref 52, .int 0])))) rfl rfl rfl rfl rfl rfl rfl ?_ ?_ ?_
  · show (bif qrc _ 51 j_R_clear && _ then _ else _) = _
    rw [qrc_at rfl hT rfl]
    rfl
  · refine G.go 2 (fun n => (rfl : _ = exe ξ n (d + 7) j_R_clear 2 [(0, .ref 51)] [.int 0, .ref 51] σ)) ?_
    refine G.put rfl rfl hT rfl rfl rfl ?_
    exact G.end 1 (fun n => rfl)
  refine G.go 3 (fun n => (rfl : _ = exe ξ n (d + 8) j_N_find (if 1 ≤ a then 37 else 27) [(0, .ref 16), (1, .int a), (2, .int (-1))] [] (σ.set 51 (.inl (5, [.int 40, .ref 52, .int 0]))))) ?_
  rw [if_pos c1]
  exact G.end 2 (fun n => rfl)
theorem pN_open (d : Nat) (σ : qH) (hF : freshN σ) : ∃ σ1 : qH, (keepM σ σ1 ∧ sz 1 8010 σ σ1) ∧ GX ξ (d + 8) j_N_open 0 (lv_args 0 [.ref 16]) [] σ 0 σ1 := by
  obtain ⟨hN, hT, hV, hK, hA, hR⟩ := hF
  refine ⟨(((((((σ.set 63 (.inl (1, [.ref 64, .ref 66, .ref 67, .int 0, .int 0, .int 0, .int 0, .int (-1)]))).set 63 (.inl (1, [.ref 64, .ref 66, .ref 67, .int 0, .int 0, .int 0, .int 0, .int (-1)]))).set 63 (.inl (1, [.ref 64, .ref 66, .ref 67, .int 0, .int (-1), .int 0, .int 0, .int (-1)]))).set 64 (.inl (5, [.int 8000, .ref 65, .int 0]))).set 16 (.inl (0, [.ref 17, .ref 41, .ref 48, .ref 51, .ref 53, .ref 55, .ref 57, .ref 59, .ref 61, .ref 63, .ref 68, .int 0, .ref 73, .ref 74, .int 0, .int 1, .int (-1)]))).set 16 (.inl (0, [.ref 17, .ref 41, .ref 48, .ref 51, .ref 53, .ref 55, .ref 57, .ref 59, .ref 61, .ref 63, .ref 68, .int 0, .ref 73, .ref 74, .int 0, .int 1, .int (-1)]))) ++ ([.inr (.inr (.inr (.inr (.inr 6))))] : qH)), ⟨(fun k c hk h => (qs_push (qs_ne (by omega) (qs_ne (by omega) (qs_ne (by omega) (qs_ne (by omega) (qs_ne (by omega) (qs_ne (by omega) h)))))))), sz.mono (sz.push (sz.set (sz.set (sz.set (sz.set (sz.set (sz.set (sz.refl σ) hA (by simp [qcs])) (qs_at hA) (by simp [qcs])) (qs_at (qs_at hA)) (by simp [qcs])) (qs_ne (by decide) (qs_ne (by decide) (qs_ne (by decide) hR))) (by simp [qcs])) (qs_ne (by decide) (qs_ne (by decide) (qs_ne (by decide) (qs_ne (by decide) hN)))) (by simp [qcs])) (qs_at (qs_ne (by decide) (qs_ne (by decide) (qs_ne (by decide) (qs_ne (by decide) hN))))) (by simp [qcs]))) (by decide) (by decide)⟩, ?_⟩
  refine GX.go 1 (fun n => (rfl : _ = exx ξ n (d + 8) j_N_open 1 [(0, .ref 16)] [.ref 16] σ)) ?_
  refine GX.get rfl rfl rfl rfl hN rfl ?_
  refine GX.call (k := j_A_survey) (as := [.ref 63]) (r := []) (v := some (.int 1)) (σ1 := (((σ.set 63 (.inl (1, [.ref 64, .ref 66, .ref 67, .int 0, .int 0, .int 0, .int 0, .int (-1)]))).set 63 (.inl (1, [.ref 64, .ref 66, .ref 67, .int 0, .int 0, .int 0, .int 0, .int (-1)]))).set 63 (.inl (1, [.ref 64, .ref 66, .ref 67, .int 0, .int (-1), .int 0, .int 0, .int (-1)])))) rfl rfl rfl rfl rfl rfl rfl ?_ ?_ ?_
  · show (bif qrc _ 63 j_A_survey && _ then _ else _) = _
    rw [qrc_at rfl hA rfl]
    rfl
  · refine G.go 2 (fun n => (rfl : _ = exe ξ n (d + 7) j_A_survey 2 [(0, .ref 63)] [.int 0, .ref 63] σ)) ?_
    refine G.put rfl rfl hA rfl rfl rfl ?_
    refine G.go 2 (fun n => (rfl : _ = exe ξ n (d + 7) j_A_survey 7 [(0, .ref 63)] [.int (-1), .ref 63] (σ.set 63 (.inl (1, [.ref 64, .ref 66, .ref 67, .int 0, .int 0, .int 0, .int 0, .int (-1)]))))) ?_
    refine G.put rfl rfl (qs_at hA) rfl rfl rfl ?_
    refine G.go 2 (fun n => (rfl : _ = exe ξ n (d + 7) j_A_survey 12 [(0, .ref 63)] [.ref 63, .ref 63] ((σ.set 63 (.inl (1, [.ref 64, .ref 66, .ref 67, .int 0, .int 0, .int 0, .int 0, .int (-1)]))).set 63 (.inl (1, [.ref 64, .ref 66, .ref 67, .int 0, .int 0, .int 0, .int 0, .int (-1)]))))) ?_
    refine G.call (k := j_A_lastEndRecord) (as := [.ref 63]) (r := [.ref 63]) (v := some (.int (-1))) (σ1 := ((σ.set 63 (.inl (1, [.ref 64, .ref 66, .ref 67, .int 0, .int 0, .int 0, .int 0, .int (-1)]))).set 63 (.inl (1, [.ref 64, .ref 66, .ref 67, .int 0, .int 0, .int 0, .int 0, .int (-1)])))) rfl rfl rfl rfl rfl rfl rfl ?_ ?_ ?_
    · show (bif qrc _ 63 j_A_lastEndRecord && _ then _ else _) = _
      rw [qrc_at rfl (qs_at (qs_at hA)) rfl]
      rfl
    · refine G.go 1 (fun n => (rfl : _ = exe ξ n (d + 6) j_A_lastEndRecord 1 [(0, .ref 63)] [.ref 63] ((σ.set 63 (.inl (1, [.ref 64, .ref 66, .ref 67, .int 0, .int 0, .int 0, .int 0, .int (-1)]))).set 63 (.inl (1, [.ref 64, .ref 66, .ref 67, .int 0, .int 0, .int 0, .int 0, .int (-1)]))))) ?_
      refine G.get rfl rfl rfl (qs_at (qs_at hA)) rfl ?_
      refine G.get rfl rfl rfl (qs_ne (by decide) (qs_ne (by decide) hR)) rfl ?_
      exact G.end 7 (fun n => rfl)
    refine G.put rfl rfl (qs_at (qs_at hA)) rfl rfl rfl ?_
    refine G.go 1 (fun n => (rfl : _ = exe ξ n (d + 7) j_A_survey 19 [(0, .ref 63)] [.ref 63] (((σ.set 63 (.inl (1, [.ref 64, .ref 66, .ref 67, .int 0, .int 0, .int 0, .int 0, .int (-1)]))).set 63 (.inl (1, [.ref 64, .ref 66, .ref 67, .int 0, .int 0, .int 0, .int 0, .int (-1)]))).set 63 (.inl (1, [.ref 64, .ref 66, .ref 67, .int 0, .int (-1), .int 0, .int 0, .int (-1)]))))) ?_
    refine G.get rfl rfl rfl (qs_at (qs_at (qs_at hA))) rfl ?_
    exact G.end 3 (fun n => rfl)
  refine GX.go 4 (fun n => (rfl : _ = exx ξ n (d + 8) j_N_open 13 [(0, .ref 16), (1, .int 1)] [.ref 16] (((σ.set 63 (.inl (1, [.ref 64, .ref 66, .ref 67, .int 0, .int 0, .int 0, .int 0, .int (-1)]))).set 63 (.inl (1, [.ref 64, .ref 66, .ref 67, .int 0, .int 0, .int 0, .int 0, .int (-1)]))).set 63 (.inl (1, [.ref 64, .ref 66, .ref 67, .int 0, .int (-1), .int 0, .int 0, .int (-1)]))))) ?_
  refine GX.get rfl rfl rfl rfl (qs_ne (by decide) (qs_ne (by decide) (qs_ne (by decide) hN))) rfl ?_
  refine GX.get rfl rfl rfl rfl (qs_at (qs_at (qs_at hA))) rfl ?_
  refine GX.call (k := j_R_clear) (as := [.ref 64]) (r := []) (v := none) (σ1 := ((((σ.set 63 (.inl (1, [.ref 64, .ref 66, .ref 67, .int 0, .int 0, .int 0, .int 0, .int (-1)]))).set 63 (.inl (1, [.ref 64, .ref 66, .ref 67, .int 0, .int 0, .int 0, .int 0, .int (-1)]))).set 63 (.inl (1, [.ref 64, .ref 66, .ref 67, .int 0, .int (-1), .int 0, .int 0, .int (-1)]))).set 64 (.inl (5, [.int 8000, .ref 65, .int 0])))) rfl rfl rfl rfl rfl rfl rfl ?_ ?_ ?_
  · show (bif qrc _ 64 j_R_clear && _ then _ else _) = _
    rw [qrc_at rfl (qs_ne (by decide) (qs_ne (by decide) (qs_ne (by decide) hR))) rfl]
    rfl
  · refine G.go 2 (fun n => (rfl : _ = exe ξ n (d + 7) j_R_clear 2 [(0, .ref 64)] [.int 0, .ref 64] (((σ.set 63 (.inl (1, [.ref 64, .ref 66, .ref 67, .int 0, .int 0, .int 0, .int 0, .int (-1)]))).set 63 (.inl (1, [.ref 64, .ref 66, .ref 67, .int 0, .int 0, .int 0, .int 0, .int (-1)]))).set 63 (.inl (1, [.ref 64, .ref 66, .ref 67, .int 0, .int (-1), .int 0, .int 0, .int (-1)]))))) ?_
    refine G.put rfl rfl (qs_ne (by decide) (qs_ne (by decide) (qs_ne (by decide) hR))) rfl rfl rfl ?_
    exact G.end 1 (fun n => rfl)
  refine GX.go 3 (fun n => (rfl : _ = exx ξ n (d + 8) j_N_open 25 [(0, .ref 16), (1, .int 1)] [.ref 16, .int 1, .ref 16] ((((σ.set 63 (.inl (1, [.ref 64, .ref 66, .ref 67, .int 0, .int 0, .int 0, .int 0, .int (-1)]))).set 63 (.inl (1, [.ref 64, .ref 66, .ref 67, .int 0, .int 0, .int 0, .int 0, .int (-1)]))).set 63 (.inl (1, [.ref 64, .ref 66, .ref 67, .int 0, .int (-1), .int 0, .int 0, .int (-1)]))).set 64 (.inl (5, [.int 8000, .ref 65, .int 0]))))) ?_
  refine GX.get rfl rfl rfl rfl (qs_ne (by decide) (qs_ne (by decide) (qs_ne (by decide) (qs_ne (by decide) hN)))) rfl ?_
  refine GX.get rfl rfl rfl rfl (qs_ne (by decide) (qs_at (qs_at (qs_at hA)))) rfl ?_
  refine GX.call (k := j_N_note) (as := [.ref 16, .int 1, .int (-1)]) (r := []) (v := none) (σ1 := ((((((σ.set 63 (.inl (1, [.ref 64, .ref 66, .ref 67, .int 0, .int 0, .int 0, .int 0, .int (-1)]))).set 63 (.inl (1, [.ref 64, .ref 66, .ref 67, .int 0, .int 0, .int 0, .int 0, .int (-1)]))).set 63 (.inl (1, [.ref 64, .ref 66, .ref 67, .int 0, .int (-1), .int 0, .int 0, .int (-1)]))).set 64 (.inl (5, [.int 8000, .ref 65, .int 0]))).set 16 (.inl (0, [.ref 17, .ref 41, .ref 48, .ref 51, .ref 53, .ref 55, .ref 57, .ref 59, .ref 61, .ref 63, .ref 68, .int 0, .ref 73, .ref 74, .int 0, .int 1, .int (-1)]))).set 16 (.inl (0, [.ref 17, .ref 41, .ref 48, .ref 51, .ref 53, .ref 55, .ref 57, .ref 59, .ref 61, .ref 63, .ref 68, .int 0, .ref 73, .ref 74, .int 0, .int 1, .int (-1)])))) rfl rfl rfl rfl rfl rfl rfl ?_ ?_ ?_
  · show (bif qrc _ 16 j_N_note && _ then _ else _) = _
    rw [qrc_at rfl (qs_ne (by decide) (qs_ne (by decide) (qs_ne (by decide) (qs_ne (by decide) hN)))) rfl]
    rfl
  · refine G.go 2 (fun n => (rfl : _ = exe ξ n (d + 7) j_N_note 2 [(0, .ref 16), (1, .int 1), (2, .int (-1))] [.int 1, .ref 16] ((((σ.set 63 (.inl (1, [.ref 64, .ref 66, .ref 67, .int 0, .int 0, .int 0, .int 0, .int (-1)]))).set 63 (.inl (1, [.ref 64, .ref 66, .ref 67, .int 0, .int 0, .int 0, .int 0, .int (-1)]))).set 63 (.inl (1, [.ref 64, .ref 66, .ref 67, .int 0, .int (-1), .int 0, .int 0, .int (-1)]))).set 64 (.inl (5, [.int 8000, .ref 65, .int 0]))))) ?_
    refine G.put rfl rfl (qs_ne (by decide) (qs_ne (by decide) (qs_ne (by decide) (qs_ne (by decide) hN)))) rfl rfl rfl ?_
    refine G.go 2 (fun n => (rfl : _ = exe ξ n (d + 7) j_N_note 7 [(0, .ref 16), (1, .int 1), (2, .int (-1))] [.int (-1), .ref 16] (((((σ.set 63 (.inl (1, [.ref 64, .ref 66, .ref 67, .int 0, .int 0, .int 0, .int 0, .int (-1)]))).set 63 (.inl (1, [.ref 64, .ref 66, .ref 67, .int 0, .int 0, .int 0, .int 0, .int (-1)]))).set 63 (.inl (1, [.ref 64, .ref 66, .ref 67, .int 0, .int (-1), .int 0, .int 0, .int (-1)]))).set 64 (.inl (5, [.int 8000, .ref 65, .int 0]))).set 16 (.inl (0, [.ref 17, .ref 41, .ref 48, .ref 51, .ref 53, .ref 55, .ref 57, .ref 59, .ref 61, .ref 63, .ref 68, .int 0, .ref 73, .ref 74, .int 0, .int 1, .int (-1)]))))) ?_
    refine G.put rfl rfl (qs_at (qs_ne (by decide) (qs_ne (by decide) (qs_ne (by decide) (qs_ne (by decide) hN))))) rfl rfl rfl ?_
    exact G.end 1 (fun n => rfl)
  exact GX.throw (Nat.ble_eq_true_of_le (by omega)) rfl rfl
theorem pN_entry (d : Nat) (a b c : Int32) (σ : qH) (hF : freshN σ) : ∃ σ1 : qH, (keepM σ σ1 ∧ sz 1 8010 σ σ1) ∧ GX ξ (d + 8) j_N_entry 0 (lv_args 0 [.ref 16, .int a, .int b, .int c]) [] σ 1 σ1 := by
  obtain ⟨hN, hT, hV, hK, hA, hR⟩ := hF
  refine ⟨(σ ++ ([.inr (.inr (.inr (.inr (.inr 6))))] : qH)), ⟨(fun k c hk h => (qs_push h)), sz.mono (sz.push (sz.refl σ)) (by decide) (by decide)⟩, ?_⟩
  refine GX.go 2 (fun n => (rfl : _ = exx ξ n (d + 8) j_N_entry 2 [(0, .ref 16), (1, .int a), (2, .int b), (3, .int c)] [.int a, .ref 16] σ)) ?_
  refine GX.call (k := j_N_archiveOf) (as := [.ref 16, .int a]) (r := []) (v := some (.null)) (σ1 := σ) rfl rfl rfl rfl rfl rfl rfl ?_ ?_ ?_
  · show (bif qrc _ 16 j_N_archiveOf && _ then _ else _) = _
    rw [qrc_at rfl hN rfl]
    rfl
  · refine G.go 1 (fun n => (rfl : _ = exe ξ n (d + 7) j_N_archiveOf 1 [(0, .ref 16), (1, .int a)] [.ref 16] σ)) ?_
    refine G.get rfl rfl rfl hN rfl ?_
    exact G.end 3 (fun n => rfl)
  refine GX.go 3 (fun n => (rfl : _ = exx ξ n (d + 8) j_N_entry 21 [(0, .ref 16), (1, .int a), (2, .int b), (3, .int c), (4, .null)] [] σ)) ?_
  exact GX.throw (Nat.ble_eq_true_of_le (by omega)) rfl rfl
theorem pN_letter (d : Nat) (a b c : Int32) (σ : qH) (hF : freshN σ) : ∃ σ1 : qH, (keepM σ σ1 ∧ sz 1 8010 σ σ1) ∧ GX ξ (d + 8) j_N_letter 0 (lv_args 0 [.ref 16, .int a, .int b, .int c]) [] σ 1 σ1 := by
  obtain ⟨hN, hT, hV, hK, hA, hR⟩ := hF
  refine ⟨(σ ++ ([.inr (.inr (.inr (.inr (.inr 6))))] : qH)), ⟨(fun k c hk h => (qs_push h)), sz.mono (sz.push (sz.refl σ)) (by decide) (by decide)⟩, ?_⟩
  refine GX.go 2 (fun n => (rfl : _ = exx ξ n (d + 8) j_N_letter 2 [(0, .ref 16), (1, .int a), (2, .int b), (3, .int c)] [.int a, .ref 16] σ)) ?_
  refine GX.call (k := j_N_archiveOf) (as := [.ref 16, .int a]) (r := []) (v := some (.null)) (σ1 := σ) rfl rfl rfl rfl rfl rfl rfl ?_ ?_ ?_
  · show (bif qrc _ 16 j_N_archiveOf && _ then _ else _) = _
    rw [qrc_at rfl hN rfl]
    rfl
  · refine G.go 1 (fun n => (rfl : _ = exe ξ n (d + 7) j_N_archiveOf 1 [(0, .ref 16), (1, .int a)] [.ref 16] σ)) ?_
    refine G.get rfl rfl rfl hN rfl ?_
    exact G.end 3 (fun n => rfl)
  refine GX.go 3 (fun n => (rfl : _ = exx ξ n (d + 8) j_N_letter 21 [(0, .ref 16), (1, .int a), (2, .int b), (3, .int c), (4, .null)] [] σ)) ?_
  exact GX.throw (Nat.ble_eq_true_of_le (by omega)) rfl rfl
theorem pN_number (d : Nat) (a : Int32) (σ : qH) (hF : freshN σ) : ∃ σ1 : qH, (keepM σ σ1 ∧ sz 1 8010 σ σ1) ∧ GX ξ (d + 8) j_N_number 0 (lv_args 0 [.ref 16, .int a]) [] σ 1 σ1 := by
  obtain ⟨hN, hT, hV, hK, hA, hR⟩ := hF
  refine ⟨((σ.set 51 (.inl (5, [.int 40, .ref 52, .int 0]))) ++ ([.inr (.inr (.inr (.inr (.inr 6))))] : qH)), ⟨(fun k c hk h => (qs_push (qs_ne (by omega) h))), sz.mono (sz.push (sz.set (sz.refl σ) hT (by simp [qcs]))) (by decide) (by decide)⟩, ?_⟩
  refine GX.go 2 (fun n => (rfl : _ = exx ξ n (d + 8) j_N_number 2 [(0, .ref 16), (1, .int a)] [.int a, .ref 16] σ)) ?_
  refine GX.call (k := j_N_archiveOf) (as := [.ref 16, .int a]) (r := []) (v := some (.null)) (σ1 := σ) rfl rfl rfl rfl rfl rfl rfl ?_ ?_ ?_
  · show (bif qrc _ 16 j_N_archiveOf && _ then _ else _) = _
    rw [qrc_at rfl hN rfl]
    rfl
  · refine G.go 1 (fun n => (rfl : _ = exe ξ n (d + 7) j_N_archiveOf 1 [(0, .ref 16), (1, .int a)] [.ref 16] σ)) ?_
    refine G.get rfl rfl rfl hN rfl ?_
    exact G.end 3 (fun n => rfl)
  refine GX.go 7 (fun n => (rfl : _ = exx ξ n (d + 8) j_N_number 32 [(0, .ref 16), (1, .int a), (2, .null), (3, .int (-1))] [.ref 16] σ)) ?_
  refine GX.get rfl rfl rfl rfl hN rfl ?_
  refine GX.call (k := j_R_clear) (as := [.ref 51]) (r := []) (v := none) (σ1 := (σ.set 51 (.inl (5, [.int 40, .ref 52, .int 0])))) rfl rfl rfl rfl rfl rfl rfl ?_ ?_ ?_
  · show (bif qrc _ 51 j_R_clear && _ then _ else _) = _
    rw [qrc_at rfl hT rfl]
    rfl
  · refine G.go 2 (fun n => (rfl : _ = exe ξ n (d + 7) j_R_clear 2 [(0, .ref 51)] [.int 0, .ref 51] σ)) ?_
    refine G.put rfl rfl hT rfl rfl rfl ?_
    exact G.end 1 (fun n => rfl)
  refine GX.go 2 (fun n => (rfl : _ = exx ξ n (d + 8) j_N_number 42 [(0, .ref 16), (1, .int a), (2, .null), (3, .int (-1))] [] (σ.set 51 (.inl (5, [.int 40, .ref 52, .int 0]))))) ?_
  exact GX.throw (Nat.ble_eq_true_of_le (by omega)) rfl rfl
theorem pN_read (d : Nat) (a b : Int32) (σ : qH) (hF : freshN σ) : ∃ σ1 : qH, (keepM σ σ1 ∧ sz 1 8010 σ σ1) ∧ GX ξ (d + 8) j_N_read 0 (lv_args 0 [.ref 16, .int a, .int b]) [] σ 1 σ1 := by
  obtain ⟨hN, hT, hV, hK, hA, hR⟩ := hF
  refine ⟨(σ ++ ([.inr (.inr (.inr (.inr (.inr 6))))] : qH)), ⟨(fun k c hk h => (qs_push h)), sz.mono (sz.push (sz.refl σ)) (by decide) (by decide)⟩, ?_⟩
  refine GX.go 2 (fun n => (rfl : _ = exx ξ n (d + 8) j_N_read 2 [(0, .ref 16), (1, .int a), (2, .int b)] [.int a, .ref 16] σ)) ?_
  refine GX.call (k := j_N_archiveOf) (as := [.ref 16, .int a]) (r := []) (v := some (.null)) (σ1 := σ) rfl rfl rfl rfl rfl rfl rfl ?_ ?_ ?_
  · show (bif qrc _ 16 j_N_archiveOf && _ then _ else _) = _
    rw [qrc_at rfl hN rfl]
    rfl
  · refine G.go 1 (fun n => (rfl : _ = exe ξ n (d + 7) j_N_archiveOf 1 [(0, .ref 16), (1, .int a)] [.ref 16] σ)) ?_
    refine G.get rfl rfl rfl hN rfl ?_
    exact G.end 3 (fun n => rfl)
  refine GX.go 3 (fun n => (rfl : _ = exx ξ n (d + 8) j_N_read 18 [(0, .ref 16), (1, .int a), (2, .int b), (3, .null)] [] σ)) ?_
  exact GX.throw (Nat.ble_eq_true_of_le (by omega)) rfl rfl
theorem pN_mount (d : Nat) (a : Int32) (σ : qH) (hF : freshN σ) : ∃ σ1 : qH, (keepM σ σ1 ∧ sz 1 8010 σ σ1) ∧ GX ξ (d + 8) j_N_mount 0 (lv_args 0 [.ref 16, .int a]) [] σ 1 σ1 := by
  obtain ⟨hN, hT, hV, hK, hA, hR⟩ := hF
  refine ⟨(σ ++ ([.inr (.inr (.inr (.inr (.inr 6))))] : qH)), ⟨(fun k c hk h => (qs_push h)), sz.mono (sz.push (sz.refl σ)) (by decide) (by decide)⟩, ?_⟩
  refine GX.go 1 (fun n => (rfl : _ = exx ξ n (d + 8) j_N_mount 1 [(0, .ref 16), (1, .int a)] [.ref 16] σ)) ?_
  refine GX.get rfl rfl rfl rfl hN rfl ?_
  refine GX.go 1 (fun n => (rfl : _ = exx ξ n (d + 8) j_N_mount 18 [(0, .ref 16), (1, .int a)] [] σ)) ?_
  exact GX.throw (Nat.ble_eq_true_of_le (by omega)) rfl rfl
theorem pN_index (d : Nat) (σ : qH) (hF : freshN σ) : ∃ σ1 : qH, (keepM σ σ1 ∧ sz 1 8010 σ σ1) ∧ GX ξ (d + 8) j_N_index 0 (lv_args 0 [.ref 16]) [] σ 2 σ1 := by
  obtain ⟨hN, hT, hV, hK, hA, hR⟩ := hF
  refine ⟨(σ ++ ([.inr (.inr (.inr (.inr (.inr 6))))] : qH)), ⟨(fun k c hk h => (qs_push h)), sz.mono (sz.push (sz.refl σ)) (by decide) (by decide)⟩, ?_⟩
  refine GX.go 1 (fun n => (rfl : _ = exx ξ n (d + 8) j_N_index 1 [(0, .ref 16)] [.ref 16] σ)) ?_
  refine GX.get rfl rfl rfl rfl hN rfl ?_
  refine GX.go 1 (fun n => (rfl : _ = exx ξ n (d + 8) j_N_index 7 [(0, .ref 16)] [] σ)) ?_
  exact GX.throw (Nat.ble_eq_true_of_le (by omega)) rfl rfl
theorem pN_attribute (d : Nat) (a : Int32) (σ : qH) (hF : freshN σ) : ∃ σ1 : qH, (keepM σ σ1 ∧ sz 1 8010 σ σ1) ∧ GX ξ (d + 8) j_N_attribute 0 (lv_args 0 [.ref 16, .int a]) [] σ 1 σ1 := by
  obtain ⟨hN, hT, hV, hK, hA, hR⟩ := hF
  refine ⟨((σ.set 51 (.inl (5, [.int 40, .ref 52, .int 0]))) ++ ([.inr (.inr (.inr (.inr (.inr 6))))] : qH)), ⟨(fun k c hk h => (qs_push (qs_ne (by omega) h))), sz.mono (sz.push (sz.set (sz.refl σ) hT (by simp [qcs]))) (by decide) (by decide)⟩, ?_⟩
  refine GX.go 2 (fun n => (rfl : _ = exx ξ n (d + 8) j_N_attribute 2 [(0, .ref 16), (1, .int a)] [.int a, .ref 16] σ)) ?_
  refine GX.call (k := j_N_archiveOf) (as := [.ref 16, .int a]) (r := []) (v := some (.null)) (σ1 := σ) rfl rfl rfl rfl rfl rfl rfl ?_ ?_ ?_
  · show (bif qrc _ 16 j_N_archiveOf && _ then _ else _) = _
    rw [qrc_at rfl hN rfl]
    rfl
  · refine G.go 1 (fun n => (rfl : _ = exe ξ n (d + 7) j_N_archiveOf 1 [(0, .ref 16), (1, .int a)] [.ref 16] σ)) ?_
    refine G.get rfl rfl rfl hN rfl ?_
    exact G.end 3 (fun n => rfl)
  refine GX.go 16 (fun n => (rfl : _ = exx ξ n (d + 8) j_N_attribute 85 [(0, .ref 16), (1, .int a), (2, .null), (3, .int (-1)), (4, .int 0)] [.ref 16] σ)) ?_
  refine GX.get rfl rfl rfl rfl hN rfl ?_
  refine GX.call (k := j_R_clear) (as := [.ref 51]) (r := []) (v := none) (σ1 := (σ.set 51 (.inl (5, [.int 40, .ref 52, .int 0])))) rfl rfl rfl rfl rfl rfl rfl ?_ ?_ ?_
  · show (bif qrc _ 51 j_R_clear && _ then _ else _) = _
    rw [qrc_at rfl hT rfl]
    rfl
  · refine G.go 2 (fun n => (rfl : _ = exe ξ n (d + 7) j_R_clear 2 [(0, .ref 51)] [.int 0, .ref 51] σ)) ?_
    refine G.put rfl rfl hT rfl rfl rfl ?_
    exact G.end 1 (fun n => rfl)
  refine GX.go 2 (fun n => (rfl : _ = exx ξ n (d + 8) j_N_attribute 95 [(0, .ref 16), (1, .int a), (2, .null), (3, .int (-1)), (4, .int 0)] [] (σ.set 51 (.inl (5, [.int 40, .ref 52, .int 0]))))) ?_
  exact GX.throw (Nat.ble_eq_true_of_le (by omega)) rfl rfl
theorem pM_fault (d : Nat) (σ : qH) (hF : freshM σ) : ∃ (σ2 : qH) (fs : List Value), σ2[137]? = some (.inl (7, .int 0 :: fs)) ∧ ((∀ c, σ[146]? = some c → σ2[146]? = some c) ∧ sz 0 0 σ σ2) ∧ G ξ (d + 8) j_M_fault 0 (lv_args 0 [.ref 137]) [] σ (some (.int 0), σ2) := by
  obtain ⟨h0, h2⟩ := hF
  refine ⟨(σ.set 137 (.inl (7, [.int 0, .ref 138, .ref 139, .int 0, .int 0, .ref 140, .int 0, .int (-1), .int 0, .ref 141, .int 0, .int 0, .ref 142, .ref 143, .int 0, .int 0, .int 0, .int 0, .int 0, .int 0, .int 0, .ref 144, .int 0, .ref 145, .int 0, .int 0]))), _, (qs_at h0), ⟨fun c h => (qs_ne (by decide) h), (sz.set (sz.refl σ) h0 (by simp [qcs]))⟩, ?_⟩
  refine G.go 2 (fun n => (rfl : _ = exe ξ n (d + 8) j_M_fault 2 [(0, .ref 137)] [.int 0, .ref 137] σ)) ?_
  refine G.put rfl rfl h0 rfl rfl rfl ?_
  refine G.go 1 (fun n => (rfl : _ = exe ξ n (d + 8) j_M_fault 6 [(0, .ref 137)] [.ref 137] (σ.set 137 (.inl (7, [.int 0, .ref 138, .ref 139, .int 0, .int 0, .ref 140, .int 0, .int (-1), .int 0, .ref 141, .int 0, .int 0, .ref 142, .ref 143, .int 0, .int 0, .int 0, .int 0, .int 0, .int 0, .int 0, .ref 144, .int 0, .ref 145, .int 0, .int 0]))))) ?_
  refine G.get rfl rfl rfl (qs_at h0) rfl ?_
  exact G.end 1 (fun n => rfl)
theorem pM_place (d : Nat) (σ : qH) (hF : freshM σ) : ∃ (σ2 : qH) (fs : List Value), σ2[137]? = some (.inl (7, .int 0 :: fs)) ∧ ((∀ c, σ[146]? = some c → σ2[146]? = some c) ∧ sz 0 0 σ σ2) ∧ G ξ (d + 8) j_M_place 0 (lv_args 0 [.ref 137]) [] σ (some (.int (-1)), σ2) := by
  obtain ⟨h0, h2⟩ := hF
  refine ⟨(σ.set 137 (.inl (7, [.int 0, .ref 138, .ref 139, .int 0, .int 0, .ref 140, .int 0, .int (-1), .int 0, .ref 141, .int 0, .int 0, .ref 142, .ref 143, .int 0, .int 0, .int 0, .int 0, .int 0, .int 0, .int 0, .ref 144, .int 0, .ref 145, .int 0, .int 0]))), _, (qs_at h0), ⟨fun c h => (qs_ne (by decide) h), (sz.set (sz.refl σ) h0 (by simp [qcs]))⟩, ?_⟩
  refine G.go 2 (fun n => (rfl : _ = exe ξ n (d + 8) j_M_place 2 [(0, .ref 137)] [.int 0, .ref 137] σ)) ?_
  refine G.put rfl rfl h0 rfl rfl rfl ?_
  refine G.go 1 (fun n => (rfl : _ = exe ξ n (d + 8) j_M_place 6 [(0, .ref 137)] [.ref 137] (σ.set 137 (.inl (7, [.int 0, .ref 138, .ref 139, .int 0, .int 0, .ref 140, .int 0, .int (-1), .int 0, .ref 141, .int 0, .int 0, .ref 142, .ref 143, .int 0, .int 0, .int 0, .int 0, .int 0, .int 0, .int 0, .ref 144, .int 0, .ref 145, .int 0, .int 0]))))) ?_
  refine G.get rfl rfl rfl (qs_at h0) rfl ?_
  exact G.end 1 (fun n => rfl)
theorem pM_count1 (d : Nat) (a : Int32) (σ : qH) (hF : freshM σ) (c1 : a = (-1)) : ∃ (σ2 : qH) (fs : List Value), σ2[137]? = some (.inl (7, .int 0 :: fs)) ∧ ((∀ c, σ[146]? = some c → σ2[146]? = some c) ∧ sz 0 0 σ σ2) ∧ G ξ (d + 8) j_M_count 0 (lv_args 0 [.ref 137, .int a]) [] σ (some (.int 0), σ2) := by
  obtain ⟨h0, h2⟩ := hF
  refine ⟨(σ.set 137 (.inl (7, [.int 0, .ref 138, .ref 139, .int 0, .int 0, .ref 140, .int 0, .int (-1), .int 0, .ref 141, .int 0, .int 0, .ref 142, .ref 143, .int 0, .int 0, .int 0, .int 0, .int 0, .int 0, .int 0, .ref 144, .int 0, .ref 145, .int 0, .int 0]))), _, (qs_at h0), ⟨fun c h => (qs_ne (by decide) h), (sz.set (sz.refl σ) h0 (by simp [qcs]))⟩, ?_⟩
  refine G.go 2 (fun n => (rfl : _ = exe ξ n (d + 8) j_M_count 2 [(0, .ref 137), (1, .int a)] [.int 0, .ref 137] σ)) ?_
  refine G.put rfl rfl h0 rfl rfl rfl ?_
  refine G.go 3 (fun n => (rfl : _ = exe ξ n (d + 8) j_M_count (if a = (-1) then 10 else 28) [(0, .ref 137), (1, .int a)] [] (σ.set 137 (.inl (7, [.int 0, .ref 138, .ref 139, .int 0, .int 0, .ref 140, .int 0, .int (-1), .int 0, .ref 141, .int 0, .int 0, .ref 142, .ref 143, .int 0, .int 0, .int 0, .int 0, .int 0, .int 0, .int 0, .ref 144, .int 0, .ref 145, .int 0, .int 0]))))) ?_
  rw [if_pos c1]
  refine G.go 1 (fun n => (rfl : _ = exe ξ n (d + 8) j_M_count 11 [(0, .ref 137), (1, .int a)] [.ref 137] (σ.set 137 (.inl (7, [.int 0, .ref 138, .ref 139, .int 0, .int 0, .ref 140, .int 0, .int (-1), .int 0, .ref 141, .int 0, .int 0, .ref 142, .ref 143, .int 0, .int 0, .int 0, .int 0, .int 0, .int 0, .int 0, .ref 144, .int 0, .ref 145, .int 0, .int 0]))))) ?_
  refine G.get rfl rfl rfl (qs_at h0) rfl ?_
  exact G.end 3 (fun n => rfl)
theorem pM_count2 (d : Nat) (a : Int32) (σ : qH) (hF : freshM σ) (c1 : ¬ a = (-1)) : ∃ (σ2 : qH) (fs : List Value), σ2[137]? = some (.inl (7, .int 0 :: fs)) ∧ ((∀ c, σ[146]? = some c → σ2[146]? = some c) ∧ sz 0 0 σ σ2) ∧ G ξ (d + 8) j_M_count 0 (lv_args 0 [.ref 137, .int a]) [] σ (some (.int (-1)), σ2) := by
  obtain ⟨h0, h2⟩ := hF
  refine ⟨(σ.set 137 (.inl (7, [.int 0, .ref 138, .ref 139, .int 0, .int 0, .ref 140, .int 0, .int (-1), .int 0, .ref 141, .int 0, .int 0, .ref 142, .ref 143, .int 0, .int 0, .int 0, .int 0, .int 0, .int 0, .int 0, .ref 144, .int 0, .ref 145, .int 0, .int 0]))), _, (qs_at h0), ⟨fun c h => (qs_ne (by decide) h), (sz.set (sz.refl σ) h0 (by simp [qcs]))⟩, ?_⟩
  refine G.go 2 (fun n => (rfl : _ = exe ξ n (d + 8) j_M_count 2 [(0, .ref 137), (1, .int a)] [.int 0, .ref 137] σ)) ?_
  refine G.put rfl rfl h0 rfl rfl rfl ?_
  refine G.go 3 (fun n => (rfl : _ = exe ξ n (d + 8) j_M_count (if a = (-1) then 10 else 28) [(0, .ref 137), (1, .int a)] [] (σ.set 137 (.inl (7, [.int 0, .ref 138, .ref 139, .int 0, .int 0, .ref 140, .int 0, .int (-1), .int 0, .ref 141, .int 0, .int 0, .ref 142, .ref 143, .int 0, .int 0, .int 0, .int 0, .int 0, .int 0, .int 0, .ref 144, .int 0, .ref 145, .int 0, .int 0]))))) ?_
  rw [if_neg c1]
  refine G.go 2 (fun n => (rfl : _ = exe ξ n (d + 8) j_M_count 30 [(0, .ref 137), (1, .int a)] [.int a, .ref 137] (σ.set 137 (.inl (7, [.int 0, .ref 138, .ref 139, .int 0, .int 0, .ref 140, .int 0, .int (-1), .int 0, .ref 141, .int 0, .int 0, .ref 142, .ref 143, .int 0, .int 0, .int 0, .int 0, .int 0, .int 0, .int 0, .ref 144, .int 0, .ref 145, .int 0, .int 0]))))) ?_
  refine G.call (k := j_M_isArchive) (as := [.ref 137, .int a]) (r := []) (v := some (.int 0)) (σ1 := (σ.set 137 (.inl (7, [.int 0, .ref 138, .ref 139, .int 0, .int 0, .ref 140, .int 0, .int (-1), .int 0, .ref 141, .int 0, .int 0, .ref 142, .ref 143, .int 0, .int 0, .int 0, .int 0, .int 0, .int 0, .int 0, .ref 144, .int 0, .ref 145, .int 0, .int 0])))) rfl rfl rfl rfl rfl rfl rfl ?_ ?_ ?_
  · show (bif qrc _ 137 j_M_isArchive && _ then _ else _) = _
    rw [qrc_at rfl (qs_at h0) rfl]
    rfl
  · refine G.go 1 (fun n => (rfl : _ = exe ξ n (d + 7) j_M_isArchive 1 [(0, .ref 137), (1, .int a)] [.ref 137] (σ.set 137 (.inl (7, [.int 0, .ref 138, .ref 139, .int 0, .int 0, .ref 140, .int 0, .int (-1), .int 0, .ref 141, .int 0, .int 0, .ref 142, .ref 143, .int 0, .int 0, .int 0, .int 0, .int 0, .int 0, .int 0, .ref 144, .int 0, .ref 145, .int 0, .int 0]))))) ?_
    refine G.get rfl rfl rfl (qs_at h0) rfl ?_
    exact G.end 3 (fun n => rfl)
  exact G.end 3 (fun n => rfl)
theorem pM_end1 (d : Nat) (a : Int32) (σ : qH) (hF : freshM σ) (c1 : a < 0) : ∃ (σ2 : qH) (fs : List Value), σ2[137]? = some (.inl (7, .int 0 :: fs)) ∧ ((∀ c, σ[146]? = some c → σ2[146]? = some c) ∧ sz 0 0 σ σ2) ∧ G ξ (d + 8) j_M_end 0 (lv_args 0 [.ref 137, .int a]) [] σ (some (.int 0), σ2) := by
  obtain ⟨h0, h2⟩ := hF
  refine ⟨(σ.set 137 (.inl (7, [.int 0, .ref 138, .ref 139, .int 0, .int 0, .ref 140, .int 0, .int (-1), .int 0, .ref 141, .int 0, .int 0, .ref 142, .ref 143, .int 0, .int 0, .int 0, .int 0, .int 0, .int 0, .int 0, .ref 144, .int 0, .ref 145, .int 0, .int 0]))), _, (qs_at h0), ⟨fun c h => (qs_ne (by decide) h), (sz.set (sz.refl σ) h0 (by simp [qcs]))⟩, ?_⟩
  refine G.go 2 (fun n => (rfl : _ = exe ξ n (d + 8) j_M_end 2 [(0, .ref 137), (1, .int a)] [.int 0, .ref 137] σ)) ?_
  refine G.put rfl rfl h0 rfl rfl rfl ?_
  refine G.go 3 (fun n => (rfl : _ = exe ξ n (d + 8) j_M_end 8 [(0, .ref 137), (1, .int a)] [.ref 137, .int 0, .int a] (σ.set 137 (.inl (7, [.int 0, .ref 138, .ref 139, .int 0, .int 0, .ref 140, .int 0, .int (-1), .int 0, .ref 141, .int 0, .int 0, .ref 142, .ref 143, .int 0, .int 0, .int 0, .int 0, .int 0, .int 0, .int 0, .ref 144, .int 0, .ref 145, .int 0, .int 0]))))) ?_
  refine G.get rfl rfl rfl (qs_at h0) rfl ?_
  refine G.go 1 (fun n => (rfl : _ = exe ξ n (d + 8) j_M_end 12 [(0, .ref 137), (1, .int a)] [.int 0, .ref 139, .int 0, .int a] (σ.set 137 (.inl (7, [.int 0, .ref 138, .ref 139, .int 0, .int 0, .ref 140, .int 0, .int (-1), .int 0, .ref 141, .int 0, .int 0, .ref 142, .ref 143, .int 0, .int 0, .int 0, .int 0, .int 0, .int 0, .int 0, .ref 144, .int 0, .ref 145, .int 0, .int 0]))))) ?_
  refine G.iald rfl rfl (qs_ne (by decide) h2) rfl ?_
  refine G.call (k := j_M_in) (as := [.int a, .int 0, .int 0]) (r := []) (v := some (.int 0)) (σ1 := (σ.set 137 (.inl (7, [.int 0, .ref 138, .ref 139, .int 0, .int 0, .ref 140, .int 0, .int (-1), .int 0, .ref 141, .int 0, .int 0, .ref 142, .ref 143, .int 0, .int 0, .int 0, .int 0, .int 0, .int 0, .int 0, .ref 144, .int 0, .ref 145, .int 0, .int 0])))) rfl rfl rfl rfl rfl rfl rfl rfl ?_ ?_
  · refine G.go 3 (fun n => (rfl : _ = exe ξ n (d + 7) j_M_in (if a < 0 then 14 else 5) [(0, .int a), (1, .int 0), (2, .int 0)] [] (σ.set 137 (.inl (7, [.int 0, .ref 138, .ref 139, .int 0, .int 0, .ref 140, .int 0, .int (-1), .int 0, .ref 141, .int 0, .int 0, .ref 142, .ref 143, .int 0, .int 0, .int 0, .int 0, .int 0, .int 0, .int 0, .ref 144, .int 0, .ref 145, .int 0, .int 0]))))) ?_
    rw [if_pos c1]
    exact G.end 2 (fun n => rfl)
  exact G.end 3 (fun n => rfl)
theorem pM_end2 (d : Nat) (a : Int32) (σ : qH) (hF : freshM σ) (c1 : ¬ a < 0) (c2 : 0 < a) : ∃ (σ2 : qH) (fs : List Value), σ2[137]? = some (.inl (7, .int 0 :: fs)) ∧ ((∀ c, σ[146]? = some c → σ2[146]? = some c) ∧ sz 0 0 σ σ2) ∧ G ξ (d + 8) j_M_end 0 (lv_args 0 [.ref 137, .int a]) [] σ (some (.int 0), σ2) := by
  obtain ⟨h0, h2⟩ := hF
  refine ⟨(σ.set 137 (.inl (7, [.int 0, .ref 138, .ref 139, .int 0, .int 0, .ref 140, .int 0, .int (-1), .int 0, .ref 141, .int 0, .int 0, .ref 142, .ref 143, .int 0, .int 0, .int 0, .int 0, .int 0, .int 0, .int 0, .ref 144, .int 0, .ref 145, .int 0, .int 0]))), _, (qs_at h0), ⟨fun c h => (qs_ne (by decide) h), (sz.set (sz.refl σ) h0 (by simp [qcs]))⟩, ?_⟩
  refine G.go 2 (fun n => (rfl : _ = exe ξ n (d + 8) j_M_end 2 [(0, .ref 137), (1, .int a)] [.int 0, .ref 137] σ)) ?_
  refine G.put rfl rfl h0 rfl rfl rfl ?_
  refine G.go 3 (fun n => (rfl : _ = exe ξ n (d + 8) j_M_end 8 [(0, .ref 137), (1, .int a)] [.ref 137, .int 0, .int a] (σ.set 137 (.inl (7, [.int 0, .ref 138, .ref 139, .int 0, .int 0, .ref 140, .int 0, .int (-1), .int 0, .ref 141, .int 0, .int 0, .ref 142, .ref 143, .int 0, .int 0, .int 0, .int 0, .int 0, .int 0, .int 0, .ref 144, .int 0, .ref 145, .int 0, .int 0]))))) ?_
  refine G.get rfl rfl rfl (qs_at h0) rfl ?_
  refine G.go 1 (fun n => (rfl : _ = exe ξ n (d + 8) j_M_end 12 [(0, .ref 137), (1, .int a)] [.int 0, .ref 139, .int 0, .int a] (σ.set 137 (.inl (7, [.int 0, .ref 138, .ref 139, .int 0, .int 0, .ref 140, .int 0, .int (-1), .int 0, .ref 141, .int 0, .int 0, .ref 142, .ref 143, .int 0, .int 0, .int 0, .int 0, .int 0, .int 0, .int 0, .ref 144, .int 0, .ref 145, .int 0, .int 0]))))) ?_
  refine G.iald rfl rfl (qs_ne (by decide) h2) rfl ?_
  refine G.call (k := j_M_in) (as := [.int a, .int 0, .int 0]) (r := []) (v := some (.int 0)) (σ1 := (σ.set 137 (.inl (7, [.int 0, .ref 138, .ref 139, .int 0, .int 0, .ref 140, .int 0, .int (-1), .int 0, .ref 141, .int 0, .int 0, .ref 142, .ref 143, .int 0, .int 0, .int 0, .int 0, .int 0, .int 0, .int 0, .ref 144, .int 0, .ref 145, .int 0, .int 0])))) rfl rfl rfl rfl rfl rfl rfl rfl ?_ ?_
  · refine G.go 3 (fun n => (rfl : _ = exe ξ n (d + 7) j_M_in (if a < 0 then 14 else 5) [(0, .int a), (1, .int 0), (2, .int 0)] [] (σ.set 137 (.inl (7, [.int 0, .ref 138, .ref 139, .int 0, .int 0, .ref 140, .int 0, .int (-1), .int 0, .ref 141, .int 0, .int 0, .ref 142, .ref 143, .int 0, .int 0, .int 0, .int 0, .int 0, .int 0, .int 0, .ref 144, .int 0, .ref 145, .int 0, .int 0]))))) ?_
    rw [if_neg c1]
    refine G.go 3 (fun n => (rfl : _ = exe ξ n (d + 7) j_M_in (if 0 < a then 14 else 10) [(0, .int a), (1, .int 0), (2, .int 0)] [] (σ.set 137 (.inl (7, [.int 0, .ref 138, .ref 139, .int 0, .int 0, .ref 140, .int 0, .int (-1), .int 0, .ref 141, .int 0, .int 0, .ref 142, .ref 143, .int 0, .int 0, .int 0, .int 0, .int 0, .int 0, .int 0, .ref 144, .int 0, .ref 145, .int 0, .int 0]))))) ?_
    rw [if_pos c2]
    exact G.end 2 (fun n => rfl)
  exact G.end 3 (fun n => rfl)
theorem pM_end3 (d : Nat) (a : Int32) (σ : qH) (hF : freshM σ) (c1 : ¬ a < 0) (c2 : ¬ 0 < a) : ∃ (σ2 : qH) (fs : List Value), σ2[137]? = some (.inl (7, .int 0 :: fs)) ∧ ((∀ c, σ[146]? = some c → σ2[146]? = some c) ∧ sz 0 0 σ σ2) ∧ G ξ (d + 8) j_M_end 0 (lv_args 0 [.ref 137, .int a]) [] σ (some (.int 1), σ2) := by
  obtain ⟨h0, h2⟩ := hF
  refine ⟨((σ.set 137 (.inl (7, [.int 0, .ref 138, .ref 139, .int 0, .int 0, .ref 140, .int 0, .int (-1), .int 0, .ref 141, .int 0, .int 0, .ref 142, .ref 143, .int 0, .int 0, .int 0, .int 0, .int 0, .int 0, .int 0, .ref 144, .int 0, .ref 145, .int 0, .int 0]))).set 139 (.inr (.inl (0, ((List.replicate 7 0).set 0 a))))), _, (qs_ne (by decide) (qs_at h0)), ⟨fun c h => (qs_ne (by decide) (qs_ne (by decide) h)), (sz.set (sz.set (sz.refl σ) h0 (by simp [qcs])) (qs_ne (by decide) h2) (by simp [qcs]))⟩, ?_⟩
  refine G.go 2 (fun n => (rfl : _ = exe ξ n (d + 8) j_M_end 2 [(0, .ref 137), (1, .int a)] [.int 0, .ref 137] σ)) ?_
  refine G.put rfl rfl h0 rfl rfl rfl ?_
  refine G.go 3 (fun n => (rfl : _ = exe ξ n (d + 8) j_M_end 8 [(0, .ref 137), (1, .int a)] [.ref 137, .int 0, .int a] (σ.set 137 (.inl (7, [.int 0, .ref 138, .ref 139, .int 0, .int 0, .ref 140, .int 0, .int (-1), .int 0, .ref 141, .int 0, .int 0, .ref 142, .ref 143, .int 0, .int 0, .int 0, .int 0, .int 0, .int 0, .int 0, .ref 144, .int 0, .ref 145, .int 0, .int 0]))))) ?_
  refine G.get rfl rfl rfl (qs_at h0) rfl ?_
  refine G.go 1 (fun n => (rfl : _ = exe ξ n (d + 8) j_M_end 12 [(0, .ref 137), (1, .int a)] [.int 0, .ref 139, .int 0, .int a] (σ.set 137 (.inl (7, [.int 0, .ref 138, .ref 139, .int 0, .int 0, .ref 140, .int 0, .int (-1), .int 0, .ref 141, .int 0, .int 0, .ref 142, .ref 143, .int 0, .int 0, .int 0, .int 0, .int 0, .int 0, .int 0, .ref 144, .int 0, .ref 145, .int 0, .int 0]))))) ?_
  refine G.iald rfl rfl (qs_ne (by decide) h2) rfl ?_
  refine G.call (k := j_M_in) (as := [.int a, .int 0, .int 0]) (r := []) (v := some (.int 1)) (σ1 := (σ.set 137 (.inl (7, [.int 0, .ref 138, .ref 139, .int 0, .int 0, .ref 140, .int 0, .int (-1), .int 0, .ref 141, .int 0, .int 0, .ref 142, .ref 143, .int 0, .int 0, .int 0, .int 0, .int 0, .int 0, .int 0, .ref 144, .int 0, .ref 145, .int 0, .int 0])))) rfl rfl rfl rfl rfl rfl rfl rfl ?_ ?_
  · refine G.go 3 (fun n => (rfl : _ = exe ξ n (d + 7) j_M_in (if a < 0 then 14 else 5) [(0, .int a), (1, .int 0), (2, .int 0)] [] (σ.set 137 (.inl (7, [.int 0, .ref 138, .ref 139, .int 0, .int 0, .ref 140, .int 0, .int (-1), .int 0, .ref 141, .int 0, .int 0, .ref 142, .ref 143, .int 0, .int 0, .int 0, .int 0, .int 0, .int 0, .int 0, .ref 144, .int 0, .ref 145, .int 0, .int 0]))))) ?_
    rw [if_neg c1]
    refine G.go 3 (fun n => (rfl : _ = exe ξ n (d + 7) j_M_in (if 0 < a then 14 else 10) [(0, .int a), (1, .int 0), (2, .int 0)] [] (σ.set 137 (.inl (7, [.int 0, .ref 138, .ref 139, .int 0, .int 0, .ref 140, .int 0, .int (-1), .int 0, .ref 141, .int 0, .int 0, .ref 142, .ref 143, .int 0, .int 0, .int 0, .int 0, .int 0, .int 0, .int 0, .ref 144, .int 0, .ref 145, .int 0, .int 0]))))) ?_
    rw [if_neg c2]
    exact G.end 3 (fun n => rfl)
  refine G.go 2 (fun n => (rfl : _ = exe ξ n (d + 8) j_M_end 22 [(0, .ref 137), (1, .int a)] [.ref 137] (σ.set 137 (.inl (7, [.int 0, .ref 138, .ref 139, .int 0, .int 0, .ref 140, .int 0, .int (-1), .int 0, .ref 141, .int 0, .int 0, .ref 142, .ref 143, .int 0, .int 0, .int 0, .int 0, .int 0, .int 0, .int 0, .ref 144, .int 0, .ref 145, .int 0, .int 0]))))) ?_
  refine G.get rfl rfl rfl (qs_at h0) rfl ?_
  refine G.go 2 (fun n => (rfl : _ = exe ξ n (d + 8) j_M_end 27 [(0, .ref 137), (1, .int a)] [.int a, .int 0, .ref 139] (σ.set 137 (.inl (7, [.int 0, .ref 138, .ref 139, .int 0, .int 0, .ref 140, .int 0, .int (-1), .int 0, .ref 141, .int 0, .int 0, .ref 142, .ref 143, .int 0, .int 0, .int 0, .int 0, .int 0, .int 0, .int 0, .ref 144, .int 0, .ref 145, .int 0, .int 0]))))) ?_
  refine G.iast rfl (qs_ne (by decide) h2) rfl ?_
  exact G.end 2 (fun n => rfl)
theorem pM_octet1 (d : Nat) (a : Int32) (σ : qH) (hF : freshM σ) (c1 : a < 0) : ∃ (σ2 : qH) (fs : List Value), σ2[137]? = some (.inl (7, .int 0 :: fs)) ∧ ((∀ c, σ[146]? = some c → σ2[146]? = some c) ∧ sz 0 0 σ σ2) ∧ G ξ (d + 8) j_M_octet 0 (lv_args 0 [.ref 137, .int a]) [] σ (some (.int (-1)), σ2) := by
  obtain ⟨h0, h2⟩ := hF
  refine ⟨(σ.set 137 (.inl (7, [.int 0, .ref 138, .ref 139, .int 0, .int 0, .ref 140, .int 0, .int (-1), .int 0, .ref 141, .int 0, .int 0, .ref 142, .ref 143, .int 0, .int 0, .int 0, .int 0, .int 0, .int 0, .int 0, .ref 144, .int 0, .ref 145, .int 0, .int 0]))), _, (qs_at h0), ⟨fun c h => (qs_ne (by decide) h), (sz.set (sz.refl σ) h0 (by simp [qcs]))⟩, ?_⟩
  refine G.go 2 (fun n => (rfl : _ = exe ξ n (d + 8) j_M_octet 2 [(0, .ref 137), (1, .int a)] [.int 0, .ref 137] σ)) ?_
  refine G.put rfl rfl h0 rfl rfl rfl ?_
  refine G.go 3 (fun n => (rfl : _ = exe ξ n (d + 8) j_M_octet 8 [(0, .ref 137), (1, .int a)] [.ref 137, .int 0, .int a] (σ.set 137 (.inl (7, [.int 0, .ref 138, .ref 139, .int 0, .int 0, .ref 140, .int 0, .int (-1), .int 0, .ref 141, .int 0, .int 0, .ref 142, .ref 143, .int 0, .int 0, .int 0, .int 0, .int 0, .int 0, .int 0, .ref 144, .int 0, .ref 145, .int 0, .int 0]))))) ?_
  refine G.get rfl rfl rfl (qs_at h0) rfl ?_
  refine G.go 1 (fun n => (rfl : _ = exe ξ n (d + 8) j_M_octet 12 [(0, .ref 137), (1, .int a)] [.int 3, .ref 139, .int 0, .int a] (σ.set 137 (.inl (7, [.int 0, .ref 138, .ref 139, .int 0, .int 0, .ref 140, .int 0, .int (-1), .int 0, .ref 141, .int 0, .int 0, .ref 142, .ref 143, .int 0, .int 0, .int 0, .int 0, .int 0, .int 0, .int 0, .ref 144, .int 0, .ref 145, .int 0, .int 0]))))) ?_
  refine G.iald rfl rfl (qs_ne (by decide) h2) rfl ?_
  refine G.go 2 (fun n => (rfl : _ = exe ξ n (d + 8) j_M_octet 15 [(0, .ref 137), (1, .int a)] [.int (-1), .int 0, .int a] (σ.set 137 (.inl (7, [.int 0, .ref 138, .ref 139, .int 0, .int 0, .ref 140, .int 0, .int (-1), .int 0, .ref 141, .int 0, .int 0, .ref 142, .ref 143, .int 0, .int 0, .int 0, .int 0, .int 0, .int 0, .int 0, .ref 144, .int 0, .ref 145, .int 0, .int 0]))))) ?_
  refine G.call (k := j_M_in) (as := [.int a, .int 0, .int (-1)]) (r := []) (v := some (.int 0)) (σ1 := (σ.set 137 (.inl (7, [.int 0, .ref 138, .ref 139, .int 0, .int 0, .ref 140, .int 0, .int (-1), .int 0, .ref 141, .int 0, .int 0, .ref 142, .ref 143, .int 0, .int 0, .int 0, .int 0, .int 0, .int 0, .int 0, .ref 144, .int 0, .ref 145, .int 0, .int 0])))) rfl rfl rfl rfl rfl rfl rfl rfl ?_ ?_
  · refine G.go 3 (fun n => (rfl : _ = exe ξ n (d + 7) j_M_in (if a < 0 then 14 else 5) [(0, .int a), (1, .int 0), (2, .int (-1))] [] (σ.set 137 (.inl (7, [.int 0, .ref 138, .ref 139, .int 0, .int 0, .ref 140, .int 0, .int (-1), .int 0, .ref 141, .int 0, .int 0, .ref 142, .ref 143, .int 0, .int 0, .int 0, .int 0, .int 0, .int 0, .int 0, .ref 144, .int 0, .ref 145, .int 0, .int 0]))))) ?_
    rw [if_pos c1]
    exact G.end 2 (fun n => rfl)
  exact G.end 3 (fun n => rfl)
theorem pM_octet2 (d : Nat) (a : Int32) (σ : qH) (hF : freshM σ) (c1 : ¬ a < 0) (c2 : (-1) < a) : ∃ (σ2 : qH) (fs : List Value), σ2[137]? = some (.inl (7, .int 0 :: fs)) ∧ ((∀ c, σ[146]? = some c → σ2[146]? = some c) ∧ sz 0 0 σ σ2) ∧ G ξ (d + 8) j_M_octet 0 (lv_args 0 [.ref 137, .int a]) [] σ (some (.int (-1)), σ2) := by
  obtain ⟨h0, h2⟩ := hF
  refine ⟨(σ.set 137 (.inl (7, [.int 0, .ref 138, .ref 139, .int 0, .int 0, .ref 140, .int 0, .int (-1), .int 0, .ref 141, .int 0, .int 0, .ref 142, .ref 143, .int 0, .int 0, .int 0, .int 0, .int 0, .int 0, .int 0, .ref 144, .int 0, .ref 145, .int 0, .int 0]))), _, (qs_at h0), ⟨fun c h => (qs_ne (by decide) h), (sz.set (sz.refl σ) h0 (by simp [qcs]))⟩, ?_⟩
  refine G.go 2 (fun n => (rfl : _ = exe ξ n (d + 8) j_M_octet 2 [(0, .ref 137), (1, .int a)] [.int 0, .ref 137] σ)) ?_
  refine G.put rfl rfl h0 rfl rfl rfl ?_
  refine G.go 3 (fun n => (rfl : _ = exe ξ n (d + 8) j_M_octet 8 [(0, .ref 137), (1, .int a)] [.ref 137, .int 0, .int a] (σ.set 137 (.inl (7, [.int 0, .ref 138, .ref 139, .int 0, .int 0, .ref 140, .int 0, .int (-1), .int 0, .ref 141, .int 0, .int 0, .ref 142, .ref 143, .int 0, .int 0, .int 0, .int 0, .int 0, .int 0, .int 0, .ref 144, .int 0, .ref 145, .int 0, .int 0]))))) ?_
  refine G.get rfl rfl rfl (qs_at h0) rfl ?_
  refine G.go 1 (fun n => (rfl : _ = exe ξ n (d + 8) j_M_octet 12 [(0, .ref 137), (1, .int a)] [.int 3, .ref 139, .int 0, .int a] (σ.set 137 (.inl (7, [.int 0, .ref 138, .ref 139, .int 0, .int 0, .ref 140, .int 0, .int (-1), .int 0, .ref 141, .int 0, .int 0, .ref 142, .ref 143, .int 0, .int 0, .int 0, .int 0, .int 0, .int 0, .int 0, .ref 144, .int 0, .ref 145, .int 0, .int 0]))))) ?_
  refine G.iald rfl rfl (qs_ne (by decide) h2) rfl ?_
  refine G.go 2 (fun n => (rfl : _ = exe ξ n (d + 8) j_M_octet 15 [(0, .ref 137), (1, .int a)] [.int (-1), .int 0, .int a] (σ.set 137 (.inl (7, [.int 0, .ref 138, .ref 139, .int 0, .int 0, .ref 140, .int 0, .int (-1), .int 0, .ref 141, .int 0, .int 0, .ref 142, .ref 143, .int 0, .int 0, .int 0, .int 0, .int 0, .int 0, .int 0, .ref 144, .int 0, .ref 145, .int 0, .int 0]))))) ?_
  refine G.call (k := j_M_in) (as := [.int a, .int 0, .int (-1)]) (r := []) (v := some (.int 0)) (σ1 := (σ.set 137 (.inl (7, [.int 0, .ref 138, .ref 139, .int 0, .int 0, .ref 140, .int 0, .int (-1), .int 0, .ref 141, .int 0, .int 0, .ref 142, .ref 143, .int 0, .int 0, .int 0, .int 0, .int 0, .int 0, .int 0, .ref 144, .int 0, .ref 145, .int 0, .int 0])))) rfl rfl rfl rfl rfl rfl rfl rfl ?_ ?_
  · refine G.go 3 (fun n => (rfl : _ = exe ξ n (d + 7) j_M_in (if a < 0 then 14 else 5) [(0, .int a), (1, .int 0), (2, .int (-1))] [] (σ.set 137 (.inl (7, [.int 0, .ref 138, .ref 139, .int 0, .int 0, .ref 140, .int 0, .int (-1), .int 0, .ref 141, .int 0, .int 0, .ref 142, .ref 143, .int 0, .int 0, .int 0, .int 0, .int 0, .int 0, .int 0, .ref 144, .int 0, .ref 145, .int 0, .int 0]))))) ?_
    rw [if_neg c1]
    refine G.go 3 (fun n => (rfl : _ = exe ξ n (d + 7) j_M_in (if (-1) < a then 14 else 10) [(0, .int a), (1, .int 0), (2, .int (-1))] [] (σ.set 137 (.inl (7, [.int 0, .ref 138, .ref 139, .int 0, .int 0, .ref 140, .int 0, .int (-1), .int 0, .ref 141, .int 0, .int 0, .ref 142, .ref 143, .int 0, .int 0, .int 0, .int 0, .int 0, .int 0, .int 0, .ref 144, .int 0, .ref 145, .int 0, .int 0]))))) ?_
    rw [if_pos c2]
    exact G.end 2 (fun n => rfl)
  exact G.end 3 (fun n => rfl)
theorem pM_value1 (d : Nat) (a : Int32) (σ : qH) (hF : freshM σ) (c1 : a < 0) : ∃ (σ2 : qH) (fs : List Value), σ2[137]? = some (.inl (7, .int 0 :: fs)) ∧ ((∀ c, σ[146]? = some c → σ2[146]? = some c) ∧ sz 0 0 σ σ2) ∧ G ξ (d + 8) j_M_value 0 (lv_args 0 [.ref 137, .int a]) [] σ (some (.int (-1)), σ2) := by
  obtain ⟨h0, h2⟩ := hF
  refine ⟨(σ.set 137 (.inl (7, [.int 0, .ref 138, .ref 139, .int 0, .int 0, .ref 140, .int 0, .int (-1), .int 0, .ref 141, .int 0, .int 0, .ref 142, .ref 143, .int 0, .int 0, .int 0, .int 0, .int 0, .int 0, .int 0, .ref 144, .int 0, .ref 145, .int 0, .int 0]))), _, (qs_at h0), ⟨fun c h => (qs_ne (by decide) h), (sz.set (sz.refl σ) h0 (by simp [qcs]))⟩, ?_⟩
  refine G.go 2 (fun n => (rfl : _ = exe ξ n (d + 8) j_M_value 2 [(0, .ref 137), (1, .int a)] [.int 0, .ref 137] σ)) ?_
  refine G.put rfl rfl h0 rfl rfl rfl ?_
  refine G.go 3 (fun n => (rfl : _ = exe ξ n (d + 8) j_M_value 8 [(0, .ref 137), (1, .int a)] [.ref 137, .int 0, .int a] (σ.set 137 (.inl (7, [.int 0, .ref 138, .ref 139, .int 0, .int 0, .ref 140, .int 0, .int (-1), .int 0, .ref 141, .int 0, .int 0, .ref 142, .ref 143, .int 0, .int 0, .int 0, .int 0, .int 0, .int 0, .int 0, .ref 144, .int 0, .ref 145, .int 0, .int 0]))))) ?_
  refine G.get rfl rfl rfl (qs_at h0) rfl ?_
  refine G.go 1 (fun n => (rfl : _ = exe ξ n (d + 8) j_M_value 13 [(0, .ref 137), (1, .int a)] [.int 6, .ref 139, .int 0, .int a] (σ.set 137 (.inl (7, [.int 0, .ref 138, .ref 139, .int 0, .int 0, .ref 140, .int 0, .int (-1), .int 0, .ref 141, .int 0, .int 0, .ref 142, .ref 143, .int 0, .int 0, .int 0, .int 0, .int 0, .int 0, .int 0, .ref 144, .int 0, .ref 145, .int 0, .int 0]))))) ?_
  refine G.iald rfl rfl (qs_ne (by decide) h2) rfl ?_
  refine G.go 2 (fun n => (rfl : _ = exe ξ n (d + 8) j_M_value 16 [(0, .ref 137), (1, .int a)] [.int (-1), .int 0, .int a] (σ.set 137 (.inl (7, [.int 0, .ref 138, .ref 139, .int 0, .int 0, .ref 140, .int 0, .int (-1), .int 0, .ref 141, .int 0, .int 0, .ref 142, .ref 143, .int 0, .int 0, .int 0, .int 0, .int 0, .int 0, .int 0, .ref 144, .int 0, .ref 145, .int 0, .int 0]))))) ?_
  refine G.call (k := j_M_in) (as := [.int a, .int 0, .int (-1)]) (r := []) (v := some (.int 0)) (σ1 := (σ.set 137 (.inl (7, [.int 0, .ref 138, .ref 139, .int 0, .int 0, .ref 140, .int 0, .int (-1), .int 0, .ref 141, .int 0, .int 0, .ref 142, .ref 143, .int 0, .int 0, .int 0, .int 0, .int 0, .int 0, .int 0, .ref 144, .int 0, .ref 145, .int 0, .int 0])))) rfl rfl rfl rfl rfl rfl rfl rfl ?_ ?_
  · refine G.go 3 (fun n => (rfl : _ = exe ξ n (d + 7) j_M_in (if a < 0 then 14 else 5) [(0, .int a), (1, .int 0), (2, .int (-1))] [] (σ.set 137 (.inl (7, [.int 0, .ref 138, .ref 139, .int 0, .int 0, .ref 140, .int 0, .int (-1), .int 0, .ref 141, .int 0, .int 0, .ref 142, .ref 143, .int 0, .int 0, .int 0, .int 0, .int 0, .int 0, .int 0, .ref 144, .int 0, .ref 145, .int 0, .int 0]))))) ?_
    rw [if_pos c1]
    exact G.end 2 (fun n => rfl)
  exact G.end 3 (fun n => rfl)
theorem pM_value2 (d : Nat) (a : Int32) (σ : qH) (hF : freshM σ) (c1 : ¬ a < 0) (c2 : (-1) < a) : ∃ (σ2 : qH) (fs : List Value), σ2[137]? = some (.inl (7, .int 0 :: fs)) ∧ ((∀ c, σ[146]? = some c → σ2[146]? = some c) ∧ sz 0 0 σ σ2) ∧ G ξ (d + 8) j_M_value 0 (lv_args 0 [.ref 137, .int a]) [] σ (some (.int (-1)), σ2) := by
  obtain ⟨h0, h2⟩ := hF
  refine ⟨(σ.set 137 (.inl (7, [.int 0, .ref 138, .ref 139, .int 0, .int 0, .ref 140, .int 0, .int (-1), .int 0, .ref 141, .int 0, .int 0, .ref 142, .ref 143, .int 0, .int 0, .int 0, .int 0, .int 0, .int 0, .int 0, .ref 144, .int 0, .ref 145, .int 0, .int 0]))), _, (qs_at h0), ⟨fun c h => (qs_ne (by decide) h), (sz.set (sz.refl σ) h0 (by simp [qcs]))⟩, ?_⟩
  refine G.go 2 (fun n => (rfl : _ = exe ξ n (d + 8) j_M_value 2 [(0, .ref 137), (1, .int a)] [.int 0, .ref 137] σ)) ?_
  refine G.put rfl rfl h0 rfl rfl rfl ?_
  refine G.go 3 (fun n => (rfl : _ = exe ξ n (d + 8) j_M_value 8 [(0, .ref 137), (1, .int a)] [.ref 137, .int 0, .int a] (σ.set 137 (.inl (7, [.int 0, .ref 138, .ref 139, .int 0, .int 0, .ref 140, .int 0, .int (-1), .int 0, .ref 141, .int 0, .int 0, .ref 142, .ref 143, .int 0, .int 0, .int 0, .int 0, .int 0, .int 0, .int 0, .ref 144, .int 0, .ref 145, .int 0, .int 0]))))) ?_
  refine G.get rfl rfl rfl (qs_at h0) rfl ?_
  refine G.go 1 (fun n => (rfl : _ = exe ξ n (d + 8) j_M_value 13 [(0, .ref 137), (1, .int a)] [.int 6, .ref 139, .int 0, .int a] (σ.set 137 (.inl (7, [.int 0, .ref 138, .ref 139, .int 0, .int 0, .ref 140, .int 0, .int (-1), .int 0, .ref 141, .int 0, .int 0, .ref 142, .ref 143, .int 0, .int 0, .int 0, .int 0, .int 0, .int 0, .int 0, .ref 144, .int 0, .ref 145, .int 0, .int 0]))))) ?_
  refine G.iald rfl rfl (qs_ne (by decide) h2) rfl ?_
  refine G.go 2 (fun n => (rfl : _ = exe ξ n (d + 8) j_M_value 16 [(0, .ref 137), (1, .int a)] [.int (-1), .int 0, .int a] (σ.set 137 (.inl (7, [.int 0, .ref 138, .ref 139, .int 0, .int 0, .ref 140, .int 0, .int (-1), .int 0, .ref 141, .int 0, .int 0, .ref 142, .ref 143, .int 0, .int 0, .int 0, .int 0, .int 0, .int 0, .int 0, .ref 144, .int 0, .ref 145, .int 0, .int 0]))))) ?_
  refine G.call (k := j_M_in) (as := [.int a, .int 0, .int (-1)]) (r := []) (v := some (.int 0)) (σ1 := (σ.set 137 (.inl (7, [.int 0, .ref 138, .ref 139, .int 0, .int 0, .ref 140, .int 0, .int (-1), .int 0, .ref 141, .int 0, .int 0, .ref 142, .ref 143, .int 0, .int 0, .int 0, .int 0, .int 0, .int 0, .int 0, .ref 144, .int 0, .ref 145, .int 0, .int 0])))) rfl rfl rfl rfl rfl rfl rfl rfl ?_ ?_
  · refine G.go 3 (fun n => (rfl : _ = exe ξ n (d + 7) j_M_in (if a < 0 then 14 else 5) [(0, .int a), (1, .int 0), (2, .int (-1))] [] (σ.set 137 (.inl (7, [.int 0, .ref 138, .ref 139, .int 0, .int 0, .ref 140, .int 0, .int (-1), .int 0, .ref 141, .int 0, .int 0, .ref 142, .ref 143, .int 0, .int 0, .int 0, .int 0, .int 0, .int 0, .int 0, .ref 144, .int 0, .ref 145, .int 0, .int 0]))))) ?_
    rw [if_neg c1]
    refine G.go 3 (fun n => (rfl : _ = exe ξ n (d + 7) j_M_in (if (-1) < a then 14 else 10) [(0, .int a), (1, .int 0), (2, .int (-1))] [] (σ.set 137 (.inl (7, [.int 0, .ref 138, .ref 139, .int 0, .int 0, .ref 140, .int 0, .int (-1), .int 0, .ref 141, .int 0, .int 0, .ref 142, .ref 143, .int 0, .int 0, .int 0, .int 0, .int 0, .int 0, .int 0, .ref 144, .int 0, .ref 145, .int 0, .int 0]))))) ?_
    rw [if_pos c2]
    exact G.end 2 (fun n => rfl)
  exact G.end 3 (fun n => rfl)
theorem pM_find1 (d : Nat) (a : Int32) (σ : qH) (hF : freshM σ) (c1 : ¬ 1 ≤ a) : ∃ (σ2 : qH) (fs : List Value), σ2[137]? = some (.inl (7, .int 1 :: fs)) ∧ ((∀ c, σ[146]? = some c → σ2[146]? = some c) ∧ sz 0 0 σ σ2) ∧ G ξ (d + 8) j_M_find 0 (lv_args 0 [.ref 137, .int a]) [] σ (some (.int 0), σ2) := by
  obtain ⟨h0, h2⟩ := hF
  refine ⟨((σ.set 137 (.inl (7, [.int 0, .ref 138, .ref 139, .int 0, .int 0, .ref 140, .int 0, .int (-1), .int 0, .ref 141, .int 0, .int 0, .ref 142, .ref 143, .int 0, .int 0, .int 0, .int 0, .int 0, .int 0, .int 0, .ref 144, .int 0, .ref 145, .int 0, .int 0]))).set 137 (.inl (7, [.int 1, .ref 138, .ref 139, .int 0, .int 0, .ref 140, .int 0, .int (-1), .int 0, .ref 141, .int 0, .int 0, .ref 142, .ref 143, .int 0, .int 0, .int 0, .int 0, .int 0, .int 0, .int 0, .ref 144, .int 0, .ref 145, .int 0, .int 0]))), _, (qs_at (qs_at h0)), ⟨fun c h => (qs_ne (by decide) (qs_ne (by decide) h)), (sz.set (sz.set (sz.refl σ) h0 (by simp [qcs])) (qs_at h0) (by simp [qcs]))⟩, ?_⟩
  refine G.go 1 (fun n => (rfl : _ = exe ξ n (d + 8) j_M_find 1 [(0, .ref 137), (1, .int a)] [.ref 137] σ)) ?_
  refine G.call (k := j_M_usedName) (as := [.ref 137]) (r := []) (v := some (.int 0)) (σ1 := (σ.set 137 (.inl (7, [.int 0, .ref 138, .ref 139, .int 0, .int 0, .ref 140, .int 0, .int (-1), .int 0, .ref 141, .int 0, .int 0, .ref 142, .ref 143, .int 0, .int 0, .int 0, .int 0, .int 0, .int 0, .int 0, .ref 144, .int 0, .ref 145, .int 0, .int 0])))) rfl rfl rfl rfl rfl rfl rfl ?_ ?_ ?_
  · show (bif qrc _ 137 j_M_usedName && _ then _ else _) = _
    rw [qrc_at rfl h0 rfl]
    rfl
  · refine G.go 1 (fun n => (rfl : _ = exe ξ n (d + 7) j_M_usedName 1 [(0, .ref 137)] [.ref 137] σ)) ?_
    refine G.get rfl rfl rfl h0 rfl ?_
    refine G.go 3 (fun n => (rfl : _ = exe ξ n (d + 7) j_M_usedName 7 [(0, .ref 137), (1, .int 0)] [.int 0, .ref 137] σ)) ?_
    refine G.put rfl rfl h0 rfl rfl rfl ?_
    exact G.end 2 (fun n => rfl)
  refine G.go 5 (fun n => (rfl : _ = exe ξ n (d + 8) j_M_find (if 1 ≤ a then 15 else 11) [(0, .ref 137), (1, .int a), (2, .int 0)] [.ref 137] (σ.set 137 (.inl (7, [.int 0, .ref 138, .ref 139, .int 0, .int 0, .ref 140, .int 0, .int (-1), .int 0, .ref 141, .int 0, .int 0, .ref 142, .ref 143, .int 0, .int 0, .int 0, .int 0, .int 0, .int 0, .int 0, .ref 144, .int 0, .ref 145, .int 0, .int 0]))))) ?_
  rw [if_neg c1]
  refine G.go 2 (fun n => (rfl : _ = exe ξ n (d + 8) j_M_find 16 [(0, .ref 137), (1, .int a), (2, .int 0)] [.int 1, .ref 137] (σ.set 137 (.inl (7, [.int 0, .ref 138, .ref 139, .int 0, .int 0, .ref 140, .int 0, .int (-1), .int 0, .ref 141, .int 0, .int 0, .ref 142, .ref 143, .int 0, .int 0, .int 0, .int 0, .int 0, .int 0, .int 0, .ref 144, .int 0, .ref 145, .int 0, .int 0]))))) ?_
  refine G.put rfl rfl (qs_at h0) rfl rfl rfl ?_
  refine G.go 1 (fun n => (rfl : _ = exe ξ n (d + 8) j_M_find 20 [(0, .ref 137), (1, .int a), (2, .int 0)] [.ref 137] ((σ.set 137 (.inl (7, [.int 0, .ref 138, .ref 139, .int 0, .int 0, .ref 140, .int 0, .int (-1), .int 0, .ref 141, .int 0, .int 0, .ref 142, .ref 143, .int 0, .int 0, .int 0, .int 0, .int 0, .int 0, .int 0, .ref 144, .int 0, .ref 145, .int 0, .int 0]))).set 137 (.inl (7, [.int 1, .ref 138, .ref 139, .int 0, .int 0, .ref 140, .int 0, .int (-1), .int 0, .ref 141, .int 0, .int 0, .ref 142, .ref 143, .int 0, .int 0, .int 0, .int 0, .int 0, .int 0, .int 0, .ref 144, .int 0, .ref 145, .int 0, .int 0]))))) ?_
  refine G.get rfl rfl rfl (qs_at (qs_at h0)) rfl ?_
  exact G.end 3 (fun n => rfl)
theorem pM_find2 (d : Nat) (a : Int32) (σ : qH) (hF : freshM σ) (c1 : 1 ≤ a) (c2 : 0 < a) : ∃ (σ2 : qH) (fs : List Value), σ2[137]? = some (.inl (7, .int 0 :: fs)) ∧ ((∀ c, σ[146]? = some c → σ2[146]? = some c) ∧ sz 0 0 σ σ2) ∧ G ξ (d + 8) j_M_find 0 (lv_args 0 [.ref 137, .int a]) [] σ (some (.int (-1)), σ2) := by
  obtain ⟨h0, h2⟩ := hF
  refine ⟨((σ.set 137 (.inl (7, [.int 0, .ref 138, .ref 139, .int 0, .int 0, .ref 140, .int 0, .int (-1), .int 0, .ref 141, .int 0, .int 0, .ref 142, .ref 143, .int 0, .int 0, .int 0, .int 0, .int 0, .int 0, .int 0, .ref 144, .int 0, .ref 145, .int 0, .int 0]))).set 137 (.inl (7, [.int 0, .ref 138, .ref 139, .int 0, .int 0, .ref 140, .int 0, .int (-1), .int 0, .ref 141, .int 0, .int 0, .ref 142, .ref 143, .int 0, .int 0, .int 0, .int 0, .int 0, .int 0, .int 0, .ref 144, .int 0, .ref 145, .int 0, .int 0]))), _, (qs_at (qs_at h0)), ⟨fun c h => (qs_ne (by decide) (qs_ne (by decide) h)), (sz.set (sz.set (sz.refl σ) h0 (by simp [qcs])) (qs_at h0) (by simp [qcs]))⟩, ?_⟩
  refine G.go 1 (fun n => (rfl : _ = exe ξ n (d + 8) j_M_find 1 [(0, .ref 137), (1, .int a)] [.ref 137] σ)) ?_
  refine G.call (k := j_M_usedName) (as := [.ref 137]) (r := []) (v := some (.int 0)) (σ1 := (σ.set 137 (.inl (7, [.int 0, .ref 138, .ref 139, .int 0, .int 0, .ref 140, .int 0, .int (-1), .int 0, .ref 141, .int 0, .int 0, .ref 142, .ref 143, .int 0, .int 0, .int 0, .int 0, .int 0, .int 0, .int 0, .ref 144, .int 0, .ref 145, .int 0, .int 0])))) rfl rfl rfl rfl rfl rfl rfl ?_ ?_ ?_
  · show (bif qrc _ 137 j_M_usedName && _ then _ else _) = _
    rw [qrc_at rfl h0 rfl]
    rfl
  · refine G.go 1 (fun n => (rfl : _ = exe ξ n (d + 7) j_M_usedName 1 [(0, .ref 137)] [.ref 137] σ)) ?_
    refine G.get rfl rfl rfl h0 rfl ?_
    refine G.go 3 (fun n => (rfl : _ = exe ξ n (d + 7) j_M_usedName 7 [(0, .ref 137), (1, .int 0)] [.int 0, .ref 137] σ)) ?_
    refine G.put rfl rfl h0 rfl rfl rfl ?_
    exact G.end 2 (fun n => rfl)
  refine G.go 5 (fun n => (rfl : _ = exe ξ n (d + 8) j_M_find (if 1 ≤ a then 15 else 11) [(0, .ref 137), (1, .int a), (2, .int 0)] [.ref 137] (σ.set 137 (.inl (7, [.int 0, .ref 138, .ref 139, .int 0, .int 0, .ref 140, .int 0, .int (-1), .int 0, .ref 141, .int 0, .int 0, .ref 142, .ref 143, .int 0, .int 0, .int 0, .int 0, .int 0, .int 0, .int 0, .ref 144, .int 0, .ref 145, .int 0, .int 0]))))) ?_
  rw [if_pos c1]
  refine G.go 1 (fun n => (rfl : _ = exe ξ n (d + 8) j_M_find 16 [(0, .ref 137), (1, .int a), (2, .int 0)] [.int 0, .ref 137] (σ.set 137 (.inl (7, [.int 0, .ref 138, .ref 139, .int 0, .int 0, .ref 140, .int 0, .int (-1), .int 0, .ref 141, .int 0, .int 0, .ref 142, .ref 143, .int 0, .int 0, .int 0, .int 0, .int 0, .int 0, .int 0, .ref 144, .int 0, .ref 145, .int 0, .int 0]))))) ?_
  refine G.put rfl rfl (qs_at h0) rfl rfl rfl ?_
  refine G.go 1 (fun n => (rfl : _ = exe ξ n (d + 8) j_M_find 20 [(0, .ref 137), (1, .int a), (2, .int 0)] [.ref 137] ((σ.set 137 (.inl (7, [.int 0, .ref 138, .ref 139, .int 0, .int 0, .ref 140, .int 0, .int (-1), .int 0, .ref 141, .int 0, .int 0, .ref 142, .ref 143, .int 0, .int 0, .int 0, .int 0, .int 0, .int 0, .int 0, .ref 144, .int 0, .ref 145, .int 0, .int 0]))).set 137 (.inl (7, [.int 0, .ref 138, .ref 139, .int 0, .int 0, .ref 140, .int 0, .int (-1), .int 0, .ref 141, .int 0, .int 0, .ref 142, .ref 143, .int 0, .int 0, .int 0, .int 0, .int 0, .int 0, .int 0, .ref 144, .int 0, .ref 145, .int 0, .int 0]))))) ?_
  refine G.get rfl rfl rfl (qs_at (qs_at h0)) rfl ?_
  refine G.go 5 (fun n => (rfl : _ = exe ξ n (d + 8) j_M_find 32 [(0, .ref 137), (1, .int a), (2, .int 0), (3, .int a)] [.ref 137, .int a] ((σ.set 137 (.inl (7, [.int 0, .ref 138, .ref 139, .int 0, .int 0, .ref 140, .int 0, .int (-1), .int 0, .ref 141, .int 0, .int 0, .ref 142, .ref 143, .int 0, .int 0, .int 0, .int 0, .int 0, .int 0, .int 0, .ref 144, .int 0, .ref 145, .int 0, .int 0]))).set 137 (.inl (7, [.int 0, .ref 138, .ref 139, .int 0, .int 0, .ref 140, .int 0, .int (-1), .int 0, .ref 141, .int 0, .int 0, .ref 142, .ref 143, .int 0, .int 0, .int 0, .int 0, .int 0, .int 0, .int 0, .ref 144, .int 0, .ref 145, .int 0, .int 0]))))) ?_
  refine G.get rfl rfl rfl (qs_at (qs_at h0)) rfl ?_
  refine G.go 1 (fun n => (rfl : _ = exe ξ n (d + 8) j_M_find (if 0 < a then 68 else 38) [(0, .ref 137), (1, .int a), (2, .int 0), (3, .int a)] [] ((σ.set 137 (.inl (7, [.int 0, .ref 138, .ref 139, .int 0, .int 0, .ref 140, .int 0, .int (-1), .int 0, .ref 141, .int 0, .int 0, .ref 142, .ref 143, .int 0, .int 0, .int 0, .int 0, .int 0, .int 0, .int 0, .ref 144, .int 0, .ref 145, .int 0, .int 0]))).set 137 (.inl (7, [.int 0, .ref 138, .ref 139, .int 0, .int 0, .ref 140, .int 0, .int (-1), .int 0, .ref 141, .int 0, .int 0, .ref 142, .ref 143, .int 0, .int 0, .int 0, .int 0, .int 0, .int 0, .int 0, .ref 144, .int 0, .ref 145, .int 0, .int 0]))))) ?_
  rw [if_pos c2]
  exact G.end 2 (fun n => rfl)
theorem pM_entry (d : Nat) (a b c : Int32) (σ : qH) (hF : freshM σ) : ∃ (σ2 : qH) (fs : List Value), σ2[137]? = some (.inl (7, .int 1 :: fs)) ∧ ((∀ c, σ[146]? = some c → σ2[146]? = some c) ∧ sz 0 0 σ σ2) ∧ G ξ (d + 8) j_M_entry 0 (lv_args 0 [.ref 137, .int a, .int b, .int c]) [] σ (some (.long 0), σ2) := by
  obtain ⟨h0, h2⟩ := hF
  refine ⟨(σ.set 137 (.inl (7, [.int 1, .ref 138, .ref 139, .int 0, .int 0, .ref 140, .int 0, .int (-1), .int 0, .ref 141, .int 0, .int 0, .ref 142, .ref 143, .int 0, .int 0, .int 0, .int 0, .int 0, .int 0, .int 0, .ref 144, .int 0, .ref 145, .int 0, .int 0]))), _, (qs_at h0), ⟨fun c h => (qs_ne (by decide) h), (sz.set (sz.refl σ) h0 (by simp [qcs]))⟩, ?_⟩
  refine G.go 4 (fun n => (rfl : _ = exe ξ n (d + 8) j_M_entry 4 [(0, .ref 137), (1, .int a), (2, .int b), (3, .int c)] [.int b, .int a, .ref 137, .ref 137] σ)) ?_
  refine G.call (k := j_M_hasEntry) (as := [.ref 137, .int a, .int b]) (r := [.ref 137]) (v := some (.int 0)) (σ1 := σ) rfl rfl rfl rfl rfl rfl rfl ?_ ?_ ?_
  · show (bif qrc _ 137 j_M_hasEntry && _ then _ else _) = _
    rw [qrc_at rfl h0 rfl]
    rfl
  · refine G.go 2 (fun n => (rfl : _ = exe ξ n (d + 7) j_M_hasEntry 2 [(0, .ref 137), (1, .int a), (2, .int b)] [.int a, .ref 137] σ)) ?_
    refine G.call (k := j_M_isArchive) (as := [.ref 137, .int a]) (r := []) (v := some (.int 0)) (σ1 := σ) rfl rfl rfl rfl rfl rfl rfl ?_ ?_ ?_
    · show (bif qrc _ 137 j_M_isArchive && _ then _ else _) = _
      rw [qrc_at rfl h0 rfl]
      rfl
    · refine G.go 1 (fun n => (rfl : _ = exe ξ n (d + 6) j_M_isArchive 1 [(0, .ref 137), (1, .int a)] [.ref 137] σ)) ?_
      refine G.get rfl rfl rfl h0 rfl ?_
      exact G.end 3 (fun n => rfl)
    exact G.end 3 (fun n => rfl)
  refine G.go 3 (fun n => (rfl : _ = exe ξ n (d + 8) j_M_entry 28 [(0, .ref 137), (1, .int a), (2, .int b), (3, .int c)] [.int 1, .ref 137] σ)) ?_
  refine G.put rfl rfl h0 rfl rfl rfl ?_
  refine G.go 1 (fun n => (rfl : _ = exe ξ n (d + 8) j_M_entry 32 [(0, .ref 137), (1, .int a), (2, .int b), (3, .int c)] [.ref 137] (σ.set 137 (.inl (7, [.int 1, .ref 138, .ref 139, .int 0, .int 0, .ref 140, .int 0, .int (-1), .int 0, .ref 141, .int 0, .int 0, .ref 142, .ref 143, .int 0, .int 0, .int 0, .int 0, .int 0, .int 0, .int 0, .ref 144, .int 0, .ref 145, .int 0, .int 0]))))) ?_
  refine G.get rfl rfl rfl (qs_at h0) rfl ?_
  exact G.end 3 (fun n => rfl)
theorem pM_letter (d : Nat) (a b c : Int32) (σ : qH) (hF : freshM σ) : ∃ (σ2 : qH) (fs : List Value), σ2[137]? = some (.inl (7, .int 1 :: fs)) ∧ ((∀ c, σ[146]? = some c → σ2[146]? = some c) ∧ sz 0 0 σ σ2) ∧ G ξ (d + 8) j_M_letter 0 (lv_args 0 [.ref 137, .int a, .int b, .int c]) [] σ (some (.int 0), σ2) := by
  obtain ⟨h0, h2⟩ := hF
  refine ⟨(σ.set 137 (.inl (7, [.int 1, .ref 138, .ref 139, .int 0, .int 0, .ref 140, .int 0, .int (-1), .int 0, .ref 141, .int 0, .int 0, .ref 142, .ref 143, .int 0, .int 0, .int 0, .int 0, .int 0, .int 0, .int 0, .ref 144, .int 0, .ref 145, .int 0, .int 0]))), _, (qs_at h0), ⟨fun c h => (qs_ne (by decide) h), (sz.set (sz.refl σ) h0 (by simp [qcs]))⟩, ?_⟩
  refine G.go 4 (fun n => (rfl : _ = exe ξ n (d + 8) j_M_letter 4 [(0, .ref 137), (1, .int a), (2, .int b), (3, .int c)] [.int b, .int a, .ref 137, .ref 137] σ)) ?_
  refine G.call (k := j_M_hasEntry) (as := [.ref 137, .int a, .int b]) (r := [.ref 137]) (v := some (.int 0)) (σ1 := σ) rfl rfl rfl rfl rfl rfl rfl ?_ ?_ ?_
  · show (bif qrc _ 137 j_M_hasEntry && _ then _ else _) = _
    rw [qrc_at rfl h0 rfl]
    rfl
  · refine G.go 2 (fun n => (rfl : _ = exe ξ n (d + 7) j_M_hasEntry 2 [(0, .ref 137), (1, .int a), (2, .int b)] [.int a, .ref 137] σ)) ?_
    refine G.call (k := j_M_isArchive) (as := [.ref 137, .int a]) (r := []) (v := some (.int 0)) (σ1 := σ) rfl rfl rfl rfl rfl rfl rfl ?_ ?_ ?_
    · show (bif qrc _ 137 j_M_isArchive && _ then _ else _) = _
      rw [qrc_at rfl h0 rfl]
      rfl
    · refine G.go 1 (fun n => (rfl : _ = exe ξ n (d + 6) j_M_isArchive 1 [(0, .ref 137), (1, .int a)] [.ref 137] σ)) ?_
      refine G.get rfl rfl rfl h0 rfl ?_
      exact G.end 3 (fun n => rfl)
    exact G.end 3 (fun n => rfl)
  refine G.go 2 (fun n => (rfl : _ = exe ξ n (d + 8) j_M_letter 15 [(0, .ref 137), (1, .int a), (2, .int b), (3, .int c)] [.int 1, .ref 137] σ)) ?_
  refine G.put rfl rfl h0 rfl rfl rfl ?_
  refine G.go 1 (fun n => (rfl : _ = exe ξ n (d + 8) j_M_letter 19 [(0, .ref 137), (1, .int a), (2, .int b), (3, .int c)] [.ref 137] (σ.set 137 (.inl (7, [.int 1, .ref 138, .ref 139, .int 0, .int 0, .ref 140, .int 0, .int (-1), .int 0, .ref 141, .int 0, .int 0, .ref 142, .ref 143, .int 0, .int 0, .int 0, .int 0, .int 0, .int 0, .int 0, .ref 144, .int 0, .ref 145, .int 0, .int 0]))))) ?_
  refine G.get rfl rfl rfl (qs_at h0) rfl ?_
  exact G.end 3 (fun n => rfl)
theorem pM_number (d : Nat) (a : Int32) (σ : qH) (hF : freshM σ) : ∃ (σ2 : qH) (fs : List Value), σ2[137]? = some (.inl (7, .int 1 :: fs)) ∧ ((∀ c, σ[146]? = some c → σ2[146]? = some c) ∧ sz 0 0 σ σ2) ∧ G ξ (d + 8) j_M_number 0 (lv_args 0 [.ref 137, .int a]) [] σ (some (.int 0), σ2) := by
  obtain ⟨h0, h2⟩ := hF
  refine ⟨((σ.set 137 (.inl (7, [.int 0, .ref 138, .ref 139, .int 0, .int 0, .ref 140, .int 0, .int (-1), .int 0, .ref 141, .int 0, .int 0, .ref 142, .ref 143, .int 0, .int 0, .int 0, .int 0, .int 0, .int 0, .int 0, .ref 144, .int 0, .ref 145, .int 0, .int 0]))).set 137 (.inl (7, [.int 1, .ref 138, .ref 139, .int 0, .int 0, .ref 140, .int 0, .int (-1), .int 0, .ref 141, .int 0, .int 0, .ref 142, .ref 143, .int 0, .int 0, .int 0, .int 0, .int 0, .int 0, .int 0, .ref 144, .int 0, .ref 145, .int 0, .int 0]))), _, (qs_at (qs_at h0)), ⟨fun c h => (qs_ne (by decide) (qs_ne (by decide) h)), (sz.set (sz.set (sz.refl σ) h0 (by simp [qcs])) (qs_at h0) (by simp [qcs]))⟩, ?_⟩
  refine G.go 1 (fun n => (rfl : _ = exe ξ n (d + 8) j_M_number 1 [(0, .ref 137), (1, .int a)] [.ref 137] σ)) ?_
  refine G.call (k := j_M_usedName) (as := [.ref 137]) (r := []) (v := some (.int 0)) (σ1 := (σ.set 137 (.inl (7, [.int 0, .ref 138, .ref 139, .int 0, .int 0, .ref 140, .int 0, .int (-1), .int 0, .ref 141, .int 0, .int 0, .ref 142, .ref 143, .int 0, .int 0, .int 0, .int 0, .int 0, .int 0, .int 0, .ref 144, .int 0, .ref 145, .int 0, .int 0])))) rfl rfl rfl rfl rfl rfl rfl ?_ ?_ ?_
  · show (bif qrc _ 137 j_M_usedName && _ then _ else _) = _
    rw [qrc_at rfl h0 rfl]
    rfl
  · refine G.go 1 (fun n => (rfl : _ = exe ξ n (d + 7) j_M_usedName 1 [(0, .ref 137)] [.ref 137] σ)) ?_
    refine G.get rfl rfl rfl h0 rfl ?_
    refine G.go 3 (fun n => (rfl : _ = exe ξ n (d + 7) j_M_usedName 7 [(0, .ref 137), (1, .int 0)] [.int 0, .ref 137] σ)) ?_
    refine G.put rfl rfl h0 rfl rfl rfl ?_
    exact G.end 2 (fun n => rfl)
  refine G.go 4 (fun n => (rfl : _ = exe ξ n (d + 8) j_M_number 8 [(0, .ref 137), (1, .int a), (2, .int 0)] [.int a, .ref 137, .ref 137] (σ.set 137 (.inl (7, [.int 0, .ref 138, .ref 139, .int 0, .int 0, .ref 140, .int 0, .int (-1), .int 0, .ref 141, .int 0, .int 0, .ref 142, .ref 143, .int 0, .int 0, .int 0, .int 0, .int 0, .int 0, .int 0, .ref 144, .int 0, .ref 145, .int 0, .int 0]))))) ?_
  refine G.call (k := j_M_isArchive) (as := [.ref 137, .int a]) (r := [.ref 137]) (v := some (.int 0)) (σ1 := (σ.set 137 (.inl (7, [.int 0, .ref 138, .ref 139, .int 0, .int 0, .ref 140, .int 0, .int (-1), .int 0, .ref 141, .int 0, .int 0, .ref 142, .ref 143, .int 0, .int 0, .int 0, .int 0, .int 0, .int 0, .int 0, .ref 144, .int 0, .ref 145, .int 0, .int 0])))) rfl rfl rfl rfl rfl rfl rfl ?_ ?_ ?_
  · show (bif qrc _ 137 j_M_isArchive && _ then _ else _) = _
    rw [qrc_at rfl (qs_at h0) rfl]
    rfl
  · refine G.go 1 (fun n => (rfl : _ = exe ξ n (d + 7) j_M_isArchive 1 [(0, .ref 137), (1, .int a)] [.ref 137] (σ.set 137 (.inl (7, [.int 0, .ref 138, .ref 139, .int 0, .int 0, .ref 140, .int 0, .int (-1), .int 0, .ref 141, .int 0, .int 0, .ref 142, .ref 143, .int 0, .int 0, .int 0, .int 0, .int 0, .int 0, .int 0, .ref 144, .int 0, .ref 145, .int 0, .int 0]))))) ?_
    refine G.get rfl rfl rfl (qs_at h0) rfl ?_
    exact G.end 3 (fun n => rfl)
  refine G.go 2 (fun n => (rfl : _ = exe ξ n (d + 8) j_M_number 19 [(0, .ref 137), (1, .int a), (2, .int 0)] [.int 1, .ref 137] (σ.set 137 (.inl (7, [.int 0, .ref 138, .ref 139, .int 0, .int 0, .ref 140, .int 0, .int (-1), .int 0, .ref 141, .int 0, .int 0, .ref 142, .ref 143, .int 0, .int 0, .int 0, .int 0, .int 0, .int 0, .int 0, .ref 144, .int 0, .ref 145, .int 0, .int 0]))))) ?_
  refine G.put rfl rfl (qs_at h0) rfl rfl rfl ?_
  refine G.go 1 (fun n => (rfl : _ = exe ξ n (d + 8) j_M_number 23 [(0, .ref 137), (1, .int a), (2, .int 0)] [.ref 137] ((σ.set 137 (.inl (7, [.int 0, .ref 138, .ref 139, .int 0, .int 0, .ref 140, .int 0, .int (-1), .int 0, .ref 141, .int 0, .int 0, .ref 142, .ref 143, .int 0, .int 0, .int 0, .int 0, .int 0, .int 0, .int 0, .ref 144, .int 0, .ref 145, .int 0, .int 0]))).set 137 (.inl (7, [.int 1, .ref 138, .ref 139, .int 0, .int 0, .ref 140, .int 0, .int (-1), .int 0, .ref 141, .int 0, .int 0, .ref 142, .ref 143, .int 0, .int 0, .int 0, .int 0, .int 0, .int 0, .int 0, .ref 144, .int 0, .ref 145, .int 0, .int 0]))))) ?_
  refine G.get rfl rfl rfl (qs_at (qs_at h0)) rfl ?_
  exact G.end 3 (fun n => rfl)
theorem pM_read (d : Nat) (a b : Int32) (σ : qH) (hF : freshM σ) : ∃ (σ2 : qH) (fs : List Value), σ2[137]? = some (.inl (7, .int 1 :: fs)) ∧ ((∀ c, σ[146]? = some c → σ2[146]? = some c) ∧ sz 0 0 σ σ2) ∧ G ξ (d + 8) j_M_read 0 (lv_args 0 [.ref 137, .int a, .int b]) [] σ (some (.int 0), σ2) := by
  obtain ⟨h0, h2⟩ := hF
  refine ⟨(σ.set 137 (.inl (7, [.int 1, .ref 138, .ref 139, .int 0, .int 0, .ref 140, .int 0, .int (-1), .int 0, .ref 141, .int 0, .int 0, .ref 142, .ref 143, .int 0, .int 0, .int 0, .int 0, .int 0, .int 0, .int 0, .ref 144, .int 0, .ref 145, .int 0, .int 0]))), _, (qs_at h0), ⟨fun c h => (qs_ne (by decide) h), (sz.set (sz.refl σ) h0 (by simp [qcs]))⟩, ?_⟩
  refine G.go 4 (fun n => (rfl : _ = exe ξ n (d + 8) j_M_read 4 [(0, .ref 137), (1, .int a), (2, .int b)] [.int b, .int a, .ref 137, .ref 137] σ)) ?_
  refine G.call (k := j_M_hasEntry) (as := [.ref 137, .int a, .int b]) (r := [.ref 137]) (v := some (.int 0)) (σ1 := σ) rfl rfl rfl rfl rfl rfl rfl ?_ ?_ ?_
  · show (bif qrc _ 137 j_M_hasEntry && _ then _ else _) = _
    rw [qrc_at rfl h0 rfl]
    rfl
  · refine G.go 2 (fun n => (rfl : _ = exe ξ n (d + 7) j_M_hasEntry 2 [(0, .ref 137), (1, .int a), (2, .int b)] [.int a, .ref 137] σ)) ?_
    refine G.call (k := j_M_isArchive) (as := [.ref 137, .int a]) (r := []) (v := some (.int 0)) (σ1 := σ) rfl rfl rfl rfl rfl rfl rfl ?_ ?_ ?_
    · show (bif qrc _ 137 j_M_isArchive && _ then _ else _) = _
      rw [qrc_at rfl h0 rfl]
      rfl
    · refine G.go 1 (fun n => (rfl : _ = exe ξ n (d + 6) j_M_isArchive 1 [(0, .ref 137), (1, .int a)] [.ref 137] σ)) ?_
      refine G.get rfl rfl rfl h0 rfl ?_
      exact G.end 3 (fun n => rfl)
    exact G.end 3 (fun n => rfl)
  refine G.go 2 (fun n => (rfl : _ = exe ξ n (d + 8) j_M_read 15 [(0, .ref 137), (1, .int a), (2, .int b)] [.int 1, .ref 137] σ)) ?_
  refine G.put rfl rfl h0 rfl rfl rfl ?_
  refine G.go 1 (fun n => (rfl : _ = exe ξ n (d + 8) j_M_read 19 [(0, .ref 137), (1, .int a), (2, .int b)] [.ref 137] (σ.set 137 (.inl (7, [.int 1, .ref 138, .ref 139, .int 0, .int 0, .ref 140, .int 0, .int (-1), .int 0, .ref 141, .int 0, .int 0, .ref 142, .ref 143, .int 0, .int 0, .int 0, .int 0, .int 0, .int 0, .int 0, .ref 144, .int 0, .ref 145, .int 0, .int 0]))))) ?_
  refine G.get rfl rfl rfl (qs_at h0) rfl ?_
  exact G.end 3 (fun n => rfl)
theorem pM_mount (d : Nat) (a : Int32) (σ : qH) (hF : freshM σ) : ∃ (σ2 : qH) (fs : List Value), σ2[137]? = some (.inl (7, .int 1 :: fs)) ∧ ((∀ c, σ[146]? = some c → σ2[146]? = some c) ∧ sz 0 0 σ σ2) ∧ G ξ (d + 8) j_M_mount 0 (lv_args 0 [.ref 137, .int a]) [] σ (some (.int 0), σ2) := by
  obtain ⟨h0, h2⟩ := hF
  refine ⟨(σ.set 137 (.inl (7, [.int 1, .ref 138, .ref 139, .int 0, .int 0, .ref 140, .int 0, .int (-1), .int 0, .ref 141, .int 0, .int 0, .ref 142, .ref 143, .int 0, .int 0, .int 0, .int 0, .int 0, .int 0, .int 0, .ref 144, .int 0, .ref 145, .int 0, .int 0]))), _, (qs_at h0), ⟨fun c h => (qs_ne (by decide) h), (sz.set (sz.refl σ) h0 (by simp [qcs]))⟩, ?_⟩
  refine G.go 4 (fun n => (rfl : _ = exe ξ n (d + 8) j_M_mount 4 [(0, .ref 137), (1, .int a)] [.int a, .int 0, .ref 137, .ref 137] σ)) ?_
  refine G.call (k := j_M_hasEntry) (as := [.ref 137, .int 0, .int a]) (r := [.ref 137]) (v := some (.int 0)) (σ1 := σ) rfl rfl rfl rfl rfl rfl rfl ?_ ?_ ?_
  · show (bif qrc _ 137 j_M_hasEntry && _ then _ else _) = _
    rw [qrc_at rfl h0 rfl]
    rfl
  · refine G.go 2 (fun n => (rfl : _ = exe ξ n (d + 7) j_M_hasEntry 2 [(0, .ref 137), (1, .int 0), (2, .int a)] [.int 0, .ref 137] σ)) ?_
    refine G.call (k := j_M_isArchive) (as := [.ref 137, .int 0]) (r := []) (v := some (.int 0)) (σ1 := σ) rfl rfl rfl rfl rfl rfl rfl ?_ ?_ ?_
    · show (bif qrc _ 137 j_M_isArchive && _ then _ else _) = _
      rw [qrc_at rfl h0 rfl]
      rfl
    · refine G.go 1 (fun n => (rfl : _ = exe ξ n (d + 6) j_M_isArchive 1 [(0, .ref 137), (1, .int 0)] [.ref 137] σ)) ?_
      refine G.get rfl rfl rfl h0 rfl ?_
      exact G.end 3 (fun n => rfl)
    exact G.end 3 (fun n => rfl)
  refine G.go 2 (fun n => (rfl : _ = exe ξ n (d + 8) j_M_mount 15 [(0, .ref 137), (1, .int a)] [.int 1, .ref 137] σ)) ?_
  refine G.put rfl rfl h0 rfl rfl rfl ?_
  refine G.go 1 (fun n => (rfl : _ = exe ξ n (d + 8) j_M_mount 19 [(0, .ref 137), (1, .int a)] [.ref 137] (σ.set 137 (.inl (7, [.int 1, .ref 138, .ref 139, .int 0, .int 0, .ref 140, .int 0, .int (-1), .int 0, .ref 141, .int 0, .int 0, .ref 142, .ref 143, .int 0, .int 0, .int 0, .int 0, .int 0, .int 0, .int 0, .ref 144, .int 0, .ref 145, .int 0, .int 0]))))) ?_
  refine G.get rfl rfl rfl (qs_at h0) rfl ?_
  exact G.end 3 (fun n => rfl)
theorem pM_index (d : Nat) (σ : qH) (hF : freshM σ) : ∃ (σ2 : qH) (fs : List Value), σ2[137]? = some (.inl (7, .int 1 :: fs)) ∧ ((∀ c, σ[146]? = some c → σ2[146]? = some c) ∧ sz 0 0 σ σ2) ∧ G ξ (d + 8) j_M_index 0 (lv_args 0 [.ref 137]) [] σ (some (.int 0), σ2) := by
  obtain ⟨h0, h2⟩ := hF
  refine ⟨(σ.set 137 (.inl (7, [.int 1, .ref 138, .ref 139, .int 0, .int 0, .ref 140, .int 0, .int (-1), .int 0, .ref 141, .int 0, .int 0, .ref 142, .ref 143, .int 0, .int 0, .int 0, .int 0, .int 0, .int 0, .int 0, .ref 144, .int 0, .ref 145, .int 0, .int 0]))), _, (qs_at h0), ⟨fun c h => (qs_ne (by decide) h), (sz.set (sz.refl σ) h0 (by simp [qcs]))⟩, ?_⟩
  refine G.go 2 (fun n => (rfl : _ = exe ξ n (d + 8) j_M_index 2 [(0, .ref 137)] [.ref 137, .ref 137] σ)) ?_
  refine G.get rfl rfl rfl h0 rfl ?_
  refine G.go 2 (fun n => (rfl : _ = exe ξ n (d + 8) j_M_index 13 [(0, .ref 137)] [.int 1, .ref 137] σ)) ?_
  refine G.put rfl rfl h0 rfl rfl rfl ?_
  refine G.go 1 (fun n => (rfl : _ = exe ξ n (d + 8) j_M_index 17 [(0, .ref 137)] [.ref 137] (σ.set 137 (.inl (7, [.int 1, .ref 138, .ref 139, .int 0, .int 0, .ref 140, .int 0, .int (-1), .int 0, .ref 141, .int 0, .int 0, .ref 142, .ref 143, .int 0, .int 0, .int 0, .int 0, .int 0, .int 0, .int 0, .ref 144, .int 0, .ref 145, .int 0, .int 0]))))) ?_
  refine G.get rfl rfl rfl (qs_at h0) rfl ?_
  exact G.end 3 (fun n => rfl)
theorem pM_attribute (d : Nat) (a : Int32) (σ : qH) (hF : freshM σ) : ∃ (σ2 : qH) (fs : List Value), σ2[137]? = some (.inl (7, .int 1 :: fs)) ∧ ((∀ c, σ[146]? = some c → σ2[146]? = some c) ∧ sz 0 0 σ σ2) ∧ G ξ (d + 8) j_M_attribute 0 (lv_args 0 [.ref 137, .int a]) [] σ (some (.int 0), σ2) := by
  obtain ⟨h0, h2⟩ := hF
  refine ⟨((σ.set 137 (.inl (7, [.int 0, .ref 138, .ref 139, .int 0, .int 0, .ref 140, .int 0, .int (-1), .int 0, .ref 141, .int 0, .int 0, .ref 142, .ref 143, .int 0, .int 0, .int 0, .int 0, .int 0, .int 0, .int 0, .ref 144, .int 0, .ref 145, .int 0, .int 0]))).set 137 (.inl (7, [.int 1, .ref 138, .ref 139, .int 0, .int 0, .ref 140, .int 0, .int (-1), .int 0, .ref 141, .int 0, .int 0, .ref 142, .ref 143, .int 0, .int 0, .int 0, .int 0, .int 0, .int 0, .int 0, .ref 144, .int 0, .ref 145, .int 0, .int 0]))), _, (qs_at (qs_at h0)), ⟨fun c h => (qs_ne (by decide) (qs_ne (by decide) h)), (sz.set (sz.set (sz.refl σ) h0 (by simp [qcs])) (qs_at h0) (by simp [qcs]))⟩, ?_⟩
  refine G.go 1 (fun n => (rfl : _ = exe ξ n (d + 8) j_M_attribute 1 [(0, .ref 137), (1, .int a)] [.ref 137] σ)) ?_
  refine G.call (k := j_M_usedName) (as := [.ref 137]) (r := []) (v := some (.int 0)) (σ1 := (σ.set 137 (.inl (7, [.int 0, .ref 138, .ref 139, .int 0, .int 0, .ref 140, .int 0, .int (-1), .int 0, .ref 141, .int 0, .int 0, .ref 142, .ref 143, .int 0, .int 0, .int 0, .int 0, .int 0, .int 0, .int 0, .ref 144, .int 0, .ref 145, .int 0, .int 0])))) rfl rfl rfl rfl rfl rfl rfl ?_ ?_ ?_
  · show (bif qrc _ 137 j_M_usedName && _ then _ else _) = _
    rw [qrc_at rfl h0 rfl]
    rfl
  · refine G.go 1 (fun n => (rfl : _ = exe ξ n (d + 7) j_M_usedName 1 [(0, .ref 137)] [.ref 137] σ)) ?_
    refine G.get rfl rfl rfl h0 rfl ?_
    refine G.go 3 (fun n => (rfl : _ = exe ξ n (d + 7) j_M_usedName 7 [(0, .ref 137), (1, .int 0)] [.int 0, .ref 137] σ)) ?_
    refine G.put rfl rfl h0 rfl rfl rfl ?_
    exact G.end 2 (fun n => rfl)
  refine G.go 4 (fun n => (rfl : _ = exe ξ n (d + 8) j_M_attribute 8 [(0, .ref 137), (1, .int a), (2, .int 0)] [.int a, .ref 137, .ref 137] (σ.set 137 (.inl (7, [.int 0, .ref 138, .ref 139, .int 0, .int 0, .ref 140, .int 0, .int (-1), .int 0, .ref 141, .int 0, .int 0, .ref 142, .ref 143, .int 0, .int 0, .int 0, .int 0, .int 0, .int 0, .int 0, .ref 144, .int 0, .ref 145, .int 0, .int 0]))))) ?_
  refine G.call (k := j_M_isArchive) (as := [.ref 137, .int a]) (r := [.ref 137]) (v := some (.int 0)) (σ1 := (σ.set 137 (.inl (7, [.int 0, .ref 138, .ref 139, .int 0, .int 0, .ref 140, .int 0, .int (-1), .int 0, .ref 141, .int 0, .int 0, .ref 142, .ref 143, .int 0, .int 0, .int 0, .int 0, .int 0, .int 0, .int 0, .ref 144, .int 0, .ref 145, .int 0, .int 0])))) rfl rfl rfl rfl rfl rfl rfl ?_ ?_ ?_
  · show (bif qrc _ 137 j_M_isArchive && _ then _ else _) = _
    rw [qrc_at rfl (qs_at h0) rfl]
    rfl
  · refine G.go 1 (fun n => (rfl : _ = exe ξ n (d + 7) j_M_isArchive 1 [(0, .ref 137), (1, .int a)] [.ref 137] (σ.set 137 (.inl (7, [.int 0, .ref 138, .ref 139, .int 0, .int 0, .ref 140, .int 0, .int (-1), .int 0, .ref 141, .int 0, .int 0, .ref 142, .ref 143, .int 0, .int 0, .int 0, .int 0, .int 0, .int 0, .int 0, .ref 144, .int 0, .ref 145, .int 0, .int 0]))))) ?_
    refine G.get rfl rfl rfl (qs_at h0) rfl ?_
    exact G.end 3 (fun n => rfl)
  refine G.go 2 (fun n => (rfl : _ = exe ξ n (d + 8) j_M_attribute 19 [(0, .ref 137), (1, .int a), (2, .int 0)] [.int 1, .ref 137] (σ.set 137 (.inl (7, [.int 0, .ref 138, .ref 139, .int 0, .int 0, .ref 140, .int 0, .int (-1), .int 0, .ref 141, .int 0, .int 0, .ref 142, .ref 143, .int 0, .int 0, .int 0, .int 0, .int 0, .int 0, .int 0, .ref 144, .int 0, .ref 145, .int 0, .int 0]))))) ?_
  refine G.put rfl rfl (qs_at h0) rfl rfl rfl ?_
  refine G.go 1 (fun n => (rfl : _ = exe ξ n (d + 8) j_M_attribute 23 [(0, .ref 137), (1, .int a), (2, .int 0)] [.ref 137] ((σ.set 137 (.inl (7, [.int 0, .ref 138, .ref 139, .int 0, .int 0, .ref 140, .int 0, .int (-1), .int 0, .ref 141, .int 0, .int 0, .ref 142, .ref 143, .int 0, .int 0, .int 0, .int 0, .int 0, .int 0, .int 0, .ref 144, .int 0, .ref 145, .int 0, .int 0]))).set 137 (.inl (7, [.int 1, .ref 138, .ref 139, .int 0, .int 0, .ref 140, .int 0, .int (-1), .int 0, .ref 141, .int 0, .int 0, .ref 142, .ref 143, .int 0, .int 0, .int 0, .int 0, .int 0, .int 0, .int 0, .ref 144, .int 0, .ref 145, .int 0, .int 0]))))) ?_
  refine G.get rfl rfl rfl (qs_at (qs_at h0)) rfl ?_
  exact G.end 3 (fun n => rfl)
theorem pM_thrown (d : Nat) (σ : qH) (c : Int32) (fs : List Value) (h : σ[137]? = some (.inl (7, .int c :: fs))) : G ξ d j_M_thrown 0 (lv_args 0 [.ref 137]) [] σ (some (.int c), σ) := by
  refine G.go 1 (fun n => (rfl : _ = exe ξ n d j_M_thrown 1 [(0, .ref 137)] [.ref 137] σ)) ?_
  refine G.get rfl rfl rfl h rfl ?_
  exact G.end 1 (fun n => rfl)
end
