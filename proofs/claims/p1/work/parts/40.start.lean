/-! A new object, a new model, the law's own array. -/
theorem qsz_app (σ τ : qH) : qsz (σ ++ τ) = qsz σ + qsz τ := by simp [qsz]
theorem qsz_cons (c : qC) (τ : qH) : qsz (c :: τ) = qcs c + qsz τ := by simp [qsz]
theorem qsz_nil : qsz [] = 0 := rfl
theorem qsz_qs0 : qsz qs0 = 0 := rfl
theorem N_re (σ α : qH) (O m s : qC) : σ ++ (O :: ((α ++ [m]) ++ [s])) = (σ ++ (O :: α)) ++ [m, s] := by simp
set_option maxRecDepth 100000 in
set_option maxHeartbeats 4000000 in
theorem N_new (s : List Int32) (f : Bool) (d : Nat) : ∃ σN : qH, (σN.length = 137 ∧ qsz σN ≤ 30000) ∧ freshN σN ∧ freshB σN ∧ G (qxi s f) (d + 6) j_N_init 0 (lv_args 0 [.ref qs0.length]) [] (qs0 ++ [.inl (0, qnew 0)]) (none, σN) := by
  obtain ⟨l1, fc, fp, fs, wc, wp, ws, hu, gU⟩ := c_U_init (ξ := qxi s f) (d + 2) (qs0 ++ [.inl (0, qnew 0)]) (qs0.length + 1) _ rfl rfl (by decide) rfl
  rw [List.append_assoc, List.append_assoc] at gU
  obtain ⟨tM, tI, hM0, hI0, gR⟩ := N_rest (ξ := qxi s f) d 16 17 41 48 51 57 59 61 63 68 53 55 54 56 (qs0 ++ (.inl (0, [.ref (qs0.length + 1), .ref (qs0.length + 25), .ref (qs0.length + 32), .ref (qs0.length + 35), .ref (qs0.length + 37), .ref (qs0.length + 39), .ref (qs0.length + 41), .ref (qs0.length + 43), .ref (qs0.length + 45), .ref (qs0.length + 47), .ref (qs0.length + 52), .int 0, .ref (qs0.length + 57), .ref (qs0.length + 58), .int 0, .int 0, .int (-1)]) :: ((((((((((cUnp (qs0.length + 1) l1 fc fp fs wc wp ws ++ cMan (qs0.length + 25)) ++ cInd (qs0.length + 32)) ++ cRow (qs0.length + 35) 40) ++ cRow (qs0.length + 37) 40) ++ cRow (qs0.length + 39) 40) ++ cRow (qs0.length + 41) 8000) ++ cRow (qs0.length + 43) 8000) ++ cRow (qs0.length + 45) 8000) ++ cArc (qs0.length + 47)) ++ cArc (qs0.length + 52)))) (by rw [List.length_append]; exact Nat.le_trans (show qnE ≤ qs0.length by decide) (Nat.le_add_right _ _)) (tx_M s f d) (tx_I s f d) rfl rfl rfl rfl rfl rfl rfl rfl rfl (by decide)
  refine ⟨_, ?_, ?_, ?_, N_s0 d qs0 l1 fc fp fs wc wp ws _ gU (N_s1 d qs0 _ _ rfl (N_s2 d qs0 _ _ rfl (N_s3 d qs0 _ _ rfl (N_s4 d qs0 _ _ rfl (N_s5 d qs0 _ _ rfl (N_s6 d qs0 _ _ rfl (N_s7 d qs0 _ _ rfl (N_s8 d qs0 _ _ rfl (N_s9 d qs0 _ _ rfl (N_s10 d qs0 _ _ rfl (N_s11 d qs0 _ _ (N_s12 d qs0 _ _ rfl (N_s13 d qs0 _ _ rfl (N_s14 d qs0 _ _ (N_s15 d qs0 _ _ (N_s16 d qs0 _ _ (by rw [N_re]; exact gR)))))))))))))))))⟩
  · refine ⟨rfl, ?_⟩
    obtain ⟨u1, u2, u3, u4, u5, u6, u7⟩ := hu
    rw [qsz_app, qsz_set (c0 := .inl (5, [.int 40, .ref 56, .int 0])) rfl rfl, qsz_set (c0 := .inl (5, [.int 40, .ref 54, .int 0])) rfl rfl]
    simp only [qsz_qs0, cNes, cUnp, cMan, cInd, cRow, cArc, qsz_app, qsz_cons, qsz_nil, qcs, List.length_replicate, List.length_cons, List.length_nil, List.length_append, hM0, hI0, u1, u2, u3, u4, u5, u6, u7]
    decide
  · exact ⟨rfl, rfl, rfl, rfl, rfl, rfl⟩
  · exact ⟨rfl, rfl, rfl, rfl⟩
