/-! A new object, a new model, the law's own array. -/
theorem N_re (σ α : qH) (O m s : qC) : σ ++ (O :: ((α ++ [m]) ++ [s])) = (σ ++ (O :: α)) ++ [m, s] := by simp
set_option maxRecDepth 100000 in
set_option maxHeartbeats 4000000 in
theorem N_new (s : List Int32) (f : Bool) (d : Nat) : ∃ σN : qH, σN.length = 137 ∧ freshN σN ∧ freshB σN ∧ G (qxi s f) (d + 6) j_N_init 0 (lv_args 0 [.ref qs0.length]) [] (qs0 ++ [.inl (0, qnew 0)]) (none, σN) := by
  obtain ⟨l1, fc, fp, fs, wc, wp, ws, hu, gU⟩ := c_U_init (ξ := qxi s f) (d + 2) (qs0 ++ [.inl (0, qnew 0)]) (qs0.length + 1) _ rfl rfl (by decide) rfl
  rw [List.append_assoc, List.append_assoc] at gU
  obtain ⟨tM, tI, hM0, hI0, gR⟩ := N_rest (ξ := qxi s f) d 16 17 41 48 51 57 59 61 63 68 53 55 54 56 (qs0 ++ (.inl (0, [.ref (qs0.length + 1), .ref (qs0.length + 25), .ref (qs0.length + 32), .ref (qs0.length + 35), .ref (qs0.length + 37), .ref (qs0.length + 39), .ref (qs0.length + 41), .ref (qs0.length + 43), .ref (qs0.length + 45), .ref (qs0.length + 47), .ref (qs0.length + 52), .int 0, .ref (qs0.length + 57), .ref (qs0.length + 58), .int 0, .int 0, .int (-1)]) :: ((((((((((cUnp (qs0.length + 1) l1 fc fp fs wc wp ws ++ cMan (qs0.length + 25)) ++ cInd (qs0.length + 32)) ++ cRow (qs0.length + 35) 40) ++ cRow (qs0.length + 37) 40) ++ cRow (qs0.length + 39) 40) ++ cRow (qs0.length + 41) 8000) ++ cRow (qs0.length + 43) 8000) ++ cRow (qs0.length + 45) 8000) ++ cArc (qs0.length + 47)) ++ cArc (qs0.length + 52)))) (by rw [List.length_append]; exact Nat.le_trans (show qnE ≤ qs0.length by decide) (Nat.le_add_right _ _)) (tx_M s f d) (tx_I s f d) rfl rfl rfl rfl rfl rfl rfl rfl rfl (by decide)
  refine ⟨_, ?_, ?_, ?_, N_s0 d qs0 l1 fc fp fs wc wp ws _ gU (N_s1 d qs0 _ _ rfl (N_s2 d qs0 _ _ rfl (N_s3 d qs0 _ _ rfl (N_s4 d qs0 _ _ rfl (N_s5 d qs0 _ _ rfl (N_s6 d qs0 _ _ rfl (N_s7 d qs0 _ _ rfl (N_s8 d qs0 _ _ rfl (N_s9 d qs0 _ _ rfl (N_s10 d qs0 _ _ rfl (N_s11 d qs0 _ _ (N_s12 d qs0 _ _ rfl (N_s13 d qs0 _ _ rfl (N_s14 d qs0 _ _ (N_s15 d qs0 _ _ (N_s16 d qs0 _ _ (by rw [N_re]; exact gR)))))))))))))))))⟩
  · rfl
  · exact ⟨rfl, rfl, rfl, rfl, rfl, rfl⟩
  · exact ⟨rfl, rfl, rfl, rfl⟩
