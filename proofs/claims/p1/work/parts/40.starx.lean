/-! The new object's cells: what is where, how many. -/
theorem qsz_app (σ τ : qH) : qsz (σ ++ τ) = qsz σ + qsz τ := by simp [qsz]
theorem qsz_cons (c : qC) (τ : qH) : qsz (c :: τ) = qcs c + qsz τ := by simp [qsz]
theorem qsz_nil : qsz [] = 0 := rfl
theorem qsz_qs0 : qsz qs0 = 0 := rfl
set_option maxRecDepth 100000 in
theorem cAll_len (l1 fc fp fs wc wp ws tM tI : List Int32) : (cAll l1 fc fp fs wc wp ws tM tI).length = 137 := rfl
set_option maxRecDepth 100000 in
theorem cb_16 (l1 fc fp fs wc wp ws tM tI : List Int32) : (cAll l1 fc fp fs wc wp ws tM tI)[16]? = some (.inl (0, [.ref 17, .ref 41, .ref 48, .ref 51, .ref 53, .ref 55, .ref 57, .ref 59, .ref 61, .ref 63, .ref 68, .int 0, .ref 73, .ref 74, .int 0, .int 0, .int (-1)])) := qs_app (qs_ne (by decide) (qs_ne (by decide) (show (cBase l1 fc fp fs wc wp ws)[16]? = some (.inl (0, [.ref 17, .ref 41, .ref 48, .ref 51, .ref 53, .ref 55, .ref 57, .ref 59, .ref 61, .ref 63, .ref 68, .int 0, .ref 73, .ref 74, .int 0, .int 0, .int (-1)])) from rfl)))
set_option maxRecDepth 100000 in
theorem cb_51 (l1 fc fp fs wc wp ws tM tI : List Int32) : (cAll l1 fc fp fs wc wp ws tM tI)[51]? = some (.inl (5, [.int 40, .ref 52, .int 0])) := qs_app (qs_ne (by decide) (qs_ne (by decide) (show (cBase l1 fc fp fs wc wp ws)[51]? = some (.inl (5, [.int 40, .ref 52, .int 0])) from rfl)))
set_option maxRecDepth 100000 in
theorem cb_52 (l1 fc fp fs wc wp ws tM tI : List Int32) : (cAll l1 fc fp fs wc wp ws tM tI)[52]? = some (.inr (.inl (1, []))) := qs_app (qs_ne (by decide) (qs_ne (by decide) (show (cBase l1 fc fp fs wc wp ws)[52]? = some (.inr (.inl (1, []))) from rfl)))
set_option maxRecDepth 100000 in
theorem cb_57 (l1 fc fp fs wc wp ws tM tI : List Int32) : (cAll l1 fc fp fs wc wp ws tM tI)[57]? = some (.inl (5, [.int 8000, .ref 58, .int 0])) := qs_app (qs_ne (by decide) (qs_ne (by decide) (show (cBase l1 fc fp fs wc wp ws)[57]? = some (.inl (5, [.int 8000, .ref 58, .int 0])) from rfl)))
set_option maxRecDepth 100000 in
theorem cb_58 (l1 fc fp fs wc wp ws tM tI : List Int32) : (cAll l1 fc fp fs wc wp ws tM tI)[58]? = some (.inr (.inl (1, []))) := qs_app (qs_ne (by decide) (qs_ne (by decide) (show (cBase l1 fc fp fs wc wp ws)[58]? = some (.inr (.inl (1, []))) from rfl)))
set_option maxRecDepth 100000 in
theorem cb_59 (l1 fc fp fs wc wp ws tM tI : List Int32) : (cAll l1 fc fp fs wc wp ws tM tI)[59]? = some (.inl (5, [.int 8000, .ref 60, .int 0])) := qs_app (qs_ne (by decide) (qs_ne (by decide) (show (cBase l1 fc fp fs wc wp ws)[59]? = some (.inl (5, [.int 8000, .ref 60, .int 0])) from rfl)))
set_option maxRecDepth 100000 in
theorem cb_60 (l1 fc fp fs wc wp ws tM tI : List Int32) : (cAll l1 fc fp fs wc wp ws tM tI)[60]? = some (.inr (.inl (1, []))) := qs_app (qs_ne (by decide) (qs_ne (by decide) (show (cBase l1 fc fp fs wc wp ws)[60]? = some (.inr (.inl (1, []))) from rfl)))
set_option maxRecDepth 100000 in
theorem cb_63 (l1 fc fp fs wc wp ws tM tI : List Int32) : (cAll l1 fc fp fs wc wp ws tM tI)[63]? = some (.inl (1, [.ref 64, .ref 66, .ref 67, .int 0, .int 0, .int 0, .int 0, .int (-1)])) := qs_app (qs_ne (by decide) (qs_ne (by decide) (show (cBase l1 fc fp fs wc wp ws)[63]? = some (.inl (1, [.ref 64, .ref 66, .ref 67, .int 0, .int 0, .int 0, .int 0, .int (-1)])) from rfl)))
set_option maxRecDepth 100000 in
theorem cb_64 (l1 fc fp fs wc wp ws tM tI : List Int32) : (cAll l1 fc fp fs wc wp ws tM tI)[64]? = some (.inl (5, [.int 8000, .ref 65, .int 0])) := qs_app (qs_ne (by decide) (qs_ne (by decide) (show (cBase l1 fc fp fs wc wp ws)[64]? = some (.inl (5, [.int 8000, .ref 65, .int 0])) from rfl)))
set_option maxRecDepth 100000 in
theorem cb_65 (l1 fc fp fs wc wp ws tM tI : List Int32) : (cAll l1 fc fp fs wc wp ws tM tI)[65]? = some (.inr (.inl (1, []))) := qs_app (qs_ne (by decide) (qs_ne (by decide) (show (cBase l1 fc fp fs wc wp ws)[65]? = some (.inr (.inl (1, []))) from rfl)))
theorem cAll_N (l1 fc fp fs wc wp ws tM tI : List Int32) : freshN (cAll l1 fc fp fs wc wp ws tM tI) := ⟨cb_16 l1 fc fp fs wc wp ws tM tI, cb_51 l1 fc fp fs wc wp ws tM tI, cb_57 l1 fc fp fs wc wp ws tM tI, cb_59 l1 fc fp fs wc wp ws tM tI, cb_63 l1 fc fp fs wc wp ws tM tI, cb_64 l1 fc fp fs wc wp ws tM tI⟩
theorem cAll_B (l1 fc fp fs wc wp ws tM tI : List Int32) : freshB (cAll l1 fc fp fs wc wp ws tM tI) := ⟨cb_52 l1 fc fp fs wc wp ws tM tI, cb_65 l1 fc fp fs wc wp ws tM tI, cb_58 l1 fc fp fs wc wp ws tM tI, cb_60 l1 fc fp fs wc wp ws tM tI⟩
theorem cAll_sz (l1 fc fp fs wc wp ws tM tI : List Int32) (hu : unpOk l1 fc fp fs wc wp ws) (hM : tM.length = 40) (hI : tI.length = 40) : qsz (cAll l1 fc fp fs wc wp ws tM tI) ≤ 30000 := by
  obtain ⟨u1, u2, u3, u4, u5, u6, u7⟩ := hu
  have e1 : (cBase l1 fc fp fs wc wp ws)[53]? = some (.inl (5, [.int 40, .ref 54, .int 0])) := rfl
  have e2 : (cBase l1 fc fp fs wc wp ws)[55]? = some (.inl (5, [.int 40, .ref 56, .int 0])) := rfl
  unfold cAll
  rw [qsz_app, qsz_set (qs_ne (by decide) e2) (by rfl), qsz_set e1 (by rfl)]
  clear e1 e2
  simp only [cBase, qsz_qs0, cNes, cUnp, cMan, cInd, cRow, cArc, qsz_app, qsz_cons, qsz_nil, qcs, List.length_replicate, List.length_cons, List.length_nil, hM, hI, u1, u2, u3, u4, u5, u6, u7]
  omega
theorem N_new (s : List Int32) (f : Bool) (d : Nat) : ∃ σN : qH, (σN.length = 137 ∧ qsz σN ≤ 30000) ∧ freshN σN ∧ freshB σN ∧ G (qxi s f) (d + 6) j_N_init 0 (lv_args 0 [.ref qs0.length]) [] (qs0 ++ [.inl (0, qnew 0)]) (none, σN) := by
  obtain ⟨l1, fc, fp, fs, wc, wp, ws, tM, tI, hu, hM0, hI0, g⟩ := N_new0 s f d
  exact ⟨_, ⟨cAll_len _ _ _ _ _ _ _ _ _, cAll_sz _ _ _ _ _ _ _ _ _ hu hM0 hI0⟩, cAll_N _ _ _ _ _ _ _ _ _, cAll_B _ _ _ _ _ _ _ _ _, g⟩
