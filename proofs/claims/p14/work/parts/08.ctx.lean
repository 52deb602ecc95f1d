theorem qk_f (co : Nat) : (qfL.getD co []).all (qfok co) = true := by
  match co with
  | 0 => exact qk_f0
  | 1 => exact qk_f1
  | 2 => exact qk_f2
  | 3 => exact qk_f3
  | 4 => exact qk_f4
  | 5 => exact qk_f5
  | 6 => exact qk_f6
  | 7 => exact qk_f7
  | 8 => exact qk_f8
  | 9 => exact qk_f9
  | 10 => exact qk_f10
  | 11 => exact qk_f11
  | 12 => exact qk_f12
  | 13 => exact qk_f13
  | n + 14 => rfl
theorem qk_m (co : Nat) : (qmL.getD co []).all (qmok co) = true := by
  match co with
  | 0 => exact qk_m0
  | 1 => exact qk_m1
  | 2 => exact qk_m2
  | 3 => exact qk_m3
  | 4 => exact qk_m4
  | 5 => exact qk_m5
  | 6 => exact qk_m6
  | 7 => exact qk_m7
  | 8 => exact qk_m8
  | 9 => exact qk_m9
  | 10 => exact qk_m10
  | 11 => exact qk_m11
  | 12 => exact qk_m12
  | 13 => exact qk_m13
  | n + 14 => rfl
theorem qk_k (co : Nat) : (qkL.getD co []).all (qkok co) = true := by
  match co with
  | 0 => exact qk_k0
  | 1 => exact qk_k1
  | 2 => exact qk_k2
  | 3 => exact qk_k3
  | 4 => exact qk_k4
  | 5 => exact qk_k5
  | 6 => exact qk_k6
  | 7 => exact qk_k7
  | 8 => exact qk_k8
  | 9 => exact qk_k9
  | 10 => exact qk_k10
  | 11 => exact qk_k11
  | 12 => exact qk_k12
  | 13 => exact qk_k13
  | n + 14 => rfl
theorem qk_i (co : Nat) : (qiL.getD co []).all (fun q => qin q.2.2 (.constant (qnm co) q.1 q.2.1)) = true := by
  match co with
  | 0 => exact qk_i0
  | 1 => exact qk_i1
  | 2 => exact qk_i2
  | 3 => exact qk_i3
  | 4 => exact qk_i4
  | 5 => exact qk_i5
  | 6 => exact qk_i6
  | 7 => exact qk_i7
  | 8 => exact qk_i8
  | 9 => exact qk_i9
  | 10 => exact qk_i10
  | 11 => exact qk_i11
  | 12 => exact qk_i12
  | 13 => exact qk_i13
  | n + 14 => rfl
theorem qk_j (co : Nat) : (qjL.getD co []).all (fun q => qin q.2.2 (.constantLong (qnm co) q.1 q.2.1)) = true := by
  match co with
  | 0 => exact qk_j0
  | 1 => exact qk_j1
  | 2 => exact qk_j2
  | 3 => exact qk_j3
  | 4 => exact qk_j4
  | 5 => exact qk_j5
  | 6 => exact qk_j6
  | 7 => exact qk_j7
  | 8 => exact qk_j8
  | 9 => exact qk_j9
  | 10 => exact qk_j10
  | 11 => exact qk_j11
  | 12 => exact qk_j12
  | 13 => exact qk_j13
  | n + 14 => rfl
theorem qk_x (co : Nat) : (qxL.getD co []).all (fun q => decide (qnm co = "java/lang/String") && (match q.2.1 with
  | 0 => qin q.2.2 (.fieldLink "java/lang/String" q.1 "java/lang/String" "value" "[B")
  | 1 => qin q.2.2 (.fieldLink "java/lang/String" q.1 "java/lang/String" "coder" "B")
  | _ => false)) = true := by
  match co with
  | 0 => exact qk_x0
  | 1 => exact qk_x1
  | 2 => exact qk_x2
  | 3 => exact qk_x3
  | 4 => exact qk_x4
  | 5 => exact qk_x5
  | 6 => exact qk_x6
  | 7 => exact qk_x7
  | 8 => exact qk_x8
  | 9 => exact qk_x9
  | 10 => exact qk_x10
  | 11 => exact qk_x11
  | 12 => exact qk_x12
  | 13 => exact qk_x13
  | n + 14 => rfl
theorem qk_g (co : Nat) : (qgL.getD co []).all (fun q => decide (qnm co = "java/lang/String") && (match q.2.1 with
  | 0 => qin q.2.2 (.fieldLink "java/lang/String" q.1 "java/lang/String" "COMPACT_STRINGS" "Z")
  | 1 => qin q.2.2 (.fieldLink "java/lang/String" q.1 "jdk/internal/util/Preconditions" "SIOOBE_FORMATTER" "Ljava/util/function/BiFunction;")
  | _ => false)) = true := by
  match co with
  | 0 => exact qk_g0
  | 1 => exact qk_g1
  | 2 => exact qk_g2
  | 3 => exact qk_g3
  | 4 => exact qk_g4
  | 5 => exact qk_g5
  | 6 => exact qk_g6
  | 7 => exact qk_g7
  | 8 => exact qk_g8
  | 9 => exact qk_g9
  | 10 => exact qk_g10
  | 11 => exact qk_g11
  | 12 => exact qk_g12
  | 13 => exact qk_g13
  | n + 14 => rfl
theorem qk_t (co : Nat) : (qtL.getD co []).all (fun q => decide (qnm co = "NestedArchives") && (match qtn q.2 with
  | some (k, _) => Nat.beq k q.1
  | none => false)) = true := by
  match co with
  | 0 => exact qk_t0
  | 1 => exact qk_t1
  | 2 => exact qk_t2
  | 3 => exact qk_t3
  | 4 => exact qk_t4
  | 5 => exact qk_t5
  | 6 => exact qk_t6
  | 7 => exact qk_t7
  | 8 => exact qk_t8
  | 9 => exact qk_t9
  | 10 => exact qk_t10
  | 11 => exact qk_t11
  | 12 => exact qk_t12
  | 13 => exact qk_t13
  | n + 14 => rfl
theorem qk_s (co : Nat) : (qsL.getD co []).all (fun q => qsok co q qin qnm) = true := by
  match co with
  | 0 => exact qk_s0
  | 1 => exact qk_s1
  | 2 => exact qk_s2
  | 3 => exact qk_s3
  | 4 => exact qk_s4
  | 5 => exact qk_s5
  | 6 => exact qk_s6
  | 7 => exact qk_s7
  | 8 => exact qk_s8
  | 9 => exact qk_s9
  | 10 => exact qk_s10
  | 11 => exact qk_s11
  | 12 => exact qk_s12
  | 13 => exact qk_s13
  | n + 14 => rfl
theorem qfl_ok {co idx ci k : Nat} {b : Bool} {q : Nat × Nat} (h : qlk (qfL.getD co []) idx = some ((ci, k, b), q)) : k < qfN ci ∧ (b = false → Cond.fieldLink (qnm co) idx (qfC ci) (qfn ci k).2.1 (qfn ci k).2.2.1 ∈ qgw) ∧ (b = true → Cond.fieldLinkNest (qnm co) idx (qfC ci) (qfn ci k).2.1 (qfn ci k).2.2.1 qhost ∈ lw_tbl) := by
  have h1 := List.all_eq_true.mp (qk_f co) _ (qlk_mem h)
  unfold qfok at h1
  simp only [Bool.and_eq_true] at h1
  refine ⟨Nat.le_of_ble_eq_true h1.1, fun hb => ?_, fun hb => ?_⟩
  · subst hb
    exact qin_mem h1.2
  · subst hb
    exact qis_mem h1.2
theorem qkl_ok {co idx ci : Nat} {q : Nat × Nat} (h : qlk (qkL.getD co []) idx = some (ci, q)) (hc : Nat.blt ci 8 = true) : Cond.classLink (qnm co) idx (qfC ci) ∈ qgw := by
  have h1 := List.all_eq_true.mp (qk_k co) _ (qlk_mem h)
  unfold qkok at h1
  simp only [hc, cond_true] at h1
  exact qin_mem h1
theorem qil_ok {co idx : Nat} {v : Int32} {q : Nat × Nat} (h : qlk (qiL.getD co []) idx = some (v, q)) : Cond.constant (qnm co) idx v ∈ qgw := qin_mem (List.all_eq_true.mp (qk_i co) _ (qlk_mem h))
theorem qjl_ok {co idx : Nat} {v : Int64} {q : Nat × Nat} (h : qlk (qjL.getD co []) idx = some (v, q)) : Cond.constantLong (qnm co) idx v ∈ qgw := qin_mem (List.all_eq_true.mp (qk_j co) _ (qlk_mem h))
theorem qsl_ok {co idx i : Nat} {q : Nat × Nat} (h : qlk (qsL.getD co []) idx = some (i, q)) : ∃ C n, qsn i = some (C, n) ∧ Cond.fieldLink (qnm co) idx C n "[I" ∈ qgw := by
  have h1 := List.all_eq_true.mp (qk_s co) _ (qlk_mem h)
  unfold qsok at h1
  split at h1
  · rename_i C n hq
    exact ⟨C, n, hq, qin_mem h1⟩
  · cases h1
theorem qzip_in {l : List Cond} {ps : List (Nat × Nat)} (h : (l.zip ps).all (fun q => qin q.2 q.1) = true) (hn : l.length ≤ ps.length) : ∀ w ∈ l, w ∈ qgw := by
  intro w hw
  obtain ⟨i, hi⟩ := List.getElem?_of_mem hw
  have hl : i < l.length := (List.getElem?_eq_some_iff.mp hi).1
  have hp : i < ps.length := by omega
  have hz : (l.zip ps)[i]? = some (w, ps[i]) := by rw [List.getElem?_zip_eq_some]; exact ⟨hi, List.getElem?_eq_getElem hp⟩
  exact qin_mem (List.all_eq_true.mp h _ (List.mem_of_getElem? hz))
theorem qcl_at {ci : Nat} (h : ci < 8) : qcl[ci]? = some (qfC ci, qfn ci, qfN ci) := by
  match ci, h with
  | 0, _ => rfl
  | 1, _ => rfl
  | 2, _ => rfl
  | 3, _ => rfl
  | 4, _ => rfl
  | 5, _ => rfl
  | 6, _ => rfl
  | 7, _ => rfl
  | n + 8, h => exact absurd h (by omega)
theorem qcl_lt {ci : Nat} {r : vw_C} (h : qcl[ci]? = some r) : ci < 8 := (List.getElem?_eq_some_iff.mp h).1
theorem qcl_ws {ci : Nat} (h : ci < 8) : ∀ w ∈ u_ws (qfC ci) (qfn ci) (qfN ci), w ∈ qgw := by
  match ci, h with
  | 0, _ => exact qzip_in qk_c0 (by decide +kernel)
  | 1, _ => exact qzip_in qk_c1 (by decide +kernel)
  | 2, _ => exact qzip_in qk_c2 (by decide +kernel)
  | 3, _ => exact qzip_in qk_c3 (by decide +kernel)
  | 4, _ => exact qzip_in qk_c4 (by decide +kernel)
  | 5, _ => exact qzip_in qk_c5 (by decide +kernel)
  | 6, _ => exact qzip_in qk_c6 (by decide +kernel)
  | 7, _ => exact qzip_in qk_c7 (by decide +kernel)
  | n + 8, h => exact absurd h (by omega)
theorem qcl_d {ci : Nat} (h : ci < 8) : Cond.instantiable (qfC ci) (qfN ci) ∈ qgw ∧ Cond.initialized (qfC ci) ∈ qgw := by
  match ci, h with
  | 0, _ => exact ⟨qin_mem (Bool.and_eq_true_iff.mp qk_d0).1, qin_mem (Bool.and_eq_true_iff.mp qk_d0).2⟩
  | 1, _ => exact ⟨qin_mem (Bool.and_eq_true_iff.mp qk_d1).1, qin_mem (Bool.and_eq_true_iff.mp qk_d1).2⟩
  | 2, _ => exact ⟨qin_mem (Bool.and_eq_true_iff.mp qk_d2).1, qin_mem (Bool.and_eq_true_iff.mp qk_d2).2⟩
  | 3, _ => exact ⟨qin_mem (Bool.and_eq_true_iff.mp qk_d3).1, qin_mem (Bool.and_eq_true_iff.mp qk_d3).2⟩
  | 4, _ => exact ⟨qin_mem (Bool.and_eq_true_iff.mp qk_d4).1, qin_mem (Bool.and_eq_true_iff.mp qk_d4).2⟩
  | 5, _ => exact ⟨qin_mem (Bool.and_eq_true_iff.mp qk_d5).1, qin_mem (Bool.and_eq_true_iff.mp qk_d5).2⟩
  | 6, _ => exact ⟨qin_mem (Bool.and_eq_true_iff.mp qk_d6).1, qin_mem (Bool.and_eq_true_iff.mp qk_d6).2⟩
  | 7, _ => exact ⟨qin_mem (Bool.and_eq_true_iff.mp qk_d7).1, qin_mem (Bool.and_eq_true_iff.mp qk_d7).2⟩
  | n + 8, h => exact absurd h (by omega)
theorem qcl_ty {ci : Nat} (h : ci < 8) : ∀ k, k < qfN ci → parseFieldDescriptor (qfn ci k).2.2.1 = some (qcty ci k) := by
  match ci, h with
  | 0, _ => exact qt0_ok
  | 1, _ => exact qt1_ok
  | 2, _ => exact qt2_ok
  | 3, _ => exact qt3_ok
  | 4, _ => exact qt4_ok
  | 5, _ => exact qt5_ok
  | 6, _ => exact qt6_ok
  | 7, _ => exact qt7_ok
  | n + 8, h => exact absurd h (by omega)
theorem qcl_nm {ci : Nat} (h : ci < 8) : ∀ a, a < qfN ci → ∀ b, b < qfN ci → a ≠ b → (qfn ci a).2.1 ≠ (qfn ci b).2.1 := by
  match ci, h with
  | 0, _ => exact qn0
  | 1, _ => exact qn1
  | 2, _ => exact qn2
  | 3, _ => exact qn3
  | 4, _ => exact qn4
  | 5, _ => exact qn5
  | 6, _ => exact qn6
  | 7, _ => exact qn7
  | n + 8, h => exact absurd h (by omega)
theorem qcl_own {ci k : Nat} (h : ci < 8) (hk : k < qfN ci) : (qfn ci k).1 = qfC ci := by
  match ci, h with
  | 0, _ => exact (show ∀ k, k < qfN 0 → (qfn 0 k).1 = qfC 0 by decide +kernel) k hk
  | 1, _ => exact (show ∀ k, k < qfN 1 → (qfn 1 k).1 = qfC 1 by decide +kernel) k hk
  | 2, _ => exact (show ∀ k, k < qfN 2 → (qfn 2 k).1 = qfC 2 by decide +kernel) k hk
  | 3, _ => exact (show ∀ k, k < qfN 3 → (qfn 3 k).1 = qfC 3 by decide +kernel) k hk
  | 4, _ => exact (show ∀ k, k < qfN 4 → (qfn 4 k).1 = qfC 4 by decide +kernel) k hk
  | 5, _ => exact (show ∀ k, k < qfN 5 → (qfn 5 k).1 = qfC 5 by decide +kernel) k hk
  | 6, _ => exact (show ∀ k, k < qfN 6 → (qfn 6 k).1 = qfC 6 by decide +kernel) k hk
  | 7, _ => exact (show ∀ k, k < qfN 7 → (qfn 7 k).1 = qfC 7 by decide +kernel) k hk
  | n + 8, h => exact absurd h (by omega)
def qF : List (Nat → Option (Instr × Nat)) := [qf_L_law, qf_N_init, qf_U_init, qf_C_init, qf_J_max, qf_R_init, qf_J_fill, qf_J_rangeCheck, qf_S_length, qf_S_coder, qf_C_learn, qf_J_fill2, qf_C_sortSigns, qf_C_areComplete, qf_F_init, qf_I_init, qf_A_init, qf_R_addText, qf_S_charAt, qf_S_isLatin1, qf_T_charAt, qf_S_checkIndex, qf_P_checkIndex, qf_R_add, qf_N_feed, qf_N_feedInt, qf_N_end, qf_N_fault, qf_N_place, qf_N_count, qf_N_archiveOf, qf_N_type, qf_N_isLetter, qf_N_octet, qf_R_at, qf_N_value, qf_L_open, qf_N_open, qf_A_survey, qf_A_lastEndRecord, qf_R_hasMark, qf_R_two, qf_A_placeDirectory, qf_R_four, qf_A_surveyHeader, qf_A_headerLength, qf_A_isFreshName, qf_A_lookUp, qf_R_hasPart, qf_A_placeData, qf_R_clear, qf_N_note, qf_L_entry, qf_N_entry, qf_A_hasEntry, qf_A_size, qf_A_header, qf_A_packedSize, qf_A_method, qf_A_sum, qf_A_flags, qf_A_nameLength, qf_L_letter, qf_N_letter, qf_A_nameByte, qf_L_number, qf_N_number, qf_L_find, qf_N_find, qf_N_searchMounts, qf_L_read, qf_N_read, qf_N_unpackEntry, qf_A_dataPlace, qf_R_addPart, qf_U_unpack, qf_U_takeBits, qf_U_copyPlain, qf_U_followSigns, qf_U_nextSign, qf_U_copyBack, qf_U_learnCodes, qf_U_tellLengths, qf_N_sumOf, qf_L_mount, qf_N_mount, qf_N_stageMount, qf_L_index, qf_N_index, qf_I_learn, qf_I_nameLengthOf, qf_L_attribute, qf_N_attribute, qf_F_learn, qf_F_lineStop, qf_F_lineLength, qf_F_joinLine, qf_F_closeLine, qf_F_nameLengthOf, qf_F_isNameByte, qf_F_isKnown, qf_F_isSameName, qf_F_smallLetter, qf_M_init, qf_M_feed, qf_M_put, qf_M_end, qf_M_in, qf_M_type, qf_M_open, qf_M_copyRow, qf_M_isFaulty, qf_M_endRecord, qf_M_stands, qf_M_get, qf_M_two, qf_M_isWrong, qf_M_four, qf_M_isNameRight, qf_M_nameLength, qf_M_sameName, qf_M_isLocalRight, qf_M_refuseFault, qf_M_refuse, qf_M_fault, qf_M_place, qf_M_count, qf_M_isArchive, qf_M_use, qf_M_isUnread, qf_M_inflate, qf_M_take, qf_M_plainBlock, qf_M_out, qf_M_codedBlock, qf_M_toldCodes, qf_M_orderOf, qf_M_isComplete, qf_M_many, qf_M_sign, qf_M_pick, qf_M_fixedCodes, qf_M_copied, qf_M_stretched, qf_M_sumOfMade, qf_M_entry, qf_M_hasEntry, qf_M_letter, qf_M_number, qf_M_usedName, qf_M_named, qf_M_isNamed, qf_M_find, qf_M_read, qf_M_octet, qf_M_mount, qf_M_isNoMount, qf_M_index, qf_M_isIndexWrong, qf_M_listNamed, qf_M_wordByte, qf_M_isLineWrong, qf_M_attribute, qf_M_mainEnd, qf_M_lineEnd, qf_M_nextLine, qf_M_isManifestWrong, qf_M_isLong, qf_M_goesOn, qf_M_nameOf, qf_M_enter, qf_M_step, qf_M_isNameByte, qf_M_sameNames, qf_M_byteOf, qf_M_small, qf_M_behind, qf_M_isAsked, qf_M_keepValue, qf_M_value]
def qfe (j pc : Nat) : Option (Instr × Nat) := match qF[j]? with
  | some f => f pc
  | none => none
set_option maxRecDepth 100000 in
theorem qfe_ok {j pc : Nat} {q : Instr × Nat} (h : qfe j pc = some q) : decode (qMq j).2.2.1 pc = .ok q := by
  match j, h with
  | 0, h => exact qf_L_law_ok h
  | 1, h => exact qf_N_init_ok h
  | 2, h => exact qf_U_init_ok h
  | 3, h => exact qf_C_init_ok h
  | 4, h => exact qf_J_max_ok h
  | 5, h => exact qf_R_init_ok h
  | 6, h => exact qf_J_fill_ok h
  | 7, h => exact qf_J_rangeCheck_ok h
  | 8, h => exact qf_S_length_ok h
  | 9, h => exact qf_S_coder_ok h
  | 10, h => exact qf_C_learn_ok h
  | 11, h => exact qf_J_fill2_ok h
  | 12, h => exact qf_C_sortSigns_ok h
  | 13, h => exact qf_C_areComplete_ok h
  | 14, h => exact qf_F_init_ok h
  | 15, h => exact qf_I_init_ok h
  | 16, h => exact qf_A_init_ok h
  | 17, h => exact qf_R_addText_ok h
  | 18, h => exact qf_S_charAt_ok h
  | 19, h => exact qf_S_isLatin1_ok h
  | 20, h => exact qf_T_charAt_ok h
  | 21, h => exact qf_S_checkIndex_ok h
  | 22, h => exact qf_P_checkIndex_ok h
  | 23, h => exact qf_R_add_ok h
  | 24, h => exact qf_N_feed_ok h
  | 25, h => exact qf_N_feedInt_ok h
  | 26, h => exact qf_N_end_ok h
  | 27, h => exact qf_N_fault_ok h
  | 28, h => exact qf_N_place_ok h
  | 29, h => exact qf_N_count_ok h
  | 30, h => exact qf_N_archiveOf_ok h
  | 31, h => exact qf_N_type_ok h
  | 32, h => exact qf_N_isLetter_ok h
  | 33, h => exact qf_N_octet_ok h
  | 34, h => exact qf_R_at_ok h
  | 35, h => exact qf_N_value_ok h
  | 36, h => exact qf_L_open_ok h
  | 37, h => exact qf_N_open_ok h
  | 38, h => exact qf_A_survey_ok h
  | 39, h => exact qf_A_lastEndRecord_ok h
  | 40, h => exact qf_R_hasMark_ok h
  | 41, h => exact qf_R_two_ok h
  | 42, h => exact qf_A_placeDirectory_ok h
  | 43, h => exact qf_R_four_ok h
  | 44, h => exact qf_A_surveyHeader_ok h
  | 45, h => exact qf_A_headerLength_ok h
  | 46, h => exact qf_A_isFreshName_ok h
  | 47, h => exact qf_A_lookUp_ok h
  | 48, h => exact qf_R_hasPart_ok h
  | 49, h => exact qf_A_placeData_ok h
  | 50, h => exact qf_R_clear_ok h
  | 51, h => exact qf_N_note_ok h
  | 52, h => exact qf_L_entry_ok h
  | 53, h => exact qf_N_entry_ok h
  | 54, h => exact qf_A_hasEntry_ok h
  | 55, h => exact qf_A_size_ok h
  | 56, h => exact qf_A_header_ok h
  | 57, h => exact qf_A_packedSize_ok h
  | 58, h => exact qf_A_method_ok h
  | 59, h => exact qf_A_sum_ok h
  | 60, h => exact qf_A_flags_ok h
  | 61, h => exact qf_A_nameLength_ok h
  | 62, h => exact qf_L_letter_ok h
  | 63, h => exact qf_N_letter_ok h
  | 64, h => exact qf_A_nameByte_ok h
  | 65, h => exact qf_L_number_ok h
  | 66, h => exact qf_N_number_ok h
  | 67, h => exact qf_L_find_ok h
  | 68, h => exact qf_N_find_ok h
  | 69, h => exact qf_N_searchMounts_ok h
  | 70, h => exact qf_L_read_ok h
  | 71, h => exact qf_N_read_ok h
  | 72, h => exact qf_N_unpackEntry_ok h
  | 73, h => exact qf_A_dataPlace_ok h
  | 74, h => exact qf_R_addPart_ok h
  | 75, h => exact qf_U_unpack_ok h
  | 76, h => exact qf_U_takeBits_ok h
  | 77, h => exact qf_U_copyPlain_ok h
  | 78, h => exact qf_U_followSigns_ok h
  | 79, h => exact qf_U_nextSign_ok h
  | 80, h => exact qf_U_copyBack_ok h
  | 81, h => exact qf_U_learnCodes_ok h
  | 82, h => exact qf_U_tellLengths_ok h
  | 83, h => exact qf_N_sumOf_ok h
  | 84, h => exact qf_L_mount_ok h
  | 85, h => exact qf_N_mount_ok h
  | 86, h => exact qf_N_stageMount_ok h
  | 87, h => exact qf_L_index_ok h
  | 88, h => exact qf_N_index_ok h
  | 89, h => exact qf_I_learn_ok h
  | 90, h => exact qf_I_nameLengthOf_ok h
  | 91, h => exact qf_L_attribute_ok h
  | 92, h => exact qf_N_attribute_ok h
  | 93, h => exact qf_F_learn_ok h
  | 94, h => exact qf_F_lineStop_ok h
  | 95, h => exact qf_F_lineLength_ok h
  | 96, h => exact qf_F_joinLine_ok h
  | 97, h => exact qf_F_closeLine_ok h
  | 98, h => exact qf_F_nameLengthOf_ok h
  | 99, h => exact qf_F_isNameByte_ok h
  | 100, h => exact qf_F_isKnown_ok h
  | 101, h => exact qf_F_isSameName_ok h
  | 102, h => exact qf_F_smallLetter_ok h
  | 103, h => exact qf_M_init_ok h
  | 104, h => exact qf_M_feed_ok h
  | 105, h => exact qf_M_put_ok h
  | 106, h => exact qf_M_end_ok h
  | 107, h => exact qf_M_in_ok h
  | 108, h => exact qf_M_type_ok h
  | 109, h => exact qf_M_open_ok h
  | 110, h => exact qf_M_copyRow_ok h
  | 111, h => exact qf_M_isFaulty_ok h
  | 112, h => exact qf_M_endRecord_ok h
  | 113, h => exact qf_M_stands_ok h
  | 114, h => exact qf_M_get_ok h
  | 115, h => exact qf_M_two_ok h
  | 116, h => exact qf_M_isWrong_ok h
  | 117, h => exact qf_M_four_ok h
  | 118, h => exact qf_M_isNameRight_ok h
  | 119, h => exact qf_M_nameLength_ok h
  | 120, h => exact qf_M_sameName_ok h
  | 121, h => exact qf_M_isLocalRight_ok h
  | 122, h => exact qf_M_refuseFault_ok h
  | 123, h => exact qf_M_refuse_ok h
  | 124, h => exact qf_M_fault_ok h
  | 125, h => exact qf_M_place_ok h
  | 126, h => exact qf_M_count_ok h
  | 127, h => exact qf_M_isArchive_ok h
  | 128, h => exact qf_M_use_ok h
  | 129, h => exact qf_M_isUnread_ok h
  | 130, h => exact qf_M_inflate_ok h
  | 131, h => exact qf_M_take_ok h
  | 132, h => exact qf_M_plainBlock_ok h
  | 133, h => exact qf_M_out_ok h
  | 134, h => exact qf_M_codedBlock_ok h
  | 135, h => exact qf_M_toldCodes_ok h
  | 136, h => exact qf_M_orderOf_ok h
  | 137, h => exact qf_M_isComplete_ok h
  | 138, h => exact qf_M_many_ok h
  | 139, h => exact qf_M_sign_ok h
  | 140, h => exact qf_M_pick_ok h
  | 141, h => exact qf_M_fixedCodes_ok h
  | 142, h => exact qf_M_copied_ok h
  | 143, h => exact qf_M_stretched_ok h
  | 144, h => exact qf_M_sumOfMade_ok h
  | 145, h => exact qf_M_entry_ok h
  | 146, h => exact qf_M_hasEntry_ok h
  | 147, h => exact qf_M_letter_ok h
  | 148, h => exact qf_M_number_ok h
  | 149, h => exact qf_M_usedName_ok h
  | 150, h => exact qf_M_named_ok h
  | 151, h => exact qf_M_isNamed_ok h
  | 152, h => exact qf_M_find_ok h
  | 153, h => exact qf_M_read_ok h
  | 154, h => exact qf_M_octet_ok h
  | 155, h => exact qf_M_mount_ok h
  | 156, h => exact qf_M_isNoMount_ok h
  | 157, h => exact qf_M_index_ok h
  | 158, h => exact qf_M_isIndexWrong_ok h
  | 159, h => exact qf_M_listNamed_ok h
  | 160, h => exact qf_M_wordByte_ok h
  | 161, h => exact qf_M_isLineWrong_ok h
  | 162, h => exact qf_M_attribute_ok h
  | 163, h => exact qf_M_mainEnd_ok h
  | 164, h => exact qf_M_lineEnd_ok h
  | 165, h => exact qf_M_nextLine_ok h
  | 166, h => exact qf_M_isManifestWrong_ok h
  | 167, h => exact qf_M_isLong_ok h
  | 168, h => exact qf_M_goesOn_ok h
  | 169, h => exact qf_M_nameOf_ok h
  | 170, h => exact qf_M_enter_ok h
  | 171, h => exact qf_M_step_ok h
  | 172, h => exact qf_M_isNameByte_ok h
  | 173, h => exact qf_M_sameNames_ok h
  | 174, h => exact qf_M_byteOf_ok h
  | 175, h => exact qf_M_small_ok h
  | 176, h => exact qf_M_behind_ok h
  | 177, h => exact qf_M_isAsked_ok h
  | 178, h => exact qf_M_keepValue_ok h
  | 179, h => exact qf_M_value_ok h
  | n + 180, h => cases h
