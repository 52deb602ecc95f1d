/-! Links, by program out of the Statement: what an entry of a class's constant pool stands for; and that the tables say so. -/
def qlk {α : Type} : List (Nat × α) → Nat → Option α
  | [], _ => none
  | (i, v) :: l, k => bif Nat.beq i k then some v else qlk l k
theorem qlk_mem {α : Type} : ∀ {l : List (Nat × α)} {k : Nat} {v : α}, qlk l k = some v → (k, v) ∈ l
  | [], _, _, h => by cases h
  | (i, w) :: l, k, v, h => by
    unfold qlk at h
    cases hb : Nat.beq i k with
    | true =>
      rw [hb] at h
      have e1 : i = k := Nat.eq_of_beq_eq_true hb
      have e2 : w = v := Option.some.inj h
      subst e1; subst e2
      exact List.mem_cons_self
    | false =>
      rw [hb] at h
      exact List.mem_cons_of_mem _ (qlk_mem h)
def qfL : List (List (Nat × (Nat × Nat × Bool) × Nat × Nat)) := [[(10, (0, 0, false), (3, 123)), (19, (0, 1, false), (3, 124)), (26, (0, 2, false), (3, 125)), (35, (0, 3, false), (3, 126)), (39, (0, 4, false), (3, 127)), (42, (0, 5, false), (3, 128)), (45, (0, 6, false), (3, 129)), (48, (0, 7, false), (3, 130)), (51, (0, 8, false), (3, 131)), (57, (0, 9, false), (3, 132)), (61, (0, 10, false), (3, 133)), (64, (0, 11, false), (3, 134)), (68, (0, 12, false), (3, 135)), (72, (0, 13, false), (3, 136)), (75, (0, 14, false), (3, 137)), (79, (0, 15, false), (3, 138)), (82, (0, 16, false), (3, 139)), (93, (1, 0, true), (3, 60)), (96, (5, 2, true), (1, 76)), (109, (1, 7, true), (3, 69)), (122, (1, 3, true), (3, 64)), (208, (3, 2, true), (3, 41)), (213, (3, 0, true), (3, 37)), (217, (3, 1, true), (3, 39)), (227, (4, 6, true), (3, 10)), (230, (4, 0, true), (3, 3)), (233, (4, 7, true), (3, 12))], [(14, (1, 0, false), (3, 59)), (20, (1, 1, false), (3, 61)), (24, (1, 2, false), (3, 62)), (27, (1, 3, false), (3, 63)), (31, (1, 4, false), (3, 65)), (34, (1, 5, false), (3, 66)), (37, (1, 6, false), (3, 67)), (40, (1, 7, false), (3, 68)), (64, (5, 2, true), (1, 80))], [(9, (2, 0, false), (1, 52)), (13, (2, 1, false), (1, 54)), (22, (2, 2, false), (1, 55))], [(9, (3, 0, false), (3, 36)), (15, (3, 1, false), (3, 38)), (18, (3, 2, false), (3, 40)), (22, (5, 2, true), (1, 78))], [(14, (4, 0, false), (3, 2)), (20, (4, 1, false), (3, 4)), (24, (4, 2, false), (3, 5)), (27, (4, 3, false), (3, 6)), (31, (4, 4, false), (3, 7)), (34, (4, 5, false), (3, 8)), (37, (4, 6, false), (3, 9)), (40, (4, 7, false), (3, 11)), (46, (5, 2, true), (1, 79))], [(9, (5, 1, false), (1, 73)), (15, (5, 2, false), (1, 75)), (25, (5, 0, false), (1, 72))], [(11, (6, 0, false), (2, 197)), (23, (6, 1, false), (2, 198)), (27, (6, 2, false), (2, 199)), (30, (6, 3, false), (2, 200)), (33, (6, 4, false), (2, 201)), (36, (6, 5, false), (2, 202)), (42, (6, 6, false), (2, 203)), (46, (6, 7, false), (2, 204)), (49, (6, 8, false), (2, 205)), (53, (6, 9, false), (2, 206)), (56, (6, 10, false), (2, 207)), (59, (6, 11, false), (2, 208)), (73, (5, 2, true), (1, 77)), (92, (5, 1, true), (1, 74)), (96, (2, 0, true), (1, 53)), (99, (2, 2, true), (1, 56))], [(7, (7, 1, false), (5, 80)), (13, (7, 2, false), (5, 81)), (17, (7, 5, false), (5, 84)), (20, (7, 7, false), (5, 86)), (24, (7, 9, false), (5, 88)), (27, (7, 12, false), (5, 91)), (30, (7, 13, false), (5, 92)), (33, (7, 21, false), (5, 100)), (36, (7, 23, false), (5, 102)), (39, (7, 0, false), (5, 79)), (46, (7, 10, false), (5, 89)), (65, (7, 8, false), (5, 87)), (68, (7, 14, false), (5, 93)), (71, (7, 15, false), (5, 94)), (91, (7, 11, false), (5, 90)), (119, (7, 20, false), (5, 99)), (123, (7, 16, false), (5, 95)), (126, (7, 17, false), (5, 96)), (129, (7, 19, false), (5, 98)), (132, (7, 18, false), (5, 97)), (193, (7, 6, false), (5, 85)), (199, (7, 3, false), (5, 82)), (202, (7, 4, false), (5, 83)), (229, (7, 22, false), (5, 101)), (261, (7, 24, false), (5, 103)), (264, (7, 25, false), (5, 104))], [], [], [], [], [], []]
def qmL : List (List (Nat × (Nat × Nat × Nat) × Nat × Nat)) := [[(1, (5, 0, 0), (1, 32)), (9, (2, 2, 0), (1, 37)), (18, (4, 14, 0), (2, 236)), (25, (4, 15, 0), (3, 32)), (32, (2, 5, 1), (3, 50)), (56, (4, 16, 0), (3, 53)), (87, (0, 17, 1), (3, 89)), (99, (0, 25, 1), (3, 179)), (102, (0, 38, 0), (3, 231)), (106, (0, 50, 0), (4, 43)), (112, (0, 51, 2), (4, 47)), (120, (9, 0, 1), (9, 0)), (125, (0, 30, 1), (3, 200)), (129, (0, 54, 1), (4, 62)), (137, (9, 1, 1), (9, 0)), (138, (0, 55, 1), (4, 79)), (142, (0, 57, 1), (4, 88)), (145, (0, 58, 1), (4, 92)), (149, (0, 59, 1), (4, 96)), (152, (0, 60, 1), (4, 100)), (155, (0, 61, 1), (4, 104)), (160, (0, 64, 2), (4, 116)), (164, (1, 32, 1), (3, 208)), (167, (0, 23, 1), (3, 183)), (170, (0, 47, 3), (4, 128)), (176, (0, 69, 1), (4, 137)), (181, (0, 72, 3), (4, 149)), (187, (0, 34, 1), (3, 215)), (190, (0, 86, 2), (4, 224)), (199, (9, 2, 1), (9, 0)), (204, (0, 89, 1), (5, 14)), (222, (0, 93, 2), (5, 32)), (236, (0, 74, 3), (4, 158)), (242, (0, 73, 1), (4, 154)), (245, (0, 75, 5), (4, 163)), (249, (1, 83, 1), (4, 209))], [(3, (5, 0, 0), (3, 56)), (11, (2, 5, 1), (3, 58)), (43, (0, 39, 0), (3, 235)), (47, (0, 42, 0), (4, 8)), (51, (0, 41, 1), (4, 4)), (55, (0, 44, 1), (4, 17)), (58, (0, 49, 1), (4, 39)), (61, (0, 45, 1), (4, 21)), (67, (0, 40, 3), (3, 239)), (71, (0, 43, 1), (4, 12)), (75, (0, 46, 1), (4, 25)), (79, (0, 34, 1), (4, 29)), (82, (3, 32, 1), (4, 30)), (85, (0, 47, 3), (4, 31)), (89, (0, 48, 4), (4, 35)), (93, (0, 54, 1), (4, 87)), (96, (0, 56, 1), (4, 83)), (99, (0, 61, 1), (4, 120))], [(1, (5, 0, 0), (1, 48)), (16, (11, 4, 2), (1, 49)), (25, (1, 11, 2), (2, 186)), (31, (0, 12, 3), (2, 189)), (35, (0, 13, 0), (2, 193))], [(3, (5, 0, 0), (3, 35)), (27, (0, 90, 2), (5, 18)), (31, (0, 34, 1), (5, 22))], [(3, (5, 0, 0), (2, 239)), (11, (2, 5, 1), (3, 1)), (43, (0, 50, 0), (5, 36)), (49, (0, 94, 2), (5, 37)), (53, (0, 95, 3), (5, 42)), (57, (0, 96, 3), (5, 46)), (61, (0, 97, 0), (5, 51)), (65, (0, 34, 1), (5, 41)), (69, (0, 74, 3), (5, 50)), (72, (0, 98, 1), (5, 55)), (75, (0, 100, 2), (5, 62)), (79, (1, 101, 5), (5, 66)), (83, (1, 99, 1), (5, 59)), (87, (1, 102, 1), (5, 69))], [(3, (5, 0, 0), (1, 70)), (19, (11, 4, 2), (1, 71)), (28, (0, 41, 1), (4, 16)), (32, (0, 34, 1), (4, 3)), (35, (8, 0, 5), (4, 162)), (41, (0, 8, 0), (3, 93)), (46, (0, 18, 1), (3, 94)), (50, (0, 23, 1), (3, 118))], [(3, (5, 0, 0), (1, 40)), (20, (2, 3, 1), (1, 45)), (41, (2, 5, 1), (1, 67)), (63, (1, 6, 4), (1, 89)), (69, (0, 10, 4), (2, 182)), (77, (0, 76, 1), (4, 168)), (81, (0, 77, 0), (4, 172)), (85, (0, 78, 2), (4, 178)), (89, (0, 81, 0), (4, 200)), (103, (0, 74, 3), (4, 177)), (107, (1, 11, 2), (4, 204)), (110, (0, 82, 1), (4, 205)), (114, (0, 79, 1), (4, 182)), (118, (0, 23, 1), (4, 186)), (121, (0, 80, 2), (4, 187)), (137, (0, 34, 1), (4, 199))], [(1, (5, 0, 0), (5, 78)), (49, (0, 114, 2), (5, 200)), (53, (0, 115, 1), (5, 204)), (57, (1, 107, 3), (5, 173)), (61, (0, 105, 3), (5, 163)), (74, (0, 113, 3), (5, 196)), (78, (0, 119, 1), (5, 220)), (81, (0, 120, 2), (5, 224)), (87, (0, 117, 1), (5, 212)), (94, (0, 112, 0), (5, 192)), (98, (0, 116, 2), (5, 208)), (101, (0, 118, 1), (5, 216)), (105, (0, 121, 3), (5, 228)), (109, (0, 111, 1), (5, 188)), (112, (0, 129, 1), (6, 21)), (115, (0, 110, 2), (5, 184)), (135, (0, 131, 1), (6, 30)), (139, (0, 133, 1), (6, 39)), (143, (0, 138, 3), (6, 58)), (148, (0, 140, 4), (6, 67)), (152, (1, 136, 1), (6, 51)), (155, (0, 137, 2), (6, 54)), (158, (0, 139, 2), (6, 63)), (161, (0, 135, 2), (6, 47)), (164, (0, 141, 0), (6, 71)), (167, (0, 142, 2), (6, 75)), (170, (0, 143, 2), (6, 79)), (173, (0, 132, 0), (6, 34)), (176, (0, 134, 1), (6, 43)), (186, (0, 130, 0), (6, 26)), (189, (0, 144, 0), (6, 83)), (196, (0, 123, 1), (5, 237)), (205, (0, 127, 1), (6, 13)), (208, (0, 128, 1), (6, 17)), (211, (0, 122, 1), (5, 233)), (214, (0, 146, 2), (6, 93)), (217, (0, 151, 2), (6, 113)), (220, (0, 149, 0), (6, 105)), (223, (0, 150, 1), (6, 109)), (226, (0, 156, 1), (6, 133)), (232, (0, 159, 1), (6, 145)), (235, (0, 161, 2), (6, 157)), (248, (1, 160, 2), (6, 149)), (251, (0, 158, 0), (6, 141)), (255, (0, 164, 1), (6, 169)), (258, (0, 165, 1), (6, 173)), (267, (0, 168, 2), (6, 185)), (270, (0, 170, 1), (6, 193)), (273, (0, 171, 1), (6, 197)), (276, (1, 172, 1), (6, 201)), (279, (0, 169, 2), (6, 189)), (282, (0, 174, 3), (6, 208)), (285, (1, 175, 1), (6, 212)), (288, (0, 167, 0), (6, 181)), (291, (0, 173, 3), (6, 204)), (294, (0, 176, 2), (6, 215)), (297, (0, 163, 0), (6, 165)), (300, (0, 166, 1), (6, 177)), (303, (0, 177, 3), (6, 219)), (306, (0, 178, 2), (6, 223))], [(7, (0, 37, 0), (3, 227)), (15, (0, 53, 3), (4, 58)), (21, (0, 63, 3), (4, 112)), (25, (0, 66, 1), (4, 124)), (29, (0, 68, 1), (4, 133)), (32, (0, 71, 2), (4, 145)), (36, (0, 85, 1), (4, 220)), (41, (0, 88, 0), (5, 8)), (44, (0, 92, 1), (5, 28)), (47, (2, 1, 0), (1, 29)), (50, (2, 103, 0), (5, 75)), (51, (0, 24, 5), (3, 175)), (55, (0, 104, 5), (5, 159)), (56, (0, 26, 1), (3, 184)), (60, (0, 106, 1), (5, 169)), (61, (10, 36, 2), (3, 223)), (66, (0, 109, 0), (5, 180)), (67, (0, 27, 0), (3, 188)), (70, (0, 124, 0), (6, 1)), (71, (0, 28, 0), (3, 192)), (74, (0, 125, 0), (6, 5)), (75, (0, 29, 1), (3, 196)), (78, (0, 126, 1), (6, 9)), (79, (10, 52, 5), (4, 54)), (82, (0, 145, 3), (6, 89)), (83, (10, 62, 5), (4, 109)), (85, (0, 147, 3), (6, 97)), (88, (0, 31, 1), (3, 204)), (92, (0, 108, 1), (5, 176)), (93, (10, 65, 3), (4, 121)), (96, (0, 148, 1), (6, 101)), (97, (10, 67, 3), (4, 130)), (99, (0, 152, 1), (6, 117)), (100, (10, 70, 4), (4, 142)), (103, (0, 153, 2), (6, 121)), (104, (0, 33, 1), (3, 211)), (107, (0, 154, 1), (6, 125)), (108, (10, 84, 3), (4, 216)), (110, (0, 155, 1), (6, 129)), (111, (10, 87, 2), (5, 5)), (113, (0, 157, 0), (6, 137)), (114, (10, 91, 3), (5, 25)), (116, (0, 162, 1), (6, 161)), (117, (0, 35, 1), (3, 219)), (120, (0, 179, 1), (6, 227))], [(13, (1, 7, 3), (1, 92)), (65, (9, 0, 1), (9, 0)), (150, (8, 0, 5), (1, 210))], [], [(1, (5, 0, 0), (2, 86)), (212, (8, 0, 5), (2, 45)), (335, (0, 9, 0), (2, 8)), (492, (0, 19, 0), (3, 98)), (495, (1, 20, 2), (3, 102)), (1059, (1, 22, 3), (3, 108))], [(9, (1, 21, 2), (3, 105))], []]
def qkL : List (List (Nat × Nat × Nat × Nat)) := [[(7, 6, (1, 35)), (16, 4, (2, 234)), (23, 3, (3, 30)), (30, 5, (3, 49)), (54, 1, (3, 51)), (116, 100, (9, 0)), (133, 101, (9, 0)), (195, 102, (9, 0))], [(9, 5, (3, 57))], [], [], [(9, 5, (3, 0))], [], [(15, 2, (1, 41)), (39, 5, (1, 65))], [], [(8, 0, (1, 27)), (13, 100, (9, 0)), (19, 101, (9, 0)), (39, 102, (9, 0)), (48, 7, (5, 73))], [(43, 100, (9, 0))], [], [], [], []]
def qiL : List (List (Nat × Int32 × Nat × Nat)) := [[], [], [], [], [], [], [(76, 64000, (4, 167)), (102, 65535, (4, 176))], [(138, 65535, (6, 38)), (147, 32768, (6, 62))], [], [], [], [], [], []]
def qjL : List (List (Nat × Int64 × Nat × Nat)) := [[(240, 8000, (4, 153)), (256, 4294967295, (4, 214))], [], [], [], [], [], [], [(42, 255, (5, 167)), (44, (-1), (5, 168)), (85, 30, (5, 232)), (180, 4294967295, (6, 87)), (182, 3988292384, (6, 88)), (184, 8000, (6, 25)), (238, 7597120008391390328, (6, 152)), (240, 5567949153222872646, (6, 153)), (242, 8358680908399640576, (6, 154)), (244, 3408452297481930067, (6, 155)), (246, 6065870711157686272, (6, 156))], [(86, 4294967295, (6, 231))], [], [], [], [], []]
def qsL : List (List (Nat × Nat × Nat × Nat)) := [[(253, 6, (4, 212))], [], [], [], [], [], [(17, 1, (1, 43)), (125, 2, (4, 191)), (128, 3, (4, 193)), (131, 4, (4, 195)), (134, 5, (4, 197))], [], [], [], [], [], [], []]
def qxL : List (List (Nat × Nat × Nat × Nat)) := [[], [], [], [], [], [], [], [], [], [], [], [(9, 0, (2, 149)), (15, 1, (2, 150))], [], []]
def qgL : List (List (Nat × Nat × Nat × Nat)) := [[], [], [], [], [], [], [], [], [], [], [], [(38, 0, (2, 12)), (1053, 1, (1, 230))], [], []]
def qtL : List (List (Nat × Nat)) := [[(85, 8), (91, 9)], [], [], [], [], [], [], [], [], [], [], [], [], []]
def qtn (i : Nat) : Option (Nat × String) := match i with
  | 8 => some (85, "META-INF/MANIFEST.MF")
  | 9 => some (91, "index.txt")
  | _ => none
def qsn (i : Nat) : Option (String × String) := match i with
  | 1 => some ("NestedArchives$Unpacker", "LENGTH_ORDER")
  | 2 => some ("NestedArchives$Unpacker", "COPY_LEAST")
  | 3 => some ("NestedArchives$Unpacker", "COPY_BITS")
  | 4 => some ("NestedArchives$Unpacker", "WAY_LEAST")
  | 5 => some ("NestedArchives$Unpacker", "WAY_BITS")
  | 6 => some ("NestedArchives", "SUM_STEPS")
  | _ => none
def qsok (co : Nat) (q : Nat × Nat × Nat × Nat) (f : Nat × Nat → Cond → Bool) (nm : Nat → String) : Bool := match qsn q.2.1 with
  | some (C, n) => f q.2.2 (.fieldLink (nm co) q.1 C n "[I")
  | none => false
def qtb (t : Nat) : List Cond := match t with
  | 0 => k2_sels lw_privs
  | 1 => tables_1_1
  | 2 => tables_1_2
  | 3 => tables_1_3
  | 4 => tables_1_4
  | 5 => tables_1_5
  | 6 => tables_1_6
  | 7 => tables_1_7
  | _ => []
def qis (q : Nat × Nat) (w : Cond) : Bool := decide ((qtb q.1)[q.2]? = some w)
def qin (q : Nat × Nat) (w : Cond) : Bool := qis q w && goodWord w
def qgw : List Cond := lw_tbl.filter goodWord
theorem qis_mem {q : Nat × Nat} {w : Cond} (h : qis q w = true) : w ∈ lw_tbl := by
  have h1 : w ∈ qtb q.1 := List.mem_of_getElem? (of_decide_eq_true h)
  unfold qtb at h1
  unfold lw_tbl tables_1
  simp only [List.mem_append]
  split at h1
  · exact Or.inl h1
  · exact Or.inr (Or.inl h1)
  · exact Or.inr (Or.inr (Or.inl h1))
  · exact Or.inr (Or.inr (Or.inr (Or.inl h1)))
  · exact Or.inr (Or.inr (Or.inr (Or.inr (Or.inl h1))))
  · exact Or.inr (Or.inr (Or.inr (Or.inr (Or.inr (Or.inl h1)))))
  · exact Or.inr (Or.inr (Or.inr (Or.inr (Or.inr (Or.inr (Or.inl h1))))))
  · exact Or.inr (Or.inr (Or.inr (Or.inr (Or.inr (Or.inr (Or.inr h1))))))
  · cases h1
theorem qin_mem {q : Nat × Nat} {w : Cond} (h : qin q w = true) : w ∈ qgw := by
  unfold qin at h
  simp only [Bool.and_eq_true] at h
  exact List.mem_filter.mpr ⟨qis_mem h.1, h.2⟩
theorem qtd {α : Type} {l : List α} {f : α → Bool} (n : Nat) (h1 : (l.take n).all f = true) (h2 : (l.drop n).all f = true) : l.all f = true := by
  rw [← List.take_append_drop n l, List.all_append, h1, h2]
  rfl
def qnm (co : Nat) : String := qcn.getD co ""
def qfn (ci k : Nat) : String × String × String × Bool := match qcl[ci]? with
  | some r => r.2.1 k
  | none => ("", "", "", false)
def qfN (ci : Nat) : Nat := match qcl[ci]? with
  | some r => r.2.2
  | none => 0
def qfC (ci : Nat) : String := match qcl[ci]? with
  | some r => r.1
  | none => ""
def qhost : String := "NestedArchives"
def qMq (j : Nat) : qMd := qM.getD j qm_L_law
def qfok (co : Nat) (q : Nat × (Nat × Nat × Bool) × Nat × Nat) : Bool := Nat.blt q.2.1.2.1 (qfN q.2.1.1) &&
  (bif q.2.1.2.2 then qis q.2.2 (.fieldLinkNest (qnm co) q.1 (qfC q.2.1.1) (qfn q.2.1.1 q.2.1.2.1).2.1 (qfn q.2.1.1 q.2.1.2.1).2.2.1 qhost)
   else qin q.2.2 (.fieldLink (qnm co) q.1 (qfC q.2.1.1) (qfn q.2.1.1 q.2.1.2.1).2.1 (qfn q.2.1.1 q.2.1.2.1).2.2.1))
def qmok (co : Nat) (q : Nat × (Nat × Nat × Nat) × Nat × Nat) : Bool :=
  match q.2.1.1 with
  | 0 => qin q.2.2 (.methodLink (qnm co) q.1 (qMq q.2.1.2.1).2.1) && decide ((parseMethodDescriptor (qMq q.2.1.2.1).2.1.desc).map (fun d => d.parameters.length) = some q.2.1.2.2)
  | 1 => qin q.2.2 (.methodLink (qnm co) q.1 (qMq q.2.1.2.1).2.1) && decide ((parseMethodDescriptor (qMq q.2.1.2.1).2.1.desc).map (fun d => d.parameters.length) = some q.2.1.2.2)
  | 2 => qin q.2.2 (.methodLink (qnm co) q.1 (qMq q.2.1.2.1).2.1) && decide ((parseMethodDescriptor (qMq q.2.1.2.1).2.1.desc).map (fun d => d.parameters.length) = some q.2.1.2.2)
  | 3 => qis q.2.2 (.methodLinkNest (qnm co) q.1 (qMq q.2.1.2.1).2.1 qhost) && decide ((parseMethodDescriptor (qMq q.2.1.2.1).2.1.desc).map (fun d => d.parameters.length) = some q.2.1.2.2)
  | 4 => qis q.2.2 (.methodLinkNest (qnm co) q.1 (qMq q.2.1.2.1).2.1 qhost) && decide ((parseMethodDescriptor (qMq q.2.1.2.1).2.1.desc).map (fun d => d.parameters.length) = some q.2.1.2.2)
  | 5 => qin q.2.2 (.methodLink (qnm co) q.1 Lib.objectInit)
  | 8 => qin q.2.2 (.methodLink (qnm co) q.1 arraycopyName)
  | 10 => qin q.2.2 (.methodLink (qnm co) q.1 (qMq q.2.1.2.1).2.1)
  | 11 => qin q.2.2 (.methodLink (qnm co) q.1 Lib.Math.max.name)
  | _ => true
def qkok (co : Nat) (q : Nat × Nat × Nat × Nat) : Bool := bif Nat.blt q.2.1 8 then qin q.2.2 (.classLink (qnm co) q.1 (qfC q.2.1)) else true
/-- of a method: how it is called (0: by its object, 1: static, 2: a constructor), where the tables have its words -/
def qMok (k : Nat) (q : qMd) (ps : List (Nat × Nat)) : Bool := qin (ps.getD 0 (9, 0)) (.code q.2.1 q.2.2.1 q.2.2.2.1 q.2.2.2.2) && (qin (ps.getD 1 (9, 0)) (.initialized q.2.1.cls) && (decide (q.2.1.cls = qnm q.1) && (decide (q.2.1.cls ≠ "java/lang/invoke/MethodHandle") && (decide (q.2.1.cls ≠ "java/lang/invoke/VarHandle") && (plainFor q.2.1 && (Nat.blt q.2.2.2.1 40 && (match k with
  | 0 => qin (ps.getD 2 (9, 0)) (.instanceMethod q.2.1) && qin (ps.getD 3 (9, 0)) (.selects q.2.1.cls q.2.1 q.2.1)
  | 1 => qin (ps.getD 2 (9, 0)) (.static q.2.1)
  | 2 => qin (ps.getD 2 (9, 0)) (.instanceMethod q.2.1) && (decide (q.2.1.name = "<init>") && decide (q.2.2.2.2 = none))
  | _ => false)))))))
def qMk : List (Nat × List (Nat × Nat)) := [(9, []), (2, [(1, 31), (1, 1), (1, 30)]), (2, [(1, 39), (1, 2), (1, 38)]), (2, [(1, 47), (1, 3), (1, 46)]), (9, []), (2, [(1, 69), (1, 5), (1, 68)]), (1, [(1, 91), (1, 6), (1, 90)]), (1, [(1, 94), (1, 6), (1, 93)]), (0, [(2, 7), (1, 13), (2, 5), (2, 6)]), (0, [(2, 11), (1, 13), (2, 9), (2, 10)]), (0, [(2, 185), (1, 3), (2, 183), (2, 184)]), (1, [(2, 188), (1, 6), (2, 187)]), (0, [(2, 192), (1, 3), (2, 191), (0, 1)]), (0, [(2, 196), (1, 3), (2, 195), (0, 2)]), (2, [(2, 238), (1, 22), (2, 237)]), (2, [(3, 34), (1, 23), (3, 33)]), (2, [(3, 55), (1, 24), (3, 54)]), (0, [(3, 92), (1, 5), (3, 90), (3, 91)]), (0, [(3, 97), (1, 13), (3, 95), (3, 96)]), (0, [(3, 101), (1, 13), (3, 99), (3, 100)]), (1, [(3, 104), (1, 18), (3, 103)]), (1, [(3, 107), (1, 13), (3, 106)]), (1, [(3, 110), (1, 17), (3, 109)]), (0, [(3, 121), (1, 5), (3, 119), (3, 120)]), (0, [(3, 178), (1, 1), (3, 176), (3, 177)]), (0, [(3, 182), (1, 1), (3, 181), (0, 3)]), (0, [(3, 187), (1, 1), (3, 185), (3, 186)]), (0, [(3, 191), (1, 1), (3, 189), (3, 190)]), (0, [(3, 195), (1, 1), (3, 193), (3, 194)]), (0, [(3, 199), (1, 1), (3, 197), (3, 198)]), (0, [(3, 203), (1, 1), (3, 202), (0, 4)]), (0, [(3, 207), (1, 1), (3, 205), (3, 206)]), (1, [(3, 210), (1, 1), (3, 209)]), (0, [(3, 214), (1, 1), (3, 212), (3, 213)]), (0, [(3, 218), (1, 5), (3, 216), (3, 217)]), (0, [(3, 222), (1, 1), (3, 220), (3, 221)]), (9, []), (0, [(3, 230), (1, 1), (3, 228), (3, 229)]), (0, [(3, 234), (1, 24), (3, 232), (3, 233)]), (0, [(3, 238), (1, 24), (3, 237), (0, 5)]), (0, [(4, 2), (1, 5), (4, 0), (4, 1)]), (0, [(4, 7), (1, 5), (4, 5), (4, 6)]), (0, [(4, 11), (1, 24), (4, 10), (0, 6)]), (0, [(4, 15), (1, 5), (4, 13), (4, 14)]), (0, [(4, 20), (1, 24), (4, 19), (0, 7)]), (0, [(4, 24), (1, 24), (4, 23), (0, 8)]), (0, [(4, 28), (1, 24), (4, 27), (0, 9)]), (0, [(4, 34), (1, 24), (4, 32), (4, 33)]), (0, [(4, 38), (1, 5), (4, 36), (4, 37)]), (0, [(4, 42), (1, 24), (4, 41), (0, 10)]), (0, [(4, 46), (1, 5), (4, 44), (4, 45)]), (0, [(4, 50), (1, 1), (4, 49), (0, 11)]), (9, []), (0, [(4, 61), (1, 1), (4, 59), (4, 60)]), (0, [(4, 65), (1, 24), (4, 63), (4, 64)]), (0, [(4, 82), (1, 24), (4, 80), (4, 81)]), (0, [(4, 86), (1, 24), (4, 85), (0, 12)]), (0, [(4, 91), (1, 24), (4, 89), (4, 90)]), (0, [(4, 95), (1, 24), (4, 93), (4, 94)]), (0, [(4, 99), (1, 24), (4, 97), (4, 98)]), (0, [(4, 103), (1, 24), (4, 101), (4, 102)]), (0, [(4, 107), (1, 24), (4, 105), (4, 106)]), (9, []), (0, [(4, 115), (1, 1), (4, 113), (4, 114)]), (0, [(4, 119), (1, 24), (4, 117), (4, 118)]), (9, []), (0, [(4, 127), (1, 1), (4, 125), (4, 126)]), (9, []), (0, [(4, 136), (1, 1), (4, 134), (4, 135)]), (0, [(4, 140), (1, 1), (4, 139), (0, 13)]), (9, []), (0, [(4, 148), (1, 1), (4, 146), (4, 147)]), (0, [(4, 152), (1, 1), (4, 151), (0, 14)]), (0, [(4, 157), (1, 24), (4, 155), (4, 156)]), (0, [(4, 161), (1, 5), (4, 159), (4, 160)]), (0, [(4, 166), (1, 2), (4, 164), (4, 165)]), (0, [(4, 171), (1, 2), (4, 170), (0, 15)]), (0, [(4, 175), (1, 2), (4, 174), (0, 16)]), (0, [(4, 181), (1, 2), (4, 180), (0, 17)]), (0, [(4, 185), (1, 2), (4, 184), (0, 18)]), (0, [(4, 190), (1, 2), (4, 189), (0, 19)]), (0, [(4, 203), (1, 2), (4, 202), (0, 20)]), (0, [(4, 208), (1, 2), (4, 207), (0, 21)]), (1, [(4, 211), (1, 1), (4, 210)]), (9, []), (0, [(4, 223), (1, 1), (4, 221), (4, 222)]), (0, [(4, 227), (1, 1), (4, 226), (0, 22)]), (9, []), (0, [(5, 11), (1, 1), (5, 9), (5, 10)]), (0, [(5, 17), (1, 23), (5, 15), (5, 16)]), (0, [(5, 21), (1, 23), (5, 20), (0, 23)]), (9, []), (0, [(5, 31), (1, 1), (5, 29), (5, 30)]), (0, [(5, 35), (1, 22), (5, 33), (5, 34)]), (0, [(5, 40), (1, 22), (5, 39), (0, 24)]), (0, [(5, 45), (1, 22), (5, 44), (0, 25)]), (0, [(5, 49), (1, 22), (5, 48), (0, 26)]), (0, [(5, 54), (1, 22), (5, 53), (0, 27)]), (0, [(5, 58), (1, 22), (5, 57), (0, 28)]), (1, [(5, 61), (1, 22), (5, 60)]), (0, [(5, 65), (1, 22), (5, 64), (0, 29)]), (1, [(5, 68), (1, 22), (5, 67)]), (1, [(5, 71), (1, 22), (5, 70)]), (2, [(5, 77), (1, 25), (5, 76)]), (0, [(5, 162), (1, 25), (5, 160), (5, 161)]), (0, [(5, 166), (1, 25), (5, 165), (0, 30)]), (0, [(5, 172), (1, 25), (5, 170), (5, 171)]), (1, [(5, 175), (1, 25), (5, 174)]), (0, [(5, 179), (1, 25), (5, 177), (5, 178)]), (0, [(5, 183), (1, 25), (5, 181), (5, 182)]), (0, [(5, 187), (1, 25), (5, 186), (0, 31)]), (0, [(5, 191), (1, 25), (5, 190), (0, 32)]), (0, [(5, 195), (1, 25), (5, 194), (0, 33)]), (0, [(5, 199), (1, 25), (5, 198), (0, 34)]), (0, [(5, 203), (1, 25), (5, 202), (0, 35)]), (0, [(5, 207), (1, 25), (5, 206), (0, 36)]), (0, [(5, 211), (1, 25), (5, 210), (0, 37)]), (0, [(5, 215), (1, 25), (5, 214), (0, 38)]), (0, [(5, 219), (1, 25), (5, 218), (0, 39)]), (0, [(5, 223), (1, 25), (5, 222), (0, 40)]), (0, [(5, 227), (1, 25), (5, 226), (0, 41)]), (0, [(5, 231), (1, 25), (5, 230), (0, 42)]), (0, [(5, 236), (1, 25), (5, 235), (0, 43)]), (0, [(6, 0), (1, 25), (5, 239), (0, 44)]), (0, [(6, 4), (1, 25), (6, 2), (6, 3)]), (0, [(6, 8), (1, 25), (6, 6), (6, 7)]), (0, [(6, 12), (1, 25), (6, 10), (6, 11)]), (0, [(6, 16), (1, 25), (6, 15), (0, 45)]), (0, [(6, 20), (1, 25), (6, 19), (0, 46)]), (0, [(6, 24), (1, 25), (6, 23), (0, 47)]), (0, [(6, 29), (1, 25), (6, 28), (0, 48)]), (0, [(6, 33), (1, 25), (6, 32), (0, 49)]), (0, [(6, 37), (1, 25), (6, 36), (0, 50)]), (0, [(6, 42), (1, 25), (6, 41), (0, 51)]), (0, [(6, 46), (1, 25), (6, 45), (0, 52)]), (0, [(6, 50), (1, 25), (6, 49), (0, 53)]), (1, [(6, 53), (1, 25), (6, 52)]), (0, [(6, 57), (1, 25), (6, 56), (0, 54)]), (0, [(6, 61), (1, 25), (6, 60), (0, 55)]), (0, [(6, 66), (1, 25), (6, 65), (0, 56)]), (0, [(6, 70), (1, 25), (6, 69), (0, 57)]), (0, [(6, 74), (1, 25), (6, 73), (0, 58)]), (0, [(6, 78), (1, 25), (6, 77), (0, 59)]), (0, [(6, 82), (1, 25), (6, 81), (0, 60)]), (0, [(6, 86), (1, 25), (6, 85), (0, 61)]), (0, [(6, 92), (1, 25), (6, 90), (6, 91)]), (0, [(6, 96), (1, 25), (6, 95), (0, 62)]), (0, [(6, 100), (1, 25), (6, 98), (6, 99)]), (0, [(6, 104), (1, 25), (6, 102), (6, 103)]), (0, [(6, 108), (1, 25), (6, 107), (0, 63)]), (0, [(6, 112), (1, 25), (6, 111), (0, 64)]), (0, [(6, 116), (1, 25), (6, 115), (0, 65)]), (0, [(6, 120), (1, 25), (6, 118), (6, 119)]), (0, [(6, 124), (1, 25), (6, 122), (6, 123)]), (0, [(6, 128), (1, 25), (6, 126), (6, 127)]), (0, [(6, 132), (1, 25), (6, 130), (6, 131)]), (0, [(6, 136), (1, 25), (6, 135), (0, 66)]), (0, [(6, 140), (1, 25), (6, 138), (6, 139)]), (0, [(6, 144), (1, 25), (6, 143), (0, 67)]), (0, [(6, 148), (1, 25), (6, 147), (0, 68)]), (1, [(6, 151), (1, 25), (6, 150)]), (0, [(6, 160), (1, 25), (6, 159), (0, 69)]), (0, [(6, 164), (1, 25), (6, 162), (6, 163)]), (0, [(6, 168), (1, 25), (6, 167), (0, 70)]), (0, [(6, 172), (1, 25), (6, 171), (0, 71)]), (0, [(6, 176), (1, 25), (6, 175), (0, 72)]), (0, [(6, 180), (1, 25), (6, 179), (0, 73)]), (0, [(6, 184), (1, 25), (6, 183), (0, 74)]), (0, [(6, 188), (1, 25), (6, 187), (0, 75)]), (0, [(6, 192), (1, 25), (6, 191), (0, 76)]), (0, [(6, 196), (1, 25), (6, 195), (0, 77)]), (0, [(6, 200), (1, 25), (6, 199), (0, 78)]), (1, [(6, 203), (1, 25), (6, 202)]), (0, [(6, 207), (1, 25), (6, 206), (0, 79)]), (0, [(6, 211), (1, 25), (6, 210), (0, 80)]), (1, [(6, 214), (1, 25), (6, 213)]), (0, [(6, 218), (1, 25), (6, 217), (0, 81)]), (0, [(6, 222), (1, 25), (6, 221), (0, 82)]), (0, [(6, 226), (1, 25), (6, 225), (0, 83)]), (0, [(6, 230), (1, 25), (6, 228), (6, 229)])]
def qMc (j : Nat) : Bool := match qMk[j]? with
  | some (9, _) => true
  | some (k, ps) => qMok k (qMq j) ps
  | none => true
set_option maxRecDepth 100000 in
theorem qk_ci : (List.range 8).all (fun ci => decide (qfC ci = qnm ci)) = true := by decide +kernel
set_option maxRecDepth 100000 in
theorem qk_c0 : ((u_ws (qfC 0) (fun k => qfn 0 k) (qfN 0)).zip [(3, 140), (3, 142), (3, 144), (3, 146), (3, 148), (3, 150), (3, 152), (3, 154), (3, 156), (3, 158), (3, 160), (3, 162), (3, 164), (3, 166), (3, 168), (3, 170), (3, 172)]).all (fun q => qin q.2 q.1) = true := by decide +kernel
set_option maxRecDepth 100000 in
theorem qk_d0 : (qin (1, 28) (.instantiable (qfC 0) (qfN 0)) && qin (1, 1) (.initialized (qfC 0))) = true := by decide +kernel
set_option maxRecDepth 100000 in
theorem qk_c1 : ((u_ws (qfC 1) (fun k => qfn 1 k) (qfN 1)).zip [(3, 70), (3, 72), (3, 74), (3, 76), (3, 78), (3, 80), (3, 82), (3, 84)]).all (fun q => qin q.2 q.1) = true := by decide +kernel
set_option maxRecDepth 100000 in
theorem qk_d1 : (qin (3, 52) (.instantiable (qfC 1) (qfN 1)) && qin (1, 24) (.initialized (qfC 1))) = true := by decide +kernel
set_option maxRecDepth 100000 in
theorem qk_c2 : ((u_ws (qfC 2) (fun k => qfn 2 k) (qfN 2)).zip [(1, 57), (1, 59), (1, 61)]).all (fun q => qin q.2 q.1) = true := by decide +kernel
set_option maxRecDepth 100000 in
theorem qk_d2 : (qin (1, 42) (.instantiable (qfC 2) (qfN 2)) && qin (1, 3) (.initialized (qfC 2))) = true := by decide +kernel
set_option maxRecDepth 100000 in
theorem qk_c3 : ((u_ws (qfC 3) (fun k => qfn 3 k) (qfN 3)).zip [(3, 42), (3, 44), (3, 46)]).all (fun q => qin q.2 q.1) = true := by decide +kernel
set_option maxRecDepth 100000 in
theorem qk_d3 : (qin (3, 31) (.instantiable (qfC 3) (qfN 3)) && qin (1, 23) (.initialized (qfC 3))) = true := by decide +kernel
set_option maxRecDepth 100000 in
theorem qk_c4 : ((u_ws (qfC 4) (fun k => qfn 4 k) (qfN 4)).zip [(3, 13), (3, 15), (3, 17), (3, 19), (3, 21), (3, 23), (3, 25), (3, 27)]).all (fun q => qin q.2 q.1) = true := by decide +kernel
set_option maxRecDepth 100000 in
theorem qk_d4 : (qin (2, 235) (.instantiable (qfC 4) (qfN 4)) && qin (1, 22) (.initialized (qfC 4))) = true := by decide +kernel
set_option maxRecDepth 100000 in
theorem qk_c5 : ((u_ws (qfC 5) (fun k => qfn 5 k) (qfN 5)).zip [(1, 81), (1, 83), (1, 85)]).all (fun q => qin q.2 q.1) = true := by decide +kernel
set_option maxRecDepth 100000 in
theorem qk_d5 : (qin (1, 66) (.instantiable (qfC 5) (qfN 5)) && qin (1, 5) (.initialized (qfC 5))) = true := by decide +kernel
set_option maxRecDepth 100000 in
theorem qk_c6 : ((u_ws (qfC 6) (fun k => qfn 6 k) (qfN 6)).zip [(2, 209), (2, 211), (2, 213), (2, 215), (2, 217), (2, 219), (2, 221), (2, 223), (2, 225), (2, 227), (2, 229), (2, 231)]).all (fun q => qin q.2 q.1) = true := by decide +kernel
set_option maxRecDepth 100000 in
theorem qk_d6 : (qin (1, 36) (.instantiable (qfC 6) (qfN 6)) && qin (1, 2) (.initialized (qfC 6))) = true := by decide +kernel
set_option maxRecDepth 100000 in
theorem qk_c7 : ((u_ws (qfC 7) (fun k => qfn 7 k) (qfN 7)).zip [(5, 105), (5, 107), (5, 109), (5, 111), (5, 113), (5, 115), (5, 117), (5, 119), (5, 121), (5, 123), (5, 125), (5, 127), (5, 129), (5, 131), (5, 133), (5, 135), (5, 137), (5, 139), (5, 141), (5, 143), (5, 145), (5, 147), (5, 149), (5, 151), (5, 153), (5, 155)]).all (fun q => qin q.2 q.1) = true := by decide +kernel
set_option maxRecDepth 100000 in
theorem qk_d7 : (qin (5, 74) (.instantiable (qfC 7) (qfN 7)) && qin (1, 25) (.initialized (qfC 7))) = true := by decide +kernel
set_option maxRecDepth 100000 in
theorem qk_f0_0 : (((qfL.getD 0 [])).take 16).all (qfok 0) = true := by decide +kernel
set_option maxRecDepth 100000 in
theorem qk_f0_1 : (((qfL.getD 0 []).drop 16).take 16).all (qfok 0) = true := by decide +kernel
set_option maxRecDepth 100000 in
theorem qk_f0_2 : ((qfL.getD 0 []).drop 32).all (qfok 0) = true := by decide +kernel
theorem qk_f0 : (qfL.getD 0 []).all (qfok 0) = true := by
  have h1 : ((qfL.getD 0 []).drop 16).all (qfok 0) = true := qtd 16 qk_f0_1 (by rw [List.drop_drop]; exact qk_f0_2)
  have h0 : ((qfL.getD 0 []).drop 0).all (qfok 0) = true := qtd 16 qk_f0_0 (by rw [List.drop_drop]; exact h1)
  exact h0
set_option maxRecDepth 100000 in
theorem qk_m0_0 : (((qmL.getD 0 [])).take 16).all (qmok 0) = true := by decide +kernel
set_option maxRecDepth 100000 in
theorem qk_m0_1 : (((qmL.getD 0 []).drop 16).take 16).all (qmok 0) = true := by decide +kernel
set_option maxRecDepth 100000 in
theorem qk_m0_2 : (((qmL.getD 0 []).drop 32).take 16).all (qmok 0) = true := by decide +kernel
set_option maxRecDepth 100000 in
theorem qk_m0_3 : ((qmL.getD 0 []).drop 48).all (qmok 0) = true := by decide +kernel
theorem qk_m0 : (qmL.getD 0 []).all (qmok 0) = true := by
  have h2 : ((qmL.getD 0 []).drop 32).all (qmok 0) = true := qtd 16 qk_m0_2 (by rw [List.drop_drop]; exact qk_m0_3)
  have h1 : ((qmL.getD 0 []).drop 16).all (qmok 0) = true := qtd 16 qk_m0_1 (by rw [List.drop_drop]; exact h2)
  have h0 : ((qmL.getD 0 []).drop 0).all (qmok 0) = true := qtd 16 qk_m0_0 (by rw [List.drop_drop]; exact h1)
  exact h0
set_option maxRecDepth 100000 in
theorem qk_k0 : (qkL.getD 0 []).all (qkok 0) = true := by decide +kernel
set_option maxRecDepth 100000 in
theorem qk_i0 : (qiL.getD 0 []).all (fun q => qin q.2.2 (.constant (qnm 0) q.1 q.2.1)) = true := by decide +kernel
set_option maxRecDepth 100000 in
theorem qk_s0 : (qsL.getD 0 []).all (fun q => qsok 0 q qin qnm) = true := by decide +kernel
set_option maxRecDepth 100000 in
theorem qk_x0 : (qxL.getD 0 []).all (fun q => decide (qnm 0 = "java/lang/String") && (match q.2.1 with
  | 0 => qin q.2.2 (.fieldLink "java/lang/String" q.1 "java/lang/String" "value" "[B")
  | 1 => qin q.2.2 (.fieldLink "java/lang/String" q.1 "java/lang/String" "coder" "B")
  | _ => false)) = true := by decide +kernel
set_option maxRecDepth 100000 in
theorem qk_g0 : (qgL.getD 0 []).all (fun q => decide (qnm 0 = "java/lang/String") && (match q.2.1 with
  | 0 => qin q.2.2 (.fieldLink "java/lang/String" q.1 "java/lang/String" "COMPACT_STRINGS" "Z")
  | 1 => qin q.2.2 (.fieldLink "java/lang/String" q.1 "jdk/internal/util/Preconditions" "SIOOBE_FORMATTER" "Ljava/util/function/BiFunction;")
  | _ => false)) = true := by decide +kernel
set_option maxRecDepth 100000 in
theorem qk_t0 : (qtL.getD 0 []).all (fun q => decide (qnm 0 = "NestedArchives") && (match qtn q.2 with
  | some (k, _) => Nat.beq k q.1
  | none => false)) = true := by decide +kernel
set_option maxRecDepth 100000 in
theorem qk_j0 : (qjL.getD 0 []).all (fun q => qin q.2.2 (.constantLong (qnm 0) q.1 q.2.1)) = true := by decide +kernel
set_option maxRecDepth 100000 in
theorem qk_f1 : (qfL.getD 1 []).all (qfok 1) = true := by decide +kernel
set_option maxRecDepth 100000 in
theorem qk_m1_0 : (((qmL.getD 1 [])).take 16).all (qmok 1) = true := by decide +kernel
set_option maxRecDepth 100000 in
theorem qk_m1_1 : (((qmL.getD 1 []).drop 16).take 16).all (qmok 1) = true := by decide +kernel
set_option maxRecDepth 100000 in
theorem qk_m1_2 : ((qmL.getD 1 []).drop 32).all (qmok 1) = true := by decide +kernel
theorem qk_m1 : (qmL.getD 1 []).all (qmok 1) = true := by
  have h1 : ((qmL.getD 1 []).drop 16).all (qmok 1) = true := qtd 16 qk_m1_1 (by rw [List.drop_drop]; exact qk_m1_2)
  have h0 : ((qmL.getD 1 []).drop 0).all (qmok 1) = true := qtd 16 qk_m1_0 (by rw [List.drop_drop]; exact h1)
  exact h0
set_option maxRecDepth 100000 in
theorem qk_k1 : (qkL.getD 1 []).all (qkok 1) = true := by decide +kernel
set_option maxRecDepth 100000 in
theorem qk_i1 : (qiL.getD 1 []).all (fun q => qin q.2.2 (.constant (qnm 1) q.1 q.2.1)) = true := by decide +kernel
set_option maxRecDepth 100000 in
theorem qk_s1 : (qsL.getD 1 []).all (fun q => qsok 1 q qin qnm) = true := by decide +kernel
set_option maxRecDepth 100000 in
theorem qk_x1 : (qxL.getD 1 []).all (fun q => decide (qnm 1 = "java/lang/String") && (match q.2.1 with
  | 0 => qin q.2.2 (.fieldLink "java/lang/String" q.1 "java/lang/String" "value" "[B")
  | 1 => qin q.2.2 (.fieldLink "java/lang/String" q.1 "java/lang/String" "coder" "B")
  | _ => false)) = true := by decide +kernel
set_option maxRecDepth 100000 in
theorem qk_g1 : (qgL.getD 1 []).all (fun q => decide (qnm 1 = "java/lang/String") && (match q.2.1 with
  | 0 => qin q.2.2 (.fieldLink "java/lang/String" q.1 "java/lang/String" "COMPACT_STRINGS" "Z")
  | 1 => qin q.2.2 (.fieldLink "java/lang/String" q.1 "jdk/internal/util/Preconditions" "SIOOBE_FORMATTER" "Ljava/util/function/BiFunction;")
  | _ => false)) = true := by decide +kernel
set_option maxRecDepth 100000 in
theorem qk_t1 : (qtL.getD 1 []).all (fun q => decide (qnm 1 = "NestedArchives") && (match qtn q.2 with
  | some (k, _) => Nat.beq k q.1
  | none => false)) = true := by decide +kernel
set_option maxRecDepth 100000 in
theorem qk_j1 : (qjL.getD 1 []).all (fun q => qin q.2.2 (.constantLong (qnm 1) q.1 q.2.1)) = true := by decide +kernel
set_option maxRecDepth 100000 in
theorem qk_f2 : (qfL.getD 2 []).all (qfok 2) = true := by decide +kernel
set_option maxRecDepth 100000 in
theorem qk_m2 : (qmL.getD 2 []).all (qmok 2) = true := by decide +kernel
set_option maxRecDepth 100000 in
theorem qk_k2 : (qkL.getD 2 []).all (qkok 2) = true := by decide +kernel
set_option maxRecDepth 100000 in
theorem qk_i2 : (qiL.getD 2 []).all (fun q => qin q.2.2 (.constant (qnm 2) q.1 q.2.1)) = true := by decide +kernel
set_option maxRecDepth 100000 in
theorem qk_s2 : (qsL.getD 2 []).all (fun q => qsok 2 q qin qnm) = true := by decide +kernel
set_option maxRecDepth 100000 in
theorem qk_x2 : (qxL.getD 2 []).all (fun q => decide (qnm 2 = "java/lang/String") && (match q.2.1 with
  | 0 => qin q.2.2 (.fieldLink "java/lang/String" q.1 "java/lang/String" "value" "[B")
  | 1 => qin q.2.2 (.fieldLink "java/lang/String" q.1 "java/lang/String" "coder" "B")
  | _ => false)) = true := by decide +kernel
set_option maxRecDepth 100000 in
theorem qk_g2 : (qgL.getD 2 []).all (fun q => decide (qnm 2 = "java/lang/String") && (match q.2.1 with
  | 0 => qin q.2.2 (.fieldLink "java/lang/String" q.1 "java/lang/String" "COMPACT_STRINGS" "Z")
  | 1 => qin q.2.2 (.fieldLink "java/lang/String" q.1 "jdk/internal/util/Preconditions" "SIOOBE_FORMATTER" "Ljava/util/function/BiFunction;")
  | _ => false)) = true := by decide +kernel
set_option maxRecDepth 100000 in
theorem qk_t2 : (qtL.getD 2 []).all (fun q => decide (qnm 2 = "NestedArchives") && (match qtn q.2 with
  | some (k, _) => Nat.beq k q.1
  | none => false)) = true := by decide +kernel
set_option maxRecDepth 100000 in
theorem qk_j2 : (qjL.getD 2 []).all (fun q => qin q.2.2 (.constantLong (qnm 2) q.1 q.2.1)) = true := by decide +kernel
set_option maxRecDepth 100000 in
theorem qk_f3 : (qfL.getD 3 []).all (qfok 3) = true := by decide +kernel
set_option maxRecDepth 100000 in
theorem qk_m3 : (qmL.getD 3 []).all (qmok 3) = true := by decide +kernel
set_option maxRecDepth 100000 in
theorem qk_k3 : (qkL.getD 3 []).all (qkok 3) = true := by decide +kernel
set_option maxRecDepth 100000 in
theorem qk_i3 : (qiL.getD 3 []).all (fun q => qin q.2.2 (.constant (qnm 3) q.1 q.2.1)) = true := by decide +kernel
set_option maxRecDepth 100000 in
theorem qk_s3 : (qsL.getD 3 []).all (fun q => qsok 3 q qin qnm) = true := by decide +kernel
set_option maxRecDepth 100000 in
theorem qk_x3 : (qxL.getD 3 []).all (fun q => decide (qnm 3 = "java/lang/String") && (match q.2.1 with
  | 0 => qin q.2.2 (.fieldLink "java/lang/String" q.1 "java/lang/String" "value" "[B")
  | 1 => qin q.2.2 (.fieldLink "java/lang/String" q.1 "java/lang/String" "coder" "B")
  | _ => false)) = true := by decide +kernel
set_option maxRecDepth 100000 in
theorem qk_g3 : (qgL.getD 3 []).all (fun q => decide (qnm 3 = "java/lang/String") && (match q.2.1 with
  | 0 => qin q.2.2 (.fieldLink "java/lang/String" q.1 "java/lang/String" "COMPACT_STRINGS" "Z")
  | 1 => qin q.2.2 (.fieldLink "java/lang/String" q.1 "jdk/internal/util/Preconditions" "SIOOBE_FORMATTER" "Ljava/util/function/BiFunction;")
  | _ => false)) = true := by decide +kernel
set_option maxRecDepth 100000 in
theorem qk_t3 : (qtL.getD 3 []).all (fun q => decide (qnm 3 = "NestedArchives") && (match qtn q.2 with
  | some (k, _) => Nat.beq k q.1
  | none => false)) = true := by decide +kernel
set_option maxRecDepth 100000 in
theorem qk_j3 : (qjL.getD 3 []).all (fun q => qin q.2.2 (.constantLong (qnm 3) q.1 q.2.1)) = true := by decide +kernel
set_option maxRecDepth 100000 in
theorem qk_f4 : (qfL.getD 4 []).all (qfok 4) = true := by decide +kernel
set_option maxRecDepth 100000 in
theorem qk_m4 : (qmL.getD 4 []).all (qmok 4) = true := by decide +kernel
set_option maxRecDepth 100000 in
theorem qk_k4 : (qkL.getD 4 []).all (qkok 4) = true := by decide +kernel
set_option maxRecDepth 100000 in
theorem qk_i4 : (qiL.getD 4 []).all (fun q => qin q.2.2 (.constant (qnm 4) q.1 q.2.1)) = true := by decide +kernel
set_option maxRecDepth 100000 in
theorem qk_s4 : (qsL.getD 4 []).all (fun q => qsok 4 q qin qnm) = true := by decide +kernel
set_option maxRecDepth 100000 in
theorem qk_x4 : (qxL.getD 4 []).all (fun q => decide (qnm 4 = "java/lang/String") && (match q.2.1 with
  | 0 => qin q.2.2 (.fieldLink "java/lang/String" q.1 "java/lang/String" "value" "[B")
  | 1 => qin q.2.2 (.fieldLink "java/lang/String" q.1 "java/lang/String" "coder" "B")
  | _ => false)) = true := by decide +kernel
set_option maxRecDepth 100000 in
theorem qk_g4 : (qgL.getD 4 []).all (fun q => decide (qnm 4 = "java/lang/String") && (match q.2.1 with
  | 0 => qin q.2.2 (.fieldLink "java/lang/String" q.1 "java/lang/String" "COMPACT_STRINGS" "Z")
  | 1 => qin q.2.2 (.fieldLink "java/lang/String" q.1 "jdk/internal/util/Preconditions" "SIOOBE_FORMATTER" "Ljava/util/function/BiFunction;")
  | _ => false)) = true := by decide +kernel
set_option maxRecDepth 100000 in
theorem qk_t4 : (qtL.getD 4 []).all (fun q => decide (qnm 4 = "NestedArchives") && (match qtn q.2 with
  | some (k, _) => Nat.beq k q.1
  | none => false)) = true := by decide +kernel
set_option maxRecDepth 100000 in
theorem qk_j4 : (qjL.getD 4 []).all (fun q => qin q.2.2 (.constantLong (qnm 4) q.1 q.2.1)) = true := by decide +kernel
set_option maxRecDepth 100000 in
theorem qk_f5 : (qfL.getD 5 []).all (qfok 5) = true := by decide +kernel
set_option maxRecDepth 100000 in
theorem qk_m5 : (qmL.getD 5 []).all (qmok 5) = true := by decide +kernel
set_option maxRecDepth 100000 in
theorem qk_k5 : (qkL.getD 5 []).all (qkok 5) = true := by decide +kernel
set_option maxRecDepth 100000 in
theorem qk_i5 : (qiL.getD 5 []).all (fun q => qin q.2.2 (.constant (qnm 5) q.1 q.2.1)) = true := by decide +kernel
set_option maxRecDepth 100000 in
theorem qk_s5 : (qsL.getD 5 []).all (fun q => qsok 5 q qin qnm) = true := by decide +kernel
set_option maxRecDepth 100000 in
theorem qk_x5 : (qxL.getD 5 []).all (fun q => decide (qnm 5 = "java/lang/String") && (match q.2.1 with
  | 0 => qin q.2.2 (.fieldLink "java/lang/String" q.1 "java/lang/String" "value" "[B")
  | 1 => qin q.2.2 (.fieldLink "java/lang/String" q.1 "java/lang/String" "coder" "B")
  | _ => false)) = true := by decide +kernel
set_option maxRecDepth 100000 in
theorem qk_g5 : (qgL.getD 5 []).all (fun q => decide (qnm 5 = "java/lang/String") && (match q.2.1 with
  | 0 => qin q.2.2 (.fieldLink "java/lang/String" q.1 "java/lang/String" "COMPACT_STRINGS" "Z")
  | 1 => qin q.2.2 (.fieldLink "java/lang/String" q.1 "jdk/internal/util/Preconditions" "SIOOBE_FORMATTER" "Ljava/util/function/BiFunction;")
  | _ => false)) = true := by decide +kernel
set_option maxRecDepth 100000 in
theorem qk_t5 : (qtL.getD 5 []).all (fun q => decide (qnm 5 = "NestedArchives") && (match qtn q.2 with
  | some (k, _) => Nat.beq k q.1
  | none => false)) = true := by decide +kernel
set_option maxRecDepth 100000 in
theorem qk_j5 : (qjL.getD 5 []).all (fun q => qin q.2.2 (.constantLong (qnm 5) q.1 q.2.1)) = true := by decide +kernel
set_option maxRecDepth 100000 in
theorem qk_f6 : (qfL.getD 6 []).all (qfok 6) = true := by decide +kernel
set_option maxRecDepth 100000 in
theorem qk_m6 : (qmL.getD 6 []).all (qmok 6) = true := by decide +kernel
set_option maxRecDepth 100000 in
theorem qk_k6 : (qkL.getD 6 []).all (qkok 6) = true := by decide +kernel
set_option maxRecDepth 100000 in
theorem qk_i6 : (qiL.getD 6 []).all (fun q => qin q.2.2 (.constant (qnm 6) q.1 q.2.1)) = true := by decide +kernel
set_option maxRecDepth 100000 in
theorem qk_s6 : (qsL.getD 6 []).all (fun q => qsok 6 q qin qnm) = true := by decide +kernel
set_option maxRecDepth 100000 in
theorem qk_x6 : (qxL.getD 6 []).all (fun q => decide (qnm 6 = "java/lang/String") && (match q.2.1 with
  | 0 => qin q.2.2 (.fieldLink "java/lang/String" q.1 "java/lang/String" "value" "[B")
  | 1 => qin q.2.2 (.fieldLink "java/lang/String" q.1 "java/lang/String" "coder" "B")
  | _ => false)) = true := by decide +kernel
set_option maxRecDepth 100000 in
theorem qk_g6 : (qgL.getD 6 []).all (fun q => decide (qnm 6 = "java/lang/String") && (match q.2.1 with
  | 0 => qin q.2.2 (.fieldLink "java/lang/String" q.1 "java/lang/String" "COMPACT_STRINGS" "Z")
  | 1 => qin q.2.2 (.fieldLink "java/lang/String" q.1 "jdk/internal/util/Preconditions" "SIOOBE_FORMATTER" "Ljava/util/function/BiFunction;")
  | _ => false)) = true := by decide +kernel
set_option maxRecDepth 100000 in
theorem qk_t6 : (qtL.getD 6 []).all (fun q => decide (qnm 6 = "NestedArchives") && (match qtn q.2 with
  | some (k, _) => Nat.beq k q.1
  | none => false)) = true := by decide +kernel
set_option maxRecDepth 100000 in
theorem qk_j6 : (qjL.getD 6 []).all (fun q => qin q.2.2 (.constantLong (qnm 6) q.1 q.2.1)) = true := by decide +kernel
set_option maxRecDepth 100000 in
theorem qk_f7_0 : (((qfL.getD 7 [])).take 16).all (qfok 7) = true := by decide +kernel
set_option maxRecDepth 100000 in
theorem qk_f7_1 : (((qfL.getD 7 []).drop 16).take 16).all (qfok 7) = true := by decide +kernel
set_option maxRecDepth 100000 in
theorem qk_f7_2 : ((qfL.getD 7 []).drop 32).all (qfok 7) = true := by decide +kernel
theorem qk_f7 : (qfL.getD 7 []).all (qfok 7) = true := by
  have h1 : ((qfL.getD 7 []).drop 16).all (qfok 7) = true := qtd 16 qk_f7_1 (by rw [List.drop_drop]; exact qk_f7_2)
  have h0 : ((qfL.getD 7 []).drop 0).all (qfok 7) = true := qtd 16 qk_f7_0 (by rw [List.drop_drop]; exact h1)
  exact h0
set_option maxRecDepth 100000 in
theorem qk_m7_0 : (((qmL.getD 7 [])).take 16).all (qmok 7) = true := by decide +kernel
set_option maxRecDepth 100000 in
theorem qk_m7_1 : (((qmL.getD 7 []).drop 16).take 16).all (qmok 7) = true := by decide +kernel
set_option maxRecDepth 100000 in
theorem qk_m7_2 : (((qmL.getD 7 []).drop 32).take 16).all (qmok 7) = true := by decide +kernel
set_option maxRecDepth 100000 in
theorem qk_m7_3 : (((qmL.getD 7 []).drop 48).take 16).all (qmok 7) = true := by decide +kernel
set_option maxRecDepth 100000 in
theorem qk_m7_4 : ((qmL.getD 7 []).drop 64).all (qmok 7) = true := by decide +kernel
theorem qk_m7 : (qmL.getD 7 []).all (qmok 7) = true := by
  have h3 : ((qmL.getD 7 []).drop 48).all (qmok 7) = true := qtd 16 qk_m7_3 (by rw [List.drop_drop]; exact qk_m7_4)
  have h2 : ((qmL.getD 7 []).drop 32).all (qmok 7) = true := qtd 16 qk_m7_2 (by rw [List.drop_drop]; exact h3)
  have h1 : ((qmL.getD 7 []).drop 16).all (qmok 7) = true := qtd 16 qk_m7_1 (by rw [List.drop_drop]; exact h2)
  have h0 : ((qmL.getD 7 []).drop 0).all (qmok 7) = true := qtd 16 qk_m7_0 (by rw [List.drop_drop]; exact h1)
  exact h0
set_option maxRecDepth 100000 in
theorem qk_k7 : (qkL.getD 7 []).all (qkok 7) = true := by decide +kernel
set_option maxRecDepth 100000 in
theorem qk_i7 : (qiL.getD 7 []).all (fun q => qin q.2.2 (.constant (qnm 7) q.1 q.2.1)) = true := by decide +kernel
set_option maxRecDepth 100000 in
theorem qk_s7 : (qsL.getD 7 []).all (fun q => qsok 7 q qin qnm) = true := by decide +kernel
set_option maxRecDepth 100000 in
theorem qk_x7 : (qxL.getD 7 []).all (fun q => decide (qnm 7 = "java/lang/String") && (match q.2.1 with
  | 0 => qin q.2.2 (.fieldLink "java/lang/String" q.1 "java/lang/String" "value" "[B")
  | 1 => qin q.2.2 (.fieldLink "java/lang/String" q.1 "java/lang/String" "coder" "B")
  | _ => false)) = true := by decide +kernel
set_option maxRecDepth 100000 in
theorem qk_g7 : (qgL.getD 7 []).all (fun q => decide (qnm 7 = "java/lang/String") && (match q.2.1 with
  | 0 => qin q.2.2 (.fieldLink "java/lang/String" q.1 "java/lang/String" "COMPACT_STRINGS" "Z")
  | 1 => qin q.2.2 (.fieldLink "java/lang/String" q.1 "jdk/internal/util/Preconditions" "SIOOBE_FORMATTER" "Ljava/util/function/BiFunction;")
  | _ => false)) = true := by decide +kernel
set_option maxRecDepth 100000 in
theorem qk_t7 : (qtL.getD 7 []).all (fun q => decide (qnm 7 = "NestedArchives") && (match qtn q.2 with
  | some (k, _) => Nat.beq k q.1
  | none => false)) = true := by decide +kernel
set_option maxRecDepth 100000 in
theorem qk_j7 : (qjL.getD 7 []).all (fun q => qin q.2.2 (.constantLong (qnm 7) q.1 q.2.1)) = true := by decide +kernel
set_option maxRecDepth 100000 in
theorem qk_f8 : (qfL.getD 8 []).all (qfok 8) = true := by decide +kernel
set_option maxRecDepth 100000 in
theorem qk_m8_0 : (((qmL.getD 8 [])).take 16).all (qmok 8) = true := by decide +kernel
set_option maxRecDepth 100000 in
theorem qk_m8_1 : (((qmL.getD 8 []).drop 16).take 16).all (qmok 8) = true := by decide +kernel
set_option maxRecDepth 100000 in
theorem qk_m8_2 : (((qmL.getD 8 []).drop 32).take 16).all (qmok 8) = true := by decide +kernel
set_option maxRecDepth 100000 in
theorem qk_m8_3 : ((qmL.getD 8 []).drop 48).all (qmok 8) = true := by decide +kernel
theorem qk_m8 : (qmL.getD 8 []).all (qmok 8) = true := by
  have h2 : ((qmL.getD 8 []).drop 32).all (qmok 8) = true := qtd 16 qk_m8_2 (by rw [List.drop_drop]; exact qk_m8_3)
  have h1 : ((qmL.getD 8 []).drop 16).all (qmok 8) = true := qtd 16 qk_m8_1 (by rw [List.drop_drop]; exact h2)
  have h0 : ((qmL.getD 8 []).drop 0).all (qmok 8) = true := qtd 16 qk_m8_0 (by rw [List.drop_drop]; exact h1)
  exact h0
set_option maxRecDepth 100000 in
theorem qk_k8 : (qkL.getD 8 []).all (qkok 8) = true := by decide +kernel
set_option maxRecDepth 100000 in
theorem qk_i8 : (qiL.getD 8 []).all (fun q => qin q.2.2 (.constant (qnm 8) q.1 q.2.1)) = true := by decide +kernel
set_option maxRecDepth 100000 in
theorem qk_s8 : (qsL.getD 8 []).all (fun q => qsok 8 q qin qnm) = true := by decide +kernel
set_option maxRecDepth 100000 in
theorem qk_x8 : (qxL.getD 8 []).all (fun q => decide (qnm 8 = "java/lang/String") && (match q.2.1 with
  | 0 => qin q.2.2 (.fieldLink "java/lang/String" q.1 "java/lang/String" "value" "[B")
  | 1 => qin q.2.2 (.fieldLink "java/lang/String" q.1 "java/lang/String" "coder" "B")
  | _ => false)) = true := by decide +kernel
set_option maxRecDepth 100000 in
theorem qk_g8 : (qgL.getD 8 []).all (fun q => decide (qnm 8 = "java/lang/String") && (match q.2.1 with
  | 0 => qin q.2.2 (.fieldLink "java/lang/String" q.1 "java/lang/String" "COMPACT_STRINGS" "Z")
  | 1 => qin q.2.2 (.fieldLink "java/lang/String" q.1 "jdk/internal/util/Preconditions" "SIOOBE_FORMATTER" "Ljava/util/function/BiFunction;")
  | _ => false)) = true := by decide +kernel
set_option maxRecDepth 100000 in
theorem qk_t8 : (qtL.getD 8 []).all (fun q => decide (qnm 8 = "NestedArchives") && (match qtn q.2 with
  | some (k, _) => Nat.beq k q.1
  | none => false)) = true := by decide +kernel
set_option maxRecDepth 100000 in
theorem qk_j8 : (qjL.getD 8 []).all (fun q => qin q.2.2 (.constantLong (qnm 8) q.1 q.2.1)) = true := by decide +kernel
set_option maxRecDepth 100000 in
theorem qk_f9 : (qfL.getD 9 []).all (qfok 9) = true := by decide +kernel
set_option maxRecDepth 100000 in
theorem qk_m9 : (qmL.getD 9 []).all (qmok 9) = true := by decide +kernel
set_option maxRecDepth 100000 in
theorem qk_k9 : (qkL.getD 9 []).all (qkok 9) = true := by decide +kernel
set_option maxRecDepth 100000 in
theorem qk_i9 : (qiL.getD 9 []).all (fun q => qin q.2.2 (.constant (qnm 9) q.1 q.2.1)) = true := by decide +kernel
set_option maxRecDepth 100000 in
theorem qk_s9 : (qsL.getD 9 []).all (fun q => qsok 9 q qin qnm) = true := by decide +kernel
set_option maxRecDepth 100000 in
theorem qk_x9 : (qxL.getD 9 []).all (fun q => decide (qnm 9 = "java/lang/String") && (match q.2.1 with
  | 0 => qin q.2.2 (.fieldLink "java/lang/String" q.1 "java/lang/String" "value" "[B")
  | 1 => qin q.2.2 (.fieldLink "java/lang/String" q.1 "java/lang/String" "coder" "B")
  | _ => false)) = true := by decide +kernel
set_option maxRecDepth 100000 in
theorem qk_g9 : (qgL.getD 9 []).all (fun q => decide (qnm 9 = "java/lang/String") && (match q.2.1 with
  | 0 => qin q.2.2 (.fieldLink "java/lang/String" q.1 "java/lang/String" "COMPACT_STRINGS" "Z")
  | 1 => qin q.2.2 (.fieldLink "java/lang/String" q.1 "jdk/internal/util/Preconditions" "SIOOBE_FORMATTER" "Ljava/util/function/BiFunction;")
  | _ => false)) = true := by decide +kernel
set_option maxRecDepth 100000 in
theorem qk_t9 : (qtL.getD 9 []).all (fun q => decide (qnm 9 = "NestedArchives") && (match qtn q.2 with
  | some (k, _) => Nat.beq k q.1
  | none => false)) = true := by decide +kernel
set_option maxRecDepth 100000 in
theorem qk_j9 : (qjL.getD 9 []).all (fun q => qin q.2.2 (.constantLong (qnm 9) q.1 q.2.1)) = true := by decide +kernel
set_option maxRecDepth 100000 in
theorem qk_f10 : (qfL.getD 10 []).all (qfok 10) = true := by decide +kernel
set_option maxRecDepth 100000 in
theorem qk_m10 : (qmL.getD 10 []).all (qmok 10) = true := by decide +kernel
set_option maxRecDepth 100000 in
theorem qk_k10 : (qkL.getD 10 []).all (qkok 10) = true := by decide +kernel
set_option maxRecDepth 100000 in
theorem qk_i10 : (qiL.getD 10 []).all (fun q => qin q.2.2 (.constant (qnm 10) q.1 q.2.1)) = true := by decide +kernel
set_option maxRecDepth 100000 in
theorem qk_s10 : (qsL.getD 10 []).all (fun q => qsok 10 q qin qnm) = true := by decide +kernel
set_option maxRecDepth 100000 in
theorem qk_x10 : (qxL.getD 10 []).all (fun q => decide (qnm 10 = "java/lang/String") && (match q.2.1 with
  | 0 => qin q.2.2 (.fieldLink "java/lang/String" q.1 "java/lang/String" "value" "[B")
  | 1 => qin q.2.2 (.fieldLink "java/lang/String" q.1 "java/lang/String" "coder" "B")
  | _ => false)) = true := by decide +kernel
set_option maxRecDepth 100000 in
theorem qk_g10 : (qgL.getD 10 []).all (fun q => decide (qnm 10 = "java/lang/String") && (match q.2.1 with
  | 0 => qin q.2.2 (.fieldLink "java/lang/String" q.1 "java/lang/String" "COMPACT_STRINGS" "Z")
  | 1 => qin q.2.2 (.fieldLink "java/lang/String" q.1 "jdk/internal/util/Preconditions" "SIOOBE_FORMATTER" "Ljava/util/function/BiFunction;")
  | _ => false)) = true := by decide +kernel
set_option maxRecDepth 100000 in
theorem qk_t10 : (qtL.getD 10 []).all (fun q => decide (qnm 10 = "NestedArchives") && (match qtn q.2 with
  | some (k, _) => Nat.beq k q.1
  | none => false)) = true := by decide +kernel
set_option maxRecDepth 100000 in
theorem qk_j10 : (qjL.getD 10 []).all (fun q => qin q.2.2 (.constantLong (qnm 10) q.1 q.2.1)) = true := by decide +kernel
set_option maxRecDepth 100000 in
theorem qk_f11 : (qfL.getD 11 []).all (qfok 11) = true := by decide +kernel
set_option maxRecDepth 100000 in
theorem qk_m11 : (qmL.getD 11 []).all (qmok 11) = true := by decide +kernel
set_option maxRecDepth 100000 in
theorem qk_k11 : (qkL.getD 11 []).all (qkok 11) = true := by decide +kernel
set_option maxRecDepth 100000 in
theorem qk_i11 : (qiL.getD 11 []).all (fun q => qin q.2.2 (.constant (qnm 11) q.1 q.2.1)) = true := by decide +kernel
set_option maxRecDepth 100000 in
theorem qk_s11 : (qsL.getD 11 []).all (fun q => qsok 11 q qin qnm) = true := by decide +kernel
set_option maxRecDepth 100000 in
theorem qk_x11 : (qxL.getD 11 []).all (fun q => decide (qnm 11 = "java/lang/String") && (match q.2.1 with
  | 0 => qin q.2.2 (.fieldLink "java/lang/String" q.1 "java/lang/String" "value" "[B")
  | 1 => qin q.2.2 (.fieldLink "java/lang/String" q.1 "java/lang/String" "coder" "B")
  | _ => false)) = true := by decide +kernel
set_option maxRecDepth 100000 in
theorem qk_g11 : (qgL.getD 11 []).all (fun q => decide (qnm 11 = "java/lang/String") && (match q.2.1 with
  | 0 => qin q.2.2 (.fieldLink "java/lang/String" q.1 "java/lang/String" "COMPACT_STRINGS" "Z")
  | 1 => qin q.2.2 (.fieldLink "java/lang/String" q.1 "jdk/internal/util/Preconditions" "SIOOBE_FORMATTER" "Ljava/util/function/BiFunction;")
  | _ => false)) = true := by decide +kernel
set_option maxRecDepth 100000 in
theorem qk_t11 : (qtL.getD 11 []).all (fun q => decide (qnm 11 = "NestedArchives") && (match qtn q.2 with
  | some (k, _) => Nat.beq k q.1
  | none => false)) = true := by decide +kernel
set_option maxRecDepth 100000 in
theorem qk_j11 : (qjL.getD 11 []).all (fun q => qin q.2.2 (.constantLong (qnm 11) q.1 q.2.1)) = true := by decide +kernel
set_option maxRecDepth 100000 in
theorem qk_f12 : (qfL.getD 12 []).all (qfok 12) = true := by decide +kernel
set_option maxRecDepth 100000 in
theorem qk_m12 : (qmL.getD 12 []).all (qmok 12) = true := by decide +kernel
set_option maxRecDepth 100000 in
theorem qk_k12 : (qkL.getD 12 []).all (qkok 12) = true := by decide +kernel
set_option maxRecDepth 100000 in
theorem qk_i12 : (qiL.getD 12 []).all (fun q => qin q.2.2 (.constant (qnm 12) q.1 q.2.1)) = true := by decide +kernel
set_option maxRecDepth 100000 in
theorem qk_s12 : (qsL.getD 12 []).all (fun q => qsok 12 q qin qnm) = true := by decide +kernel
set_option maxRecDepth 100000 in
theorem qk_x12 : (qxL.getD 12 []).all (fun q => decide (qnm 12 = "java/lang/String") && (match q.2.1 with
  | 0 => qin q.2.2 (.fieldLink "java/lang/String" q.1 "java/lang/String" "value" "[B")
  | 1 => qin q.2.2 (.fieldLink "java/lang/String" q.1 "java/lang/String" "coder" "B")
  | _ => false)) = true := by decide +kernel
set_option maxRecDepth 100000 in
theorem qk_g12 : (qgL.getD 12 []).all (fun q => decide (qnm 12 = "java/lang/String") && (match q.2.1 with
  | 0 => qin q.2.2 (.fieldLink "java/lang/String" q.1 "java/lang/String" "COMPACT_STRINGS" "Z")
  | 1 => qin q.2.2 (.fieldLink "java/lang/String" q.1 "jdk/internal/util/Preconditions" "SIOOBE_FORMATTER" "Ljava/util/function/BiFunction;")
  | _ => false)) = true := by decide +kernel
set_option maxRecDepth 100000 in
theorem qk_t12 : (qtL.getD 12 []).all (fun q => decide (qnm 12 = "NestedArchives") && (match qtn q.2 with
  | some (k, _) => Nat.beq k q.1
  | none => false)) = true := by decide +kernel
set_option maxRecDepth 100000 in
theorem qk_j12 : (qjL.getD 12 []).all (fun q => qin q.2.2 (.constantLong (qnm 12) q.1 q.2.1)) = true := by decide +kernel
set_option maxRecDepth 100000 in
theorem qk_f13 : (qfL.getD 13 []).all (qfok 13) = true := by decide +kernel
set_option maxRecDepth 100000 in
theorem qk_m13 : (qmL.getD 13 []).all (qmok 13) = true := by decide +kernel
set_option maxRecDepth 100000 in
theorem qk_k13 : (qkL.getD 13 []).all (qkok 13) = true := by decide +kernel
set_option maxRecDepth 100000 in
theorem qk_i13 : (qiL.getD 13 []).all (fun q => qin q.2.2 (.constant (qnm 13) q.1 q.2.1)) = true := by decide +kernel
set_option maxRecDepth 100000 in
theorem qk_s13 : (qsL.getD 13 []).all (fun q => qsok 13 q qin qnm) = true := by decide +kernel
set_option maxRecDepth 100000 in
theorem qk_x13 : (qxL.getD 13 []).all (fun q => decide (qnm 13 = "java/lang/String") && (match q.2.1 with
  | 0 => qin q.2.2 (.fieldLink "java/lang/String" q.1 "java/lang/String" "value" "[B")
  | 1 => qin q.2.2 (.fieldLink "java/lang/String" q.1 "java/lang/String" "coder" "B")
  | _ => false)) = true := by decide +kernel
set_option maxRecDepth 100000 in
theorem qk_g13 : (qgL.getD 13 []).all (fun q => decide (qnm 13 = "java/lang/String") && (match q.2.1 with
  | 0 => qin q.2.2 (.fieldLink "java/lang/String" q.1 "java/lang/String" "COMPACT_STRINGS" "Z")
  | 1 => qin q.2.2 (.fieldLink "java/lang/String" q.1 "jdk/internal/util/Preconditions" "SIOOBE_FORMATTER" "Ljava/util/function/BiFunction;")
  | _ => false)) = true := by decide +kernel
set_option maxRecDepth 100000 in
theorem qk_t13 : (qtL.getD 13 []).all (fun q => decide (qnm 13 = "NestedArchives") && (match qtn q.2 with
  | some (k, _) => Nat.beq k q.1
  | none => false)) = true := by decide +kernel
set_option maxRecDepth 100000 in
theorem qk_j13 : (qjL.getD 13 []).all (fun q => qin q.2.2 (.constantLong (qnm 13) q.1 q.2.1)) = true := by decide +kernel
set_option maxRecDepth 100000 in
theorem qk_M_0 : (((List.range 180)).take 8).all qMc = true := by decide +kernel
set_option maxRecDepth 100000 in
theorem qk_M_1 : (((List.range 180).drop 8).take 8).all qMc = true := by decide +kernel
set_option maxRecDepth 100000 in
theorem qk_M_2 : (((List.range 180).drop 16).take 8).all qMc = true := by decide +kernel
set_option maxRecDepth 100000 in
theorem qk_M_3 : (((List.range 180).drop 24).take 8).all qMc = true := by decide +kernel
set_option maxRecDepth 100000 in
theorem qk_M_4 : (((List.range 180).drop 32).take 8).all qMc = true := by decide +kernel
set_option maxRecDepth 100000 in
theorem qk_M_5 : (((List.range 180).drop 40).take 8).all qMc = true := by decide +kernel
set_option maxRecDepth 100000 in
theorem qk_M_6 : (((List.range 180).drop 48).take 8).all qMc = true := by decide +kernel
set_option maxRecDepth 100000 in
theorem qk_M_7 : (((List.range 180).drop 56).take 8).all qMc = true := by decide +kernel
set_option maxRecDepth 100000 in
theorem qk_M_8 : (((List.range 180).drop 64).take 8).all qMc = true := by decide +kernel
set_option maxRecDepth 100000 in
theorem qk_M_9 : (((List.range 180).drop 72).take 8).all qMc = true := by decide +kernel
set_option maxRecDepth 100000 in
theorem qk_M_10 : (((List.range 180).drop 80).take 8).all qMc = true := by decide +kernel
set_option maxRecDepth 100000 in
theorem qk_M_11 : (((List.range 180).drop 88).take 8).all qMc = true := by decide +kernel
set_option maxRecDepth 100000 in
theorem qk_M_12 : (((List.range 180).drop 96).take 8).all qMc = true := by decide +kernel
set_option maxRecDepth 100000 in
theorem qk_M_13 : (((List.range 180).drop 104).take 8).all qMc = true := by decide +kernel
set_option maxRecDepth 100000 in
theorem qk_M_14 : (((List.range 180).drop 112).take 8).all qMc = true := by decide +kernel
set_option maxRecDepth 100000 in
theorem qk_M_15 : (((List.range 180).drop 120).take 8).all qMc = true := by decide +kernel
set_option maxRecDepth 100000 in
theorem qk_M_16 : (((List.range 180).drop 128).take 8).all qMc = true := by decide +kernel
set_option maxRecDepth 100000 in
theorem qk_M_17 : (((List.range 180).drop 136).take 8).all qMc = true := by decide +kernel
set_option maxRecDepth 100000 in
theorem qk_M_18 : (((List.range 180).drop 144).take 8).all qMc = true := by decide +kernel
set_option maxRecDepth 100000 in
theorem qk_M_19 : (((List.range 180).drop 152).take 8).all qMc = true := by decide +kernel
set_option maxRecDepth 100000 in
theorem qk_M_20 : (((List.range 180).drop 160).take 8).all qMc = true := by decide +kernel
set_option maxRecDepth 100000 in
theorem qk_M_21 : (((List.range 180).drop 168).take 8).all qMc = true := by decide +kernel
set_option maxRecDepth 100000 in
theorem qk_M_22 : (((List.range 180).drop 176).take 8).all qMc = true := by decide +kernel
set_option maxRecDepth 100000 in
theorem qk_M_23 : ((List.range 180).drop 184).all qMc = true := by decide +kernel
theorem qk_M : (List.range 180).all qMc = true := by
  have h22 : ((List.range 180).drop 176).all qMc = true := qtd 8 qk_M_22 (by rw [List.drop_drop]; exact qk_M_23)
  have h21 : ((List.range 180).drop 168).all qMc = true := qtd 8 qk_M_21 (by rw [List.drop_drop]; exact h22)
  have h20 : ((List.range 180).drop 160).all qMc = true := qtd 8 qk_M_20 (by rw [List.drop_drop]; exact h21)
  have h19 : ((List.range 180).drop 152).all qMc = true := qtd 8 qk_M_19 (by rw [List.drop_drop]; exact h20)
  have h18 : ((List.range 180).drop 144).all qMc = true := qtd 8 qk_M_18 (by rw [List.drop_drop]; exact h19)
  have h17 : ((List.range 180).drop 136).all qMc = true := qtd 8 qk_M_17 (by rw [List.drop_drop]; exact h18)
  have h16 : ((List.range 180).drop 128).all qMc = true := qtd 8 qk_M_16 (by rw [List.drop_drop]; exact h17)
  have h15 : ((List.range 180).drop 120).all qMc = true := qtd 8 qk_M_15 (by rw [List.drop_drop]; exact h16)
  have h14 : ((List.range 180).drop 112).all qMc = true := qtd 8 qk_M_14 (by rw [List.drop_drop]; exact h15)
  have h13 : ((List.range 180).drop 104).all qMc = true := qtd 8 qk_M_13 (by rw [List.drop_drop]; exact h14)
  have h12 : ((List.range 180).drop 96).all qMc = true := qtd 8 qk_M_12 (by rw [List.drop_drop]; exact h13)
  have h11 : ((List.range 180).drop 88).all qMc = true := qtd 8 qk_M_11 (by rw [List.drop_drop]; exact h12)
  have h10 : ((List.range 180).drop 80).all qMc = true := qtd 8 qk_M_10 (by rw [List.drop_drop]; exact h11)
  have h9 : ((List.range 180).drop 72).all qMc = true := qtd 8 qk_M_9 (by rw [List.drop_drop]; exact h10)
  have h8 : ((List.range 180).drop 64).all qMc = true := qtd 8 qk_M_8 (by rw [List.drop_drop]; exact h9)
  have h7 : ((List.range 180).drop 56).all qMc = true := qtd 8 qk_M_7 (by rw [List.drop_drop]; exact h8)
  have h6 : ((List.range 180).drop 48).all qMc = true := qtd 8 qk_M_6 (by rw [List.drop_drop]; exact h7)
  have h5 : ((List.range 180).drop 40).all qMc = true := qtd 8 qk_M_5 (by rw [List.drop_drop]; exact h6)
  have h4 : ((List.range 180).drop 32).all qMc = true := qtd 8 qk_M_4 (by rw [List.drop_drop]; exact h5)
  have h3 : ((List.range 180).drop 24).all qMc = true := qtd 8 qk_M_3 (by rw [List.drop_drop]; exact h4)
  have h2 : ((List.range 180).drop 16).all qMc = true := qtd 8 qk_M_2 (by rw [List.drop_drop]; exact h3)
  have h1 : ((List.range 180).drop 8).all qMc = true := qtd 8 qk_M_1 (by rw [List.drop_drop]; exact h2)
  have h0 : ((List.range 180).drop 0).all qMc = true := qtd 8 qk_M_0 (by rw [List.drop_drop]; exact h1)
  exact h0
set_option maxRecDepth 100000 in
theorem qk_max : (qin (1, 50) (.static Lib.Math.max.name) && (qin (1, 4) (.initialized "java/lang/Math") && qin (1, 51) (.code Lib.Math.max.name Lib.Math.max.code 2 (some .int)))) = true := by decide +kernel
set_option maxRecDepth 100000 in
theorem qk_obj : (qin (1, 33) (.instanceMethod Lib.objectInit) && qin (1, 34) (.code Lib.objectInit ⟨#[0xb1]⟩ 1 none)) = true := by decide +kernel
set_option maxRecDepth 100000 in
theorem qk_arr : (qin (1, 64) (.arrayClass .int) && (qin (1, 88) (.arrayClass .byte) && qin (5, 158) (.arrayClass .long))) = true := by decide +kernel
set_option maxRecDepth 100000 in
theorem qk_cpy : (qin (1, 212) (.native arraycopyName) && (qin (1, 211) (.static arraycopyName) && qin (1, 16) (.initialized "java/lang/System"))) = true := by decide +kernel
