/-! The law on every script of at most six ints. -/
set_option maxRecDepth 100000 in
set_option maxHeartbeats 2000000 in
theorem law_pre (s : List Int32) (f : Bool) (d : Nat) : ∃ σF : qH, (σF.length = 147 ∧ qsz σF ≤ 40000) ∧ freshL σF ∧ ∀ o, GH (qxi s f) (d + 10) j_L_law 23 [(0, .ref 0), (1, .ref 16), (2, .ref 137), (3, .ref 146), (4, .int 0)] [] σF o → GH (qxi s f) (d + 10) j_L_law 0 (lv_args 0 [.ref 0]) [] qs0 o := by
  obtain ⟨σN, ⟨hlen, hqs⟩, fN, fB, gN⟩ := N_new s f (d + 3)
  have gM := c_M_init (ξ := qxi s f) (d + 8) σN 137 hlen.symm
  have e : ∀ (cs : qH) (k : Nat), (σN ++ cs)[137 + k]? = cs[k]? := fun cs k => by
    rw [← hlen]
    exact qA_get σN cs k
  obtain ⟨n1, n2, n3, n4, n5, n6⟩ := fN
  obtain ⟨b1, b2, b3, b4⟩ := fB
  obtain ⟨cM, hcM⟩ : ∃ z, z = cMod 137 := ⟨_, rfl⟩
  have hlM : (σN ++ cM).length = 146 := by
    rw [List.length_append, hlen, hcM]
    rfl
  have q0 := e cM 0
  have q1 := e cM 1
  have q2 := e cM 2
  have q4 := e cM 4
  rw [hcM] at q0 q1 q2 q4
  have rM : freshM (σN ++ cM) := by rw [hcM]; exact ⟨q0, q2⟩
  have r1 : (σN ++ cM)[138]? = some (.inr (.inr (.inl (List.replicate 7000 0)))) := by rw [hcM]; exact q1
  have r4 : (σN ++ cM)[141]? = some (.inr (.inl (0, List.replicate 40 0))) := by rw [hcM]; exact q4
  rw [← hcM] at gM
  refine ⟨(σN ++ cM) ++ ([.inr (.inr (.inl (List.replicate 1 0)))] : qH), ⟨by rw [List.length_append, hlM]; rfl, ?_⟩, ⟨⟨qs_push (qs_app n1), qs_push (qs_app n2), qs_push (qs_app n3), qs_push (qs_app n4), qs_push (qs_app n5), qs_push (qs_app n6)⟩, ⟨qs_push (qs_app b1), qs_push (qs_app b2), qs_push (qs_app b3), qs_push (qs_app b4)⟩, ⟨qs_push rM.1, qs_push rM.2⟩, ⟨_, List.length_replicate, qs_push r1⟩, qs_push r4, ?_, ?_⟩, fun o g => ?_⟩
  · rw [qsz_push, qsz_app, hcM]
    simp only [cMod, qsz_app, qsz_cons, qsz_nil, qcs, List.length_replicate, List.length_cons, List.length_nil]
    omega
  · rw [List.getElem?_append_right (by omega), hlM]
    rfl
  · rw [List.length_append, hlM]
    decide
  refine GH.alo rfl rfl rfl rfl rfl rfl ?_
  refine GH.go 1 (fun n => (rfl : _ = exh (qxi s f) n (d + 10) j_L_law 4 [(0, .ref 0)] [.ref qs0.length, .ref qs0.length] (qs0 ++ [.inl (0, qnew 0)]))) ?_
  refine GH.call (k := j_N_init) (as := [.ref qs0.length]) (r := [.ref qs0.length]) (v := none) rfl rfl rfl rfl rfl rfl rfl gN ?_
  refine GH.go 1 (fun n => (rfl : _ = exh (qxi s f) n (d + 10) j_L_law 8 [(0, .ref 0), (1, .ref 16)] [] σN)) ?_
  refine GH.alo rfl rfl rfl rfl rfl rfl ?_
  rw [hlen]
  refine GH.go 1 (fun n => (rfl : _ = exh (qxi s f) n (d + 10) j_L_law 12 [(0, .ref 0), (1, .ref 16)] [.ref 137, .ref 137] (σN ++ [.inl (7, qnew 7)]))) ?_
  refine GH.call (k := j_M_init) (as := [.ref 137]) (r := [.ref 137]) (v := none) rfl rfl rfl rfl rfl rfl rfl gM ?_
  refine GH.go 2 (fun n => (rfl : _ = exh (qxi s f) n (d + 10) j_L_law 17 [(0, .ref 0), (1, .ref 16), (2, .ref 137)] [.int 1] (σN ++ cM))) ?_
  refine GH.alo rfl rfl rfl rfl rfl rfl ?_
  rw [hlM]
  exact GH.go 3 (fun n => rfl) g
theorem law_short (s : List Int32) (f : Bool) (d : Nat) (σ : qH) (hs : s.length < 6) : GH (qxi s f) (d + 10) j_L_law 23 [(0, .ref 0), (1, .ref 16), (2, .ref 137), (3, .ref 146), (4, .int 0)] [] σ (some (.int 1), σ) := by
  refine GH.go 3 (fun n => (rfl : _ = exh (qxi s f) n (d + 10) j_L_law 27 [(0, .ref 0), (1, .ref 16), (2, .ref 137), (3, .ref 146), (4, .int 0)] [.int (Int32.ofNat s.length), .int 0] σ)) ?_
  refine GH.go 2 (fun n => (rfl : _ = exh (qxi s f) n (d + 10) j_L_law 30 [(0, .ref 0), (1, .ref 16), (2, .ref 137), (3, .ref 146), (4, .int 0)] [.int (Int32.ofNat s.length - 6), .int 0] σ)) ?_
  refine GH.go 1 (fun n => (rfl : _ = exh (qxi s f) n (d + 10) j_L_law (if Int32.ofNat s.length - 6 < 0 then 925 else 33) [(0, .ref 0), (1, .ref 16), (2, .ref 137), (3, .ref 146), (4, .int 0)] [] σ)) ?_
  have z6 : (6 : Int32).toInt = 6 := rfl
  have z0 : (0 : Int32).toInt = 0 := rfl
  rw [if_pos (by
    rw [Int32.lt_iff_toInt_lt, Jvm.Kit.i32_sub (by rw [n32 (by omega)]; omega) (by rw [n32 (by omega)]; omega), n32 (by omega)]
    omega)]
  exact GH.end 2 (fun n => rfl)
theorem allNM (w : Int64) : allN w ↔ allM w := by
  unfold allN allM
  rw [bq56, bq48, bq40, bq32, bq24, bq16, bq8, bq0]
theorem q_mask31 (x : Int32) : ∃ k : Nat, k < 32 ∧ x &&& 31 = Int32.ofNat k := by
  have h := Jvm.Kit.i32_mask x 31 (k := 5) (by decide) (by decide)
  have h0 : 0 ≤ (x &&& 31).toInt := by rw [h]; omega
  have h1 : (x &&& 31).toInt < 32 := by rw [h]; omega
  exact ⟨(x &&& 31).toInt.toNat, by omega, n32of h0⟩
set_option maxRecDepth 100000 in
set_option maxHeartbeats 4000000 in
theorem law_six (d : Nat) (a0 a1 a2 a3 a4 a5 : Int32) (f : Bool) (σ : qH) (hL : freshL σ) : ∃ σ9, sz 1 8010 σ σ9 ∧ GH (qxi [a0, a1, a2, a3, a4, a5] f) (d + 10) j_L_law 23 [(0, .ref 0), (1, .ref 16), (2, .ref 137), (3, .ref 146), (4, .int 0)] [] σ (some (.int 1), σ9) := by
  obtain ⟨k, hk, hm⟩ := q_mask31 a0
  have key : ∀ o, GH (qxi [a0, a1, a2, a3, a4, a5] f) (d + 10) j_L_law 40 [(0, .ref 0), (1, .ref 16), (2, .ref 137), (3, .ref 146), (4, .int 0)] [.int (Int32.ofNat k)] σ o → GH (qxi [a0, a1, a2, a3, a4, a5] f) (d + 10) j_L_law 23 [(0, .ref 0), (1, .ref 16), (2, .ref 137), (3, .ref 146), (4, .int 0)] [] σ o := by
    intro o g
    refine GH.go 3 (fun n => (rfl : _ = exh (qxi [a0, a1, a2, a3, a4, a5] f) n (d + 10) j_L_law 27 [(0, .ref 0), (1, .ref 16), (2, .ref 137), (3, .ref 146), (4, .int 0)] [.int (Int32.ofNat 6), .int 0] σ)) ?_
    refine GH.go 2 (fun n => (rfl : _ = exh (qxi [a0, a1, a2, a3, a4, a5] f) n (d + 10) j_L_law 30 [(0, .ref 0), (1, .ref 16), (2, .ref 137), (3, .ref 146), (4, .int 0)] [.int (Int32.ofNat 6 - 6), .int 0] σ)) ?_
    rw [show Int32.ofNat 6 - 6 = (0 : Int32) by decide]
    refine GH.go 1 (fun n => (rfl : _ = exh (qxi [a0, a1, a2, a3, a4, a5] f) n (d + 10) j_L_law (if (0 : Int32) < 0 then 925 else 33) [(0, .ref 0), (1, .ref 16), (2, .ref 137), (3, .ref 146), (4, .int 0)] [] σ)) ?_
    rw [if_neg (by decide)]
    refine GH.go 5 (fun n => (rfl : _ = exh (qxi [a0, a1, a2, a3, a4, a5] f) n (d + 10) j_L_law 40 [(0, .ref 0), (1, .ref 16), (2, .ref 137), (3, .ref 146), (4, .int 0)] [.int (a0 &&& 31)] σ)) ?_
    rw [hm]
    exact g
  have z0 : (0 : Int32).toInt = 0 := rfl
  have z1 : (1 : Int32).toInt = 1 := rfl
  have zm : (-1 : Int32).toInt = -1 := rfl
  clear hm
  match k, hk with
  | 0, _ =>
    obtain ⟨σ9, y, g⟩ := law_feed d a0 a1 a2 a3 a4 a5 f σ hL
    exact ⟨σ9, y, key _ (GH.go 1 (fun n => (rfl : _ = exh (qxi [a0, a1, a2, a3, a4, a5] f) n (d + 10) j_L_law 124 [(0, .ref 0), (1, .ref 16), (2, .ref 137), (3, .ref 146), (4, .int 0)] [] σ)) g)⟩
  | 1, _ =>
    by_cases c1 : a1 < 0
    · skip
      obtain ⟨σ9, y, g⟩ := law_end1 d a0 a1 a2 a3 a4 a5 f σ hL c1
      exact ⟨σ9, y, key _ (GH.go 1 (fun n => (rfl : _ = exh (qxi [a0, a1, a2, a3, a4, a5] f) n (d + 10) j_L_law 197 [(0, .ref 0), (1, .ref 16), (2, .ref 137), (3, .ref 146), (4, .int 0)] [] σ)) g)⟩
    · by_cases c2 : a1 ≤ 0
      · skip
        obtain ⟨σ9, y, g⟩ := law_end3 d a0 a1 a2 a3 a4 a5 f σ hL c1 c2 (Int32.not_lt.mpr c2)
        exact ⟨σ9, y, key _ (GH.go 1 (fun n => (rfl : _ = exh (qxi [a0, a1, a2, a3, a4, a5] f) n (d + 10) j_L_law 197 [(0, .ref 0), (1, .ref 16), (2, .ref 137), (3, .ref 146), (4, .int 0)] [] σ)) g)⟩
      · skip
        obtain ⟨σ9, y, g⟩ := law_end2 d a0 a1 a2 a3 a4 a5 f σ hL c1 c2 (Int32.not_le.mp c2)
        exact ⟨σ9, y, key _ (GH.go 1 (fun n => (rfl : _ = exh (qxi [a0, a1, a2, a3, a4, a5] f) n (d + 10) j_L_law 197 [(0, .ref 0), (1, .ref 16), (2, .ref 137), (3, .ref 146), (4, .int 0)] [] σ)) g)⟩
  | 2, _ =>
    obtain ⟨σ9, y, g⟩ := law_open d a0 a1 a2 a3 a4 a5 f σ hL
    exact ⟨σ9, y, key _ (GH.go 1 (fun n => (rfl : _ = exh (qxi [a0, a1, a2, a3, a4, a5] f) n (d + 10) j_L_law 222 [(0, .ref 0), (1, .ref 16), (2, .ref 137), (3, .ref 146), (4, .int 0)] [] σ)) g)⟩
  | 3, _ =>
    obtain ⟨σ9, y, g⟩ := law_fault d a0 a1 a2 a3 a4 a5 f σ hL
    exact ⟨σ9, y, key _ (GH.go 1 (fun n => (rfl : _ = exh (qxi [a0, a1, a2, a3, a4, a5] f) n (d + 10) j_L_law 266 [(0, .ref 0), (1, .ref 16), (2, .ref 137), (3, .ref 146), (4, .int 0)] [] σ)) g)⟩
  | 4, _ =>
    obtain ⟨σ9, y, g⟩ := law_place d a0 a1 a2 a3 a4 a5 f σ hL
    exact ⟨σ9, y, key _ (GH.go 1 (fun n => (rfl : _ = exh (qxi [a0, a1, a2, a3, a4, a5] f) n (d + 10) j_L_law 279 [(0, .ref 0), (1, .ref 16), (2, .ref 137), (3, .ref 146), (4, .int 0)] [] σ)) g)⟩
  | 5, _ =>
    by_cases c1 : a1 = (-1)
    · skip
      obtain ⟨σ9, y, g⟩ := law_count1 d a0 a1 a2 a3 a4 a5 f σ hL c1
      exact ⟨σ9, y, key _ (GH.go 1 (fun n => (rfl : _ = exh (qxi [a0, a1, a2, a3, a4, a5] f) n (d + 10) j_L_law 292 [(0, .ref 0), (1, .ref 16), (2, .ref 137), (3, .ref 146), (4, .int 0)] [] σ)) g)⟩
    · skip
      obtain ⟨σ9, y, g⟩ := law_count2 d a0 a1 a2 a3 a4 a5 f σ hL c1
      exact ⟨σ9, y, key _ (GH.go 1 (fun n => (rfl : _ = exh (qxi [a0, a1, a2, a3, a4, a5] f) n (d + 10) j_L_law 292 [(0, .ref 0), (1, .ref 16), (2, .ref 137), (3, .ref 146), (4, .int 0)] [] σ)) g)⟩
  | 6, _ =>
    obtain ⟨σ9, y, g⟩ := law_entry d a0 a1 a2 a3 a4 a5 f σ hL
    exact ⟨σ9, y, key _ (GH.go 1 (fun n => (rfl : _ = exh (qxi [a0, a1, a2, a3, a4, a5] f) n (d + 10) j_L_law 317 [(0, .ref 0), (1, .ref 16), (2, .ref 137), (3, .ref 146), (4, .int 0)] [] σ)) g)⟩
  | 7, _ =>
    obtain ⟨σ9, y, g⟩ := law_letter d a0 a1 a2 a3 a4 a5 f σ hL
    exact ⟨σ9, y, key _ (GH.go 1 (fun n => (rfl : _ = exh (qxi [a0, a1, a2, a3, a4, a5] f) n (d + 10) j_L_law 396 [(0, .ref 0), (1, .ref 16), (2, .ref 137), (3, .ref 146), (4, .int 0)] [] σ)) g)⟩
  | 8, _ =>
    by_cases c1 : allN (a1.toInt64 <<< ((32 : Int32).toInt64 &&& 63) ||| (a2.toInt64 &&& (4294967295 : Int64)))
    · skip
      obtain ⟨σ9, y, g⟩ := law_type1 d a0 a1 a2 a3 a4 a5 f σ hL c1 ((allNM _).mp c1)
      exact ⟨σ9, y, key _ (GH.go 1 (fun n => (rfl : _ = exh (qxi [a0, a1, a2, a3, a4, a5] f) n (d + 10) j_L_law 476 [(0, .ref 0), (1, .ref 16), (2, .ref 137), (3, .ref 146), (4, .int 0)] [] σ)) g)⟩
    · skip
      obtain ⟨σ9, y, g⟩ := law_type2 d a0 a1 a2 a3 a4 a5 f σ hL c1 (fun z => c1 ((allNM _).mpr z))
      exact ⟨σ9, y, key _ (GH.go 1 (fun n => (rfl : _ = exh (qxi [a0, a1, a2, a3, a4, a5] f) n (d + 10) j_L_law 476 [(0, .ref 0), (1, .ref 16), (2, .ref 137), (3, .ref 146), (4, .int 0)] [] σ)) g)⟩
  | 9, _ =>
    obtain ⟨σ9, y, g⟩ := law_number d a0 a1 a2 a3 a4 a5 f σ hL
    exact ⟨σ9, y, key _ (GH.go 1 (fun n => (rfl : _ = exh (qxi [a0, a1, a2, a3, a4, a5] f) n (d + 10) j_L_law 533 [(0, .ref 0), (1, .ref 16), (2, .ref 137), (3, .ref 146), (4, .int 0)] [] σ)) g)⟩
  | 10, _ =>
    by_cases c3 : a1 < 1
    · skip
      obtain ⟨σ9, y, g⟩ := law_find1 d a0 a1 a2 a3 a4 a5 f σ hL c3 (Int32.not_le.mpr c3)
      exact ⟨σ9, y, key _ (GH.go 1 (fun n => (rfl : _ = exh (qxi [a0, a1, a2, a3, a4, a5] f) n (d + 10) j_L_law 589 [(0, .ref 0), (1, .ref 16), (2, .ref 137), (3, .ref 146), (4, .int 0)] [] σ)) g)⟩
    · skip
      obtain ⟨σ9, y, g⟩ := law_find2 d a0 a1 a2 a3 a4 a5 f σ hL c3 (Int32.not_lt.mp c3) (by have := Int32.le_iff_toInt_le.mp (Int32.not_lt.mp c3); rw [Int32.lt_iff_toInt_lt]; omega)
      exact ⟨σ9, y, key _ (GH.go 1 (fun n => (rfl : _ = exh (qxi [a0, a1, a2, a3, a4, a5] f) n (d + 10) j_L_law 589 [(0, .ref 0), (1, .ref 16), (2, .ref 137), (3, .ref 146), (4, .int 0)] [] σ)) g)⟩
  | 11, _ =>
    obtain ⟨σ9, y, g⟩ := law_read d a0 a1 a2 a3 a4 a5 f σ hL
    exact ⟨σ9, y, key _ (GH.go 1 (fun n => (rfl : _ = exh (qxi [a0, a1, a2, a3, a4, a5] f) n (d + 10) j_L_law 645 [(0, .ref 0), (1, .ref 16), (2, .ref 137), (3, .ref 146), (4, .int 0)] [] σ)) g)⟩
  | 12, _ =>
    by_cases c1 : a1 < 0
    · skip
      obtain ⟨σ9, y, g⟩ := law_octet1 d a0 a1 a2 a3 a4 a5 f σ hL c1
      exact ⟨σ9, y, key _ (GH.go 1 (fun n => (rfl : _ = exh (qxi [a0, a1, a2, a3, a4, a5] f) n (d + 10) j_L_law 713 [(0, .ref 0), (1, .ref 16), (2, .ref 137), (3, .ref 146), (4, .int 0)] [] σ)) g)⟩
    · skip
      obtain ⟨σ9, y, g⟩ := law_octet2 d a0 a1 a2 a3 a4 a5 f σ hL c1 (Int32.not_lt.mp c1) (by have := Int32.le_iff_toInt_le.mp (Int32.not_lt.mp c1); rw [Int32.lt_iff_toInt_lt]; omega)
      exact ⟨σ9, y, key _ (GH.go 1 (fun n => (rfl : _ = exh (qxi [a0, a1, a2, a3, a4, a5] f) n (d + 10) j_L_law 713 [(0, .ref 0), (1, .ref 16), (2, .ref 137), (3, .ref 146), (4, .int 0)] [] σ)) g)⟩
  | 13, _ =>
    obtain ⟨σ9, y, g⟩ := law_mount d a0 a1 a2 a3 a4 a5 f σ hL
    exact ⟨σ9, y, key _ (GH.go 1 (fun n => (rfl : _ = exh (qxi [a0, a1, a2, a3, a4, a5] f) n (d + 10) j_L_law 738 [(0, .ref 0), (1, .ref 16), (2, .ref 137), (3, .ref 146), (4, .int 0)] [] σ)) g)⟩
  | 14, _ =>
    obtain ⟨σ9, y, g⟩ := law_index d a0 a1 a2 a3 a4 a5 f σ hL
    exact ⟨σ9, y, key _ (GH.go 1 (fun n => (rfl : _ = exh (qxi [a0, a1, a2, a3, a4, a5] f) n (d + 10) j_L_law 794 [(0, .ref 0), (1, .ref 16), (2, .ref 137), (3, .ref 146), (4, .int 0)] [] σ)) g)⟩
  | 15, _ =>
    obtain ⟨σ9, y, g⟩ := law_attribute d a0 a1 a2 a3 a4 a5 f σ hL
    exact ⟨σ9, y, key _ (GH.go 1 (fun n => (rfl : _ = exh (qxi [a0, a1, a2, a3, a4, a5] f) n (d + 10) j_L_law 838 [(0, .ref 0), (1, .ref 16), (2, .ref 137), (3, .ref 146), (4, .int 0)] [] σ)) g)⟩
  | 16, _ =>
    by_cases c1 : a1 < 0
    · skip
      obtain ⟨σ9, y, g⟩ := law_value1 d a0 a1 a2 a3 a4 a5 f σ hL c1
      exact ⟨σ9, y, key _ (GH.go 1 (fun n => (rfl : _ = exh (qxi [a0, a1, a2, a3, a4, a5] f) n (d + 10) j_L_law 894 [(0, .ref 0), (1, .ref 16), (2, .ref 137), (3, .ref 146), (4, .int 0)] [] σ)) g)⟩
    · skip
      obtain ⟨σ9, y, g⟩ := law_value2 d a0 a1 a2 a3 a4 a5 f σ hL c1 (Int32.not_lt.mp c1) (by have := Int32.le_iff_toInt_le.mp (Int32.not_lt.mp c1); rw [Int32.lt_iff_toInt_lt]; omega)
      exact ⟨σ9, y, key _ (GH.go 1 (fun n => (rfl : _ = exh (qxi [a0, a1, a2, a3, a4, a5] f) n (d + 10) j_L_law 894 [(0, .ref 0), (1, .ref 16), (2, .ref 137), (3, .ref 146), (4, .int 0)] [] σ)) g)⟩
  | 17, _ =>
    exact ⟨σ, sz.mono (sz.refl σ) (by decide) (by decide), key _ (GH.go 1 (fun n => (rfl : _ = exh (qxi [a0, a1, a2, a3, a4, a5] f) n (d + 10) j_L_law 919 [(0, .ref 0), (1, .ref 16), (2, .ref 137), (3, .ref 146), (4, .int 0)] [] σ)) (law_end d a0 a1 a2 a3 a4 a5 f σ [] (Or.inl rfl)))⟩
  | 18, _ =>
    exact ⟨σ, sz.mono (sz.refl σ) (by decide) (by decide), key _ (GH.go 1 (fun n => (rfl : _ = exh (qxi [a0, a1, a2, a3, a4, a5] f) n (d + 10) j_L_law 919 [(0, .ref 0), (1, .ref 16), (2, .ref 137), (3, .ref 146), (4, .int 0)] [] σ)) (law_end d a0 a1 a2 a3 a4 a5 f σ [] (Or.inl rfl)))⟩
  | 19, _ =>
    exact ⟨σ, sz.mono (sz.refl σ) (by decide) (by decide), key _ (GH.go 1 (fun n => (rfl : _ = exh (qxi [a0, a1, a2, a3, a4, a5] f) n (d + 10) j_L_law 919 [(0, .ref 0), (1, .ref 16), (2, .ref 137), (3, .ref 146), (4, .int 0)] [] σ)) (law_end d a0 a1 a2 a3 a4 a5 f σ [] (Or.inl rfl)))⟩
  | 20, _ =>
    exact ⟨σ, sz.mono (sz.refl σ) (by decide) (by decide), key _ (GH.go 1 (fun n => (rfl : _ = exh (qxi [a0, a1, a2, a3, a4, a5] f) n (d + 10) j_L_law 919 [(0, .ref 0), (1, .ref 16), (2, .ref 137), (3, .ref 146), (4, .int 0)] [] σ)) (law_end d a0 a1 a2 a3 a4 a5 f σ [] (Or.inl rfl)))⟩
  | 21, _ =>
    exact ⟨σ, sz.mono (sz.refl σ) (by decide) (by decide), key _ (GH.go 1 (fun n => (rfl : _ = exh (qxi [a0, a1, a2, a3, a4, a5] f) n (d + 10) j_L_law 919 [(0, .ref 0), (1, .ref 16), (2, .ref 137), (3, .ref 146), (4, .int 0)] [] σ)) (law_end d a0 a1 a2 a3 a4 a5 f σ [] (Or.inl rfl)))⟩
  | 22, _ =>
    exact ⟨σ, sz.mono (sz.refl σ) (by decide) (by decide), key _ (GH.go 1 (fun n => (rfl : _ = exh (qxi [a0, a1, a2, a3, a4, a5] f) n (d + 10) j_L_law 919 [(0, .ref 0), (1, .ref 16), (2, .ref 137), (3, .ref 146), (4, .int 0)] [] σ)) (law_end d a0 a1 a2 a3 a4 a5 f σ [] (Or.inl rfl)))⟩
  | 23, _ =>
    exact ⟨σ, sz.mono (sz.refl σ) (by decide) (by decide), key _ (GH.go 1 (fun n => (rfl : _ = exh (qxi [a0, a1, a2, a3, a4, a5] f) n (d + 10) j_L_law 919 [(0, .ref 0), (1, .ref 16), (2, .ref 137), (3, .ref 146), (4, .int 0)] [] σ)) (law_end d a0 a1 a2 a3 a4 a5 f σ [] (Or.inl rfl)))⟩
  | 24, _ =>
    exact ⟨σ, sz.mono (sz.refl σ) (by decide) (by decide), key _ (GH.go 1 (fun n => (rfl : _ = exh (qxi [a0, a1, a2, a3, a4, a5] f) n (d + 10) j_L_law 919 [(0, .ref 0), (1, .ref 16), (2, .ref 137), (3, .ref 146), (4, .int 0)] [] σ)) (law_end d a0 a1 a2 a3 a4 a5 f σ [] (Or.inl rfl)))⟩
  | 25, _ =>
    exact ⟨σ, sz.mono (sz.refl σ) (by decide) (by decide), key _ (GH.go 1 (fun n => (rfl : _ = exh (qxi [a0, a1, a2, a3, a4, a5] f) n (d + 10) j_L_law 919 [(0, .ref 0), (1, .ref 16), (2, .ref 137), (3, .ref 146), (4, .int 0)] [] σ)) (law_end d a0 a1 a2 a3 a4 a5 f σ [] (Or.inl rfl)))⟩
  | 26, _ =>
    exact ⟨σ, sz.mono (sz.refl σ) (by decide) (by decide), key _ (GH.go 1 (fun n => (rfl : _ = exh (qxi [a0, a1, a2, a3, a4, a5] f) n (d + 10) j_L_law 919 [(0, .ref 0), (1, .ref 16), (2, .ref 137), (3, .ref 146), (4, .int 0)] [] σ)) (law_end d a0 a1 a2 a3 a4 a5 f σ [] (Or.inl rfl)))⟩
  | 27, _ =>
    exact ⟨σ, sz.mono (sz.refl σ) (by decide) (by decide), key _ (GH.go 1 (fun n => (rfl : _ = exh (qxi [a0, a1, a2, a3, a4, a5] f) n (d + 10) j_L_law 919 [(0, .ref 0), (1, .ref 16), (2, .ref 137), (3, .ref 146), (4, .int 0)] [] σ)) (law_end d a0 a1 a2 a3 a4 a5 f σ [] (Or.inl rfl)))⟩
  | 28, _ =>
    exact ⟨σ, sz.mono (sz.refl σ) (by decide) (by decide), key _ (GH.go 1 (fun n => (rfl : _ = exh (qxi [a0, a1, a2, a3, a4, a5] f) n (d + 10) j_L_law 919 [(0, .ref 0), (1, .ref 16), (2, .ref 137), (3, .ref 146), (4, .int 0)] [] σ)) (law_end d a0 a1 a2 a3 a4 a5 f σ [] (Or.inl rfl)))⟩
  | 29, _ =>
    exact ⟨σ, sz.mono (sz.refl σ) (by decide) (by decide), key _ (GH.go 1 (fun n => (rfl : _ = exh (qxi [a0, a1, a2, a3, a4, a5] f) n (d + 10) j_L_law 919 [(0, .ref 0), (1, .ref 16), (2, .ref 137), (3, .ref 146), (4, .int 0)] [] σ)) (law_end d a0 a1 a2 a3 a4 a5 f σ [] (Or.inl rfl)))⟩
  | 30, _ =>
    exact ⟨σ, sz.mono (sz.refl σ) (by decide) (by decide), key _ (GH.go 1 (fun n => (rfl : _ = exh (qxi [a0, a1, a2, a3, a4, a5] f) n (d + 10) j_L_law 919 [(0, .ref 0), (1, .ref 16), (2, .ref 137), (3, .ref 146), (4, .int 0)] [] σ)) (law_end d a0 a1 a2 a3 a4 a5 f σ [] (Or.inl rfl)))⟩
  | 31, _ =>
    exact ⟨σ, sz.mono (sz.refl σ) (by decide) (by decide), key _ (GH.go 1 (fun n => (rfl : _ = exh (qxi [a0, a1, a2, a3, a4, a5] f) n (d + 10) j_L_law 919 [(0, .ref 0), (1, .ref 16), (2, .ref 137), (3, .ref 146), (4, .int 0)] [] σ)) (law_end d a0 a1 a2 a3 a4 a5 f σ [] (Or.inl rfl)))⟩
  | n + 32, h => exact absurd h (by omega)
/-- the law answers true on every script of at most six ints -/
theorem law_true (s : List Int32) (f : Bool) (d : Nat) (hs : s.length ≤ 6) : ∃ σ9, (σ9.length ≤ 148 ∧ qsz σ9 ≤ 50000) ∧ GH (qxi s f) (d + 10) j_L_law 0 (lv_args 0 [.ref 0]) [] qs0 (some (.int 1), σ9) := by
  obtain ⟨σF, ⟨y1, y2⟩, hL, h⟩ := law_pre s f d
  by_cases h6 : s.length < 6
  · exact ⟨σF, ⟨by omega, by omega⟩, h _ (law_short s f d σF h6)⟩
  · match s, hs, h6, h with
    | [a0, a1, a2, a3, a4, a5], _, _, h =>
      obtain ⟨σ9, ⟨z1, z2⟩, g⟩ := law_six d a0 a1 a2 a3 a4 a5 f σF hL
      exact ⟨σ9, ⟨by omega, by omega⟩, h _ g⟩
    | [], _, h6, _ => exact absurd (by decide) h6
    | [_], _, h6, _ => exact absurd (by simp) h6
    | [_, _], _, h6, _ => exact absurd (by simp) h6
    | [_, _, _], _, h6, _ => exact absurd (by simp) h6
    | [_, _, _, _], _, h6, _ => exact absurd (by simp) h6
    | [_, _, _, _, _], _, h6, _ => exact absurd (by simp) h6
    | _ :: _ :: _ :: _ :: _ :: _ :: _ :: _, h7, _, _ => exact absurd h7 (by simp)
