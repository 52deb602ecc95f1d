/-! One call of the law on fresh objects. -/
def freshL (σ : qH) : Prop := freshN σ ∧ freshB σ ∧ freshM σ ∧ (∃ lc : List Int64, lc.length = 7000 ∧ σ[138]? = some (.inr (.inr (.inl lc)))) ∧ σ[141]? = some (.inr (.inl (0, List.replicate 40 0))) ∧ σ[146]? = some (.inr (.inr (.inl [0]))) ∧ qnE ≤ σ.length
set_option maxRecDepth 100000 in
theorem law_end (d : Nat) (a0 a1 a2 a3 a4 a5 : Int32) (f : Bool) (σ : qH) (ex : qLV) (hex : ex = [] ∨ (∃ u v : Int32, ex = [(5, .int u), (6, .int v)]) ∨ ∃ (u : Int32) (v : Int64), ex = [(5, .int u), (6, .long v)]) : GH (qxi [a0, a1, a2, a3, a4, a5] f) (d + 10) j_L_law 919 ([(0, .ref 0), (1, .ref 16), (2, .ref 137), (3, .ref 146), (4, .int 0)] ++ ex) [] σ (some (.int 1), σ) := by
  rcases hex with rfl | ⟨u, v, rfl⟩ | ⟨u, v, rfl⟩
  · refine GH.go 2 (fun n => (rfl : _ = exh (qxi [a0, a1, a2, a3, a4, a5] f) n (d + 10) j_L_law 23 [(0, .ref 0), (1, .ref 16), (2, .ref 137), (3, .ref 146), (4, .int 6)] [] σ)) ?_
    refine GH.go 3 (fun n => (rfl : _ = exh (qxi [a0, a1, a2, a3, a4, a5] f) n (d + 10) j_L_law 27 [(0, .ref 0), (1, .ref 16), (2, .ref 137), (3, .ref 146), (4, .int 6)] [.int (Int32.ofNat 6), .int 6] σ)) ?_
    refine GH.go 2 (fun n => (rfl : _ = exh (qxi [a0, a1, a2, a3, a4, a5] f) n (d + 10) j_L_law 30 [(0, .ref 0), (1, .ref 16), (2, .ref 137), (3, .ref 146), (4, .int 6)] [.int (Int32.ofNat 6 - 6), .int 6] σ)) ?_
    rw [show Int32.ofNat 6 - 6 = (0 : Int32) by decide]
    refine GH.go 1 (fun n => (rfl : _ = exh (qxi [a0, a1, a2, a3, a4, a5] f) n (d + 10) j_L_law (if (0 : Int32) < 6 then 925 else 33) [(0, .ref 0), (1, .ref 16), (2, .ref 137), (3, .ref 146), (4, .int 6)] [] σ)) ?_
    rw [if_pos (by decide)]
    exact GH.end 2 (fun n => rfl)
  · refine GH.go 2 (fun n => (rfl : _ = exh (qxi [a0, a1, a2, a3, a4, a5] f) n (d + 10) j_L_law 23 [(0, .ref 0), (1, .ref 16), (2, .ref 137), (3, .ref 146), (4, .int 6), (5, .int u), (6, .int v)] [] σ)) ?_
    refine GH.go 3 (fun n => (rfl : _ = exh (qxi [a0, a1, a2, a3, a4, a5] f) n (d + 10) j_L_law 27 [(0, .ref 0), (1, .ref 16), (2, .ref 137), (3, .ref 146), (4, .int 6), (5, .int u), (6, .int v)] [.int (Int32.ofNat 6), .int 6] σ)) ?_
    refine GH.go 2 (fun n => (rfl : _ = exh (qxi [a0, a1, a2, a3, a4, a5] f) n (d + 10) j_L_law 30 [(0, .ref 0), (1, .ref 16), (2, .ref 137), (3, .ref 146), (4, .int 6), (5, .int u), (6, .int v)] [.int (Int32.ofNat 6 - 6), .int 6] σ)) ?_
    rw [show Int32.ofNat 6 - 6 = (0 : Int32) by decide]
    refine GH.go 1 (fun n => (rfl : _ = exh (qxi [a0, a1, a2, a3, a4, a5] f) n (d + 10) j_L_law (if (0 : Int32) < 6 then 925 else 33) [(0, .ref 0), (1, .ref 16), (2, .ref 137), (3, .ref 146), (4, .int 6), (5, .int u), (6, .int v)] [] σ)) ?_
    rw [if_pos (by decide)]
    exact GH.end 2 (fun n => rfl)
  · refine GH.go 2 (fun n => (rfl : _ = exh (qxi [a0, a1, a2, a3, a4, a5] f) n (d + 10) j_L_law 23 [(0, .ref 0), (1, .ref 16), (2, .ref 137), (3, .ref 146), (4, .int 6), (5, .int u), (6, .long v)] [] σ)) ?_
    refine GH.go 3 (fun n => (rfl : _ = exh (qxi [a0, a1, a2, a3, a4, a5] f) n (d + 10) j_L_law 27 [(0, .ref 0), (1, .ref 16), (2, .ref 137), (3, .ref 146), (4, .int 6), (5, .int u), (6, .long v)] [.int (Int32.ofNat 6), .int 6] σ)) ?_
    refine GH.go 2 (fun n => (rfl : _ = exh (qxi [a0, a1, a2, a3, a4, a5] f) n (d + 10) j_L_law 30 [(0, .ref 0), (1, .ref 16), (2, .ref 137), (3, .ref 146), (4, .int 6), (5, .int u), (6, .long v)] [.int (Int32.ofNat 6 - 6), .int 6] σ)) ?_
    rw [show Int32.ofNat 6 - 6 = (0 : Int32) by decide]
    refine GH.go 1 (fun n => (rfl : _ = exh (qxi [a0, a1, a2, a3, a4, a5] f) n (d + 10) j_L_law (if (0 : Int32) < 6 then 925 else 33) [(0, .ref 0), (1, .ref 16), (2, .ref 137), (3, .ref 146), (4, .int 6), (5, .int u), (6, .long v)] [] σ)) ?_
    rw [if_pos (by decide)]
    exact GH.end 2 (fun n => rfl)
set_option maxHeartbeats 2000000 in
theorem law_fault (d : Nat) (a0 a1 a2 a3 a4 a5 : Int32) (f : Bool) (σ : qH) (hL : freshL σ) : ∃ σ9, sz 1 8010 σ σ9 ∧ GH (qxi [a0, a1, a2, a3, a4, a5] f) (d + 10) j_L_law 266 [(0, .ref 0), (1, .ref 16), (2, .ref 137), (3, .ref 146), (4, .int 0)] [] σ (some (.int 1), σ9) := by
  obtain ⟨hN, hB, hM, ⟨lc, hlc, h138⟩, h141, hout, hσ⟩ := hL
  obtain ⟨σ1, ⟨k1, y1⟩, g1⟩ := pN_fault (ξ := (qxi [a0, a1, a2, a3, a4, a5] f)) (d + 1) σ hN
  have hM1 : freshM σ1 := ⟨k1 137 _ (by decide) hM.1, k1 139 _ (by decide) hM.2⟩
  have h1381 := k1 138 _ (by decide) h138
  have h1411 := k1 141 _ (by decide) h141
  have hout1 := k1 146 _ (by decide) hout
  obtain ⟨σ2, fs, c2, ⟨o2, y2⟩, g2⟩ := pM_fault (ξ := (qxi [a0, a1, a2, a3, a4, a5] f)) (d + 1) σ1 hM1
  have hout2 := o2 _ hout1
  refine ⟨σ2, sz.trans y1 y2, ?_⟩
  refine GH.go 1 (fun n => (rfl : _ = exh (qxi [a0, a1, a2, a3, a4, a5] f) n (d + 10) j_L_law 267 [(0, .ref 0), (1, .ref 16), (2, .ref 137), (3, .ref 146), (4, .int 0)] [.ref 16] σ)) ?_
  refine GH.call (k := j_N_fault) (as := [.ref 16]) (r := []) (v := some (.int 0)) (σ1 := σ1) rfl rfl rfl rfl rfl rfl ?_ ?_ ?_
  · show (bif qrc _ 16 j_N_fault && _ then _ else _) = _
    rw [qrc_at rfl hN.1 rfl]
    rfl
  · exact g1
  refine GH.go 1 (fun n => (rfl : _ = exh (qxi [a0, a1, a2, a3, a4, a5] f) n (d + 10) j_L_law 271 [(0, .ref 0), (1, .ref 16), (2, .ref 137), (3, .ref 146), (4, .int 0)] [.ref 137, .int 0] σ1)) ?_
  refine GH.call (k := j_M_fault) (as := [.ref 137]) (r := [.int 0]) (v := some (.int 0)) (σ1 := σ2) rfl rfl rfl rfl rfl rfl ?_ ?_ ?_
  · show (bif qrc _ 137 j_M_fault && _ then _ else _) = _
    rw [qrc_at rfl hM1.1 rfl]
    rfl
  · exact g2
  refine GH.go 1 (fun n => (rfl : _ = exh (qxi [a0, a1, a2, a3, a4, a5] f) n (d + 10) j_L_law 919 [(0, .ref 0), (1, .ref 16), (2, .ref 137), (3, .ref 146), (4, .int 0)] [] σ2)) ?_
  exact law_end d a0 a1 a2 a3 a4 a5 f σ2 [] (Or.inl rfl)
set_option maxHeartbeats 2000000 in
theorem law_place (d : Nat) (a0 a1 a2 a3 a4 a5 : Int32) (f : Bool) (σ : qH) (hL : freshL σ) : ∃ σ9, sz 1 8010 σ σ9 ∧ GH (qxi [a0, a1, a2, a3, a4, a5] f) (d + 10) j_L_law 279 [(0, .ref 0), (1, .ref 16), (2, .ref 137), (3, .ref 146), (4, .int 0)] [] σ (some (.int 1), σ9) := by
  obtain ⟨hN, hB, hM, ⟨lc, hlc, h138⟩, h141, hout, hσ⟩ := hL
  obtain ⟨σ1, ⟨k1, y1⟩, g1⟩ := pN_place (ξ := (qxi [a0, a1, a2, a3, a4, a5] f)) (d + 1) σ hN
  have hM1 : freshM σ1 := ⟨k1 137 _ (by decide) hM.1, k1 139 _ (by decide) hM.2⟩
  have h1381 := k1 138 _ (by decide) h138
  have h1411 := k1 141 _ (by decide) h141
  have hout1 := k1 146 _ (by decide) hout
  obtain ⟨σ2, fs, c2, ⟨o2, y2⟩, g2⟩ := pM_place (ξ := (qxi [a0, a1, a2, a3, a4, a5] f)) (d + 1) σ1 hM1
  have hout2 := o2 _ hout1
  refine ⟨σ2, sz.trans y1 y2, ?_⟩
  refine GH.go 1 (fun n => (rfl : _ = exh (qxi [a0, a1, a2, a3, a4, a5] f) n (d + 10) j_L_law 280 [(0, .ref 0), (1, .ref 16), (2, .ref 137), (3, .ref 146), (4, .int 0)] [.ref 16] σ)) ?_
  refine GH.call (k := j_N_place) (as := [.ref 16]) (r := []) (v := some (.int (-1))) (σ1 := σ1) rfl rfl rfl rfl rfl rfl ?_ ?_ ?_
  · show (bif qrc _ 16 j_N_place && _ then _ else _) = _
    rw [qrc_at rfl hN.1 rfl]
    rfl
  · exact g1
  refine GH.go 1 (fun n => (rfl : _ = exh (qxi [a0, a1, a2, a3, a4, a5] f) n (d + 10) j_L_law 284 [(0, .ref 0), (1, .ref 16), (2, .ref 137), (3, .ref 146), (4, .int 0)] [.ref 137, .int (-1)] σ1)) ?_
  refine GH.call (k := j_M_place) (as := [.ref 137]) (r := [.int (-1)]) (v := some (.int (-1))) (σ1 := σ2) rfl rfl rfl rfl rfl rfl ?_ ?_ ?_
  · show (bif qrc _ 137 j_M_place && _ then _ else _) = _
    rw [qrc_at rfl hM1.1 rfl]
    rfl
  · exact g2
  refine GH.go 1 (fun n => (rfl : _ = exh (qxi [a0, a1, a2, a3, a4, a5] f) n (d + 10) j_L_law 919 [(0, .ref 0), (1, .ref 16), (2, .ref 137), (3, .ref 146), (4, .int 0)] [] σ2)) ?_
  exact law_end d a0 a1 a2 a3 a4 a5 f σ2 [] (Or.inl rfl)
set_option maxHeartbeats 2000000 in
theorem law_count1 (d : Nat) (a0 a1 a2 a3 a4 a5 : Int32) (f : Bool) (σ : qH) (hL : freshL σ) (c1 : a1 = (-1)) : ∃ σ9, sz 1 8010 σ σ9 ∧ GH (qxi [a0, a1, a2, a3, a4, a5] f) (d + 10) j_L_law 292 [(0, .ref 0), (1, .ref 16), (2, .ref 137), (3, .ref 146), (4, .int 0)] [] σ (some (.int 1), σ9) := by
  obtain ⟨hN, hB, hM, ⟨lc, hlc, h138⟩, h141, hout, hσ⟩ := hL
  obtain ⟨σ1, ⟨k1, y1⟩, g1⟩ := pN_count1 (ξ := (qxi [a0, a1, a2, a3, a4, a5] f)) (d + 1) a1 σ hN c1
  have hM1 : freshM σ1 := ⟨k1 137 _ (by decide) hM.1, k1 139 _ (by decide) hM.2⟩
  have h1381 := k1 138 _ (by decide) h138
  have h1411 := k1 141 _ (by decide) h141
  have hout1 := k1 146 _ (by decide) hout
  obtain ⟨σ2, fs, c2, ⟨o2, y2⟩, g2⟩ := pM_count1 (ξ := (qxi [a0, a1, a2, a3, a4, a5] f)) (d + 1) a1 σ1 hM1 c1
  have hout2 := o2 _ hout1
  refine ⟨σ2, sz.trans y1 y2, ?_⟩
  refine GH.go 6 (fun n => (rfl : _ = exh (qxi [a0, a1, a2, a3, a4, a5] f) n (d + 10) j_L_law 299 [(0, .ref 0), (1, .ref 16), (2, .ref 137), (3, .ref 146), (4, .int 0)] [.int a1, .ref 16] σ)) ?_
  refine GH.call (k := j_N_count) (as := [.ref 16, .int a1]) (r := []) (v := some (.int 0)) (σ1 := σ1) rfl rfl rfl rfl rfl rfl ?_ ?_ ?_
  · show (bif qrc _ 16 j_N_count && _ then _ else _) = _
    rw [qrc_at rfl hN.1 rfl]
    rfl
  · exact g1
  refine GH.go 6 (fun n => (rfl : _ = exh (qxi [a0, a1, a2, a3, a4, a5] f) n (d + 10) j_L_law 309 [(0, .ref 0), (1, .ref 16), (2, .ref 137), (3, .ref 146), (4, .int 0)] [.int a1, .ref 137, .int 0] σ1)) ?_
  refine GH.call (k := j_M_count) (as := [.ref 137, .int a1]) (r := [.int 0]) (v := some (.int 0)) (σ1 := σ2) rfl rfl rfl rfl rfl rfl ?_ ?_ ?_
  · show (bif qrc _ 137 j_M_count && _ then _ else _) = _
    rw [qrc_at rfl hM1.1 rfl]
    rfl
  · exact g2
  refine GH.go 1 (fun n => (rfl : _ = exh (qxi [a0, a1, a2, a3, a4, a5] f) n (d + 10) j_L_law 919 [(0, .ref 0), (1, .ref 16), (2, .ref 137), (3, .ref 146), (4, .int 0)] [] σ2)) ?_
  exact law_end d a0 a1 a2 a3 a4 a5 f σ2 [] (Or.inl rfl)
set_option maxHeartbeats 2000000 in
theorem law_count2 (d : Nat) (a0 a1 a2 a3 a4 a5 : Int32) (f : Bool) (σ : qH) (hL : freshL σ) (c1 : ¬ a1 = (-1)) : ∃ σ9, sz 1 8010 σ σ9 ∧ GH (qxi [a0, a1, a2, a3, a4, a5] f) (d + 10) j_L_law 292 [(0, .ref 0), (1, .ref 16), (2, .ref 137), (3, .ref 146), (4, .int 0)] [] σ (some (.int 1), σ9) := by
  obtain ⟨hN, hB, hM, ⟨lc, hlc, h138⟩, h141, hout, hσ⟩ := hL
  obtain ⟨σ1, ⟨k1, y1⟩, g1⟩ := pN_count2 (ξ := (qxi [a0, a1, a2, a3, a4, a5] f)) (d + 1) a1 σ hN c1
  have hM1 : freshM σ1 := ⟨k1 137 _ (by decide) hM.1, k1 139 _ (by decide) hM.2⟩
  have h1381 := k1 138 _ (by decide) h138
  have h1411 := k1 141 _ (by decide) h141
  have hout1 := k1 146 _ (by decide) hout
  obtain ⟨σ2, fs, c2, ⟨o2, y2⟩, g2⟩ := pM_count2 (ξ := (qxi [a0, a1, a2, a3, a4, a5] f)) (d + 1) a1 σ1 hM1 c1
  have hout2 := o2 _ hout1
  refine ⟨σ2, sz.trans y1 y2, ?_⟩
  refine GH.go 6 (fun n => (rfl : _ = exh (qxi [a0, a1, a2, a3, a4, a5] f) n (d + 10) j_L_law 299 [(0, .ref 0), (1, .ref 16), (2, .ref 137), (3, .ref 146), (4, .int 0)] [.int a1, .ref 16] σ)) ?_
  refine GH.call (k := j_N_count) (as := [.ref 16, .int a1]) (r := []) (v := some (.int (-1))) (σ1 := σ1) rfl rfl rfl rfl rfl rfl ?_ ?_ ?_
  · show (bif qrc _ 16 j_N_count && _ then _ else _) = _
    rw [qrc_at rfl hN.1 rfl]
    rfl
  · exact g1
  refine GH.go 6 (fun n => (rfl : _ = exh (qxi [a0, a1, a2, a3, a4, a5] f) n (d + 10) j_L_law 309 [(0, .ref 0), (1, .ref 16), (2, .ref 137), (3, .ref 146), (4, .int 0)] [.int a1, .ref 137, .int (-1)] σ1)) ?_
  refine GH.call (k := j_M_count) (as := [.ref 137, .int a1]) (r := [.int (-1)]) (v := some (.int (-1))) (σ1 := σ2) rfl rfl rfl rfl rfl rfl ?_ ?_ ?_
  · show (bif qrc _ 137 j_M_count && _ then _ else _) = _
    rw [qrc_at rfl hM1.1 rfl]
    rfl
  · exact g2
  refine GH.go 1 (fun n => (rfl : _ = exh (qxi [a0, a1, a2, a3, a4, a5] f) n (d + 10) j_L_law 919 [(0, .ref 0), (1, .ref 16), (2, .ref 137), (3, .ref 146), (4, .int 0)] [] σ2)) ?_
  exact law_end d a0 a1 a2 a3 a4 a5 f σ2 [] (Or.inl rfl)
set_option maxHeartbeats 2000000 in
theorem law_end1 (d : Nat) (a0 a1 a2 a3 a4 a5 : Int32) (f : Bool) (σ : qH) (hL : freshL σ) (c1 : a1 < 0) : ∃ σ9, sz 1 8010 σ σ9 ∧ GH (qxi [a0, a1, a2, a3, a4, a5] f) (d + 10) j_L_law 197 [(0, .ref 0), (1, .ref 16), (2, .ref 137), (3, .ref 146), (4, .int 0)] [] σ (some (.int 1), σ9) := by
  obtain ⟨hN, hB, hM, ⟨lc, hlc, h138⟩, h141, hout, hσ⟩ := hL
  obtain ⟨σ1, ⟨k1, y1⟩, g1⟩ := pN_end1 (ξ := (qxi [a0, a1, a2, a3, a4, a5] f)) (d + 1) a1 σ hN c1
  have hM1 : freshM σ1 := ⟨k1 137 _ (by decide) hM.1, k1 139 _ (by decide) hM.2⟩
  have h1381 := k1 138 _ (by decide) h138
  have h1411 := k1 141 _ (by decide) h141
  have hout1 := k1 146 _ (by decide) hout
  obtain ⟨σ2, fs, c2, ⟨o2, y2⟩, g2⟩ := pM_end1 (ξ := (qxi [a0, a1, a2, a3, a4, a5] f)) (d + 1) a1 σ1 hM1 c1
  have hout2 := o2 _ hout1
  refine ⟨σ2, sz.trans y1 y2, ?_⟩
  refine GH.go 6 (fun n => (rfl : _ = exh (qxi [a0, a1, a2, a3, a4, a5] f) n (d + 10) j_L_law 204 [(0, .ref 0), (1, .ref 16), (2, .ref 137), (3, .ref 146), (4, .int 0)] [.int a1, .ref 16] σ)) ?_
  refine GH.call (k := j_N_end) (as := [.ref 16, .int a1]) (r := []) (v := some (.int 0)) (σ1 := σ1) rfl rfl rfl rfl rfl rfl ?_ ?_ ?_
  · show (bif qrc _ 16 j_N_end && _ then _ else _) = _
    rw [qrc_at rfl hN.1 rfl]
    rfl
  · exact g1
  refine GH.go 6 (fun n => (rfl : _ = exh (qxi [a0, a1, a2, a3, a4, a5] f) n (d + 10) j_L_law 214 [(0, .ref 0), (1, .ref 16), (2, .ref 137), (3, .ref 146), (4, .int 0)] [.int a1, .ref 137, .int 0] σ1)) ?_
  refine GH.call (k := j_M_end) (as := [.ref 137, .int a1]) (r := [.int 0]) (v := some (.int 0)) (σ1 := σ2) rfl rfl rfl rfl rfl rfl ?_ ?_ ?_
  · show (bif qrc _ 137 j_M_end && _ then _ else _) = _
    rw [qrc_at rfl hM1.1 rfl]
    rfl
  · exact g2
  refine GH.go 1 (fun n => (rfl : _ = exh (qxi [a0, a1, a2, a3, a4, a5] f) n (d + 10) j_L_law 919 [(0, .ref 0), (1, .ref 16), (2, .ref 137), (3, .ref 146), (4, .int 0)] [] σ2)) ?_
  exact law_end d a0 a1 a2 a3 a4 a5 f σ2 [] (Or.inl rfl)
set_option maxHeartbeats 2000000 in
theorem law_end2 (d : Nat) (a0 a1 a2 a3 a4 a5 : Int32) (f : Bool) (σ : qH) (hL : freshL σ) (c1 : ¬ a1 < 0) (c2 : ¬ a1 ≤ 0) (c3 : 0 < a1) : ∃ σ9, sz 1 8010 σ σ9 ∧ GH (qxi [a0, a1, a2, a3, a4, a5] f) (d + 10) j_L_law 197 [(0, .ref 0), (1, .ref 16), (2, .ref 137), (3, .ref 146), (4, .int 0)] [] σ (some (.int 1), σ9) := by
  obtain ⟨hN, hB, hM, ⟨lc, hlc, h138⟩, h141, hout, hσ⟩ := hL
  obtain ⟨σ1, ⟨k1, y1⟩, g1⟩ := pN_end2 (ξ := (qxi [a0, a1, a2, a3, a4, a5] f)) (d + 1) a1 σ hN c1 c2
  have hM1 : freshM σ1 := ⟨k1 137 _ (by decide) hM.1, k1 139 _ (by decide) hM.2⟩
  have h1381 := k1 138 _ (by decide) h138
  have h1411 := k1 141 _ (by decide) h141
  have hout1 := k1 146 _ (by decide) hout
  obtain ⟨σ2, fs, c2, ⟨o2, y2⟩, g2⟩ := pM_end2 (ξ := (qxi [a0, a1, a2, a3, a4, a5] f)) (d + 1) a1 σ1 hM1 c1 c3
  have hout2 := o2 _ hout1
  refine ⟨σ2, sz.trans y1 y2, ?_⟩
  refine GH.go 6 (fun n => (rfl : _ = exh (qxi [a0, a1, a2, a3, a4, a5] f) n (d + 10) j_L_law 204 [(0, .ref 0), (1, .ref 16), (2, .ref 137), (3, .ref 146), (4, .int 0)] [.int a1, .ref 16] σ)) ?_
  refine GH.call (k := j_N_end) (as := [.ref 16, .int a1]) (r := []) (v := some (.int 0)) (σ1 := σ1) rfl rfl rfl rfl rfl rfl ?_ ?_ ?_
  · show (bif qrc _ 16 j_N_end && _ then _ else _) = _
    rw [qrc_at rfl hN.1 rfl]
    rfl
  · exact g1
  refine GH.go 6 (fun n => (rfl : _ = exh (qxi [a0, a1, a2, a3, a4, a5] f) n (d + 10) j_L_law 214 [(0, .ref 0), (1, .ref 16), (2, .ref 137), (3, .ref 146), (4, .int 0)] [.int a1, .ref 137, .int 0] σ1)) ?_
  refine GH.call (k := j_M_end) (as := [.ref 137, .int a1]) (r := [.int 0]) (v := some (.int 0)) (σ1 := σ2) rfl rfl rfl rfl rfl rfl ?_ ?_ ?_
  · show (bif qrc _ 137 j_M_end && _ then _ else _) = _
    rw [qrc_at rfl hM1.1 rfl]
    rfl
  · exact g2
  refine GH.go 1 (fun n => (rfl : _ = exh (qxi [a0, a1, a2, a3, a4, a5] f) n (d + 10) j_L_law 919 [(0, .ref 0), (1, .ref 16), (2, .ref 137), (3, .ref 146), (4, .int 0)] [] σ2)) ?_
  exact law_end d a0 a1 a2 a3 a4 a5 f σ2 [] (Or.inl rfl)
set_option maxHeartbeats 2000000 in
theorem law_end3 (d : Nat) (a0 a1 a2 a3 a4 a5 : Int32) (f : Bool) (σ : qH) (hL : freshL σ) (c1 : ¬ a1 < 0) (c2 : a1 ≤ 0) (c3 : ¬ 0 < a1) : ∃ σ9, sz 1 8010 σ σ9 ∧ GH (qxi [a0, a1, a2, a3, a4, a5] f) (d + 10) j_L_law 197 [(0, .ref 0), (1, .ref 16), (2, .ref 137), (3, .ref 146), (4, .int 0)] [] σ (some (.int 1), σ9) := by
  obtain ⟨hN, hB, hM, ⟨lc, hlc, h138⟩, h141, hout, hσ⟩ := hL
  obtain ⟨σ1, ⟨k1, y1⟩, g1⟩ := pN_end3 (ξ := (qxi [a0, a1, a2, a3, a4, a5] f)) (d + 1) a1 σ hN c1 c2
  have hM1 : freshM σ1 := ⟨k1 137 _ (by decide) hM.1, k1 139 _ (by decide) hM.2⟩
  have h1381 := k1 138 _ (by decide) h138
  have h1411 := k1 141 _ (by decide) h141
  have hout1 := k1 146 _ (by decide) hout
  obtain ⟨σ2, fs, c2, ⟨o2, y2⟩, g2⟩ := pM_end3 (ξ := (qxi [a0, a1, a2, a3, a4, a5] f)) (d + 1) a1 σ1 hM1 c1 c3
  have hout2 := o2 _ hout1
  refine ⟨σ2, sz.trans y1 y2, ?_⟩
  refine GH.go 6 (fun n => (rfl : _ = exh (qxi [a0, a1, a2, a3, a4, a5] f) n (d + 10) j_L_law 204 [(0, .ref 0), (1, .ref 16), (2, .ref 137), (3, .ref 146), (4, .int 0)] [.int a1, .ref 16] σ)) ?_
  refine GH.call (k := j_N_end) (as := [.ref 16, .int a1]) (r := []) (v := some (.int 1)) (σ1 := σ1) rfl rfl rfl rfl rfl rfl ?_ ?_ ?_
  · show (bif qrc _ 16 j_N_end && _ then _ else _) = _
    rw [qrc_at rfl hN.1 rfl]
    rfl
  · exact g1
  refine GH.go 6 (fun n => (rfl : _ = exh (qxi [a0, a1, a2, a3, a4, a5] f) n (d + 10) j_L_law 214 [(0, .ref 0), (1, .ref 16), (2, .ref 137), (3, .ref 146), (4, .int 0)] [.int a1, .ref 137, .int 1] σ1)) ?_
  refine GH.call (k := j_M_end) (as := [.ref 137, .int a1]) (r := [.int 1]) (v := some (.int 1)) (σ1 := σ2) rfl rfl rfl rfl rfl rfl ?_ ?_ ?_
  · show (bif qrc _ 137 j_M_end && _ then _ else _) = _
    rw [qrc_at rfl hM1.1 rfl]
    rfl
  · exact g2
  refine GH.go 1 (fun n => (rfl : _ = exh (qxi [a0, a1, a2, a3, a4, a5] f) n (d + 10) j_L_law 919 [(0, .ref 0), (1, .ref 16), (2, .ref 137), (3, .ref 146), (4, .int 0)] [] σ2)) ?_
  exact law_end d a0 a1 a2 a3 a4 a5 f σ2 [] (Or.inl rfl)
set_option maxHeartbeats 2000000 in
theorem law_octet1 (d : Nat) (a0 a1 a2 a3 a4 a5 : Int32) (f : Bool) (σ : qH) (hL : freshL σ) (c1 : a1 < 0) : ∃ σ9, sz 1 8010 σ σ9 ∧ GH (qxi [a0, a1, a2, a3, a4, a5] f) (d + 10) j_L_law 713 [(0, .ref 0), (1, .ref 16), (2, .ref 137), (3, .ref 146), (4, .int 0)] [] σ (some (.int 1), σ9) := by
  obtain ⟨hN, hB, hM, ⟨lc, hlc, h138⟩, h141, hout, hσ⟩ := hL
  obtain ⟨σ1, ⟨k1, y1⟩, g1⟩ := pN_octet1 (ξ := (qxi [a0, a1, a2, a3, a4, a5] f)) (d + 1) a1 σ hN c1
  have hM1 : freshM σ1 := ⟨k1 137 _ (by decide) hM.1, k1 139 _ (by decide) hM.2⟩
  have h1381 := k1 138 _ (by decide) h138
  have h1411 := k1 141 _ (by decide) h141
  have hout1 := k1 146 _ (by decide) hout
  obtain ⟨σ2, fs, c2, ⟨o2, y2⟩, g2⟩ := pM_octet1 (ξ := (qxi [a0, a1, a2, a3, a4, a5] f)) (d + 1) a1 σ1 hM1 c1
  have hout2 := o2 _ hout1
  refine ⟨σ2, sz.trans y1 y2, ?_⟩
  refine GH.go 6 (fun n => (rfl : _ = exh (qxi [a0, a1, a2, a3, a4, a5] f) n (d + 10) j_L_law 720 [(0, .ref 0), (1, .ref 16), (2, .ref 137), (3, .ref 146), (4, .int 0)] [.int a1, .ref 16] σ)) ?_
  refine GH.call (k := j_N_octet) (as := [.ref 16, .int a1]) (r := []) (v := some (.int (-1))) (σ1 := σ1) rfl rfl rfl rfl rfl rfl ?_ ?_ ?_
  · show (bif qrc _ 16 j_N_octet && _ then _ else _) = _
    rw [qrc_at rfl hN.1 rfl]
    rfl
  · exact g1
  refine GH.go 6 (fun n => (rfl : _ = exh (qxi [a0, a1, a2, a3, a4, a5] f) n (d + 10) j_L_law 730 [(0, .ref 0), (1, .ref 16), (2, .ref 137), (3, .ref 146), (4, .int 0)] [.int a1, .ref 137, .int (-1)] σ1)) ?_
  refine GH.call (k := j_M_octet) (as := [.ref 137, .int a1]) (r := [.int (-1)]) (v := some (.int (-1))) (σ1 := σ2) rfl rfl rfl rfl rfl rfl ?_ ?_ ?_
  · show (bif qrc _ 137 j_M_octet && _ then _ else _) = _
    rw [qrc_at rfl hM1.1 rfl]
    rfl
  · exact g2
  refine GH.go 1 (fun n => (rfl : _ = exh (qxi [a0, a1, a2, a3, a4, a5] f) n (d + 10) j_L_law 919 [(0, .ref 0), (1, .ref 16), (2, .ref 137), (3, .ref 146), (4, .int 0)] [] σ2)) ?_
  exact law_end d a0 a1 a2 a3 a4 a5 f σ2 [] (Or.inl rfl)
set_option maxHeartbeats 2000000 in
theorem law_octet2 (d : Nat) (a0 a1 a2 a3 a4 a5 : Int32) (f : Bool) (σ : qH) (hL : freshL σ) (c1 : ¬ a1 < 0) (c2 : 0 ≤ a1) (c3 : (-1) < a1) : ∃ σ9, sz 1 8010 σ σ9 ∧ GH (qxi [a0, a1, a2, a3, a4, a5] f) (d + 10) j_L_law 713 [(0, .ref 0), (1, .ref 16), (2, .ref 137), (3, .ref 146), (4, .int 0)] [] σ (some (.int 1), σ9) := by
  obtain ⟨hN, hB, hM, ⟨lc, hlc, h138⟩, h141, hout, hσ⟩ := hL
  obtain ⟨σ1, ⟨k1, y1⟩, g1⟩ := pN_octet2 (ξ := (qxi [a0, a1, a2, a3, a4, a5] f)) (d + 1) a1 σ hN c1 c2
  have hM1 : freshM σ1 := ⟨k1 137 _ (by decide) hM.1, k1 139 _ (by decide) hM.2⟩
  have h1381 := k1 138 _ (by decide) h138
  have h1411 := k1 141 _ (by decide) h141
  have hout1 := k1 146 _ (by decide) hout
  obtain ⟨σ2, fs, c2, ⟨o2, y2⟩, g2⟩ := pM_octet2 (ξ := (qxi [a0, a1, a2, a3, a4, a5] f)) (d + 1) a1 σ1 hM1 c1 c3
  have hout2 := o2 _ hout1
  refine ⟨σ2, sz.trans y1 y2, ?_⟩
  refine GH.go 6 (fun n => (rfl : _ = exh (qxi [a0, a1, a2, a3, a4, a5] f) n (d + 10) j_L_law 720 [(0, .ref 0), (1, .ref 16), (2, .ref 137), (3, .ref 146), (4, .int 0)] [.int a1, .ref 16] σ)) ?_
  refine GH.call (k := j_N_octet) (as := [.ref 16, .int a1]) (r := []) (v := some (.int (-1))) (σ1 := σ1) rfl rfl rfl rfl rfl rfl ?_ ?_ ?_
  · show (bif qrc _ 16 j_N_octet && _ then _ else _) = _
    rw [qrc_at rfl hN.1 rfl]
    rfl
  · exact g1
  refine GH.go 6 (fun n => (rfl : _ = exh (qxi [a0, a1, a2, a3, a4, a5] f) n (d + 10) j_L_law 730 [(0, .ref 0), (1, .ref 16), (2, .ref 137), (3, .ref 146), (4, .int 0)] [.int a1, .ref 137, .int (-1)] σ1)) ?_
  refine GH.call (k := j_M_octet) (as := [.ref 137, .int a1]) (r := [.int (-1)]) (v := some (.int (-1))) (σ1 := σ2) rfl rfl rfl rfl rfl rfl ?_ ?_ ?_
  · show (bif qrc _ 137 j_M_octet && _ then _ else _) = _
    rw [qrc_at rfl hM1.1 rfl]
    rfl
  · exact g2
  refine GH.go 1 (fun n => (rfl : _ = exh (qxi [a0, a1, a2, a3, a4, a5] f) n (d + 10) j_L_law 919 [(0, .ref 0), (1, .ref 16), (2, .ref 137), (3, .ref 146), (4, .int 0)] [] σ2)) ?_
  exact law_end d a0 a1 a2 a3 a4 a5 f σ2 [] (Or.inl rfl)
set_option maxHeartbeats 2000000 in
theorem law_value1 (d : Nat) (a0 a1 a2 a3 a4 a5 : Int32) (f : Bool) (σ : qH) (hL : freshL σ) (c1 : a1 < 0) : ∃ σ9, sz 1 8010 σ σ9 ∧ GH (qxi [a0, a1, a2, a3, a4, a5] f) (d + 10) j_L_law 894 [(0, .ref 0), (1, .ref 16), (2, .ref 137), (3, .ref 146), (4, .int 0)] [] σ (some (.int 1), σ9) := by
  obtain ⟨hN, hB, hM, ⟨lc, hlc, h138⟩, h141, hout, hσ⟩ := hL
  obtain ⟨σ1, ⟨k1, y1⟩, g1⟩ := pN_value1 (ξ := (qxi [a0, a1, a2, a3, a4, a5] f)) (d + 1) a1 σ hN c1
  have hM1 : freshM σ1 := ⟨k1 137 _ (by decide) hM.1, k1 139 _ (by decide) hM.2⟩
  have h1381 := k1 138 _ (by decide) h138
  have h1411 := k1 141 _ (by decide) h141
  have hout1 := k1 146 _ (by decide) hout
  obtain ⟨σ2, fs, c2, ⟨o2, y2⟩, g2⟩ := pM_value1 (ξ := (qxi [a0, a1, a2, a3, a4, a5] f)) (d + 1) a1 σ1 hM1 c1
  have hout2 := o2 _ hout1
  refine ⟨σ2, sz.trans y1 y2, ?_⟩
  refine GH.go 6 (fun n => (rfl : _ = exh (qxi [a0, a1, a2, a3, a4, a5] f) n (d + 10) j_L_law 901 [(0, .ref 0), (1, .ref 16), (2, .ref 137), (3, .ref 146), (4, .int 0)] [.int a1, .ref 16] σ)) ?_
  refine GH.call (k := j_N_value) (as := [.ref 16, .int a1]) (r := []) (v := some (.int (-1))) (σ1 := σ1) rfl rfl rfl rfl rfl rfl ?_ ?_ ?_
  · show (bif qrc _ 16 j_N_value && _ then _ else _) = _
    rw [qrc_at rfl hN.1 rfl]
    rfl
  · exact g1
  refine GH.go 6 (fun n => (rfl : _ = exh (qxi [a0, a1, a2, a3, a4, a5] f) n (d + 10) j_L_law 911 [(0, .ref 0), (1, .ref 16), (2, .ref 137), (3, .ref 146), (4, .int 0)] [.int a1, .ref 137, .int (-1)] σ1)) ?_
  refine GH.call (k := j_M_value) (as := [.ref 137, .int a1]) (r := [.int (-1)]) (v := some (.int (-1))) (σ1 := σ2) rfl rfl rfl rfl rfl rfl ?_ ?_ ?_
  · show (bif qrc _ 137 j_M_value && _ then _ else _) = _
    rw [qrc_at rfl hM1.1 rfl]
    rfl
  · exact g2
  refine GH.go 1 (fun n => (rfl : _ = exh (qxi [a0, a1, a2, a3, a4, a5] f) n (d + 10) j_L_law 919 [(0, .ref 0), (1, .ref 16), (2, .ref 137), (3, .ref 146), (4, .int 0)] [] σ2)) ?_
  exact law_end d a0 a1 a2 a3 a4 a5 f σ2 [] (Or.inl rfl)
set_option maxHeartbeats 2000000 in
theorem law_value2 (d : Nat) (a0 a1 a2 a3 a4 a5 : Int32) (f : Bool) (σ : qH) (hL : freshL σ) (c1 : ¬ a1 < 0) (c2 : 0 ≤ a1) (c3 : (-1) < a1) : ∃ σ9, sz 1 8010 σ σ9 ∧ GH (qxi [a0, a1, a2, a3, a4, a5] f) (d + 10) j_L_law 894 [(0, .ref 0), (1, .ref 16), (2, .ref 137), (3, .ref 146), (4, .int 0)] [] σ (some (.int 1), σ9) := by
  obtain ⟨hN, hB, hM, ⟨lc, hlc, h138⟩, h141, hout, hσ⟩ := hL
  obtain ⟨σ1, ⟨k1, y1⟩, g1⟩ := pN_value2 (ξ := (qxi [a0, a1, a2, a3, a4, a5] f)) (d + 1) a1 σ hN c1 c2
  have hM1 : freshM σ1 := ⟨k1 137 _ (by decide) hM.1, k1 139 _ (by decide) hM.2⟩
  have h1381 := k1 138 _ (by decide) h138
  have h1411 := k1 141 _ (by decide) h141
  have hout1 := k1 146 _ (by decide) hout
  obtain ⟨σ2, fs, c2, ⟨o2, y2⟩, g2⟩ := pM_value2 (ξ := (qxi [a0, a1, a2, a3, a4, a5] f)) (d + 1) a1 σ1 hM1 c1 c3
  have hout2 := o2 _ hout1
  refine ⟨σ2, sz.trans y1 y2, ?_⟩
  refine GH.go 6 (fun n => (rfl : _ = exh (qxi [a0, a1, a2, a3, a4, a5] f) n (d + 10) j_L_law 901 [(0, .ref 0), (1, .ref 16), (2, .ref 137), (3, .ref 146), (4, .int 0)] [.int a1, .ref 16] σ)) ?_
  refine GH.call (k := j_N_value) (as := [.ref 16, .int a1]) (r := []) (v := some (.int (-1))) (σ1 := σ1) rfl rfl rfl rfl rfl rfl ?_ ?_ ?_
  · show (bif qrc _ 16 j_N_value && _ then _ else _) = _
    rw [qrc_at rfl hN.1 rfl]
    rfl
  · exact g1
  refine GH.go 6 (fun n => (rfl : _ = exh (qxi [a0, a1, a2, a3, a4, a5] f) n (d + 10) j_L_law 911 [(0, .ref 0), (1, .ref 16), (2, .ref 137), (3, .ref 146), (4, .int 0)] [.int a1, .ref 137, .int (-1)] σ1)) ?_
  refine GH.call (k := j_M_value) (as := [.ref 137, .int a1]) (r := [.int (-1)]) (v := some (.int (-1))) (σ1 := σ2) rfl rfl rfl rfl rfl rfl ?_ ?_ ?_
  · show (bif qrc _ 137 j_M_value && _ then _ else _) = _
    rw [qrc_at rfl hM1.1 rfl]
    rfl
  · exact g2
  refine GH.go 1 (fun n => (rfl : _ = exh (qxi [a0, a1, a2, a3, a4, a5] f) n (d + 10) j_L_law 919 [(0, .ref 0), (1, .ref 16), (2, .ref 137), (3, .ref 146), (4, .int 0)] [] σ2)) ?_
  exact law_end d a0 a1 a2 a3 a4 a5 f σ2 [] (Or.inl rfl)
set_option maxHeartbeats 2000000 in
theorem law_feed (d : Nat) (a0 a1 a2 a3 a4 a5 : Int32) (f : Bool) (σ : qH) (hL : freshL σ) : ∃ σ9, sz 1 8010 σ σ9 ∧ GH (qxi [a0, a1, a2, a3, a4, a5] f) (d + 10) j_L_law 124 [(0, .ref 0), (1, .ref 16), (2, .ref 137), (3, .ref 146), (4, .int 0)] [] σ (some (.int 1), σ9) := by
  obtain ⟨hN, hB, hM, ⟨lc, hlc, h138⟩, h141, hout, hσ⟩ := hL
  obtain ⟨σ1, ⟨k1, y1⟩, g1⟩ := pN_feed (ξ := (qxi [a0, a1, a2, a3, a4, a5] f)) (d + 7) a1 a2 a3 a4 a5 σ hN hB hσ
  have hM1 : freshM σ1 := ⟨k1 137 _ (by decide) hM.1, k1 139 _ (by decide) hM.2⟩
  have h1381 := k1 138 _ (by decide) h138
  have h1411 := k1 141 _ (by decide) h141
  have hout1 := k1 146 _ (by decide) hout
  obtain ⟨σ2, fs, c2, ⟨o2, y2⟩, g2⟩ := pM_feed (ξ := (qxi [a0, a1, a2, a3, a4, a5] f)) (d + 1) a1 a2 a3 a4 a5 lc σ1 hM1 h1381 hlc
  have hout2 := o2 _ hout1
  refine ⟨σ2, sz.trans y1 y2, ?_⟩
  refine GH.go 26 (fun n => (rfl : _ = exh (qxi [a0, a1, a2, a3, a4, a5] f) n (d + 10) j_L_law 155 [(0, .ref 0), (1, .ref 16), (2, .ref 137), (3, .ref 146), (4, .int 0)] [.int a5, .int a4, .int a3, .int a2, .int a1, .ref 16] σ)) ?_
  refine GH.call (k := j_N_feed) (as := [.ref 16, .int a1, .int a2, .int a3, .int a4, .int a5]) (r := []) (v := some (.int 1)) (σ1 := σ1) rfl rfl rfl rfl rfl rfl ?_ ?_ ?_
  · show (bif qrc _ 16 j_N_feed && _ then _ else _) = _
    rw [qrc_at rfl hN.1 rfl]
    rfl
  · exact g1
  refine GH.go 26 (fun n => (rfl : _ = exh (qxi [a0, a1, a2, a3, a4, a5] f) n (d + 10) j_L_law 189 [(0, .ref 0), (1, .ref 16), (2, .ref 137), (3, .ref 146), (4, .int 0)] [.int a5, .int a4, .int a3, .int a2, .int a1, .ref 137, .int 1] σ1)) ?_
  refine GH.call (k := j_M_feed) (as := [.ref 137, .int a1, .int a2, .int a3, .int a4, .int a5]) (r := [.int 1]) (v := some (.int 1)) (σ1 := σ2) rfl rfl rfl rfl rfl rfl ?_ ?_ ?_
  · show (bif qrc _ 137 j_M_feed && _ then _ else _) = _
    rw [qrc_at rfl hM1.1 rfl]
    rfl
  · exact g2
  refine GH.go 1 (fun n => (rfl : _ = exh (qxi [a0, a1, a2, a3, a4, a5] f) n (d + 10) j_L_law 919 [(0, .ref 0), (1, .ref 16), (2, .ref 137), (3, .ref 146), (4, .int 0)] [] σ2)) ?_
  exact law_end d a0 a1 a2 a3 a4 a5 f σ2 [] (Or.inl rfl)
set_option maxHeartbeats 2000000 in
theorem law_type1 (d : Nat) (a0 a1 a2 a3 a4 a5 : Int32) (f : Bool) (σ : qH) (hL : freshL σ) (c1 : allN (a1.toInt64 <<< ((32 : Int32).toInt64 &&& 63) ||| (a2.toInt64 &&& (4294967295 : Int64)))) (c2 : allM (a1.toInt64 <<< ((32 : Int32).toInt64 &&& 63) ||| (a2.toInt64 &&& (4294967295 : Int64)))) : ∃ σ9, sz 1 8010 σ σ9 ∧ GH (qxi [a0, a1, a2, a3, a4, a5] f) (d + 10) j_L_law 476 [(0, .ref 0), (1, .ref 16), (2, .ref 137), (3, .ref 146), (4, .int 0)] [] σ (some (.int 1), σ9) := by
  obtain ⟨hN, hB, hM, ⟨lc, hlc, h138⟩, h141, hout, hσ⟩ := hL
  obtain ⟨σ1, ⟨k1, y1⟩, g1⟩ := (pN_type (ξ := (qxi [a0, a1, a2, a3, a4, a5] f)) (d + 8) (a1.toInt64 <<< ((32 : Int32).toInt64 &&& 63) ||| (a2.toInt64 &&& (4294967295 : Int64))) σ hN hB hσ).1 c1
  have hM1 : freshM σ1 := ⟨k1 137 _ (by decide) hM.1, k1 139 _ (by decide) hM.2⟩
  have h1381 := k1 138 _ (by decide) h138
  have h1411 := k1 141 _ (by decide) h141
  have hout1 := k1 146 _ (by decide) hout
  obtain ⟨σ2, fs, c2, ⟨o2, y2⟩, g2⟩ := (pM_type (ξ := (qxi [a0, a1, a2, a3, a4, a5] f)) (d + 8) (a1.toInt64 <<< ((32 : Int32).toInt64 &&& 63) ||| (a2.toInt64 &&& (4294967295 : Int64))) σ1 hM1 h1411).1 c2
  have hout2 := o2 _ hout1
  refine ⟨σ2, sz.trans y1 y2, ?_⟩
  refine GH.go 18 (fun n => (rfl : _ = exh (qxi [a0, a1, a2, a3, a4, a5] f) n (d + 10) j_L_law 499 [(0, .ref 0), (1, .ref 16), (2, .ref 137), (3, .ref 146), (4, .int 0)] [.long (((a1.toInt64) <<< ((32 : Int32).toInt64 &&& 63)) ||| ((a2.toInt64) &&& ((4294967295 : Int64)))), .ref 16] σ)) ?_
  refine GH.call (k := j_N_type) (as := [.ref 16, .long (((a1.toInt64) <<< ((32 : Int32).toInt64 &&& 63)) ||| ((a2.toInt64) &&& ((4294967295 : Int64))))]) (r := []) (v := some (.int 1)) (σ1 := σ1) rfl rfl rfl rfl rfl rfl ?_ ?_ ?_
  · show (bif qrc _ 16 j_N_type && _ then _ else _) = _
    rw [qrc_at rfl hN.1 rfl]
    rfl
  · exact g1
  refine GH.go 18 (fun n => (rfl : _ = exh (qxi [a0, a1, a2, a3, a4, a5] f) n (d + 10) j_L_law 525 [(0, .ref 0), (1, .ref 16), (2, .ref 137), (3, .ref 146), (4, .int 0)] [.long (((a1.toInt64) <<< ((32 : Int32).toInt64 &&& 63)) ||| ((a2.toInt64) &&& ((4294967295 : Int64)))), .ref 137, .int 1] σ1)) ?_
  refine GH.call (k := j_M_type) (as := [.ref 137, .long (((a1.toInt64) <<< ((32 : Int32).toInt64 &&& 63)) ||| ((a2.toInt64) &&& ((4294967295 : Int64))))]) (r := [.int 1]) (v := some (.int 1)) (σ1 := σ2) rfl rfl rfl rfl rfl rfl ?_ ?_ ?_
  · show (bif qrc _ 137 j_M_type && _ then _ else _) = _
    rw [qrc_at rfl hM1.1 rfl]
    rfl
  · exact g2
  refine GH.go 1 (fun n => (rfl : _ = exh (qxi [a0, a1, a2, a3, a4, a5] f) n (d + 10) j_L_law 919 [(0, .ref 0), (1, .ref 16), (2, .ref 137), (3, .ref 146), (4, .int 0)] [] σ2)) ?_
  exact law_end d a0 a1 a2 a3 a4 a5 f σ2 [] (Or.inl rfl)
set_option maxHeartbeats 2000000 in
theorem law_type2 (d : Nat) (a0 a1 a2 a3 a4 a5 : Int32) (f : Bool) (σ : qH) (hL : freshL σ) (c1 : ¬ allN (a1.toInt64 <<< ((32 : Int32).toInt64 &&& 63) ||| (a2.toInt64 &&& (4294967295 : Int64)))) (c2 : ¬ allM (a1.toInt64 <<< ((32 : Int32).toInt64 &&& 63) ||| (a2.toInt64 &&& (4294967295 : Int64)))) : ∃ σ9, sz 1 8010 σ σ9 ∧ GH (qxi [a0, a1, a2, a3, a4, a5] f) (d + 10) j_L_law 476 [(0, .ref 0), (1, .ref 16), (2, .ref 137), (3, .ref 146), (4, .int 0)] [] σ (some (.int 1), σ9) := by
  obtain ⟨hN, hB, hM, ⟨lc, hlc, h138⟩, h141, hout, hσ⟩ := hL
  obtain ⟨σ1, ⟨k1, y1⟩, g1⟩ := (pN_type (ξ := (qxi [a0, a1, a2, a3, a4, a5] f)) (d + 8) (a1.toInt64 <<< ((32 : Int32).toInt64 &&& 63) ||| (a2.toInt64 &&& (4294967295 : Int64))) σ hN hB hσ).2 c1
  have hM1 : freshM σ1 := ⟨k1 137 _ (by decide) hM.1, k1 139 _ (by decide) hM.2⟩
  have h1381 := k1 138 _ (by decide) h138
  have h1411 := k1 141 _ (by decide) h141
  have hout1 := k1 146 _ (by decide) hout
  obtain ⟨σ2, fs, c2, ⟨o2, y2⟩, g2⟩ := (pM_type (ξ := (qxi [a0, a1, a2, a3, a4, a5] f)) (d + 8) (a1.toInt64 <<< ((32 : Int32).toInt64 &&& 63) ||| (a2.toInt64 &&& (4294967295 : Int64))) σ1 hM1 h1411).2 c2
  have hout2 := o2 _ hout1
  refine ⟨σ2, sz.trans y1 y2, ?_⟩
  refine GH.go 18 (fun n => (rfl : _ = exh (qxi [a0, a1, a2, a3, a4, a5] f) n (d + 10) j_L_law 499 [(0, .ref 0), (1, .ref 16), (2, .ref 137), (3, .ref 146), (4, .int 0)] [.long (((a1.toInt64) <<< ((32 : Int32).toInt64 &&& 63)) ||| ((a2.toInt64) &&& ((4294967295 : Int64)))), .ref 16] σ)) ?_
  refine GH.call (k := j_N_type) (as := [.ref 16, .long (((a1.toInt64) <<< ((32 : Int32).toInt64 &&& 63)) ||| ((a2.toInt64) &&& ((4294967295 : Int64))))]) (r := []) (v := some (.int 0)) (σ1 := σ1) rfl rfl rfl rfl rfl rfl ?_ ?_ ?_
  · show (bif qrc _ 16 j_N_type && _ then _ else _) = _
    rw [qrc_at rfl hN.1 rfl]
    rfl
  · exact g1
  refine GH.go 18 (fun n => (rfl : _ = exh (qxi [a0, a1, a2, a3, a4, a5] f) n (d + 10) j_L_law 525 [(0, .ref 0), (1, .ref 16), (2, .ref 137), (3, .ref 146), (4, .int 0)] [.long (((a1.toInt64) <<< ((32 : Int32).toInt64 &&& 63)) ||| ((a2.toInt64) &&& ((4294967295 : Int64)))), .ref 137, .int 0] σ1)) ?_
  refine GH.call (k := j_M_type) (as := [.ref 137, .long (((a1.toInt64) <<< ((32 : Int32).toInt64 &&& 63)) ||| ((a2.toInt64) &&& ((4294967295 : Int64))))]) (r := [.int 0]) (v := some (.int 0)) (σ1 := σ2) rfl rfl rfl rfl rfl rfl ?_ ?_ ?_
  · show (bif qrc _ 137 j_M_type && _ then _ else _) = _
    rw [qrc_at rfl hM1.1 rfl]
    rfl
  · exact g2
  refine GH.go 1 (fun n => (rfl : _ = exh (qxi [a0, a1, a2, a3, a4, a5] f) n (d + 10) j_L_law 919 [(0, .ref 0), (1, .ref 16), (2, .ref 137), (3, .ref 146), (4, .int 0)] [] σ2)) ?_
  exact law_end d a0 a1 a2 a3 a4 a5 f σ2 [] (Or.inl rfl)
set_option maxHeartbeats 2000000 in
theorem law_open (d : Nat) (a0 a1 a2 a3 a4 a5 : Int32) (f : Bool) (σ : qH) (hL : freshL σ) : ∃ σ9, sz 1 8010 σ σ9 ∧ GH (qxi [a0, a1, a2, a3, a4, a5] f) (d + 10) j_L_law 222 [(0, .ref 0), (1, .ref 16), (2, .ref 137), (3, .ref 146), (4, .int 0)] [] σ (some (.int 1), σ9) := by
  obtain ⟨hN, hB, hM, ⟨lc, hlc, h138⟩, h141, hout, hσ⟩ := hL
  obtain ⟨σ1, ⟨k1, y1⟩, g1⟩ := pN_open (ξ := (qxi [a0, a1, a2, a3, a4, a5] f)) d σ hN
  have hM1 : freshM σ1 := ⟨k1 137 _ (by decide) hM.1, k1 139 _ (by decide) hM.2⟩
  have h1381 := k1 138 _ (by decide) h138
  have h1411 := k1 141 _ (by decide) h141
  have hout1 := k1 146 _ (by decide) hout
  obtain ⟨σ2, fs, c2, ⟨o2, y2⟩, g2⟩ := pM_open (ξ := (qxi [a0, a1, a2, a3, a4, a5] f)) (d + 1) lc σ1 hM1 h1381 hlc
  have hout2 := o2 _ hout1
  have gh : GH (qxi [a0, a1, a2, a3, a4, a5] f) (d + 9) j_L_open 0 (lv_args 0 [.ref 16, .ref 146]) [] σ (some (.int 1), σ1) := by
    refine GH.go 3 (fun n => (rfl : _ = exh (qxi [a0, a1, a2, a3, a4, a5] f) n (d + 9) j_L_open 3 [(0, .ref 16), (1, .ref 146)] [.ref 16, .int 0, .ref 146] σ)) ?_
    refine GH.catch (k := j_N_open) (as := [.ref 16]) (r := [.int 0, .ref 146]) rfl rfl rfl ?_ g1 rfl ?_
    · show (bif qrc _ 16 j_N_open && _ then _ else _) = _
      rw [qrc_at rfl hN.1 rfl]
      rfl
    exact GH.end 3 (fun n => rfl)
  refine ⟨σ2, sz.trans y1 y2, ?_⟩
  refine GH.go 2 (fun n => (rfl : _ = exh (qxi [a0, a1, a2, a3, a4, a5] f) n (d + 10) j_L_law 224 [(0, .ref 0), (1, .ref 16), (2, .ref 137), (3, .ref 146), (4, .int 0)] [.ref 146, .ref 16] σ)) ?_
  refine GH.help (k := j_L_open) (as := [.ref 16, .ref 146]) (r := []) (v := some (.int 1)) (σ1 := σ1) rfl (fun n => rfl) rfl rfl gh ?_
  refine GH.go 2 (fun n => (rfl : _ = exh (qxi [a0, a1, a2, a3, a4, a5] f) n (d + 10) j_L_law 230 [(0, .ref 0), (1, .ref 16), (2, .ref 137), (3, .ref 146), (4, .int 0), (5, .int 1)] [.ref 137] σ1)) ?_
  refine GH.call (k := j_M_open) (as := [.ref 137]) (r := []) (v := some (.int 0)) (σ1 := σ2) rfl rfl rfl rfl rfl rfl ?_ ?_ ?_
  · show (bif qrc _ 137 j_M_open && _ then _ else _) = _
    rw [qrc_at rfl hM1.1 rfl]
    rfl
  · exact g2
  refine GH.go 2 (fun n => (rfl : _ = exh (qxi [a0, a1, a2, a3, a4, a5] f) n (d + 10) j_L_law 236 [(0, .ref 0), (1, .ref 16), (2, .ref 137), (3, .ref 146), (4, .int 0), (5, .int 1), (6, .int 0)] [.ref 137] σ2)) ?_
  refine GH.call (k := j_M_thrown) (as := [.ref 137]) (r := []) (v := some (.int 1)) (σ1 := σ2) rfl rfl rfl rfl rfl rfl ?_ ?_ ?_
  · show (bif qrc _ 137 j_M_thrown && _ then _ else _) = _
    rw [qrc_at rfl c2 rfl]
    rfl
  · exact (pM_thrown _ σ2 1 fs c2)
  refine GH.go 5 (fun n => (rfl : _ = exh (qxi [a0, a1, a2, a3, a4, a5] f) n (d + 10) j_L_law 919 [(0, .ref 0), (1, .ref 16), (2, .ref 137), (3, .ref 146), (4, .int 0), (5, .int 1), (6, .int 0)] [] σ2)) ?_
  exact law_end d a0 a1 a2 a3 a4 a5 f σ2 [(5, .int 1), (6, .int 0)] (Or.inr (Or.inl ⟨_, _, rfl⟩))
set_option maxHeartbeats 2000000 in
theorem law_entry (d : Nat) (a0 a1 a2 a3 a4 a5 : Int32) (f : Bool) (σ : qH) (hL : freshL σ) : ∃ σ9, sz 1 8010 σ σ9 ∧ GH (qxi [a0, a1, a2, a3, a4, a5] f) (d + 10) j_L_law 317 [(0, .ref 0), (1, .ref 16), (2, .ref 137), (3, .ref 146), (4, .int 0)] [] σ (some (.int 1), σ9) := by
  obtain ⟨hN, hB, hM, ⟨lc, hlc, h138⟩, h141, hout, hσ⟩ := hL
  obtain ⟨σ1, ⟨k1, y1⟩, g1⟩ := pN_entry (ξ := (qxi [a0, a1, a2, a3, a4, a5] f)) d a1 a2 a3 σ hN
  have hM1 : freshM σ1 := ⟨k1 137 _ (by decide) hM.1, k1 139 _ (by decide) hM.2⟩
  have h1381 := k1 138 _ (by decide) h138
  have h1411 := k1 141 _ (by decide) h141
  have hout1 := k1 146 _ (by decide) hout
  obtain ⟨σ2, fs, c2, ⟨o2, y2⟩, g2⟩ := pM_entry (ξ := (qxi [a0, a1, a2, a3, a4, a5] f)) (d + 1) a1 a2 a3 σ1 hM1
  have hout2 := o2 _ hout1
  have gh : GH (qxi [a0, a1, a2, a3, a4, a5] f) (d + 9) j_L_entry 0 (lv_args 0 [.ref 16, .int a1, .int a2, .int a3, .ref 146]) [] σ (some (.int 1), σ1) := by
    refine GH.go 6 (fun n => (rfl : _ = exh (qxi [a0, a1, a2, a3, a4, a5] f) n (d + 9) j_L_entry 7 [(0, .ref 16), (1, .int a1), (2, .int a2), (3, .int a3), (4, .ref 146)] [.int a3, .int a2, .int a1, .ref 16, .int 0, .ref 146] σ)) ?_
    refine GH.catch (k := j_N_entry) (as := [.ref 16, .int a1, .int a2, .int a3]) (r := [.int 0, .ref 146]) rfl rfl rfl ?_ g1 rfl ?_
    · show (bif qrc _ 16 j_N_entry && _ then _ else _) = _
      rw [qrc_at rfl hN.1 rfl]
      rfl
    exact GH.end 3 (fun n => rfl)
  refine ⟨σ2, sz.trans y1 y2, ?_⟩
  refine GH.go 17 (fun n => (rfl : _ = exh (qxi [a0, a1, a2, a3, a4, a5] f) n (d + 10) j_L_law 337 [(0, .ref 0), (1, .ref 16), (2, .ref 137), (3, .ref 146), (4, .int 0)] [.ref 146, .int a3, .int a2, .int a1, .ref 16] σ)) ?_
  refine GH.help (k := j_L_entry) (as := [.ref 16, .int a1, .int a2, .int a3, .ref 146]) (r := []) (v := some (.int 1)) (σ1 := σ1) rfl (fun n => rfl) rfl rfl gh ?_
  refine GH.go 17 (fun n => (rfl : _ = exh (qxi [a0, a1, a2, a3, a4, a5] f) n (d + 10) j_L_law 361 [(0, .ref 0), (1, .ref 16), (2, .ref 137), (3, .ref 146), (4, .int 0), (5, .int 1)] [.int a3, .int a2, .int a1, .ref 137] σ1)) ?_
  refine GH.call (k := j_M_entry) (as := [.ref 137, .int a1, .int a2, .int a3]) (r := []) (v := some (.long 0)) (σ1 := σ2) rfl rfl rfl rfl rfl rfl ?_ ?_ ?_
  · show (bif qrc _ 137 j_M_entry && _ then _ else _) = _
    rw [qrc_at rfl hM1.1 rfl]
    rfl
  · exact g2
  refine GH.go 2 (fun n => (rfl : _ = exh (qxi [a0, a1, a2, a3, a4, a5] f) n (d + 10) j_L_law 367 [(0, .ref 0), (1, .ref 16), (2, .ref 137), (3, .ref 146), (4, .int 0), (5, .int 1), (6, .long 0)] [.ref 137] σ2)) ?_
  refine GH.call (k := j_M_thrown) (as := [.ref 137]) (r := []) (v := some (.int 1)) (σ1 := σ2) rfl rfl rfl rfl rfl rfl ?_ ?_ ?_
  · show (bif qrc _ 137 j_M_thrown && _ then _ else _) = _
    rw [qrc_at rfl c2 rfl]
    rfl
  · exact (pM_thrown _ σ2 1 fs c2)
  refine GH.go 5 (fun n => (rfl : _ = exh (qxi [a0, a1, a2, a3, a4, a5] f) n (d + 10) j_L_law 919 [(0, .ref 0), (1, .ref 16), (2, .ref 137), (3, .ref 146), (4, .int 0), (5, .int 1), (6, .long 0)] [] σ2)) ?_
  exact law_end d a0 a1 a2 a3 a4 a5 f σ2 [(5, .int 1), (6, .long 0)] (Or.inr (Or.inr ⟨_, _, rfl⟩))
set_option maxHeartbeats 2000000 in
theorem law_letter (d : Nat) (a0 a1 a2 a3 a4 a5 : Int32) (f : Bool) (σ : qH) (hL : freshL σ) : ∃ σ9, sz 1 8010 σ σ9 ∧ GH (qxi [a0, a1, a2, a3, a4, a5] f) (d + 10) j_L_law 396 [(0, .ref 0), (1, .ref 16), (2, .ref 137), (3, .ref 146), (4, .int 0)] [] σ (some (.int 1), σ9) := by
  obtain ⟨hN, hB, hM, ⟨lc, hlc, h138⟩, h141, hout, hσ⟩ := hL
  obtain ⟨σ1, ⟨k1, y1⟩, g1⟩ := pN_letter (ξ := (qxi [a0, a1, a2, a3, a4, a5] f)) d a1 a2 a3 σ hN
  have hM1 : freshM σ1 := ⟨k1 137 _ (by decide) hM.1, k1 139 _ (by decide) hM.2⟩
  have h1381 := k1 138 _ (by decide) h138
  have h1411 := k1 141 _ (by decide) h141
  have hout1 := k1 146 _ (by decide) hout
  obtain ⟨σ2, fs, c2, ⟨o2, y2⟩, g2⟩ := pM_letter (ξ := (qxi [a0, a1, a2, a3, a4, a5] f)) (d + 1) a1 a2 a3 σ1 hM1
  have hout2 := o2 _ hout1
  have gh : GH (qxi [a0, a1, a2, a3, a4, a5] f) (d + 9) j_L_letter 0 (lv_args 0 [.ref 16, .int a1, .int a2, .int a3, .ref 146]) [] σ (some (.int 1), σ1) := by
    refine GH.go 6 (fun n => (rfl : _ = exh (qxi [a0, a1, a2, a3, a4, a5] f) n (d + 9) j_L_letter 7 [(0, .ref 16), (1, .int a1), (2, .int a2), (3, .int a3), (4, .ref 146)] [.int a3, .int a2, .int a1, .ref 16, .int 0, .ref 146] σ)) ?_
    refine GH.catch (k := j_N_letter) (as := [.ref 16, .int a1, .int a2, .int a3]) (r := [.int 0, .ref 146]) rfl rfl rfl ?_ g1 rfl ?_
    · show (bif qrc _ 16 j_N_letter && _ then _ else _) = _
      rw [qrc_at rfl hN.1 rfl]
      rfl
    exact GH.end 3 (fun n => rfl)
  refine ⟨σ2, sz.trans y1 y2, ?_⟩
  refine GH.go 17 (fun n => (rfl : _ = exh (qxi [a0, a1, a2, a3, a4, a5] f) n (d + 10) j_L_law 416 [(0, .ref 0), (1, .ref 16), (2, .ref 137), (3, .ref 146), (4, .int 0)] [.ref 146, .int a3, .int a2, .int a1, .ref 16] σ)) ?_
  refine GH.help (k := j_L_letter) (as := [.ref 16, .int a1, .int a2, .int a3, .ref 146]) (r := []) (v := some (.int 1)) (σ1 := σ1) rfl (fun n => rfl) rfl rfl gh ?_
  refine GH.go 17 (fun n => (rfl : _ = exh (qxi [a0, a1, a2, a3, a4, a5] f) n (d + 10) j_L_law 440 [(0, .ref 0), (1, .ref 16), (2, .ref 137), (3, .ref 146), (4, .int 0), (5, .int 1)] [.int a3, .int a2, .int a1, .ref 137] σ1)) ?_
  refine GH.call (k := j_M_letter) (as := [.ref 137, .int a1, .int a2, .int a3]) (r := []) (v := some (.int 0)) (σ1 := σ2) rfl rfl rfl rfl rfl rfl ?_ ?_ ?_
  · show (bif qrc _ 137 j_M_letter && _ then _ else _) = _
    rw [qrc_at rfl hM1.1 rfl]
    rfl
  · exact g2
  refine GH.go 2 (fun n => (rfl : _ = exh (qxi [a0, a1, a2, a3, a4, a5] f) n (d + 10) j_L_law 446 [(0, .ref 0), (1, .ref 16), (2, .ref 137), (3, .ref 146), (4, .int 0), (5, .int 1), (6, .int 0)] [.ref 137] σ2)) ?_
  refine GH.call (k := j_M_thrown) (as := [.ref 137]) (r := []) (v := some (.int 1)) (σ1 := σ2) rfl rfl rfl rfl rfl rfl ?_ ?_ ?_
  · show (bif qrc _ 137 j_M_thrown && _ then _ else _) = _
    rw [qrc_at rfl c2 rfl]
    rfl
  · exact (pM_thrown _ σ2 1 fs c2)
  refine GH.go 5 (fun n => (rfl : _ = exh (qxi [a0, a1, a2, a3, a4, a5] f) n (d + 10) j_L_law 919 [(0, .ref 0), (1, .ref 16), (2, .ref 137), (3, .ref 146), (4, .int 0), (5, .int 1), (6, .int 0)] [] σ2)) ?_
  exact law_end d a0 a1 a2 a3 a4 a5 f σ2 [(5, .int 1), (6, .int 0)] (Or.inr (Or.inl ⟨_, _, rfl⟩))
set_option maxHeartbeats 2000000 in
theorem law_number (d : Nat) (a0 a1 a2 a3 a4 a5 : Int32) (f : Bool) (σ : qH) (hL : freshL σ) : ∃ σ9, sz 1 8010 σ σ9 ∧ GH (qxi [a0, a1, a2, a3, a4, a5] f) (d + 10) j_L_law 533 [(0, .ref 0), (1, .ref 16), (2, .ref 137), (3, .ref 146), (4, .int 0)] [] σ (some (.int 1), σ9) := by
  obtain ⟨hN, hB, hM, ⟨lc, hlc, h138⟩, h141, hout, hσ⟩ := hL
  obtain ⟨σ1, ⟨k1, y1⟩, g1⟩ := pN_number (ξ := (qxi [a0, a1, a2, a3, a4, a5] f)) d a1 σ hN
  have hM1 : freshM σ1 := ⟨k1 137 _ (by decide) hM.1, k1 139 _ (by decide) hM.2⟩
  have h1381 := k1 138 _ (by decide) h138
  have h1411 := k1 141 _ (by decide) h141
  have hout1 := k1 146 _ (by decide) hout
  obtain ⟨σ2, fs, c2, ⟨o2, y2⟩, g2⟩ := pM_number (ξ := (qxi [a0, a1, a2, a3, a4, a5] f)) (d + 1) a1 σ1 hM1
  have hout2 := o2 _ hout1
  have gh : GH (qxi [a0, a1, a2, a3, a4, a5] f) (d + 9) j_L_number 0 (lv_args 0 [.ref 16, .int a1, .ref 146]) [] σ (some (.int 1), σ1) := by
    refine GH.go 4 (fun n => (rfl : _ = exh (qxi [a0, a1, a2, a3, a4, a5] f) n (d + 9) j_L_number 4 [(0, .ref 16), (1, .int a1), (2, .ref 146)] [.int a1, .ref 16, .int 0, .ref 146] σ)) ?_
    refine GH.catch (k := j_N_number) (as := [.ref 16, .int a1]) (r := [.int 0, .ref 146]) rfl rfl rfl ?_ g1 rfl ?_
    · show (bif qrc _ 16 j_N_number && _ then _ else _) = _
      rw [qrc_at rfl hN.1 rfl]
      rfl
    exact GH.end 3 (fun n => rfl)
  refine ⟨σ2, sz.trans y1 y2, ?_⟩
  refine GH.go 7 (fun n => (rfl : _ = exh (qxi [a0, a1, a2, a3, a4, a5] f) n (d + 10) j_L_law 541 [(0, .ref 0), (1, .ref 16), (2, .ref 137), (3, .ref 146), (4, .int 0)] [.ref 146, .int a1, .ref 16] σ)) ?_
  refine GH.help (k := j_L_number) (as := [.ref 16, .int a1, .ref 146]) (r := []) (v := some (.int 1)) (σ1 := σ1) rfl (fun n => rfl) rfl rfl gh ?_
  refine GH.go 7 (fun n => (rfl : _ = exh (qxi [a0, a1, a2, a3, a4, a5] f) n (d + 10) j_L_law 553 [(0, .ref 0), (1, .ref 16), (2, .ref 137), (3, .ref 146), (4, .int 0), (5, .int 1)] [.int a1, .ref 137] σ1)) ?_
  refine GH.call (k := j_M_number) (as := [.ref 137, .int a1]) (r := []) (v := some (.int 0)) (σ1 := σ2) rfl rfl rfl rfl rfl rfl ?_ ?_ ?_
  · show (bif qrc _ 137 j_M_number && _ then _ else _) = _
    rw [qrc_at rfl hM1.1 rfl]
    rfl
  · exact g2
  refine GH.go 2 (fun n => (rfl : _ = exh (qxi [a0, a1, a2, a3, a4, a5] f) n (d + 10) j_L_law 559 [(0, .ref 0), (1, .ref 16), (2, .ref 137), (3, .ref 146), (4, .int 0), (5, .int 1), (6, .int 0)] [.ref 137] σ2)) ?_
  refine GH.call (k := j_M_thrown) (as := [.ref 137]) (r := []) (v := some (.int 1)) (σ1 := σ2) rfl rfl rfl rfl rfl rfl ?_ ?_ ?_
  · show (bif qrc _ 137 j_M_thrown && _ then _ else _) = _
    rw [qrc_at rfl c2 rfl]
    rfl
  · exact (pM_thrown _ σ2 1 fs c2)
  refine GH.go 5 (fun n => (rfl : _ = exh (qxi [a0, a1, a2, a3, a4, a5] f) n (d + 10) j_L_law 919 [(0, .ref 0), (1, .ref 16), (2, .ref 137), (3, .ref 146), (4, .int 0), (5, .int 1), (6, .int 0)] [] σ2)) ?_
  exact law_end d a0 a1 a2 a3 a4 a5 f σ2 [(5, .int 1), (6, .int 0)] (Or.inr (Or.inl ⟨_, _, rfl⟩))
set_option maxHeartbeats 2000000 in
theorem law_find1 (d : Nat) (a0 a1 a2 a3 a4 a5 : Int32) (f : Bool) (σ : qH) (hL : freshL σ) (c3 : a1 < 1) (c1 : ¬ 1 ≤ a1) : ∃ σ9, sz 1 8010 σ σ9 ∧ GH (qxi [a0, a1, a2, a3, a4, a5] f) (d + 10) j_L_law 589 [(0, .ref 0), (1, .ref 16), (2, .ref 137), (3, .ref 146), (4, .int 0)] [] σ (some (.int 1), σ9) := by
  obtain ⟨hN, hB, hM, ⟨lc, hlc, h138⟩, h141, hout, hσ⟩ := hL
  obtain ⟨σ1, ⟨k1, y1⟩, g1⟩ := pN_find1 (ξ := (qxi [a0, a1, a2, a3, a4, a5] f)) d a1 σ hN c3 c1
  have hM1 : freshM σ1 := ⟨k1 137 _ (by decide) hM.1, k1 139 _ (by decide) hM.2⟩
  have h1381 := k1 138 _ (by decide) h138
  have h1411 := k1 141 _ (by decide) h141
  have hout1 := k1 146 _ (by decide) hout
  obtain ⟨σ2, fs, c2, ⟨o2, y2⟩, g2⟩ := pM_find1 (ξ := (qxi [a0, a1, a2, a3, a4, a5] f)) (d + 1) a1 σ1 hM1 c1
  have hout2 := o2 _ hout1
  have gh : GH (qxi [a0, a1, a2, a3, a4, a5] f) (d + 9) j_L_find 0 (lv_args 0 [.ref 16, .int a1, .ref 146]) [] σ (some (.int 1), σ1) := by
    refine GH.go 4 (fun n => (rfl : _ = exh (qxi [a0, a1, a2, a3, a4, a5] f) n (d + 9) j_L_find 4 [(0, .ref 16), (1, .int a1), (2, .ref 146)] [.int a1, .ref 16, .int 0, .ref 146] σ)) ?_
    refine GH.catch (k := j_N_find) (as := [.ref 16, .int a1]) (r := [.int 0, .ref 146]) rfl rfl rfl ?_ g1 rfl ?_
    · show (bif qrc _ 16 j_N_find && _ then _ else _) = _
      rw [qrc_at rfl hN.1 rfl]
      rfl
    exact GH.end 3 (fun n => rfl)
  refine ⟨σ2, sz.trans y1 y2, ?_⟩
  refine GH.go 7 (fun n => (rfl : _ = exh (qxi [a0, a1, a2, a3, a4, a5] f) n (d + 10) j_L_law 597 [(0, .ref 0), (1, .ref 16), (2, .ref 137), (3, .ref 146), (4, .int 0)] [.ref 146, .int a1, .ref 16] σ)) ?_
  refine GH.help (k := j_L_find) (as := [.ref 16, .int a1, .ref 146]) (r := []) (v := some (.int 1)) (σ1 := σ1) rfl (fun n => rfl) rfl rfl gh ?_
  refine GH.go 7 (fun n => (rfl : _ = exh (qxi [a0, a1, a2, a3, a4, a5] f) n (d + 10) j_L_law 609 [(0, .ref 0), (1, .ref 16), (2, .ref 137), (3, .ref 146), (4, .int 0), (5, .int 1)] [.int a1, .ref 137] σ1)) ?_
  refine GH.call (k := j_M_find) (as := [.ref 137, .int a1]) (r := []) (v := some (.int 0)) (σ1 := σ2) rfl rfl rfl rfl rfl rfl ?_ ?_ ?_
  · show (bif qrc _ 137 j_M_find && _ then _ else _) = _
    rw [qrc_at rfl hM1.1 rfl]
    rfl
  · exact g2
  refine GH.go 2 (fun n => (rfl : _ = exh (qxi [a0, a1, a2, a3, a4, a5] f) n (d + 10) j_L_law 615 [(0, .ref 0), (1, .ref 16), (2, .ref 137), (3, .ref 146), (4, .int 0), (5, .int 1), (6, .int 0)] [.ref 137] σ2)) ?_
  refine GH.call (k := j_M_thrown) (as := [.ref 137]) (r := []) (v := some (.int 1)) (σ1 := σ2) rfl rfl rfl rfl rfl rfl ?_ ?_ ?_
  · show (bif qrc _ 137 j_M_thrown && _ then _ else _) = _
    rw [qrc_at rfl c2 rfl]
    rfl
  · exact (pM_thrown _ σ2 1 fs c2)
  refine GH.go 5 (fun n => (rfl : _ = exh (qxi [a0, a1, a2, a3, a4, a5] f) n (d + 10) j_L_law 919 [(0, .ref 0), (1, .ref 16), (2, .ref 137), (3, .ref 146), (4, .int 0), (5, .int 1), (6, .int 0)] [] σ2)) ?_
  exact law_end d a0 a1 a2 a3 a4 a5 f σ2 [(5, .int 1), (6, .int 0)] (Or.inr (Or.inl ⟨_, _, rfl⟩))
set_option maxHeartbeats 2000000 in
theorem law_read (d : Nat) (a0 a1 a2 a3 a4 a5 : Int32) (f : Bool) (σ : qH) (hL : freshL σ) : ∃ σ9, sz 1 8010 σ σ9 ∧ GH (qxi [a0, a1, a2, a3, a4, a5] f) (d + 10) j_L_law 645 [(0, .ref 0), (1, .ref 16), (2, .ref 137), (3, .ref 146), (4, .int 0)] [] σ (some (.int 1), σ9) := by
  obtain ⟨hN, hB, hM, ⟨lc, hlc, h138⟩, h141, hout, hσ⟩ := hL
  obtain ⟨σ1, ⟨k1, y1⟩, g1⟩ := pN_read (ξ := (qxi [a0, a1, a2, a3, a4, a5] f)) d a1 a2 σ hN
  have hM1 : freshM σ1 := ⟨k1 137 _ (by decide) hM.1, k1 139 _ (by decide) hM.2⟩
  have h1381 := k1 138 _ (by decide) h138
  have h1411 := k1 141 _ (by decide) h141
  have hout1 := k1 146 _ (by decide) hout
  obtain ⟨σ2, fs, c2, ⟨o2, y2⟩, g2⟩ := pM_read (ξ := (qxi [a0, a1, a2, a3, a4, a5] f)) (d + 1) a1 a2 σ1 hM1
  have hout2 := o2 _ hout1
  have gh : GH (qxi [a0, a1, a2, a3, a4, a5] f) (d + 9) j_L_read 0 (lv_args 0 [.ref 16, .int a1, .int a2, .ref 146]) [] σ (some (.int 1), σ1) := by
    refine GH.go 5 (fun n => (rfl : _ = exh (qxi [a0, a1, a2, a3, a4, a5] f) n (d + 9) j_L_read 5 [(0, .ref 16), (1, .int a1), (2, .int a2), (3, .ref 146)] [.int a2, .int a1, .ref 16, .int 0, .ref 146] σ)) ?_
    refine GH.catch (k := j_N_read) (as := [.ref 16, .int a1, .int a2]) (r := [.int 0, .ref 146]) rfl rfl rfl ?_ g1 rfl ?_
    · show (bif qrc _ 16 j_N_read && _ then _ else _) = _
      rw [qrc_at rfl hN.1 rfl]
      rfl
    exact GH.end 3 (fun n => rfl)
  refine ⟨σ2, sz.trans y1 y2, ?_⟩
  refine GH.go 12 (fun n => (rfl : _ = exh (qxi [a0, a1, a2, a3, a4, a5] f) n (d + 10) j_L_law 659 [(0, .ref 0), (1, .ref 16), (2, .ref 137), (3, .ref 146), (4, .int 0)] [.ref 146, .int a2, .int a1, .ref 16] σ)) ?_
  refine GH.help (k := j_L_read) (as := [.ref 16, .int a1, .int a2, .ref 146]) (r := []) (v := some (.int 1)) (σ1 := σ1) rfl (fun n => rfl) rfl rfl gh ?_
  refine GH.go 12 (fun n => (rfl : _ = exh (qxi [a0, a1, a2, a3, a4, a5] f) n (d + 10) j_L_law 677 [(0, .ref 0), (1, .ref 16), (2, .ref 137), (3, .ref 146), (4, .int 0), (5, .int 1)] [.int a2, .int a1, .ref 137] σ1)) ?_
  refine GH.call (k := j_M_read) (as := [.ref 137, .int a1, .int a2]) (r := []) (v := some (.int 0)) (σ1 := σ2) rfl rfl rfl rfl rfl rfl ?_ ?_ ?_
  · show (bif qrc _ 137 j_M_read && _ then _ else _) = _
    rw [qrc_at rfl hM1.1 rfl]
    rfl
  · exact g2
  refine GH.go 2 (fun n => (rfl : _ = exh (qxi [a0, a1, a2, a3, a4, a5] f) n (d + 10) j_L_law 683 [(0, .ref 0), (1, .ref 16), (2, .ref 137), (3, .ref 146), (4, .int 0), (5, .int 1), (6, .int 0)] [.ref 137] σ2)) ?_
  refine GH.call (k := j_M_thrown) (as := [.ref 137]) (r := []) (v := some (.int 1)) (σ1 := σ2) rfl rfl rfl rfl rfl rfl ?_ ?_ ?_
  · show (bif qrc _ 137 j_M_thrown && _ then _ else _) = _
    rw [qrc_at rfl c2 rfl]
    rfl
  · exact (pM_thrown _ σ2 1 fs c2)
  refine GH.go 5 (fun n => (rfl : _ = exh (qxi [a0, a1, a2, a3, a4, a5] f) n (d + 10) j_L_law 919 [(0, .ref 0), (1, .ref 16), (2, .ref 137), (3, .ref 146), (4, .int 0), (5, .int 1), (6, .int 0)] [] σ2)) ?_
  exact law_end d a0 a1 a2 a3 a4 a5 f σ2 [(5, .int 1), (6, .int 0)] (Or.inr (Or.inl ⟨_, _, rfl⟩))
set_option maxHeartbeats 2000000 in
theorem law_mount (d : Nat) (a0 a1 a2 a3 a4 a5 : Int32) (f : Bool) (σ : qH) (hL : freshL σ) : ∃ σ9, sz 1 8010 σ σ9 ∧ GH (qxi [a0, a1, a2, a3, a4, a5] f) (d + 10) j_L_law 738 [(0, .ref 0), (1, .ref 16), (2, .ref 137), (3, .ref 146), (4, .int 0)] [] σ (some (.int 1), σ9) := by
  obtain ⟨hN, hB, hM, ⟨lc, hlc, h138⟩, h141, hout, hσ⟩ := hL
  obtain ⟨σ1, ⟨k1, y1⟩, g1⟩ := pN_mount (ξ := (qxi [a0, a1, a2, a3, a4, a5] f)) d a1 σ hN
  have hM1 : freshM σ1 := ⟨k1 137 _ (by decide) hM.1, k1 139 _ (by decide) hM.2⟩
  have h1381 := k1 138 _ (by decide) h138
  have h1411 := k1 141 _ (by decide) h141
  have hout1 := k1 146 _ (by decide) hout
  obtain ⟨σ2, fs, c2, ⟨o2, y2⟩, g2⟩ := pM_mount (ξ := (qxi [a0, a1, a2, a3, a4, a5] f)) (d + 1) a1 σ1 hM1
  have hout2 := o2 _ hout1
  have gh : GH (qxi [a0, a1, a2, a3, a4, a5] f) (d + 9) j_L_mount 0 (lv_args 0 [.ref 16, .int a1, .ref 146]) [] σ (some (.int 1), σ1) := by
    refine GH.go 4 (fun n => (rfl : _ = exh (qxi [a0, a1, a2, a3, a4, a5] f) n (d + 9) j_L_mount 4 [(0, .ref 16), (1, .int a1), (2, .ref 146)] [.int a1, .ref 16, .int 0, .ref 146] σ)) ?_
    refine GH.catch (k := j_N_mount) (as := [.ref 16, .int a1]) (r := [.int 0, .ref 146]) rfl rfl rfl ?_ g1 rfl ?_
    · show (bif qrc _ 16 j_N_mount && _ then _ else _) = _
      rw [qrc_at rfl hN.1 rfl]
      rfl
    exact GH.end 3 (fun n => rfl)
  refine ⟨σ2, sz.trans y1 y2, ?_⟩
  refine GH.go 7 (fun n => (rfl : _ = exh (qxi [a0, a1, a2, a3, a4, a5] f) n (d + 10) j_L_law 746 [(0, .ref 0), (1, .ref 16), (2, .ref 137), (3, .ref 146), (4, .int 0)] [.ref 146, .int a1, .ref 16] σ)) ?_
  refine GH.help (k := j_L_mount) (as := [.ref 16, .int a1, .ref 146]) (r := []) (v := some (.int 1)) (σ1 := σ1) rfl (fun n => rfl) rfl rfl gh ?_
  refine GH.go 7 (fun n => (rfl : _ = exh (qxi [a0, a1, a2, a3, a4, a5] f) n (d + 10) j_L_law 758 [(0, .ref 0), (1, .ref 16), (2, .ref 137), (3, .ref 146), (4, .int 0), (5, .int 1)] [.int a1, .ref 137] σ1)) ?_
  refine GH.call (k := j_M_mount) (as := [.ref 137, .int a1]) (r := []) (v := some (.int 0)) (σ1 := σ2) rfl rfl rfl rfl rfl rfl ?_ ?_ ?_
  · show (bif qrc _ 137 j_M_mount && _ then _ else _) = _
    rw [qrc_at rfl hM1.1 rfl]
    rfl
  · exact g2
  refine GH.go 2 (fun n => (rfl : _ = exh (qxi [a0, a1, a2, a3, a4, a5] f) n (d + 10) j_L_law 764 [(0, .ref 0), (1, .ref 16), (2, .ref 137), (3, .ref 146), (4, .int 0), (5, .int 1), (6, .int 0)] [.ref 137] σ2)) ?_
  refine GH.call (k := j_M_thrown) (as := [.ref 137]) (r := []) (v := some (.int 1)) (σ1 := σ2) rfl rfl rfl rfl rfl rfl ?_ ?_ ?_
  · show (bif qrc _ 137 j_M_thrown && _ then _ else _) = _
    rw [qrc_at rfl c2 rfl]
    rfl
  · exact (pM_thrown _ σ2 1 fs c2)
  refine GH.go 5 (fun n => (rfl : _ = exh (qxi [a0, a1, a2, a3, a4, a5] f) n (d + 10) j_L_law 919 [(0, .ref 0), (1, .ref 16), (2, .ref 137), (3, .ref 146), (4, .int 0), (5, .int 1), (6, .int 0)] [] σ2)) ?_
  exact law_end d a0 a1 a2 a3 a4 a5 f σ2 [(5, .int 1), (6, .int 0)] (Or.inr (Or.inl ⟨_, _, rfl⟩))
set_option maxHeartbeats 2000000 in
theorem law_index (d : Nat) (a0 a1 a2 a3 a4 a5 : Int32) (f : Bool) (σ : qH) (hL : freshL σ) : ∃ σ9, sz 1 8010 σ σ9 ∧ GH (qxi [a0, a1, a2, a3, a4, a5] f) (d + 10) j_L_law 794 [(0, .ref 0), (1, .ref 16), (2, .ref 137), (3, .ref 146), (4, .int 0)] [] σ (some (.int 1), σ9) := by
  obtain ⟨hN, hB, hM, ⟨lc, hlc, h138⟩, h141, hout, hσ⟩ := hL
  obtain ⟨σ1, ⟨k1, y1⟩, g1⟩ := pN_index (ξ := (qxi [a0, a1, a2, a3, a4, a5] f)) d σ hN
  have hM1 : freshM σ1 := ⟨k1 137 _ (by decide) hM.1, k1 139 _ (by decide) hM.2⟩
  have h1381 := k1 138 _ (by decide) h138
  have h1411 := k1 141 _ (by decide) h141
  have hout1 := k1 146 _ (by decide) hout
  obtain ⟨σ2, fs, c2, ⟨o2, y2⟩, g2⟩ := pM_index (ξ := (qxi [a0, a1, a2, a3, a4, a5] f)) (d + 1) σ1 hM1
  have hout2 := o2 _ hout1
  have gh : GH (qxi [a0, a1, a2, a3, a4, a5] f) (d + 9) j_L_index 0 (lv_args 0 [.ref 16, .ref 146]) [] σ (some (.int 1), σ1) := by
    refine GH.go 3 (fun n => (rfl : _ = exh (qxi [a0, a1, a2, a3, a4, a5] f) n (d + 9) j_L_index 3 [(0, .ref 16), (1, .ref 146)] [.ref 16, .int 0, .ref 146] σ)) ?_
    refine GH.catch (k := j_N_index) (as := [.ref 16]) (r := [.int 0, .ref 146]) rfl rfl rfl ?_ g1 rfl ?_
    · show (bif qrc _ 16 j_N_index && _ then _ else _) = _
      rw [qrc_at rfl hN.1 rfl]
      rfl
    exact GH.end 3 (fun n => rfl)
  refine ⟨σ2, sz.trans y1 y2, ?_⟩
  refine GH.go 2 (fun n => (rfl : _ = exh (qxi [a0, a1, a2, a3, a4, a5] f) n (d + 10) j_L_law 796 [(0, .ref 0), (1, .ref 16), (2, .ref 137), (3, .ref 146), (4, .int 0)] [.ref 146, .ref 16] σ)) ?_
  refine GH.help (k := j_L_index) (as := [.ref 16, .ref 146]) (r := []) (v := some (.int 1)) (σ1 := σ1) rfl (fun n => rfl) rfl rfl gh ?_
  refine GH.go 2 (fun n => (rfl : _ = exh (qxi [a0, a1, a2, a3, a4, a5] f) n (d + 10) j_L_law 802 [(0, .ref 0), (1, .ref 16), (2, .ref 137), (3, .ref 146), (4, .int 0), (5, .int 1)] [.ref 137] σ1)) ?_
  refine GH.call (k := j_M_index) (as := [.ref 137]) (r := []) (v := some (.int 0)) (σ1 := σ2) rfl rfl rfl rfl rfl rfl ?_ ?_ ?_
  · show (bif qrc _ 137 j_M_index && _ then _ else _) = _
    rw [qrc_at rfl hM1.1 rfl]
    rfl
  · exact g2
  refine GH.go 2 (fun n => (rfl : _ = exh (qxi [a0, a1, a2, a3, a4, a5] f) n (d + 10) j_L_law 808 [(0, .ref 0), (1, .ref 16), (2, .ref 137), (3, .ref 146), (4, .int 0), (5, .int 1), (6, .int 0)] [.ref 137] σ2)) ?_
  refine GH.call (k := j_M_thrown) (as := [.ref 137]) (r := []) (v := some (.int 1)) (σ1 := σ2) rfl rfl rfl rfl rfl rfl ?_ ?_ ?_
  · show (bif qrc _ 137 j_M_thrown && _ then _ else _) = _
    rw [qrc_at rfl c2 rfl]
    rfl
  · exact (pM_thrown _ σ2 1 fs c2)
  refine GH.go 5 (fun n => (rfl : _ = exh (qxi [a0, a1, a2, a3, a4, a5] f) n (d + 10) j_L_law 919 [(0, .ref 0), (1, .ref 16), (2, .ref 137), (3, .ref 146), (4, .int 0), (5, .int 1), (6, .int 0)] [] σ2)) ?_
  exact law_end d a0 a1 a2 a3 a4 a5 f σ2 [(5, .int 1), (6, .int 0)] (Or.inr (Or.inl ⟨_, _, rfl⟩))
set_option maxHeartbeats 2000000 in
theorem law_attribute (d : Nat) (a0 a1 a2 a3 a4 a5 : Int32) (f : Bool) (σ : qH) (hL : freshL σ) : ∃ σ9, sz 1 8010 σ σ9 ∧ GH (qxi [a0, a1, a2, a3, a4, a5] f) (d + 10) j_L_law 838 [(0, .ref 0), (1, .ref 16), (2, .ref 137), (3, .ref 146), (4, .int 0)] [] σ (some (.int 1), σ9) := by
  obtain ⟨hN, hB, hM, ⟨lc, hlc, h138⟩, h141, hout, hσ⟩ := hL
  obtain ⟨σ1, ⟨k1, y1⟩, g1⟩ := pN_attribute (ξ := (qxi [a0, a1, a2, a3, a4, a5] f)) d a1 σ hN
  have hM1 : freshM σ1 := ⟨k1 137 _ (by decide) hM.1, k1 139 _ (by decide) hM.2⟩
  have h1381 := k1 138 _ (by decide) h138
  have h1411 := k1 141 _ (by decide) h141
  have hout1 := k1 146 _ (by decide) hout
  obtain ⟨σ2, fs, c2, ⟨o2, y2⟩, g2⟩ := pM_attribute (ξ := (qxi [a0, a1, a2, a3, a4, a5] f)) (d + 1) a1 σ1 hM1
  have hout2 := o2 _ hout1
  have gh : GH (qxi [a0, a1, a2, a3, a4, a5] f) (d + 9) j_L_attribute 0 (lv_args 0 [.ref 16, .int a1, .ref 146]) [] σ (some (.int 1), σ1) := by
    refine GH.go 4 (fun n => (rfl : _ = exh (qxi [a0, a1, a2, a3, a4, a5] f) n (d + 9) j_L_attribute 4 [(0, .ref 16), (1, .int a1), (2, .ref 146)] [.int a1, .ref 16, .int 0, .ref 146] σ)) ?_
    refine GH.catch (k := j_N_attribute) (as := [.ref 16, .int a1]) (r := [.int 0, .ref 146]) rfl rfl rfl ?_ g1 rfl ?_
    · show (bif qrc _ 16 j_N_attribute && _ then _ else _) = _
      rw [qrc_at rfl hN.1 rfl]
      rfl
    exact GH.end 3 (fun n => rfl)
  refine ⟨σ2, sz.trans y1 y2, ?_⟩
  refine GH.go 7 (fun n => (rfl : _ = exh (qxi [a0, a1, a2, a3, a4, a5] f) n (d + 10) j_L_law 846 [(0, .ref 0), (1, .ref 16), (2, .ref 137), (3, .ref 146), (4, .int 0)] [.ref 146, .int a1, .ref 16] σ)) ?_
  refine GH.help (k := j_L_attribute) (as := [.ref 16, .int a1, .ref 146]) (r := []) (v := some (.int 1)) (σ1 := σ1) rfl (fun n => rfl) rfl rfl gh ?_
  refine GH.go 7 (fun n => (rfl : _ = exh (qxi [a0, a1, a2, a3, a4, a5] f) n (d + 10) j_L_law 858 [(0, .ref 0), (1, .ref 16), (2, .ref 137), (3, .ref 146), (4, .int 0), (5, .int 1)] [.int a1, .ref 137] σ1)) ?_
  refine GH.call (k := j_M_attribute) (as := [.ref 137, .int a1]) (r := []) (v := some (.int 0)) (σ1 := σ2) rfl rfl rfl rfl rfl rfl ?_ ?_ ?_
  · show (bif qrc _ 137 j_M_attribute && _ then _ else _) = _
    rw [qrc_at rfl hM1.1 rfl]
    rfl
  · exact g2
  refine GH.go 2 (fun n => (rfl : _ = exh (qxi [a0, a1, a2, a3, a4, a5] f) n (d + 10) j_L_law 864 [(0, .ref 0), (1, .ref 16), (2, .ref 137), (3, .ref 146), (4, .int 0), (5, .int 1), (6, .int 0)] [.ref 137] σ2)) ?_
  refine GH.call (k := j_M_thrown) (as := [.ref 137]) (r := []) (v := some (.int 1)) (σ1 := σ2) rfl rfl rfl rfl rfl rfl ?_ ?_ ?_
  · show (bif qrc _ 137 j_M_thrown && _ then _ else _) = _
    rw [qrc_at rfl c2 rfl]
    rfl
  · exact (pM_thrown _ σ2 1 fs c2)
  refine GH.go 5 (fun n => (rfl : _ = exh (qxi [a0, a1, a2, a3, a4, a5] f) n (d + 10) j_L_law 919 [(0, .ref 0), (1, .ref 16), (2, .ref 137), (3, .ref 146), (4, .int 0), (5, .int 1), (6, .int 0)] [] σ2)) ?_
  exact law_end d a0 a1 a2 a3 a4 a5 f σ2 [(5, .int 1), (6, .int 0)] (Or.inr (Or.inl ⟨_, _, rfl⟩))
set_option maxHeartbeats 2000000 in
theorem law_find2 (d : Nat) (a0 a1 a2 a3 a4 a5 : Int32) (f : Bool) (σ : qH) (hL : freshL σ) (c3 : ¬ a1 < 1) (c1 : 1 ≤ a1) (c2 : 0 < a1) : ∃ σ9, sz 1 8010 σ σ9 ∧ GH (qxi [a0, a1, a2, a3, a4, a5] f) (d + 10) j_L_law 589 [(0, .ref 0), (1, .ref 16), (2, .ref 137), (3, .ref 146), (4, .int 0)] [] σ (some (.int 1), σ9) := by
  obtain ⟨hN, hB, hM, ⟨lc, hlc, h138⟩, h141, hout, hσ⟩ := hL
  obtain ⟨σ1, ⟨k1, y1⟩, g1⟩ := pN_find2 (ξ := (qxi [a0, a1, a2, a3, a4, a5] f)) d a1 σ hN c3 c1 c2
  have hM1 : freshM σ1 := ⟨k1 137 _ (by decide) hM.1, k1 139 _ (by decide) hM.2⟩
  have h1381 := k1 138 _ (by decide) h138
  have h1411 := k1 141 _ (by decide) h141
  have hout1 := k1 146 _ (by decide) hout
  obtain ⟨σ1b, hσ1b⟩ : ∃ z, z = σ1.set 146 (.inr (.inr (.inl [(-1 : Int32).toInt64]))) := ⟨_, rfl⟩
  have hM1 : freshM σ1b := by rw [hσ1b]; exact ⟨qs_ne (by decide) hM1.1, qs_ne (by decide) hM1.2⟩
  have y1 : sz 1 8010 σ σ1b := by rw [hσ1b]; exact sz.set y1 hout1 rfl
  have hout1 : σ1b[146]? = some (.inr (.inr (.inl [(-1 : Int32).toInt64]))) := by rw [hσ1b]; exact qs_at hout1
  obtain ⟨σ2, fs, c2, ⟨o2, y2⟩, g2⟩ := pM_find2 (ξ := (qxi [a0, a1, a2, a3, a4, a5] f)) (d + 1) a1 σ1b hM1 c1 c2
  have hout2 := o2 _ hout1
  have gh : GH (qxi [a0, a1, a2, a3, a4, a5] f) (d + 9) j_L_find 0 (lv_args 0 [.ref 16, .int a1, .ref 146]) [] σ (some (.int 0), σ1b) := by
    refine GH.go 4 (fun n => (rfl : _ = exh (qxi [a0, a1, a2, a3, a4, a5] f) n (d + 9) j_L_find 4 [(0, .ref 16), (1, .int a1), (2, .ref 146)] [.int a1, .ref 16, .int 0, .ref 146] σ)) ?_
    refine GH.call (k := j_N_find) (as := [.ref 16, .int a1]) (r := [.int 0, .ref 146]) (v := some (.int (-1))) rfl rfl rfl rfl rfl rfl ?_ g1 ?_
    · show (bif qrc _ 16 j_N_find && _ then _ else _) = _
      rw [qrc_at rfl hN.1 rfl]
      rfl
    refine GH.go 1 (fun n => (rfl : _ = exh (qxi [a0, a1, a2, a3, a4, a5] f) n (d + 9) j_L_find 8 [(0, .ref 16), (1, .int a1), (2, .ref 146)] [.long ((-1 : Int32).toInt64), .int 0, .ref 146] σ1)) ?_
    refine GH.last rfl (k1 146 _ (by decide) hout) rfl ?_
    rw [hσ1b]
    exact GH.end 3 (fun n => rfl)
  refine ⟨σ2, sz.trans y1 y2, ?_⟩
  refine GH.go 7 (fun n => (rfl : _ = exh (qxi [a0, a1, a2, a3, a4, a5] f) n (d + 10) j_L_law 597 [(0, .ref 0), (1, .ref 16), (2, .ref 137), (3, .ref 146), (4, .int 0)] [.ref 146, .int a1, .ref 16] σ)) ?_
  refine GH.help (k := j_L_find) (as := [.ref 16, .int a1, .ref 146]) (r := []) (v := some (.int 0)) (σ1 := σ1b) rfl (fun n => rfl) rfl rfl gh ?_
  refine GH.go 7 (fun n => (rfl : _ = exh (qxi [a0, a1, a2, a3, a4, a5] f) n (d + 10) j_L_law 609 [(0, .ref 0), (1, .ref 16), (2, .ref 137), (3, .ref 146), (4, .int 0), (5, .int 0)] [.int a1, .ref 137] σ1b)) ?_
  refine GH.call (k := j_M_find) (as := [.ref 137, .int a1]) (r := []) (v := some (.int (-1))) (σ1 := σ2) rfl rfl rfl rfl rfl rfl ?_ ?_ ?_
  · show (bif qrc _ 137 j_M_find && _ then _ else _) = _
    rw [qrc_at rfl hM1.1 rfl]
    rfl
  · exact g2
  refine GH.go 2 (fun n => (rfl : _ = exh (qxi [a0, a1, a2, a3, a4, a5] f) n (d + 10) j_L_law 615 [(0, .ref 0), (1, .ref 16), (2, .ref 137), (3, .ref 146), (4, .int 0), (5, .int 0), (6, .int (-1))] [.ref 137] σ2)) ?_
  refine GH.call (k := j_M_thrown) (as := [.ref 137]) (r := []) (v := some (.int 0)) (σ1 := σ2) rfl rfl rfl rfl rfl rfl ?_ ?_ ?_
  · show (bif qrc _ 137 j_M_thrown && _ then _ else _) = _
    rw [qrc_at rfl c2 rfl]
    rfl
  · exact (pM_thrown _ σ2 0 fs c2)
  refine GH.go 6 (fun n => (rfl : _ = exh (qxi [a0, a1, a2, a3, a4, a5] f) n (d + 10) j_L_law 632 [(0, .ref 0), (1, .ref 16), (2, .ref 137), (3, .ref 146), (4, .int 0), (5, .int 0), (6, .int (-1))] [.int 0, .ref 146] σ2)) ?_
  refine GH.lald rfl hout2 rfl ?_
  refine GH.go 5 (fun n => (rfl : _ = exh (qxi [a0, a1, a2, a3, a4, a5] f) n (d + 10) j_L_law 919 [(0, .ref 0), (1, .ref 16), (2, .ref 137), (3, .ref 146), (4, .int 0), (5, .int 0), (6, .int (-1))] [] σ2)) ?_
  exact law_end d a0 a1 a2 a3 a4 a5 f σ2 [(5, .int 0), (6, .int (-1))] (Or.inr (Or.inl ⟨_, _, rfl⟩))
