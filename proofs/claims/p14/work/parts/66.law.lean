theorem law_0 {s : List Int32} {f : Bool} (d : Nat) {k i : Int} {σ : qH} (hL : LI k σ) (hi : 0 ≤ i ∧ i + 6 ≤ s.length ∧ s.length ≤ 3072) (hb : ∀ σ' : qH, LI (k + 1) σ' → TH (qxj s f) (d + 11) j_L_law 668 [(0, .ref 0), (1, .ref 16), (2, .ref 137), (3, .ref 146), (4, J i)] [] σ' LQ) : TH (qxj s f) (d + 11) j_L_law 124 [(0, .ref 0), (1, .ref 16), (2, .ref 137), (3, .ref 146), (4, J i)] [] σ LQ := by
  have hX := XT_j s f
  obtain ⟨t, g, g1, f1, lm, io, mo, ln, ns, r3, f3, r6, f6, hJ⟩ := hL
  obtain ⟨hK, ⟨hT, hA, hN, hR, hX9, hio, hV⟩, ⟨cc, hI⟩, -, -⟩ := id hJ
  obtain ⟨fN, cN⟩ := hK.cls
  refine TH.go 4 (fun n9 => (rfl : _ = exh (qxj s f) n9 (d + 11) j_L_law 129 [(0, .ref 0), (1, .ref 16), (2, .ref 137), (3, .ref 146), (4, J i)] [J 1, J i, .ref 0, .ref 16] σ)) ?_
  refine TH.iadd rfl ?_
  refine TH.xld rfl rfl rfl (by omega) (fun z1 hzz1 hyz1 hez1 => ?_)
  refine TH.go 3 (fun n9 => (rfl : _ = exh (qxj s f) n9 (d + 11) j_L_law 135 [(0, .ref 0), (1, .ref 16), (2, .ref 137), (3, .ref 146), (4, J i)] [J 2, J i, .ref 0, J z1, .ref 16] σ)) ?_
  refine TH.iadd rfl ?_
  refine TH.xld rfl rfl rfl (by omega) (fun z2 hzz2 hyz2 hez2 => ?_)
  refine TH.go 3 (fun n9 => (rfl : _ = exh (qxj s f) n9 (d + 11) j_L_law 141 [(0, .ref 0), (1, .ref 16), (2, .ref 137), (3, .ref 146), (4, J i)] [J 3, J i, .ref 0, J z2, J z1, .ref 16] σ)) ?_
  refine TH.iadd rfl ?_
  refine TH.xld rfl rfl rfl (by omega) (fun z3 hzz3 hyz3 hez3 => ?_)
  refine TH.go 3 (fun n9 => (rfl : _ = exh (qxj s f) n9 (d + 11) j_L_law 147 [(0, .ref 0), (1, .ref 16), (2, .ref 137), (3, .ref 146), (4, J i)] [J 4, J i, .ref 0, J z3, J z2, J z1, .ref 16] σ)) ?_
  refine TH.iadd rfl ?_
  refine TH.xld rfl rfl rfl (by omega) (fun z4 hzz4 hyz4 hez4 => ?_)
  refine TH.go 3 (fun n9 => (rfl : _ = exh (qxj s f) n9 (d + 11) j_L_law 153 [(0, .ref 0), (1, .ref 16), (2, .ref 137), (3, .ref 146), (4, J i)] [J 5, J i, .ref 0, J z4, J z3, J z2, J z1, .ref 16] σ)) ?_
  refine TH.iadd rfl ?_
  refine TH.xld rfl rfl rfl (by omega) (fun z5 hzz5 hyz5 hez5 => ?_)
  obtain ⟨tp, ou, e9, e10⟩ := na_910 hK
  refine TH.callv (as := [J z1, J z2, J z3, J z4, J z5]) (r := []) rfl rfl rfl rfl cN rfl (s_N_hfeed (d + 2) tp ou z1 z2 z3 z4 z5 σ hK e9 e10 (by omega) (by omega) (by omega) (by omega) (by omega)) (fun v s1 hqs1 => ?_)
  obtain ⟨y1, rfl, gs1, hzy1, hyy1, us1, ws1, uas1, ubs1⟩ := hqs1
  have cs1 := CL.fr gs1
  have ts1 : tl s1 = tl s1 := rfl
  have rs1 := R7_tape hR hK hN e9 gs1
  have hx := X9_tape hX9 hK hN e9 gs1
  have hv := VW_tape hV hK hN e9 gs1
  obtain ⟨fM, cM⟩ := cs1.1.mod
  have js1 := hI.frame cs1.2.1
  refine TH.go 5 (fun n9 => (rfl : _ = exh (qxj s f) n9 (d + 11) j_L_law 164 [(0, .ref 0), (1, .ref 16), (2, .ref 137), (3, .ref 146), (4, J i)] [J 1, J i, .ref 0, .ref 137] s1)) ?_
  refine TH.iadd rfl ?_
  refine TH.xld rfl rfl rfl (by omega) (fun z6 hzz6 hyz6 hez6 => ?_)
  obtain rfl : z1 = z6 := (ld_eq hez1 hez6 ⟨hzz1, hyz1⟩ ⟨hzz6, hyz6⟩).symm
  refine TH.go 3 (fun n9 => (rfl : _ = exh (qxj s f) n9 (d + 11) j_L_law 170 [(0, .ref 0), (1, .ref 16), (2, .ref 137), (3, .ref 146), (4, J i)] [J 2, J i, .ref 0, J z1, .ref 137] s1)) ?_
  refine TH.iadd rfl ?_
  refine TH.xld rfl rfl rfl (by omega) (fun z7 hzz7 hyz7 hez7 => ?_)
  obtain rfl : z2 = z7 := (ld_eq hez2 hez7 ⟨hzz2, hyz2⟩ ⟨hzz7, hyz7⟩).symm
  refine TH.go 3 (fun n9 => (rfl : _ = exh (qxj s f) n9 (d + 11) j_L_law 176 [(0, .ref 0), (1, .ref 16), (2, .ref 137), (3, .ref 146), (4, J i)] [J 3, J i, .ref 0, J z2, J z1, .ref 137] s1)) ?_
  refine TH.iadd rfl ?_
  refine TH.xld rfl rfl rfl (by omega) (fun z8 hzz8 hyz8 hez8 => ?_)
  obtain rfl : z3 = z8 := (ld_eq hez3 hez8 ⟨hzz3, hyz3⟩ ⟨hzz8, hyz8⟩).symm
  refine TH.go 3 (fun n9 => (rfl : _ = exh (qxj s f) n9 (d + 11) j_L_law 182 [(0, .ref 0), (1, .ref 16), (2, .ref 137), (3, .ref 146), (4, J i)] [J 4, J i, .ref 0, J z3, J z2, J z1, .ref 137] s1)) ?_
  refine TH.iadd rfl ?_
  refine TH.xld rfl rfl rfl (by omega) (fun z9 hzz9 hyz9 hez9 => ?_)
  obtain rfl : z4 = z9 := (ld_eq hez4 hez9 ⟨hzz4, hyz4⟩ ⟨hzz9, hyz9⟩).symm
  refine TH.go 3 (fun n9 => (rfl : _ = exh (qxj s f) n9 (d + 11) j_L_law 188 [(0, .ref 0), (1, .ref 16), (2, .ref 137), (3, .ref 146), (4, J i)] [J 5, J i, .ref 0, J z4, J z3, J z2, J z1, .ref 137] s1)) ?_
  refine TH.iadd rfl ?_
  refine TH.xld rfl rfl rfl (by omega) (fun z10 hzz10 hyz10 hez10 => ?_)
  obtain rfl : z5 = z10 := (ld_eq hez5 hez10 ⟨hzz5, hyz5⟩ ⟨hzz10, hyz10⟩).symm
  refine TH.callv (as := [J z1, J z2, J z3, J z4, J z5]) (r := []) rfl rfl rfl rfl cM rfl (m_M_feed (d + 0) z1 z2 z3 z4 z5 cs1.1 js1 (by omega) (by omega) (by omega) (by omega) (by omega)) (fun v s2 hqs2 => ?_)
  obtain ⟨y2, ts2, gs2, cs2, rfl, rs2, ⟨qas2, qbs2⟩, ks2, js2, fs2⟩ := hqs2
  have ag : AGT s1 gs2 := by
    by_cases h9 : t ≤ 7980
    · rw [(qas2 h9).2.2]; have u9 := uas1 g hA (by omega); rw [hT] at u9; exact u9
    · rw [(qbs2 (by omega)).2.2]; exact ubs1 g hA (by omega)
  have qcs2 : (t ≤ 7980 → y2 = 1 ∧ ts2 = t + 20) ∧ (7980 < t → y2 = 0 ∧ ts2 = t) := ⟨fun h => ⟨(qas2 h).1, (qas2 h).2.1⟩, fun h => ⟨(qbs2 h).1, (qbs2 h).2.1⟩⟩
  refine TH.go 2 (fun n9 => (rfl : _ = exh (qxj s f) n9 (d + 11) j_L_law 668 [(0, .ref 0), (1, .ref 16), (2, .ref 137), (3, .ref 146), (4, J i)] [] s2)) ?_
  exact hb _ (hJ.next cs1 ks2 js2 fs2 ts1 (by omega) ag rs1 hx hio hv)
theorem law_1 {s : List Int32} {f : Bool} (d : Nat) {k i : Int} {σ : qH} (hL : LI k σ) (hi : 0 ≤ i ∧ i + 6 ≤ s.length ∧ s.length ≤ 3072) (hb : ∀ σ' : qH, LI (k + 1) σ' → TH (qxj s f) (d + 11) j_L_law 668 [(0, .ref 0), (1, .ref 16), (2, .ref 137), (3, .ref 146), (4, J i)] [] σ' LQ) : TH (qxj s f) (d + 11) j_L_law 197 [(0, .ref 0), (1, .ref 16), (2, .ref 137), (3, .ref 146), (4, J i)] [] σ LQ := by
  have hX := XT_j s f
  obtain ⟨t, g, g1, f1, lm, io, mo, ln, ns, r3, f3, r6, f6, hJ⟩ := hL
  obtain ⟨hK, ⟨hT, hA, hN, hR, hX9, hio, hV⟩, ⟨cc, hI⟩, -, -⟩ := id hJ
  obtain ⟨fN, cN⟩ := hK.cls
  refine TH.go 4 (fun n9 => (rfl : _ = exh (qxj s f) n9 (d + 11) j_L_law 202 [(0, .ref 0), (1, .ref 16), (2, .ref 137), (3, .ref 146), (4, J i)] [J 1, J i, .ref 0, .ref 16] σ)) ?_
  refine TH.iadd rfl ?_
  refine TH.xld rfl rfl rfl (by omega) (fun z1 hzz1 hyz1 hez1 => ?_)
  obtain ⟨tp, ou, e9, e10⟩ := na_910 hK
  refine TH.callv (as := [J z1]) (r := []) rfl rfl rfl rfl cN rfl (s_N_hend (d + 2) tp ou z1 σ hK e9 e10 (by omega)) (fun v s1 hqs1 => ?_)
  obtain ⟨y1, rfl, gs1, hzy1, hyy1, us1, ws1, uas1⟩ := hqs1
  have cs1 := CL.fr gs1
  have ts1 : tl s1 = tl s1 := rfl
  have as1 := uas1 g hA
  have rs1 := R7_tape hR hK hN e9 gs1
  have hx := X9_tape hX9 hK hN e9 gs1
  have hv := VW_tape hV hK hN e9 gs1
  obtain ⟨fM, cM⟩ := cs1.1.mod
  have js1 := hI.frame cs1.2.1
  refine TH.go 5 (fun n9 => (rfl : _ = exh (qxj s f) n9 (d + 11) j_L_law 213 [(0, .ref 0), (1, .ref 16), (2, .ref 137), (3, .ref 146), (4, J i)] [J 1, J i, .ref 0, .ref 137] s1)) ?_
  refine TH.iadd rfl ?_
  refine TH.xld rfl rfl rfl (by omega) (fun z2 hzz2 hyz2 hez2 => ?_)
  obtain rfl : z1 = z2 := (ld_eq hez1 hez2 ⟨hzz1, hyz1⟩ ⟨hzz2, hyz2⟩).symm
  refine TH.callv (as := [J z1]) (r := []) rfl rfl rfl rfl cM rfl (m_M_end (d + 0) z1 cs1.1 js1 (by omega)) (fun v s2 hqs2 => ?_)
  obtain ⟨y2, ts2, cs2, rfl, rs2, ⟨qas2, qbs2⟩, ks2, js2, fs2⟩ := hqs2
  refine TH.go 2 (fun n9 => (rfl : _ = exh (qxj s f) n9 (d + 11) j_L_law 668 [(0, .ref 0), (1, .ref 16), (2, .ref 137), (3, .ref 146), (4, J i)] [] s2)) ?_
  exact hb _ (hJ.next cs1 ks2 js2 fs2 ts1 (by omega) as1 rs1 hx hio hv)
theorem law_2 {s : List Int32} {f : Bool} (d : Nat) {k i : Int} {σ : qH} (hL : LI k σ) (hi : 0 ≤ i ∧ i + 6 ≤ s.length ∧ s.length ≤ 3072) (hb : ∀ σ' : qH, LI (k + 1) σ' → TH (qxj s f) (d + 11) j_L_law 668 [(0, .ref 0), (1, .ref 16), (2, .ref 137), (3, .ref 146), (4, J i)] [] σ' LQ) : TH (qxj s f) (d + 11) j_L_law 222 [(0, .ref 0), (1, .ref 16), (2, .ref 137), (3, .ref 146), (4, J i)] [] σ LQ := by
  have hX := XT_j s f
  obtain ⟨t, g, g1, f1, lm, io, mo, ln, ns, r3, f3, r6, f6, hJ⟩ := hL
  obtain ⟨hK, ⟨hT, hA, hN, hR, hX9, hio, hV⟩, ⟨cc, hI⟩, -, -⟩ := id hJ
  obtain ⟨fN, cN⟩ := hK.cls
  refine TH.go 2 (fun n9 => (rfl : _ = exh (qxj s f) n9 (d + 11) j_L_law 224 [(0, .ref 0), (1, .ref 16), (2, .ref 137), (3, .ref 146), (4, J i)] [.ref 146, .ref 16] σ)) ?_
  refine TH.help rfl (fun n9 => rfl) rfl rfl (h_L_open (d + 0)  hK hN hA hR hX9 hV hio hI.r.1 hI.r.2 hI.io.2.2 hI.fo ) (fun v s1 hqs1 => ?_)
  obtain ⟨y1, rfl, rs1, cs1, ts1, hh, hxo, hv⟩ := hqs1
  rw [hT] at hh hxo
  obtain ⟨fM, cM⟩ := cs1.1.mod
  have js1 := hI.frame cs1.2.1
  refine TH.go 2 (fun n9 => (rfl : _ = exh (qxj s f) n9 (d + 11) j_L_law 230 [(0, .ref 0), (1, .ref 16), (2, .ref 137), (3, .ref 146), (4, J i), (5, J y1)] [.ref 137] s1)) ?_
  refine TH.callv (as := []) (r := []) rfl rfl rfl rfl cM rfl (m_M_open (d + 0)  cs1.1 js1 ) (fun v s2 hqs2 => ?_)
  obtain ⟨y2, gs2, f1s2, ios2, mos2, f3s2, cs2, rfl, rs2, qs2, ks2, js2, fs2⟩ := hqs2
  have ag : AGT s1 g := AGT_0 cs1.1 ts1
  have hr := open_both hh qs2.1
  have hx := xopen_both hxo qs2.2
  have hio9 := op_io hio qs2.1
  refine TH.go 2 (fun n9 => (rfl : _ = exh (qxj s f) n9 (d + 11) j_L_law 668 [(0, .ref 0), (1, .ref 16), (2, .ref 137), (3, .ref 146), (4, J i), (5, J y1), (6, J y2)] [] s2)) ?_
  refine TH.drop (lv := [(0, .ref 0), (1, .ref 16), (2, .ref 137), (3, .ref 146), (4, J i)]) [(5, J y1), (6, J y2)] (by simp) ?_
  exact hb _ (hJ.next cs1 ks2 js2 fs2 ts1 (by omega) ag hr hx hio9 hv)
theorem law_3 {s : List Int32} {f : Bool} (d : Nat) {k i : Int} {σ : qH} (hL : LI k σ) (hi : 0 ≤ i ∧ i + 6 ≤ s.length ∧ s.length ≤ 3072) (hb : ∀ σ' : qH, LI (k + 1) σ' → TH (qxj s f) (d + 11) j_L_law 668 [(0, .ref 0), (1, .ref 16), (2, .ref 137), (3, .ref 146), (4, J i)] [] σ' LQ) : TH (qxj s f) (d + 11) j_L_law 238 [(0, .ref 0), (1, .ref 16), (2, .ref 137), (3, .ref 146), (4, J i)] [] σ LQ := by
  have hX := XT_j s f
  obtain ⟨t, g, g1, f1, lm, io, mo, ln, ns, r3, f3, r6, f6, hJ⟩ := hL
  obtain ⟨hK, ⟨hT, hA, hN, hR, hX9, hio, hV⟩, ⟨cc, hI⟩, -, -⟩ := id hJ
  obtain ⟨fN, cN⟩ := hK.cls
  refine TH.go 1 (fun n9 => (rfl : _ = exh (qxj s f) n9 (d + 11) j_L_law 239 [(0, .ref 0), (1, .ref 16), (2, .ref 137), (3, .ref 146), (4, J i)] [.ref 16] σ)) ?_
  refine TH.callv (as := []) (r := []) rfl rfl rfl rfl cN rfl (s_N_fault (d + 2)  σ hK ) (fun v s1 hqs1 => ?_)
  obtain ⟨y1, rfl, es1, hzy1, hyy1⟩ := hqs1
  have cs1 : CL σ s1 := by rw [es1]; exact CL.refl hK
  have ts1 : tl s1 = t := by rw [es1]; exact hT
  have as1 : AGT s1 g := by rw [es1]; exact hA
  have rs1 : R7 s1 g1 f1 lm io mo := by rw [es1]; exact hR
  have x9s1 : X9 s1 ln ns r3 f3 := by rw [es1]; exact hX9
  have v9s1 : VW s1 r6 f6 := by rw [es1]; exact hV
  obtain ⟨fM, cM⟩ := cs1.1.mod
  have js1 := hI.frame cs1.2.1
  refine TH.go 2 (fun n9 => (rfl : _ = exh (qxj s f) n9 (d + 11) j_L_law 244 [(0, .ref 0), (1, .ref 16), (2, .ref 137), (3, .ref 146), (4, J i)] [.ref 137] s1)) ?_
  refine TH.callv (as := []) (r := []) rfl rfl rfl rfl cM rfl (m_M_fault (d + 0)  cs1.1 js1 ) (fun v s2 hqs2 => ?_)
  obtain ⟨y2, cs2, rfl, rs2, qs2, ks2, js2, fs2⟩ := hqs2
  refine TH.go 2 (fun n9 => (rfl : _ = exh (qxj s f) n9 (d + 11) j_L_law 668 [(0, .ref 0), (1, .ref 16), (2, .ref 137), (3, .ref 146), (4, J i)] [] s2)) ?_
  exact hb _ (hJ.next cs1 ks2 js2 fs2 ts1 (by omega) as1 rs1 x9s1 hio v9s1)
theorem law_4 {s : List Int32} {f : Bool} (d : Nat) {k i : Int} {σ : qH} (hL : LI k σ) (hi : 0 ≤ i ∧ i + 6 ≤ s.length ∧ s.length ≤ 3072) (hb : ∀ σ' : qH, LI (k + 1) σ' → TH (qxj s f) (d + 11) j_L_law 668 [(0, .ref 0), (1, .ref 16), (2, .ref 137), (3, .ref 146), (4, J i)] [] σ' LQ) : TH (qxj s f) (d + 11) j_L_law 251 [(0, .ref 0), (1, .ref 16), (2, .ref 137), (3, .ref 146), (4, J i)] [] σ LQ := by
  have hX := XT_j s f
  obtain ⟨t, g, g1, f1, lm, io, mo, ln, ns, r3, f3, r6, f6, hJ⟩ := hL
  obtain ⟨hK, ⟨hT, hA, hN, hR, hX9, hio, hV⟩, ⟨cc, hI⟩, -, -⟩ := id hJ
  obtain ⟨fN, cN⟩ := hK.cls
  refine TH.go 1 (fun n9 => (rfl : _ = exh (qxj s f) n9 (d + 11) j_L_law 252 [(0, .ref 0), (1, .ref 16), (2, .ref 137), (3, .ref 146), (4, J i)] [.ref 16] σ)) ?_
  refine TH.callv (as := []) (r := []) rfl rfl rfl rfl cN rfl (s_N_place (d + 2)  σ hK ) (fun v s1 hqs1 => ?_)
  obtain ⟨y1, rfl, es1, hzy1, hyy1⟩ := hqs1
  have cs1 : CL σ s1 := by rw [es1]; exact CL.refl hK
  have ts1 : tl s1 = t := by rw [es1]; exact hT
  have as1 : AGT s1 g := by rw [es1]; exact hA
  have rs1 : R7 s1 g1 f1 lm io mo := by rw [es1]; exact hR
  have x9s1 : X9 s1 ln ns r3 f3 := by rw [es1]; exact hX9
  have v9s1 : VW s1 r6 f6 := by rw [es1]; exact hV
  obtain ⟨fM, cM⟩ := cs1.1.mod
  have js1 := hI.frame cs1.2.1
  refine TH.go 2 (fun n9 => (rfl : _ = exh (qxj s f) n9 (d + 11) j_L_law 257 [(0, .ref 0), (1, .ref 16), (2, .ref 137), (3, .ref 146), (4, J i)] [.ref 137] s1)) ?_
  refine TH.callv (as := []) (r := []) rfl rfl rfl rfl cM rfl (m_M_place (d + 0)  cs1.1 js1 ) (fun v s2 hqs2 => ?_)
  obtain ⟨y2, cs2, rfl, rs2, qs2, ks2, js2, fs2⟩ := hqs2
  refine TH.go 2 (fun n9 => (rfl : _ = exh (qxj s f) n9 (d + 11) j_L_law 668 [(0, .ref 0), (1, .ref 16), (2, .ref 137), (3, .ref 146), (4, J i)] [] s2)) ?_
  exact hb _ (hJ.next cs1 ks2 js2 fs2 ts1 (by omega) as1 rs1 x9s1 hio v9s1)
theorem law_5 {s : List Int32} {f : Bool} (d : Nat) {k i : Int} {σ : qH} (hL : LI k σ) (hi : 0 ≤ i ∧ i + 6 ≤ s.length ∧ s.length ≤ 3072) (hb : ∀ σ' : qH, LI (k + 1) σ' → TH (qxj s f) (d + 11) j_L_law 668 [(0, .ref 0), (1, .ref 16), (2, .ref 137), (3, .ref 146), (4, J i)] [] σ' LQ) : TH (qxj s f) (d + 11) j_L_law 264 [(0, .ref 0), (1, .ref 16), (2, .ref 137), (3, .ref 146), (4, J i)] [] σ LQ := by
  have hX := XT_j s f
  obtain ⟨t, g, g1, f1, lm, io, mo, ln, ns, r3, f3, r6, f6, hJ⟩ := hL
  obtain ⟨hK, ⟨hT, hA, hN, hR, hX9, hio, hV⟩, ⟨cc, hI⟩, -, -⟩ := id hJ
  obtain ⟨fN, cN⟩ := hK.cls
  refine TH.go 4 (fun n9 => (rfl : _ = exh (qxj s f) n9 (d + 11) j_L_law 269 [(0, .ref 0), (1, .ref 16), (2, .ref 137), (3, .ref 146), (4, J i)] [J 1, J i, .ref 0, .ref 16] σ)) ?_
  refine TH.iadd rfl ?_
  refine TH.xld rfl rfl rfl (by omega) (fun z1 hzz1 hyz1 hez1 => ?_)
  refine TH.callv (as := [J z1]) (r := []) rfl rfl rfl rfl cN rfl (s_N_fcount (d + 2) z1 σ hK (by omega)) (fun v s1 hqs1 => ?_)
  obtain ⟨y1, rfl, es1, hzy1, hyy1, hh0⟩ := hqs1
  have cs1 : CL σ s1 := by rw [es1]; exact CL.refl hK
  have ts1 : tl s1 = t := by rw [es1]; exact hT
  have as1 : AGT s1 g := by rw [es1]; exact hA
  have rs1 : R7 s1 g1 f1 lm io mo := by rw [es1]; exact hR
  have x9s1 : X9 s1 ln ns r3 f3 := by rw [es1]; exact hX9
  have v9s1 : VW s1 r6 f6 := by rw [es1]; exact hV
  have hh : HCt σ z1 y1 := hh0
  clear hh0
  obtain ⟨fM, cM⟩ := cs1.1.mod
  have js1 := hI.frame cs1.2.1
  refine TH.go 5 (fun n9 => (rfl : _ = exh (qxj s f) n9 (d + 11) j_L_law 280 [(0, .ref 0), (1, .ref 16), (2, .ref 137), (3, .ref 146), (4, J i)] [J 1, J i, .ref 0, .ref 137] s1)) ?_
  refine TH.iadd rfl ?_
  refine TH.xld rfl rfl rfl (by omega) (fun z2 hzz2 hyz2 hez2 => ?_)
  obtain rfl : z1 = z2 := (ld_eq hez1 hez2 ⟨hzz1, hyz1⟩ ⟨hzz2, hyz2⟩).symm
  refine TH.callv (as := [J z1]) (r := []) rfl rfl rfl rfl cM rfl (m_M_count (d + 0) z1 cs1.1 js1 (R7_mtx hR) (by omega)) (fun v s2 hqs2 => ?_)
  obtain ⟨y2, cs2, rfl, rs2, qs2, ks2, js2, fs2⟩ := hqs2
  refine TH.go 2 (fun n9 => (rfl : _ = exh (qxj s f) n9 (d + 11) j_L_law 668 [(0, .ref 0), (1, .ref 16), (2, .ref 137), (3, .ref 146), (4, J i)] [] s2)) ?_
  exact hb _ (hJ.next cs1 ks2 js2 fs2 ts1 (by omega) as1 rs1 x9s1 hio v9s1)
theorem law_6 {s : List Int32} {f : Bool} (d : Nat) {k i : Int} {σ : qH} (hL : LI k σ) (hi : 0 ≤ i ∧ i + 6 ≤ s.length ∧ s.length ≤ 3072) (hb : ∀ σ' : qH, LI (k + 1) σ' → TH (qxj s f) (d + 11) j_L_law 668 [(0, .ref 0), (1, .ref 16), (2, .ref 137), (3, .ref 146), (4, J i)] [] σ' LQ) : TH (qxj s f) (d + 11) j_L_law 289 [(0, .ref 0), (1, .ref 16), (2, .ref 137), (3, .ref 146), (4, J i)] [] σ LQ := by
  have hX := XT_j s f
  obtain ⟨t, g, g1, f1, lm, io, mo, ln, ns, r3, f3, r6, f6, hJ⟩ := hL
  obtain ⟨hK, ⟨hT, hA, hN, hR, hX9, hio, hV⟩, ⟨cc, hI⟩, -, -⟩ := id hJ
  obtain ⟨fN, cN⟩ := hK.cls
  refine TH.go 4 (fun n9 => (rfl : _ = exh (qxj s f) n9 (d + 11) j_L_law 294 [(0, .ref 0), (1, .ref 16), (2, .ref 137), (3, .ref 146), (4, J i)] [J 1, J i, .ref 0, .ref 16] σ)) ?_
  refine TH.iadd rfl ?_
  refine TH.xld rfl rfl rfl (by omega) (fun z1 hzz1 hyz1 hez1 => ?_)
  refine TH.go 3 (fun n9 => (rfl : _ = exh (qxj s f) n9 (d + 11) j_L_law 300 [(0, .ref 0), (1, .ref 16), (2, .ref 137), (3, .ref 146), (4, J i)] [J 2, J i, .ref 0, J z1, .ref 16] σ)) ?_
  refine TH.iadd rfl ?_
  refine TH.xld rfl rfl rfl (by omega) (fun z2 hzz2 hyz2 hez2 => ?_)
  refine TH.go 3 (fun n9 => (rfl : _ = exh (qxj s f) n9 (d + 11) j_L_law 306 [(0, .ref 0), (1, .ref 16), (2, .ref 137), (3, .ref 146), (4, J i)] [J 3, J i, .ref 0, J z2, J z1, .ref 16] σ)) ?_
  refine TH.iadd rfl ?_
  refine TH.xld rfl rfl rfl (by omega) (fun z3 hzz3 hyz3 hez3 => ?_)
  refine TH.go 1 (fun n9 => (rfl : _ = exh (qxj s f) n9 (d + 11) j_L_law 309 [(0, .ref 0), (1, .ref 16), (2, .ref 137), (3, .ref 146), (4, J i)] [.ref 146, J z3, J z2, J z1, .ref 16] σ)) ?_
  refine TH.help rfl (fun n9 => rfl) rfl rfl (h_L_entry (d + 0) z1 z2 z3 hK hN hA hR hX9 hV hio hI.r.1 hI.r.2 hI.io.2.2 hI.fo (by omega) (by omega) (by omega)) (fun v s1 hqs1 => ?_)
  obtain ⟨y1, rfl, rs1, cs1, ⟨ws1, as1⟩, hx9, hv, hh, w9, hwo, hwc⟩ := hqs1
  have ts1 := ws1.trans hT
  obtain ⟨fM, cM⟩ := cs1.1.mod
  have js1 := hI.frame cs1.2.1
  refine TH.go 5 (fun n9 => (rfl : _ = exh (qxj s f) n9 (d + 11) j_L_law 319 [(0, .ref 0), (1, .ref 16), (2, .ref 137), (3, .ref 146), (4, J i), (5, J y1)] [J 1, J i, .ref 0, .ref 137] s1)) ?_
  refine TH.iadd rfl ?_
  refine TH.xld rfl rfl rfl (by omega) (fun z4 hzz4 hyz4 hez4 => ?_)
  obtain rfl : z1 = z4 := (ld_eq hez1 hez4 ⟨hzz1, hyz1⟩ ⟨hzz4, hyz4⟩).symm
  refine TH.go 3 (fun n9 => (rfl : _ = exh (qxj s f) n9 (d + 11) j_L_law 325 [(0, .ref 0), (1, .ref 16), (2, .ref 137), (3, .ref 146), (4, J i), (5, J y1)] [J 2, J i, .ref 0, J z1, .ref 137] s1)) ?_
  refine TH.iadd rfl ?_
  refine TH.xld rfl rfl rfl (by omega) (fun z5 hzz5 hyz5 hez5 => ?_)
  obtain rfl : z2 = z5 := (ld_eq hez2 hez5 ⟨hzz2, hyz2⟩ ⟨hzz5, hyz5⟩).symm
  refine TH.go 3 (fun n9 => (rfl : _ = exh (qxj s f) n9 (d + 11) j_L_law 331 [(0, .ref 0), (1, .ref 16), (2, .ref 137), (3, .ref 146), (4, J i), (5, J y1)] [J 3, J i, .ref 0, J z2, J z1, .ref 137] s1)) ?_
  refine TH.iadd rfl ?_
  refine TH.xld rfl rfl rfl (by omega) (fun z6 hzz6 hyz6 hez6 => ?_)
  obtain rfl : z3 = z6 := (ld_eq hez3 hez6 ⟨hzz3, hyz3⟩ ⟨hzz6, hyz6⟩).symm
  refine TH.callv (as := [J z1, J z2, J z3]) (r := []) rfl rfl rfl rfl cM rfl (m_M_entry (d + 0) z1 z2 z3 cs1.1 js1 (R7_mtx hR) (by omega) (by omega) (by omega)) (fun v s2 hqs2 => ?_)
  obtain ⟨y2, cs2, rfl, rs2, qs2, ks2, js2, fs2⟩ := hqs2
  refine TH.go 2 (fun n9 => (rfl : _ = exh (qxj s f) n9 (d + 11) j_L_law 668 [(0, .ref 0), (1, .ref 16), (2, .ref 137), (3, .ref 146), (4, J i), (5, J y1), (6, JL y2)] [] s2)) ?_
  refine TH.drop (lv := [(0, .ref 0), (1, .ref 16), (2, .ref 137), (3, .ref 146), (4, J i)]) [(5, J y1), (6, JL y2)] (by simp) ?_
  exact hb _ (hJ.next cs1 ks2 js2 fs2 ts1 (by omega) as1 hh hx9 hio hv)
theorem law_7 {s : List Int32} {f : Bool} (d : Nat) {k i : Int} {σ : qH} (hL : LI k σ) (hi : 0 ≤ i ∧ i + 6 ≤ s.length ∧ s.length ≤ 3072) (hb : ∀ σ' : qH, LI (k + 1) σ' → TH (qxj s f) (d + 11) j_L_law 668 [(0, .ref 0), (1, .ref 16), (2, .ref 137), (3, .ref 146), (4, J i)] [] σ' LQ) : TH (qxj s f) (d + 11) j_L_law 341 [(0, .ref 0), (1, .ref 16), (2, .ref 137), (3, .ref 146), (4, J i)] [] σ LQ := by
  have hX := XT_j s f
  obtain ⟨t, g, g1, f1, lm, io, mo, ln, ns, r3, f3, r6, f6, hJ⟩ := hL
  obtain ⟨hK, ⟨hT, hA, hN, hR, hX9, hio, hV⟩, ⟨cc, hI⟩, -, -⟩ := id hJ
  obtain ⟨fN, cN⟩ := hK.cls
  refine TH.go 4 (fun n9 => (rfl : _ = exh (qxj s f) n9 (d + 11) j_L_law 346 [(0, .ref 0), (1, .ref 16), (2, .ref 137), (3, .ref 146), (4, J i)] [J 1, J i, .ref 0, .ref 16] σ)) ?_
  refine TH.iadd rfl ?_
  refine TH.xld rfl rfl rfl (by omega) (fun z1 hzz1 hyz1 hez1 => ?_)
  refine TH.go 3 (fun n9 => (rfl : _ = exh (qxj s f) n9 (d + 11) j_L_law 352 [(0, .ref 0), (1, .ref 16), (2, .ref 137), (3, .ref 146), (4, J i)] [J 2, J i, .ref 0, J z1, .ref 16] σ)) ?_
  refine TH.iadd rfl ?_
  refine TH.xld rfl rfl rfl (by omega) (fun z2 hzz2 hyz2 hez2 => ?_)
  refine TH.go 3 (fun n9 => (rfl : _ = exh (qxj s f) n9 (d + 11) j_L_law 358 [(0, .ref 0), (1, .ref 16), (2, .ref 137), (3, .ref 146), (4, J i)] [J 3, J i, .ref 0, J z2, J z1, .ref 16] σ)) ?_
  refine TH.iadd rfl ?_
  refine TH.xld rfl rfl rfl (by omega) (fun z3 hzz3 hyz3 hez3 => ?_)
  refine TH.go 1 (fun n9 => (rfl : _ = exh (qxj s f) n9 (d + 11) j_L_law 361 [(0, .ref 0), (1, .ref 16), (2, .ref 137), (3, .ref 146), (4, J i)] [.ref 146, J z3, J z2, J z1, .ref 16] σ)) ?_
  refine TH.help rfl (fun n9 => rfl) rfl rfl (h_L_letter (d + 0) z1 z2 z3 hK hN hA hR hX9 hV hio hI.r.1 hI.r.2 hI.io.2.2 hI.fo (by omega) (by omega) (by omega)) (fun v s1 hqs1 => ?_)
  obtain ⟨y1, rfl, rs1, cs1, ⟨ws1, as1⟩, hx9, hv, hh, w9, hwo, hwc⟩ := hqs1
  have ts1 := ws1.trans hT
  obtain ⟨fM, cM⟩ := cs1.1.mod
  have js1 := hI.frame cs1.2.1
  refine TH.go 5 (fun n9 => (rfl : _ = exh (qxj s f) n9 (d + 11) j_L_law 371 [(0, .ref 0), (1, .ref 16), (2, .ref 137), (3, .ref 146), (4, J i), (5, J y1)] [J 1, J i, .ref 0, .ref 137] s1)) ?_
  refine TH.iadd rfl ?_
  refine TH.xld rfl rfl rfl (by omega) (fun z4 hzz4 hyz4 hez4 => ?_)
  obtain rfl : z1 = z4 := (ld_eq hez1 hez4 ⟨hzz1, hyz1⟩ ⟨hzz4, hyz4⟩).symm
  refine TH.go 3 (fun n9 => (rfl : _ = exh (qxj s f) n9 (d + 11) j_L_law 377 [(0, .ref 0), (1, .ref 16), (2, .ref 137), (3, .ref 146), (4, J i), (5, J y1)] [J 2, J i, .ref 0, J z1, .ref 137] s1)) ?_
  refine TH.iadd rfl ?_
  refine TH.xld rfl rfl rfl (by omega) (fun z5 hzz5 hyz5 hez5 => ?_)
  obtain rfl : z2 = z5 := (ld_eq hez2 hez5 ⟨hzz2, hyz2⟩ ⟨hzz5, hyz5⟩).symm
  refine TH.go 3 (fun n9 => (rfl : _ = exh (qxj s f) n9 (d + 11) j_L_law 383 [(0, .ref 0), (1, .ref 16), (2, .ref 137), (3, .ref 146), (4, J i), (5, J y1)] [J 3, J i, .ref 0, J z2, J z1, .ref 137] s1)) ?_
  refine TH.iadd rfl ?_
  refine TH.xld rfl rfl rfl (by omega) (fun z6 hzz6 hyz6 hez6 => ?_)
  obtain rfl : z3 = z6 := (ld_eq hez3 hez6 ⟨hzz3, hyz3⟩ ⟨hzz6, hyz6⟩).symm
  refine TH.callv (as := [J z1, J z2, J z3]) (r := []) rfl rfl rfl rfl cM rfl (m_M_letter (d + 0) z1 z2 z3 cs1.1 js1 (R7_mtx hR) (by omega) (by omega) (by omega)) (fun v s2 hqs2 => ?_)
  obtain ⟨y2, cs2, rfl, rs2, qs2, ks2, js2, fs2⟩ := hqs2
  refine TH.go 2 (fun n9 => (rfl : _ = exh (qxj s f) n9 (d + 11) j_L_law 668 [(0, .ref 0), (1, .ref 16), (2, .ref 137), (3, .ref 146), (4, J i), (5, J y1), (6, J y2)] [] s2)) ?_
  refine TH.drop (lv := [(0, .ref 0), (1, .ref 16), (2, .ref 137), (3, .ref 146), (4, J i)]) [(5, J y1), (6, J y2)] (by simp) ?_
  exact hb _ (hJ.next cs1 ks2 js2 fs2 ts1 (by omega) as1 hh hx9 hio hv)
theorem law_8 {s : List Int32} {f : Bool} (d : Nat) {k i : Int} {σ : qH} (hL : LI k σ) (hi : 0 ≤ i ∧ i + 6 ≤ s.length ∧ s.length ≤ 3072) (hb : ∀ σ' : qH, LI (k + 1) σ' → TH (qxj s f) (d + 11) j_L_law 668 [(0, .ref 0), (1, .ref 16), (2, .ref 137), (3, .ref 146), (4, J i)] [] σ' LQ) : TH (qxj s f) (d + 11) j_L_law 393 [(0, .ref 0), (1, .ref 16), (2, .ref 137), (3, .ref 146), (4, J i)] [] σ LQ := by
  have hX := XT_j s f
  obtain ⟨t, g, g1, f1, lm, io, mo, ln, ns, r3, f3, r6, f6, hJ⟩ := hL
  obtain ⟨hK, ⟨hT, hA, hN, hR, hX9, hio, hV⟩, ⟨cc, hI⟩, -, -⟩ := id hJ
  obtain ⟨fN, cN⟩ := hK.cls
  refine TH.go 4 (fun n9 => (rfl : _ = exh (qxj s f) n9 (d + 11) j_L_law 398 [(0, .ref 0), (1, .ref 16), (2, .ref 137), (3, .ref 146), (4, J i)] [J 1, J i, .ref 0, .ref 16] σ)) ?_
  refine TH.iadd rfl ?_
  refine TH.xld rfl rfl rfl (by omega) (fun z1 hzz1 hyz1 hez1 => ?_)
  refine TH.i2l rfl (by omega) ?_
  refine TH.go 1 (fun n9 => (rfl : _ = exh (qxj s f) n9 (d + 11) j_L_law 403 [(0, .ref 0), (1, .ref 16), (2, .ref 137), (3, .ref 146), (4, J i)] [J 32, JL z1, .ref 16] σ)) ?_
  refine TH.some2 rfl rfl (fun z2 hzz2 hyz2 hez2 => ?_)
  refine TH.go 3 (fun n9 => (rfl : _ = exh (qxj s f) n9 (d + 11) j_L_law 408 [(0, .ref 0), (1, .ref 16), (2, .ref 137), (3, .ref 146), (4, J i)] [J 2, J i, .ref 0, JL z2, .ref 16] σ)) ?_
  refine TH.iadd rfl ?_
  refine TH.xld rfl rfl rfl (by omega) (fun z3 hzz3 hyz3 hez3 => ?_)
  refine TH.i2l rfl (by omega) ?_
  refine TH.go 1 (fun n9 => (rfl : _ = exh (qxj s f) n9 (d + 11) j_L_law 414 [(0, .ref 0), (1, .ref 16), (2, .ref 137), (3, .ref 146), (4, J i)] [JL 4294967295, JL z3, JL z2, .ref 16] σ)) ?_
  refine TH.some2 rfl rfl (fun z4 hzz4 hyz4 hez4 => ?_)
  refine TH.some2 rfl rfl (fun z5 hzz5 hyz5 hez5 => ?_)
  refine TH.callv (as := [JL z5]) (r := []) rfl rfl rfl rfl cN rfl (s_N_etype (d + 2) (gl ln) z5 σ hK hX9.1.1 (by omega)) (fun v s1 hqs1 => ?_)
  obtain ⟨y1, rfl, gs1, hzy1, hyy1, ty1, ty2, ty3, ty4, ty5⟩ := hqs1
  rw [hX9.1.2] at ty1 ty2 ty3 ty4
  have hh : CTy s1 ln ns z5 y1 := ⟨ty1, ty2, ty3, ty4, ty5, by omega, by omega⟩
  clear ty1 ty2 ty3 ty4 ty5
  have cs1 := CL.fr gs1
  have ws1 := nsx_fr hK gs1 (by decide)
  have hv := hV.fr hN gs1 (by decide) (by decide)
  have hke := hX9.2.fr hK hN gs1 (nsk_fr hK gs1 (by decide)) (NKW_0 (by decide))
  have g0s1 := gs1.sub (w' := WR) (by decide)
  have tks1 := tape_keep hK hN g0s1 WR_P (nsx_9 ws1)
  have ts1 := tks1.1.trans hT
  have as1 := tks1.2 g hA
  have rs1 := R7_WR hR hK hN g0s1 ws1
  obtain ⟨fM, cM⟩ := cs1.1.mod
  have js1 := hI.frame cs1.2.1
  refine TH.go 5 (fun n9 => (rfl : _ = exh (qxj s f) n9 (d + 11) j_L_law 425 [(0, .ref 0), (1, .ref 16), (2, .ref 137), (3, .ref 146), (4, J i)] [J 1, J i, .ref 0, .ref 137] s1)) ?_
  refine TH.iadd rfl ?_
  refine TH.xld rfl rfl rfl (by omega) (fun z6 hzz6 hyz6 hez6 => ?_)
  obtain rfl : z1 = z6 := (ld_eq hez1 hez6 ⟨hzz1, hyz1⟩ ⟨hzz6, hyz6⟩).symm
  refine TH.i2l rfl (by omega) ?_
  refine TH.go 1 (fun n9 => (rfl : _ = exh (qxj s f) n9 (d + 11) j_L_law 430 [(0, .ref 0), (1, .ref 16), (2, .ref 137), (3, .ref 146), (4, J i)] [J 32, JL z1, .ref 137] s1)) ?_
  refine TH.some2 rfl rfl (fun z7 hzz7 hyz7 hez7 => ?_)
  obtain rfl : z2 = z7 := (ld_eq64 hez2 hez7 ⟨hzz2, hyz2⟩ ⟨hzz7, hyz7⟩).symm
  refine TH.go 3 (fun n9 => (rfl : _ = exh (qxj s f) n9 (d + 11) j_L_law 435 [(0, .ref 0), (1, .ref 16), (2, .ref 137), (3, .ref 146), (4, J i)] [J 2, J i, .ref 0, JL z2, .ref 137] s1)) ?_
  refine TH.iadd rfl ?_
  refine TH.xld rfl rfl rfl (by omega) (fun z8 hzz8 hyz8 hez8 => ?_)
  obtain rfl : z3 = z8 := (ld_eq hez3 hez8 ⟨hzz3, hyz3⟩ ⟨hzz8, hyz8⟩).symm
  refine TH.i2l rfl (by omega) ?_
  refine TH.go 1 (fun n9 => (rfl : _ = exh (qxj s f) n9 (d + 11) j_L_law 441 [(0, .ref 0), (1, .ref 16), (2, .ref 137), (3, .ref 146), (4, J i)] [JL 4294967295, JL z3, JL z2, .ref 137] s1)) ?_
  refine TH.some2 rfl rfl (fun z9 hzz9 hyz9 hez9 => ?_)
  obtain rfl : z4 = z9 := (ld_eq64 hez4 hez9 ⟨hzz4, hyz4⟩ ⟨hzz9, hyz9⟩).symm
  refine TH.some2 rfl rfl (fun z10 hzz10 hyz10 hez10 => ?_)
  obtain rfl : z5 = z10 := (ld_eq64 hez5 hez10 ⟨hzz5, hyz5⟩ ⟨hzz10, hyz10⟩).symm
  refine TH.callv (as := [JL z5]) (r := []) rfl rfl rfl rfl cM rfl (m_M_type (d + 0) z5 cs1.1 js1 (by omega)) (fun v s2 hqs2 => ?_)
  obtain ⟨y2, lns2, nss2, cs2, rfl, rs2, qs2, ks2, js2, fs2⟩ := hqs2
  have htb := ty_both hh qs2
  have hx : X9 s1 lns2 nss2 r3 f3 := ⟨htb.2, hke⟩
  refine TH.go 2 (fun n9 => (rfl : _ = exh (qxj s f) n9 (d + 11) j_L_law 668 [(0, .ref 0), (1, .ref 16), (2, .ref 137), (3, .ref 146), (4, J i)] [] s2)) ?_
  exact hb _ (hJ.next cs1 ks2 js2 fs2 ts1 (by omega) as1 rs1 hx hio hv)
theorem law_9 {s : List Int32} {f : Bool} (d : Nat) {k i : Int} {σ : qH} (hL : LI k σ) (hi : 0 ≤ i ∧ i + 6 ≤ s.length ∧ s.length ≤ 3072) (hb : ∀ σ' : qH, LI (k + 1) σ' → TH (qxj s f) (d + 11) j_L_law 668 [(0, .ref 0), (1, .ref 16), (2, .ref 137), (3, .ref 146), (4, J i)] [] σ' LQ) : TH (qxj s f) (d + 11) j_L_law 450 [(0, .ref 0), (1, .ref 16), (2, .ref 137), (3, .ref 146), (4, J i)] [] σ LQ := by
  have hX := XT_j s f
  obtain ⟨t, g, g1, f1, lm, io, mo, ln, ns, r3, f3, r6, f6, hJ⟩ := hL
  obtain ⟨hK, ⟨hT, hA, hN, hR, hX9, hio, hV⟩, ⟨cc, hI⟩, -, -⟩ := id hJ
  obtain ⟨fN, cN⟩ := hK.cls
  refine TH.go 4 (fun n9 => (rfl : _ = exh (qxj s f) n9 (d + 11) j_L_law 455 [(0, .ref 0), (1, .ref 16), (2, .ref 137), (3, .ref 146), (4, J i)] [J 1, J i, .ref 0, .ref 16] σ)) ?_
  refine TH.iadd rfl ?_
  refine TH.xld rfl rfl rfl (by omega) (fun z1 hzz1 hyz1 hez1 => ?_)
  refine TH.go 1 (fun n9 => (rfl : _ = exh (qxj s f) n9 (d + 11) j_L_law 458 [(0, .ref 0), (1, .ref 16), (2, .ref 137), (3, .ref 146), (4, J i)] [.ref 146, J z1, .ref 16] σ)) ?_
  refine TH.help rfl (fun n9 => rfl) rfl rfl (h_L_number (d + 0) z1 hK hN hA hR hX9 hV hio hI.r.1 hI.r.2 hI.io.2.2 hI.fo (by omega)) (fun v s1 hqs1 => ?_)
  obtain ⟨y1, rfl, rs1, cs1, ⟨ws1, as1⟩, hx9, hv, hh, w9, hwo, hwc⟩ := hqs1
  have ts1 := ws1.trans hT
  obtain ⟨fM, cM⟩ := cs1.1.mod
  have js1 := hI.frame cs1.2.1
  refine TH.go 5 (fun n9 => (rfl : _ = exh (qxj s f) n9 (d + 11) j_L_law 468 [(0, .ref 0), (1, .ref 16), (2, .ref 137), (3, .ref 146), (4, J i), (5, J y1)] [J 1, J i, .ref 0, .ref 137] s1)) ?_
  refine TH.iadd rfl ?_
  refine TH.xld rfl rfl rfl (by omega) (fun z2 hzz2 hyz2 hez2 => ?_)
  obtain rfl : z1 = z2 := (ld_eq hez1 hez2 ⟨hzz1, hyz1⟩ ⟨hzz2, hyz2⟩).symm
  refine TH.callv (as := [J z1]) (r := []) rfl rfl rfl rfl cM rfl (m_M_number (d + 0) z1 cs1.1 js1 (R7_mtx hR) (by omega)) (fun v s2 hqs2 => ?_)
  obtain ⟨y2, cs2, rfl, rs2, qs2, ks2, js2, fs2⟩ := hqs2
  refine TH.go 2 (fun n9 => (rfl : _ = exh (qxj s f) n9 (d + 11) j_L_law 668 [(0, .ref 0), (1, .ref 16), (2, .ref 137), (3, .ref 146), (4, J i), (5, J y1), (6, J y2)] [] s2)) ?_
  refine TH.drop (lv := [(0, .ref 0), (1, .ref 16), (2, .ref 137), (3, .ref 146), (4, J i)]) [(5, J y1), (6, J y2)] (by simp) ?_
  exact hb _ (hJ.next cs1 ks2 js2 fs2 ts1 (by omega) as1 hh hx9 hio hv)
theorem law_10 {s : List Int32} {f : Bool} (d : Nat) {k i : Int} {σ : qH} (hL : LI k σ) (hi : 0 ≤ i ∧ i + 6 ≤ s.length ∧ s.length ≤ 3072) (hb : ∀ σ' : qH, LI (k + 1) σ' → TH (qxj s f) (d + 11) j_L_law 668 [(0, .ref 0), (1, .ref 16), (2, .ref 137), (3, .ref 146), (4, J i)] [] σ' LQ) : TH (qxj s f) (d + 11) j_L_law 478 [(0, .ref 0), (1, .ref 16), (2, .ref 137), (3, .ref 146), (4, J i)] [] σ LQ := by
  have hX := XT_j s f
  obtain ⟨t, g, g1, f1, lm, io, mo, ln, ns, r3, f3, r6, f6, hJ⟩ := hL
  obtain ⟨hK, ⟨hT, hA, hN, hR, hX9, hio, hV⟩, ⟨cc, hI⟩, -, -⟩ := id hJ
  obtain ⟨fN, cN⟩ := hK.cls
  refine TH.go 4 (fun n9 => (rfl : _ = exh (qxj s f) n9 (d + 11) j_L_law 483 [(0, .ref 0), (1, .ref 16), (2, .ref 137), (3, .ref 146), (4, J i)] [J 1, J i, .ref 0, .ref 16] σ)) ?_
  refine TH.iadd rfl ?_
  refine TH.xld rfl rfl rfl (by omega) (fun z1 hzz1 hyz1 hez1 => ?_)
  refine TH.go 1 (fun n9 => (rfl : _ = exh (qxj s f) n9 (d + 11) j_L_law 486 [(0, .ref 0), (1, .ref 16), (2, .ref 137), (3, .ref 146), (4, J i)] [.ref 146, J z1, .ref 16] σ)) ?_
  refine TH.help rfl (fun n9 => rfl) rfl rfl (h_L_find (d + 0) z1 hK hN hA hR hX9 hV hio hI.r.1 hI.r.2 hI.io.2.2 hI.fo (by omega)) (fun v s1 hqs1 => ?_)
  obtain ⟨y1, rfl, rs1, cs1, ⟨ws1, as1⟩, hx9, hv, hh, w9, hwo, hwc⟩ := hqs1
  have ts1 := ws1.trans hT
  obtain ⟨fM, cM⟩ := cs1.1.mod
  have js1 := hI.frame cs1.2.1
  refine TH.go 5 (fun n9 => (rfl : _ = exh (qxj s f) n9 (d + 11) j_L_law 496 [(0, .ref 0), (1, .ref 16), (2, .ref 137), (3, .ref 146), (4, J i), (5, J y1)] [J 1, J i, .ref 0, .ref 137] s1)) ?_
  refine TH.iadd rfl ?_
  refine TH.xld rfl rfl rfl (by omega) (fun z2 hzz2 hyz2 hez2 => ?_)
  obtain rfl : z1 = z2 := (ld_eq hez1 hez2 ⟨hzz1, hyz1⟩ ⟨hzz2, hyz2⟩).symm
  refine TH.callv (as := [J z1]) (r := []) rfl rfl rfl rfl cM rfl (m_M_find (d + 0) z1 cs1.1 js1 (R7_mtx hR) hio (by omega)) (fun v s2 hqs2 => ?_)
  obtain ⟨y2, cs2, rfl, rs2, qs2, ks2, js2, fs2⟩ := hqs2
  refine TH.go 2 (fun n9 => (rfl : _ = exh (qxj s f) n9 (d + 11) j_L_law 668 [(0, .ref 0), (1, .ref 16), (2, .ref 137), (3, .ref 146), (4, J i), (5, J y1), (6, J y2)] [] s2)) ?_
  refine TH.drop (lv := [(0, .ref 0), (1, .ref 16), (2, .ref 137), (3, .ref 146), (4, J i)]) [(5, J y1), (6, J y2)] (by simp) ?_
  exact hb _ (hJ.next cs1 ks2 js2 fs2 ts1 (by omega) as1 hh hx9 hio hv)
theorem law_11 {s : List Int32} {f : Bool} (d : Nat) {k i : Int} {σ : qH} (hL : LI k σ) (hi : 0 ≤ i ∧ i + 6 ≤ s.length ∧ s.length ≤ 3072) (hb : ∀ σ' : qH, LI (k + 1) σ' → TH (qxj s f) (d + 11) j_L_law 668 [(0, .ref 0), (1, .ref 16), (2, .ref 137), (3, .ref 146), (4, J i)] [] σ' LQ) : TH (qxj s f) (d + 11) j_L_law 506 [(0, .ref 0), (1, .ref 16), (2, .ref 137), (3, .ref 146), (4, J i)] [] σ LQ := by
  have hX := XT_j s f
  obtain ⟨t, g, g1, f1, lm, io, mo, ln, ns, r3, f3, r6, f6, hJ⟩ := hL
  obtain ⟨hK, ⟨hT, hA, hN, hR, hX9, hio, hV⟩, ⟨cc, hI⟩, -, -⟩ := id hJ
  obtain ⟨fN, cN⟩ := hK.cls
  refine TH.go 4 (fun n9 => (rfl : _ = exh (qxj s f) n9 (d + 11) j_L_law 511 [(0, .ref 0), (1, .ref 16), (2, .ref 137), (3, .ref 146), (4, J i)] [J 1, J i, .ref 0, .ref 16] σ)) ?_
  refine TH.iadd rfl ?_
  refine TH.xld rfl rfl rfl (by omega) (fun z1 hzz1 hyz1 hez1 => ?_)
  refine TH.go 3 (fun n9 => (rfl : _ = exh (qxj s f) n9 (d + 11) j_L_law 517 [(0, .ref 0), (1, .ref 16), (2, .ref 137), (3, .ref 146), (4, J i)] [J 2, J i, .ref 0, J z1, .ref 16] σ)) ?_
  refine TH.iadd rfl ?_
  refine TH.xld rfl rfl rfl (by omega) (fun z2 hzz2 hyz2 hez2 => ?_)
  refine TH.go 1 (fun n9 => (rfl : _ = exh (qxj s f) n9 (d + 11) j_L_law 520 [(0, .ref 0), (1, .ref 16), (2, .ref 137), (3, .ref 146), (4, J i)] [.ref 146, J z2, J z1, .ref 16] σ)) ?_
  refine TH.help rfl (fun n9 => rfl) rfl rfl (h_L_read hX (d + 0) z1 z2 hK hN hA hR hX9 hV hio hI.r.1 hI.r.2 hI.io.2.2 hI.fo (by omega) (by omega)) (fun v s1 hqs1 => ?_)
  obtain ⟨y1, rfl, rs1, cs1, ⟨ws1, as1⟩, hv, hh, hty, hke, w9, hwo, hwc⟩ := hqs1
  have ts1 := ws1.trans hT
  obtain ⟨fM, cM⟩ := cs1.1.mod
  have js1 := hI.frame cs1.2.1
  refine TH.go 5 (fun n9 => (rfl : _ = exh (qxj s f) n9 (d + 11) j_L_law 530 [(0, .ref 0), (1, .ref 16), (2, .ref 137), (3, .ref 146), (4, J i), (5, J y1)] [J 1, J i, .ref 0, .ref 137] s1)) ?_
  refine TH.iadd rfl ?_
  refine TH.xld rfl rfl rfl (by omega) (fun z3 hzz3 hyz3 hez3 => ?_)
  obtain rfl : z1 = z3 := (ld_eq hez1 hez3 ⟨hzz1, hyz1⟩ ⟨hzz3, hyz3⟩).symm
  refine TH.go 3 (fun n9 => (rfl : _ = exh (qxj s f) n9 (d + 11) j_L_law 536 [(0, .ref 0), (1, .ref 16), (2, .ref 137), (3, .ref 146), (4, J i), (5, J y1)] [J 2, J i, .ref 0, J z1, .ref 137] s1)) ?_
  refine TH.iadd rfl ?_
  refine TH.xld rfl rfl rfl (by omega) (fun z4 hzz4 hyz4 hez4 => ?_)
  obtain rfl : z2 = z4 := (ld_eq hez2 hez4 ⟨hzz2, hyz2⟩ ⟨hzz4, hyz4⟩).symm
  refine TH.callv (as := [J z1, J z2]) (r := []) rfl rfl rfl rfl cM rfl (m_M_read (d + 0) z1 z2 cs1.1 js1 (R7_mtx hR) (by omega) (by omega)) (fun v s2 hqs2 => ?_)
  obtain ⟨y2, r3s2, f3s2, cs2, rfl, rs2, qs2, ks2, js2, fs2⟩ := hqs2
  have hrb := read_both hwc hke qs2
  have hx : X9 s1 ln ns r3s2 f3s2 := ⟨hty, hrb.2⟩
  refine TH.go 2 (fun n9 => (rfl : _ = exh (qxj s f) n9 (d + 11) j_L_law 668 [(0, .ref 0), (1, .ref 16), (2, .ref 137), (3, .ref 146), (4, J i), (5, J y1), (6, J y2)] [] s2)) ?_
  refine TH.drop (lv := [(0, .ref 0), (1, .ref 16), (2, .ref 137), (3, .ref 146), (4, J i)]) [(5, J y1), (6, J y2)] (by simp) ?_
  exact hb _ (hJ.next cs1 ks2 js2 fs2 ts1 (by omega) as1 hh hx hio hv)
theorem law_12 {s : List Int32} {f : Bool} (d : Nat) {k i : Int} {σ : qH} (hL : LI k σ) (hi : 0 ≤ i ∧ i + 6 ≤ s.length ∧ s.length ≤ 3072) (hb : ∀ σ' : qH, LI (k + 1) σ' → TH (qxj s f) (d + 11) j_L_law 668 [(0, .ref 0), (1, .ref 16), (2, .ref 137), (3, .ref 146), (4, J i)] [] σ' LQ) : TH (qxj s f) (d + 11) j_L_law 546 [(0, .ref 0), (1, .ref 16), (2, .ref 137), (3, .ref 146), (4, J i)] [] σ LQ := by
  have hX := XT_j s f
  obtain ⟨t, g, g1, f1, lm, io, mo, ln, ns, r3, f3, r6, f6, hJ⟩ := hL
  obtain ⟨hK, ⟨hT, hA, hN, hR, hX9, hio, hV⟩, ⟨cc, hI⟩, -, -⟩ := id hJ
  obtain ⟨fN, cN⟩ := hK.cls
  refine TH.go 4 (fun n9 => (rfl : _ = exh (qxj s f) n9 (d + 11) j_L_law 551 [(0, .ref 0), (1, .ref 16), (2, .ref 137), (3, .ref 146), (4, J i)] [J 1, J i, .ref 0, .ref 16] σ)) ?_
  refine TH.iadd rfl ?_
  refine TH.xld rfl rfl rfl (by omega) (fun z1 hzz1 hyz1 hez1 => ?_)
  obtain ⟨ke, sc, h7, h8, hks, hka, hkl⟩ := id hX9.2
  refine TH.callv (as := [J z1]) (r := []) rfl rfl rfl rfl cN rfl (s_N_eoctet (d + 2) ke r3 z1 σ hK h7 hka (by omega)) (fun v s1 hqs1 => ?_)
  obtain ⟨y1, rfl, es1, hzy1, hyy1, ho1, ho2⟩ := hqs1
  have cs1 : CL σ s1 := by rw [es1]; exact CL.refl hK
  have ts1 : tl s1 = t := by rw [es1]; exact hT
  have as1 : AGT s1 g := by rw [es1]; exact hA
  have rs1 : R7 s1 g1 f1 lm io mo := by rw [es1]; exact hR
  have x9s1 : X9 s1 ln ns r3 f3 := by rw [es1]; exact hX9
  have v9s1 : VW s1 r6 f6 := by rw [es1]; exact hV
  rw [hkl] at ho1 ho2
  have hh : OCR r3 f3 z1 y1 := ⟨ho1, ho2⟩
  clear ho1 ho2
  obtain ⟨fM, cM⟩ := cs1.1.mod
  have js1 := hI.frame cs1.2.1
  refine TH.go 4 (fun n9 => (rfl : _ = exh (qxj s f) n9 (d + 11) j_L_law 561 [(0, .ref 0), (1, .ref 16), (2, .ref 137), (3, .ref 146), (4, J i)] [J 1, J i, .ref 0, .ref 137, J y1] s1)) ?_
  refine TH.iadd rfl ?_
  refine TH.xld rfl rfl rfl (by omega) (fun z2 hzz2 hyz2 hez2 => ?_)
  obtain rfl : z1 = z2 := (ld_eq hez1 hez2 ⟨hzz1, hyz1⟩ ⟨hzz2, hyz2⟩).symm
  refine TH.callv (as := [J z1]) (r := [J y1]) rfl rfl rfl rfl cM rfl (m_M_octet (d + 0) z1 cs1.1 js1 (by omega)) (fun v s2 hqs2 => ?_)
  obtain ⟨y2, cs2, rfl, rs2, qs2, ks2, js2, fs2⟩ := hqs2
  have ec : y1 = y2 := OCR_one hh qs2
  refine TH.icmp_eq rfl rfl (by omega) (by omega) (fun c9 => ?_) (fun c9 => absurd (by omega) c9)
  exact hb _ (hJ.next cs1 ks2 js2 fs2 ts1 (by omega) as1 rs1 x9s1 hio v9s1)
theorem law_13 {s : List Int32} {f : Bool} (d : Nat) {k i : Int} {σ : qH} (hL : LI k σ) (hi : 0 ≤ i ∧ i + 6 ≤ s.length ∧ s.length ≤ 3072) (hb : ∀ σ' : qH, LI (k + 1) σ' → TH (qxj s f) (d + 11) j_L_law 668 [(0, .ref 0), (1, .ref 16), (2, .ref 137), (3, .ref 146), (4, J i)] [] σ' LQ) : TH (qxj s f) (d + 11) j_L_law 571 [(0, .ref 0), (1, .ref 16), (2, .ref 137), (3, .ref 146), (4, J i)] [] σ LQ := by
  have hX := XT_j s f
  obtain ⟨t, g, g1, f1, lm, io, mo, ln, ns, r3, f3, r6, f6, hJ⟩ := hL
  obtain ⟨hK, ⟨hT, hA, hN, hR, hX9, hio, hV⟩, ⟨cc, hI⟩, -, -⟩ := id hJ
  obtain ⟨fN, cN⟩ := hK.cls
  refine TH.go 4 (fun n9 => (rfl : _ = exh (qxj s f) n9 (d + 11) j_L_law 576 [(0, .ref 0), (1, .ref 16), (2, .ref 137), (3, .ref 146), (4, J i)] [J 1, J i, .ref 0, .ref 16] σ)) ?_
  refine TH.iadd rfl ?_
  refine TH.xld rfl rfl rfl (by omega) (fun z1 hzz1 hyz1 hez1 => ?_)
  refine TH.go 1 (fun n9 => (rfl : _ = exh (qxj s f) n9 (d + 11) j_L_law 579 [(0, .ref 0), (1, .ref 16), (2, .ref 137), (3, .ref 146), (4, J i)] [.ref 146, J z1, .ref 16] σ)) ?_
  refine TH.help rfl (fun n9 => rfl) rfl rfl (h_L_mount hX (d + 0) z1 hK hN hA hR hX9 hV hio hI.r.1 hI.r.2 hI.io.2.2 hI.fo (by omega)) (fun v s1 hqs1 => ?_)
  obtain ⟨y1, rfl, rs1, cs1, ⟨ws1, as1⟩, hx9, hv, hh, w9, hwo, hwc⟩ := hqs1
  have ts1 := ws1.trans hT
  obtain ⟨fM, cM⟩ := cs1.1.mod
  have js1 := hI.frame cs1.2.1
  refine TH.go 5 (fun n9 => (rfl : _ = exh (qxj s f) n9 (d + 11) j_L_law 589 [(0, .ref 0), (1, .ref 16), (2, .ref 137), (3, .ref 146), (4, J i), (5, J y1)] [J 1, J i, .ref 0, .ref 137] s1)) ?_
  refine TH.iadd rfl ?_
  refine TH.xld rfl rfl rfl (by omega) (fun z2 hzz2 hyz2 hez2 => ?_)
  obtain rfl : z1 = z2 := (ld_eq hez1 hez2 ⟨hzz1, hyz1⟩ ⟨hzz2, hyz2⟩).symm
  refine TH.callv (as := [J z1]) (r := []) rfl rfl rfl rfl cM rfl (m_M_mount (d + 0) z1 cs1.1 js1 (R7_mtx hR) (by omega)) (fun v s2 hqs2 => ?_)
  obtain ⟨y2, lms2, mos2, cs2, rfl, rs2, qs2, ks2, js2, fs2⟩ := hqs2
  have hr := mount_both hh qs2.1
  have hio9 := mo_io hio qs2.1
  refine TH.go 2 (fun n9 => (rfl : _ = exh (qxj s f) n9 (d + 11) j_L_law 668 [(0, .ref 0), (1, .ref 16), (2, .ref 137), (3, .ref 146), (4, J i), (5, J y1), (6, J y2)] [] s2)) ?_
  refine TH.drop (lv := [(0, .ref 0), (1, .ref 16), (2, .ref 137), (3, .ref 146), (4, J i)]) [(5, J y1), (6, J y2)] (by simp) ?_
  exact hb _ (hJ.next cs1 ks2 js2 fs2 ts1 (by omega) as1 hr hx9 hio9 hv)
theorem law_14 {s : List Int32} {f : Bool} (d : Nat) {k i : Int} {σ : qH} (hL : LI k σ) (hi : 0 ≤ i ∧ i + 6 ≤ s.length ∧ s.length ≤ 3072) (hb : ∀ σ' : qH, LI (k + 1) σ' → TH (qxj s f) (d + 11) j_L_law 668 [(0, .ref 0), (1, .ref 16), (2, .ref 137), (3, .ref 146), (4, J i)] [] σ' LQ) : TH (qxj s f) (d + 11) j_L_law 599 [(0, .ref 0), (1, .ref 16), (2, .ref 137), (3, .ref 146), (4, J i)] [] σ LQ := by
  have hX := XT_j s f
  obtain ⟨t, g, g1, f1, lm, io, mo, ln, ns, r3, f3, r6, f6, hJ⟩ := hL
  obtain ⟨hK, ⟨hT, hA, hN, hR, hX9, hio, hV⟩, ⟨cc, hI⟩, -, -⟩ := id hJ
  obtain ⟨fN, cN⟩ := hK.cls
  refine TH.go 2 (fun n9 => (rfl : _ = exh (qxj s f) n9 (d + 11) j_L_law 601 [(0, .ref 0), (1, .ref 16), (2, .ref 137), (3, .ref 146), (4, J i)] [.ref 146, .ref 16] σ)) ?_
  refine TH.help rfl (fun n9 => rfl) rfl rfl (h_L_index hX (d + 0)  hK hN hA hR hX9 hV hio hI.r.1 hI.r.2 hI.io.2.2 hI.fo ) (fun v s1 hqs1 => ?_)
  obtain ⟨y1, rfl, rs1, cs1, ⟨ws1, as1⟩, hx9, hv, hh, w9, hwo, hwc⟩ := hqs1
  have ts1 := ws1.trans hT
  obtain ⟨fM, cM⟩ := cs1.1.mod
  have js1 := hI.frame cs1.2.1
  refine TH.go 2 (fun n9 => (rfl : _ = exh (qxj s f) n9 (d + 11) j_L_law 607 [(0, .ref 0), (1, .ref 16), (2, .ref 137), (3, .ref 146), (4, J i), (5, J y1)] [.ref 137] s1)) ?_
  refine TH.callv (as := []) (r := []) rfl rfl rfl rfl cM rfl (m_M_index (d + 0)  cs1.1 js1 ) (fun v s2 hqs2 => ?_)
  obtain ⟨y2, lms2, mos2, cs2, rfl, rs2, qs2, ks2, js2, fs2⟩ := hqs2
  have hr := index_both hh qs2.1 hI.fo
  have hio9 := ix_io hio qs2.1
  refine TH.go 2 (fun n9 => (rfl : _ = exh (qxj s f) n9 (d + 11) j_L_law 668 [(0, .ref 0), (1, .ref 16), (2, .ref 137), (3, .ref 146), (4, J i), (5, J y1), (6, J y2)] [] s2)) ?_
  refine TH.drop (lv := [(0, .ref 0), (1, .ref 16), (2, .ref 137), (3, .ref 146), (4, J i)]) [(5, J y1), (6, J y2)] (by simp) ?_
  exact hb _ (hJ.next cs1 ks2 js2 fs2 ts1 (by omega) as1 hr hx9 hio9 hv)
theorem law_15 {s : List Int32} {f : Bool} (d : Nat) {k i : Int} {σ : qH} (hL : LI k σ) (hi : 0 ≤ i ∧ i + 6 ≤ s.length ∧ s.length ≤ 3072) (hb : ∀ σ' : qH, LI (k + 1) σ' → TH (qxj s f) (d + 11) j_L_law 668 [(0, .ref 0), (1, .ref 16), (2, .ref 137), (3, .ref 146), (4, J i)] [] σ' LQ) : TH (qxj s f) (d + 11) j_L_law 615 [(0, .ref 0), (1, .ref 16), (2, .ref 137), (3, .ref 146), (4, J i)] [] σ LQ := by
  have hX := XT_j s f
  obtain ⟨t, g, g1, f1, lm, io, mo, ln, ns, r3, f3, r6, f6, hJ⟩ := hL
  obtain ⟨hK, ⟨hT, hA, hN, hR, hX9, hio, hV⟩, ⟨cc, hI⟩, -, -⟩ := id hJ
  obtain ⟨fN, cN⟩ := hK.cls
  refine TH.go 4 (fun n9 => (rfl : _ = exh (qxj s f) n9 (d + 11) j_L_law 620 [(0, .ref 0), (1, .ref 16), (2, .ref 137), (3, .ref 146), (4, J i)] [J 1, J i, .ref 0, .ref 16] σ)) ?_
  refine TH.iadd rfl ?_
  refine TH.xld rfl rfl rfl (by omega) (fun z1 hzz1 hyz1 hez1 => ?_)
  refine TH.go 1 (fun n9 => (rfl : _ = exh (qxj s f) n9 (d + 11) j_L_law 623 [(0, .ref 0), (1, .ref 16), (2, .ref 137), (3, .ref 146), (4, J i)] [.ref 146, J z1, .ref 16] σ)) ?_
  refine TH.help rfl (fun n9 => rfl) rfl rfl (h_L_attribute hX (d + 0) z1 hK hN hA hR hX9 hV hio hI.r.1 hI.r.2 hI.io.2.2 hI.fo (by omega)) (fun v s1 hqs1 => ?_)
  obtain ⟨y1, rfl, rs1, cs1, ⟨ws1, as1⟩, hx9, hmf, hh, hva, w9, hwo, hwc⟩ := hqs1
  have ts1 := ws1.trans hT
  obtain ⟨fM, cM⟩ := cs1.1.mod
  have js1 := hI.frame cs1.2.1
  refine TH.go 5 (fun n9 => (rfl : _ = exh (qxj s f) n9 (d + 11) j_L_law 633 [(0, .ref 0), (1, .ref 16), (2, .ref 137), (3, .ref 146), (4, J i), (5, J y1)] [J 1, J i, .ref 0, .ref 137] s1)) ?_
  refine TH.iadd rfl ?_
  refine TH.xld rfl rfl rfl (by omega) (fun z2 hzz2 hyz2 hez2 => ?_)
  obtain rfl : z1 = z2 := (ld_eq hez1 hez2 ⟨hzz1, hyz1⟩ ⟨hzz2, hyz2⟩).symm
  refine TH.callv (as := [J z1]) (r := []) rfl rfl rfl rfl cM rfl (m_M_attribute (d + 0) z1 cs1.1 js1 (R7_mtx hR) (by omega)) (fun v s2 hqs2 => ?_)
  obtain ⟨y2, r6s2, f6s2, cs2, rfl, rs2, qs2, ks2, js2, fs2⟩ := hqs2
  have hab := attr_both hwc hva qs2
  have hv : VW s1 r6s2 f6s2 := ⟨hab.2, hmf⟩
  refine TH.go 2 (fun n9 => (rfl : _ = exh (qxj s f) n9 (d + 11) j_L_law 668 [(0, .ref 0), (1, .ref 16), (2, .ref 137), (3, .ref 146), (4, J i), (5, J y1), (6, J y2)] [] s2)) ?_
  refine TH.drop (lv := [(0, .ref 0), (1, .ref 16), (2, .ref 137), (3, .ref 146), (4, J i)]) [(5, J y1), (6, J y2)] (by simp) ?_
  exact hb _ (hJ.next cs1 ks2 js2 fs2 ts1 (by omega) as1 hh hx9 hio hv)
theorem law_16 {s : List Int32} {f : Bool} (d : Nat) {k i : Int} {σ : qH} (hL : LI k σ) (hi : 0 ≤ i ∧ i + 6 ≤ s.length ∧ s.length ≤ 3072) (hb : ∀ σ' : qH, LI (k + 1) σ' → TH (qxj s f) (d + 11) j_L_law 668 [(0, .ref 0), (1, .ref 16), (2, .ref 137), (3, .ref 146), (4, J i)] [] σ' LQ) : TH (qxj s f) (d + 11) j_L_law 643 [(0, .ref 0), (1, .ref 16), (2, .ref 137), (3, .ref 146), (4, J i)] [] σ LQ := by
  have hX := XT_j s f
  obtain ⟨t, g, g1, f1, lm, io, mo, ln, ns, r3, f3, r6, f6, hJ⟩ := hL
  obtain ⟨hK, ⟨hT, hA, hN, hR, hX9, hio, hV⟩, ⟨cc, hI⟩, -, -⟩ := id hJ
  obtain ⟨fN, cN⟩ := hK.cls
  refine TH.go 4 (fun n9 => (rfl : _ = exh (qxj s f) n9 (d + 11) j_L_law 648 [(0, .ref 0), (1, .ref 16), (2, .ref 137), (3, .ref 146), (4, J i)] [J 1, J i, .ref 0, .ref 16] σ)) ?_
  refine TH.iadd rfl ?_
  refine TH.xld rfl rfl rfl (by omega) (fun z1 hzz1 hyz1 hez1 => ?_)
  refine TH.callv (as := [J z1]) (r := []) rfl rfl rfl rfl cN rfl (s_N_evalue (d + 2) r6 z1 σ hK hV.1.1 (by omega)) (fun v s1 hqs1 => ?_)
  obtain ⟨y1, rfl, es1, hzy1, hyy1, ho1, ho2⟩ := hqs1
  have cs1 : CL σ s1 := by rw [es1]; exact CL.refl hK
  have ts1 : tl s1 = t := by rw [es1]; exact hT
  have as1 : AGT s1 g := by rw [es1]; exact hA
  have rs1 : R7 s1 g1 f1 lm io mo := by rw [es1]; exact hR
  have x9s1 : X9 s1 ln ns r3 f3 := by rw [es1]; exact hX9
  have v9s1 : VW s1 r6 f6 := by rw [es1]; exact hV
  rw [hV.1.2] at ho1 ho2
  have hh : OCR r6 f6 z1 y1 := ⟨ho1, ho2⟩
  clear ho1 ho2
  obtain ⟨fM, cM⟩ := cs1.1.mod
  have js1 := hI.frame cs1.2.1
  refine TH.go 5 (fun n9 => (rfl : _ = exh (qxj s f) n9 (d + 11) j_L_law 659 [(0, .ref 0), (1, .ref 16), (2, .ref 137), (3, .ref 146), (4, J i)] [J 1, J i, .ref 0, .ref 137] s1)) ?_
  refine TH.iadd rfl ?_
  refine TH.xld rfl rfl rfl (by omega) (fun z2 hzz2 hyz2 hez2 => ?_)
  obtain rfl : z1 = z2 := (ld_eq hez1 hez2 ⟨hzz1, hyz1⟩ ⟨hzz2, hyz2⟩).symm
  refine TH.callv (as := [J z1]) (r := []) rfl rfl rfl rfl cM rfl (m_M_value (d + 0) z1 cs1.1 js1 (by omega)) (fun v s2 hqs2 => ?_)
  obtain ⟨y2, cs2, rfl, rs2, qs2, ks2, js2, fs2⟩ := hqs2
  refine TH.go 2 (fun n9 => (rfl : _ = exh (qxj s f) n9 (d + 11) j_L_law 668 [(0, .ref 0), (1, .ref 16), (2, .ref 137), (3, .ref 146), (4, J i)] [] s2)) ?_
  exact hb _ (hJ.next cs1 ks2 js2 fs2 ts1 (by omega) as1 rs1 x9s1 hio v9s1)
theorem law_loop {s : List Int32} {f : Bool} (d : Nat) (hs : s.length ≤ 3072) : ∀ (n : Nat) (k i : Int) (σ : qH), LI k σ → i = 6 * k → 0 ≤ k → i ≤ s.length → ((s.length : Int) - i).toNat < n → TH (qxj s f) (d + 11) j_L_law 23 [(0, .ref 0), (1, .ref 16), (2, .ref 137), (3, .ref 146), (4, J i)] [] σ LQ := by
  intro n
  induction n with
  | zero => intro k i σ h h1 h2 h3 h4; omega
  | succ n ih =>
    intro k i σ hL h1 h2 h3 h4
    refine TH.go 2 (fun n9 => (rfl : _ = exh (qxj s f) n9 (d + 11) j_L_law 26 [(0, .ref 0), (1, .ref 16), (2, .ref 137), (3, .ref 146), (4, J i)] [.ref 0, J i] σ)) ?_
    refine TH.xlen rfl rfl rfl ?_
    refine TH.go 1 (fun n9 => (rfl : _ = exh (qxj s f) n9 (d + 11) j_L_law 29 [(0, .ref 0), (1, .ref 16), (2, .ref 137), (3, .ref 146), (4, J i)] [J 6, J (s.length : Int), J i] σ)) ?_
    refine TH.isub rfl ?_
    refine TH.icmp_gt rfl rfl (by omega) (by omega) (fun c1 => ?_) (fun c1 => ?_)
    · refine TH.end 2 (fun n9 => rfl) ⟨rfl, ?_, ?_⟩
      · obtain ⟨t, g, g1, f1, lm, io, mo, ln, ns, r3, f3, r6, f6, -, -, -, h9, -⟩ := hL
        omega
      · obtain ⟨t, g, g1, f1, lm, io, mo, ln, ns, r3, f3, r6, f6, -, -, -, -, h9⟩ := hL
        omega
    have hb : ∀ σ' : qH, LI (k + 1) σ' → TH (qxj s f) (d + 11) j_L_law 668 [(0, .ref 0), (1, .ref 16), (2, .ref 137), (3, .ref 146), (4, J i)] [] σ' LQ := fun σ' h => by
      refine TH.iinc (lv' := [(0, .ref 0), (1, .ref 16), (2, .ref 137), (3, .ref 146), (4, J (i + 6))]) rfl rfl rfl rfl ?_
      refine TH.go 1 (fun n9 => (rfl : _ = exh (qxj s f) n9 (d + 11) j_L_law 23 [(0, .ref 0), (1, .ref 16), (2, .ref 137), (3, .ref 146), (4, J (i + 6))] [] σ')) ?_
      exact ih (k + 1) (i + 6) σ' h (by omega) (by omega) (by omega) (by omega)
    have hi : 0 ≤ i ∧ i + 6 ≤ s.length ∧ s.length ≤ 3072 := ⟨by omega, by omega, hs⟩
    refine TH.go 2 (fun n9 => (rfl : _ = exh (qxj s f) n9 (d + 11) j_L_law 36 [(0, .ref 0), (1, .ref 16), (2, .ref 137), (3, .ref 146), (4, J i)] [J i, .ref 0] σ)) ?_
    refine TH.xld rfl rfl rfl (by omega) (fun z0 hz hy _ => ?_)
    refine TH.go 1 (fun n9 => (rfl : _ = exh (qxj s f) n9 (d + 11) j_L_law 39 [(0, .ref 0), (1, .ref 16), (2, .ref 137), (3, .ref 146), (4, J i)] [J 31, J z0] σ)) ?_
    refine TH.iandm (p := 32) 5 rfl (by decide) (by decide) (by decide) (by omega) ?_
    by_cases c0 : z0 % 32 < 0 ∨ 16 < z0 % 32
    · refine TH.jmp rfl rfl (sw_out (off := 628) rfl c0 (by omega) (by rfl)) ?_
      obtain ⟨t, g, g1, f1, lm, io, mo, ln, ns, r3, f3, r6, f6, q1, q2, q3, q4, q5⟩ := hL
      exact hb σ ⟨t, g, g1, f1, lm, io, mo, ln, ns, r3, f3, r6, f6, q1, q2, q3, by omega, by omega⟩
    by_cases e0 : z0 % 32 = 0
    · refine TH.jmp rfl rfl (sw_in (v := 0) (off := 84) e0 (by decide) rfl rfl) ?_
      exact law_0 d hL hi hb
    by_cases e1 : z0 % 32 = 1
    · refine TH.jmp rfl rfl (sw_in (v := 1) (off := 157) e1 (by decide) rfl rfl) ?_
      exact law_1 d hL hi hb
    by_cases e2 : z0 % 32 = 2
    · refine TH.jmp rfl rfl (sw_in (v := 2) (off := 182) e2 (by decide) rfl rfl) ?_
      exact law_2 d hL hi hb
    by_cases e3 : z0 % 32 = 3
    · refine TH.jmp rfl rfl (sw_in (v := 3) (off := 198) e3 (by decide) rfl rfl) ?_
      exact law_3 d hL hi hb
    by_cases e4 : z0 % 32 = 4
    · refine TH.jmp rfl rfl (sw_in (v := 4) (off := 211) e4 (by decide) rfl rfl) ?_
      exact law_4 d hL hi hb
    by_cases e5 : z0 % 32 = 5
    · refine TH.jmp rfl rfl (sw_in (v := 5) (off := 224) e5 (by decide) rfl rfl) ?_
      exact law_5 d hL hi hb
    by_cases e6 : z0 % 32 = 6
    · refine TH.jmp rfl rfl (sw_in (v := 6) (off := 249) e6 (by decide) rfl rfl) ?_
      exact law_6 d hL hi hb
    by_cases e7 : z0 % 32 = 7
    · refine TH.jmp rfl rfl (sw_in (v := 7) (off := 301) e7 (by decide) rfl rfl) ?_
      exact law_7 d hL hi hb
    by_cases e8 : z0 % 32 = 8
    · refine TH.jmp rfl rfl (sw_in (v := 8) (off := 353) e8 (by decide) rfl rfl) ?_
      exact law_8 d hL hi hb
    by_cases e9 : z0 % 32 = 9
    · refine TH.jmp rfl rfl (sw_in (v := 9) (off := 410) e9 (by decide) rfl rfl) ?_
      exact law_9 d hL hi hb
    by_cases e10 : z0 % 32 = 10
    · refine TH.jmp rfl rfl (sw_in (v := 10) (off := 438) e10 (by decide) rfl rfl) ?_
      exact law_10 d hL hi hb
    by_cases e11 : z0 % 32 = 11
    · refine TH.jmp rfl rfl (sw_in (v := 11) (off := 466) e11 (by decide) rfl rfl) ?_
      exact law_11 d hL hi hb
    by_cases e12 : z0 % 32 = 12
    · refine TH.jmp rfl rfl (sw_in (v := 12) (off := 506) e12 (by decide) rfl rfl) ?_
      exact law_12 d hL hi hb
    by_cases e13 : z0 % 32 = 13
    · refine TH.jmp rfl rfl (sw_in (v := 13) (off := 531) e13 (by decide) rfl rfl) ?_
      exact law_13 d hL hi hb
    by_cases e14 : z0 % 32 = 14
    · refine TH.jmp rfl rfl (sw_in (v := 14) (off := 559) e14 (by decide) rfl rfl) ?_
      exact law_14 d hL hi hb
    by_cases e15 : z0 % 32 = 15
    · refine TH.jmp rfl rfl (sw_in (v := 15) (off := 575) e15 (by decide) rfl rfl) ?_
      exact law_15 d hL hi hb
    have e16 : z0 % 32 = 16 := by omega
    refine TH.jmp rfl rfl (sw_in (v := 16) (off := 603) e16 (by decide) rfl rfl) ?_
    exact law_16 d hL hi hb
theorem law_true (s : List Int32) (f : Bool) (d : Nat) (hs : s.length ≤ 3072) : ∃ σ9, (σ9.length ≤ 5000 ∧ qsz σ9 ≤ 400000) ∧ GH (qxj s f) (d + 11) j_L_law 0 (lv_args 0 [.ref 0]) [] qs0 (some (.int 1), σ9) := by
  obtain ⟨σF, hK, hM, ht, h51, ⟨hn, hr, h7, h8, h59, h53, h57⟩, ⟨y1, y2⟩, h⟩ := law_begin s f d
  have hc := cnt_le σF
  have hL : LI 0 σF := ⟨0, gc (List.replicate 7000 0) 0, gc (List.replicate 7000 0) 1, gl (List.replicate 7 0) 1, List.replicate 6 0, 0, 0, List.replicate 40 0, 0, gc (List.replicate 7000 0) 3, gl (List.replicate 7 0) 3, gc (List.replicate 7000 0) 6, gl (List.replicate 7 0) 6, hK, ⟨ht, AGT_0 hK ht, hn, hr _ _ _, ⟨TYQ_0 h51, 59, 61, h7, h8, by decide, AGR.none h59, h59⟩, Or.inr rfl, ⟨AGR.none h57, h57⟩, h53⟩, ⟨0, _, _, _, _, _, _, _, _, _, _, _, _, _, _, _, _, _, _, _, _, _, hM, fun q => absurd q (by omega), rfl, rfl, rfl, rfl, rfl, rfl, rfl, rfl, rfl⟩, by omega, by omega⟩
  obtain ⟨v, σ9, g, rfl, z1, z2⟩ := law_loop (f := f) d hs (s.length + 1) 0 0 σF hL rfl (by decide) (by omega) (by omega)
  exact ⟨σ9, ⟨z1, z2⟩, h _ g⟩
