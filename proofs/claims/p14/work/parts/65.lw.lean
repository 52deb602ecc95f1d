/-! What the law keeps between two calls. -/
def MI (t : Int) (g g1 : Int → Int) (f1 : Int) (lm : List Int32) (io mo : Int) (ln : List Int32) (ns : Int) (r3 : Int → Int) (f3 : Int) (r6 : Int → Int) (f6 cc : Int) (σ : qH) : Prop := ∃ (c fa pl rw en wy wh bi ed sz md bd li wk we : Int) (Lc : List Int64) (la lh ld lk lt : List Int32), MS σ c io mo fa pl ns rw en wy wh bi ed sz md bd li wk we Lc la lm ln lh ld lk lt ∧ OKM Lc la lm io mo ∧ gl la 0 = t ∧ gc Lc 0 = g ∧ gc Lc 1 = g1 ∧ gl la 1 = f1 ∧ gc Lc 3 = r3 ∧ gl la 3 = f3 ∧ gc Lc 6 = r6 ∧ gl la 6 = f6 ∧ c = cc
theorem MI.frame {t f1 io mo ns f3 f6 cc : Int} {g g1 r3 r6 : Int → Int} {lm ln : List Int32} {σ σ' : qH} (h : MI t g g1 f1 lm io mo ln ns r3 f3 r6 f6 cc σ) (e : ∀ i : Nat, 137 ≤ i → i ≤ 145 → σ'[i]? = σ[i]?) : MI t g g1 f1 lm io mo ln ns r3 f3 r6 f6 cc σ' := by
  obtain ⟨c, fa, pl, rw, en, wy, wh, bi, ed, sz, md, bd, li, wk, we, Lc, la, lh, ld, lk, lt, ⟨⟨q0, q1, q2, q3, q4, q5, q6, q7, q8⟩, r⟩, o⟩ := h
  exact ⟨c, fa, pl, rw, en, wy, wh, bi, ed, sz, md, bd, li, wk, we, Lc, la, lh, ld, lk, lt, ⟨⟨(e 137 (by decide) (by decide)).trans q0, (e 138 (by decide) (by decide)).trans q1, (e 139 (by decide) (by decide)).trans q2, (e 140 (by decide) (by decide)).trans q3, (e 141 (by decide) (by decide)).trans q4, (e 142 (by decide) (by decide)).trans q5, (e 143 (by decide) (by decide)).trans q6, (e 144 (by decide) (by decide)).trans q7, (e 145 (by decide) (by decide)).trans q8⟩, r⟩, o⟩
theorem MI.r {t f1 io mo ns f3 f6 cc : Int} {g g1 r3 r6 : Int → Int} {lm ln : List Int32} {σ : qH} (h : MI t g g1 f1 lm io mo ln ns r3 f3 r6 f6 cc σ) : (∀ k, 0 ≤ g k ∧ g k ≤ 255) ∧ ∀ k, 0 ≤ g1 k ∧ g1 k ≤ 255 := by
  obtain ⟨c, fa, pl, rw, en, wy, wh, bi, ed, sz, md, bd, li, wk, we, Lc, la, lh, ld, lk, lt, -, -, -, e, e1, -, -, -, -⟩ := h
  rw [← e, ← e1]
  exact ⟨gc_r Lc 0, gc_r Lc 1⟩
theorem MI.io {t f1 io mo ns f3 f6 cc : Int} {g g1 r3 r6 : Int → Int} {lm ln : List Int32} {σ : qH} (h : MI t g g1 f1 lm io mo ln ns r3 f3 r6 f6 cc σ) : 0 ≤ io ∧ io ≤ 1 ∧ 0 ≤ mo ∧ mo ≤ 6 := by
  obtain ⟨c, fa, pl, rw, en, wy, wh, bi, ed, sz, md, bd, li, wk, we, Lc, la, lh, ld, lk, lt, ⟨-, -, -, r⟩, -⟩ := h
  exact ⟨r.2.2.1, r.2.2.2.1, r.2.2.2.2.1, r.2.2.2.2.2.1⟩
theorem MI.fo {t f1 io mo ns f3 f6 cc : Int} {g g1 r3 r6 : Int → Int} {lm ln : List Int32} {σ : qH} (h : MI t g g1 f1 lm io mo ln ns r3 f3 r6 f6 cc σ) : io = 1 → FOn g1 f1 = 1 := by
  obtain ⟨c, fa, pl, rw, en, wy, wh, bi, ed, sz, md, bd, li, wk, we, Lc, la, lh, ld, lk, lt, -, o, -, -, e1, e2, -, -, -⟩ := h
  intro q
  rw [← e1, ← e2]
  exact (o (Or.inl q)).1
theorem cnt_FM {σ σ' : qH} (h : FM σ σ') : cnt σ' = cnt σ := sum_eq (fun r hr => by
  unfold nfr
  rw [h.1 r (Or.inl (RwL_lt r hr).2.2.2), h.2.2.2])
theorem cnt_push {σ : qH} {c : qC} (hK : K σ) : cnt (σ ++ [c]) = cnt σ := sum_eq (fun r hr => by
  obtain ⟨m, n, b, bs, a1, a2, -⟩ := hK.row hr
  unfold nfr
  rw [List.getElem?_append_left (List.getElem?_eq_some_iff.mp a1).1, a1, kds_push]
  simp only []
  rw [List.getElem?_append_left (by unfold kds; rw [List.length_map]; exact (List.getElem?_eq_some_iff.mp a2).1)])
theorem tl_same {σ σ' : qH} (hK : K σ) (h : ∀ i : Nat, i < 137 → σ'[i]? = σ[i]?) : tl σ' = tl σ := by
  obtain ⟨ke, sc, tp, ou, mo, sg, ho, mc, lf, lp, hN, f1, f2, f3, -⟩ := hK.na
  have e1 : tpf σ = some (.ref tp) := tpf_of hN rfl
  have e2 : tpf σ' = some (.ref tp) := (tpf_eq (h 16 (by decide))).trans e1
  unfold tl
  rw [e2, e1]
  refine rl_eq (h (tp + 1) ?_)
  rcases f3 with rfl | rfl <;> decide
theorem tl_FM {σ σ' : qH} (hK : K σ) (h : FM σ σ') : tl σ' = tl σ := tl_same hK (fun i hi => h.1 i (Or.inl hi))
theorem tl_push {σ : qH} {c : qC} (hK : K σ) : tl (σ ++ [c]) = tl σ := tl_same hK (fun i hi => List.getElem?_append_left (by have := hK.len; omega))
theorem tl_out {σ : qH} {c : qC} (hK : K σ) : tl (σ.set 146 c) = tl σ := tl_same hK (fun i hi => List.getElem?_set_ne (by omega))
/-- what a call of the class leaves, with its throw and the answer put away -/
def CL (σ σ' : qH) : Prop := K σ' ∧ (∀ i : Nat, 137 ≤ i → i ≤ 145 → σ'[i]? = σ[i]?) ∧ σ'.length + cnt σ' ≤ σ.length + cnt σ + 1 ∧ qsz σ' + 8000 * cnt σ' ≤ qsz σ + 8000 * cnt σ + 10 ∧ (NA σ → NA σ')
theorem CL.refl {σ : qH} (h : K σ) : CL σ σ := ⟨h, fun _ _ _ => rfl, by omega, by omega, fun n => n⟩
theorem CL.fr {σ σ' : qH} {w : List Nat} (h : Fr w σ σ') : CL σ σ' := ⟨h.1, fun i a b => h.2.1 i a (by omega), by have := h.2.2.2.1; omega, by have := h.2.2.2.2.1; omega, fun n => (h.b.2 n).1⟩
theorem CL.push {σ σ' : qH} {w : List Nat} (h : Fr w σ σ') : CL σ (σ' ++ [.inr (.inr (.inr (.inr (.inr 6))))]) := by
  refine ⟨h.1.push trivial, fun i a b => (List.getElem?_append_left (by have := h.1.len; omega)).trans (h.2.1 i a (by omega)), ?_, ?_, fun n => NA_SM h.1 SM.push (h.b.2 n).1⟩
  · rw [cnt_push h.1, List.length_append]
    have := h.2.2.2.1
    simp only [List.length_cons, List.length_nil]
    omega
  · rw [cnt_push h.1, qsz_push]
    have := h.2.2.2.2.1
    have e : qcs (.inr (.inr (.inr (.inr (.inr 6))))) = 6 := rfl
    omega
theorem CL.out {σ σ' : qH} {w : List Nat} {li li' : List Int64} (h : Fr w σ σ') (hi : σ'[146]? = some (.inr (.inr (.inl li)))) (e : li'.length = li.length) : CL σ (σ'.set 146 (.inr (.inr (.inl li')))) := by
  have ek : kdc (.inr (.inr (.inl li'))) = kdc (.inr (.inr (.inl li))) := by simp only [kdc, e]
  refine ⟨h.1.set hi ek trivial, fun i a b => (List.getElem?_set_ne (by omega)).trans (h.2.1 i a (by omega)), ?_, ?_, fun n => NA_SM h.1 SM.out (h.b.2 n).1⟩
  · rw [cnt_other hi ek (by decide), List.length_set]
    have := h.2.2.2.1
    omega
  · rw [cnt_other hi ek (by decide), qsz_set hi (kdc_qcs ek)]
    have := h.2.2.2.2.1
    omega
theorem K.out {σ : qH} (h : K σ) : ∃ li : List Int64, σ[146]? = some (.inr (.inr (.inl li))) ∧ li.length = 1 := by
  obtain ⟨c, hc, e, -⟩ := h.at (i := 146) (k := (2, 0, 1)) (by decide +kernel)
  obtain ⟨li, rfl, hl⟩ := kdc_lng e
  exact ⟨li, hc, hl⟩
theorem K.mod {σ : qH} (h : K σ) : ∃ fs : List Value, σ[137]? = some (.inl (7, fs)) := by
  obtain ⟨c, hc, e, -⟩ := h.at (i := 137) (k := (0, 7, 26)) (by decide +kernel)
  obtain ⟨fs, rfl, hl⟩ := kdc_obj e
  exact ⟨fs, hc⟩
theorem K.cls {σ : qH} (h : K σ) : ∃ fs : List Value, σ[16]? = some (.inl (0, fs)) := by
  obtain ⟨c, hc, e, -⟩ := h.at (i := 16) (k := (0, 0, 17)) (by decide +kernel)
  obtain ⟨fs, rfl, hl⟩ := kdc_obj e
  exact ⟨fs, hc⟩
theorem FM.cl {σ σ' : qH} (h : FM σ σ') : σ'.length + cnt σ' = σ.length + cnt σ ∧ qsz σ' + 8000 * cnt σ' = qsz σ + 8000 * cnt σ := by
  rw [cnt_FM h, h.2.1, h.2.2.1]
  exact ⟨rfl, rfl⟩
theorem m_M_fault {ξ : Nat → Option (Nat × List Int32)} (d : Nat)  {σ : qH} {t f1 io mo ns f3 f6 cc : Int} {g g1 r3 r6 : Int → Int} {lm ln : List Int32} (hK : K σ) (hI : MI t g g1 f1 lm io mo ln ns r3 f3 r6 f6 cc σ)  : T ξ (d + 10) j_M_fault 0 (lv_args 0 [.ref 137]) [] σ (fun v0 σ' => ∃ (z : Int)  (c' : Int), v0 = some (J z) ∧ (-2147483648 ≤ z ∧ z ≤ 2147483647) ∧ (True) ∧ K σ' ∧ MI t g g1 f1 lm io mo ln ns r3 f3 r6 f6 c' σ' ∧ FM σ σ') := by
  obtain ⟨c, fa, pl, rw, en, wy, wh, bi, ed, sz, md, bd, li, wk, we, Lc, la, lh, ld, lk, lt, hM, hO, ht, hg, h1, h2, h3, h4, h5, h6, -⟩ := hI
  refine T.mono (s_M_fault d  σ hM ) ?_
  rintro v9 s9 ⟨z, c1, rfl, mm, ff, z1, z2⟩
  exact ⟨z, c1, rfl, ⟨by omega, by omega⟩, trivial, ff.keepK hK, ⟨c1, fa, pl, rw, en, wy, wh, bi, ed, sz, md, bd, li, wk, we, Lc, la, lh, ld, lk, lt, mm, hO, ht, hg, h1, h2, h3, h4, h5, h6, rfl⟩, ff⟩
theorem m_M_place {ξ : Nat → Option (Nat × List Int32)} (d : Nat)  {σ : qH} {t f1 io mo ns f3 f6 cc : Int} {g g1 r3 r6 : Int → Int} {lm ln : List Int32} (hK : K σ) (hI : MI t g g1 f1 lm io mo ln ns r3 f3 r6 f6 cc σ)  : T ξ (d + 10) j_M_place 0 (lv_args 0 [.ref 137]) [] σ (fun v0 σ' => ∃ (z : Int)  (c' : Int), v0 = some (J z) ∧ (-2147483648 ≤ z ∧ z ≤ 2147483647) ∧ (True) ∧ K σ' ∧ MI t g g1 f1 lm io mo ln ns r3 f3 r6 f6 c' σ' ∧ FM σ σ') := by
  obtain ⟨c, fa, pl, rw, en, wy, wh, bi, ed, sz, md, bd, li, wk, we, Lc, la, lh, ld, lk, lt, hM, hO, ht, hg, h1, h2, h3, h4, h5, h6, -⟩ := hI
  refine T.mono (s_M_place d  σ hM ) ?_
  rintro v9 s9 ⟨z, c1, rfl, mm, ff, z1, z2⟩
  exact ⟨z, c1, rfl, ⟨by omega, by omega⟩, trivial, ff.keepK hK, ⟨c1, fa, pl, rw, en, wy, wh, bi, ed, sz, md, bd, li, wk, we, Lc, la, lh, ld, lk, lt, mm, hO, ht, hg, h1, h2, h3, h4, h5, h6, rfl⟩, ff⟩
theorem m_M_octet {ξ : Nat → Option (Nat × List Int32)} (d : Nat) (x : Int) {σ : qH} {t f1 io mo ns f3 f6 cc : Int} {g g1 r3 r6 : Int → Int} {lm ln : List Int32} (hK : K σ) (hI : MI t g g1 f1 lm io mo ln ns r3 f3 r6 f6 cc σ) (rx : -2147483648 ≤ x ∧ x ≤ 2147483647) : T ξ (d + 10) j_M_octet 0 (lv_args 0 [.ref 137, J x]) [] σ (fun v0 σ' => ∃ (z : Int)  (c' : Int), v0 = some (J z) ∧ (-2147483648 ≤ z ∧ z ≤ 2147483647) ∧ (OCR r3 f3 x z) ∧ K σ' ∧ MI t g g1 f1 lm io mo ln ns r3 f3 r6 f6 c' σ' ∧ FM σ σ') := by
  obtain ⟨c, fa, pl, rw, en, wy, wh, bi, ed, sz, md, bd, li, wk, we, Lc, la, lh, ld, lk, lt, hM, hO, ht, hg, h1, h2, h3, h4, h5, h6, -⟩ := hI
  subst ht
  subst hg
  subst h1
  subst h2
  subst h3
  subst h4
  subst h5
  subst h6
  refine T.mono (s_M_eoctet d x σ hM rx) ?_
  rintro v9 s9 ⟨z, c1, rfl, mm, ff, z1, z2, p0, p1⟩
  exact ⟨z, c1, rfl, ⟨by omega, by omega⟩, ⟨p0, p1⟩, ff.keepK hK, ⟨c1, fa, pl, rw, en, wy, wh, bi, ed, sz, md, bd, li, wk, we, Lc, la, lh, ld, lk, lt, mm, hO, rfl, rfl, rfl, rfl, rfl, rfl, rfl, rfl, rfl⟩, ff⟩
theorem m_M_value {ξ : Nat → Option (Nat × List Int32)} (d : Nat) (x : Int) {σ : qH} {t f1 io mo ns f3 f6 cc : Int} {g g1 r3 r6 : Int → Int} {lm ln : List Int32} (hK : K σ) (hI : MI t g g1 f1 lm io mo ln ns r3 f3 r6 f6 cc σ) (rx : -2147483648 ≤ x ∧ x ≤ 2147483647) : T ξ (d + 10) j_M_value 0 (lv_args 0 [.ref 137, J x]) [] σ (fun v0 σ' => ∃ (z : Int)  (c' : Int), v0 = some (J z) ∧ (-2147483648 ≤ z ∧ z ≤ 2147483647) ∧ (OCR r6 f6 x z) ∧ K σ' ∧ MI t g g1 f1 lm io mo ln ns r3 f3 r6 f6 c' σ' ∧ FM σ σ') := by
  obtain ⟨c, fa, pl, rw, en, wy, wh, bi, ed, sz, md, bd, li, wk, we, Lc, la, lh, ld, lk, lt, hM, hO, ht, hg, h1, h2, h3, h4, h5, h6, -⟩ := hI
  subst ht
  subst hg
  subst h1
  subst h2
  subst h3
  subst h4
  subst h5
  subst h6
  refine T.mono (s_M_evalue d x σ hM rx) ?_
  rintro v9 s9 ⟨z, c1, rfl, mm, ff, z1, z2, p0, p1⟩
  exact ⟨z, c1, rfl, ⟨by omega, by omega⟩, ⟨p0, p1⟩, ff.keepK hK, ⟨c1, fa, pl, rw, en, wy, wh, bi, ed, sz, md, bd, li, wk, we, Lc, la, lh, ld, lk, lt, mm, hO, rfl, rfl, rfl, rfl, rfl, rfl, rfl, rfl, rfl⟩, ff⟩
theorem m_M_end {ξ : Nat → Option (Nat × List Int32)} (d : Nat) (x : Int) {σ : qH} {t f1 io mo ns f3 f6 cc : Int} {g g1 r3 r6 : Int → Int} {lm ln : List Int32} (hK : K σ) (hI : MI t g g1 f1 lm io mo ln ns r3 f3 r6 f6 cc σ) (rx : -2147483648 ≤ x ∧ x ≤ 2147483647) : T ξ (d + 10) j_M_end 0 (lv_args 0 [.ref 137, J x]) [] σ (fun v0 σ' => ∃ (z : Int) (t' : Int) (c' : Int), v0 = some (J z) ∧ (-2147483648 ≤ z ∧ z ≤ 2147483647) ∧ ((0 ≤ x ∧ x ≤ t → z = 1 ∧ t' = x) ∧ (¬ (0 ≤ x ∧ x ≤ t) → z = 0 ∧ t' = t)) ∧ K σ' ∧ MI t' g g1 f1 lm io mo ln ns r3 f3 r6 f6 c' σ' ∧ FM σ σ') := by
  obtain ⟨c, fa, pl, rw, en, wy, wh, bi, ed, sz, md, bd, li, wk, we, Lc, la, lh, ld, lk, lt, hM, hO, ht, hg, h1, h2, h3, h4, h5, h6, -⟩ := hI
  refine T.mono (s_M_zend d x σ hM rx) ?_
  rintro v9 s9 ⟨z, c1, la1, rfl, mm, ff, z1, z2, p0, p1, p2, p3, p4⟩
  exact ⟨z, gl la1 0, c1, rfl, ⟨by omega, by omega⟩, ⟨fun h => by have := p0 (by omega); omega, fun h => by have := p1 (by omega); omega⟩, ff.keepK hK, ⟨c1, fa, pl, rw, en, wy, wh, bi, ed, sz, md, bd, li, wk, we, Lc, la1, lh, ld, lk, lt, mm, (by unfold OKM; rw [p2]; exact hO), rfl, hg, h1, (p2.trans h2), h3, (p3.trans h4), h5, (p4.trans h6), rfl⟩, ff⟩
theorem m_M_feed {ξ : Nat → Option (Nat × List Int32)} (d : Nat) (x y u o q : Int) {σ : qH} {t f1 io mo ns f3 f6 cc : Int} {g g1 r3 r6 : Int → Int} {lm ln : List Int32} (hK : K σ) (hI : MI t g g1 f1 lm io mo ln ns r3 f3 r6 f6 cc σ) (rx : -2147483648 ≤ x ∧ x ≤ 2147483647) (ry : -2147483648 ≤ y ∧ y ≤ 2147483647) (ru : -2147483648 ≤ u ∧ u ≤ 2147483647) (ro : -2147483648 ≤ o ∧ o ≤ 2147483647) (rq : -2147483648 ≤ q ∧ q ≤ 2147483647) : T ξ (d + 10) j_M_feed 0 (lv_args 0 [.ref 137, J x, J y, J u, J o, J q]) [] σ (fun v0 σ' => ∃ (z : Int) (t' : Int) (g' : Int → Int) (c' : Int), v0 = some (J z) ∧ (-2147483648 ≤ z ∧ z ≤ 2147483647) ∧ ((t ≤ 7980 → z = 1 ∧ t' = t + 20 ∧ g' = up20 g t x y u o q) ∧ (7980 < t → z = 0 ∧ t' = t ∧ g' = g)) ∧ K σ' ∧ MI t' g' g1 f1 lm io mo ln ns r3 f3 r6 f6 c' σ' ∧ FM σ σ') := by
  obtain ⟨c, fa, pl, rw, en, wy, wh, bi, ed, sz, md, bd, li, wk, we, Lc, la, lh, ld, lk, lt, hM, hO, ht, hg, h1, h2, h3, h4, h5, h6, -⟩ := hI
  refine T.mono (s_M_zfeed d x y u o q σ hM rx ry ru ro rq) ?_
  rintro v9 s9 ⟨z, c1, Lc1, la1, rfl, mm, ff, z1, z2, p0, p1, p2, p3, p4, p5, p6, p7⟩
  exact ⟨z, gl la1 0, gc Lc1 0, c1, rfl, ⟨by omega, by omega⟩, ⟨fun h => ⟨(p1 (by omega)).1, by have := p1 (by omega); omega, by rw [← hg, ← ht]; exact p4 (by omega)⟩, fun h => ⟨(p2 (by omega)).1, by have := p2 (by omega); omega, by rw [← hg]; exact p5 (by omega)⟩⟩, ff.keepK hK, ⟨c1, fa, pl, rw, en, wy, wh, bi, ed, sz, md, bd, li, wk, we, Lc1, la1, lh, ld, lk, lt, mm, (by unfold OKM; rw [p0 1 (by decide) (by decide), p3]; exact hO), rfl, rfl, ((p0 1 (by decide) (by decide)).trans h1), (p3.trans h2), ((p0 3 (by decide) (by decide)).trans h3), (p6.trans h4), ((p0 6 (by decide) (by decide)).trans h5), (p7.trans h6), rfl⟩, ff⟩
theorem m_M_type {ξ : Nat → Option (Nat × List Int32)} (d : Nat) (x : Int) {σ : qH} {t f1 io mo ns f3 f6 cc : Int} {g g1 r3 r6 : Int → Int} {lm ln : List Int32} (hK : K σ) (hI : MI t g g1 f1 lm io mo ln ns r3 f3 r6 f6 cc σ) (rx : -9223372036854775808 ≤ x ∧ x ≤ 9223372036854775807) : T ξ (d + 10) j_M_type 0 (lv_args 0 [.ref 137, JL x]) [] σ (fun v0 σ' => ∃ (z : Int) (ln' : List Int32) (ns' : Int) (c' : Int), v0 = some (J z) ∧ (-2147483648 ≤ z ∧ z ≤ 2147483647) ∧ (MTy ln ns x z ln' ns') ∧ K σ' ∧ MI t g g1 f1 lm io mo ln' ns' r3 f3 r6 f6 c' σ' ∧ FM σ σ') := by
  obtain ⟨c, fa, pl, rw, en, wy, wh, bi, ed, sz, md, bd, li, wk, we, Lc, la, lh, ld, lk, lt, hM, hO, ht, hg, h1, h2, h3, h4, h5, h6, -⟩ := hI
  refine T.mono (s_M_etype d x σ hM rx) ?_
  rintro v9 s9 ⟨z, c1, ns1, ln1, rfl, mm, ff, z1, z2, p0, p1, p2, p3, p4⟩
  exact ⟨z, ln1, ns1, c1, rfl, ⟨by omega, by omega⟩, ⟨p0, p1, p2, p3, p4⟩, ff.keepK hK, ⟨c1, fa, pl, rw, en, wy, wh, bi, ed, sz, md, bd, li, wk, we, Lc, la, lh, ld, lk, lt, mm, hO, ht, hg, h1, h2, h3, h4, h5, h6, rfl⟩, ff⟩
theorem m_M_count {ξ : Nat → Option (Nat × List Int32)} (d : Nat) (x : Int) {σ : qH} {t f1 io mo ns f3 f6 cc : Int} {g g1 r3 r6 : Int → Int} {lm ln : List Int32} (hK : K σ) (hI : MI t g g1 f1 lm io mo ln ns r3 f3 r6 f6 cc σ) (hx : MTX io g1 f1 lm mo) (rx : -2147483648 ≤ x ∧ x ≤ 2147483647) : T ξ (d + 10) j_M_count 0 (lv_args 0 [.ref 137, J x]) [] σ (fun v0 σ' => ∃ (z : Int)  (c' : Int), v0 = some (J z) ∧ (-2147483648 ≤ z ∧ z ≤ 2147483647) ∧ (MCt g1 f1 lm io mo x z) ∧ K σ' ∧ MI t g g1 f1 lm io mo ln ns r3 f3 r6 f6 c' σ' ∧ FM σ σ') := by
  obtain ⟨c, fa, pl, rw, en, wy, wh, bi, ed, sz, md, bd, li, wk, we, Lc, la, lh, ld, lk, lt, hM, hO, ht, hg, h1, h2, h3, h4, h5, h6, -⟩ := hI
  subst ht
  subst hg
  subst h1
  subst h2
  subst h3
  subst h4
  subst h5
  subst h6
  refine T.mono (s_M_zcount d x σ hM rx hO hx) ?_
  rintro v9 s9 ⟨z, c1, rw1, en1, wy1, wh1, bi1, ed1, sz1, md1, bd1, Lc1, la1, lk1, lh1, ld1, rfl, mm, ff, z1, z2, p0, p1, p2, p3, p4, p5, p6, p7, p8, p9, p10, p11, p12, p13⟩
  exact ⟨z, c1, rfl, ⟨by omega, by omega⟩, ⟨p3, p4, p5, p6, p7⟩, ff.keepK hK, ⟨c1, fa, pl, rw1, en1, wy1, wh1, bi1, ed1, sz1, md1, bd1, li, wk, we, Lc1, la1, lh1, ld1, lk1, lt, mm, p0, p1, (p2), (p8), (p9), (p10), (p11), (p12), (p13), rfl⟩, ff⟩
theorem m_M_entry {ξ : Nat → Option (Nat × List Int32)} (d : Nat) (x y u : Int) {σ : qH} {t f1 io mo ns f3 f6 cc : Int} {g g1 r3 r6 : Int → Int} {lm ln : List Int32} (hK : K σ) (hI : MI t g g1 f1 lm io mo ln ns r3 f3 r6 f6 cc σ) (hx : MTX io g1 f1 lm mo) (rx : -2147483648 ≤ x ∧ x ≤ 2147483647) (ry : -2147483648 ≤ y ∧ y ≤ 2147483647) (ru : -2147483648 ≤ u ∧ u ≤ 2147483647) : T ξ (d + 10) j_M_entry 0 (lv_args 0 [.ref 137, J x, J y, J u]) [] σ (fun v0 σ' => ∃ (z : Int)  (c' : Int), v0 = some (JL z) ∧ (-9223372036854775808 ≤ z ∧ z ≤ 9223372036854775807) ∧ (ENR g1 f1 lm io mo x y u c' z) ∧ K σ' ∧ MI t g g1 f1 lm io mo ln ns r3 f3 r6 f6 c' σ' ∧ FM σ σ') := by
  obtain ⟨c, fa, pl, rw, en, wy, wh, bi, ed, sz, md, bd, li, wk, we, Lc, la, lh, ld, lk, lt, hM, hO, ht, hg, h1, h2, h3, h4, h5, h6, -⟩ := hI
  subst ht
  subst hg
  subst h1
  subst h2
  subst h3
  subst h4
  subst h5
  subst h6
  refine T.mono (s_M_zentry d x y u σ hM rx ry ru hO hx) ?_
  rintro v9 s9 ⟨z, c1, rw1, en1, wy1, wh1, bi1, ed1, sz1, md1, bd1, Lc1, la1, lk1, lh1, ld1, rfl, mm, ff, z1, z2, p0, p1, p2, p3, p4, p5, p6, p7, p8, p9, p10, p11, p12⟩
  exact ⟨z, c1, rfl, ⟨by omega, by omega⟩, ⟨p5, p6, p7, p8⟩, ff.keepK hK, ⟨c1, fa, pl, rw1, en1, wy1, wh1, bi1, ed1, sz1, md1, bd1, li, wk, we, Lc1, la1, lh1, ld1, lk1, lt, mm, p0, p1, (p2), (p3), (p4), (p9), (p10), (p11), (p12), rfl⟩, ff⟩
theorem m_M_letter {ξ : Nat → Option (Nat × List Int32)} (d : Nat) (x y u : Int) {σ : qH} {t f1 io mo ns f3 f6 cc : Int} {g g1 r3 r6 : Int → Int} {lm ln : List Int32} (hK : K σ) (hI : MI t g g1 f1 lm io mo ln ns r3 f3 r6 f6 cc σ) (hx : MTX io g1 f1 lm mo) (rx : -2147483648 ≤ x ∧ x ≤ 2147483647) (ry : -2147483648 ≤ y ∧ y ≤ 2147483647) (ru : -2147483648 ≤ u ∧ u ≤ 2147483647) : T ξ (d + 10) j_M_letter 0 (lv_args 0 [.ref 137, J x, J y, J u]) [] σ (fun v0 σ' => ∃ (z : Int)  (c' : Int), v0 = some (J z) ∧ (-2147483648 ≤ z ∧ z ≤ 2147483647) ∧ (LTR g1 f1 lm io mo x y u c' z) ∧ K σ' ∧ MI t g g1 f1 lm io mo ln ns r3 f3 r6 f6 c' σ' ∧ FM σ σ') := by
  obtain ⟨c, fa, pl, rw, en, wy, wh, bi, ed, sz, md, bd, li, wk, we, Lc, la, lh, ld, lk, lt, hM, hO, ht, hg, h1, h2, h3, h4, h5, h6, -⟩ := hI
  subst ht
  subst hg
  subst h1
  subst h2
  subst h3
  subst h4
  subst h5
  subst h6
  refine T.mono (s_M_zletter d x y u σ hM rx ry ru hO hx) ?_
  rintro v9 s9 ⟨z, c1, rw1, en1, wy1, wh1, bi1, ed1, sz1, md1, bd1, Lc1, la1, lk1, lh1, ld1, rfl, mm, ff, z1, z2, p0, p1, p2, p3, p4, p5, p6, p7, p8, p9, p10, p11⟩
  exact ⟨z, c1, rfl, ⟨by omega, by omega⟩, ⟨p5, p6, p7⟩, ff.keepK hK, ⟨c1, fa, pl, rw1, en1, wy1, wh1, bi1, ed1, sz1, md1, bd1, li, wk, we, Lc1, la1, lh1, ld1, lk1, lt, mm, p0, p1, (p2), (p3), (p4), (p8), (p9), (p10), (p11), rfl⟩, ff⟩
theorem m_M_number {ξ : Nat → Option (Nat × List Int32)} (d : Nat) (x : Int) {σ : qH} {t f1 io mo ns f3 f6 cc : Int} {g g1 r3 r6 : Int → Int} {lm ln : List Int32} (hK : K σ) (hI : MI t g g1 f1 lm io mo ln ns r3 f3 r6 f6 cc σ) (hx : MTX io g1 f1 lm mo) (rx : -2147483648 ≤ x ∧ x ≤ 2147483647) : T ξ (d + 10) j_M_number 0 (lv_args 0 [.ref 137, J x]) [] σ (fun v0 σ' => ∃ (z : Int)  (c' : Int), v0 = some (J z) ∧ (-2147483648 ≤ z ∧ z ≤ 2147483647) ∧ (NBR g1 f1 lm io mo (gl ln) ns x c' z) ∧ K σ' ∧ MI t g g1 f1 lm io mo ln 0 r3 f3 r6 f6 c' σ' ∧ FM σ σ') := by
  obtain ⟨c, fa, pl, rw, en, wy, wh, bi, ed, sz, md, bd, li, wk, we, Lc, la, lh, ld, lk, lt, hM, hO, ht, hg, h1, h2, h3, h4, h5, h6, -⟩ := hI
  subst ht
  subst hg
  subst h1
  subst h2
  subst h3
  subst h4
  subst h5
  subst h6
  refine T.mono (s_M_znumber d x σ hM rx hO hx) ?_
  rintro v9 s9 ⟨z, c1, rw1, en1, wy1, wh1, bi1, ed1, sz1, md1, bd1, Lc1, la1, lk1, lh1, ld1, ns1, rfl, mm, ff, z1, z2, p0, p1, p2, p3, p4, p5, p6, p7, p8, p9, p10, p11, p12⟩
  exact ⟨z, c1, rfl, ⟨by omega, by omega⟩, ⟨p6, p7, p8⟩, ff.keepK hK, ⟨c1, fa, pl, rw1, en1, wy1, wh1, bi1, ed1, sz1, md1, bd1, li, wk, we, Lc1, la1, lh1, ld1, lk1, lt, (by rw [p2] at mm; exact mm), p0, p1, (p3), (p4), (p5), (p9), (p10), (p11), (p12), rfl⟩, ff⟩
theorem m_M_find {ξ : Nat → Option (Nat × List Int32)} (d : Nat) (x : Int) {σ : qH} {t f1 io mo ns f3 f6 cc : Int} {g g1 r3 r6 : Int → Int} {lm ln : List Int32} (hK : K σ) (hI : MI t g g1 f1 lm io mo ln ns r3 f3 r6 f6 cc σ) (hx : MTX io g1 f1 lm mo) (hio : io = 1 ∨ mo = 0) (rx : -2147483648 ≤ x ∧ x ≤ 2147483647) : T ξ (d + 10) j_M_find 0 (lv_args 0 [.ref 137, J x]) [] σ (fun v0 σ' => ∃ (z : Int)  (c' : Int), v0 = some (J z) ∧ (-2147483648 ≤ z ∧ z ≤ 2147483647) ∧ (FNR g1 f1 lm mo (gl ln) ns x c' z) ∧ K σ' ∧ MI t g g1 f1 lm io mo ln 0 r3 f3 r6 f6 c' σ' ∧ FM σ σ') := by
  obtain ⟨c, fa, pl, rw, en, wy, wh, bi, ed, sz, md, bd, li, wk, we, Lc, la, lh, ld, lk, lt, hM, hO, ht, hg, h1, h2, h3, h4, h5, h6, -⟩ := hI
  subst ht
  subst hg
  subst h1
  subst h2
  subst h3
  subst h4
  subst h5
  subst h6
  refine T.mono (s_M_zfind d x σ hM rx hO hx hio) ?_
  rintro v9 s9 ⟨z, c1, rw1, en1, wy1, wh1, bi1, ed1, sz1, md1, bd1, Lc1, la1, lk1, lh1, ld1, ns1, rfl, mm, ff, z1, z2, p0, p1, p2, p3, p4, p5, p6, p7, p8, p9, p10, p11, p12, p13⟩
  exact ⟨z, c1, rfl, ⟨by omega, by omega⟩, ⟨fun h => ⟨p7 h, p6 h⟩, p8, p9⟩, ff.keepK hK, ⟨c1, fa, pl, rw1, en1, wy1, wh1, bi1, ed1, sz1, md1, bd1, li, wk, we, Lc1, la1, lh1, ld1, lk1, lt, (by rw [p2] at mm; exact mm), p0, p1, (p3), (p4), (p5), (p10), (p11), (p12), (p13), rfl⟩, ff⟩
theorem m_M_read {ξ : Nat → Option (Nat × List Int32)} (d : Nat) (x y : Int) {σ : qH} {t f1 io mo ns f3 f6 cc : Int} {g g1 r3 r6 : Int → Int} {lm ln : List Int32} (hK : K σ) (hI : MI t g g1 f1 lm io mo ln ns r3 f3 r6 f6 cc σ) (hx : MTX io g1 f1 lm mo) (rx : -2147483648 ≤ x ∧ x ≤ 2147483647) (ry : -2147483648 ≤ y ∧ y ≤ 2147483647) : T ξ (d + 10) j_M_read 0 (lv_args 0 [.ref 137, J x, J y]) [] σ (fun v0 σ' => ∃ (z : Int) (r3' : Int → Int) (f3' : Int) (c' : Int), v0 = some (J z) ∧ (-2147483648 ≤ z ∧ z ≤ 2147483647) ∧ (RDR g1 f1 lm io mo x y c' z r3 f3 r3' f3') ∧ K σ' ∧ MI t g g1 f1 lm io mo ln ns r3' f3' r6 f6 c' σ' ∧ FM σ σ') := by
  obtain ⟨c, fa, pl, rw, en, wy, wh, bi, ed, sz, md, bd, li, wk, we, Lc, la, lh, ld, lk, lt, hM, hO, ht, hg, h1, h2, h3, h4, h5, h6, -⟩ := hI
  subst ht
  subst hg
  subst h1
  subst h2
  subst h3
  subst h4
  subst h5
  subst h6
  refine T.mono (s_M_eread d x y σ hM rx ry hO hx) ?_
  rintro v9 s9 ⟨z, c1, rw1, en1, wy1, wh1, bi1, ed1, sz1, md1, bd1, Lc1, la1, lk1, lh1, ld1, fa1, pl1, rfl, mm, ff, z1, z2, p0, p1, p2, p3, p4, p5, p6, p7, p8, p9, p10, p11⟩
  exact ⟨z, gc Lc1 3, gl la1 3, c1, rfl, ⟨by omega, by omega⟩, ⟨p7, p8, p9, p10, p11⟩, ff.keepK hK, ⟨c1, fa1, pl1, rw1, en1, wy1, wh1, bi1, ed1, sz1, md1, bd1, li, wk, we, Lc1, la1, lh1, ld1, lk1, lt, mm, p0, p1, (p2), (p3), (p4), rfl, rfl, (p5), (p6), rfl⟩, ff⟩
theorem m_M_mount {ξ : Nat → Option (Nat × List Int32)} (d : Nat) (x : Int) {σ : qH} {t f1 io mo ns f3 f6 cc : Int} {g g1 r3 r6 : Int → Int} {lm ln : List Int32} (hK : K σ) (hI : MI t g g1 f1 lm io mo ln ns r3 f3 r6 f6 cc σ) (hx : MTX io g1 f1 lm mo) (rx : -2147483648 ≤ x ∧ x ≤ 2147483647) : T ξ (d + 10) j_M_mount 0 (lv_args 0 [.ref 137, J x]) [] σ (fun v0 σ' => ∃ (z : Int) (lm' : List Int32) (mo' : Int) (c' : Int), v0 = some (J z) ∧ (-2147483648 ≤ z ∧ z ≤ 2147483647) ∧ (MMo g1 f1 lm io mo x c' lm' mo' ∧ MTR g1 f1 io mo x c' z) ∧ K σ' ∧ MI t g g1 f1 lm' io mo' ln ns r3 f3 r6 f6 c' σ' ∧ FM σ σ') := by
  obtain ⟨c, fa, pl, rw, en, wy, wh, bi, ed, sz, md, bd, li, wk, we, Lc, la, lh, ld, lk, lt, hM, hO, ht, hg, h1, h2, h3, h4, h5, h6, -⟩ := hI
  subst ht
  subst hg
  subst h1
  subst h2
  subst h3
  subst h4
  subst h5
  subst h6
  refine T.mono (s_M_zmount d x σ hM rx hO hx) ?_
  rintro v9 s9 ⟨z, c1, rw1, en1, wy1, wh1, bi1, ed1, sz1, md1, bd1, Lc1, la1, lk1, lh1, ld1, fa1, pl1, mo1, lm1, rfl, mm, ff, z1, z2, p0, p1, p2, p3, p4, p5, p6, p7, p8, p9, p10, p11, p12, p13, p14, p15, p16, p17, p18⟩
  exact ⟨z, lm1, mo1, c1, rfl, ⟨by omega, by omega⟩, ⟨⟨p5, p6, p7, p8, p9⟩, fun h => ⟨⟨(p5 h).1, (p5 h).2.1, (p5 h).2.2.1⟩, p6 h, (p5 h).2.2.2.1, (p10 h).trans (p5 h).2.2.2.2⟩, p11, p12, fun h => ⟨(p13 h).1, (p13 h).2.1, by have := (p13 h).2.2; omega⟩, p14⟩, ff.keepK hK, ⟨c1, fa1, pl1, rw1, en1, wy1, wh1, bi1, ed1, sz1, md1, bd1, li, wk, we, Lc1, la1, lh1, ld1, lk1, lt, mm, p0, p1, (p2), (p3), (p4), (p15), (p16), (p17), (p18), rfl⟩, ff⟩
theorem m_M_open {ξ : Nat → Option (Nat × List Int32)} (d : Nat)  {σ : qH} {t f1 io mo ns f3 f6 cc : Int} {g g1 r3 r6 : Int → Int} {lm ln : List Int32} (hK : K σ) (hI : MI t g g1 f1 lm io mo ln ns r3 f3 r6 f6 cc σ)  : T ξ (d + 10) j_M_open 0 (lv_args 0 [.ref 137]) [] σ (fun v0 σ' => ∃ (z : Int) (g1' : Int → Int) (f1' io' mo' f3' : Int) (c' : Int), v0 = some (J z) ∧ (-2147483648 ≤ z ∧ z ≤ 2147483647) ∧ (MOp g t g1 f1 io mo z c' g1' f1' io' mo' ∧ MX3 g t f3 f3') ∧ K σ' ∧ MI 0 g g1' f1' lm io' mo' ln ns r3 f3' r6 f6 c' σ' ∧ FM σ σ') := by
  obtain ⟨c, fa, pl, rw, en, wy, wh, bi, ed, sz, md, bd, li, wk, we, Lc, la, lh, ld, lk, lt, hM, hO, ht, hg, h1, h2, h3, h4, h5, h6, -⟩ := hI
  subst ht
  subst hg
  subst h1
  subst h2
  subst h3
  subst h4
  subst h5
  subst h6
  refine T.mono (s_M_zopen d  σ hM  hO) ?_
  rintro v9 s9 ⟨z, c1, io1, mo1, fa1, pl1, rw1, en1, wy1, wh1, Lc1, la1, lh1, ld1, rfl, mm, ff, z1, z2, p0, p1, p2, p3, p4, p5, p6, p7, p8, p9, p10, p11⟩
  exact ⟨z, gc Lc1 1, gl la1 1, io1, mo1, gl la1 3, c1, rfl, ⟨by omega, by omega⟩, ⟨⟨fun h => ⟨p2 h, p5 h⟩, fun h => ⟨p3 h, p6 h⟩⟩, p10, p11⟩, ff.keepK hK, ⟨c1, fa1, pl1, rw1, en1, wy1, wh1, bi, ed, sz, md, bd, li, wk, we, Lc1, la1, lh1, ld1, lk, lt, mm, p0, p1, (p4), rfl, rfl, (p7), rfl, (p8), (p9), rfl⟩, ff⟩
theorem m_M_index {ξ : Nat → Option (Nat × List Int32)} (d : Nat)  {σ : qH} {t f1 io mo ns f3 f6 cc : Int} {g g1 r3 r6 : Int → Int} {lm ln : List Int32} (hK : K σ) (hI : MI t g g1 f1 lm io mo ln ns r3 f3 r6 f6 cc σ)  : T ξ (d + 10) j_M_index 0 (lv_args 0 [.ref 137]) [] σ (fun v0 σ' => ∃ (z : Int) (lm' : List Int32) (mo' : Int) (c' : Int), v0 = some (J z) ∧ (-2147483648 ≤ z ∧ z ≤ 2147483647) ∧ (MIx g1 f1 lm io mo c' lm' mo' ∧ IXK g1 f1 io c' z) ∧ K σ' ∧ MI t g g1 f1 lm' io mo' ln ns r3 f3 r6 f6 c' σ' ∧ FM σ σ') := by
  obtain ⟨c, fa, pl, rw, en, wy, wh, bi, ed, sz, md, bd, li, wk, we, Lc, la, lh, ld, lk, lt, hM, hO, ht, hg, h1, h2, h3, h4, h5, h6, -⟩ := hI
  subst ht
  subst hg
  subst h1
  subst h2
  subst h3
  subst h4
  subst h5
  subst h6
  refine T.mono (s_M_zindex d  σ hM  hO) ?_
  rintro v9 s9 ⟨z, c1, fa1, pl1, mo1, lm1, rw1, en1, wy1, wh1, bi1, ed1, sz1, md1, bd1, Lc1, la1, lk1, lh1, ld1, lt1, li1, rfl, mm, ff, z1, z2, p0, p1, p2, p3, p4, p5, p6, p7, p8, p9, p10, p11, p12, p13, p14, p15⟩
  exact ⟨z, lm1, mo1, c1, rfl, ⟨by omega, by omega⟩, ⟨⟨p5, p6, p7⟩, fun h => ⟨(p5 h).1, by rw [p8 h]; exact (p5 h).2.1⟩, p9, p10, p11⟩, ff.keepK hK, ⟨c1, fa1, pl1, rw1, en1, wy1, wh1, bi1, ed1, sz1, md1, bd1, li1, wk, we, Lc1, la1, lh1, ld1, lk1, lt1, mm, p0, p1, (p2), (p3), (p4), (p12), (p13), (p14), (p15), rfl⟩, ff⟩
theorem m_M_attribute {ξ : Nat → Option (Nat × List Int32)} (d : Nat) (x : Int) {σ : qH} {t f1 io mo ns f3 f6 cc : Int} {g g1 r3 r6 : Int → Int} {lm ln : List Int32} (hK : K σ) (hI : MI t g g1 f1 lm io mo ln ns r3 f3 r6 f6 cc σ) (hx : MTX io g1 f1 lm mo) (rx : -2147483648 ≤ x ∧ x ≤ 2147483647) : T ξ (d + 10) j_M_attribute 0 (lv_args 0 [.ref 137, J x]) [] σ (fun v0 σ' => ∃ (z : Int) (r6' : Int → Int) (f6' : Int) (c' : Int), v0 = some (J z) ∧ (-2147483648 ≤ z ∧ z ≤ 2147483647) ∧ (ATR g1 f1 lm io mo x c' z (gl ln) ns r6 f6 r6' f6') ∧ K σ' ∧ MI t g g1 f1 lm io mo ln 0 r3 f3 r6' f6' c' σ' ∧ FM σ σ') := by
  obtain ⟨c, fa, pl, rw, en, wy, wh, bi, ed, sz, md, bd, li, wk, we, Lc, la, lh, ld, lk, lt, hM, hO, ht, hg, h1, h2, h3, h4, h5, h6, -⟩ := hI
  subst ht
  subst hg
  subst h1
  subst h2
  subst h3
  subst h4
  subst h5
  subst h6
  refine T.mono (s_M_eattribute d x σ hM rx hO hx) ?_
  rintro v9 s9 ⟨z, c1, rw1, en1, wy1, wh1, bi1, ed1, sz1, md1, bd1, Lc1, la1, lk1, lh1, ld1, fa1, pl1, ns1, wk1, we1, rfl, mm, ff, z1, z2, p0, p1, p2, p3, p4, p5, p6, p7, p8, p9, p10, p11, p12⟩
  exact ⟨z, gc Lc1 6, gl la1 6, c1, rfl, ⟨by omega, by omega⟩, ⟨p8, p9, p10, p11, p12⟩, ff.keepK hK, ⟨c1, fa1, pl1, rw1, en1, wy1, wh1, bi1, ed1, sz1, md1, bd1, li, wk1, we1, Lc1, la1, lh1, ld1, lk1, lt, (by rw [p2] at mm; exact mm), p0, p1, (p3), (p4), (p5), (p6), (p7), rfl, rfl, rfl⟩, ff⟩
theorem h_L_open {ξ : Nat → Option (Nat × List Int32)} (d : Nat)  {σ : qH} {f1 io mo ns f3 f6 : Int} {g g1 r3 r6 : Int → Int} {lm ln : List Int32} (hK : K σ) (hN : NA σ) (hA : AGT σ g) (hR : R7 σ g1 f1 lm io mo) (hX9 : X9 σ ln ns r3 f3) (hV : VW σ r6 f6) (hio : io = 1 ∨ mo = 0) (hg : ∀ k, 0 ≤ g k ∧ g k ≤ 255) (hg1 : ∀ k, 0 ≤ g1 k ∧ g1 k ≤ 255) (hm : 0 ≤ mo ∧ mo ≤ 6) (hfo : io = 1 → FOn g1 f1 = 1)  : TH ξ (d + 10) j_L_open 0 (lv_args 0 [.ref 16, .ref 146]) [] σ (fun v σ' => ∃ z : Int, v = some (J z) ∧ (-2147483648 ≤ z ∧ z ≤ 2147483647) ∧ CL σ σ' ∧ tl σ' = 0 ∧ HOp σ' g (tl σ) g1 f1 lm io mo z ∧ XOp σ' g (tl σ) ln ns r3 f3 ∧ VW σ' r6 f6) := by
  obtain ⟨fs, hc⟩ := hK.cls
  obtain ⟨tp, ou, e9, e10⟩ := na_910 hK
  have h51 : 51 ∉ WO tp ou := by
    obtain ⟨ke9, sc9, tp9, ou9, mo9, sg9, ho9, mc9, lf9, lp9, hc9, -, -, f3, f4, -⟩ := hK.na
    have q9 : nfi 9 σ = some (.ref tp9) := (nfi_of hc9).trans rfl
    have q10 : nfi 10 σ = some (.ref ou9) := (nfi_of hc9).trans rfl
    have t9 : tp = tp9 := by rw [e9] at q9; cases q9; rfl
    have t10 : ou = ou9 := by rw [e10] at q10; cases q10; rfl
    rw [t9, t10]
    exact WO_k tp9 (mem2 f3) ou9 (mem2 f4)
  refine TH.go 3 (fun n9 => (rfl : _ = exh ξ n9 (d + 10) j_L_open 3 [(0, .ref 16), (1, .ref 146)] [.ref 16, J 0, .ref 146] σ)) ?_
  refine TH.callx (as := []) (r := [J 0, .ref 146]) rfl rfl rfl rfl hc rfl (s_N_zopen (d + 1) g tp ou σ hK e9 e10 (hR.2.2.1 tp ou e9 e10) hg hA hN) (fun v s hq => ?_) (fun e s hq => ?_)
  · obtain ⟨z, rfl, hf, z1, z2, ht, hF, hZ, hsv, m9, m10, a11, a14, m12, m13, hcl⟩ := hq
    obtain ⟨li, h6, hl⟩ := hf.1.out
    refine TH.i2l rfl (by omega) ?_
    refine TH.last rfl h6 (by omega) ?_
    exact TH.end 3 (fun n9 => rfl) ⟨0, rfl, by decide, CL.out hf h6 List.length_set, (tl_out hf.1).trans ht, ⟨fun _ => ⟨rfl, by rw [qs_at h6, ← hZ]; match li, hl with | [y], _ => rfl, R7_SM hf.1 SM.out (R7_open hR hK hN e9 e10 hf hsv m9 m10 a11 a14 m12 m13)⟩, fun q => by omega⟩, ⟨fun _ => X9_SM hf.1 SM.out ⟨hX9.1.fr hN hf h51, KEP_cl hX9.2 hcl⟩, fun q => by omega⟩, VW_SM hf.1 SM.out (VW_open hV hK hN e9 e10 hf)⟩
  · obtain ⟨he, s1, hf, ⟨ht, hF, hn, hk, hsk, hkr⟩, rfl⟩ := hq
    simp only [List.mem_cons, List.not_mem_nil, or_false] at he
    subst he
    exact ⟨11, rfl, TH.end 3 (fun n9 => rfl) ⟨1, rfl, by decide, CL.push hf, (tl_push hf.1).trans ht, ⟨fun q => by omega, fun _ => ⟨rfl, R7_SM hf.1 SM.push (R7_shut hR hK hN e9 e10 hf hn hk)⟩⟩, ⟨fun q => by omega, fun _ => X9_SM hf.1 SM.push ⟨hX9.1.fr hN hf h51, KEP_rows hK hX9.2 hsk hkr⟩⟩, VW_SM hf.1 SM.push (VW_open hV hK hN e9 e10 hf)⟩⟩
theorem h_L_entry {ξ : Nat → Option (Nat × List Int32)} (d : Nat) (x y u : Int) {σ : qH} {f1 io mo ns f3 f6 : Int} {g g1 r3 r6 : Int → Int} {lm ln : List Int32} (hK : K σ) (hN : NA σ) (hA : AGT σ g) (hR : R7 σ g1 f1 lm io mo) (hX9 : X9 σ ln ns r3 f3) (hV : VW σ r6 f6) (hio : io = 1 ∨ mo = 0) (hg : ∀ k, 0 ≤ g k ∧ g k ≤ 255) (hg1 : ∀ k, 0 ≤ g1 k ∧ g1 k ≤ 255) (hm : 0 ≤ mo ∧ mo ≤ 6) (hfo : io = 1 → FOn g1 f1 = 1) (rx : -2147483648 ≤ x ∧ x ≤ 2147483647) (ry : -2147483648 ≤ y ∧ y ≤ 2147483647) (ru : -2147483648 ≤ u ∧ u ≤ 2147483647) : TH ξ (d + 10) j_L_entry 0 (lv_args 0 [.ref 16, J x, J y, J u, .ref 146]) [] σ (fun v σ' => ∃ z : Int, v = some (J z) ∧ (-2147483648 ≤ z ∧ z ≤ 2147483647) ∧ CL σ σ' ∧ (tl σ' = tl σ ∧ AGT σ' g) ∧ X9 σ' ln ns r3 f3 ∧ VW σ' r6 f6 ∧ R7 σ' g1 f1 lm io mo ∧ ∃ w : Int, ((-9223372036854775808 ≤ w ∧ w ≤ 9223372036854775807) ∧ (z = 0 → OUTW σ' w)) ∧ ENR g1 f1 lm io mo x y u z w) := by
  obtain ⟨fs, hc⟩ := hK.cls
  obtain ⟨o, fo, ho, hS, hXa⟩ := R7_arz x hR hg1 hfo
  have i1 := hR.1
  have i2 := hR.2.1
  refine TH.go 6 (fun n9 => (rfl : _ = exh ξ n9 (d + 10) j_L_entry 7 [(0, .ref 16), (1, J x), (2, J y), (3, J u), (4, .ref 146)] [J u, J y, J x, .ref 16, J 0, .ref 146] σ)) ?_
  refine TH.callx (as := [J x, J y, J u]) (r := [J 0, .ref 146]) rfl rfl rfl rfl hc rfl (s_N_eentry (d + 1) o fo x y u σ hK ho hS rx ry ru) (fun v s hq => ?_) (fun e s hq => ?_)
  · obtain ⟨z, rfl, hf, z1, z2, hv, hu, hz⟩ := hq
    obtain ⟨li, h6, hl⟩ := hf.1.out
    refine TH.last rfl h6 (by omega) ?_
    have hn := nsx_fr hK hf nm_0
    have hf0 := hf.sub (w' := WR) (fun _ h => by cases h)
    have hsk := nsk_fr hK hf nm_0
    exact TH.end 3 (fun n9 => rfl) ⟨0, rfl, by decide, CL.out hf h6 List.length_set, ⟨(tl_out hf.1).trans (tape_keep hK hN hf0 WR_P (nsx_9 hn)).1, AGT_SM hf.1 SM.out ((tape_keep hK hN hf0 WR_P (nsx_9 hn)).2 g hA)⟩, X9_SM hf.1 SM.out (X9_fr hX9 hK hN hf hsk nm_0 (NKW_0 (fun _ _ => nm_0))), VW_SM hf.1 SM.out (hV.fr hN hf nm_0 nm_0), R7_SM hf.1 SM.out (R7_WR hR hK hN hf0 hn), z, ⟨⟨by omega, by omega⟩, fun _ => (by unfold OUTW; rw [qs_at h6]; match li, hl with | [y9], _ => rfl)⟩, ENR_y i1 i2 hXa hv hu hz⟩
  · obtain ⟨he, s1, hf, hne, rfl⟩ := hq
    have hn := nsx_fr hK hf nm_0
    have hf0 := hf.sub (w' := WR) (fun _ h => by cases h)
    have hsk := nsk_fr hK hf nm_0
    simp only [List.mem_cons, List.not_mem_nil, or_false] at he
    rcases he with rfl | rfl
    · exact ⟨18, rfl, TH.end 3 (fun n9 => rfl) ⟨2, rfl, by decide, CL.push hf, ⟨(tl_push hf.1).trans (tape_keep hK hN hf0 WR_P (nsx_9 hn)).1, AGT_SM hf.1 SM.push ((tape_keep hK hN hf0 WR_P (nsx_9 hn)).2 g hA)⟩, X9_SM hf.1 SM.push (X9_fr hX9 hK hN hf hsk nm_0 (NKW_0 (fun _ _ => nm_0))), VW_SM hf.1 SM.push (hV.fr hN hf nm_0 nm_0), R7_SM hf.1 SM.push (R7_WR hR hK hN hf0 hn), 0, ⟨by decide, fun q => absurd q (by decide)⟩, NEN_enr i1 i2 hXa hne (by decide)⟩⟩
    · exact ⟨14, rfl, TH.end 3 (fun n9 => rfl) ⟨1, rfl, by decide, CL.push hf, ⟨(tl_push hf.1).trans (tape_keep hK hN hf0 WR_P (nsx_9 hn)).1, AGT_SM hf.1 SM.push ((tape_keep hK hN hf0 WR_P (nsx_9 hn)).2 g hA)⟩, X9_SM hf.1 SM.push (X9_fr hX9 hK hN hf hsk nm_0 (NKW_0 (fun _ _ => nm_0))), VW_SM hf.1 SM.push (hV.fr hN hf nm_0 nm_0), R7_SM hf.1 SM.push (R7_WR hR hK hN hf0 hn), 0, ⟨by decide, fun q => absurd q (by decide)⟩, NEN_enr i1 i2 hXa hne (by decide)⟩⟩
theorem h_L_letter {ξ : Nat → Option (Nat × List Int32)} (d : Nat) (x y u : Int) {σ : qH} {f1 io mo ns f3 f6 : Int} {g g1 r3 r6 : Int → Int} {lm ln : List Int32} (hK : K σ) (hN : NA σ) (hA : AGT σ g) (hR : R7 σ g1 f1 lm io mo) (hX9 : X9 σ ln ns r3 f3) (hV : VW σ r6 f6) (hio : io = 1 ∨ mo = 0) (hg : ∀ k, 0 ≤ g k ∧ g k ≤ 255) (hg1 : ∀ k, 0 ≤ g1 k ∧ g1 k ≤ 255) (hm : 0 ≤ mo ∧ mo ≤ 6) (hfo : io = 1 → FOn g1 f1 = 1) (rx : -2147483648 ≤ x ∧ x ≤ 2147483647) (ry : -2147483648 ≤ y ∧ y ≤ 2147483647) (ru : -2147483648 ≤ u ∧ u ≤ 2147483647) : TH ξ (d + 10) j_L_letter 0 (lv_args 0 [.ref 16, J x, J y, J u, .ref 146]) [] σ (fun v σ' => ∃ z : Int, v = some (J z) ∧ (-2147483648 ≤ z ∧ z ≤ 2147483647) ∧ CL σ σ' ∧ (tl σ' = tl σ ∧ AGT σ' g) ∧ X9 σ' ln ns r3 f3 ∧ VW σ' r6 f6 ∧ R7 σ' g1 f1 lm io mo ∧ ∃ w : Int, ((-9223372036854775808 ≤ w ∧ w ≤ 9223372036854775807) ∧ (z = 0 → OUTW σ' w)) ∧ LTR g1 f1 lm io mo x y u z w) := by
  obtain ⟨fs, hc⟩ := hK.cls
  obtain ⟨o, fo, ho, hS, hXa⟩ := R7_arz x hR hg1 hfo
  have i1 := hR.1
  have i2 := hR.2.1
  refine TH.go 6 (fun n9 => (rfl : _ = exh ξ n9 (d + 10) j_L_letter 7 [(0, .ref 16), (1, J x), (2, J y), (3, J u), (4, .ref 146)] [J u, J y, J x, .ref 16, J 0, .ref 146] σ)) ?_
  refine TH.callx (as := [J x, J y, J u]) (r := [J 0, .ref 146]) rfl rfl rfl rfl hc rfl (s_N_eletter (d + 1) o fo x y u σ hK ho hS rx ry ru) (fun v s hq => ?_) (fun e s hq => ?_)
  · obtain ⟨z, rfl, hf, z1, z2, hv, hz⟩ := hq
    obtain ⟨li, h6, hl⟩ := hf.1.out
    refine TH.i2l rfl (by omega) ?_
    refine TH.last rfl h6 (by omega) ?_
    have hn := nsx_fr hK hf nm_0
    have hf0 := hf.sub (w' := WR) (fun _ h => by cases h)
    have hsk := nsk_fr hK hf nm_0
    exact TH.end 3 (fun n9 => rfl) ⟨0, rfl, by decide, CL.out hf h6 List.length_set, ⟨(tl_out hf.1).trans (tape_keep hK hN hf0 WR_P (nsx_9 hn)).1, AGT_SM hf.1 SM.out ((tape_keep hK hN hf0 WR_P (nsx_9 hn)).2 g hA)⟩, X9_SM hf.1 SM.out (X9_fr hX9 hK hN hf hsk nm_0 (NKW_0 (fun _ _ => nm_0))), VW_SM hf.1 SM.out (hV.fr hN hf nm_0 nm_0), R7_SM hf.1 SM.out (R7_WR hR hK hN hf0 hn), z, ⟨⟨by omega, by omega⟩, fun _ => (by unfold OUTW; rw [qs_at h6]; match li, hl with | [y9], _ => rfl)⟩, LTR_y i1 i2 hXa hv hz⟩
  · obtain ⟨he, s1, hf, hne, rfl⟩ := hq
    have hn := nsx_fr hK hf nm_0
    have hf0 := hf.sub (w' := WR) (fun _ h => by cases h)
    have hsk := nsk_fr hK hf nm_0
    simp only [List.mem_cons, List.not_mem_nil, or_false] at he
    subst he
    exact ⟨15, rfl, TH.end 3 (fun n9 => rfl) ⟨1, rfl, by decide, CL.push hf, ⟨(tl_push hf.1).trans (tape_keep hK hN hf0 WR_P (nsx_9 hn)).1, AGT_SM hf.1 SM.push ((tape_keep hK hN hf0 WR_P (nsx_9 hn)).2 g hA)⟩, X9_SM hf.1 SM.push (X9_fr hX9 hK hN hf hsk nm_0 (NKW_0 (fun _ _ => nm_0))), VW_SM hf.1 SM.push (hV.fr hN hf nm_0 nm_0), R7_SM hf.1 SM.push (R7_WR hR hK hN hf0 hn), 0, ⟨by decide, fun q => absurd q (by decide)⟩, NEN_ltr i1 i2 hXa hne (by decide)⟩⟩
theorem h_L_number {ξ : Nat → Option (Nat × List Int32)} (d : Nat) (x : Int) {σ : qH} {f1 io mo ns f3 f6 : Int} {g g1 r3 r6 : Int → Int} {lm ln : List Int32} (hK : K σ) (hN : NA σ) (hA : AGT σ g) (hR : R7 σ g1 f1 lm io mo) (hX9 : X9 σ ln ns r3 f3) (hV : VW σ r6 f6) (hio : io = 1 ∨ mo = 0) (hg : ∀ k, 0 ≤ g k ∧ g k ≤ 255) (hg1 : ∀ k, 0 ≤ g1 k ∧ g1 k ≤ 255) (hm : 0 ≤ mo ∧ mo ≤ 6) (hfo : io = 1 → FOn g1 f1 = 1) (rx : -2147483648 ≤ x ∧ x ≤ 2147483647) : TH ξ (d + 10) j_L_number 0 (lv_args 0 [.ref 16, J x, .ref 146]) [] σ (fun v σ' => ∃ z : Int, v = some (J z) ∧ (-2147483648 ≤ z ∧ z ≤ 2147483647) ∧ CL σ σ' ∧ (tl σ' = tl σ ∧ AGT σ' g) ∧ X9 σ' ln 0 r3 f3 ∧ VW σ' r6 f6 ∧ R7 σ' g1 f1 lm io mo ∧ ∃ w : Int, ((-9223372036854775808 ≤ w ∧ w ≤ 9223372036854775807) ∧ (z = 0 → OUTW σ' w)) ∧ NBR g1 f1 lm io mo (gl ln) ns x z w) := by
  obtain ⟨fs, hc⟩ := hK.cls
  obtain ⟨o, fo, ho, hS, hXa⟩ := R7_ary x hR hg1 hfo
  have i1 := hR.1
  have i2 := hR.2.1
  refine TH.go 4 (fun n9 => (rfl : _ = exh ξ n9 (d + 10) j_L_number 4 [(0, .ref 16), (1, J x), (2, .ref 146)] [J x, .ref 16, J 0, .ref 146] σ)) ?_
  refine TH.callx (as := [J x]) (r := [J 0, .ref 146]) rfl rfl rfl rfl hc rfl (s_N_enumber (d + 1) o fo (gl ln) x σ hK ho hS hX9.1.1 rx) (fun v s hq => ?_) (fun e s hq => ?_)
  · obtain ⟨z, rfl, hf, z1, z2, hv, hn1, hn2, h51⟩ := hq
    obtain ⟨li, h6, hl⟩ := hf.1.out
    refine TH.i2l rfl (by omega) ?_
    refine TH.last rfl h6 (by omega) ?_
    have hn := nsx_fr hK hf (by decide)
    have hf0 := hf.sub (w' := WR) (by decide)
    have hsk := nsk_fr hK hf (by decide)
    exact TH.end 3 (fun n9 => rfl) ⟨0, rfl, by decide, CL.out hf h6 List.length_set, ⟨(tl_out hf.1).trans (tape_keep hK hN hf0 WR_P (nsx_9 hn)).1, AGT_SM hf.1 SM.out ((tape_keep hK hN hf0 WR_P (nsx_9 hn)).2 g hA)⟩, X9_SM hf.1 SM.out (X9_cl hX9 hK hN hf hsk h51 (NKW_0 (by decide))), VW_SM hf.1 SM.out (hV.fr hN hf (by decide) (by decide)), R7_SM hf.1 SM.out (R7_WR hR hK hN hf0 hn), z, ⟨⟨by omega, by omega⟩, fun _ => (by unfold OUTW; rw [qs_at h6]; match li, hl with | [y9], _ => rfl)⟩, NBR_y i1 i2 hX9.1.2 hXa hv hn1 hn2⟩
  · obtain ⟨he, s1, hf, ⟨hne, h51⟩, rfl⟩ := hq
    have hn := nsx_fr hK hf (by decide)
    have hf0 := hf.sub (w' := WR) (by decide)
    have hsk := nsk_fr hK hf (by decide)
    simp only [List.mem_cons, List.not_mem_nil, or_false] at he
    subst he
    exact ⟨12, rfl, TH.end 3 (fun n9 => rfl) ⟨1, rfl, by decide, CL.push hf, ⟨(tl_push hf.1).trans (tape_keep hK hN hf0 WR_P (nsx_9 hn)).1, AGT_SM hf.1 SM.push ((tape_keep hK hN hf0 WR_P (nsx_9 hn)).2 g hA)⟩, X9_SM hf.1 SM.push (X9_cl hX9 hK hN hf hsk h51 (NKW_0 (by decide))), VW_SM hf.1 SM.push (hV.fr hN hf (by decide) (by decide)), R7_SM hf.1 SM.push (R7_WR hR hK hN hf0 hn), 0, ⟨by decide, fun q => absurd q (by decide)⟩, NBR_n i1 i2 hne⟩⟩
theorem h_L_find {ξ : Nat → Option (Nat × List Int32)} (d : Nat) (x : Int) {σ : qH} {f1 io mo ns f3 f6 : Int} {g g1 r3 r6 : Int → Int} {lm ln : List Int32} (hK : K σ) (hN : NA σ) (hA : AGT σ g) (hR : R7 σ g1 f1 lm io mo) (hX9 : X9 σ ln ns r3 f3) (hV : VW σ r6 f6) (hio : io = 1 ∨ mo = 0) (hg : ∀ k, 0 ≤ g k ∧ g k ≤ 255) (hg1 : ∀ k, 0 ≤ g1 k ∧ g1 k ≤ 255) (hm : 0 ≤ mo ∧ mo ≤ 6) (hfo : io = 1 → FOn g1 f1 = 1) (rx : -2147483648 ≤ x ∧ x ≤ 2147483647) : TH ξ (d + 10) j_L_find 0 (lv_args 0 [.ref 16, J x, .ref 146]) [] σ (fun v σ' => ∃ z : Int, v = some (J z) ∧ (-2147483648 ≤ z ∧ z ≤ 2147483647) ∧ CL σ σ' ∧ (tl σ' = tl σ ∧ AGT σ' g) ∧ X9 σ' ln 0 r3 f3 ∧ VW σ' r6 f6 ∧ R7 σ' g1 f1 lm io mo ∧ ∃ w : Int, ((-9223372036854775808 ≤ w ∧ w ≤ 9223372036854775807) ∧ (z = 0 → OUTW σ' w)) ∧ FNR g1 f1 lm mo (gl ln) ns x z w) := by
  obtain ⟨fs, hc⟩ := hK.cls
  obtain ⟨O, F, ho, hS, hXa⟩ := R7_all hR hg1 hfo
  have i1 := hR.1
  have i2 := hR.2.1
  refine TH.go 4 (fun n9 => (rfl : _ = exh ξ n9 (d + 10) j_L_find 4 [(0, .ref 16), (1, J x), (2, .ref 146)] [J x, .ref 16, J 0, .ref 146] σ)) ?_
  refine TH.callx (as := [J x]) (r := [J 0, .ref 146]) rfl rfl rfl rfl hc rfl (s_N_efind (d + 1) O F (gl ln) x σ hK ho hS hX9.1.1 (by rw [i1, i2]; exact hio) rx) (fun v s hq => ?_) (fun e s hq => ?_)
  · obtain ⟨z, rfl, hf, z1, z2, hx1, hfz, h51⟩ := hq
    obtain ⟨li, h6, hl⟩ := hf.1.out
    refine TH.i2l rfl (by omega) ?_
    refine TH.last rfl h6 (by omega) ?_
    have hn := nsx_fr hK hf (by decide)
    have hf0 := hf.sub (w' := WR) (by decide)
    have hsk := nsk_fr hK hf (by decide)
    exact TH.end 3 (fun n9 => rfl) ⟨0, rfl, by decide, CL.out hf h6 List.length_set, ⟨(tl_out hf.1).trans (tape_keep hK hN hf0 WR_P (nsx_9 hn)).1, AGT_SM hf.1 SM.out ((tape_keep hK hN hf0 WR_P (nsx_9 hn)).2 g hA)⟩, X9_SM hf.1 SM.out (X9_cl hX9 hK hN hf hsk h51 (NKW_0 (by decide))), VW_SM hf.1 SM.out (hV.fr hN hf (by decide) (by decide)), R7_SM hf.1 SM.out (R7_WR hR hK hN hf0 hn), z, ⟨⟨by omega, by omega⟩, fun _ => (by unfold OUTW; rw [qs_at h6]; match li, hl with | [y9], _ => rfl)⟩, FNR_y i2 hX9.1.2 hio hXa hx1 hfz⟩
  · obtain ⟨he, s1, hf, ⟨hne, h51⟩, rfl⟩ := hq
    have hn := nsx_fr hK hf (by decide)
    have hf0 := hf.sub (w' := WR) (by decide)
    have hsk := nsk_fr hK hf (by decide)
    simp only [List.mem_cons, List.not_mem_nil, or_false] at he
    subst he
    exact ⟨12, rfl, TH.end 3 (fun n9 => rfl) ⟨1, rfl, by decide, CL.push hf, ⟨(tl_push hf.1).trans (tape_keep hK hN hf0 WR_P (nsx_9 hn)).1, AGT_SM hf.1 SM.push ((tape_keep hK hN hf0 WR_P (nsx_9 hn)).2 g hA)⟩, X9_SM hf.1 SM.push (X9_cl hX9 hK hN hf hsk h51 (NKW_0 (by decide))), VW_SM hf.1 SM.push (hV.fr hN hf (by decide) (by decide)), R7_SM hf.1 SM.push (R7_WR hR hK hN hf0 hn), 0, ⟨by decide, fun q => absurd q (by decide)⟩, FNR_n hne⟩⟩
theorem h_L_read {ξ : Nat → Option (Nat × List Int32)} (hX : XT ξ) (d : Nat) (x y : Int) {σ : qH} {f1 io mo ns f3 f6 : Int} {g g1 r3 r6 : Int → Int} {lm ln : List Int32} (hK : K σ) (hN : NA σ) (hA : AGT σ g) (hR : R7 σ g1 f1 lm io mo) (hX9 : X9 σ ln ns r3 f3) (hV : VW σ r6 f6) (hio : io = 1 ∨ mo = 0) (hg : ∀ k, 0 ≤ g k ∧ g k ≤ 255) (hg1 : ∀ k, 0 ≤ g1 k ∧ g1 k ≤ 255) (hm : 0 ≤ mo ∧ mo ≤ 6) (hfo : io = 1 → FOn g1 f1 = 1) (rx : -2147483648 ≤ x ∧ x ≤ 2147483647) (ry : -2147483648 ≤ y ∧ y ≤ 2147483647) : TH ξ (d + 10) j_L_read 0 (lv_args 0 [.ref 16, J x, J y, .ref 146]) [] σ (fun v σ' => ∃ z : Int, v = some (J z) ∧ (-2147483648 ≤ z ∧ z ≤ 2147483647) ∧ CL σ σ' ∧ (tl σ' = tl σ ∧ AGT σ' g) ∧ VW σ' r6 f6 ∧ R7 σ' g1 f1 lm io mo ∧ TYQ σ' ln ns ∧ (z ≠ 0 → KEP σ' r3 f3) ∧ ∃ w : Int, ((-9223372036854775808 ≤ w ∧ w ≤ 9223372036854775807) ∧ (z = 0 → OUTW σ' w)) ∧ HRd σ' g1 f1 lm io mo x y z w) := by
  obtain ⟨fs, hc⟩ := hK.cls
  obtain ⟨o, fo, ho, hS, hXa⟩ := R7_arz x hR hg1 hfo
  have i1 := hR.1
  have i2 := hR.2.1
  obtain ⟨-, -, -, -, -, -, -, hf1, hf2, -⟩ := id hR
  obtain ⟨ke, sc, h7, h8, hks, -, -⟩ := id hX9.2
  obtain ⟨fke, fsc⟩ := hK.ks h7 h8
  have hw51 : 51 ∉ WRs sc := (by decide : ∀ s ∈ [59, 61], 51 ∉ WRs s) sc (mem2 fsc)
  refine TH.go 5 (fun n9 => (rfl : _ = exh ξ n9 (d + 10) j_L_read 5 [(0, .ref 16), (1, J x), (2, J y), (3, .ref 146)] [J y, J x, .ref 16, J 0, .ref 146] σ)) ?_
  refine TH.callx (as := [J x, J y]) (r := [J 0, .ref 146]) rfl rfl rfl rfl hc rfl (TX.all (P := fun r => AGB r o fo) o ⟨ho, fun _ _ _ => rfl⟩ (fun r hr => s_N_eread hX (d + 1) o fo r ke sc x y σ hK ho hr.1 hN hS hr.2 h7 h8 hks hf1 hf2 rx ry)) (fun v s hq => ?_) (fun e s hq => ?_)
  · obtain ⟨z, rfl, hf, z1, z2, hv, -, -, hz, m7, m8, hn⟩ := hq o ⟨ho, fun _ _ _ => rfl⟩
    have hal : ∀ r : Int → Int, AGB r o fo → RD r (Hj o fo y) (Dj o fo y) (nb s sc) ∧ rl s sc = W4 r (Hj o fo y + 24) := fun r hr => by
      obtain ⟨z9, -, -, -, -, -, q1, q2, -⟩ := hq r hr
      exact ⟨q1, q2⟩
    obtain ⟨li, h6, hl⟩ := hf.1.out
    refine TH.i2l rfl (by omega) ?_
    refine TH.last rfl h6 (by omega) ?_
    have hf0 := hf.sub (w' := WR) (WRs_R sc (mem2 fsc))
    exact TH.end 3 (fun n9 => rfl) ⟨0, rfl, by decide, CL.out hf h6 List.length_set, ⟨(tl_out hf.1).trans (tape_keep hK hN hf0 WR_P (nsx_9 hn)).1, AGT_SM hf.1 SM.out ((tape_keep hK hN hf0 WR_P (nsx_9 hn)).2 g hA)⟩, VW_SM hf.1 SM.out (hV.fr hN hf (WRs_v sc (mem2 fsc)).1 (WRs_v sc (mem2 fsc)).2), R7_SM hf.1 SM.out (R7_WR hR hK hN hf0 hn), TYQ_SM hf.1 SM.out (hX9.1.fr hN hf hw51), fun q => absurd rfl q, z, ⟨⟨by omega, by omega⟩, fun _ => (by unfold OUTW; rw [qs_at h6]; match li, hl with | [y9], _ => rfl)⟩, HRd_y i1 i2 hf.1 SM.out hXa hv hks fsc m7 m8 hz hal⟩
  · obtain ⟨he, s1, hf, ⟨hn, hsk, hne⟩, rfl⟩ := hq o ⟨ho, fun _ _ _ => rfl⟩
    have hf0 := hf.sub (w' := WR) (WRs_R sc (mem2 fsc))
    have hal : ∀ r : Int → Int, AGB r o fo → NRE σ o fo r x y e := fun r hr => by
      obtain ⟨-, s9, -, ⟨-, -, q1⟩, -⟩ := hq r hr
      exact q1
    simp only [List.mem_cons, List.not_mem_nil, or_false] at he
    rcases he with rfl | rfl
    · exact ⟨17, rfl, TH.end 3 (fun n9 => rfl) ⟨2, rfl, by decide, CL.push hf, ⟨(tl_push hf.1).trans (tape_keep hK hN hf0 WR_P (nsx_9 hn)).1, AGT_SM hf.1 SM.push ((tape_keep hK hN hf0 WR_P (nsx_9 hn)).2 g hA)⟩, VW_SM hf.1 SM.push (hV.fr hN hf (WRs_v sc (mem2 fsc)).1 (WRs_v sc (mem2 fsc)).2), R7_SM hf.1 SM.push (R7_WR hR hK hN hf0 hn), TYQ_SM hf.1 SM.push (hX9.1.fr hN hf hw51), (fun _ => KEP_SM hf.1 SM.push (hX9.2.fr hK hN hf hsk (NKW_s (W := WRs) h8 WRs_k))), 0, ⟨by decide, fun q => absurd q (by decide)⟩, NRE_rdr i1 i2 hXa ⟨ho, fun _ _ _ => rfl⟩ hal (by decide)⟩⟩
    · exact ⟨13, rfl, TH.end 3 (fun n9 => rfl) ⟨1, rfl, by decide, CL.push hf, ⟨(tl_push hf.1).trans (tape_keep hK hN hf0 WR_P (nsx_9 hn)).1, AGT_SM hf.1 SM.push ((tape_keep hK hN hf0 WR_P (nsx_9 hn)).2 g hA)⟩, VW_SM hf.1 SM.push (hV.fr hN hf (WRs_v sc (mem2 fsc)).1 (WRs_v sc (mem2 fsc)).2), R7_SM hf.1 SM.push (R7_WR hR hK hN hf0 hn), TYQ_SM hf.1 SM.push (hX9.1.fr hN hf hw51), (fun _ => KEP_SM hf.1 SM.push (hX9.2.fr hK hN hf hsk (NKW_s (W := WRs) h8 WRs_k))), 0, ⟨by decide, fun q => absurd q (by decide)⟩, NRE_rdr i1 i2 hXa ⟨ho, fun _ _ _ => rfl⟩ hal (by decide)⟩⟩
theorem h_L_mount {ξ : Nat → Option (Nat × List Int32)} (hX : XT ξ) (d : Nat) (x : Int) {σ : qH} {f1 io mo ns f3 f6 : Int} {g g1 r3 r6 : Int → Int} {lm ln : List Int32} (hK : K σ) (hN : NA σ) (hA : AGT σ g) (hR : R7 σ g1 f1 lm io mo) (hX9 : X9 σ ln ns r3 f3) (hV : VW σ r6 f6) (hio : io = 1 ∨ mo = 0) (hg : ∀ k, 0 ≤ g k ∧ g k ≤ 255) (hg1 : ∀ k, 0 ≤ g1 k ∧ g1 k ≤ 255) (hm : 0 ≤ mo ∧ mo ≤ 6) (hfo : io = 1 → FOn g1 f1 = 1) (rx : -2147483648 ≤ x ∧ x ≤ 2147483647) : TH ξ (d + 10) j_L_mount 0 (lv_args 0 [.ref 16, J x, .ref 146]) [] σ (fun v σ' => ∃ z : Int, v = some (J z) ∧ (-2147483648 ≤ z ∧ z ≤ 2147483647) ∧ CL σ σ' ∧ (tl σ' = tl σ ∧ AGT σ' g) ∧ X9 σ' ln ns r3 f3 ∧ VW σ' r6 f6 ∧ HMo σ' g1 f1 lm io mo x z ∧ ∃ w : Int, ((-9223372036854775808 ≤ w ∧ w ≤ 9223372036854775807) ∧ (z = 0 → OUTW σ' w)) ∧ MTR g1 f1 io mo x z w) := by
  obtain ⟨fs, hc⟩ := hK.cls
  obtain ⟨b, hb, hs0, hst⟩ := na_st hK
  obtain ⟨i1, i2, -, hms, -, hO, -, hf1, hf2, -⟩ := id hR
  refine TH.go 4 (fun n9 => (rfl : _ = exh ξ n9 (d + 10) j_L_mount 4 [(0, .ref 16), (1, J x), (2, .ref 146)] [J x, .ref 16, J 0, .ref 146] σ)) ?_
  refine TH.callx (as := [J x]) (r := [J 0, .ref 146]) rfl rfl rfl rfl hc rfl (s_N_zmount hX (d + 1) g1 f1 b x σ hK hb hg1 hN hO hst hms hf1 hf2 rx) (fun v s hq => ?_) (fun e s hq => ?_)
  · obtain ⟨z, rfl, hf, z1, z2, a1, x0, x1, a6, hz, a14, hmo, hsg, ⟨m9, m10, m11, m12, m13⟩, hstm, hsk⟩ := hq
    obtain ⟨li, h6, hl⟩ := hf.1.out
    refine TH.i2l rfl (by omega) ?_
    refine TH.last rfl h6 (by omega) ?_
    rw [i1] at a1
    rw [i2] at a6 hz a14 hmo hsg
    subst a1
    exact TH.end 3 (fun n9 => rfl) ⟨0, rfl, by decide, CL.out hf h6 List.length_set, ⟨(tl_out hf.1).trans (tape_keep hK hN hf (WMb_P b hb) m9).1, AGT_SM hf.1 SM.out ((tape_keep hK hN hf (WMb_P b hb) m9).2 g hA)⟩, X9_SM hf.1 SM.out (X9_fr hX9 hK hN hf hsk (WMb_k b hb).2 (NKW_0 (WMb_k b hb).1)), VW_SM hf.1 SM.out (hV.fr hN hf (WMb_v b hb).1 (WMb_v b hb).2), Or.inl ⟨rfl, by rw [qs_at h6, ← hz]; match li, hl with | [y], _ => rfl, rfl, x0, x1, a6, (by obtain ⟨o, h1, -⟩ := hstm; exact ⟨o, h1⟩), fun lm1 hl1 => R7_SM hf.1 SM.out (R7_mount hR hK hN hb hs0 hf ⟨hm.1, a6⟩ a14 hmo hsg m9 m10 m11 m12 m13 hstm hl1)⟩, z, ⟨⟨by omega, by omega⟩, fun _ => (by unfold OUTW; rw [qs_at h6]; match li, hl with | [y9], _ => rfl)⟩, ⟨fun _ => ⟨⟨rfl, x0, x1⟩, (by obtain ⟨o, h1, -⟩ := hstm; exact ⟨o, h1⟩), a6, hz⟩, fun q => absurd q (by decide), fun q => absurd q (by decide), fun q => absurd q (by decide), by decide⟩⟩
  · obtain ⟨he, s1, hf, ⟨hn, hmo, hsg, hno, hsk⟩, rfl⟩ := hq
    simp only [List.mem_cons, List.not_mem_nil, or_false] at he
    rcases he with rfl | rfl | rfl
    · exact ⟨15, rfl, TH.end 3 (fun n9 => rfl) ⟨2, rfl, by decide, CL.push hf, ⟨(tl_push hf.1).trans (tape_keep hK hN hf (WMb_P b hb) (nsx_9 hn)).1, AGT_SM hf.1 SM.push ((tape_keep hK hN hf (WMb_P b hb) (nsx_9 hn)).2 g hA)⟩, X9_SM hf.1 SM.push (X9_fr hX9 hK hN hf hsk (WMb_k b hb).2 (NKW_0 (WMb_k b hb).1)), VW_SM hf.1 SM.push (hV.fr hN hf (WMb_v b hb).1 (WMb_v b hb).2), Or.inr ⟨by decide, (NOM_both (k := 2) i1 i2 hno (by decide)).1, R7_SM hf.1 SM.push (R7_nomount hR hK hN hb hs0 hf hm.2 hn hmo hsg)⟩, 0, ⟨by decide, fun q => absurd q (by decide)⟩, (NOM_both i1 i2 hno (by decide)).2⟩⟩
    · exact ⟨12, rfl, TH.end 3 (fun n9 => rfl) ⟨1, rfl, by decide, CL.push hf, ⟨(tl_push hf.1).trans (tape_keep hK hN hf (WMb_P b hb) (nsx_9 hn)).1, AGT_SM hf.1 SM.push ((tape_keep hK hN hf (WMb_P b hb) (nsx_9 hn)).2 g hA)⟩, X9_SM hf.1 SM.push (X9_fr hX9 hK hN hf hsk (WMb_k b hb).2 (NKW_0 (WMb_k b hb).1)), VW_SM hf.1 SM.push (hV.fr hN hf (WMb_v b hb).1 (WMb_v b hb).2), Or.inr ⟨by decide, (NOM_both (k := 1) i1 i2 hno (by decide)).1, R7_SM hf.1 SM.push (R7_nomount hR hK hN hb hs0 hf hm.2 hn hmo hsg)⟩, 0, ⟨by decide, fun q => absurd q (by decide)⟩, (NOM_both i1 i2 hno (by decide)).2⟩⟩
    · exact ⟨18, rfl, TH.end 3 (fun n9 => rfl) ⟨3, rfl, by decide, CL.push hf, ⟨(tl_push hf.1).trans (tape_keep hK hN hf (WMb_P b hb) (nsx_9 hn)).1, AGT_SM hf.1 SM.push ((tape_keep hK hN hf (WMb_P b hb) (nsx_9 hn)).2 g hA)⟩, X9_SM hf.1 SM.push (X9_fr hX9 hK hN hf hsk (WMb_k b hb).2 (NKW_0 (WMb_k b hb).1)), VW_SM hf.1 SM.push (hV.fr hN hf (WMb_v b hb).1 (WMb_v b hb).2), Or.inr ⟨by decide, (NOM_both (k := 3) i1 i2 hno (by decide)).1, R7_SM hf.1 SM.push (R7_nomount hR hK hN hb hs0 hf hm.2 hn hmo hsg)⟩, 0, ⟨by decide, fun q => absurd q (by decide)⟩, (NOM_both i1 i2 hno (by decide)).2⟩⟩
theorem h_L_index {ξ : Nat → Option (Nat × List Int32)} (hX : XT ξ) (d : Nat)  {σ : qH} {f1 io mo ns f3 f6 : Int} {g g1 r3 r6 : Int → Int} {lm ln : List Int32} (hK : K σ) (hN : NA σ) (hA : AGT σ g) (hR : R7 σ g1 f1 lm io mo) (hX9 : X9 σ ln ns r3 f3) (hV : VW σ r6 f6) (hio : io = 1 ∨ mo = 0) (hg : ∀ k, 0 ≤ g k ∧ g k ≤ 255) (hg1 : ∀ k, 0 ≤ g1 k ∧ g1 k ≤ 255) (hm : 0 ≤ mo ∧ mo ≤ 6) (hfo : io = 1 → FOn g1 f1 = 1)  : TH ξ (d + 10) j_L_index 0 (lv_args 0 [.ref 16, .ref 146]) [] σ (fun v σ' => ∃ z : Int, v = some (J z) ∧ (-2147483648 ≤ z ∧ z ≤ 2147483647) ∧ CL σ σ' ∧ (tl σ' = tl σ ∧ AGT σ' g) ∧ X9 σ' ln ns r3 f3 ∧ VW σ' r6 f6 ∧ HIx σ' g1 f1 lm io mo z ∧ ∃ w : Int, ((-9223372036854775808 ≤ w ∧ w ≤ 9223372036854775807) ∧ (z = 0 → OUTW σ' w)) ∧ IXK g1 f1 io z w) := by
  obtain ⟨fs, hc⟩ := hK.cls
  obtain ⟨i1, i2, -, hms, -, hO, -, hf1, hf2, hx1, hx2⟩ := id hR
  obtain ⟨ke, sc, h7, h8, hks, -, -⟩ := id hX9.2
  refine TH.go 3 (fun n9 => (rfl : _ = exh ξ n9 (d + 10) j_L_index 3 [(0, .ref 16), (1, .ref 146)] [.ref 16, J 0, .ref 146] σ)) ?_
  refine TH.callx (as := []) (r := [J 0, .ref 146]) rfl rfl rfl rfl hc rfl (s_N_zindex hX (d + 1) g1 f1 ke sc σ hK hg1 hN hO (R7_ndp hR) hx1 hx2 hf1 hf2 h7 h8 hks) (fun v s hq => ?_) (fun e s hq => ?_)
  · obtain ⟨z, rfl, hf, z1, z2, hd, hsd, a14, hmo, hsg, m9, m10, m11, m12, m13, a1, hsk, hkr⟩ := hq
    obtain ⟨li, h6, hl⟩ := hf.1.out
    refine TH.i2l rfl (by omega) ?_
    refine TH.last rfl h6 (by omega) ?_
    rw [i1] at a1
    subst a1
    exact TH.end 3 (fun n9 => rfl) ⟨0, rfl, by decide, CL.out hf h6 List.length_set, ⟨(tl_out hf.1).trans (tape_keep hK hN hf WI_P m9).1, AGT_SM hf.1 SM.out ((tape_keep hK hN hf WI_P m9).2 g hA)⟩, X9_SM hf.1 SM.out (X9_kpr hX9 hN hf hsk (by decide) h7 hkr), VW_SM hf.1 SM.out (hV.fr hN hf (by decide) (by decide)), Or.inl ⟨rfl, rfl, z, by rw [qs_at h6]; match li, hl with | [y], _ => rfl, hd, fun lm1 hl1 => R7_SM hf.1 SM.out (R7_index hR hK hN hf a14 hmo hsg m9 m10 m11 m12 m13 hsd hl1 (hfo rfl))⟩, z, ⟨⟨by omega, by omega⟩, fun _ => (by unfold OUTW; rw [qs_at h6]; match li, hl with | [y9], _ => rfl)⟩, ⟨fun _ => ⟨rfl, hd⟩, fun q => absurd q (by decide), fun q => absurd q (by decide), by decide⟩⟩
  · obtain ⟨he, s1, hf, ⟨hn, hk, hno, hsk, hkr⟩, rfl⟩ := hq
    simp only [List.mem_cons, List.not_mem_nil, or_false] at he
    rcases he with rfl | rfl
    · exact ⟨14, rfl, TH.end 3 (fun n9 => rfl) ⟨2, rfl, by decide, CL.push hf, ⟨(tl_push hf.1).trans (tape_keep hK hN hf WI_P (nsx_9 hn)).1, AGT_SM hf.1 SM.push ((tape_keep hK hN hf WI_P (nsx_9 hn)).2 g hA)⟩, X9_SM hf.1 SM.push (X9_kpr hX9 hN hf hsk (by decide) h7 hkr), VW_SM hf.1 SM.push (hV.fr hN hf (by decide) (by decide)), Or.inr ⟨by decide, (NIE_both (k := 2) i1 hno (by decide)).1, R7_SM hf.1 SM.push (R7_noindex hR hK hN hf hm.2 hn hk)⟩, 0, ⟨by decide, fun q => absurd q (by decide)⟩, (NIE_both i1 hno (by decide)).2⟩⟩
    · exact ⟨11, rfl, TH.end 3 (fun n9 => rfl) ⟨1, rfl, by decide, CL.push hf, ⟨(tl_push hf.1).trans (tape_keep hK hN hf WI_P (nsx_9 hn)).1, AGT_SM hf.1 SM.push ((tape_keep hK hN hf WI_P (nsx_9 hn)).2 g hA)⟩, X9_SM hf.1 SM.push (X9_kpr hX9 hN hf hsk (by decide) h7 hkr), VW_SM hf.1 SM.push (hV.fr hN hf (by decide) (by decide)), Or.inr ⟨by decide, (NIE_both (k := 1) i1 hno (by decide)).1, R7_SM hf.1 SM.push (R7_noindex hR hK hN hf hm.2 hn hk)⟩, 0, ⟨by decide, fun q => absurd q (by decide)⟩, (NIE_both i1 hno (by decide)).2⟩⟩
theorem h_L_attribute {ξ : Nat → Option (Nat × List Int32)} (hX : XT ξ) (d : Nat) (x : Int) {σ : qH} {f1 io mo ns f3 f6 : Int} {g g1 r3 r6 : Int → Int} {lm ln : List Int32} (hK : K σ) (hN : NA σ) (hA : AGT σ g) (hR : R7 σ g1 f1 lm io mo) (hX9 : X9 σ ln ns r3 f3) (hV : VW σ r6 f6) (hio : io = 1 ∨ mo = 0) (hg : ∀ k, 0 ≤ g k ∧ g k ≤ 255) (hg1 : ∀ k, 0 ≤ g1 k ∧ g1 k ≤ 255) (hm : 0 ≤ mo ∧ mo ≤ 6) (hfo : io = 1 → FOn g1 f1 = 1) (rx : -2147483648 ≤ x ∧ x ≤ 2147483647) : TH ξ (d + 10) j_L_attribute 0 (lv_args 0 [.ref 16, J x, .ref 146]) [] σ (fun v σ' => ∃ z : Int, v = some (J z) ∧ (-2147483648 ≤ z ∧ z ≤ 2147483647) ∧ CL σ σ' ∧ (tl σ' = tl σ ∧ AGT σ' g) ∧ X9 σ' ln 0 r3 f3 ∧ (AGR σ' 53 mfn ∧ rl σ' 53 = 20) ∧ R7 σ' g1 f1 lm io mo ∧ (z ≠ 0 → VAQ σ' r6 f6) ∧ ∃ w : Int, ((-9223372036854775808 ≤ w ∧ w ≤ 9223372036854775807) ∧ (z = 0 → OUTW σ' w)) ∧ HAt σ' g1 f1 lm io mo x z w (gl ln) ns) := by
  obtain ⟨fs, hc⟩ := hK.cls
  obtain ⟨o, fo, ho, hS, hXa⟩ := R7_ary x hR hg1 hfo
  have i1 := hR.1
  have i2 := hR.2.1
  obtain ⟨-, -, -, -, -, -, -, hf1, hf2, -⟩ := id hR
  obtain ⟨ke, sc, h7, h8, hks, -, -⟩ := id hX9.2
  obtain ⟨fke, fsc⟩ := hK.ks h7 h8
  refine TH.go 4 (fun n9 => (rfl : _ = exh ξ n9 (d + 10) j_L_attribute 4 [(0, .ref 16), (1, J x), (2, .ref 146)] [J x, .ref 16, J 0, .ref 146] σ)) ?_
  refine TH.callx (as := [J x]) (r := [J 0, .ref 146]) rfl rfl rfl rfl hc rfl (TX.all (P := fun r => AGB r o fo) o ⟨ho, fun _ _ _ => rfl⟩ (fun r hr => s_N_eattribute hX (d + 1) o fo r (gl ln) ke sc x σ hK ho hr.1 hN hS hr.2 hX9.1.1 hV.2.1 hV.2.2 h7 h8 hks hf1 hf2 rx)) (fun v s hq => ?_) (fun e s hq => ?_)
  · obtain ⟨z, rfl, hf, z1, z2, hv, -, hn, hsk, h51⟩ := hq o ⟨ho, fun _ _ _ => rfl⟩
    have hal : ∀ r : Int → Int, AGB r o fo → ATO o fo r (gl ln) ns (nb s 57) (rl s 57) z := fun r hr => by
      obtain ⟨z9, e9, -, y1, y2, -, q1, -⟩ := hq r hr
      rw [J_one e9 ⟨z1, z2⟩ ⟨y1, y2⟩, hX9.1.2] at q1
      exact q1
    obtain ⟨li, h6, hl⟩ := hf.1.out
    refine TH.i2l rfl (by omega) ?_
    refine TH.last rfl h6 (by omega) ?_
    have hf0 := hf.sub (w' := WR) (WAs_R sc (mem2 fsc))
    exact TH.end 3 (fun n9 => rfl) ⟨0, rfl, by decide, CL.out hf h6 List.length_set, ⟨(tl_out hf.1).trans (tape_keep hK hN hf0 WR_P (nsx_9 hn)).1, AGT_SM hf.1 SM.out ((tape_keep hK hN hf0 WR_P (nsx_9 hn)).2 g hA)⟩, X9_SM hf.1 SM.out (X9_cl hX9 hK hN hf hsk h51 (NKW_s (W := WAs) h8 WAs_k)), MFN_SM hf.1 SM.out (MFN_fr hV.2 hN hf (WAs_v sc (mem2 fsc))), R7_SM hf.1 SM.out (R7_WR hR hK hN hf0 hn), (fun q => absurd rfl q), z, ⟨⟨by omega, by omega⟩, fun _ => (by unfold OUTW; rw [qs_at h6]; match li, hl with | [y9], _ => rfl)⟩, HAt_y i1 i2 hf.1 SM.out hXa hv hal⟩
  · obtain ⟨he, s1, hf, ⟨hn, hsk, h51, hk57, hne⟩, rfl⟩ := hq o ⟨ho, fun _ _ _ => rfl⟩
    have hf0 := hf.sub (w' := WR) (WAs_R sc (mem2 fsc))
    have hal : ∀ r : Int → Int, AGB r o fo → NAE σ o fo r x e := fun r hr => by
      obtain ⟨-, s9, -, ⟨-, -, -, -, q1⟩, -⟩ := hq r hr
      exact q1
    simp only [List.mem_cons, List.not_mem_nil, or_false] at he
    rcases he with rfl | rfl
    · exact ⟨15, rfl, TH.end 3 (fun n9 => rfl) ⟨2, rfl, by decide, CL.push hf, ⟨(tl_push hf.1).trans (tape_keep hK hN hf0 WR_P (nsx_9 hn)).1, AGT_SM hf.1 SM.push ((tape_keep hK hN hf0 WR_P (nsx_9 hn)).2 g hA)⟩, X9_SM hf.1 SM.push (X9_cl hX9 hK hN hf hsk h51 (NKW_s (W := WAs) h8 WAs_k)), MFN_SM hf.1 SM.push (MFN_fr hV.2 hN hf (WAs_v sc (mem2 fsc))), R7_SM hf.1 SM.push (R7_WR hR hK hN hf0 hn), (fun _ => VAQ_SM hf.1 SM.push (VAQ_kp hV.1 hk57)), 0, ⟨by decide, fun q => absurd q (by decide)⟩, NAE_hat i1 i2 hXa ⟨ho, fun _ _ _ => rfl⟩ hal (by decide)⟩⟩
    · exact ⟨12, rfl, TH.end 3 (fun n9 => rfl) ⟨1, rfl, by decide, CL.push hf, ⟨(tl_push hf.1).trans (tape_keep hK hN hf0 WR_P (nsx_9 hn)).1, AGT_SM hf.1 SM.push ((tape_keep hK hN hf0 WR_P (nsx_9 hn)).2 g hA)⟩, X9_SM hf.1 SM.push (X9_cl hX9 hK hN hf hsk h51 (NKW_s (W := WAs) h8 WAs_k)), MFN_SM hf.1 SM.push (MFN_fr hV.2 hN hf (WAs_v sc (mem2 fsc))), R7_SM hf.1 SM.push (R7_WR hR hK hN hf0 hn), (fun _ => VAQ_SM hf.1 SM.push (VAQ_kp hV.1 hk57)), 0, ⟨by decide, fun q => absurd q (by decide)⟩, NAE_hat i1 i2 hXa ⟨ho, fun _ _ _ => rfl⟩ hal (by decide)⟩⟩
def LJ (k t : Int) (g g1 : Int → Int) (f1 : Int) (lm : List Int32) (io mo : Int) (ln : List Int32) (ns : Int) (r3 : Int → Int) (f3 : Int) (r6 : Int → Int) (f6 : Int) (σ : qH) : Prop := K σ ∧ (tl σ = t ∧ AGT σ g ∧ NA σ ∧ R7 σ g1 f1 lm io mo ∧ X9 σ ln ns r3 f3 ∧ (io = 1 ∨ mo = 0) ∧ VW σ r6 f6) ∧ (∃ c, MI t g g1 f1 lm io mo ln ns r3 f3 r6 f6 c σ) ∧ (σ.length + cnt σ : Nat) ≤ 200 + k ∧ (qsz σ + 8000 * cnt σ : Nat) ≤ 300000 + 10 * k
def LI (k : Int) (σ : qH) : Prop := ∃ (t : Int) (g g1 : Int → Int) (f1 : Int) (lm : List Int32) (io mo : Int) (ln : List Int32) (ns : Int) (r3 : Int → Int) (f3 : Int) (r6 : Int → Int) (f6 : Int), LJ k t g g1 f1 lm io mo ln ns r3 f3 r6 f6 σ
def LQ (v : Option Value) (σ : qH) : Prop := v = some (.int 1) ∧ σ.length ≤ 5000 ∧ qsz σ ≤ 400000
theorem ld_eq {a : Int32} {x y : Int} (h : a = Int32.ofInt x) (g : a = Int32.ofInt y) (hx : -2147483648 ≤ x ∧ x ≤ 2147483647) (hy : -2147483648 ≤ y ∧ y ≤ 2147483647) : y = x := by
  rw [← i32_to hx, ← i32_to hy, ← h, ← g]
theorem ld_eq64 {a : Int64} {x y : Int} (h : a = Int64.ofInt x) (g : a = Int64.ofInt y) (hx : -9223372036854775808 ≤ x ∧ x ≤ 9223372036854775807) (hy : -9223372036854775808 ≤ y ∧ y ≤ 9223372036854775807) : y = x := by
  rw [← i64_to hx, ← i64_to hy, ← h, ← g]
/-- one more call of both -/
theorem LJ.next {k t t1 f1 io mo t' f1' io' mo' c' ns f3 ns' f3' f6 f6' : Int} {g g' g1 g1' r3 r3' r6 r6' : Int → Int} {lm lm' ln ln' : List Int32} {σ σ1 σ2 : qH} (h : LJ k t g g1 f1 lm io mo ln ns r3 f3 r6 f6 σ) (hc : CL σ σ1) (hK : K σ2) (hI : MI t' g' g1' f1' lm' io' mo' ln' ns' r3' f3' r6' f6' c' σ2) (hf : FM σ1 σ2) (h1 : tl σ1 = t1) (e : t1 = t') (ha : AGT σ1 g') (hr : R7 σ1 g1' f1' lm' io' mo') (hx : X9 σ1 ln' ns' r3' f3') (hio : io' = 1 ∨ mo' = 0) (hv : VW σ1 r6' f6') : LI (k + 1) σ2 := by
  obtain ⟨-, ⟨-, -, n, -⟩, -, a, b⟩ := h
  obtain ⟨c1, c2⟩ := hf.cl
  obtain ⟨k1, -, c3, c4, c5⟩ := hc
  exact ⟨_, _, _, _, _, _, _, _, _, _, _, _, _, hK, ⟨(tl_FM k1 hf).trans (h1.trans e), AGT_SM k1 (SM.fm hf) ha, NA_SM k1 (SM.fm hf) (c5 n), R7_SM k1 (SM.fm hf) hr, X9_SM k1 (SM.fm hf) hx, hio, VW_SM k1 (SM.fm hf) hv⟩, ⟨_, hI⟩, by omega, by omega⟩
