/-! What the law keeps between two calls. -/
def MI (t n : Int) (σ : qH) : Prop := ∃ (c io mo fa pl ns rw en wy wh bi ed sz md bd li wk we : Int) (Lc : List Int64) (la lm ln lh ld lk lt : List Int32), MS σ c io mo fa pl ns rw en wy wh bi ed sz md bd li wk we Lc la lm ln lh ld lk lt ∧ OKM Lc la lm io mo ∧ gl la 0 = t ∧ ns = n
theorem MI.frame {t n : Int} {σ σ' : qH} (h : MI t n σ) (e : ∀ i : Nat, 137 ≤ i → i ≤ 145 → σ'[i]? = σ[i]?) : MI t n σ' := by
  obtain ⟨c, io, mo, fa, pl, ns, rw, en, wy, wh, bi, ed, sz, md, bd, li, wk, we, Lc, la, lm, ln, lh, ld, lk, lt, ⟨⟨q0, q1, q2, q3, q4, q5, q6, q7, q8⟩, r⟩, o⟩ := h
  exact ⟨c, io, mo, fa, pl, ns, rw, en, wy, wh, bi, ed, sz, md, bd, li, wk, we, Lc, la, lm, ln, lh, ld, lk, lt, ⟨⟨(e 137 (by decide) (by decide)).trans q0, (e 138 (by decide) (by decide)).trans q1, (e 139 (by decide) (by decide)).trans q2, (e 140 (by decide) (by decide)).trans q3, (e 141 (by decide) (by decide)).trans q4, (e 142 (by decide) (by decide)).trans q5, (e 143 (by decide) (by decide)).trans q6, (e 144 (by decide) (by decide)).trans q7, (e 145 (by decide) (by decide)).trans q8⟩, r⟩, o⟩
theorem cnt_FM {σ σ' : qH} (h : FM σ σ') : cnt σ' = cnt σ := sum_eq (fun r hr => by
  unfold nfr
  rw [h.1 r (Or.inl (RwL_lt r hr).2.2.2), h.2.2.2])
theorem cnt_push {σ : qH} {c : qC} (hK : K σ) : cnt (σ ++ [c]) = cnt σ := sum_eq (fun r hr => by
  obtain ⟨m, n, b, bs, a1, a2, -⟩ := hK.row hr
  unfold nfr
  rw [List.getElem?_append_left (List.getElem?_eq_some_iff.mp a1).1, a1, kds_push]
  simp only []
  rw [List.getElem?_append_left (by unfold kds; rw [List.length_map]; exact (List.getElem?_eq_some_iff.mp a2).1)])
theorem tl_same {σ σ' : qH} (hK : K σ) (h : ∀ i : Nat, i < 137 → σ'[i]? = σ[i]?) : tl σ' = tl σ := by
  obtain ⟨ke, sc, tp, ou, mo, sg, ho, mc, lf, lp, hN, f1, f2, f3, -⟩ := hK.na
  have e1 : tpf σ = some (.ref tp) := tpf_of hN rfl
  have e2 : tpf σ' = some (.ref tp) := (tpf_eq (h 16 (by decide))).trans e1
  unfold tl
  rw [e2, e1]
  refine rl_eq (h (tp + 1) ?_)
  rcases f3 with rfl | rfl <;> decide
theorem tl_FM {σ σ' : qH} (hK : K σ) (h : FM σ σ') : tl σ' = tl σ := tl_same hK (fun i hi => h.1 i (Or.inl hi))
theorem tl_push {σ : qH} {c : qC} (hK : K σ) : tl (σ ++ [c]) = tl σ := tl_same hK (fun i hi => List.getElem?_append_left (by have := hK.len; omega))
theorem tl_out {σ : qH} {c : qC} (hK : K σ) : tl (σ.set 146 c) = tl σ := tl_same hK (fun i hi => List.getElem?_set_ne (by omega))
/-- what a call of the class leaves, with its throw and the answer put away -/
def CL (σ σ' : qH) : Prop := K σ' ∧ (∀ i : Nat, 137 ≤ i → i ≤ 145 → σ'[i]? = σ[i]?) ∧ σ'.length + cnt σ' ≤ σ.length + cnt σ + 1 ∧ qsz σ' + 8000 * cnt σ' ≤ qsz σ + 8000 * cnt σ + 10
theorem CL.refl {σ : qH} (h : K σ) : CL σ σ := ⟨h, fun _ _ _ => rfl, by omega, by omega⟩
theorem CL.fr {σ σ' : qH} {w : List Nat} (h : Fr w σ σ') : CL σ σ' := ⟨h.1, fun i a b => h.2.1 i a (by omega), by have := h.2.2.2.1; omega, by have := h.2.2.2.2.1; omega⟩
theorem CL.push {σ σ' : qH} {w : List Nat} (h : Fr w σ σ') : CL σ (σ' ++ [.inr (.inr (.inr (.inr (.inr 6))))]) := by
  refine ⟨h.1.push trivial, fun i a b => (List.getElem?_append_left (by have := h.1.len; omega)).trans (h.2.1 i a (by omega)), ?_, ?_⟩
  · rw [cnt_push h.1, List.length_append]
    have := h.2.2.2.1
    simp only [List.length_cons, List.length_nil]
    omega
  · rw [cnt_push h.1, qsz_push]
    have := h.2.2.2.2.1
    have e : qcs (.inr (.inr (.inr (.inr (.inr 6))))) = 6 := rfl
    omega
theorem CL.out {σ σ' : qH} {w : List Nat} {li li' : List Int64} (h : Fr w σ σ') (hi : σ'[146]? = some (.inr (.inr (.inl li)))) (e : li'.length = li.length) : CL σ (σ'.set 146 (.inr (.inr (.inl li')))) := by
  have ek : kdc (.inr (.inr (.inl li'))) = kdc (.inr (.inr (.inl li))) := by simp only [kdc, e]
  refine ⟨h.1.set hi ek trivial, fun i a b => (List.getElem?_set_ne (by omega)).trans (h.2.1 i a (by omega)), ?_, ?_⟩
  · rw [cnt_other hi ek (by decide), List.length_set]
    have := h.2.2.2.1
    omega
  · rw [cnt_other hi ek (by decide), qsz_set hi (kdc_qcs ek)]
    have := h.2.2.2.2.1
    omega
theorem K.out {σ : qH} (h : K σ) : ∃ li : List Int64, σ[146]? = some (.inr (.inr (.inl li))) ∧ li.length = 1 := by
  obtain ⟨c, hc, e, -⟩ := h.at (i := 146) (k := (2, 0, 1)) (by decide +kernel)
  obtain ⟨li, rfl, hl⟩ := kdc_lng e
  exact ⟨li, hc, hl⟩
theorem K.mod {σ : qH} (h : K σ) : ∃ fs : List Value, σ[137]? = some (.inl (7, fs)) := by
  obtain ⟨c, hc, e, -⟩ := h.at (i := 137) (k := (0, 7, 26)) (by decide +kernel)
  obtain ⟨fs, rfl, hl⟩ := kdc_obj e
  exact ⟨fs, hc⟩
theorem K.cls {σ : qH} (h : K σ) : ∃ fs : List Value, σ[16]? = some (.inl (0, fs)) := by
  obtain ⟨c, hc, e, -⟩ := h.at (i := 16) (k := (0, 0, 17)) (by decide +kernel)
  obtain ⟨fs, rfl, hl⟩ := kdc_obj e
  exact ⟨fs, hc⟩
theorem rl_push {σ : qH} {c : qC} {r : Nat} (h : K σ) (hr : r < 137) : rl (σ ++ [c]) r = rl σ r := rl_eq (List.getElem?_append_left (by have := h.len; omega))
theorem rl_out {σ : qH} {c : qC} {r : Nat} (hr : r < 137) : rl (σ.set 146 c) r = rl σ r := rl_eq (List.getElem?_set_ne (by omega))
theorem WQ_WP {σ σ' : qH} (h : Fr WQ σ σ') : Fr WP σ σ' := h.sub WQ_P
theorem FM.cl {σ σ' : qH} (h : FM σ σ') : σ'.length + cnt σ' = σ.length + cnt σ ∧ qsz σ' + 8000 * cnt σ' = qsz σ + 8000 * cnt σ := by
  rw [cnt_FM h, h.2.1, h.2.2.1]
  exact ⟨rfl, rfl⟩
theorem m_M_fault {ξ : Nat → Option (Nat × List Int32)} (d : Nat)  {σ : qH} {t n : Int} (hK : K σ) (hI : MI t n σ)  : T ξ (d + 10) j_M_fault 0 (lv_args 0 [.ref 137]) [] σ (fun v σ' => ∃ z t' n' : Int, v = some (J z) ∧ (-2147483648 ≤ z ∧ z ≤ 2147483647) ∧ ((t' = t) ∧ (n' = n)) ∧ K σ' ∧ MI t' n' σ' ∧ FM σ σ') := by
  obtain ⟨c, io, mo, fa, pl, ns, rw, en, wy, wh, bi, ed, sz, md, bd, li, wk, we, Lc, la, lm, ln, lh, ld, lk, lt, hM, hO, ht, hn⟩ := hI
  refine T.mono (s_M_fault d  σ hM ) ?_
  rintro v s ⟨z, c1, rfl, mm, ff, z1, z2⟩
  exact ⟨z, t, n, rfl, ⟨by omega, by omega⟩, ⟨rfl, rfl⟩, ff.keepK hK, ⟨c1, io, mo, fa, pl, ns, rw, en, wy, wh, bi, ed, sz, md, bd, li, wk, we, Lc, la, lm, ln, lh, ld, lk, lt, mm, hO, ht, hn⟩, ff⟩
theorem m_M_place {ξ : Nat → Option (Nat × List Int32)} (d : Nat)  {σ : qH} {t n : Int} (hK : K σ) (hI : MI t n σ)  : T ξ (d + 10) j_M_place 0 (lv_args 0 [.ref 137]) [] σ (fun v σ' => ∃ z t' n' : Int, v = some (J z) ∧ (-2147483648 ≤ z ∧ z ≤ 2147483647) ∧ ((t' = t) ∧ (n' = n)) ∧ K σ' ∧ MI t' n' σ' ∧ FM σ σ') := by
  obtain ⟨c, io, mo, fa, pl, ns, rw, en, wy, wh, bi, ed, sz, md, bd, li, wk, we, Lc, la, lm, ln, lh, ld, lk, lt, hM, hO, ht, hn⟩ := hI
  refine T.mono (s_M_place d  σ hM ) ?_
  rintro v s ⟨z, c1, rfl, mm, ff, z1, z2⟩
  exact ⟨z, t, n, rfl, ⟨by omega, by omega⟩, ⟨rfl, rfl⟩, ff.keepK hK, ⟨c1, io, mo, fa, pl, ns, rw, en, wy, wh, bi, ed, sz, md, bd, li, wk, we, Lc, la, lm, ln, lh, ld, lk, lt, mm, hO, ht, hn⟩, ff⟩
theorem m_M_octet {ξ : Nat → Option (Nat × List Int32)} (d : Nat) (x : Int) {σ : qH} {t n : Int} (hK : K σ) (hI : MI t n σ) (rx : -2147483648 ≤ x ∧ x ≤ 2147483647) : T ξ (d + 10) j_M_octet 0 (lv_args 0 [.ref 137, J x]) [] σ (fun v σ' => ∃ z t' n' : Int, v = some (J z) ∧ (-2147483648 ≤ z ∧ z ≤ 2147483647) ∧ ((t' = t) ∧ (n' = n)) ∧ K σ' ∧ MI t' n' σ' ∧ FM σ σ') := by
  obtain ⟨c, io, mo, fa, pl, ns, rw, en, wy, wh, bi, ed, sz, md, bd, li, wk, we, Lc, la, lm, ln, lh, ld, lk, lt, hM, hO, ht, hn⟩ := hI
  refine T.mono (s_M_octet d x σ hM rx) ?_
  rintro v s ⟨z, c1, rfl, mm, ff, z1, z2⟩
  exact ⟨z, t, n, rfl, ⟨by omega, by omega⟩, ⟨rfl, rfl⟩, ff.keepK hK, ⟨c1, io, mo, fa, pl, ns, rw, en, wy, wh, bi, ed, sz, md, bd, li, wk, we, Lc, la, lm, ln, lh, ld, lk, lt, mm, hO, ht, hn⟩, ff⟩
theorem m_M_value {ξ : Nat → Option (Nat × List Int32)} (d : Nat) (x : Int) {σ : qH} {t n : Int} (hK : K σ) (hI : MI t n σ) (rx : -2147483648 ≤ x ∧ x ≤ 2147483647) : T ξ (d + 10) j_M_value 0 (lv_args 0 [.ref 137, J x]) [] σ (fun v σ' => ∃ z t' n' : Int, v = some (J z) ∧ (-2147483648 ≤ z ∧ z ≤ 2147483647) ∧ ((t' = t) ∧ (n' = n)) ∧ K σ' ∧ MI t' n' σ' ∧ FM σ σ') := by
  obtain ⟨c, io, mo, fa, pl, ns, rw, en, wy, wh, bi, ed, sz, md, bd, li, wk, we, Lc, la, lm, ln, lh, ld, lk, lt, hM, hO, ht, hn⟩ := hI
  refine T.mono (s_M_value d x σ hM rx) ?_
  rintro v s ⟨z, c1, rfl, mm, ff, z1, z2⟩
  exact ⟨z, t, n, rfl, ⟨by omega, by omega⟩, ⟨rfl, rfl⟩, ff.keepK hK, ⟨c1, io, mo, fa, pl, ns, rw, en, wy, wh, bi, ed, sz, md, bd, li, wk, we, Lc, la, lm, ln, lh, ld, lk, lt, mm, hO, ht, hn⟩, ff⟩
theorem m_M_end {ξ : Nat → Option (Nat × List Int32)} (d : Nat) (x : Int) {σ : qH} {t n : Int} (hK : K σ) (hI : MI t n σ) (rx : -2147483648 ≤ x ∧ x ≤ 2147483647) : T ξ (d + 10) j_M_end 0 (lv_args 0 [.ref 137, J x]) [] σ (fun v σ' => ∃ z t' n' : Int, v = some (J z) ∧ (-2147483648 ≤ z ∧ z ≤ 2147483647) ∧ (((0 ≤ x ∧ x ≤ t → z = 1 ∧ t' = x) ∧ (¬ (0 ≤ x ∧ x ≤ t) → z = 0 ∧ t' = t)) ∧ (n' = n)) ∧ K σ' ∧ MI t' n' σ' ∧ FM σ σ') := by
  obtain ⟨c, io, mo, fa, pl, ns, rw, en, wy, wh, bi, ed, sz, md, bd, li, wk, we, Lc, la, lm, ln, lh, ld, lk, lt, hM, hO, ht, hn⟩ := hI
  refine T.mono (s_M_end d x σ hM rx) ?_
  rintro v s ⟨z, c1, la1, rfl, mm, ff, z1, z2, p0, p1, p2⟩
  exact ⟨z, gl la1 0, n, rfl, ⟨by omega, by omega⟩, ⟨⟨fun h => by have := p0 (by omega); omega, fun h => by have := p1 (by omega); omega⟩, rfl⟩, ff.keepK hK, ⟨c1, io, mo, fa, pl, ns, rw, en, wy, wh, bi, ed, sz, md, bd, li, wk, we, Lc, la1, lm, ln, lh, ld, lk, lt, mm, (by unfold OKM; rw [p2]; exact hO), rfl, hn⟩, ff⟩
theorem m_M_feed {ξ : Nat → Option (Nat × List Int32)} (d : Nat) (x y u v q : Int) {σ : qH} {t n : Int} (hK : K σ) (hI : MI t n σ) (rx : -2147483648 ≤ x ∧ x ≤ 2147483647) (ry : -2147483648 ≤ y ∧ y ≤ 2147483647) (ru : -2147483648 ≤ u ∧ u ≤ 2147483647) (rv : -2147483648 ≤ v ∧ v ≤ 2147483647) (rq : -2147483648 ≤ q ∧ q ≤ 2147483647) : T ξ (d + 10) j_M_feed 0 (lv_args 0 [.ref 137, J x, J y, J u, J v, J q]) [] σ (fun v σ' => ∃ z t' n' : Int, v = some (J z) ∧ (-2147483648 ≤ z ∧ z ≤ 2147483647) ∧ (((t ≤ 7980 → z = 1 ∧ t' = t + 20) ∧ (7980 < t → z = 0 ∧ t' = t)) ∧ (n' = n)) ∧ K σ' ∧ MI t' n' σ' ∧ FM σ σ') := by
  obtain ⟨c, io, mo, fa, pl, ns, rw, en, wy, wh, bi, ed, sz, md, bd, li, wk, we, Lc, la, lm, ln, lh, ld, lk, lt, hM, hO, ht, hn⟩ := hI
  refine T.mono (s_M_feed d x y u v q σ hM rx ry ru rv rq) ?_
  rintro v s ⟨z, c1, Lc1, la1, rfl, mm, ff, z1, z2, p0, p1, p2, p3⟩
  exact ⟨z, gl la1 0, n, rfl, ⟨by omega, by omega⟩, ⟨⟨fun h => by have := p1 (by omega); omega, fun h => by have := p2 (by omega); omega⟩, rfl⟩, ff.keepK hK, ⟨c1, io, mo, fa, pl, ns, rw, en, wy, wh, bi, ed, sz, md, bd, li, wk, we, Lc1, la1, lm, ln, lh, ld, lk, lt, mm, (by unfold OKM; rw [p0 1 (by decide) (by decide), p3]; exact hO), rfl, hn⟩, ff⟩
theorem m_M_type {ξ : Nat → Option (Nat × List Int32)} (d : Nat) (x : Int) {σ : qH} {t n : Int} (hK : K σ) (hI : MI t n σ) (rx : -9223372036854775808 ≤ x ∧ x ≤ 9223372036854775807) : T ξ (d + 10) j_M_type 0 (lv_args 0 [.ref 137, JL x]) [] σ (fun v σ' => ∃ z t' n' : Int, v = some (J z) ∧ (-2147483648 ≤ z ∧ z ≤ 2147483647) ∧ ((t' = t) ∧ (z = TYv x n ∧ (z = 0 → n' = n) ∧ (z = 1 → n' = n + CW x 8))) ∧ K σ' ∧ MI t' n' σ' ∧ FM σ σ') := by
  obtain ⟨c, io, mo, fa, pl, ns, rw, en, wy, wh, bi, ed, sz, md, bd, li, wk, we, Lc, la, lm, ln, lh, ld, lk, lt, hM, hO, ht, hn⟩ := hI
  refine T.mono (s_M_ytype d x σ hM rx) ?_
  rintro v s ⟨z, c1, ns1, ln1, rfl, mm, ff, z1, z2, p0, p1, p2⟩
  exact ⟨z, t, ns1, rfl, ⟨by omega, by omega⟩, ⟨rfl, ⟨by rw [← hn]; exact p0, fun h => by have := p1 h; omega, fun h => by have := p2 h; omega⟩⟩, ff.keepK hK, ⟨c1, io, mo, fa, pl, ns1, rw, en, wy, wh, bi, ed, sz, md, bd, li, wk, we, Lc, la, lm, ln1, lh, ld, lk, lt, mm, hO, ht, rfl⟩, ff⟩
theorem m_M_count {ξ : Nat → Option (Nat × List Int32)} (d : Nat) (x : Int) {σ : qH} {t n : Int} (hK : K σ) (hI : MI t n σ) (rx : -2147483648 ≤ x ∧ x ≤ 2147483647) : T ξ (d + 10) j_M_count 0 (lv_args 0 [.ref 137, J x]) [] σ (fun v σ' => ∃ z t' n' : Int, v = some (J z) ∧ (-2147483648 ≤ z ∧ z ≤ 2147483647) ∧ ((t' = t) ∧ (n' = n)) ∧ K σ' ∧ MI t' n' σ' ∧ FM σ σ') := by
  obtain ⟨c, io, mo, fa, pl, ns, rw, en, wy, wh, bi, ed, sz, md, bd, li, wk, we, Lc, la, lm, ln, lh, ld, lk, lt, hM, hO, ht, hn⟩ := hI
  refine T.mono (s_M_count d x σ hM rx hO) ?_
  rintro v s ⟨z, c1, rw1, en1, wy1, wh1, bi1, ed1, sz1, md1, bd1, Lc1, la1, lk1, lh1, ld1, rfl, mm, ff, z1, z2, p0, p1⟩
  exact ⟨z, t, n, rfl, ⟨by omega, by omega⟩, ⟨rfl, rfl⟩, ff.keepK hK, ⟨c1, io, mo, fa, pl, ns, rw1, en1, wy1, wh1, bi1, ed1, sz1, md1, bd1, li, wk, we, Lc1, la1, lm, ln, lh1, ld1, lk1, lt, mm, p0, (p1.trans ht), hn⟩, ff⟩
theorem m_M_entry {ξ : Nat → Option (Nat × List Int32)} (d : Nat) (x y u : Int) {σ : qH} {t n : Int} (hK : K σ) (hI : MI t n σ) (rx : -2147483648 ≤ x ∧ x ≤ 2147483647) (ry : -2147483648 ≤ y ∧ y ≤ 2147483647) (ru : -2147483648 ≤ u ∧ u ≤ 2147483647) : T ξ (d + 10) j_M_entry 0 (lv_args 0 [.ref 137, J x, J y, J u]) [] σ (fun v σ' => ∃ z t' n' : Int, v = some (JL z) ∧ (-9223372036854775808 ≤ z ∧ z ≤ 9223372036854775807) ∧ ((t' = t) ∧ (n' = n)) ∧ K σ' ∧ MI t' n' σ' ∧ FM σ σ') := by
  obtain ⟨c, io, mo, fa, pl, ns, rw, en, wy, wh, bi, ed, sz, md, bd, li, wk, we, Lc, la, lm, ln, lh, ld, lk, lt, hM, hO, ht, hn⟩ := hI
  refine T.mono (s_M_entry d x y u σ hM rx ry ru hO) ?_
  rintro v s ⟨z, c1, rw1, en1, wy1, wh1, bi1, ed1, sz1, md1, bd1, Lc1, la1, lk1, lh1, ld1, rfl, mm, ff, z1, z2, p0, p1⟩
  exact ⟨z, t, n, rfl, ⟨by omega, by omega⟩, ⟨rfl, rfl⟩, ff.keepK hK, ⟨c1, io, mo, fa, pl, ns, rw1, en1, wy1, wh1, bi1, ed1, sz1, md1, bd1, li, wk, we, Lc1, la1, lm, ln, lh1, ld1, lk1, lt, mm, p0, (p1.trans ht), hn⟩, ff⟩
theorem m_M_letter {ξ : Nat → Option (Nat × List Int32)} (d : Nat) (x y u : Int) {σ : qH} {t n : Int} (hK : K σ) (hI : MI t n σ) (rx : -2147483648 ≤ x ∧ x ≤ 2147483647) (ry : -2147483648 ≤ y ∧ y ≤ 2147483647) (ru : -2147483648 ≤ u ∧ u ≤ 2147483647) : T ξ (d + 10) j_M_letter 0 (lv_args 0 [.ref 137, J x, J y, J u]) [] σ (fun v σ' => ∃ z t' n' : Int, v = some (J z) ∧ (-2147483648 ≤ z ∧ z ≤ 2147483647) ∧ ((t' = t) ∧ (n' = n)) ∧ K σ' ∧ MI t' n' σ' ∧ FM σ σ') := by
  obtain ⟨c, io, mo, fa, pl, ns, rw, en, wy, wh, bi, ed, sz, md, bd, li, wk, we, Lc, la, lm, ln, lh, ld, lk, lt, hM, hO, ht, hn⟩ := hI
  refine T.mono (s_M_letter d x y u σ hM rx ry ru hO) ?_
  rintro v s ⟨z, c1, rw1, en1, wy1, wh1, bi1, ed1, sz1, md1, bd1, Lc1, la1, lk1, lh1, ld1, rfl, mm, ff, z1, z2, p0, p1⟩
  exact ⟨z, t, n, rfl, ⟨by omega, by omega⟩, ⟨rfl, rfl⟩, ff.keepK hK, ⟨c1, io, mo, fa, pl, ns, rw1, en1, wy1, wh1, bi1, ed1, sz1, md1, bd1, li, wk, we, Lc1, la1, lm, ln, lh1, ld1, lk1, lt, mm, p0, (p1.trans ht), hn⟩, ff⟩
theorem m_M_number {ξ : Nat → Option (Nat × List Int32)} (d : Nat) (x : Int) {σ : qH} {t n : Int} (hK : K σ) (hI : MI t n σ) (rx : -2147483648 ≤ x ∧ x ≤ 2147483647) : T ξ (d + 10) j_M_number 0 (lv_args 0 [.ref 137, J x]) [] σ (fun v σ' => ∃ z t' n' : Int, v = some (J z) ∧ (-2147483648 ≤ z ∧ z ≤ 2147483647) ∧ ((t' = t) ∧ (n' = 0)) ∧ K σ' ∧ MI t' n' σ' ∧ FM σ σ') := by
  obtain ⟨c, io, mo, fa, pl, ns, rw, en, wy, wh, bi, ed, sz, md, bd, li, wk, we, Lc, la, lm, ln, lh, ld, lk, lt, hM, hO, ht, hn⟩ := hI
  refine T.mono (s_M_number d x σ hM rx hO) ?_
  rintro v s ⟨z, c1, rw1, en1, wy1, wh1, bi1, ed1, sz1, md1, bd1, Lc1, la1, lk1, lh1, ld1, ns1, rfl, mm, ff, z1, z2, p0, p1, p2⟩
  exact ⟨z, t, 0, rfl, ⟨by omega, by omega⟩, ⟨rfl, rfl⟩, ff.keepK hK, ⟨c1, io, mo, fa, pl, ns1, rw1, en1, wy1, wh1, bi1, ed1, sz1, md1, bd1, li, wk, we, Lc1, la1, lm, ln, lh1, ld1, lk1, lt, mm, p0, (p1.trans ht), p2⟩, ff⟩
theorem m_M_find {ξ : Nat → Option (Nat × List Int32)} (d : Nat) (x : Int) {σ : qH} {t n : Int} (hK : K σ) (hI : MI t n σ) (rx : -2147483648 ≤ x ∧ x ≤ 2147483647) : T ξ (d + 10) j_M_find 0 (lv_args 0 [.ref 137, J x]) [] σ (fun v σ' => ∃ z t' n' : Int, v = some (J z) ∧ (-2147483648 ≤ z ∧ z ≤ 2147483647) ∧ ((t' = t) ∧ (n' = 0)) ∧ K σ' ∧ MI t' n' σ' ∧ FM σ σ') := by
  obtain ⟨c, io, mo, fa, pl, ns, rw, en, wy, wh, bi, ed, sz, md, bd, li, wk, we, Lc, la, lm, ln, lh, ld, lk, lt, hM, hO, ht, hn⟩ := hI
  refine T.mono (s_M_find d x σ hM rx hO) ?_
  rintro v s ⟨z, c1, rw1, en1, wy1, wh1, bi1, ed1, sz1, md1, bd1, Lc1, la1, lk1, lh1, ld1, ns1, rfl, mm, ff, z1, z2, p0, p1, p2⟩
  exact ⟨z, t, 0, rfl, ⟨by omega, by omega⟩, ⟨rfl, rfl⟩, ff.keepK hK, ⟨c1, io, mo, fa, pl, ns1, rw1, en1, wy1, wh1, bi1, ed1, sz1, md1, bd1, li, wk, we, Lc1, la1, lm, ln, lh1, ld1, lk1, lt, mm, p0, (p1.trans ht), p2⟩, ff⟩
theorem m_M_read {ξ : Nat → Option (Nat × List Int32)} (d : Nat) (x y : Int) {σ : qH} {t n : Int} (hK : K σ) (hI : MI t n σ) (rx : -2147483648 ≤ x ∧ x ≤ 2147483647) (ry : -2147483648 ≤ y ∧ y ≤ 2147483647) : T ξ (d + 10) j_M_read 0 (lv_args 0 [.ref 137, J x, J y]) [] σ (fun v σ' => ∃ z t' n' : Int, v = some (J z) ∧ (-2147483648 ≤ z ∧ z ≤ 2147483647) ∧ ((t' = t) ∧ (n' = n)) ∧ K σ' ∧ MI t' n' σ' ∧ FM σ σ') := by
  obtain ⟨c, io, mo, fa, pl, ns, rw, en, wy, wh, bi, ed, sz, md, bd, li, wk, we, Lc, la, lm, ln, lh, ld, lk, lt, hM, hO, ht, hn⟩ := hI
  refine T.mono (s_M_read d x y σ hM rx ry hO) ?_
  rintro v s ⟨z, c1, rw1, en1, wy1, wh1, bi1, ed1, sz1, md1, bd1, Lc1, la1, lk1, lh1, ld1, fa1, pl1, rfl, mm, ff, z1, z2, p0, p1⟩
  exact ⟨z, t, n, rfl, ⟨by omega, by omega⟩, ⟨rfl, rfl⟩, ff.keepK hK, ⟨c1, io, mo, fa1, pl1, ns, rw1, en1, wy1, wh1, bi1, ed1, sz1, md1, bd1, li, wk, we, Lc1, la1, lm, ln, lh1, ld1, lk1, lt, mm, p0, (p1.trans ht), hn⟩, ff⟩
theorem m_M_mount {ξ : Nat → Option (Nat × List Int32)} (d : Nat) (x : Int) {σ : qH} {t n : Int} (hK : K σ) (hI : MI t n σ) (rx : -2147483648 ≤ x ∧ x ≤ 2147483647) : T ξ (d + 10) j_M_mount 0 (lv_args 0 [.ref 137, J x]) [] σ (fun v σ' => ∃ z t' n' : Int, v = some (J z) ∧ (-2147483648 ≤ z ∧ z ≤ 2147483647) ∧ ((t' = t) ∧ (n' = n)) ∧ K σ' ∧ MI t' n' σ' ∧ FM σ σ') := by
  obtain ⟨c, io, mo, fa, pl, ns, rw, en, wy, wh, bi, ed, sz, md, bd, li, wk, we, Lc, la, lm, ln, lh, ld, lk, lt, hM, hO, ht, hn⟩ := hI
  refine T.mono (s_M_mount d x σ hM rx hO) ?_
  rintro v s ⟨z, c1, rw1, en1, wy1, wh1, bi1, ed1, sz1, md1, bd1, Lc1, la1, lk1, lh1, ld1, fa1, pl1, mo1, lm1, rfl, mm, ff, z1, z2, p0, p1⟩
  exact ⟨z, t, n, rfl, ⟨by omega, by omega⟩, ⟨rfl, rfl⟩, ff.keepK hK, ⟨c1, io, mo1, fa1, pl1, ns, rw1, en1, wy1, wh1, bi1, ed1, sz1, md1, bd1, li, wk, we, Lc1, la1, lm1, ln, lh1, ld1, lk1, lt, mm, p0, (p1.trans ht), hn⟩, ff⟩
theorem m_M_open {ξ : Nat → Option (Nat × List Int32)} (d : Nat)  {σ : qH} {t n : Int} (hK : K σ) (hI : MI t n σ)  : T ξ (d + 10) j_M_open 0 (lv_args 0 [.ref 137]) [] σ (fun v σ' => ∃ z t' n' : Int, v = some (J z) ∧ (-2147483648 ≤ z ∧ z ≤ 2147483647) ∧ ((t' = 0) ∧ (n' = n)) ∧ K σ' ∧ MI t' n' σ' ∧ FM σ σ') := by
  obtain ⟨c, io, mo, fa, pl, ns, rw, en, wy, wh, bi, ed, sz, md, bd, li, wk, we, Lc, la, lm, ln, lh, ld, lk, lt, hM, hO, ht, hn⟩ := hI
  refine T.mono (s_M_open d  σ hM  hO) ?_
  rintro v s ⟨z, c1, io1, mo1, fa1, pl1, rw1, en1, wy1, wh1, Lc1, la1, lh1, ld1, rfl, mm, ff, z1, z2, p0, p1⟩
  exact ⟨z, 0, n, rfl, ⟨by omega, by omega⟩, ⟨rfl, rfl⟩, ff.keepK hK, ⟨c1, io1, mo1, fa1, pl1, ns, rw1, en1, wy1, wh1, bi, ed, sz, md, bd, li, wk, we, Lc1, la1, lm, ln, lh1, ld1, lk, lt, mm, p0, p1, hn⟩, ff⟩
theorem m_M_index {ξ : Nat → Option (Nat × List Int32)} (d : Nat)  {σ : qH} {t n : Int} (hK : K σ) (hI : MI t n σ)  : T ξ (d + 10) j_M_index 0 (lv_args 0 [.ref 137]) [] σ (fun v σ' => ∃ z t' n' : Int, v = some (J z) ∧ (-2147483648 ≤ z ∧ z ≤ 2147483647) ∧ ((t' = t) ∧ (n' = n)) ∧ K σ' ∧ MI t' n' σ' ∧ FM σ σ') := by
  obtain ⟨c, io, mo, fa, pl, ns, rw, en, wy, wh, bi, ed, sz, md, bd, li, wk, we, Lc, la, lm, ln, lh, ld, lk, lt, hM, hO, ht, hn⟩ := hI
  refine T.mono (s_M_index d  σ hM  hO) ?_
  rintro v s ⟨z, c1, fa1, pl1, mo1, lm1, rw1, en1, wy1, wh1, bi1, ed1, sz1, md1, bd1, Lc1, la1, lk1, lh1, ld1, lt1, li1, rfl, mm, ff, z1, z2, p0, p1⟩
  exact ⟨z, t, n, rfl, ⟨by omega, by omega⟩, ⟨rfl, rfl⟩, ff.keepK hK, ⟨c1, io, mo1, fa1, pl1, ns, rw1, en1, wy1, wh1, bi1, ed1, sz1, md1, bd1, li1, wk, we, Lc1, la1, lm1, ln, lh1, ld1, lk1, lt1, mm, p0, (p1.trans ht), hn⟩, ff⟩
theorem m_M_attribute {ξ : Nat → Option (Nat × List Int32)} (d : Nat) (x : Int) {σ : qH} {t n : Int} (hK : K σ) (hI : MI t n σ) (rx : -2147483648 ≤ x ∧ x ≤ 2147483647) : T ξ (d + 10) j_M_attribute 0 (lv_args 0 [.ref 137, J x]) [] σ (fun v σ' => ∃ z t' n' : Int, v = some (J z) ∧ (-2147483648 ≤ z ∧ z ≤ 2147483647) ∧ ((t' = t) ∧ (n' = 0)) ∧ K σ' ∧ MI t' n' σ' ∧ FM σ σ') := by
  obtain ⟨c, io, mo, fa, pl, ns, rw, en, wy, wh, bi, ed, sz, md, bd, li, wk, we, Lc, la, lm, ln, lh, ld, lk, lt, hM, hO, ht, hn⟩ := hI
  refine T.mono (s_M_attribute d x σ hM rx hO) ?_
  rintro v s ⟨z, c1, rw1, en1, wy1, wh1, bi1, ed1, sz1, md1, bd1, Lc1, la1, lk1, lh1, ld1, fa1, pl1, ns1, wk1, we1, rfl, mm, ff, z1, z2, p0, p1, p2⟩
  exact ⟨z, t, 0, rfl, ⟨by omega, by omega⟩, ⟨rfl, rfl⟩, ff.keepK hK, ⟨c1, io, mo, fa1, pl1, ns1, rw1, en1, wy1, wh1, bi1, ed1, sz1, md1, bd1, li, wk1, we1, Lc1, la1, lm, ln, lh1, ld1, lk1, lt, mm, p0, (p1.trans ht), p2⟩, ff⟩
theorem h_L_open {ξ : Nat → Option (Nat × List Int32)} (d : Nat)  {σ : qH} (hK : K σ)  : TH ξ (d + 10) j_L_open 0 (lv_args 0 [.ref 16, .ref 146]) [] σ (fun v σ' => ∃ z : Int, v = some (J z) ∧ (-2147483648 ≤ z ∧ z ≤ 2147483647) ∧ CL σ σ' ∧ tl σ' = 0 ∧ rl σ' 51 = rl σ 51) := by
  obtain ⟨fs, hc⟩ := hK.cls
  refine TH.go 3 (fun n9 => (rfl : _ = exh ξ n9 (d + 10) j_L_open 3 [(0, .ref 16), (1, .ref 146)] [.ref 16, J 0, .ref 146] σ)) ?_
  refine TH.callx (as := []) (r := [J 0, .ref 146]) rfl rfl rfl rfl hc rfl (s_N_yopen (d + 1)  σ hK ) (fun v s hq => ?_) (fun e s hq => ?_)
  · obtain ⟨z, rfl, hf, z1, z2, ht⟩ := hq
    obtain ⟨li, h6, hl⟩ := hf.1.out
    refine TH.i2l rfl (by omega) ?_
    refine TH.last rfl h6 (by omega) ?_
    exact TH.end 3 (fun n9 => rfl) ⟨0, rfl, by decide, CL.out hf h6 List.length_set, (tl_out hf.1).trans ht, (rl_out (by decide)).trans (rl_eq (hf.2.2.1 51 (by decide) (by decide)))⟩
  · obtain ⟨he, s1, hf, ht, rfl⟩ := hq
    simp only [List.mem_cons, List.not_mem_nil, or_false] at he
    subst he
    refine ⟨11, rfl, TH.end 3 (fun n9 => rfl) ⟨1, rfl, by decide, CL.push hf, (tl_push hf.1).trans ht, (rl_push hf.1 (by decide)).trans (rl_eq (hf.2.2.1 51 (by decide) (by decide)))⟩⟩
theorem h_L_entry {ξ : Nat → Option (Nat × List Int32)} (d : Nat) (x y u : Int) {σ : qH} (hK : K σ) (rx : -2147483648 ≤ x ∧ x ≤ 2147483647) (ry : -2147483648 ≤ y ∧ y ≤ 2147483647) (ru : -2147483648 ≤ u ∧ u ≤ 2147483647) : TH ξ (d + 10) j_L_entry 0 (lv_args 0 [.ref 16, J x, J y, J u, .ref 146]) [] σ (fun v σ' => ∃ z : Int, v = some (J z) ∧ (-2147483648 ≤ z ∧ z ≤ 2147483647) ∧ CL σ σ' ∧ tl σ' = tl σ ∧ rl σ' 51 = rl σ 51) := by
  obtain ⟨fs, hc⟩ := hK.cls
  refine TH.go 6 (fun n9 => (rfl : _ = exh ξ n9 (d + 10) j_L_entry 7 [(0, .ref 16), (1, J x), (2, J y), (3, J u), (4, .ref 146)] [J u, J y, J x, .ref 16, J 0, .ref 146] σ)) ?_
  refine TH.callx (as := [J x, J y, J u]) (r := [J 0, .ref 146]) rfl rfl rfl rfl hc rfl (s_N_entry (d + 1) x y u σ hK rx ry ru) (fun v s hq => ?_) (fun e s hq => ?_)
  · obtain ⟨z, rfl, hf, z1, z2, ht⟩ := hq
    obtain ⟨li, h6, hl⟩ := hf.1.out
    refine TH.last rfl h6 (by omega) ?_
    exact TH.end 3 (fun n9 => rfl) ⟨0, rfl, by decide, CL.out hf h6 List.length_set, (tl_out hf.1).trans (tl_keep hK (WQ_WP hf) ht), (rl_out (by decide)).trans (rl_eq (hf.2.2.1 51 (by decide) (by decide)))⟩
  · obtain ⟨he, s1, hf, ht, rfl⟩ := hq
    simp only [List.mem_cons, List.not_mem_nil, or_false] at he
    rcases he with rfl | rfl
    · refine ⟨18, rfl, TH.end 3 (fun n9 => rfl) ⟨2, rfl, by decide, CL.push hf, (tl_push hf.1).trans (tl_keep hK (WQ_WP hf) ht), (rl_push hf.1 (by decide)).trans (rl_eq (hf.2.2.1 51 (by decide) (by decide)))⟩⟩
    · refine ⟨14, rfl, TH.end 3 (fun n9 => rfl) ⟨1, rfl, by decide, CL.push hf, (tl_push hf.1).trans (tl_keep hK (WQ_WP hf) ht), (rl_push hf.1 (by decide)).trans (rl_eq (hf.2.2.1 51 (by decide) (by decide)))⟩⟩
theorem h_L_letter {ξ : Nat → Option (Nat × List Int32)} (d : Nat) (x y u : Int) {σ : qH} (hK : K σ) (rx : -2147483648 ≤ x ∧ x ≤ 2147483647) (ry : -2147483648 ≤ y ∧ y ≤ 2147483647) (ru : -2147483648 ≤ u ∧ u ≤ 2147483647) : TH ξ (d + 10) j_L_letter 0 (lv_args 0 [.ref 16, J x, J y, J u, .ref 146]) [] σ (fun v σ' => ∃ z : Int, v = some (J z) ∧ (-2147483648 ≤ z ∧ z ≤ 2147483647) ∧ CL σ σ' ∧ tl σ' = tl σ ∧ rl σ' 51 = rl σ 51) := by
  obtain ⟨fs, hc⟩ := hK.cls
  refine TH.go 6 (fun n9 => (rfl : _ = exh ξ n9 (d + 10) j_L_letter 7 [(0, .ref 16), (1, J x), (2, J y), (3, J u), (4, .ref 146)] [J u, J y, J x, .ref 16, J 0, .ref 146] σ)) ?_
  refine TH.callx (as := [J x, J y, J u]) (r := [J 0, .ref 146]) rfl rfl rfl rfl hc rfl (s_N_letter (d + 1) x y u σ hK rx ry ru) (fun v s hq => ?_) (fun e s hq => ?_)
  · obtain ⟨z, rfl, hf, z1, z2, ht⟩ := hq
    obtain ⟨li, h6, hl⟩ := hf.1.out
    refine TH.i2l rfl (by omega) ?_
    refine TH.last rfl h6 (by omega) ?_
    exact TH.end 3 (fun n9 => rfl) ⟨0, rfl, by decide, CL.out hf h6 List.length_set, (tl_out hf.1).trans (tl_keep hK (WQ_WP hf) ht), (rl_out (by decide)).trans (rl_eq (hf.2.2.1 51 (by decide) (by decide)))⟩
  · obtain ⟨he, s1, hf, ht, rfl⟩ := hq
    simp only [List.mem_cons, List.not_mem_nil, or_false] at he
    subst he
    refine ⟨15, rfl, TH.end 3 (fun n9 => rfl) ⟨1, rfl, by decide, CL.push hf, (tl_push hf.1).trans (tl_keep hK (WQ_WP hf) ht), (rl_push hf.1 (by decide)).trans (rl_eq (hf.2.2.1 51 (by decide) (by decide)))⟩⟩
theorem h_L_number {ξ : Nat → Option (Nat × List Int32)} (d : Nat) (x : Int) {σ : qH} (hK : K σ) (rx : -2147483648 ≤ x ∧ x ≤ 2147483647) : TH ξ (d + 10) j_L_number 0 (lv_args 0 [.ref 16, J x, .ref 146]) [] σ (fun v σ' => ∃ z : Int, v = some (J z) ∧ (-2147483648 ≤ z ∧ z ≤ 2147483647) ∧ CL σ σ' ∧ tl σ' = tl σ ∧ rl σ' 51 = 0) := by
  obtain ⟨fs, hc⟩ := hK.cls
  refine TH.go 4 (fun n9 => (rfl : _ = exh ξ n9 (d + 10) j_L_number 4 [(0, .ref 16), (1, J x), (2, .ref 146)] [J x, .ref 16, J 0, .ref 146] σ)) ?_
  refine TH.callx (as := [J x]) (r := [J 0, .ref 146]) rfl rfl rfl rfl hc rfl (s_N_ynumber (d + 1) x σ hK rx) (fun v s hq => ?_) (fun e s hq => ?_)
  · obtain ⟨z, rfl, hf, z1, z2, ht, hy⟩ := hq
    obtain ⟨li, h6, hl⟩ := hf.1.out
    refine TH.i2l rfl (by omega) ?_
    refine TH.last rfl h6 (by omega) ?_
    exact TH.end 3 (fun n9 => rfl) ⟨0, rfl, by decide, CL.out hf h6 List.length_set, (tl_out hf.1).trans (tl_keep hK hf ht), (rl_out (by decide)).trans hy⟩
  · obtain ⟨he, s1, hf, ⟨ht, hy⟩, rfl⟩ := hq
    simp only [List.mem_cons, List.not_mem_nil, or_false] at he
    subst he
    refine ⟨12, rfl, TH.end 3 (fun n9 => rfl) ⟨1, rfl, by decide, CL.push hf, (tl_push hf.1).trans (tl_keep hK hf ht), (rl_push hf.1 (by decide)).trans hy⟩⟩
theorem h_L_find {ξ : Nat → Option (Nat × List Int32)} (d : Nat) (x : Int) {σ : qH} (hK : K σ) (rx : -2147483648 ≤ x ∧ x ≤ 2147483647) : TH ξ (d + 10) j_L_find 0 (lv_args 0 [.ref 16, J x, .ref 146]) [] σ (fun v σ' => ∃ z : Int, v = some (J z) ∧ (-2147483648 ≤ z ∧ z ≤ 2147483647) ∧ CL σ σ' ∧ tl σ' = tl σ ∧ rl σ' 51 = 0) := by
  obtain ⟨fs, hc⟩ := hK.cls
  refine TH.go 4 (fun n9 => (rfl : _ = exh ξ n9 (d + 10) j_L_find 4 [(0, .ref 16), (1, J x), (2, .ref 146)] [J x, .ref 16, J 0, .ref 146] σ)) ?_
  refine TH.callx (as := [J x]) (r := [J 0, .ref 146]) rfl rfl rfl rfl hc rfl (s_N_yfind (d + 1) x σ hK rx) (fun v s hq => ?_) (fun e s hq => ?_)
  · obtain ⟨z, rfl, hf, z1, z2, ht, hy⟩ := hq
    obtain ⟨li, h6, hl⟩ := hf.1.out
    refine TH.i2l rfl (by omega) ?_
    refine TH.last rfl h6 (by omega) ?_
    exact TH.end 3 (fun n9 => rfl) ⟨0, rfl, by decide, CL.out hf h6 List.length_set, (tl_out hf.1).trans (tl_keep hK hf ht), (rl_out (by decide)).trans hy⟩
  · obtain ⟨he, s1, hf, ⟨ht, hy⟩, rfl⟩ := hq
    simp only [List.mem_cons, List.not_mem_nil, or_false] at he
    subst he
    refine ⟨12, rfl, TH.end 3 (fun n9 => rfl) ⟨1, rfl, by decide, CL.push hf, (tl_push hf.1).trans (tl_keep hK hf ht), (rl_push hf.1 (by decide)).trans hy⟩⟩
theorem h_L_read {ξ : Nat → Option (Nat × List Int32)} (hX : XT ξ) (d : Nat) (x y : Int) {σ : qH} (hK : K σ) (rx : -2147483648 ≤ x ∧ x ≤ 2147483647) (ry : -2147483648 ≤ y ∧ y ≤ 2147483647) : TH ξ (d + 10) j_L_read 0 (lv_args 0 [.ref 16, J x, J y, .ref 146]) [] σ (fun v σ' => ∃ z : Int, v = some (J z) ∧ (-2147483648 ≤ z ∧ z ≤ 2147483647) ∧ CL σ σ' ∧ tl σ' = tl σ ∧ rl σ' 51 = rl σ 51) := by
  obtain ⟨fs, hc⟩ := hK.cls
  refine TH.go 5 (fun n9 => (rfl : _ = exh ξ n9 (d + 10) j_L_read 5 [(0, .ref 16), (1, J x), (2, J y), (3, .ref 146)] [J y, J x, .ref 16, J 0, .ref 146] σ)) ?_
  refine TH.callx (as := [J x, J y]) (r := [J 0, .ref 146]) rfl rfl rfl rfl hc rfl (s_N_read hX (d + 1) x y σ hK rx ry) (fun v s hq => ?_) (fun e s hq => ?_)
  · obtain ⟨z, rfl, hf, z1, z2, ht⟩ := hq
    obtain ⟨li, h6, hl⟩ := hf.1.out
    refine TH.i2l rfl (by omega) ?_
    refine TH.last rfl h6 (by omega) ?_
    exact TH.end 3 (fun n9 => rfl) ⟨0, rfl, by decide, CL.out hf h6 List.length_set, (tl_out hf.1).trans (tl_keep hK (WQ_WP hf) ht), (rl_out (by decide)).trans (rl_eq (hf.2.2.1 51 (by decide) (by decide)))⟩
  · obtain ⟨he, s1, hf, ht, rfl⟩ := hq
    simp only [List.mem_cons, List.not_mem_nil, or_false] at he
    rcases he with rfl | rfl
    · refine ⟨17, rfl, TH.end 3 (fun n9 => rfl) ⟨2, rfl, by decide, CL.push hf, (tl_push hf.1).trans (tl_keep hK (WQ_WP hf) ht), (rl_push hf.1 (by decide)).trans (rl_eq (hf.2.2.1 51 (by decide) (by decide)))⟩⟩
    · refine ⟨13, rfl, TH.end 3 (fun n9 => rfl) ⟨1, rfl, by decide, CL.push hf, (tl_push hf.1).trans (tl_keep hK (WQ_WP hf) ht), (rl_push hf.1 (by decide)).trans (rl_eq (hf.2.2.1 51 (by decide) (by decide)))⟩⟩
theorem h_L_mount {ξ : Nat → Option (Nat × List Int32)} (hX : XT ξ) (d : Nat) (x : Int) {σ : qH} (hK : K σ) (rx : -2147483648 ≤ x ∧ x ≤ 2147483647) : TH ξ (d + 10) j_L_mount 0 (lv_args 0 [.ref 16, J x, .ref 146]) [] σ (fun v σ' => ∃ z : Int, v = some (J z) ∧ (-2147483648 ≤ z ∧ z ≤ 2147483647) ∧ CL σ σ' ∧ tl σ' = tl σ ∧ rl σ' 51 = rl σ 51) := by
  obtain ⟨fs, hc⟩ := hK.cls
  refine TH.go 4 (fun n9 => (rfl : _ = exh ξ n9 (d + 10) j_L_mount 4 [(0, .ref 16), (1, J x), (2, .ref 146)] [J x, .ref 16, J 0, .ref 146] σ)) ?_
  refine TH.callx (as := [J x]) (r := [J 0, .ref 146]) rfl rfl rfl rfl hc rfl (s_N_mount hX (d + 1) x σ hK rx) (fun v s hq => ?_) (fun e s hq => ?_)
  · obtain ⟨z, rfl, hf, z1, z2, ht⟩ := hq
    obtain ⟨li, h6, hl⟩ := hf.1.out
    refine TH.i2l rfl (by omega) ?_
    refine TH.last rfl h6 (by omega) ?_
    exact TH.end 3 (fun n9 => rfl) ⟨0, rfl, by decide, CL.out hf h6 List.length_set, (tl_out hf.1).trans (tl_keep hK (WQ_WP hf) ht), (rl_out (by decide)).trans (rl_eq (hf.2.2.1 51 (by decide) (by decide)))⟩
  · obtain ⟨he, s1, hf, ht, rfl⟩ := hq
    simp only [List.mem_cons, List.not_mem_nil, or_false] at he
    rcases he with rfl | rfl | rfl
    · refine ⟨15, rfl, TH.end 3 (fun n9 => rfl) ⟨2, rfl, by decide, CL.push hf, (tl_push hf.1).trans (tl_keep hK (WQ_WP hf) ht), (rl_push hf.1 (by decide)).trans (rl_eq (hf.2.2.1 51 (by decide) (by decide)))⟩⟩
    · refine ⟨12, rfl, TH.end 3 (fun n9 => rfl) ⟨1, rfl, by decide, CL.push hf, (tl_push hf.1).trans (tl_keep hK (WQ_WP hf) ht), (rl_push hf.1 (by decide)).trans (rl_eq (hf.2.2.1 51 (by decide) (by decide)))⟩⟩
    · refine ⟨18, rfl, TH.end 3 (fun n9 => rfl) ⟨3, rfl, by decide, CL.push hf, (tl_push hf.1).trans (tl_keep hK (WQ_WP hf) ht), (rl_push hf.1 (by decide)).trans (rl_eq (hf.2.2.1 51 (by decide) (by decide)))⟩⟩
theorem h_L_index {ξ : Nat → Option (Nat × List Int32)} (hX : XT ξ) (d : Nat)  {σ : qH} (hK : K σ)  : TH ξ (d + 10) j_L_index 0 (lv_args 0 [.ref 16, .ref 146]) [] σ (fun v σ' => ∃ z : Int, v = some (J z) ∧ (-2147483648 ≤ z ∧ z ≤ 2147483647) ∧ CL σ σ' ∧ tl σ' = tl σ ∧ rl σ' 51 = rl σ 51) := by
  obtain ⟨fs, hc⟩ := hK.cls
  refine TH.go 3 (fun n9 => (rfl : _ = exh ξ n9 (d + 10) j_L_index 3 [(0, .ref 16), (1, .ref 146)] [.ref 16, J 0, .ref 146] σ)) ?_
  refine TH.callx (as := []) (r := [J 0, .ref 146]) rfl rfl rfl rfl hc rfl (s_N_index hX (d + 1)  σ hK ) (fun v s hq => ?_) (fun e s hq => ?_)
  · obtain ⟨z, rfl, hf, z1, z2, ht⟩ := hq
    obtain ⟨li, h6, hl⟩ := hf.1.out
    refine TH.i2l rfl (by omega) ?_
    refine TH.last rfl h6 (by omega) ?_
    exact TH.end 3 (fun n9 => rfl) ⟨0, rfl, by decide, CL.out hf h6 List.length_set, (tl_out hf.1).trans (tl_keep hK (WQ_WP hf) ht), (rl_out (by decide)).trans (rl_eq (hf.2.2.1 51 (by decide) (by decide)))⟩
  · obtain ⟨he, s1, hf, ht, rfl⟩ := hq
    simp only [List.mem_cons, List.not_mem_nil, or_false] at he
    rcases he with rfl | rfl
    · refine ⟨14, rfl, TH.end 3 (fun n9 => rfl) ⟨2, rfl, by decide, CL.push hf, (tl_push hf.1).trans (tl_keep hK (WQ_WP hf) ht), (rl_push hf.1 (by decide)).trans (rl_eq (hf.2.2.1 51 (by decide) (by decide)))⟩⟩
    · refine ⟨11, rfl, TH.end 3 (fun n9 => rfl) ⟨1, rfl, by decide, CL.push hf, (tl_push hf.1).trans (tl_keep hK (WQ_WP hf) ht), (rl_push hf.1 (by decide)).trans (rl_eq (hf.2.2.1 51 (by decide) (by decide)))⟩⟩
theorem h_L_attribute {ξ : Nat → Option (Nat × List Int32)} (hX : XT ξ) (d : Nat) (x : Int) {σ : qH} (hK : K σ) (rx : -2147483648 ≤ x ∧ x ≤ 2147483647) : TH ξ (d + 10) j_L_attribute 0 (lv_args 0 [.ref 16, J x, .ref 146]) [] σ (fun v σ' => ∃ z : Int, v = some (J z) ∧ (-2147483648 ≤ z ∧ z ≤ 2147483647) ∧ CL σ σ' ∧ tl σ' = tl σ ∧ rl σ' 51 = 0) := by
  obtain ⟨fs, hc⟩ := hK.cls
  refine TH.go 4 (fun n9 => (rfl : _ = exh ξ n9 (d + 10) j_L_attribute 4 [(0, .ref 16), (1, J x), (2, .ref 146)] [J x, .ref 16, J 0, .ref 146] σ)) ?_
  refine TH.callx (as := [J x]) (r := [J 0, .ref 146]) rfl rfl rfl rfl hc rfl (s_N_yattribute hX (d + 1) x σ hK rx) (fun v s hq => ?_) (fun e s hq => ?_)
  · obtain ⟨z, rfl, hf, z1, z2, ht, hy⟩ := hq
    obtain ⟨li, h6, hl⟩ := hf.1.out
    refine TH.i2l rfl (by omega) ?_
    refine TH.last rfl h6 (by omega) ?_
    exact TH.end 3 (fun n9 => rfl) ⟨0, rfl, by decide, CL.out hf h6 List.length_set, (tl_out hf.1).trans (tl_keep hK hf ht), (rl_out (by decide)).trans hy⟩
  · obtain ⟨he, s1, hf, ⟨ht, hy⟩, rfl⟩ := hq
    simp only [List.mem_cons, List.not_mem_nil, or_false] at he
    rcases he with rfl | rfl
    · refine ⟨15, rfl, TH.end 3 (fun n9 => rfl) ⟨2, rfl, by decide, CL.push hf, (tl_push hf.1).trans (tl_keep hK hf ht), (rl_push hf.1 (by decide)).trans hy⟩⟩
    · refine ⟨12, rfl, TH.end 3 (fun n9 => rfl) ⟨1, rfl, by decide, CL.push hf, (tl_push hf.1).trans (tl_keep hK hf ht), (rl_push hf.1 (by decide)).trans hy⟩⟩
