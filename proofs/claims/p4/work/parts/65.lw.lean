/-! What the law keeps between two calls. -/
def MI (t : Int) (g : Int → Int) (cc : Int) (σ : qH) : Prop := ∃ (c io mo fa pl ns rw en wy wh bi ed sz md bd li wk we : Int) (Lc : List Int64) (la lm ln lh ld lk lt : List Int32), MS σ c io mo fa pl ns rw en wy wh bi ed sz md bd li wk we Lc la lm ln lh ld lk lt ∧ OKM Lc la lm io mo ∧ gl la 0 = t ∧ gc Lc 0 = g ∧ c = cc
theorem MI.frame {t cc : Int} {g : Int → Int} {σ σ' : qH} (h : MI t g cc σ) (e : ∀ i : Nat, 137 ≤ i → i ≤ 145 → σ'[i]? = σ[i]?) : MI t g cc σ' := by
  obtain ⟨c, io, mo, fa, pl, ns, rw, en, wy, wh, bi, ed, sz, md, bd, li, wk, we, Lc, la, lm, ln, lh, ld, lk, lt, ⟨⟨q0, q1, q2, q3, q4, q5, q6, q7, q8⟩, r⟩, o⟩ := h
  exact ⟨c, io, mo, fa, pl, ns, rw, en, wy, wh, bi, ed, sz, md, bd, li, wk, we, Lc, la, lm, ln, lh, ld, lk, lt, ⟨⟨(e 137 (by decide) (by decide)).trans q0, (e 138 (by decide) (by decide)).trans q1, (e 139 (by decide) (by decide)).trans q2, (e 140 (by decide) (by decide)).trans q3, (e 141 (by decide) (by decide)).trans q4, (e 142 (by decide) (by decide)).trans q5, (e 143 (by decide) (by decide)).trans q6, (e 144 (by decide) (by decide)).trans q7, (e 145 (by decide) (by decide)).trans q8⟩, r⟩, o⟩
theorem MI.r {t cc : Int} {g : Int → Int} {σ : qH} (h : MI t g cc σ) : ∀ k, 0 ≤ g k ∧ g k ≤ 255 := by
  obtain ⟨c, io, mo, fa, pl, ns, rw, en, wy, wh, bi, ed, sz, md, bd, li, wk, we, Lc, la, lm, ln, lh, ld, lk, lt, -, -, -, e, -⟩ := h
  intro k
  rw [← e]
  exact gc_r Lc 0 k
theorem cnt_FM {σ σ' : qH} (h : FM σ σ') : cnt σ' = cnt σ := sum_eq (fun r hr => by
  unfold nfr
  rw [h.1 r (Or.inl (RwL_lt r hr).2.2.2), h.2.2.2])
theorem cnt_push {σ : qH} {c : qC} (hK : K σ) : cnt (σ ++ [c]) = cnt σ := sum_eq (fun r hr => by
  obtain ⟨m, n, b, bs, a1, a2, -⟩ := hK.row hr
  unfold nfr
  rw [List.getElem?_append_left (List.getElem?_eq_some_iff.mp a1).1, a1, kds_push]
  simp only []
  rw [List.getElem?_append_left (by unfold kds; rw [List.length_map]; exact (List.getElem?_eq_some_iff.mp a2).1)])
theorem tl_same {σ σ' : qH} (hK : K σ) (h : ∀ i : Nat, i < 137 → σ'[i]? = σ[i]?) : tl σ' = tl σ := by
  obtain ⟨ke, sc, tp, ou, mo, sg, ho, mc, lf, lp, hN, f1, f2, f3, -⟩ := hK.na
  have e1 : tpf σ = some (.ref tp) := tpf_of hN rfl
  have e2 : tpf σ' = some (.ref tp) := (tpf_eq (h 16 (by decide))).trans e1
  unfold tl
  rw [e2, e1]
  refine rl_eq (h (tp + 1) ?_)
  rcases f3 with rfl | rfl <;> decide
theorem tl_FM {σ σ' : qH} (hK : K σ) (h : FM σ σ') : tl σ' = tl σ := tl_same hK (fun i hi => h.1 i (Or.inl hi))
theorem tl_push {σ : qH} {c : qC} (hK : K σ) : tl (σ ++ [c]) = tl σ := tl_same hK (fun i hi => List.getElem?_append_left (by have := hK.len; omega))
theorem tl_out {σ : qH} {c : qC} (hK : K σ) : tl (σ.set 146 c) = tl σ := tl_same hK (fun i hi => List.getElem?_set_ne (by omega))
/-- all cells but the model's and the last answer stay -/
def SM (σ σ' : qH) : Prop := ∀ i : Nat, (i < 137 ∨ 146 < i) → i < σ.length → σ'[i]? = σ[i]?
theorem SM.fm {σ σ' : qH} (h : FM σ σ') : SM σ σ' := fun i a _ => h.1 i (by omega)
theorem SM.push {σ : qH} {c : qC} : SM σ (σ ++ [c]) := fun i _ b => List.getElem?_append_left b
theorem SM.out {σ : qH} {c : qC} : SM σ (σ.set 146 c) := fun i a _ => List.getElem?_set_ne (by omega)
theorem SM.br {σ σ' : qH} (hK : K σ) (h : SM σ σ') {r : Nat} (hr : r ∈ RwL) : bref σ' r = bref σ r := by
  have := RwL_lt r hr
  have := hK.len
  unfold bref
  rw [h r (Or.inl (by omega)) (by omega)]
theorem NA_SM {σ σ' : qH} (hK : K σ) (h : SM σ σ') (n : NA σ) : NA σ' := fun r hr q hq d => by
  rw [SM.br hK h hr, SM.br hK h hq]
  exact n r hr q hq d
theorem AGT_SM {σ σ' : qH} {g : Int → Int} (hK : K σ) (h : SM σ σ') (a : AGT σ g) : AGT σ' g := by
  obtain ⟨ke, sc, tp, ou, mo, sg, ho, mc, lf, lp, hc, f1, f2, f3, -⟩ := hK.na
  have e1 : tpf σ = some (.ref tp) := tpf_of hc rfl
  have hl := hK.len
  have hr : tp + 1 ∈ RwL := by rcases f3 with rfl | rfl <;> decide
  have hlt := RwL_lt _ hr
  refine ⟨tp, (tpf_eq (h 16 (by omega) (by omega))).trans e1, (a.at e1).keep (CT_same hK hr (SM.br hK h hr) (fun b l _ e => ?_)) (rl_eq (h (tp + 1) (by omega) (by omega)))⟩
  rw [h b (hK.byt e).2 (List.getElem?_eq_some_iff.mp e).1]
  exact e
/-- what a call of the class leaves, with its throw and the answer put away -/
def CL (σ σ' : qH) : Prop := K σ' ∧ (∀ i : Nat, 137 ≤ i → i ≤ 145 → σ'[i]? = σ[i]?) ∧ σ'.length + cnt σ' ≤ σ.length + cnt σ + 1 ∧ qsz σ' + 8000 * cnt σ' ≤ qsz σ + 8000 * cnt σ + 10 ∧ (NA σ → NA σ')
theorem CL.refl {σ : qH} (h : K σ) : CL σ σ := ⟨h, fun _ _ _ => rfl, by omega, by omega, fun n => n⟩
theorem CL.fr {σ σ' : qH} {w : List Nat} (h : Fr w σ σ') : CL σ σ' := ⟨h.1, fun i a b => h.2.1 i a (by omega), by have := h.2.2.2.1; omega, by have := h.2.2.2.2.1; omega, fun n => (h.b.2 n).1⟩
theorem CL.push {σ σ' : qH} {w : List Nat} (h : Fr w σ σ') : CL σ (σ' ++ [.inr (.inr (.inr (.inr (.inr 6))))]) := by
  refine ⟨h.1.push trivial, fun i a b => (List.getElem?_append_left (by have := h.1.len; omega)).trans (h.2.1 i a (by omega)), ?_, ?_, fun n => NA_SM h.1 SM.push (h.b.2 n).1⟩
  · rw [cnt_push h.1, List.length_append]
    have := h.2.2.2.1
    simp only [List.length_cons, List.length_nil]
    omega
  · rw [cnt_push h.1, qsz_push]
    have := h.2.2.2.2.1
    have e : qcs (.inr (.inr (.inr (.inr (.inr 6))))) = 6 := rfl
    omega
theorem CL.out {σ σ' : qH} {w : List Nat} {li li' : List Int64} (h : Fr w σ σ') (hi : σ'[146]? = some (.inr (.inr (.inl li)))) (e : li'.length = li.length) : CL σ (σ'.set 146 (.inr (.inr (.inl li')))) := by
  have ek : kdc (.inr (.inr (.inl li'))) = kdc (.inr (.inr (.inl li))) := by simp only [kdc, e]
  refine ⟨h.1.set hi ek trivial, fun i a b => (List.getElem?_set_ne (by omega)).trans (h.2.1 i a (by omega)), ?_, ?_, fun n => NA_SM h.1 SM.out (h.b.2 n).1⟩
  · rw [cnt_other hi ek (by decide), List.length_set]
    have := h.2.2.2.1
    omega
  · rw [cnt_other hi ek (by decide), qsz_set hi (kdc_qcs ek)]
    have := h.2.2.2.2.1
    omega
theorem K.out {σ : qH} (h : K σ) : ∃ li : List Int64, σ[146]? = some (.inr (.inr (.inl li))) ∧ li.length = 1 := by
  obtain ⟨c, hc, e, -⟩ := h.at (i := 146) (k := (2, 0, 1)) (by decide +kernel)
  obtain ⟨li, rfl, hl⟩ := kdc_lng e
  exact ⟨li, hc, hl⟩
theorem K.mod {σ : qH} (h : K σ) : ∃ fs : List Value, σ[137]? = some (.inl (7, fs)) := by
  obtain ⟨c, hc, e, -⟩ := h.at (i := 137) (k := (0, 7, 26)) (by decide +kernel)
  obtain ⟨fs, rfl, hl⟩ := kdc_obj e
  exact ⟨fs, hc⟩
theorem K.cls {σ : qH} (h : K σ) : ∃ fs : List Value, σ[16]? = some (.inl (0, fs)) := by
  obtain ⟨c, hc, e, -⟩ := h.at (i := 16) (k := (0, 0, 17)) (by decide +kernel)
  obtain ⟨fs, rfl, hl⟩ := kdc_obj e
  exact ⟨fs, hc⟩
theorem WQ_WP {σ σ' : qH} (h : Fr WQ σ σ') : Fr WP σ σ' := h.sub WQ_P
theorem FM.cl {σ σ' : qH} (h : FM σ σ') : σ'.length + cnt σ' = σ.length + cnt σ ∧ qsz σ' + 8000 * cnt σ' = qsz σ + 8000 * cnt σ := by
  rw [cnt_FM h, h.2.1, h.2.2.1]
  exact ⟨rfl, rfl⟩
theorem FOn_r (g : Int → Int) (f : Int) : FOn g f = 0 ∨ FOn g f = 1 := by
  unfold FOn
  split
  · exact Or.inr rfl
  · exact Or.inl rfl
theorem m_M_fault {ξ : Nat → Option (Nat × List Int32)} (d : Nat)  {σ : qH} {t cc : Int} {g : Int → Int} (hK : K σ) (hI : MI t g cc σ)  : T ξ (d + 10) j_M_fault 0 (lv_args 0 [.ref 137]) [] σ (fun v0 σ' => ∃ (z t' : Int) (g' : Int → Int) (c' : Int), v0 = some (J z) ∧ (-2147483648 ≤ z ∧ z ≤ 2147483647) ∧ (t' = t ∧ g' = g) ∧ K σ' ∧ MI t' g' c' σ' ∧ FM σ σ') := by
  obtain ⟨c, io, mo, fa, pl, ns, rw, en, wy, wh, bi, ed, sz, md, bd, li, wk, we, Lc, la, lm, ln, lh, ld, lk, lt, hM, hO, ht, hg, -⟩ := hI
  refine T.mono (s_M_fault d  σ hM ) ?_
  rintro v9 s9 ⟨z, c1, rfl, mm, ff, z1, z2⟩
  exact ⟨z, t, g, c1, rfl, ⟨by omega, by omega⟩, ⟨rfl, rfl⟩, ff.keepK hK, ⟨c1, io, mo, fa, pl, ns, rw, en, wy, wh, bi, ed, sz, md, bd, li, wk, we, Lc, la, lm, ln, lh, ld, lk, lt, mm, hO, ht, hg, rfl⟩, ff⟩
theorem m_M_place {ξ : Nat → Option (Nat × List Int32)} (d : Nat)  {σ : qH} {t cc : Int} {g : Int → Int} (hK : K σ) (hI : MI t g cc σ)  : T ξ (d + 10) j_M_place 0 (lv_args 0 [.ref 137]) [] σ (fun v0 σ' => ∃ (z t' : Int) (g' : Int → Int) (c' : Int), v0 = some (J z) ∧ (-2147483648 ≤ z ∧ z ≤ 2147483647) ∧ (t' = t ∧ g' = g) ∧ K σ' ∧ MI t' g' c' σ' ∧ FM σ σ') := by
  obtain ⟨c, io, mo, fa, pl, ns, rw, en, wy, wh, bi, ed, sz, md, bd, li, wk, we, Lc, la, lm, ln, lh, ld, lk, lt, hM, hO, ht, hg, -⟩ := hI
  refine T.mono (s_M_place d  σ hM ) ?_
  rintro v9 s9 ⟨z, c1, rfl, mm, ff, z1, z2⟩
  exact ⟨z, t, g, c1, rfl, ⟨by omega, by omega⟩, ⟨rfl, rfl⟩, ff.keepK hK, ⟨c1, io, mo, fa, pl, ns, rw, en, wy, wh, bi, ed, sz, md, bd, li, wk, we, Lc, la, lm, ln, lh, ld, lk, lt, mm, hO, ht, hg, rfl⟩, ff⟩
theorem m_M_octet {ξ : Nat → Option (Nat × List Int32)} (d : Nat) (x : Int) {σ : qH} {t cc : Int} {g : Int → Int} (hK : K σ) (hI : MI t g cc σ) (rx : -2147483648 ≤ x ∧ x ≤ 2147483647) : T ξ (d + 10) j_M_octet 0 (lv_args 0 [.ref 137, J x]) [] σ (fun v0 σ' => ∃ (z t' : Int) (g' : Int → Int) (c' : Int), v0 = some (J z) ∧ (-2147483648 ≤ z ∧ z ≤ 2147483647) ∧ (t' = t ∧ g' = g) ∧ K σ' ∧ MI t' g' c' σ' ∧ FM σ σ') := by
  obtain ⟨c, io, mo, fa, pl, ns, rw, en, wy, wh, bi, ed, sz, md, bd, li, wk, we, Lc, la, lm, ln, lh, ld, lk, lt, hM, hO, ht, hg, -⟩ := hI
  refine T.mono (s_M_octet d x σ hM rx) ?_
  rintro v9 s9 ⟨z, c1, rfl, mm, ff, z1, z2⟩
  exact ⟨z, t, g, c1, rfl, ⟨by omega, by omega⟩, ⟨rfl, rfl⟩, ff.keepK hK, ⟨c1, io, mo, fa, pl, ns, rw, en, wy, wh, bi, ed, sz, md, bd, li, wk, we, Lc, la, lm, ln, lh, ld, lk, lt, mm, hO, ht, hg, rfl⟩, ff⟩
theorem m_M_value {ξ : Nat → Option (Nat × List Int32)} (d : Nat) (x : Int) {σ : qH} {t cc : Int} {g : Int → Int} (hK : K σ) (hI : MI t g cc σ) (rx : -2147483648 ≤ x ∧ x ≤ 2147483647) : T ξ (d + 10) j_M_value 0 (lv_args 0 [.ref 137, J x]) [] σ (fun v0 σ' => ∃ (z t' : Int) (g' : Int → Int) (c' : Int), v0 = some (J z) ∧ (-2147483648 ≤ z ∧ z ≤ 2147483647) ∧ (t' = t ∧ g' = g) ∧ K σ' ∧ MI t' g' c' σ' ∧ FM σ σ') := by
  obtain ⟨c, io, mo, fa, pl, ns, rw, en, wy, wh, bi, ed, sz, md, bd, li, wk, we, Lc, la, lm, ln, lh, ld, lk, lt, hM, hO, ht, hg, -⟩ := hI
  refine T.mono (s_M_value d x σ hM rx) ?_
  rintro v9 s9 ⟨z, c1, rfl, mm, ff, z1, z2⟩
  exact ⟨z, t, g, c1, rfl, ⟨by omega, by omega⟩, ⟨rfl, rfl⟩, ff.keepK hK, ⟨c1, io, mo, fa, pl, ns, rw, en, wy, wh, bi, ed, sz, md, bd, li, wk, we, Lc, la, lm, ln, lh, ld, lk, lt, mm, hO, ht, hg, rfl⟩, ff⟩
theorem m_M_end {ξ : Nat → Option (Nat × List Int32)} (d : Nat) (x : Int) {σ : qH} {t cc : Int} {g : Int → Int} (hK : K σ) (hI : MI t g cc σ) (rx : -2147483648 ≤ x ∧ x ≤ 2147483647) : T ξ (d + 10) j_M_end 0 (lv_args 0 [.ref 137, J x]) [] σ (fun v0 σ' => ∃ (z t' : Int) (g' : Int → Int) (c' : Int), v0 = some (J z) ∧ (-2147483648 ≤ z ∧ z ≤ 2147483647) ∧ (g' = g ∧ (0 ≤ x ∧ x ≤ t → z = 1 ∧ t' = x) ∧ (¬ (0 ≤ x ∧ x ≤ t) → z = 0 ∧ t' = t)) ∧ K σ' ∧ MI t' g' c' σ' ∧ FM σ σ') := by
  obtain ⟨c, io, mo, fa, pl, ns, rw, en, wy, wh, bi, ed, sz, md, bd, li, wk, we, Lc, la, lm, ln, lh, ld, lk, lt, hM, hO, ht, hg, -⟩ := hI
  refine T.mono (s_M_end d x σ hM rx) ?_
  rintro v9 s9 ⟨z, c1, la1, rfl, mm, ff, z1, z2, p0, p1, p2⟩
  exact ⟨z, gl la1 0, g, c1, rfl, ⟨by omega, by omega⟩, ⟨rfl, fun h => by have := p0 (by omega); omega, fun h => by have := p1 (by omega); omega⟩, ff.keepK hK, ⟨c1, io, mo, fa, pl, ns, rw, en, wy, wh, bi, ed, sz, md, bd, li, wk, we, Lc, la1, lm, ln, lh, ld, lk, lt, mm, (by unfold OKM; rw [p2]; exact hO), rfl, hg, rfl⟩, ff⟩
theorem m_M_feed {ξ : Nat → Option (Nat × List Int32)} (d : Nat) (x y u o q : Int) {σ : qH} {t cc : Int} {g : Int → Int} (hK : K σ) (hI : MI t g cc σ) (rx : -2147483648 ≤ x ∧ x ≤ 2147483647) (ry : -2147483648 ≤ y ∧ y ≤ 2147483647) (ru : -2147483648 ≤ u ∧ u ≤ 2147483647) (ro : -2147483648 ≤ o ∧ o ≤ 2147483647) (rq : -2147483648 ≤ q ∧ q ≤ 2147483647) : T ξ (d + 10) j_M_feed 0 (lv_args 0 [.ref 137, J x, J y, J u, J o, J q]) [] σ (fun v0 σ' => ∃ (z t' : Int) (g' : Int → Int) (c' : Int), v0 = some (J z) ∧ (-2147483648 ≤ z ∧ z ≤ 2147483647) ∧ ((t ≤ 7980 → z = 1 ∧ t' = t + 20 ∧ g' = up20 g t x y u o q) ∧ (7980 < t → z = 0 ∧ t' = t ∧ g' = g)) ∧ K σ' ∧ MI t' g' c' σ' ∧ FM σ σ') := by
  obtain ⟨c, io, mo, fa, pl, ns, rw, en, wy, wh, bi, ed, sz, md, bd, li, wk, we, Lc, la, lm, ln, lh, ld, lk, lt, hM, hO, ht, hg, -⟩ := hI
  refine T.mono (s_M_ffeed d x y u o q σ hM rx ry ru ro rq) ?_
  rintro v9 s9 ⟨z, c1, Lc1, la1, rfl, mm, ff, z1, z2, p0, p1, p2, p3, p4, p5⟩
  exact ⟨z, gl la1 0, gc Lc1 0, c1, rfl, ⟨by omega, by omega⟩, ⟨fun h => ⟨(p1 (by omega)).1, by have := p1 (by omega); omega, by rw [← hg, ← ht]; exact p4 (by omega)⟩, fun h => ⟨(p2 (by omega)).1, by have := p2 (by omega); omega, by rw [← hg]; exact p5 (by omega)⟩⟩, ff.keepK hK, ⟨c1, io, mo, fa, pl, ns, rw, en, wy, wh, bi, ed, sz, md, bd, li, wk, we, Lc1, la1, lm, ln, lh, ld, lk, lt, mm, (by unfold OKM; rw [p0 1 (by decide) (by decide), p3]; exact hO), rfl, rfl, rfl⟩, ff⟩
theorem m_M_type {ξ : Nat → Option (Nat × List Int32)} (d : Nat) (x : Int) {σ : qH} {t cc : Int} {g : Int → Int} (hK : K σ) (hI : MI t g cc σ) (rx : -9223372036854775808 ≤ x ∧ x ≤ 9223372036854775807) : T ξ (d + 10) j_M_type 0 (lv_args 0 [.ref 137, JL x]) [] σ (fun v0 σ' => ∃ (z t' : Int) (g' : Int → Int) (c' : Int), v0 = some (J z) ∧ (-2147483648 ≤ z ∧ z ≤ 2147483647) ∧ (t' = t ∧ g' = g) ∧ K σ' ∧ MI t' g' c' σ' ∧ FM σ σ') := by
  obtain ⟨c, io, mo, fa, pl, ns, rw, en, wy, wh, bi, ed, sz, md, bd, li, wk, we, Lc, la, lm, ln, lh, ld, lk, lt, hM, hO, ht, hg, -⟩ := hI
  refine T.mono (s_M_type d x σ hM rx) ?_
  rintro v9 s9 ⟨z, c1, ns1, ln1, rfl, mm, ff, z1, z2⟩
  exact ⟨z, t, g, c1, rfl, ⟨by omega, by omega⟩, ⟨rfl, rfl⟩, ff.keepK hK, ⟨c1, io, mo, fa, pl, ns1, rw, en, wy, wh, bi, ed, sz, md, bd, li, wk, we, Lc, la, lm, ln1, lh, ld, lk, lt, mm, hO, ht, hg, rfl⟩, ff⟩
theorem m_M_count {ξ : Nat → Option (Nat × List Int32)} (d : Nat) (x : Int) {σ : qH} {t cc : Int} {g : Int → Int} (hK : K σ) (hI : MI t g cc σ) (rx : -2147483648 ≤ x ∧ x ≤ 2147483647) : T ξ (d + 10) j_M_count 0 (lv_args 0 [.ref 137, J x]) [] σ (fun v0 σ' => ∃ (z t' : Int) (g' : Int → Int) (c' : Int), v0 = some (J z) ∧ (-2147483648 ≤ z ∧ z ≤ 2147483647) ∧ (t' = t ∧ g' = g) ∧ K σ' ∧ MI t' g' c' σ' ∧ FM σ σ') := by
  obtain ⟨c, io, mo, fa, pl, ns, rw, en, wy, wh, bi, ed, sz, md, bd, li, wk, we, Lc, la, lm, ln, lh, ld, lk, lt, hM, hO, ht, hg, -⟩ := hI
  refine T.mono (s_M_count d x σ hM rx hO) ?_
  rintro v9 s9 ⟨z, c1, rw1, en1, wy1, wh1, bi1, ed1, sz1, md1, bd1, Lc1, la1, lk1, lh1, ld1, rfl, mm, ff, z1, z2, p0, p1, p2⟩
  exact ⟨z, t, g, c1, rfl, ⟨by omega, by omega⟩, ⟨rfl, rfl⟩, ff.keepK hK, ⟨c1, io, mo, fa, pl, ns, rw1, en1, wy1, wh1, bi1, ed1, sz1, md1, bd1, li, wk, we, Lc1, la1, lm, ln, lh1, ld1, lk1, lt, mm, p0, (p1.trans ht), (p2.trans hg), rfl⟩, ff⟩
theorem m_M_entry {ξ : Nat → Option (Nat × List Int32)} (d : Nat) (x y u : Int) {σ : qH} {t cc : Int} {g : Int → Int} (hK : K σ) (hI : MI t g cc σ) (rx : -2147483648 ≤ x ∧ x ≤ 2147483647) (ry : -2147483648 ≤ y ∧ y ≤ 2147483647) (ru : -2147483648 ≤ u ∧ u ≤ 2147483647) : T ξ (d + 10) j_M_entry 0 (lv_args 0 [.ref 137, J x, J y, J u]) [] σ (fun v0 σ' => ∃ (z t' : Int) (g' : Int → Int) (c' : Int), v0 = some (JL z) ∧ (-9223372036854775808 ≤ z ∧ z ≤ 9223372036854775807) ∧ (t' = t ∧ g' = g) ∧ K σ' ∧ MI t' g' c' σ' ∧ FM σ σ') := by
  obtain ⟨c, io, mo, fa, pl, ns, rw, en, wy, wh, bi, ed, sz, md, bd, li, wk, we, Lc, la, lm, ln, lh, ld, lk, lt, hM, hO, ht, hg, -⟩ := hI
  refine T.mono (s_M_entry d x y u σ hM rx ry ru hO) ?_
  rintro v9 s9 ⟨z, c1, rw1, en1, wy1, wh1, bi1, ed1, sz1, md1, bd1, Lc1, la1, lk1, lh1, ld1, rfl, mm, ff, z1, z2, p0, p1, p2⟩
  exact ⟨z, t, g, c1, rfl, ⟨by omega, by omega⟩, ⟨rfl, rfl⟩, ff.keepK hK, ⟨c1, io, mo, fa, pl, ns, rw1, en1, wy1, wh1, bi1, ed1, sz1, md1, bd1, li, wk, we, Lc1, la1, lm, ln, lh1, ld1, lk1, lt, mm, p0, (p1.trans ht), (p2.trans hg), rfl⟩, ff⟩
theorem m_M_letter {ξ : Nat → Option (Nat × List Int32)} (d : Nat) (x y u : Int) {σ : qH} {t cc : Int} {g : Int → Int} (hK : K σ) (hI : MI t g cc σ) (rx : -2147483648 ≤ x ∧ x ≤ 2147483647) (ry : -2147483648 ≤ y ∧ y ≤ 2147483647) (ru : -2147483648 ≤ u ∧ u ≤ 2147483647) : T ξ (d + 10) j_M_letter 0 (lv_args 0 [.ref 137, J x, J y, J u]) [] σ (fun v0 σ' => ∃ (z t' : Int) (g' : Int → Int) (c' : Int), v0 = some (J z) ∧ (-2147483648 ≤ z ∧ z ≤ 2147483647) ∧ (t' = t ∧ g' = g) ∧ K σ' ∧ MI t' g' c' σ' ∧ FM σ σ') := by
  obtain ⟨c, io, mo, fa, pl, ns, rw, en, wy, wh, bi, ed, sz, md, bd, li, wk, we, Lc, la, lm, ln, lh, ld, lk, lt, hM, hO, ht, hg, -⟩ := hI
  refine T.mono (s_M_letter d x y u σ hM rx ry ru hO) ?_
  rintro v9 s9 ⟨z, c1, rw1, en1, wy1, wh1, bi1, ed1, sz1, md1, bd1, Lc1, la1, lk1, lh1, ld1, rfl, mm, ff, z1, z2, p0, p1, p2⟩
  exact ⟨z, t, g, c1, rfl, ⟨by omega, by omega⟩, ⟨rfl, rfl⟩, ff.keepK hK, ⟨c1, io, mo, fa, pl, ns, rw1, en1, wy1, wh1, bi1, ed1, sz1, md1, bd1, li, wk, we, Lc1, la1, lm, ln, lh1, ld1, lk1, lt, mm, p0, (p1.trans ht), (p2.trans hg), rfl⟩, ff⟩
theorem m_M_number {ξ : Nat → Option (Nat × List Int32)} (d : Nat) (x : Int) {σ : qH} {t cc : Int} {g : Int → Int} (hK : K σ) (hI : MI t g cc σ) (rx : -2147483648 ≤ x ∧ x ≤ 2147483647) : T ξ (d + 10) j_M_number 0 (lv_args 0 [.ref 137, J x]) [] σ (fun v0 σ' => ∃ (z t' : Int) (g' : Int → Int) (c' : Int), v0 = some (J z) ∧ (-2147483648 ≤ z ∧ z ≤ 2147483647) ∧ (t' = t ∧ g' = g) ∧ K σ' ∧ MI t' g' c' σ' ∧ FM σ σ') := by
  obtain ⟨c, io, mo, fa, pl, ns, rw, en, wy, wh, bi, ed, sz, md, bd, li, wk, we, Lc, la, lm, ln, lh, ld, lk, lt, hM, hO, ht, hg, -⟩ := hI
  refine T.mono (s_M_number d x σ hM rx hO) ?_
  rintro v9 s9 ⟨z, c1, rw1, en1, wy1, wh1, bi1, ed1, sz1, md1, bd1, Lc1, la1, lk1, lh1, ld1, ns1, rfl, mm, ff, z1, z2, p0, p1, p2, p3⟩
  exact ⟨z, t, g, c1, rfl, ⟨by omega, by omega⟩, ⟨rfl, rfl⟩, ff.keepK hK, ⟨c1, io, mo, fa, pl, ns1, rw1, en1, wy1, wh1, bi1, ed1, sz1, md1, bd1, li, wk, we, Lc1, la1, lm, ln, lh1, ld1, lk1, lt, mm, p0, (p1.trans ht), (p3.trans hg), rfl⟩, ff⟩
theorem m_M_find {ξ : Nat → Option (Nat × List Int32)} (d : Nat) (x : Int) {σ : qH} {t cc : Int} {g : Int → Int} (hK : K σ) (hI : MI t g cc σ) (rx : -2147483648 ≤ x ∧ x ≤ 2147483647) : T ξ (d + 10) j_M_find 0 (lv_args 0 [.ref 137, J x]) [] σ (fun v0 σ' => ∃ (z t' : Int) (g' : Int → Int) (c' : Int), v0 = some (J z) ∧ (-2147483648 ≤ z ∧ z ≤ 2147483647) ∧ (t' = t ∧ g' = g) ∧ K σ' ∧ MI t' g' c' σ' ∧ FM σ σ') := by
  obtain ⟨c, io, mo, fa, pl, ns, rw, en, wy, wh, bi, ed, sz, md, bd, li, wk, we, Lc, la, lm, ln, lh, ld, lk, lt, hM, hO, ht, hg, -⟩ := hI
  refine T.mono (s_M_find d x σ hM rx hO) ?_
  rintro v9 s9 ⟨z, c1, rw1, en1, wy1, wh1, bi1, ed1, sz1, md1, bd1, Lc1, la1, lk1, lh1, ld1, ns1, rfl, mm, ff, z1, z2, p0, p1, p2, p3⟩
  exact ⟨z, t, g, c1, rfl, ⟨by omega, by omega⟩, ⟨rfl, rfl⟩, ff.keepK hK, ⟨c1, io, mo, fa, pl, ns1, rw1, en1, wy1, wh1, bi1, ed1, sz1, md1, bd1, li, wk, we, Lc1, la1, lm, ln, lh1, ld1, lk1, lt, mm, p0, (p1.trans ht), (p3.trans hg), rfl⟩, ff⟩
theorem m_M_read {ξ : Nat → Option (Nat × List Int32)} (d : Nat) (x y : Int) {σ : qH} {t cc : Int} {g : Int → Int} (hK : K σ) (hI : MI t g cc σ) (rx : -2147483648 ≤ x ∧ x ≤ 2147483647) (ry : -2147483648 ≤ y ∧ y ≤ 2147483647) : T ξ (d + 10) j_M_read 0 (lv_args 0 [.ref 137, J x, J y]) [] σ (fun v0 σ' => ∃ (z t' : Int) (g' : Int → Int) (c' : Int), v0 = some (J z) ∧ (-2147483648 ≤ z ∧ z ≤ 2147483647) ∧ (t' = t ∧ g' = g) ∧ K σ' ∧ MI t' g' c' σ' ∧ FM σ σ') := by
  obtain ⟨c, io, mo, fa, pl, ns, rw, en, wy, wh, bi, ed, sz, md, bd, li, wk, we, Lc, la, lm, ln, lh, ld, lk, lt, hM, hO, ht, hg, -⟩ := hI
  refine T.mono (s_M_read d x y σ hM rx ry hO) ?_
  rintro v9 s9 ⟨z, c1, rw1, en1, wy1, wh1, bi1, ed1, sz1, md1, bd1, Lc1, la1, lk1, lh1, ld1, fa1, pl1, rfl, mm, ff, z1, z2, p0, p1, p2⟩
  exact ⟨z, t, g, c1, rfl, ⟨by omega, by omega⟩, ⟨rfl, rfl⟩, ff.keepK hK, ⟨c1, io, mo, fa1, pl1, ns, rw1, en1, wy1, wh1, bi1, ed1, sz1, md1, bd1, li, wk, we, Lc1, la1, lm, ln, lh1, ld1, lk1, lt, mm, p0, (p1.trans ht), (p2.trans hg), rfl⟩, ff⟩
theorem m_M_mount {ξ : Nat → Option (Nat × List Int32)} (d : Nat) (x : Int) {σ : qH} {t cc : Int} {g : Int → Int} (hK : K σ) (hI : MI t g cc σ) (rx : -2147483648 ≤ x ∧ x ≤ 2147483647) : T ξ (d + 10) j_M_mount 0 (lv_args 0 [.ref 137, J x]) [] σ (fun v0 σ' => ∃ (z t' : Int) (g' : Int → Int) (c' : Int), v0 = some (J z) ∧ (-2147483648 ≤ z ∧ z ≤ 2147483647) ∧ (t' = t ∧ g' = g) ∧ K σ' ∧ MI t' g' c' σ' ∧ FM σ σ') := by
  obtain ⟨c, io, mo, fa, pl, ns, rw, en, wy, wh, bi, ed, sz, md, bd, li, wk, we, Lc, la, lm, ln, lh, ld, lk, lt, hM, hO, ht, hg, -⟩ := hI
  refine T.mono (s_M_mount d x σ hM rx hO) ?_
  rintro v9 s9 ⟨z, c1, rw1, en1, wy1, wh1, bi1, ed1, sz1, md1, bd1, Lc1, la1, lk1, lh1, ld1, fa1, pl1, mo1, lm1, rfl, mm, ff, z1, z2, p0, p1, p2⟩
  exact ⟨z, t, g, c1, rfl, ⟨by omega, by omega⟩, ⟨rfl, rfl⟩, ff.keepK hK, ⟨c1, io, mo1, fa1, pl1, ns, rw1, en1, wy1, wh1, bi1, ed1, sz1, md1, bd1, li, wk, we, Lc1, la1, lm1, ln, lh1, ld1, lk1, lt, mm, p0, (p1.trans ht), (p2.trans hg), rfl⟩, ff⟩
theorem m_M_open {ξ : Nat → Option (Nat × List Int32)} (d : Nat)  {σ : qH} {t cc : Int} {g : Int → Int} (hK : K σ) (hI : MI t g cc σ)  : T ξ (d + 10) j_M_open 0 (lv_args 0 [.ref 137]) [] σ (fun v0 σ' => ∃ (z t' : Int) (g' : Int → Int) (c' : Int), v0 = some (J z) ∧ (-2147483648 ≤ z ∧ z ≤ 2147483647) ∧ (t' = 0 ∧ g' = g ∧ (FOn g t = 1 → c' = 0 ∧ z = W2 g (EN g t + 8)) ∧ (FOn g t = 0 → c' = 1)) ∧ K σ' ∧ MI t' g' c' σ' ∧ FM σ σ') := by
  obtain ⟨c, io, mo, fa, pl, ns, rw, en, wy, wh, bi, ed, sz, md, bd, li, wk, we, Lc, la, lm, ln, lh, ld, lk, lt, hM, hO, ht, hg, -⟩ := hI
  refine T.mono (s_M_fopen d  σ hM  hO) ?_
  rintro v9 s9 ⟨z, c1, io1, mo1, fa1, pl1, rw1, en1, wy1, wh1, Lc1, la1, lh1, ld1, rfl, mm, ff, z1, z2, p0, p1, p2, p3, p4⟩
  exact ⟨z, 0, g, c1, rfl, ⟨by omega, by omega⟩, ⟨rfl, rfl, fun h => p2 (by rw [hg, ht]; exact h) |> fun q => ⟨q.1, by rw [← hg, ← ht]; exact q.2⟩, fun h => p3 (by rw [hg, ht]; exact h)⟩, ff.keepK hK, ⟨c1, io1, mo1, fa1, pl1, ns, rw1, en1, wy1, wh1, bi, ed, sz, md, bd, li, wk, we, Lc1, la1, lm, ln, lh1, ld1, lk, lt, mm, p0, p1, (p4.trans hg), rfl⟩, ff⟩
theorem m_M_index {ξ : Nat → Option (Nat × List Int32)} (d : Nat)  {σ : qH} {t cc : Int} {g : Int → Int} (hK : K σ) (hI : MI t g cc σ)  : T ξ (d + 10) j_M_index 0 (lv_args 0 [.ref 137]) [] σ (fun v0 σ' => ∃ (z t' : Int) (g' : Int → Int) (c' : Int), v0 = some (J z) ∧ (-2147483648 ≤ z ∧ z ≤ 2147483647) ∧ (t' = t ∧ g' = g) ∧ K σ' ∧ MI t' g' c' σ' ∧ FM σ σ') := by
  obtain ⟨c, io, mo, fa, pl, ns, rw, en, wy, wh, bi, ed, sz, md, bd, li, wk, we, Lc, la, lm, ln, lh, ld, lk, lt, hM, hO, ht, hg, -⟩ := hI
  refine T.mono (s_M_index d  σ hM  hO) ?_
  rintro v9 s9 ⟨z, c1, fa1, pl1, mo1, lm1, rw1, en1, wy1, wh1, bi1, ed1, sz1, md1, bd1, Lc1, la1, lk1, lh1, ld1, lt1, li1, rfl, mm, ff, z1, z2, p0, p1, p2⟩
  exact ⟨z, t, g, c1, rfl, ⟨by omega, by omega⟩, ⟨rfl, rfl⟩, ff.keepK hK, ⟨c1, io, mo1, fa1, pl1, ns, rw1, en1, wy1, wh1, bi1, ed1, sz1, md1, bd1, li1, wk, we, Lc1, la1, lm1, ln, lh1, ld1, lk1, lt1, mm, p0, (p1.trans ht), (p2.trans hg), rfl⟩, ff⟩
theorem m_M_attribute {ξ : Nat → Option (Nat × List Int32)} (d : Nat) (x : Int) {σ : qH} {t cc : Int} {g : Int → Int} (hK : K σ) (hI : MI t g cc σ) (rx : -2147483648 ≤ x ∧ x ≤ 2147483647) : T ξ (d + 10) j_M_attribute 0 (lv_args 0 [.ref 137, J x]) [] σ (fun v0 σ' => ∃ (z t' : Int) (g' : Int → Int) (c' : Int), v0 = some (J z) ∧ (-2147483648 ≤ z ∧ z ≤ 2147483647) ∧ (t' = t ∧ g' = g) ∧ K σ' ∧ MI t' g' c' σ' ∧ FM σ σ') := by
  obtain ⟨c, io, mo, fa, pl, ns, rw, en, wy, wh, bi, ed, sz, md, bd, li, wk, we, Lc, la, lm, ln, lh, ld, lk, lt, hM, hO, ht, hg, -⟩ := hI
  refine T.mono (s_M_attribute d x σ hM rx hO) ?_
  rintro v9 s9 ⟨z, c1, rw1, en1, wy1, wh1, bi1, ed1, sz1, md1, bd1, Lc1, la1, lk1, lh1, ld1, fa1, pl1, ns1, wk1, we1, rfl, mm, ff, z1, z2, p0, p1, p2, p3⟩
  exact ⟨z, t, g, c1, rfl, ⟨by omega, by omega⟩, ⟨rfl, rfl⟩, ff.keepK hK, ⟨c1, io, mo, fa1, pl1, ns1, rw1, en1, wy1, wh1, bi1, ed1, sz1, md1, bd1, li, wk1, we1, Lc1, la1, lm, ln, lh1, ld1, lk1, lt, mm, p0, (p1.trans ht), (p3.trans hg), rfl⟩, ff⟩
theorem m_M_thrown {ξ : Nat → Option (Nat × List Int32)} (d : Nat) {σ : qH} {t cc : Int} {g : Int → Int} (hI : MI t g cc σ) : T ξ (d + 10) j_M_thrown 0 (lv_args 0 [.ref 137]) [] σ (fun v σ' => v = some (J cc) ∧ σ' = σ ∧ -2147483648 ≤ cc ∧ cc ≤ 2147483647) := by
  obtain ⟨c, io, mo, fa, pl, ns, rw, en, wy, wh, bi, ed, sz, md, bd, li, wk, we, Lc, la, lm, ln, lh, ld, lk, lt, hM, hO, ht, hg, hc⟩ := hI
  refine T.mono (s_M_fthrown d σ hM) ?_
  rintro v9 s9 ⟨z, rfl, e, z1, z2, p⟩
  subst hc
  subst p
  exact ⟨rfl, e, z1, z2⟩
theorem h_L_open {ξ : Nat → Option (Nat × List Int32)} (d : Nat)  {σ : qH} (hK : K σ) {g : Int → Int} (h255 : ∀ k, 0 ≤ g k ∧ g k ≤ 255) (hgt : AGT σ g) (hNA : NA σ) : TH ξ (d + 10) j_L_open 0 (lv_args 0 [.ref 16, .ref 146]) [] σ (fun v σ' => ∃ z : Int, v = some (J z) ∧ (-2147483648 ≤ z ∧ z ≤ 2147483647) ∧ CL σ σ' ∧ tl σ' = 0 ∧ (FOn g (tl σ) = 1 → z = 0 ∧ σ'[146]? = some (.inr (.inr (.inl [Int64.ofInt (W2 g (EN g (tl σ) + 8))])))) ∧ (FOn g (tl σ) = 0 → z = 1)) := by
  obtain ⟨fs, hc⟩ := hK.cls
  refine TH.go 3 (fun n9 => (rfl : _ = exh ξ n9 (d + 10) j_L_open 3 [(0, .ref 16), (1, .ref 146)] [.ref 16, J 0, .ref 146] σ)) ?_
  refine TH.callx (as := []) (r := [J 0, .ref 146]) rfl rfl rfl rfl hc rfl (s_N_fopen (d + 1) g σ hK h255 hgt hNA) (fun v s hq => ?_) (fun e s hq => ?_)
  · obtain ⟨z, rfl, hf, z1, z2, ht, hF, hZ⟩ := hq
    obtain ⟨li, h6, hl⟩ := hf.1.out
    refine TH.i2l rfl (by omega) ?_
    refine TH.last rfl h6 (by omega) ?_
    exact TH.end 3 (fun n9 => rfl) ⟨0, rfl, by decide, CL.out hf h6 List.length_set, (tl_out hf.1).trans ht, fun _ => ⟨rfl, by rw [qs_at h6, ← hZ]; match li, hl with | [y], _ => rfl⟩, fun q => by omega⟩
  · obtain ⟨he, s1, hf, ⟨ht, hF⟩, rfl⟩ := hq
    simp only [List.mem_cons, List.not_mem_nil, or_false] at he
    subst he
    exact ⟨11, rfl, TH.end 3 (fun n9 => rfl) ⟨1, rfl, by decide, CL.push hf, (tl_push hf.1).trans ht, fun q => by omega, fun _ => rfl⟩⟩
theorem h_L_entry {ξ : Nat → Option (Nat × List Int32)} (d : Nat) (x y u : Int) {σ : qH} (hK : K σ) (rx : -2147483648 ≤ x ∧ x ≤ 2147483647) (ry : -2147483648 ≤ y ∧ y ≤ 2147483647) (ru : -2147483648 ≤ u ∧ u ≤ 2147483647) : TH ξ (d + 10) j_L_entry 0 (lv_args 0 [.ref 16, J x, J y, J u, .ref 146]) [] σ (fun v σ' => ∃ z : Int, v = some (J z) ∧ (-2147483648 ≤ z ∧ z ≤ 2147483647) ∧ CL σ σ' ∧ tl σ' = tl σ ∧ (∀ g : Int → Int, AGT σ g → NA σ → AGT σ' g)) := by
  obtain ⟨fs, hc⟩ := hK.cls
  refine TH.go 6 (fun n9 => (rfl : _ = exh ξ n9 (d + 10) j_L_entry 7 [(0, .ref 16), (1, J x), (2, J y), (3, J u), (4, .ref 146)] [J u, J y, J x, .ref 16, J 0, .ref 146] σ)) ?_
  refine TH.callx (as := [J x, J y, J u]) (r := [J 0, .ref 146]) rfl rfl rfl rfl hc rfl (s_N_entry (d + 1) x y u σ hK rx ry ru) (fun v s hq => ?_) (fun e s hq => ?_)
  · obtain ⟨z, rfl, hf, z1, z2, ht⟩ := hq
    obtain ⟨li, h6, hl⟩ := hf.1.out
    refine TH.last rfl h6 (by omega) ?_
    exact TH.end 3 (fun n9 => rfl) ⟨0, rfl, by decide, CL.out hf h6 List.length_set, (tl_out hf.1).trans (tl_keep hK (WQ_WP hf) ht), fun g hg hn => AGT_SM hf.1 SM.out (hg.keep hK hn (WQ_WP hf) ht)⟩
  · obtain ⟨he, s1, hf, ht, rfl⟩ := hq
    simp only [List.mem_cons, List.not_mem_nil, or_false] at he
    rcases he with rfl | rfl
    · exact ⟨18, rfl, TH.end 3 (fun n9 => rfl) ⟨2, rfl, by decide, CL.push hf, (tl_push hf.1).trans (tl_keep hK (WQ_WP hf) ht), fun g hg hn => AGT_SM hf.1 SM.push (hg.keep hK hn (WQ_WP hf) ht)⟩⟩
    · exact ⟨14, rfl, TH.end 3 (fun n9 => rfl) ⟨1, rfl, by decide, CL.push hf, (tl_push hf.1).trans (tl_keep hK (WQ_WP hf) ht), fun g hg hn => AGT_SM hf.1 SM.push (hg.keep hK hn (WQ_WP hf) ht)⟩⟩
theorem h_L_letter {ξ : Nat → Option (Nat × List Int32)} (d : Nat) (x y u : Int) {σ : qH} (hK : K σ) (rx : -2147483648 ≤ x ∧ x ≤ 2147483647) (ry : -2147483648 ≤ y ∧ y ≤ 2147483647) (ru : -2147483648 ≤ u ∧ u ≤ 2147483647) : TH ξ (d + 10) j_L_letter 0 (lv_args 0 [.ref 16, J x, J y, J u, .ref 146]) [] σ (fun v σ' => ∃ z : Int, v = some (J z) ∧ (-2147483648 ≤ z ∧ z ≤ 2147483647) ∧ CL σ σ' ∧ tl σ' = tl σ ∧ (∀ g : Int → Int, AGT σ g → NA σ → AGT σ' g)) := by
  obtain ⟨fs, hc⟩ := hK.cls
  refine TH.go 6 (fun n9 => (rfl : _ = exh ξ n9 (d + 10) j_L_letter 7 [(0, .ref 16), (1, J x), (2, J y), (3, J u), (4, .ref 146)] [J u, J y, J x, .ref 16, J 0, .ref 146] σ)) ?_
  refine TH.callx (as := [J x, J y, J u]) (r := [J 0, .ref 146]) rfl rfl rfl rfl hc rfl (s_N_letter (d + 1) x y u σ hK rx ry ru) (fun v s hq => ?_) (fun e s hq => ?_)
  · obtain ⟨z, rfl, hf, z1, z2, ht⟩ := hq
    obtain ⟨li, h6, hl⟩ := hf.1.out
    refine TH.i2l rfl (by omega) ?_
    refine TH.last rfl h6 (by omega) ?_
    exact TH.end 3 (fun n9 => rfl) ⟨0, rfl, by decide, CL.out hf h6 List.length_set, (tl_out hf.1).trans (tl_keep hK (WQ_WP hf) ht), fun g hg hn => AGT_SM hf.1 SM.out (hg.keep hK hn (WQ_WP hf) ht)⟩
  · obtain ⟨he, s1, hf, ht, rfl⟩ := hq
    simp only [List.mem_cons, List.not_mem_nil, or_false] at he
    subst he
    exact ⟨15, rfl, TH.end 3 (fun n9 => rfl) ⟨1, rfl, by decide, CL.push hf, (tl_push hf.1).trans (tl_keep hK (WQ_WP hf) ht), fun g hg hn => AGT_SM hf.1 SM.push (hg.keep hK hn (WQ_WP hf) ht)⟩⟩
theorem h_L_number {ξ : Nat → Option (Nat × List Int32)} (d : Nat) (x : Int) {σ : qH} (hK : K σ) (rx : -2147483648 ≤ x ∧ x ≤ 2147483647) : TH ξ (d + 10) j_L_number 0 (lv_args 0 [.ref 16, J x, .ref 146]) [] σ (fun v σ' => ∃ z : Int, v = some (J z) ∧ (-2147483648 ≤ z ∧ z ≤ 2147483647) ∧ CL σ σ' ∧ tl σ' = tl σ ∧ (∀ g : Int → Int, AGT σ g → NA σ → AGT σ' g)) := by
  obtain ⟨fs, hc⟩ := hK.cls
  refine TH.go 4 (fun n9 => (rfl : _ = exh ξ n9 (d + 10) j_L_number 4 [(0, .ref 16), (1, J x), (2, .ref 146)] [J x, .ref 16, J 0, .ref 146] σ)) ?_
  refine TH.callx (as := [J x]) (r := [J 0, .ref 146]) rfl rfl rfl rfl hc rfl (s_N_number (d + 1) x σ hK rx) (fun v s hq => ?_) (fun e s hq => ?_)
  · obtain ⟨z, rfl, hf, z1, z2, ht⟩ := hq
    obtain ⟨li, h6, hl⟩ := hf.1.out
    refine TH.i2l rfl (by omega) ?_
    refine TH.last rfl h6 (by omega) ?_
    exact TH.end 3 (fun n9 => rfl) ⟨0, rfl, by decide, CL.out hf h6 List.length_set, (tl_out hf.1).trans (tl_keep hK hf ht), fun g hg hn => AGT_SM hf.1 SM.out (hg.keep hK hn hf ht)⟩
  · obtain ⟨he, s1, hf, ht, rfl⟩ := hq
    simp only [List.mem_cons, List.not_mem_nil, or_false] at he
    subst he
    exact ⟨12, rfl, TH.end 3 (fun n9 => rfl) ⟨1, rfl, by decide, CL.push hf, (tl_push hf.1).trans (tl_keep hK hf ht), fun g hg hn => AGT_SM hf.1 SM.push (hg.keep hK hn hf ht)⟩⟩
theorem h_L_find {ξ : Nat → Option (Nat × List Int32)} (d : Nat) (x : Int) {σ : qH} (hK : K σ) (rx : -2147483648 ≤ x ∧ x ≤ 2147483647) : TH ξ (d + 10) j_L_find 0 (lv_args 0 [.ref 16, J x, .ref 146]) [] σ (fun v σ' => ∃ z : Int, v = some (J z) ∧ (-2147483648 ≤ z ∧ z ≤ 2147483647) ∧ CL σ σ' ∧ tl σ' = tl σ ∧ (∀ g : Int → Int, AGT σ g → NA σ → AGT σ' g)) := by
  obtain ⟨fs, hc⟩ := hK.cls
  refine TH.go 4 (fun n9 => (rfl : _ = exh ξ n9 (d + 10) j_L_find 4 [(0, .ref 16), (1, J x), (2, .ref 146)] [J x, .ref 16, J 0, .ref 146] σ)) ?_
  refine TH.callx (as := [J x]) (r := [J 0, .ref 146]) rfl rfl rfl rfl hc rfl (s_N_find (d + 1) x σ hK rx) (fun v s hq => ?_) (fun e s hq => ?_)
  · obtain ⟨z, rfl, hf, z1, z2, ht⟩ := hq
    obtain ⟨li, h6, hl⟩ := hf.1.out
    refine TH.i2l rfl (by omega) ?_
    refine TH.last rfl h6 (by omega) ?_
    exact TH.end 3 (fun n9 => rfl) ⟨0, rfl, by decide, CL.out hf h6 List.length_set, (tl_out hf.1).trans (tl_keep hK hf ht), fun g hg hn => AGT_SM hf.1 SM.out (hg.keep hK hn hf ht)⟩
  · obtain ⟨he, s1, hf, ht, rfl⟩ := hq
    simp only [List.mem_cons, List.not_mem_nil, or_false] at he
    subst he
    exact ⟨12, rfl, TH.end 3 (fun n9 => rfl) ⟨1, rfl, by decide, CL.push hf, (tl_push hf.1).trans (tl_keep hK hf ht), fun g hg hn => AGT_SM hf.1 SM.push (hg.keep hK hn hf ht)⟩⟩
theorem h_L_read {ξ : Nat → Option (Nat × List Int32)} (hX : XT ξ) (d : Nat) (x y : Int) {σ : qH} (hK : K σ) (rx : -2147483648 ≤ x ∧ x ≤ 2147483647) (ry : -2147483648 ≤ y ∧ y ≤ 2147483647) : TH ξ (d + 10) j_L_read 0 (lv_args 0 [.ref 16, J x, J y, .ref 146]) [] σ (fun v σ' => ∃ z : Int, v = some (J z) ∧ (-2147483648 ≤ z ∧ z ≤ 2147483647) ∧ CL σ σ' ∧ tl σ' = tl σ ∧ (∀ g : Int → Int, AGT σ g → NA σ → AGT σ' g)) := by
  obtain ⟨fs, hc⟩ := hK.cls
  refine TH.go 5 (fun n9 => (rfl : _ = exh ξ n9 (d + 10) j_L_read 5 [(0, .ref 16), (1, J x), (2, J y), (3, .ref 146)] [J y, J x, .ref 16, J 0, .ref 146] σ)) ?_
  refine TH.callx (as := [J x, J y]) (r := [J 0, .ref 146]) rfl rfl rfl rfl hc rfl (s_N_read hX (d + 1) x y σ hK rx ry) (fun v s hq => ?_) (fun e s hq => ?_)
  · obtain ⟨z, rfl, hf, z1, z2, ht⟩ := hq
    obtain ⟨li, h6, hl⟩ := hf.1.out
    refine TH.i2l rfl (by omega) ?_
    refine TH.last rfl h6 (by omega) ?_
    exact TH.end 3 (fun n9 => rfl) ⟨0, rfl, by decide, CL.out hf h6 List.length_set, (tl_out hf.1).trans (tl_keep hK (WQ_WP hf) ht), fun g hg hn => AGT_SM hf.1 SM.out (hg.keep hK hn (WQ_WP hf) ht)⟩
  · obtain ⟨he, s1, hf, ht, rfl⟩ := hq
    simp only [List.mem_cons, List.not_mem_nil, or_false] at he
    rcases he with rfl | rfl
    · exact ⟨17, rfl, TH.end 3 (fun n9 => rfl) ⟨2, rfl, by decide, CL.push hf, (tl_push hf.1).trans (tl_keep hK (WQ_WP hf) ht), fun g hg hn => AGT_SM hf.1 SM.push (hg.keep hK hn (WQ_WP hf) ht)⟩⟩
    · exact ⟨13, rfl, TH.end 3 (fun n9 => rfl) ⟨1, rfl, by decide, CL.push hf, (tl_push hf.1).trans (tl_keep hK (WQ_WP hf) ht), fun g hg hn => AGT_SM hf.1 SM.push (hg.keep hK hn (WQ_WP hf) ht)⟩⟩
theorem h_L_mount {ξ : Nat → Option (Nat × List Int32)} (hX : XT ξ) (d : Nat) (x : Int) {σ : qH} (hK : K σ) (rx : -2147483648 ≤ x ∧ x ≤ 2147483647) : TH ξ (d + 10) j_L_mount 0 (lv_args 0 [.ref 16, J x, .ref 146]) [] σ (fun v σ' => ∃ z : Int, v = some (J z) ∧ (-2147483648 ≤ z ∧ z ≤ 2147483647) ∧ CL σ σ' ∧ tl σ' = tl σ ∧ (∀ g : Int → Int, AGT σ g → NA σ → AGT σ' g)) := by
  obtain ⟨fs, hc⟩ := hK.cls
  refine TH.go 4 (fun n9 => (rfl : _ = exh ξ n9 (d + 10) j_L_mount 4 [(0, .ref 16), (1, J x), (2, .ref 146)] [J x, .ref 16, J 0, .ref 146] σ)) ?_
  refine TH.callx (as := [J x]) (r := [J 0, .ref 146]) rfl rfl rfl rfl hc rfl (s_N_mount hX (d + 1) x σ hK rx) (fun v s hq => ?_) (fun e s hq => ?_)
  · obtain ⟨z, rfl, hf, z1, z2, ht⟩ := hq
    obtain ⟨li, h6, hl⟩ := hf.1.out
    refine TH.i2l rfl (by omega) ?_
    refine TH.last rfl h6 (by omega) ?_
    exact TH.end 3 (fun n9 => rfl) ⟨0, rfl, by decide, CL.out hf h6 List.length_set, (tl_out hf.1).trans (tl_keep hK (WQ_WP hf) ht), fun g hg hn => AGT_SM hf.1 SM.out (hg.keep hK hn (WQ_WP hf) ht)⟩
  · obtain ⟨he, s1, hf, ht, rfl⟩ := hq
    simp only [List.mem_cons, List.not_mem_nil, or_false] at he
    rcases he with rfl | rfl | rfl
    · exact ⟨15, rfl, TH.end 3 (fun n9 => rfl) ⟨2, rfl, by decide, CL.push hf, (tl_push hf.1).trans (tl_keep hK (WQ_WP hf) ht), fun g hg hn => AGT_SM hf.1 SM.push (hg.keep hK hn (WQ_WP hf) ht)⟩⟩
    · exact ⟨12, rfl, TH.end 3 (fun n9 => rfl) ⟨1, rfl, by decide, CL.push hf, (tl_push hf.1).trans (tl_keep hK (WQ_WP hf) ht), fun g hg hn => AGT_SM hf.1 SM.push (hg.keep hK hn (WQ_WP hf) ht)⟩⟩
    · exact ⟨18, rfl, TH.end 3 (fun n9 => rfl) ⟨3, rfl, by decide, CL.push hf, (tl_push hf.1).trans (tl_keep hK (WQ_WP hf) ht), fun g hg hn => AGT_SM hf.1 SM.push (hg.keep hK hn (WQ_WP hf) ht)⟩⟩
theorem h_L_index {ξ : Nat → Option (Nat × List Int32)} (hX : XT ξ) (d : Nat)  {σ : qH} (hK : K σ)  : TH ξ (d + 10) j_L_index 0 (lv_args 0 [.ref 16, .ref 146]) [] σ (fun v σ' => ∃ z : Int, v = some (J z) ∧ (-2147483648 ≤ z ∧ z ≤ 2147483647) ∧ CL σ σ' ∧ tl σ' = tl σ ∧ (∀ g : Int → Int, AGT σ g → NA σ → AGT σ' g)) := by
  obtain ⟨fs, hc⟩ := hK.cls
  refine TH.go 3 (fun n9 => (rfl : _ = exh ξ n9 (d + 10) j_L_index 3 [(0, .ref 16), (1, .ref 146)] [.ref 16, J 0, .ref 146] σ)) ?_
  refine TH.callx (as := []) (r := [J 0, .ref 146]) rfl rfl rfl rfl hc rfl (s_N_index hX (d + 1)  σ hK ) (fun v s hq => ?_) (fun e s hq => ?_)
  · obtain ⟨z, rfl, hf, z1, z2, ht⟩ := hq
    obtain ⟨li, h6, hl⟩ := hf.1.out
    refine TH.i2l rfl (by omega) ?_
    refine TH.last rfl h6 (by omega) ?_
    exact TH.end 3 (fun n9 => rfl) ⟨0, rfl, by decide, CL.out hf h6 List.length_set, (tl_out hf.1).trans (tl_keep hK (WQ_WP hf) ht), fun g hg hn => AGT_SM hf.1 SM.out (hg.keep hK hn (WQ_WP hf) ht)⟩
  · obtain ⟨he, s1, hf, ht, rfl⟩ := hq
    simp only [List.mem_cons, List.not_mem_nil, or_false] at he
    rcases he with rfl | rfl
    · exact ⟨14, rfl, TH.end 3 (fun n9 => rfl) ⟨2, rfl, by decide, CL.push hf, (tl_push hf.1).trans (tl_keep hK (WQ_WP hf) ht), fun g hg hn => AGT_SM hf.1 SM.push (hg.keep hK hn (WQ_WP hf) ht)⟩⟩
    · exact ⟨11, rfl, TH.end 3 (fun n9 => rfl) ⟨1, rfl, by decide, CL.push hf, (tl_push hf.1).trans (tl_keep hK (WQ_WP hf) ht), fun g hg hn => AGT_SM hf.1 SM.push (hg.keep hK hn (WQ_WP hf) ht)⟩⟩
theorem h_L_attribute {ξ : Nat → Option (Nat × List Int32)} (hX : XT ξ) (d : Nat) (x : Int) {σ : qH} (hK : K σ) (rx : -2147483648 ≤ x ∧ x ≤ 2147483647) : TH ξ (d + 10) j_L_attribute 0 (lv_args 0 [.ref 16, J x, .ref 146]) [] σ (fun v σ' => ∃ z : Int, v = some (J z) ∧ (-2147483648 ≤ z ∧ z ≤ 2147483647) ∧ CL σ σ' ∧ tl σ' = tl σ ∧ (∀ g : Int → Int, AGT σ g → NA σ → AGT σ' g)) := by
  obtain ⟨fs, hc⟩ := hK.cls
  refine TH.go 4 (fun n9 => (rfl : _ = exh ξ n9 (d + 10) j_L_attribute 4 [(0, .ref 16), (1, J x), (2, .ref 146)] [J x, .ref 16, J 0, .ref 146] σ)) ?_
  refine TH.callx (as := [J x]) (r := [J 0, .ref 146]) rfl rfl rfl rfl hc rfl (s_N_attribute hX (d + 1) x σ hK rx) (fun v s hq => ?_) (fun e s hq => ?_)
  · obtain ⟨z, rfl, hf, z1, z2, ht⟩ := hq
    obtain ⟨li, h6, hl⟩ := hf.1.out
    refine TH.i2l rfl (by omega) ?_
    refine TH.last rfl h6 (by omega) ?_
    exact TH.end 3 (fun n9 => rfl) ⟨0, rfl, by decide, CL.out hf h6 List.length_set, (tl_out hf.1).trans (tl_keep hK hf ht), fun g hg hn => AGT_SM hf.1 SM.out (hg.keep hK hn hf ht)⟩
  · obtain ⟨he, s1, hf, ht, rfl⟩ := hq
    simp only [List.mem_cons, List.not_mem_nil, or_false] at he
    rcases he with rfl | rfl
    · exact ⟨15, rfl, TH.end 3 (fun n9 => rfl) ⟨2, rfl, by decide, CL.push hf, (tl_push hf.1).trans (tl_keep hK hf ht), fun g hg hn => AGT_SM hf.1 SM.push (hg.keep hK hn hf ht)⟩⟩
    · exact ⟨12, rfl, TH.end 3 (fun n9 => rfl) ⟨1, rfl, by decide, CL.push hf, (tl_push hf.1).trans (tl_keep hK hf ht), fun g hg hn => AGT_SM hf.1 SM.push (hg.keep hK hn hf ht)⟩⟩
def LI (k t : Int) (g : Int → Int) (σ : qH) : Prop := K σ ∧ (tl σ = t ∧ AGT σ g ∧ NA σ) ∧ (∃ c, MI t g c σ) ∧ (σ.length + cnt σ : Nat) ≤ 200 + k ∧ (qsz σ + 8000 * cnt σ : Nat) ≤ 300000 + 10 * k
def LQ (v : Option Value) (σ : qH) : Prop := v = some (.int 1) ∧ σ.length ≤ 5000 ∧ qsz σ ≤ 400000
theorem ld_eq {a : Int32} {x y : Int} (h : a = Int32.ofInt x) (g : a = Int32.ofInt y) (hx : -2147483648 ≤ x ∧ x ≤ 2147483647) (hy : -2147483648 ≤ y ∧ y ≤ 2147483647) : y = x := by
  rw [← i32_to hx, ← i32_to hy, ← h, ← g]
theorem ld_eq64 {a : Int64} {x y : Int} (h : a = Int64.ofInt x) (g : a = Int64.ofInt y) (hx : -9223372036854775808 ≤ x ∧ x ≤ 9223372036854775807) (hy : -9223372036854775808 ≤ y ∧ y ≤ 9223372036854775807) : y = x := by
  rw [← i64_to hx, ← i64_to hy, ← h, ← g]
/-- one more call of both -/
theorem LI.next {k t t1 t' c' : Int} {g g' : Int → Int} {σ σ1 σ2 : qH} (h : LI k t g σ) (hc : CL σ σ1) (hK : K σ2) (hI : MI t' g' c' σ2) (hf : FM σ1 σ2) (h1 : tl σ1 = t1) (e : t1 = t') (ha : AGT σ1 g') : LI (k + 1) t' g' σ2 := by
  obtain ⟨-, ⟨-, -, n⟩, -, a, b⟩ := h
  obtain ⟨c1, c2⟩ := hf.cl
  obtain ⟨k1, -, c3, c4, c5⟩ := hc
  exact ⟨hK, ⟨(tl_FM k1 hf).trans (h1.trans e), AGT_SM k1 (SM.fm hf) ha, NA_SM k1 (SM.fm hf) (c5 n)⟩, ⟨_, hI⟩, by omega, by omega⟩
