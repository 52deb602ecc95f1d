/-! What every call of the class keeps: kinds and lengths of cells never change, fields are of their kinds. -/
def kdc (c : qC) : Nat × Nat × Nat := match c with
  | .inl (ci, fs) => (0, ci, fs.length)
  | .inr (.inl (t, li)) => (1, t, li.length)
  | .inr (.inr (.inl li)) => (2, 0, li.length)
  | .inr (.inr (.inr (.inl li))) => (3, 0, li.length)
  | .inr (.inr (.inr (.inr (.inl (t, li))))) => (4, t, li.length)
  | .inr (.inr (.inr (.inr (.inr n)))) => (5, 0, n)
def kds (σ : qH) : List (Nat × Nat × Nat) := σ.map kdc
/-- rows; archives; those of the mounts -/
def RwL : List Nat := [39, 42, 46, 51, 53, 55, 57, 59, 61, 64, 69, 78, 83, 88, 93, 98, 103, 108, 113, 118, 123, 128, 133]
def ArM : List Nat := [77, 82, 87, 92, 97, 102, 107, 112, 117, 122, 127, 132]
def ArL : List Nat := 63 :: 68 :: ArM
def CdL : List Nat := [19, 23, 27, 31, 35]
/-- how many bytes a row may have -/
def mst (i : Nat) : Int := if i ∈ [39, 46] then 0 else if i ∈ [51, 53, 55] then 40 else 8000
def okR (ks : List (Nat × Nat × Nat)) (i : Nat) (fs : List Value) : Prop := ∃ (m n : Int) (b L : Nat), fs = [J m, .ref b, J n] ∧ ks[b]? = some (1, 1, L) ∧ 0 ≤ n ∧ n ≤ L ∧ (L : Int) ≤ m ∧ m ≤ 8000 ∧ 16 ≤ b ∧ m = mst i ∧ (L = 0 ∨ (L : Int) = m)
def okA (i : Nat) (fs : List Value) : Prop := ∃ e er di ba fp : Int, fs = [.ref (i + 1), .ref (i + 3), .ref (i + 4), J e, J er, J di, J ba, J fp] ∧ 0 ≤ e ∧ e ≤ 64 ∧ -1 ≤ er ∧ er ≤ 8000 ∧ 0 ≤ di ∧ di ≤ 80000 ∧ 0 ≤ ba ∧ ba ≤ 150000 ∧ -1 ≤ fp ∧ fp ≤ 64
def okC (i : Nat) (fs : List Value) : Prop := fs = [.ref (i + 1), .ref (i + 2), .ref (i + 3)]
def okI (fs : List Value) : Prop := ∃ n : Int, fs = [.ref 49, .ref 50, J n] ∧ 0 ≤ n ∧ n ≤ 6
def okM (fs : List Value) : Prop := ∃ (n os vs vl : Int) (as : Nat), fs = [.ref 42, .ref 44, .ref 45, J n, J os, .ref as, J vs, J vl] ∧ 0 ≤ n ∧ n ≤ 2000 ∧ -1 ≤ os ∧ os ≤ 8000 ∧ as ∈ RwL ∧ -1 ≤ vs ∧ vs ≤ 20000 ∧ -20000 ≤ vl ∧ vl ≤ 20000
def okU (fs : List Value) : Prop := ∃ (s t : Nat) (w bi be ro : Int), fs = [.ref 18, .ref 19, .ref 23, .ref 27, .ref 31, .ref 35, .ref s, .ref t, J w, J bi, J be, J ro] ∧ s ∈ RwL ∧ t ∈ RwL ∧ -100000 ≤ w ∧ w ≤ 8000 ∧ 0 ≤ bi ∧ bi ≤ 64007 ∧ 0 ≤ be ∧ be ≤ 64000 ∧ (ro = 0 ∨ ro = 1)
def okN (fs : List Value) : Prop := ∃ (ke sc tp ou mo sg : Nat) (ho mc lf lp : Int), fs = [.ref 17, .ref 41, .ref 48, .ref 51, .ref 53, .ref 55, .ref 57, .ref ke, .ref sc, .ref tp, .ref ou, J ho, .ref mo, .ref sg, J mc, J lf, J lp] ∧ (ke = 59 ∨ ke = 61) ∧ (sc = 59 ∨ sc = 61) ∧ (tp = 63 ∨ tp = 68) ∧ (ou = 63 ∨ ou = 68) ∧ (mo = 73 ∨ mo = 74) ∧ (sg = 73 ∨ sg = 74) ∧ (ho = 0 ∨ ho = 1) ∧ 0 ≤ mc ∧ mc ≤ 6 ∧ -2147483648 ≤ lf ∧ lf ≤ 2147483647 ∧ -2147483648 ≤ lp ∧ lp ≤ 2147483647
def okc (ks : List (Nat × Nat × Nat)) (i : Nat) (c : qC) : Prop := match c with
  | .inl (0, fs) => okN fs
  | .inl (1, fs) => okA i fs
  | .inl (2, fs) => okC i fs
  | .inl (3, fs) => okI fs
  | .inl (4, fs) => okM fs
  | .inl (5, fs) => okR ks i fs
  | .inl (6, fs) => okU fs
  | .inr (.inl (1, li)) => li.all qisb = true
  | .inr (.inr (.inr (.inl li))) => ∀ x ∈ li, ∃ a : Nat, x = some a ∧ a ∈ ArM
  | _ => True
def kdX : List (Nat × Nat × Nat) := List.replicate 16 (5, 0, 0) ++ ([(0, 0, 17), (0, 6, 12), (1, 0, 320), (0, 2, 3), (1, 0, 16), (1, 0, 16), (1, 0, 19), (0, 2, 3), (1, 0, 16), (1, 0, 16), (1, 0, 286), (0, 2, 3), (1, 0, 16), (1, 0, 16), (1, 0, 30), (0, 2, 3), (1, 0, 16), (1, 0, 16), (1, 0, 288), (0, 2, 3), (1, 0, 16), (1, 0, 16), (1, 0, 32), (0, 5, 3), (1, 1, 0), (0, 4, 8), (0, 5, 3), (1, 1, 0), (1, 0, 2000), (1, 0, 2000), (0, 5, 3), (1, 1, 0), (0, 3, 3), (1, 0, 6), (1, 0, 6), (0, 5, 3), (1, 1, 0), (0, 5, 3), (1, 1, 0), (0, 5, 3), (1, 1, 0), (0, 5, 3), (1, 1, 0), (0, 5, 3), (1, 1, 0), (0, 5, 3), (1, 1, 0), (0, 1, 8), (0, 5, 3), (1, 1, 0), (1, 0, 64), (1, 0, 64), (0, 1, 8), (0, 5, 3), (1, 1, 0), (1, 0, 64), (1, 0, 64), (3, 0, 6), (3, 0, 6), (1, 1, 40), (1, 1, 40)] ++ (List.replicate 12 [(0, 1, 8), (0, 5, 3), (1, 1, 0), (1, 0, 64), (1, 0, 64)]).flatten ++ [(0, 7, 26), (2, 0, 7000), (1, 0, 7), (1, 0, 6), (1, 0, 40), (1, 0, 64), (1, 0, 64), (1, 0, 360), (1, 0, 6), (2, 0, 1)])
def K (σ : qH) : Prop := (kds σ).take 147 = kdX ∧ ∀ (i : Nat) (c : qC), σ[i]? = some c → okc (kds σ) i c
theorem kdX_len : kdX.length = 147 := by decide +kernel
theorem kdX_rw : ∀ r ∈ RwL, kdX[r]? = some (0, 5, 3) := by decide +kernel
theorem kdX_ar : ∀ a ∈ ArL, kdX[a]? = some (0, 1, 8) ∧ kdX[a + 1]? = some (0, 5, 3) ∧ a + 1 ∈ RwL ∧ kdX[a + 3]? = some (1, 0, 64) ∧ kdX[a + 4]? = some (1, 0, 64) := by decide +kernel
theorem kdX_cd : ∀ c ∈ CdL, kdX[c]? = some (0, 2, 3) ∧ kdX[c + 1]? = some (1, 0, 16) ∧ kdX[c + 2]? = some (1, 0, 16) ∧ ∃ n, kdX[c + 3]? = some (1, 0, n) ∧ n ≤ 288 := by
  intro c hc
  simp only [CdL, List.mem_cons, List.not_mem_nil, or_false] at hc
  rcases hc with rfl | rfl | rfl | rfl | rfl
  · exact ⟨by decide +kernel, by decide +kernel, by decide +kernel, 19, by decide +kernel, by decide⟩
  · exact ⟨by decide +kernel, by decide +kernel, by decide +kernel, 286, by decide +kernel, by decide⟩
  · exact ⟨by decide +kernel, by decide +kernel, by decide +kernel, 30, by decide +kernel, by decide⟩
  · exact ⟨by decide +kernel, by decide +kernel, by decide +kernel, 288, by decide +kernel, by decide⟩
  · exact ⟨by decide +kernel, by decide +kernel, by decide +kernel, 32, by decide +kernel, by decide⟩
theorem RwL_lt : ∀ r ∈ RwL, r < 147 ∧ 16 ≤ r ∧ Nat.blt r qnE = false ∧ r < 137 := by decide +kernel
theorem ArL_lt : ∀ r ∈ ArL, r < 147 ∧ 16 ≤ r ∧ Nat.blt r qnE = false ∧ r + 4 < 137 := by decide +kernel
section
variable {σ σ' : qH} {i : Nat} {c c0 c1 : qC}
theorem kds_at (h : σ[i]? = some c) : (kds σ)[i]? = some (kdc c) := by
  unfold kds
  rw [List.getElem?_map, h]
  rfl
theorem kds_in {k : Nat × Nat × Nat} (h : (kds σ)[i]? = some k) : ∃ c, σ[i]? = some c ∧ kdc c = k := by
  unfold kds at h
  rw [List.getElem?_map] at h
  cases hc : σ[i]? with
  | none => rw [hc] at h; cases h
  | some c => rw [hc] at h; exact ⟨c, rfl, Option.some.inj h⟩
theorem kdc_obj {ci n : Nat} (h : kdc c = (0, ci, n)) : ∃ fs, c = .inl (ci, fs) ∧ fs.length = n := by
  rcases c with ⟨x, fs⟩ | ⟨t, li⟩ | li | li | ⟨t, li⟩ | k
  · cases h; exact ⟨fs, rfl, rfl⟩
  · cases h
  · cases h
  · cases h
  · cases h
  · cases h
theorem kdc_arr {t n : Nat} (h : kdc c = (1, t, n)) : ∃ li, c = .inr (.inl (t, li)) ∧ li.length = n := by
  rcases c with ⟨x, fs⟩ | ⟨t, li⟩ | li | li | ⟨t, li⟩ | k
  · cases h
  · cases h; exact ⟨li, rfl, rfl⟩
  · cases h
  · cases h
  · cases h
  · cases h
theorem kdc_lng {n : Nat} (h : kdc c = (2, 0, n)) : ∃ li, c = .inr (.inr (.inl li)) ∧ li.length = n := by
  rcases c with ⟨x, fs⟩ | ⟨t, li⟩ | li | li | ⟨t, li⟩ | k
  · cases h
  · cases h
  · cases h; exact ⟨li, rfl, rfl⟩
  · cases h
  · cases h
  · cases h
theorem kdc_rfs {n : Nat} (h : kdc c = (3, 0, n)) : ∃ li, c = .inr (.inr (.inr (.inl li))) ∧ li.length = n := by
  rcases c with ⟨x, fs⟩ | ⟨t, li⟩ | li | li | ⟨t, li⟩ | k
  · cases h
  · cases h
  · cases h
  · cases h; exact ⟨li, rfl, rfl⟩
  · cases h
  · cases h
theorem kds_set (hi : σ[i]? = some c0) (e : kdc c1 = kdc c0) : kds (σ.set i c1) = kds σ := by
  unfold kds
  rw [List.map_set, e]
  apply List.ext_getElem?
  intro k
  by_cases h : i = k
  · subst h
    rw [List.getElem?_set_self (by rw [List.length_map]; exact (List.getElem?_eq_some_iff.mp hi).1), List.getElem?_map, hi]
    rfl
  · rw [List.getElem?_set_ne h]
theorem K.at {k : Nat × Nat × Nat} (h : K σ) (hk : kdX[i]? = some k) : ∃ c, σ[i]? = some c ∧ kdc c = k ∧ okc (kds σ) i c := by
  have hl : i < 147 := by
    have := (List.getElem?_eq_some_iff.mp hk).1
    rw [kdX_len] at this
    exact this
  have h1 : (kds σ)[i]? = some k := by
    rw [← h.1, List.getElem?_take, if_pos hl] at hk
    exact hk
  obtain ⟨c, hc, e⟩ := kds_in h1
  exact ⟨c, hc, e, h.2 i c hc⟩
theorem K.len (h : K σ) : 147 ≤ σ.length := by
  have h1 := congrArg List.length h.1
  rw [List.length_take, kdX_len] at h1
  unfold kds at h1
  rw [List.length_map] at h1
  omega
theorem K.set (h : K σ) (hi : σ[i]? = some c0) (e : kdc c1 = kdc c0) (ok : okc (kds σ) i c1) : K (σ.set i c1) := by
  refine ⟨by rw [kds_set hi e]; exact h.1, fun k c hc => ?_⟩
  rw [kds_set hi e]
  by_cases hk : i = k
  · subst hk
    rw [List.getElem?_set_self (List.getElem?_eq_some_iff.mp hi).1] at hc
    cases hc
    exact ok
  · rw [List.getElem?_set_ne hk] at hc
    exact h.2 k c hc
theorem okc_more {ks : List (Nat × Nat × Nat)} {k : Nat × Nat × Nat} (h : okc ks i c) : okc (ks ++ [k]) i c := by
  unfold okc at h ⊢
  split at h
  · exact h
  · exact h
  · exact h
  · exact h
  · exact h
  · obtain ⟨m, n, b, L, e, hb, r⟩ := h
    exact ⟨m, n, b, L, e, by rw [List.getElem?_append_left (List.getElem?_eq_some_iff.mp hb).1]; exact hb, r⟩
  · exact h
  · exact h
  · exact h
  · trivial
theorem kds_push : kds (σ ++ [c1]) = kds σ ++ [kdc c1] := by unfold kds; rw [List.map_append]; rfl
theorem K.push (h : K σ) (ok : okc (kds σ ++ [kdc c1]) σ.length c1) : K (σ ++ [c1]) := by
  have hl := h.len
  refine ⟨?_, fun k c hc => ?_⟩
  · rw [kds_push, List.take_append_of_le_length (by unfold kds; rw [List.length_map]; exact hl)]
    exact h.1
  · rw [kds_push]
    by_cases hk : k < σ.length
    · rw [List.getElem?_append_left hk] at hc
      exact okc_more (h.2 k c hc)
    · rw [List.getElem?_append_right (by omega)] at hc
      have hz : k - σ.length < 1 := (List.getElem?_eq_some_iff.mp hc).1
      have e : k = σ.length := by omega
      subst e
      rw [Nat.sub_self] at hc
      cases hc
      exact ok
theorem blt_f {b : Nat} (h : 16 ≤ b) : Nat.blt b qnE = false := by
  cases hb : Nat.blt b qnE with
  | false => rfl
  | true => have : b + 1 ≤ 16 := Nat.le_of_ble_eq_true hb; omega
/-- a row, its bytes, and what is known of them -/
theorem K.row (h : K σ) {r : Nat} (hr : r ∈ RwL) : ∃ (m n : Int) (b : Nat) (bs : List Int32), σ[r]? = some (.inl (5, [J m, .ref b, J n])) ∧ σ[b]? = some (.inr (.inl (1, bs))) ∧ 0 ≤ n ∧ n ≤ bs.length ∧ (bs.length : Int) ≤ m ∧ m ≤ 8000 ∧ 16 ≤ b ∧ bs.all qisb = true ∧ m = mst r ∧ (bs.length = 0 ∨ (bs.length : Int) = m) := by
  obtain ⟨c, hc, e, ok⟩ := h.at (kdX_rw r hr)
  obtain ⟨fs, rfl, hl⟩ := kdc_obj e
  obtain ⟨m, n, b, L, rfl, hb, h1, h2, h3, h4, h5, h6, h7⟩ := ok
  obtain ⟨cb, hcb, eb⟩ := kds_in hb
  have ob := h.2 b cb hcb
  obtain ⟨bs, rfl, hbs⟩ := kdc_arr eb
  exact ⟨m, n, b, bs, hc, hcb, h1, by rw [hbs]; exact h2, by rw [hbs]; exact h3, h4, h5, ob, h6, by rw [hbs]; exact h7⟩
theorem K.ints (h : K σ) {n : Nat} (hk : kdX[i]? = some (1, 0, n)) : ∃ li, σ[i]? = some (.inr (.inl (0, li))) ∧ li.length = n := by
  obtain ⟨c, hc, e, -⟩ := h.at hk
  obtain ⟨li, rfl, hl⟩ := kdc_arr e
  exact ⟨li, hc, hl⟩
theorem K.refs (h : K σ) {n : Nat} (hk : kdX[i]? = some (3, 0, n)) : ∃ li, σ[i]? = some (.inr (.inr (.inr (.inl li)))) ∧ li.length = n ∧ ∀ x ∈ li, ∃ a : Nat, x = some a ∧ a ∈ ArM := by
  obtain ⟨c, hc, e, ok⟩ := h.at hk
  obtain ⟨li, rfl, hl⟩ := kdc_rfs e
  exact ⟨li, hc, hl, ok⟩
theorem K.arc (h : K σ) {a : Nat} (ha : a ∈ ArL) : ∃ e er di ba fp : Int, σ[a]? = some (.inl (1, [.ref (a + 1), .ref (a + 3), .ref (a + 4), J e, J er, J di, J ba, J fp])) ∧ 0 ≤ e ∧ e ≤ 64 ∧ -1 ≤ er ∧ er ≤ 8000 ∧ 0 ≤ di ∧ di ≤ 80000 ∧ 0 ≤ ba ∧ ba ≤ 150000 ∧ -1 ≤ fp ∧ fp ≤ 64 := by
  obtain ⟨c, hc, ek, ok⟩ := h.at (kdX_ar a ha).1
  obtain ⟨fs, rfl, hl⟩ := kdc_obj ek
  obtain ⟨e, er, di, ba, fp, rfl, r⟩ := ok
  exact ⟨e, er, di, ba, fp, hc, r⟩
theorem K.cod (h : K σ) {c : Nat} (hc : c ∈ CdL) : σ[c]? = some (.inl (2, [.ref (c + 1), .ref (c + 2), .ref (c + 3)])) := by
  obtain ⟨c, hc, e, ok⟩ := h.at (kdX_cd c hc).1
  obtain ⟨fs, rfl, hl⟩ := kdc_obj e
  have e : fs = _ := ok
  rw [e] at hc
  exact hc
theorem K.unp (h : K σ) : ∃ (s t : Nat) (w bi be ro : Int), σ[17]? = some (.inl (6, [.ref 18, .ref 19, .ref 23, .ref 27, .ref 31, .ref 35, .ref s, .ref t, J w, J bi, J be, J ro])) ∧ s ∈ RwL ∧ t ∈ RwL ∧ -100000 ≤ w ∧ w ≤ 8000 ∧ 0 ≤ bi ∧ bi ≤ 64007 ∧ 0 ≤ be ∧ be ≤ 64000 ∧ (ro = 0 ∨ ro = 1) := by
  obtain ⟨c, hc, e, ok⟩ := h.at (i := 17) (k := (0, 6, 12)) (by decide +kernel)
  obtain ⟨fs, rfl, hl⟩ := kdc_obj e
  obtain ⟨s, t, w, bi, be, ro, rfl, r⟩ := ok
  exact ⟨s, t, w, bi, be, ro, hc, r⟩
theorem K.man (h : K σ) : ∃ (n os vs vl : Int) (as : Nat), σ[41]? = some (.inl (4, [.ref 42, .ref 44, .ref 45, J n, J os, .ref as, J vs, J vl])) ∧ 0 ≤ n ∧ n ≤ 2000 ∧ -1 ≤ os ∧ os ≤ 8000 ∧ as ∈ RwL ∧ -1 ≤ vs ∧ vs ≤ 20000 ∧ -20000 ≤ vl ∧ vl ≤ 20000 := by
  obtain ⟨c, hc, e, ok⟩ := h.at (i := 41) (k := (0, 4, 8)) (by decide +kernel)
  obtain ⟨fs, rfl, hl⟩ := kdc_obj e
  obtain ⟨n, os, vs, vl, as, rfl, r⟩ := ok
  exact ⟨n, os, vs, vl, as, hc, r⟩
theorem K.idx (h : K σ) : ∃ n : Int, σ[48]? = some (.inl (3, [.ref 49, .ref 50, J n])) ∧ 0 ≤ n ∧ n ≤ 6 := by
  obtain ⟨c, hc, e, ok⟩ := h.at (i := 48) (k := (0, 3, 3)) (by decide +kernel)
  obtain ⟨fs, rfl, hl⟩ := kdc_obj e
  obtain ⟨n, rfl, r⟩ := ok
  exact ⟨n, hc, r⟩
theorem K.na (h : K σ) : ∃ (ke sc tp ou mo sg : Nat) (ho mc lf lp : Int), σ[16]? = some (.inl (0, [.ref 17, .ref 41, .ref 48, .ref 51, .ref 53, .ref 55, .ref 57, .ref ke, .ref sc, .ref tp, .ref ou, J ho, .ref mo, .ref sg, J mc, J lf, J lp])) ∧ (ke = 59 ∨ ke = 61) ∧ (sc = 59 ∨ sc = 61) ∧ (tp = 63 ∨ tp = 68) ∧ (ou = 63 ∨ ou = 68) ∧ (mo = 73 ∨ mo = 74) ∧ (sg = 73 ∨ sg = 74) ∧ (ho = 0 ∨ ho = 1) ∧ 0 ≤ mc ∧ mc ≤ 6 ∧ -2147483648 ≤ lf ∧ lf ≤ 2147483647 ∧ -2147483648 ≤ lp ∧ lp ≤ 2147483647 := by
  obtain ⟨c, hc, e, ok⟩ := h.at (i := 16) (k := (0, 0, 17)) (by decide +kernel)
  obtain ⟨fs, rfl, hl⟩ := kdc_obj e
  obtain ⟨ke, sc, tp, ou, mo, sg, ho, mc, lf, lp, rfl, r⟩ := ok
  exact ⟨ke, sc, tp, ou, mo, sg, ho, mc, lf, lp, hc, r⟩
end
/-! how much may still be made: a row's bytes are made once -/
def nfr (σ : qH) (r : Nat) : Nat := match σ[r]? with
  | some (.inl (_, [.int m, .ref b, _])) => (match (kds σ)[b]? with
    | some (_, _, L) => if (L : Int) < m.toInt then 1 else 0
    | none => 0)
  | _ => 0
def cnt (σ : qH) : Nat := (RwL.map (nfr σ)).sum
/-! which bytes a row has, and that no two rows have the same array -/
def qrefb (c : Option qC) : Option Nat := match c with
  | some (.inl (_, [_, .ref b, _])) => some b
  | _ => none
def bref (σ : qH) (r : Nat) : Option Nat := qrefb σ[r]?
def qbyt (c : Option qC) : List Int32 := match c with
  | some (.inr (.inl (1, l))) => l
  | _ => []
def CT (σ : qH) (r : Nat) : List Int32 := match bref σ r with
  | some b => qbyt σ[b]?
  | none => []
def NA (σ : qH) : Prop := ∀ r ∈ RwL, ∀ q ∈ RwL, r ≠ q → bref σ r ≠ bref σ q
/-- cells that are neither named nor bytes stay; rows that aren't named keep their bytes -/
def Fb (w : List Nat) (σ σ' : qH) : Prop := (∀ (i : Nat) (c : qC), i ∉ w → (∀ l, c ≠ .inr (.inl (1, l))) → σ[i]? = some c → σ'[i]? = some c) ∧ (NA σ → NA σ' ∧ ∀ r ∈ RwL, r ∉ w → CT σ' r = CT σ r)
/-- what a call of the class leaves as it was, but for the cells w: the object, the model, other rows; and its room -/
def Fr (w : List Nat) (σ σ' : qH) : Prop := K σ' ∧ (∀ i : Nat, 137 ≤ i → i ≤ 146 → σ'[i]? = σ[i]?) ∧ (∀ r ∈ 16 :: RwL, r ∉ w → σ'[r]? = σ[r]?) ∧ σ'.length + cnt σ' ≤ σ.length + cnt σ ∧ qsz σ' + 8000 * cnt σ' ≤ qsz σ + 8000 * cnt σ ∧ σ.length ≤ σ'.length ∧ (∀ i : Nat, i < σ.length → (kds σ')[i]? = (kds σ)[i]?) ∧ Fb w σ σ'
section
variable {σ σ' σ1 : qH} {i : Nat} {c c0 c1 : qC} {w : List Nat}
theorem bref_of {r b ci : Nat} {x y : Value} (h : σ[r]? = some (.inl (ci, [x, .ref b, y]))) : bref σ r = some b := by
  unfold bref
  rw [h]
  rfl
theorem CT_of {r b ci : Nat} {x y : Value} {l : List Int32} (h : σ[r]? = some (.inl (ci, [x, .ref b, y]))) (hb : σ[b]? = some (.inr (.inl (1, l)))) : CT σ r = l := by
  unfold CT
  rw [bref_of h]
  simp only [hb, qbyt]
theorem K.bref (h : K σ) {r : Nat} (hr : r ∈ RwL) : ∃ (b : Nat) (l : List Int32), bref σ r = some b ∧ σ[b]? = some (.inr (.inl (1, l))) := by
  obtain ⟨m, n, b, bs, h1, h2, -⟩ := h.row hr
  exact ⟨b, bs, bref_of h1, h2⟩
theorem Fb.refl : Fb w σ σ := ⟨fun _ _ _ _ h => h, fun h => ⟨h, fun _ _ _ => rfl⟩⟩
theorem Fb.trans (h : Fb w σ σ1) (g : Fb w σ1 σ') : Fb w σ σ' := ⟨fun i c a b e => g.1 i c a b (h.1 i c a b e), fun n => ⟨(g.2 (h.2 n).1).1, fun r hr hw => ((g.2 (h.2 n).1).2 r hr hw).trans ((h.2 n).2 r hr hw)⟩⟩
theorem Fb.sub {w' : List Nat} (h : Fb w σ σ') (hw : ∀ r ∈ w, r ∈ w') : Fb w' σ σ' := ⟨fun i c a b e => h.1 i c (fun q => a (hw i q)) b e, fun n => ⟨(h.2 n).1, fun r hr hq => (h.2 n).2 r hr (fun q => hq (hw r q))⟩⟩
/-- what keeps all references and all bytes keeps contents -/
theorem CT_same {r : Nat} (h : K σ) (hr : r ∈ RwL) (e1 : bref σ' r = bref σ r) (e2 : ∀ (b : Nat) (l : List Int32), bref σ r = some b → σ[b]? = some (.inr (.inl (1, l))) → σ'[b]? = some (.inr (.inl (1, l)))) : CT σ' r = CT σ r := by
  obtain ⟨b, l, h1, h2⟩ := h.bref hr
  unfold CT
  rw [e1, h1]
  simp only [h2, e2 b l h1 h2]
theorem Fb.cell (h : K σ) (hi : σ[i]? = some c0) (hb : ∀ l, c0 ≠ .inr (.inl (1, l))) (hn : ∀ r ∈ RwL, bref (σ.set i c1) r = bref σ r) (hw : i ∈ w) : Fb w σ (σ.set i c1) := by
  refine ⟨fun k c a _ e => ?_, fun n => ⟨fun r hr q hq d => by rw [hn r hr, hn q hq]; exact n r hr q hq d, fun r hr _ => CT_same h hr (hn r hr) (fun b l _ e => ?_)⟩⟩
  · rw [List.getElem?_set_ne (fun q : i = k => a (q ▸ hw))]
    exact e
  · rw [List.getElem?_set_ne (fun q => by subst q; rw [hi] at e; exact hb l (Option.some.inj e))]
    exact e
theorem Fb.byt (h : K σ) {r b : Nat} {x y : Value} {li li' : List Int32} (hr : r ∈ RwL) (hrow : σ[r]? = some (.inl (5, [x, .ref b, y]))) (hi : σ[b]? = some (.inr (.inl (1, li)))) (hw : r ∈ w) : Fb w σ (σ.set b (.inr (.inl (1, li')))) := by
  have hn : ∀ q ∈ RwL, bref (σ.set b (.inr (.inl (1, li')))) q = bref σ q := fun q hq => by
    obtain ⟨m, n, b', bs, h1, -⟩ := h.row hq
    unfold bref
    rw [List.getElem?_set_ne (fun e => by subst e; rw [hi] at h1; cases h1)]
  refine ⟨fun k c a nb e => ?_, fun n => ⟨fun p hp q hq d => by rw [hn p hp, hn q hq]; exact n p hp q hq d, fun q hq hqw => CT_same h hq (hn q hq) (fun b' l e1 e => ?_)⟩⟩
  · rw [List.getElem?_set_ne (fun q => by subst q; rw [hi] at e; exact nb li (Option.some.inj e).symm)]
    exact e
  · rw [List.getElem?_set_ne (fun z => by
      subst z
      exact n q hq r hr (fun u => hqw (u ▸ hw)) (e1.trans (bref_of hrow).symm))]
    exact e
theorem Fb.new (h : K σ) {r : Nat} {x y : Value} {c1 : qC} (hr : r ∈ RwL) (hrow : ∃ z, σ[r]? = some (.inl z)) (hw : r ∈ w) : Fb w σ ((σ ++ [c1]).set r (.inl (5, [x, .ref σ.length, y]))) := by
  obtain ⟨z, hz⟩ := hrow
  have hlr : r < σ.length := (List.getElem?_eq_some_iff.mp hz).1
  have e1 : ∀ k : Nat, k ≠ r → k < σ.length → ((σ ++ [c1]).set r (.inl (5, [x, .ref σ.length, y])))[k]? = σ[k]? := fun k a b => by
    rw [List.getElem?_set_ne (fun q => a q.symm), List.getElem?_append_left b]
  have er : bref ((σ ++ [c1]).set r (.inl (5, [x, .ref σ.length, y]))) r = some σ.length := bref_of (List.getElem?_set_self (by rw [List.length_append]; omega))
  have eq : ∀ q ∈ RwL, q ≠ r → bref ((σ ++ [c1]).set r (.inl (5, [x, .ref σ.length, y]))) q = bref σ q := fun q hq d => by
    obtain ⟨m, n, b', bs, h1, -⟩ := h.row hq
    unfold bref
    rw [e1 q d (List.getElem?_eq_some_iff.mp h1).1]
  have lt : ∀ q ∈ RwL, bref σ q ≠ some σ.length := fun q hq d => by
    obtain ⟨b, l, h1, h2⟩ := h.bref hq
    rw [h1] at d
    cases d
    exact absurd (List.getElem?_eq_some_iff.mp h2).1 (by omega)
  refine ⟨fun k c a _ e => ?_, fun n => ⟨fun p hp q hq d => ?_, fun q hq hqw => ?_⟩⟩
  · rw [e1 k (fun q => a (q ▸ hw)) (List.getElem?_eq_some_iff.mp e).1]
    exact e
  · by_cases h1 : p = r
    · subst h1
      rw [er, eq q hq (fun u => d u.symm)]
      exact fun u => lt q hq u.symm
    · by_cases h2 : q = r
      · subst h2
        rw [er, eq p hp h1]
        exact lt p hp
      · rw [eq p hp h1, eq q hq h2]
        exact n p hp q hq d
  · have hqr : q ≠ r := fun u => hqw (u ▸ hw)
    refine CT_same h hq (eq q hq hqr) (fun b l _ e => ?_)
    rw [e1 b (fun u => by subst u; rw [hz] at e; cases e) (List.getElem?_eq_some_iff.mp e).1]
    exact e
theorem Fr.refl (h : K σ) : Fr w σ σ := ⟨h, fun _ _ _ => rfl, fun _ _ _ => rfl, Nat.le_refl _, Nat.le_refl _, Nat.le_refl _, fun _ _ => rfl, Fb.refl⟩
theorem Fr.trans (h : Fr w σ σ1) (g : Fr w σ1 σ') : Fr w σ σ' := by
  obtain ⟨-, h2, h3, h4, h5, h6, h7, h8⟩ := h
  obtain ⟨g1, g2, g3, g4, g5, g6, g7, g8⟩ := g
  exact ⟨g1, fun i a b => (g2 i a b).trans (h2 i a b), fun r a b => (g3 r a b).trans (h3 r a b), by omega, by omega, by omega, fun i a => (g7 i (by omega)).trans (h7 i a), h8.trans g8⟩
theorem Fr.sub {w' : List Nat} (h : Fr w σ σ') (hw : ∀ r ∈ w, r ∈ w') : Fr w' σ σ' := ⟨h.1, h.2.1, fun r a b => h.2.2.1 r a (fun q => b (hw r q)), h.2.2.2.1, h.2.2.2.2.1, h.2.2.2.2.2.1, h.2.2.2.2.2.2.1, h.2.2.2.2.2.2.2.sub hw⟩
theorem Fr.b (h : Fr w σ σ') : Fb w σ σ' := h.2.2.2.2.2.2.2
theorem sum_eq {f g : Nat → Nat} : ∀ {l : List Nat}, (∀ r ∈ l, f r = g r) → (l.map f).sum = (l.map g).sum
  | [], _ => rfl
  | a :: l, h => by
    rw [List.map_cons, List.map_cons, List.sum_cons, List.sum_cons, h a List.mem_cons_self, sum_eq (fun r hr => h r (List.mem_cons_of_mem _ hr))]
theorem sum_le {f g : Nat → Nat} : ∀ {l : List Nat}, (∀ r ∈ l, f r ≤ g r) → (l.map f).sum ≤ (l.map g).sum
  | [], _ => Nat.le_refl _
  | a :: l, h => by
    rw [List.map_cons, List.map_cons, List.sum_cons, List.sum_cons]
    have h1 := h a List.mem_cons_self
    have h2 := sum_le (l := l) (fun r hr => h r (List.mem_cons_of_mem _ hr))
    omega
theorem sum_lt {f g : Nat → Nat} {x : Nat} : ∀ {l : List Nat}, x ∈ l → f x + 1 ≤ g x → (∀ r ∈ l, f r ≤ g r) → (l.map f).sum + 1 ≤ (l.map g).sum
  | [], hx, _, _ => by cases hx
  | a :: l, hx, h1, h => by
    rw [List.map_cons, List.map_cons, List.sum_cons, List.sum_cons]
    rcases List.mem_cons.mp hx with rfl | hx
    · have h2 := sum_le (l := l) (fun r hr => h r (List.mem_cons_of_mem _ hr))
      omega
    · have h3 := h a List.mem_cons_self
      have h2 := sum_lt hx h1 (fun r hr => h r (List.mem_cons_of_mem _ hr))
      omega
theorem cnt_other (hi : σ[i]? = some c0) (e : kdc c1 = kdc c0) (hn : i ∉ RwL) : cnt (σ.set i c1) = cnt σ := by
  unfold cnt
  refine sum_eq (fun r hr => ?_)
  have h : i ≠ r := fun q => hn (by rw [q]; exact hr)
  unfold nfr
  rw [kds_set hi e, List.getElem?_set_ne h]
theorem cnt_len {r b : Nat} {m n n' : Int} (hi : σ[r]? = some (.inl (5, [J m, .ref b, J n]))) : cnt (σ.set r (.inl (5, [J m, .ref b, J n']))) = cnt σ := by
  unfold cnt
  refine sum_eq (fun q hq => ?_)
  unfold nfr
  rw [kds_set (c1 := .inl (5, [J m, .ref b, J n'])) hi rfl]
  by_cases h : r = q
  · subst h
    rw [List.getElem?_set_self (List.getElem?_eq_some_iff.mp hi).1, hi]
  · rw [List.getElem?_set_ne h]
theorem kdc_qcs (h : kdc c1 = kdc c0) : qcs c1 = qcs c0 := by
  have e : ∀ c : qC, qcs c = (match kdc c with
    | (4, _, _) => 0
    | (_, _, n) => n) := by
    intro c
    rcases c with ⟨x, fs⟩ | ⟨t, li⟩ | li | li | ⟨t, li⟩ | k <;> rfl
  rw [e, e, h]
theorem Fr.other (h : K σ) (hi : σ[i]? = some c0) (e : kdc c1 = kdc c0) (ok : okc (kds σ) i c1) (hn : i ∉ RwL) (hm : i < 137 ∨ 146 < i) (hb : ∀ l, c0 ≠ .inr (.inl (1, l))) (hw : i ∈ w) : Fr w σ (σ.set i c1) := by
  have hne : ∀ r ∈ 16 :: RwL, r ∉ w → i ≠ r := fun r hr hq q => hq (q ▸ hw)
  refine ⟨h.set hi e ok, fun k a b => List.getElem?_set_ne (by omega), fun r hr hw => List.getElem?_set_ne (hne r hr hw), ?_, ?_, ?_, fun k hk => by rw [kds_set hi e], Fb.cell h hi hb (fun r hr => ?_) hw⟩
  · rw [List.length_set, cnt_other hi e hn]; exact Nat.le_refl _
  · rw [cnt_other hi e hn, qsz_set hi (kdc_qcs e)]; exact Nat.le_refl _
  · rw [List.length_set]; exact Nat.le_refl _
  · unfold bref
    rw [List.getElem?_set_ne (fun q : i = r => hn (q ▸ hr))]
theorem Fr.len (h : K σ) {r b : Nat} {m n n' : Int} {bs : List Int32} (hr : r ∈ RwL) (hi : σ[r]? = some (.inl (5, [J m, .ref b, J n]))) (hb : σ[b]? = some (.inr (.inl (1, bs)))) (h1 : 0 ≤ n' ∧ n' ≤ bs.length ∧ (bs.length : Int) ≤ m ∧ m ≤ 8000 ∧ 16 ≤ b ∧ m = mst r ∧ (bs.length = 0 ∨ (bs.length : Int) = m)) (hw : r ∈ w) : Fr w σ (σ.set r (.inl (5, [J m, .ref b, J n']))) := by
  have hl := RwL_lt r hr
  refine ⟨h.set hi rfl ⟨m, n', b, bs.length, rfl, kds_at hb, h1.1, h1.2.1, h1.2.2.1, h1.2.2.2.1, h1.2.2.2.2.1, h1.2.2.2.2.2.1, h1.2.2.2.2.2.2⟩, fun k a b => List.getElem?_set_ne (by omega), fun q hq hn => List.getElem?_set_ne (fun e => hn (by rw [← e]; exact hw)), ?_, ?_, ?_, fun k hk => by rw [kds_set (c1 := .inl (5, [J m, .ref b, J n'])) hi rfl], Fb.cell h hi (fun _ z => by cases z) (fun q hq => ?_) hw⟩
  · rw [List.length_set, cnt_len hi]; exact Nat.le_refl _
  · rw [cnt_len hi, qsz_set (c1 := .inl (5, [J m, .ref b, J n'])) hi rfl]; exact Nat.le_refl _
  · rw [List.length_set]; exact Nat.le_refl _
  · by_cases e : r = q
    · subst e
      rw [bref_of hi]
      exact bref_of (List.getElem?_set_self (List.getElem?_eq_some_iff.mp hi).1)
    · unfold bref
      rw [List.getElem?_set_ne e]
theorem K.byt (h : K σ) {li : List Int32} (hi : σ[i]? = some (.inr (.inl (1, li)))) : i ∉ RwL ∧ (i < 137 ∨ 146 < i) := by
  have h1 := kds_at hi
  refine ⟨fun hr => ?_, ?_⟩
  · obtain ⟨c, hc, e, -⟩ := h.at (kdX_rw i hr)
    rw [hi] at hc
    cases hc
    cases e
  · by_cases hl : i < 137
    · exact Or.inl hl
    · refine Or.inr (Nat.lt_of_not_le fun hl2 => ?_)
      have h2 : kdX[i]? = some (1, 1, li.length) := by
        rw [← h.1, List.getElem?_take, if_pos (by omega)]
        exact h1
      have h3 : ∀ k < 10, ∀ x, kdX[137 + k]? = some x → (x.1, x.2.1) ≠ (1, 1) := by decide
      exact h3 (i - 137) (by omega) _ (by rw [show 137 + (i - 137) = i by omega]; exact h2) rfl
theorem Fr.byt (h : K σ) {r : Nat} {x y : Value} {li li' : List Int32} (hr : r ∈ RwL) (hrow : σ[r]? = some (.inl (5, [x, .ref i, y]))) (hi : σ[i]? = some (.inr (.inl (1, li)))) (e : li'.length = li.length) (ok : li'.all qisb = true) (hw : r ∈ w) : Fr w σ (σ.set i (.inr (.inl (1, li')))) := by
  have ek : kdc (.inr (.inl (1, li'))) = kdc (.inr (.inl (1, li))) := by simp only [kdc, e]
  have hn := (h.byt hi).1
  have hm := (h.byt hi).2
  refine ⟨h.set hi ek ok, fun k a b => List.getElem?_set_ne (by omega), fun q hq _ => List.getElem?_set_ne (fun z => ?_), ?_, ?_, ?_, fun k hk => by rw [kds_set hi ek], Fb.byt h hr hrow hi hw⟩
  · rcases List.mem_cons.mp hq with u | hq
    · obtain ⟨_, _, _, _, _, _, _, _, _, _, hN, _⟩ := h.na
      rw [← u, ← z, hi] at hN
      cases hN
    · exact hn (z ▸ hq)
  · rw [List.length_set, cnt_other hi ek hn]; exact Nat.le_refl _
  · rw [cnt_other hi ek hn, qsz_set hi (kdc_qcs ek)]; exact Nat.le_refl _
  · rw [List.length_set]; exact Nat.le_refl _
theorem all_rep (m : Nat) : (List.replicate m (0 : Int32)).all qisb = true := by
  rw [List.all_eq_true]
  intro x hx
  rw [(List.mem_replicate.mp hx).2]
  decide
def nbs (m : Int) : qC := .inr (.inl (1, List.replicate m.toNat 0))
theorem Fr.new (h : K σ) {r b : Nat} {m n : Int} {bs : List Int32} (hr : r ∈ RwL) (hi : σ[r]? = some (.inl (5, [J m, .ref b, J n]))) (hb : σ[b]? = some (.inr (.inl (1, bs)))) (h1 : (bs.length : Int) < m ∧ 0 ≤ n ∧ n ≤ m ∧ m ≤ 8000 ∧ m = mst r) (hw : r ∈ w) : Fr w σ ((σ ++ [nbs m]).set r (.inl (5, [J m, .ref σ.length, J n]))) := by
  have hl := RwL_lt r hr
  have hL := h.len
  have hp : K (σ ++ [nbs m]) := h.push (all_rep _)
  have hi2 := qs_push (y := nbs m) hi
  have hk2 : kds ((σ ++ [nbs m]).set r (.inl (5, [J m, .ref σ.length, J n]))) = kds σ ++ [(1, 1, m.toNat)] := by
    rw [kds_set (c1 := .inl (5, [J m, .ref σ.length, J n])) hi2 rfl, kds_push]
    simp only [kdc, nbs, List.length_replicate]
  have hkl : (kds σ).length = σ.length := by unfold kds; rw [List.length_map]
  have hlen : ((σ ++ [nbs m]).set r (.inl (5, [J m, .ref σ.length, J n]))).length = σ.length + 1 := by rw [List.length_set, List.length_append]; rfl
  have hq : ∀ q : Nat, q ≠ r → q < σ.length → ((σ ++ [nbs m]).set r (.inl (5, [J m, .ref σ.length, J n])))[q]? = σ[q]? := fun q a b => by
    rw [List.getElem?_set_ne (fun e => a e.symm), List.getElem?_append_left b]
  have hc : cnt ((σ ++ [nbs m]).set r (.inl (5, [J m, .ref σ.length, J n]))) + 1 ≤ cnt σ := by
    unfold cnt
    refine sum_lt hr ?_ (fun q hq9 => ?_)
    · have e1 : nfr σ r = 1 := by
        unfold nfr
        rw [hi]
        simp only [kds_at hb, kdc]
        rw [i32_to ⟨by omega, by omega⟩, if_pos h1.1]
      rw [e1]
      have e2 : nfr ((σ ++ [nbs m]).set r (.inl (5, [J m, .ref σ.length, J n]))) r = 0 := by
        unfold nfr
        rw [List.getElem?_set_self (by rw [List.length_append]; omega), hk2]
        simp only []
        rw [List.getElem?_append_right (by omega), hkl, Nat.sub_self]
        simp only [List.getElem?_cons_zero]
        rw [i32_to ⟨by omega, by omega⟩, if_neg (by omega)]
      rw [e2]
      exact Nat.le_refl _
    · by_cases hqr : q = r
      · subst hqr
        unfold nfr
        rw [List.getElem?_set_self (by rw [List.length_append]; omega), hk2]
        simp only []
        rw [List.getElem?_append_right (by omega), hkl, Nat.sub_self]
        simp only [List.getElem?_cons_zero]
        rw [i32_to ⟨by omega, by omega⟩, if_neg (by omega)]
        exact Nat.zero_le _
      · obtain ⟨m', n', b', bs', a1, a2, -⟩ := h.row hq9
        unfold nfr
        rw [hq q hqr (by have := RwL_lt q hq9; omega), a1, hk2]
        simp only []
        rw [List.getElem?_append_left (by rw [hkl]; exact (List.getElem?_eq_some_iff.mp a2).1)]
        exact Nat.le_refl _
  refine ⟨hp.set hi2 rfl ⟨m, n, σ.length, m.toNat, rfl, ?_, h1.2.1, by omega, by omega, h1.2.2.2.1, by omega, h1.2.2.2.2, Or.inr (by omega)⟩, fun k a b => hq k (by omega) (by omega), fun q hq9 hn => hq q (fun e => hn (by rw [e]; exact hw)) (by rcases List.mem_cons.mp hq9 with e | hq9; omega; have := RwL_lt q hq9; omega), ?_, ?_, ?_, fun k hk => ?_, Fb.new h hr ⟨_, hi⟩ hw⟩
  · rw [kds_push, List.getElem?_append_right (by omega), hkl, Nat.sub_self]
    simp only [kdc, nbs, List.length_replicate]
    rfl
  · rw [hlen]; omega
  · rw [qsz_set (c1 := .inl (5, [J m, .ref σ.length, J n])) hi2 rfl, qsz_push]
    have : qcs (nbs m) = m.toNat := List.length_replicate
    rw [this]
    omega
  · rw [hlen]; omega
  · rw [hk2, List.getElem?_append_left (by omega)]
end
