/-! What index keeps and makes. -/
/-- what index may change -/
def WI : List Nat := [16, 17, 18, 20, 21, 22, 24, 25, 26, 28, 29, 30, 48, 49, 50, 59, 61, 77, 78, 79, 80, 81, 82, 83, 84, 85, 86, 87, 88, 89, 90, 91, 92, 93, 94, 95, 96, 97, 98, 99, 100, 101, 102, 103, 104, 105, 106, 107, 108, 109, 110, 111, 112, 113, 114, 115, 116, 117, 118, 119, 120, 121, 122, 123, 124, 125, 126, 127, 128, 129, 130, 131, 132, 133, 134, 135, 136]
def WJ : List Nat := [16, 17, 18, 20, 21, 22, 24, 25, 26, 28, 29, 30, 48, 49, 50, 59, 61]
/-- archives that do not stand on the stage stay as they are -/
def KPS (ls : List (Option Nat)) (σ σ' : qH) : Prop := ∀ a ∈ ArM, some a ∉ ls → ∀ (g : Int → Int) (f : Int), SV σ a g f → SV σ' a g f
theorem KPS.rf {ls : List (Option Nat)} {σ : qH} : KPS ls σ σ := fun _ _ _ _ _ h => h
theorem KPS.tr {ls : List (Option Nat)} {σ σ' σ'' : qH} (h1 : KPS ls σ σ') (h2 : KPS ls σ' σ'') : KPS ls σ σ'' := fun a ha hn g f h => h2 a ha hn g f (h1 a ha hn g f h)
theorem KPS_fr {ls : List (Option Nat)} {σ σ' : qH} {w : List Nat} (hF : Fr w σ σ') (hK : K σ) (hN : NA σ) (hw : ∀ a ∈ ArM, some a ∉ ls → a ∉ w ∧ a + 1 ∉ w ∧ a + 3 ∉ w ∧ a + 4 ∉ w) : KPS ls σ σ' := fun a ha hn g f h => h.fr hK hN (ArM_L ha) hF (hw a ha hn).1 (hw a ha hn).2.1 (hw a ha hn).2.2.1 (hw a ha hn).2.2.2
theorem KPS_J {ls : List (Option Nat)} {σ σ' : qH} (hF : Fr WJ σ σ') (hK : K σ) (hN : NA σ) : KPS ls σ σ' := KPS_fr hF hK hN (fun a ha _ => (by decide : ∀ a ∈ ArM, a ∉ WJ ∧ a + 1 ∉ WJ ∧ a + 3 ∉ WJ ∧ a + 4 ∉ WJ) a ha)
/-- what mounting on the stage may change -/
def WB (b : Nat) : List Nat := [17, 18, 20, 21, 22, 24, 25, 26, 28, 29, 30, b, b + 1, b + 3, b + 4]
set_option maxRecDepth 20000 in
theorem ArM_ap : ∀ a ∈ ArM, ∀ b ∈ ArM, a ≠ b → a ∉ WB b ∧ a + 1 ∉ WB b ∧ a + 3 ∉ WB b ∧ a + 4 ∉ WB b := by decide
theorem gd_mem {l : List (Option Nat)} {i b : Nat} (h : l.getD i none = some b) : some b ∈ l := by
  rw [List.getD_eq_getElem?_getD] at h
  cases e : l[i]? with
  | none => rw [e] at h; cases h
  | some v =>
    rw [e] at h
    have h2 : v = some b := h
    exact h2 ▸ List.mem_of_getElem? e
theorem KPS_B {ls : List (Option Nat)} {σ σ' : qH} {i b : Nat} (hb : b ∈ ArM) (hl : ls.getD i none = some b) (hF : Fr (WB b) σ σ') (hK : K σ) (hN : NA σ) : KPS ls σ σ' := KPS_fr hF hK hN (fun a ha hn => ArM_ap a ha b hb (fun z => hn (by rw [z]; exact gd_mem hl)))
theorem STM.fr {σ σ' : qH} {b : Nat} {g : Int → Int} {f y : Int} {w : List Nat} (h : STM σ b g f y) (hK : K σ) (hN : NA σ) (hb : b ∈ ArM) (hF : Fr w σ σ') (hw : b ∉ w ∧ b + 1 ∉ w ∧ b + 3 ∉ w ∧ b + 4 ∉ w) : STM σ' b g f y := by
  obtain ⟨o, h1, h2⟩ := h
  exact ⟨o, h1, h2.fr hK hN (ArM_L hb) hF hw.1 hw.2.1 hw.2.2.1 hw.2.2.2⟩
/-- no archive stands twice -/
def NDP (ls : List (Option Nat)) : Prop := ∀ i j : Nat, i < 6 → j < 6 → i ≠ j → ls.getD i none ≠ ls.getD j none
/-- the first k lines are mounted -/
def STD (σ : qH) (ls : List (Option Nat)) (g : Int → Int) (f k : Int) : Prop := ∀ i : Int, 0 ≤ i → i < k → ∃ (b : Nat) (y : Int), b ∈ ArM ∧ ls.getD i.toNat none = some b ∧ IXE g f i y ∧ STM σ b g f y
theorem STD_0 {σ : qH} {ls : List (Option Nat)} {g : Int → Int} {f : Int} : STD σ ls g f 0 := fun i a b => absurd b (by omega)
theorem STD_J {σ σ' : qH} {ls : List (Option Nat)} {g : Int → Int} {f k : Int} (h : STD σ ls g f k) (hF : Fr WJ σ σ') (hK : K σ) (hN : NA σ) : STD σ' ls g f k := fun i a c => by
  obtain ⟨b, y, h1, h2, h3, h4⟩ := h i a c
  exact ⟨b, y, h1, h2, h3, h4.fr hK hN h1 hF ((by decide : ∀ a ∈ ArM, a ∉ WJ ∧ a + 1 ∉ WJ ∧ a + 3 ∉ WJ ∧ a + 4 ∉ WJ) b h1)⟩
theorem STD_s {σ σ' : qH} {ls : List (Option Nat)} {g : Int → Int} {f k y : Int} {b : Nat} (h : STD σ ls g f k) (h0 : 0 ≤ k) (h6 : k < 6) (hD : NDP ls) (hl : ls.getD k.toNat none = some b) (hb : b ∈ ArM) (hF : Fr (WB b) σ σ') (hK : K σ) (hN : NA σ) (he : IXE g f k y) (hs : STM σ' b g f y) : STD σ' ls g f (k + 1) := fun i a c => by
  by_cases q : i = k
  · rw [q]
    exact ⟨b, y, hb, hl, he, hs⟩
  · obtain ⟨b', y', h1, h2, h3, h4⟩ := h i a (by omega)
    have ne : b' ≠ b := fun z => hD i.toNat k.toNat (by omega) (by omega) (by omega) (by rw [h2, hl, z])
    exact ⟨b', y', h1, h2, h3, h4.fr hK hN h1 hF (ArM_ap b' h1 b hb ne)⟩
/-- the row r has the index, and its lines are told -/
def IXQ (σ : qH) (r : Nat) (g : Int → Int) (f : Int) : Prop := ∃ (w : Int) (u : Int → Int), IXU g f w u ∧ rl σ r = W4 g (Hj g f w + 24) ∧ AGR σ r u ∧ LOK u (rl σ r) (il σ 49) (il σ 50) (afld σ 48 2)
theorem IXQ_B {σ σ' : qH} {r b : Nat} {g : Int → Int} {f : Int} (h : IXQ σ r g f) (hr : r ∈ [59, 61]) (hb : b ∈ ArM) (hF : Fr (WB b) σ σ') (hK : K σ) (hN : NA σ) : IXQ σ' r g f := by
  obtain ⟨w, u, h1, h2, h3, h4⟩ := h
  have hr' : r ∈ RwL := (by decide : ∀ r ∈ [59, 61], r ∈ RwL) r hr
  have nr : r ∉ WB b := (by decide : ∀ r ∈ [59, 61], ∀ b ∈ ArM, r ∉ WB b) r hr b hb
  have e1 := rl_eq (hF.2.2.1 r (List.mem_cons_of_mem _ hr') nr)
  have e2 : il σ' 49 = il σ 49 := il_fr hK kdX_49 hF ((by decide : ∀ b ∈ ArM, 49 ∉ WB b) b hb)
  have e3 : il σ' 50 = il σ 50 := il_fr hK kdX_50 hF ((by decide : ∀ b ∈ ArM, 50 ∉ WB b) b hb)
  have e4 : afld σ' 48 2 = afld σ 48 2 := by
    obtain ⟨n, hc, -⟩ := hK.idx
    have hc' := hF.b.1 48 _ ((by decide : ∀ b ∈ ArM, 48 ∉ WB b) b hb) (fun l z => by cases z) hc
    unfold afld
    rw [hc', hc]
  exact ⟨w, u, h1, e1.trans h2, h3.fr hN hF hr' nr, by rw [e1, e2, e3, e4]; exact h4⟩
/-- no index that can be mounted -/
def NIX (g : Int → Int) (f : Int) : Prop := ∀ n : Int, ¬ IDX g f n
/-- nothing has that name -/
def NNM (g : Int → Int) (f : Int) (u : Int → Int) (s n : Int) : Prop := ∀ y : Int, ¬ NMD g f u s n y
theorem NIX_a {g : Int → Int} {f : Int} (h : NNM g f ixn 0 9) : NIX g f := fun n q => by
  obtain ⟨-, -, ⟨w, u, ⟨h1, -⟩, -⟩, -⟩ := q
  exact h w h1
theorem NIX_b {g : Int → Int} {f y : Int} (q0 : FOn g f = 1) (h : NMD g f ixn 0 9 y) (hn : ∀ u : Int → Int, ¬ RD g (Hj g f y) (Dj g f y) u) : NIX g f := fun n q => by
  obtain ⟨-, -, ⟨w, u, ⟨h1, h2⟩, -⟩, -⟩ := q
  have e := NMD_one q0 h h1
  subst e
  exact hn u h2
theorem NIX_c {g : Int → Int} {f y : Int} {u : Int → Int} (q0 : FOn g f = 1) (h : IXU g f y u) (hn : NLA u (W4 g (Hj g f y + 24))) : NIX g f := fun n q => by
  obtain ⟨a1, a2, ⟨w, u', ⟨h1, h2⟩, h3⟩, -⟩ := q
  have e := NMD_one q0 h.1 h1
  subst e
  have e2 := RD_one h.2 h2
  subst e2
  exact hn n.toNat (by omega) h3
/-- a line before the end: what the index asks of it -/
theorem IDX_at {g : Int → Int} {f n k w : Int} {u : Int → Int} {m : Nat} (q0 : FOn g f = 1) (h : IXU g f w u) (hm : LNA u (W4 g (Hj g f w + 24)) m (W4 g (Hj g f w + 24))) (hk : 0 ≤ k) (hkm : k < m) (q : IDX g f n) : ∃ (y : Int) (o : Int → Int), IXE g f k y ∧ MNT g f y o := by
  obtain ⟨a1, a2, ⟨w', u', ⟨h1, h2⟩, h3⟩, h4⟩ := q
  have e := NMD_one q0 h.1 h1
  subst e
  have e2 := RD_one h.2 h2
  subst e2
  have e3 := LNA_end hm h3
  exact h4 k hk (by omega)
theorem NIX_d {g : Int → Int} {f k w a n : Int} {u : Int → Int} {m : Nat} (q0 : FOn g f = 1) (h : IXU g f w u) (hm : LNA u (W4 g (Hj g f w + 24)) m (W4 g (Hj g f w + 24))) (hk : 0 ≤ k) (hkm : k < m) (ha : LNA u (W4 g (Hj g f w + 24)) k.toNat a) (he : LNE u (W4 g (Hj g f w + 24)) a n) (hn : NNM g f u (a + 3) n) : NIX g f := fun n' q => by
  obtain ⟨y, o, ⟨w', u', a', n'', ⟨h1, h2⟩, h3, h4, h5⟩, -⟩ := IDX_at q0 h hm hk hkm q
  have e := NMD_one q0 h.1 h1
  subst e
  have e2 := RD_one h.2 h2
  subst e2
  have e3 := LNA_one ha h3
  subst e3
  have e4 := LNE_one he h4
  subst e4
  exact hn y h5
theorem NIX_e {g : Int → Int} {f k w y : Int} {u : Int → Int} {m : Nat} (q0 : FOn g f = 1) (h : IXU g f w u) (hm : LNA u (W4 g (Hj g f w + 24)) m (W4 g (Hj g f w + 24))) (hk : 0 ≤ k) (hkm : k < m) (he : IXE g f k y) (hn : NMT g f y) : NIX g f := fun n' q => by
  obtain ⟨y', o, h1, h2⟩ := IDX_at q0 h hm hk hkm q
  have e := IXE_one q0 he h1
  subst e
  exact hn o h2
theorem IDX_mk {σ : qH} {ls : List (Option Nat)} {g : Int → Int} {f n w : Int} {u : Int → Int} (h : IXU g f w u) (h0 : 0 ≤ n) (h6 : n ≤ 6) (hm : LNA u (W4 g (Hj g f w + 24)) n.toNat (W4 g (Hj g f w + 24))) (hs : STD σ ls g f n) : IDX g f n := by
  refine ⟨h0, h6, ⟨w, u, h, hm⟩, fun i a b => ?_⟩
  obtain ⟨b, y, -, -, h1, o, h2, -⟩ := hs i a b
  exact ⟨y, o, h1, h2⟩
theorem STG_of {σ : qH} {sg b : Nat} {x : Int} {l : List (Option Nat)} (h : nfi 13 σ = some (.ref sg)) (hc : σ[sg]? = some (.inr (.inr (.inr (.inl l))))) (hl : l.getD x.toNat none = some b) : STG σ x b := fun s q => by
  rw [h] at q
  cases q
  rw [rls_of hc]
  exact hl
/-- the headers of an archive lie in its row -/
theorem SV_hc {σ : qH} {a : Nat} {g : Int → Int} {f : Int} (h255 : ∀ k, 0 ≤ g k ∧ g k ≤ 255) (h : SV σ a g f) : ∀ j : Int, 0 ≤ j → j < afld σ a 3 → 0 ≤ gl (il σ (a + 3)) j ∧ gl (il σ (a + 3)) j + 46 + W2 g (gl (il σ (a + 3)) j + 28) ≤ rl σ (a + 1) := fun j a1 a2 => by
  obtain ⟨h1, h2, h3, h4, h5⟩ := h
  rw [h4] at a2
  rw [(h5 j a1 a2).1, h1]
  have q := (FO_ent h255 h3).2 j a1 a2
  exact ⟨q.1, q.2.1⟩
theorem SV_lk {σ : qH} {a : Nat} {g u : Int → Int} {f s n : Int} (h255 : ∀ k, 0 ≤ g k ∧ g k ≤ 255) (h : SV σ a g f) : (LK g u (gl (il σ (a + 3))) s n (afld σ a 3).toNat ≠ -1 → NMD g f u s n (LK g u (gl (il σ (a + 3))) s n (afld σ a 3).toNat)) ∧ (LK g u (gl (il σ (a + 3))) s n (afld σ a 3).toNat = -1 → NNM g f u s n) := by
  obtain ⟨h1, h2, h3, h4, h5⟩ := h
  have q := (FO_ent h255 h3).1
  exact LK_nmd h4 (by rw [h4]; exact q.1) (fun j a b => (h5 j a b).1)
