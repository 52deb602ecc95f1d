/-! class Codes: sortSigns, areComplete, learn. -/
def posOk (lp : List Int32) (k : Nat) (B : Nat) : Prop := lp.length = 16 ∧ ∀ t, 1 ≤ t → t ≤ k → 0 ≤ (lp.getD t 0).toInt ∧ (lp.getD t 0).toInt ≤ t * B
def nnOk (lp : List Int32) : Prop := lp.length = 16 ∧ ∀ t, 1 ≤ t → t < 16 → 0 ≤ (lp.getD t 0).toInt
section
variable {ξ : Nat → Option (Nat × List Int32)}
theorem c_complete_loop (d i c p s : Nat) (lc : List Int32) (σ : qH) (L : Int → Int) (nn : Nat) (hv : ∀ t : Nat, t < 16 → (lc.getD t 0).toInt = MY L t nn) (hnn : nn < 100000000) (hl : lc.length = 16) (hnc : Nat.blt c qnE = false) (hi : σ[i]? = some (.inl (2, [.ref c, .ref p, .ref s]))) (hc : σ[c]? = some (.inr (.inl (0, lc)))) : ∀ (f m : Nat) (free : Int32), m + f = 16 → 1 ≤ m → free.toInt = FRE L nn (m - 1) → 0 ≤ FRE L nn (m - 1) → ∃ b : Int32, (b = 0 ∨ b = 1) ∧ (b = 1 ↔ (FRE L nn 15 = 0 ∧ ∀ l : Nat, m ≤ l → l ≤ 15 → 0 ≤ FRE L nn l)) ∧ G ξ d j_C_areComplete 4 [(0, .ref i), (1, .int free), (2, .int (Int32.ofNat m))] [] σ (some (.int b), σ) := by
  intro f
  induction f with
  | zero =>
    intro m free hm h1 hf hf0
    have e : m = 16 := by omega
    subst e
    have key : ∀ o, G ξ d j_C_areComplete 33 [(0, .ref i), (1, .int free), (2, .int (Int32.ofNat 16))] [] σ o → G ξ d j_C_areComplete 4 [(0, .ref i), (1, .int free), (2, .int (Int32.ofNat 16))] [] σ o := fun o g => G.go 3 (fun n => rfl) g
    by_cases h0 : free = 0
    · refine ⟨1, Or.inr rfl, ⟨fun _ => ⟨by rw [h0] at hf; exact hf.symm, fun l a b => by omega⟩, fun _ => rfl⟩, key _ ?_⟩
      refine G.go 2 (fun n => (rfl : _ = exe ξ n d j_C_areComplete (if free = 0 then 37 else 41) [(0, .ref i), (1, .int free), (2, .int (Int32.ofNat 16))] [] σ)) ?_
      rw [if_pos h0]
      exact G.end 3 (fun n => rfl)
    · refine ⟨0, Or.inl rfl, ⟨fun z => absurd z (by decide), fun z => absurd (Int32.toInt_inj.mp (show free.toInt = (0 : Int32).toInt from hf.trans z.1)) h0⟩, key _ ?_⟩
      refine G.go 2 (fun n => (rfl : _ = exe ξ n d j_C_areComplete (if free = 0 then 37 else 41) [(0, .ref i), (1, .int free), (2, .int (Int32.ofNat 16))] [] σ)) ?_
      rw [if_neg h0]
      exact G.end 2 (fun n => rfl)
  | succ f ih =>
    intro m free hm h1 hf hf0
    have key : ∀ o, G ξ d j_C_areComplete (if 0 ≤ 2 * free - lc.getD m 0 then 27 else 25) [(0, .ref i), (1, .int (2 * free - lc.getD m 0)), (2, .int (Int32.ofNat m))] [] σ o → G ξ d j_C_areComplete 4 [(0, .ref i), (1, .int free), (2, .int (Int32.ofNat m))] [] σ o := by
      intro o g
      refine G.go 3 (fun n => (rfl : _ = exe ξ n d j_C_areComplete (if (15 : Int32) < Int32.ofNat m then 33 else 10) [(0, .ref i), (1, .int free), (2, .int (Int32.ofNat m))] [] σ)) ?_
      rw [if_neg (fun z => by have := (n32lt (a := 15) (by omega) (by omega)).mp z; omega)]
      refine G.go 4 (fun n => (rfl : _ = exe ξ n d j_C_areComplete 14 [(0, .ref i), (1, .int free), (2, .int (Int32.ofNat m))] [.ref i, .int (2 * free)] σ)) ?_
      refine G.get rfl rfl rfl hi rfl ?_
      refine G.go 1 (fun n => (rfl : _ = exe ξ n d j_C_areComplete 18 [(0, .ref i), (1, .int free), (2, .int (Int32.ofNat m))] [.int (Int32.ofNat m), .ref c, .int (2 * free)] σ)) ?_
      refine G.iald rfl hnc hc (qix_n (by omega) (by omega)) ?_
      rw [n32c (by omega)]
      exact G.go 4 (fun n => rfl) g
    have e1 : FRE L nn m = 2 * FRE L nn (m - 1) - MY L m nn := by
      obtain ⟨q, rfl⟩ : ∃ q, m = q + 1 := ⟨m - 1, by omega⟩
      have e9 : ((q + 1 : Nat) : Int) = (q : Int) + 1 := by omega
      rw [e9]
      rfl
    have e2 := MY_r L m nn
    have e3 := FRE_le L nn (m - 1)
    have e4 := P2_le15 (k := ((m - 1 : Nat) : Int)) (by omega)
    have e5 := hv m (by omega)
    have e6 : (2 * free).toInt = 2 * free.toInt := Jvm.Kit.i32_mul (by show -2 ^ 31 ≤ (2 : Int) * _; omega) (by show (2 : Int) * _ < _; omega)
    have hF : (2 * free - lc.getD m 0).toInt = FRE L nn m := by
      rw [Jvm.Kit.i32_sub (by rw [e6]; omega) (by rw [e6]; omega), e6]
      omega
    have hb : (0 : Int32) ≤ 2 * free - lc.getD m 0 ↔ 0 ≤ FRE L nn m := by
      rw [Int32.le_iff_toInt_le, hF]
      exact Iff.rfl
    by_cases h0 : 0 ≤ 2 * free - lc.getD m 0
    · obtain ⟨b, hb1, hb2, g⟩ := ih (m + 1) (2 * free - lc.getD m 0) (by omega) (by omega) hF (hb.mp h0)
      refine ⟨b, hb1, ⟨fun z => ⟨(hb2.mp z).1, fun l a c => if e : l = m then (by rw [e]; exact hb.mp h0) else (hb2.mp z).2 l (by omega) c⟩, fun z => hb2.mpr ⟨z.1, fun l a c => z.2 l (by omega) c⟩⟩, key _ ?_⟩
      rw [if_pos h0]
      refine G.go 2 (fun n => (rfl : _ = exe ξ n d j_C_areComplete 4 [(0, .ref i), (1, .int (2 * free - lc.getD m 0)), (2, .int (Int32.ofNat m + Int32.ofInt 1))] [] σ)) ?_
      rw [n32i]
      exact g
    · refine ⟨0, Or.inl rfl, ⟨fun z => absurd z (by decide), fun z => absurd (hb.mpr (z.2 m (Nat.le_refl _) (by omega))) h0⟩, key _ ?_⟩
      rw [if_neg h0]
      exact G.end 2 (fun n => rfl)
theorem c_complete (d i c p s : Nat) (lc : List Int32) (σ : qH) (L : Int → Int) (nn : Nat) (hv : ∀ t : Nat, t < 16 → (lc.getD t 0).toInt = MY L t nn) (hnn : nn < 100000000) (hl : lc.length = 16) (hnc : Nat.blt c qnE = false) (hi : σ[i]? = some (.inl (2, [.ref c, .ref p, .ref s]))) (hc : σ[c]? = some (.inr (.inl (0, lc)))) : ∃ b : Int32, (b = 0 ∨ b = 1) ∧ (b = 1 ↔ SMQ L nn 15 = 32768) ∧ G ξ d j_C_areComplete 0 (lv_args 0 [.ref i]) [] σ (some (.int b), σ) := by
  obtain ⟨b, hb, hb2, g⟩ := c_complete_loop (ξ := ξ) d i c p s lc σ L nn hv hnn hl hnc hi hc 15 1 1 rfl (by omega) rfl (by decide : (0 : Int) ≤ 1)
  exact ⟨b, hb, ⟨fun z => (FRE_SMQ L nn).mp ⟨(hb2.mp z).1, fun l c => if e : l = 0 then (by rw [e]; exact (by decide : (0 : Int) ≤ 1)) else (hb2.mp z).2 l (by omega) c⟩, fun z => hb2.mpr ⟨((FRE_SMQ L nn).mpr z).1, fun l _ c => ((FRE_SMQ L nn).mpr z).2 l c⟩⟩, G.go 4 (fun n => rfl) g⟩
theorem c_sort1 (d i a c p s B : Nat) (fr nv : Int32) (lc : List Int32) (L : Int → Int) (hv : ∀ t : Nat, t < 16 → (lc.getD t 0).toInt = MY L t B) (hB : B < 100000000) (hk : cntOk lc B) (hnc : Nat.blt c qnE = false) (hnp : Nat.blt p qnE = false) (hip : i ≠ p) (hcp : c ≠ p) : ∀ (f l : Nat) (lp : List Int32) (σ : qH), l + f = 15 → 1 ≤ l → posOk lp l B → (∀ t : Nat, 1 ≤ t → t ≤ l → (lp.getD t 0).toInt = PL L B t) → σ[i]? = some (.inl (2, [.ref c, .ref p, .ref s])) → σ[c]? = some (.inr (.inl (0, lc))) → σ[p]? = some (.inr (.inl (0, lp))) →
    ∃ lp' : List Int32, posOk lp' 15 B ∧ (∀ t : Nat, 1 ≤ t → t ≤ 15 → (lp'.getD t 0).toInt = PL L B t) ∧ ∀ o, G ξ d j_C_sortSigns 47 [(0, .ref i), (1, .ref a), (2, .int fr), (3, .int nv), (4, .int (Int32.ofNat 15))] [] (σ.set p (.inr (.inl (0, lp')))) o → G ξ d j_C_sortSigns 10 [(0, .ref i), (1, .ref a), (2, .int fr), (3, .int nv), (4, .int (Int32.ofNat l))] [] σ o := by
  intro f
  induction f with
  | zero =>
    intro l lp σ hm h1 hp hpv hi hc hpp
    have e : l = 15 := by omega
    subst e
    refine ⟨lp, hp, hpv, fun o g => ?_⟩
    rw [qs_id hpp] at g
    exact G.go 3 (fun n => rfl) g
  | succ f ih =>
    intro l lp σ hm h1 hp hpv hi hc hpp
    obtain ⟨a1, a2⟩ := hp.2 l h1 (Nat.le_refl _)
    obtain ⟨b1, b2⟩ := hk.2 l (by omega)
    have hmul : (l : Int) * B ≤ 15 * B := by
      have : l * B ≤ 15 * B := Nat.mul_le_mul_right B (by omega)
      exact_mod_cast this
    have hsum : (lp.getD l 0 + lc.getD l 0).toInt = (lp.getD l 0).toInt + (lc.getD l 0).toInt := Jvm.Kit.i32_add (by omega) (by omega)
    have hp2 : posOk (lp.set (l + 1) (lp.getD l 0 + lc.getD l 0)) (l + 1) B := by
      refine ⟨by rw [List.length_set]; exact hp.1, fun t h9 h8 => ?_⟩
      rw [getD_set _ _ _ _ (by rw [hp.1]; omega)]
      split
      · rename_i e
        subst e
        rw [hsum]
        have : ((l + 1 : Nat) : Int) * B = l * B + B := by rw [Int.natCast_add, Int.add_mul]; simp
        omega
      · exact hp.2 t h9 (by omega)
    have hp3 : ∀ t : Nat, 1 ≤ t → t ≤ l + 1 → ((lp.set (l + 1) (lp.getD l 0 + lc.getD l 0)).getD t 0).toInt = PL L B t := fun t h9 h8 => by
      rw [getD_set _ _ _ _ (by rw [hp.1]; omega)]
      split
      · rename_i e
        subst e
        have e7 : PL L B (l + 1) = PL L B l + (if l = 0 then 0 else MY L l B) := rfl
        rw [hsum, hpv l h1 (Nat.le_refl _), hv l (by omega), e7, if_neg (by omega)]
      · exact hpv t h9 (by omega)
    obtain ⟨lp', g1, g1v, g2⟩ := ih (l + 1) _ (σ.set p (.inr (.inl (0, lp.set (l + 1) (lp.getD l 0 + lc.getD l 0))))) (by omega) (by omega) hp2 hp3 (qs_ne hip.symm hi) (qs_ne hcp.symm hc) (qs_at hpp)
    refine ⟨lp', g1, g1v, fun o g => ?_⟩
    have g3 := g2 o (by rw [List.set_set]; exact g)
    refine G.go 3 (fun n => (rfl : _ = exe ξ n d j_C_sortSigns (if (15 : Int32) ≤ Int32.ofNat l then 47 else 17) [(0, .ref i), (1, .ref a), (2, .int fr), (3, .int nv), (4, .int (Int32.ofNat l))] [] σ)) ?_
    rw [if_neg (fun z => by have := (n32le (a := 15) (by omega) (by omega)).mp z; omega)]
    refine G.go 1 (fun n => (rfl : _ = exe ξ n d j_C_sortSigns 18 [(0, .ref i), (1, .ref a), (2, .int fr), (3, .int nv), (4, .int (Int32.ofNat l))] [.ref i] σ)) ?_
    refine G.get rfl rfl rfl hi rfl ?_
    refine G.go 4 (fun n => (rfl : _ = exe ξ n d j_C_sortSigns 26 [(0, .ref i), (1, .ref a), (2, .int fr), (3, .int nv), (4, .int (Int32.ofNat l))] [.ref i, .int (Int32.ofNat l + 1), .ref p] σ)) ?_
    refine G.get rfl rfl rfl hi rfl ?_
    refine G.go 1 (fun n => (rfl : _ = exe ξ n d j_C_sortSigns 31 [(0, .ref i), (1, .ref a), (2, .int fr), (3, .int nv), (4, .int (Int32.ofNat l))] [.int (Int32.ofNat l), .ref p, .int (Int32.ofNat l + 1), .ref p] σ)) ?_
    refine G.iald rfl hnp hpp (qix_n (by rw [hp.1]; omega) (by rw [hp.1]; omega)) ?_
    rw [n32c (by omega)]
    refine G.go 1 (fun n => (rfl : _ = exe ξ n d j_C_sortSigns 33 [(0, .ref i), (1, .ref a), (2, .int fr), (3, .int nv), (4, .int (Int32.ofNat l))] [.ref i, .int (lp.getD l 0), .int (Int32.ofNat l + 1), .ref p] σ)) ?_
    refine G.get rfl rfl rfl hi rfl ?_
    refine G.go 1 (fun n => (rfl : _ = exe ξ n d j_C_sortSigns 38 [(0, .ref i), (1, .ref a), (2, .int fr), (3, .int nv), (4, .int (Int32.ofNat l))] [.int (Int32.ofNat l), .ref c, .int (lp.getD l 0), .int (Int32.ofNat l + 1), .ref p] σ)) ?_
    refine G.iald rfl hnc hc (qix_n (by rw [hk.1]; omega) (by rw [hk.1]; omega)) ?_
    rw [n32c (by omega)]
    refine G.go 1 (fun n => (rfl : _ = exe ξ n d j_C_sortSigns 40 [(0, .ref i), (1, .ref a), (2, .int fr), (3, .int nv), (4, .int (Int32.ofNat l))] [.int (lp.getD l 0 + lc.getD l 0), .int (Int32.ofNat l + 1), .ref p] σ)) ?_
    rw [show Int32.ofNat l + 1 = Int32.ofNat (l + 1) from n32i l]
    refine G.iast rfl hpp (qix_n (by rw [hp.1]; omega) (by rw [hp.1]; omega)) ?_
    rw [n32c (by omega)]
    refine G.go 2 (fun n => (rfl : _ = exe ξ n d j_C_sortSigns 10 [(0, .ref i), (1, .ref a), (2, .int fr), (3, .int nv), (4, .int (Int32.ofNat l + Int32.ofInt 1))] [] (σ.set p (.inr (.inl (0, lp.set (l + 1) (lp.getD l 0 + lc.getD l 0))))))) ?_
    rw [n32i]
    exact g3
def exOk (ex : qLV) : Prop := ex = [] ∨ ∃ u v : Int32, ex = [(5, .int u), (6, .int v)]
set_option maxHeartbeats 1000000 in
theorem c_sort2 (d i a c p s fa nn : Nat) (la : List Int32) (hna : Nat.blt a qnE = false) (hnp : Nat.blt p qnE = false) (hns : Nat.blt s qnE = false) (hip : i ≠ p) (his : i ≠ s) (hap : a ≠ p) (has : a ≠ s) (hps : p ≠ s) (hfa : fa + nn ≤ la.length) (hla : la.length < 2147483648) : ∀ (f m : Nat) (ex : qLV) (lp ls : List Int32) (σ : qH), m + f = nn → exOk ex → nnOk lp → ls.length < 2147483647 → nn ≤ ls.length → SRT (LN la fa) nn m (gl lp) (gl ls) → σ[i]? = some (.inl (2, [.ref c, .ref p, .ref s])) → σ[a]? = some (.inr (.inl (0, la))) → σ[p]? = some (.inr (.inl (0, lp))) → σ[s]? = some (.inr (.inl (0, ls))) →
    ∃ lp' ls' : List Int32, lp'.length = 16 ∧ ls'.length = ls.length ∧ SRT (LN la fa) nn nn (gl lp') (gl ls') ∧ G ξ d j_C_sortSigns 50 ([(0, .ref i), (1, .ref a), (2, .int (Int32.ofNat fa)), (3, .int (Int32.ofNat nn)), (4, .int (Int32.ofNat m))] ++ ex) [] σ (none, (σ.set p (.inr (.inl (0, lp')))).set s (.inr (.inl (0, ls')))) := by
  intro f
  induction f with
  | zero =>
    intro m ex lp ls σ hm hex hp hls hln hsr hi ha hpp hss
    have e : m = nn := by omega
    subst e
    refine ⟨lp, ls, hp.1, rfl, hsr, ?_⟩
    rw [qs_id hpp, qs_id hss]
    rcases hex with rfl | ⟨u, v, rfl⟩
    · refine G.go 3 (fun n => (rfl : _ = exe ξ n d j_C_sortSigns (if Int32.ofNat m ≤ Int32.ofNat m then 117 else 56) [(0, .ref i), (1, .ref a), (2, .int (Int32.ofNat fa)), (3, .int (Int32.ofNat m)), (4, .int (Int32.ofNat m))] [] σ)) ?_
      rw [if_pos (Int32.le_refl _)]
      exact G.end 1 (fun n => rfl)
    · refine G.go 3 (fun n => (rfl : _ = exe ξ n d j_C_sortSigns (if Int32.ofNat m ≤ Int32.ofNat m then 117 else 56) [(0, .ref i), (1, .ref a), (2, .int (Int32.ofNat fa)), (3, .int (Int32.ofNat m)), (4, .int (Int32.ofNat m)), (5, .int u), (6, .int v)] [] σ)) ?_
      rw [if_pos (Int32.le_refl _)]
      exact G.end 1 (fun n => rfl)
  | succ f ih =>
    intro m ex lp ls σ hm hex hp hls hln hsr hi ha hpp hss
    have hv := q_mask15 (la.getD (fa + m) 0)
    obtain ⟨w, hw⟩ : ∃ w, w = la.getD (fa + m) 0 &&& 15 := ⟨_, rfl⟩
    rw [← hw] at hv
    have hcw : w.toNatClampNeg = w.toInt.toNat := rfl
    obtain ⟨pl, hpl⟩ : ∃ pl, pl = lp.getD w.toNatClampNeg 0 := ⟨_, rfl⟩
    -- to the place behind the two stores
    have key : ∀ o, G ξ d j_C_sortSigns 76 [(0, .ref i), (1, .ref a), (2, .int (Int32.ofNat fa)), (3, .int (Int32.ofNat nn)), (4, .int (Int32.ofNat m)), (5, .int w), (6, .int pl)] [] σ o → G ξ d j_C_sortSigns 50 ([(0, .ref i), (1, .ref a), (2, .int (Int32.ofNat fa)), (3, .int (Int32.ofNat nn)), (4, .int (Int32.ofNat m))] ++ ex) [] σ o := by
      intro o g
      rcases hex with rfl | ⟨u, v, rfl⟩
      · refine G.go 3 (fun n => (rfl : _ = exe ξ n d j_C_sortSigns (if Int32.ofNat nn ≤ Int32.ofNat m then 117 else 56) [(0, .ref i), (1, .ref a), (2, .int (Int32.ofNat fa)), (3, .int (Int32.ofNat nn)), (4, .int (Int32.ofNat m))] [] σ)) ?_
        rw [if_neg (fun z => by have := (n32le (by omega) (by omega)).mp z; omega)]
        refine G.go 4 (fun n => (rfl : _ = exe ξ n d j_C_sortSigns 61 [(0, .ref i), (1, .ref a), (2, .int (Int32.ofNat fa)), (3, .int (Int32.ofNat nn)), (4, .int (Int32.ofNat m))] [.int (Int32.ofNat fa + Int32.ofNat m), .ref a] σ)) ?_
        rw [n32a]
        refine G.iald rfl hna ha (qix_n (by omega) hla) ?_
        rw [n32c (by omega)]
        refine G.go 4 (fun n => (rfl : _ = exe ξ n d j_C_sortSigns 68 [(0, .ref i), (1, .ref a), (2, .int (Int32.ofNat fa)), (3, .int (Int32.ofNat nn)), (4, .int (Int32.ofNat m)), (5, .int (la.getD (fa + m) 0 &&& 15))] [.ref i] σ)) ?_
        rw [← hw]
        refine G.get rfl rfl rfl hi rfl ?_
        refine G.go 1 (fun n => (rfl : _ = exe ξ n d j_C_sortSigns 73 [(0, .ref i), (1, .ref a), (2, .int (Int32.ofNat fa)), (3, .int (Int32.ofNat nn)), (4, .int (Int32.ofNat m)), (5, .int w)] [.int w, .ref p] σ)) ?_
        refine G.iald rfl hnp hpp (qix_of hv.1 (by rw [hp.1]; exact hv.2)) ?_
        rw [← hpl]
        exact G.go 1 (fun n => rfl) g
      · refine G.go 3 (fun n => (rfl : _ = exe ξ n d j_C_sortSigns (if Int32.ofNat nn ≤ Int32.ofNat m then 117 else 56) [(0, .ref i), (1, .ref a), (2, .int (Int32.ofNat fa)), (3, .int (Int32.ofNat nn)), (4, .int (Int32.ofNat m)), (5, .int u), (6, .int v)] [] σ)) ?_
        rw [if_neg (fun z => by have := (n32le (by omega) (by omega)).mp z; omega)]
        refine G.go 4 (fun n => (rfl : _ = exe ξ n d j_C_sortSigns 61 [(0, .ref i), (1, .ref a), (2, .int (Int32.ofNat fa)), (3, .int (Int32.ofNat nn)), (4, .int (Int32.ofNat m)), (5, .int u), (6, .int v)] [.int (Int32.ofNat fa + Int32.ofNat m), .ref a] σ)) ?_
        rw [n32a]
        refine G.iald rfl hna ha (qix_n (by omega) hla) ?_
        rw [n32c (by omega)]
        refine G.go 4 (fun n => (rfl : _ = exe ξ n d j_C_sortSigns 68 [(0, .ref i), (1, .ref a), (2, .int (Int32.ofNat fa)), (3, .int (Int32.ofNat nn)), (4, .int (Int32.ofNat m)), (5, .int (la.getD (fa + m) 0 &&& 15)), (6, .int v)] [.ref i] σ)) ?_
        rw [← hw]
        refine G.get rfl rfl rfl hi rfl ?_
        refine G.go 1 (fun n => (rfl : _ = exe ξ n d j_C_sortSigns 73 [(0, .ref i), (1, .ref a), (2, .int (Int32.ofNat fa)), (3, .int (Int32.ofNat nn)), (4, .int (Int32.ofNat m)), (5, .int w), (6, .int v)] [.int w, .ref p] σ)) ?_
        refine G.iald rfl hnp hpp (qix_of hv.1 (by rw [hp.1]; exact hv.2)) ?_
        rw [← hpl]
        exact G.go 1 (fun n => rfl) g
    -- on to the next
    have next : ∀ (σ1 : qH) o, G ξ d j_C_sortSigns 50 ([(0, .ref i), (1, .ref a), (2, .int (Int32.ofNat fa)), (3, .int (Int32.ofNat nn)), (4, .int (Int32.ofNat (m + 1)))] ++ [(5, .int w), (6, .int pl)]) [] σ1 o → G ξ d j_C_sortSigns 111 [(0, .ref i), (1, .ref a), (2, .int (Int32.ofNat fa)), (3, .int (Int32.ofNat nn)), (4, .int (Int32.ofNat m)), (5, .int w), (6, .int pl)] [] σ1 o := by
      intro σ1 o g
      refine G.go 2 (fun n => (rfl : _ = exe ξ n d j_C_sortSigns 50 [(0, .ref i), (1, .ref a), (2, .int (Int32.ofNat fa)), (3, .int (Int32.ofNat nn)), (4, .int (Int32.ofNat m + Int32.ofInt 1)), (5, .int w), (6, .int pl)] [] σ1)) ?_
      rw [n32i]
      exact g
    by_cases h0 : w = 0
    · have hL0 : LN la fa (m : Int) = 0 := by
        show (la.getD (fa + m) 0 &&& 15).toInt = 0
        rw [← hw, h0]
        rfl
      have hs1 : SRT (LN la fa) nn ((m + 1 : Nat) : Int) (gl lp) (gl ls) := by
        rw [show ((m + 1 : Nat) : Int) = (m : Int) + 1 by omega]
        exact SRT_no hsr (by omega) hL0
      obtain ⟨lp', ls', r1, r2, r3, g⟩ := ih (m + 1) [(5, .int w), (6, .int pl)] lp ls σ (by omega) (Or.inr ⟨w, pl, rfl⟩) hp hls hln hs1 hi ha hpp hss
      refine ⟨lp', ls', r1, r2, r3, key _ ?_⟩
      refine G.go 2 (fun n => (rfl : _ = exe ξ n d j_C_sortSigns (if w = 0 then 111 else 81) [(0, .ref i), (1, .ref a), (2, .int (Int32.ofNat fa)), (3, .int (Int32.ofNat nn)), (4, .int (Int32.ofNat m)), (5, .int w), (6, .int pl)] [] σ)) ?_
      rw [if_pos h0]
      exact next _ _ g
    · have hw1 : 1 ≤ w.toInt := by
        have h9 : w.toInt ≠ 0 := fun z => h0 (Int32.toInt_inj.mp (by rw [z]; rfl))
        omega
      have hpl0 : 0 ≤ pl.toInt := by rw [hpl]; exact hp.2 _ (by omega) (by omega)
      have key2 : ∀ o, G ξ d j_C_sortSigns (if Int32.ofNat ls.length ≤ pl then 111 else 91) [(0, .ref i), (1, .ref a), (2, .int (Int32.ofNat fa)), (3, .int (Int32.ofNat nn)), (4, .int (Int32.ofNat m)), (5, .int w), (6, .int pl)] [] σ o → G ξ d j_C_sortSigns 76 [(0, .ref i), (1, .ref a), (2, .int (Int32.ofNat fa)), (3, .int (Int32.ofNat nn)), (4, .int (Int32.ofNat m)), (5, .int w), (6, .int pl)] [] σ o := by
        intro o g
        refine G.go 2 (fun n => (rfl : _ = exe ξ n d j_C_sortSigns (if w = 0 then 111 else 81) [(0, .ref i), (1, .ref a), (2, .int (Int32.ofNat fa)), (3, .int (Int32.ofNat nn)), (4, .int (Int32.ofNat m)), (5, .int w), (6, .int pl)] [] σ)) ?_
        rw [if_neg h0]
        refine G.go 2 (fun n => (rfl : _ = exe ξ n d j_C_sortSigns 84 [(0, .ref i), (1, .ref a), (2, .int (Int32.ofNat fa)), (3, .int (Int32.ofNat nn)), (4, .int (Int32.ofNat m)), (5, .int w), (6, .int pl)] [.ref i, .int pl] σ)) ?_
        refine G.get rfl rfl rfl hi rfl ?_
        refine G.ilen rfl hns hss ?_
        exact G.go 1 (fun n => rfl) g
      have hL1 : LN la fa (m : Int) = w.toInt := by
        show (la.getD (fa + m) 0 &&& 15).toInt = w.toInt
        rw [← hw]
      have hgl : gl lp w.toInt = pl.toInt := by
        rw [hpl]
        rfl
      obtain ⟨hs1, hs2, hs3⟩ := SRT_step hsr (by omega) hL1 (by omega)
      rw [hgl] at hs1 hs2 hs3
      by_cases h1 : Int32.ofNat ls.length ≤ pl
      · have h9 := Int32.le_iff_toInt_le.mp h1
        rw [n32 (by omega)] at h9
        omega
      · have hlt : pl.toInt < ls.length := by
          have h9 := Int32.not_le.mp h1
          have h8 := Int32.lt_iff_toInt_lt.mp h9
          rw [n32 (by omega)] at h8
          exact h8
        have hp2 : nnOk (lp.set w.toNatClampNeg (pl + 1)) := by
          refine ⟨by rw [List.length_set]; exact hp.1, fun t g1 g2 => ?_⟩
          rw [getD_set _ _ _ _ (by rw [hp.1]; omega)]
          split
          · rw [Jvm.Kit.i32_add (by show -2 ^ 31 ≤ _ + (1 : Int); omega) (by show _ + (1 : Int) < _; omega)]
            show 0 ≤ _ + (1 : Int)
            omega
          · exact hp.2 t g1 g2
        have hs4 : SRT (LN la fa) nn ((m + 1 : Nat) : Int) (gl (lp.set w.toNatClampNeg (pl + 1))) (gl (ls.set pl.toNatClampNeg (Int32.ofNat m))) := by
          rw [show ((m + 1 : Nat) : Int) = (m : Int) + 1 by omega]
          refine SRT_congr hs1 (fun l a b => ?_) (fun k a => ?_)
          · unfold gl updG
            rw [getD_set _ _ _ _ (by rw [hp.1]; omega)]
            by_cases e : l = w.toInt
            · rw [if_pos (by omega), if_pos e, Jvm.Kit.i32_add (by show -2 ^ 31 ≤ _ + (1 : Int); omega) (by show _ + (1 : Int) < _; omega)]
              rfl
            · rw [if_neg (by omega), if_neg e]
          · unfold gl updG
            have hcp : pl.toNatClampNeg = pl.toInt.toNat := rfl
            rw [getD_set _ _ _ _ (by omega)]
            by_cases e : k = pl.toInt
            · rw [if_pos (by omega), if_pos e, n32 (by omega)]
            · rw [if_neg (by omega), if_neg e]
        obtain ⟨lp', ls', r1, r2, r3, g⟩ := ih (m + 1) [(5, .int w), (6, .int pl)] (lp.set w.toNatClampNeg (pl + 1)) (ls.set pl.toNatClampNeg (Int32.ofNat m)) ((σ.set s (.inr (.inl (0, ls.set pl.toNatClampNeg (Int32.ofNat m))))).set p (.inr (.inl (0, lp.set w.toNatClampNeg (pl + 1))))) (by omega) (Or.inr ⟨w, pl, rfl⟩) hp2 (by rw [List.length_set]; exact hls) (by rw [List.length_set]; exact hln) hs4 (qs_ne hip.symm (qs_ne his.symm hi)) (qs_ne hap.symm (qs_ne has.symm ha)) (qs_at (qs_ne hps.symm hpp)) (qs_ne hps (qs_at hss))
        have e9 : (((σ.set s (.inr (.inl (0, ls.set pl.toNatClampNeg (Int32.ofNat m))))).set p (.inr (.inl (0, lp.set w.toNatClampNeg (pl + 1))))).set p (.inr (.inl (0, lp')))).set s (.inr (.inl (0, ls'))) = (σ.set p (.inr (.inl (0, lp')))).set s (.inr (.inl (0, ls'))) := by
          rw [List.set_set, List.set_comm _ _ hps.symm, List.set_set]
        rw [e9] at g
        refine ⟨lp', ls', r1, by rw [r2, List.length_set], r3, key _ (key2 _ ?_)⟩
        rw [if_neg h1]
        refine G.go 1 (fun n => (rfl : _ = exe ξ n d j_C_sortSigns 92 [(0, .ref i), (1, .ref a), (2, .int (Int32.ofNat fa)), (3, .int (Int32.ofNat nn)), (4, .int (Int32.ofNat m)), (5, .int w), (6, .int pl)] [.ref i] σ)) ?_
        refine G.get rfl rfl rfl hi rfl ?_
        refine G.go 2 (fun n => (rfl : _ = exe ξ n d j_C_sortSigns 99 [(0, .ref i), (1, .ref a), (2, .int (Int32.ofNat fa)), (3, .int (Int32.ofNat nn)), (4, .int (Int32.ofNat m)), (5, .int w), (6, .int pl)] [.int (Int32.ofNat m), .int pl, .ref s] σ)) ?_
        refine G.iast rfl hss (qix_of hpl0 hlt) ?_
        refine G.go 1 (fun n => (rfl : _ = exe ξ n d j_C_sortSigns 101 [(0, .ref i), (1, .ref a), (2, .int (Int32.ofNat fa)), (3, .int (Int32.ofNat nn)), (4, .int (Int32.ofNat m)), (5, .int w), (6, .int pl)] [.ref i] (σ.set s (.inr (.inl (0, ls.set pl.toNatClampNeg (Int32.ofNat m))))))) ?_
        refine G.get rfl rfl rfl (qs_ne his.symm hi) rfl ?_
        refine G.go 4 (fun n => (rfl : _ = exe ξ n d j_C_sortSigns 110 [(0, .ref i), (1, .ref a), (2, .int (Int32.ofNat fa)), (3, .int (Int32.ofNat nn)), (4, .int (Int32.ofNat m)), (5, .int w), (6, .int pl)] [.int (pl + 1), .int w, .ref p] (σ.set s (.inr (.inl (0, ls.set pl.toNatClampNeg (Int32.ofNat m))))))) ?_
        refine G.iast rfl (qs_ne hps.symm hpp) (qix_of hv.1 (by rw [hp.1]; exact hv.2)) ?_
        exact next _ _ g
theorem c_sort (d i a c p s fa nn : Nat) (la lc lp ls : List Int32) (σ : qH) (hk : cntOk lc nn) (hv : cntV la fa lc nn) (hln : nn ≤ ls.length) (hlp : lp.length = 16) (hls : ls.length < 2147483647) (hnn : nn < 100000000) (hfa : fa + nn ≤ la.length) (hla : la.length < 2147483648) (hna : Nat.blt a qnE = false) (hnc : Nat.blt c qnE = false) (hnp : Nat.blt p qnE = false) (hns : Nat.blt s qnE = false) (hap : a ≠ p) (has : a ≠ s) (hcp : c ≠ p) (hps : p ≠ s)
    (hi : σ[i]? = some (.inl (2, [.ref c, .ref p, .ref s]))) (ha : σ[a]? = some (.inr (.inl (0, la)))) (hc : σ[c]? = some (.inr (.inl (0, lc)))) (hpp : σ[p]? = some (.inr (.inl (0, lp)))) (hss : σ[s]? = some (.inr (.inl (0, ls)))) :
    ∃ lp' ls' : List Int32, lp'.length = 16 ∧ ls'.length = ls.length ∧ SRT (LN la fa) nn nn (gl lp') (gl ls') ∧ G ξ d j_C_sortSigns 0 (lv_args 0 [.ref i, .ref a, .int (Int32.ofNat fa), .int (Int32.ofNat nn)]) [] σ (none, (σ.set p (.inr (.inl (0, lp')))).set s (.inr (.inl (0, ls')))) := by
  have hip : i ≠ p := q_dif hi hpp (by intro z; cases z)
  have his : i ≠ s := q_dif hi hss (by intro z; cases z)
  have hp1 : posOk (lp.set 1 0) 1 nn := by
    refine ⟨by rw [List.length_set]; exact hlp, fun t h1 h2 => ?_⟩
    have e : t = 1 := by omega
    subst e
    rw [getD_set _ _ _ _ (by omega), if_pos rfl]
    show (0 : Int) ≤ 0 ∧ (0 : Int) ≤ _
    omega
  have hpv : ∀ t : Nat, 1 ≤ t → t ≤ 1 → ((lp.set 1 0).getD t 0).toInt = PL (LN la fa) nn t := fun t h1 h2 => by
    have e : t = 1 := by omega
    subst e
    rw [getD_set _ _ _ _ (by omega), if_pos rfl]
    rfl
  obtain ⟨lp1, p1, p1v, g1⟩ := c_sort1 (ξ := ξ) d i a c p s nn (Int32.ofNat fa) (Int32.ofNat nn) lc (LN la fa) hv hnn hk hnc hnp hip hcp 14 1 (lp.set 1 0) (σ.set p (.inr (.inl (0, lp.set 1 0)))) rfl (by omega) hp1 hpv (qs_ne hip.symm hi) (qs_ne hcp.symm hc) (qs_at hpp)
  obtain ⟨lp', ls', r1, r2, r3, g2⟩ := c_sort2 (ξ := ξ) d i a c p s fa nn la hna hnp hns hip his hap has hps hfa hla nn 0 [] lp1 ls (σ.set p (.inr (.inl (0, lp1)))) (by omega) (Or.inl rfl) ⟨p1.1, fun t h1 h2 => (p1.2 t h1 (by omega)).1⟩ hls hln (SRT_0 (fun l a b => by have := p1v l.toNat (by omega) (by omega); exact this)) (qs_ne hip.symm hi) (qs_ne hap.symm ha) (qs_at hpp) (qs_ne hps hss)
  rw [List.set_set] at g2
  refine ⟨lp', ls', r1, r2, r3, ?_⟩
  refine G.go 1 (fun n => (rfl : _ = exe ξ n d j_C_sortSigns 1 [(0, .ref i), (1, .ref a), (2, .int (Int32.ofNat fa)), (3, .int (Int32.ofNat nn))] [.ref i] σ)) ?_
  refine G.get rfl rfl rfl hi rfl ?_
  refine G.go 2 (fun n => (rfl : _ = exe ξ n d j_C_sortSigns 6 [(0, .ref i), (1, .ref a), (2, .int (Int32.ofNat fa)), (3, .int (Int32.ofNat nn))] [.int 0, .int 1, .ref p] σ)) ?_
  refine G.iast rfl hpp (qix_of (x := 1) (by decide) (by rw [hlp]; decide)) ?_
  refine G.go 2 (fun n => (rfl : _ = exe ξ n d j_C_sortSigns 10 [(0, .ref i), (1, .ref a), (2, .int (Int32.ofNat fa)), (3, .int (Int32.ofNat nn)), (4, .int (Int32.ofNat 1))] [] (σ.set p (.inr (.inl (0, lp.set 1 0)))))) ?_
  refine g1 _ ?_
  rw [List.set_set]
  refine G.go 2 (fun n => (rfl : _ = exe ξ n d j_C_sortSigns 50 ([(0, .ref i), (1, .ref a), (2, .int (Int32.ofNat fa)), (3, .int (Int32.ofNat nn)), (4, .int (Int32.ofNat 0))] ++ []) [] (σ.set p (.inr (.inl (0, lp1)))))) ?_
  exact g2
set_option maxHeartbeats 1000000 in
theorem c_learn (d i a c p s : Nat) (fr nv fl : Int32) (la lc lp ls : List Int32) (σ : qH) (hfl : fl = 0 ∨ fl = 1) (hlc : lc.length = 16) (hlp : lp.length = 16) (hls : ls.length < 100000000) (hla : la.length < 100000000) (hna : Nat.blt a qnE = false) (hnc : Nat.blt c qnE = false) (hnp : Nat.blt p qnE = false) (hns : Nat.blt s qnE = false) (hni : Nat.blt i qnE = false) (hac : a ≠ c) (hap : a ≠ p) (has : a ≠ s) (hcp : c ≠ p) (hcs : c ≠ s) (hps : p ≠ s)
    (hi : σ[i]? = some (.inl (2, [.ref c, .ref p, .ref s]))) (ha : σ[a]? = some (.inr (.inl (0, la)))) (hc : σ[c]? = some (.inr (.inl (0, lc)))) (hpp : σ[p]? = some (.inr (.inl (0, lp)))) (hss : σ[s]? = some (.inr (.inl (0, ls)))) :
    ∃ (b : Int32) (lc' lp' ls' : List Int32), (b = 0 ∨ b = 1) ∧ lc'.length = 16 ∧ lp'.length = 16 ∧ ls'.length = ls.length ∧ (0 ≤ fr.toInt → 0 ≤ nv.toInt → nv.toInt ≤ ls.length → fr.toInt + nv.toInt ≤ la.length → CDL lc' ls' (LN la fr.toInt.toNat) nv.toInt.toNat ∧ (b = 1 ↔ (OKQ (LN la fr.toInt.toNat) nv.toInt.toNat ∨ (THQ (LN la fr.toInt.toNat) nv.toInt.toNat 15 = 0 ∧ fl = 1)))) ∧ G ξ (d + 1) j_C_learn 0 (lv_args 0 [.ref i, .ref a, .int fr, .int nv, .int fl]) [] σ (some (.int b), ((σ.set c (.inr (.inl (0, lc')))).set p (.inr (.inl (0, lp')))).set s (.inr (.inl (0, ls')))) := by
  have hic : i ≠ c := q_dif hi hc (by intro z; cases z)
  have hip : i ≠ p := q_dif hi hpp (by intro z; cases z)
  have his : i ≠ s := q_dif hi hss (by intro z; cases z)
  have hsame : ((σ.set c (.inr (.inl (0, lc)))).set p (.inr (.inl (0, lp)))).set s (.inr (.inl (0, ls))) = σ := by rw [qs_id hc, qs_id hpp, qs_id hss]
  have no : ∀ o, o = (some (.int 0), σ) → G ξ (d + 1) j_C_learn 31 [(0, .ref i), (1, .ref a), (2, .int fr), (3, .int nv), (4, .int fl)] [] σ o := fun o h => by subst h; exact G.end 2 (fun n => rfl)
  have z0 : (0 : Int32).toInt = 0 := rfl
  by_cases c1 : fr < 0
  · refine ⟨0, lc, lp, ls, Or.inl rfl, hlc, hlp, rfl, fun q1 q2 q3 q4 => absurd (Int32.lt_iff_toInt_lt.mp c1) (by omega), ?_⟩
    rw [hsame]
    refine G.go 2 (fun n => (rfl : _ = exe ξ n (d + 1) j_C_learn (if fr < 0 then 31 else 4) [(0, .ref i), (1, .ref a), (2, .int fr), (3, .int nv), (4, .int fl)] [] σ)) ?_
    rw [if_pos c1]
    exact no _ rfl
  by_cases c2 : nv < 0
  · refine ⟨0, lc, lp, ls, Or.inl rfl, hlc, hlp, rfl, fun q1 q2 q3 q4 => absurd (Int32.lt_iff_toInt_lt.mp c2) (by omega), ?_⟩
    rw [hsame]
    refine G.go 2 (fun n => (rfl : _ = exe ξ n (d + 1) j_C_learn (if fr < 0 then 31 else 4) [(0, .ref i), (1, .ref a), (2, .int fr), (3, .int nv), (4, .int fl)] [] σ)) ?_
    rw [if_neg c1]
    refine G.go 2 (fun n => (rfl : _ = exe ξ n (d + 1) j_C_learn (if nv < 0 then 31 else 8) [(0, .ref i), (1, .ref a), (2, .int fr), (3, .int nv), (4, .int fl)] [] σ)) ?_
    rw [if_pos c2]
    exact no _ rfl
  by_cases c3 : Int32.ofNat ls.length < nv
  · refine ⟨0, lc, lp, ls, Or.inl rfl, hlc, hlp, rfl, fun q1 q2 q3 q4 => absurd (show (ls.length : Int) < nv.toInt by have q5 := Int32.lt_iff_toInt_lt.mp c3; rw [n32 (by omega)] at q5; exact q5) (by omega), ?_⟩
    rw [hsame]
    refine G.go 2 (fun n => (rfl : _ = exe ξ n (d + 1) j_C_learn (if fr < 0 then 31 else 4) [(0, .ref i), (1, .ref a), (2, .int fr), (3, .int nv), (4, .int fl)] [] σ)) ?_
    rw [if_neg c1]
    refine G.go 2 (fun n => (rfl : _ = exe ξ n (d + 1) j_C_learn (if nv < 0 then 31 else 8) [(0, .ref i), (1, .ref a), (2, .int fr), (3, .int nv), (4, .int fl)] [] σ)) ?_
    rw [if_neg c2]
    refine G.go 2 (fun n => (rfl : _ = exe ξ n (d + 1) j_C_learn 10 [(0, .ref i), (1, .ref a), (2, .int fr), (3, .int nv), (4, .int fl)] [.ref i, .int nv] σ)) ?_
    refine G.get rfl rfl rfl hi rfl ?_
    refine G.ilen rfl hns hss ?_
    refine G.go 1 (fun n => (rfl : _ = exe ξ n (d + 1) j_C_learn (if Int32.ofNat ls.length < nv then 31 else 17) [(0, .ref i), (1, .ref a), (2, .int fr), (3, .int nv), (4, .int fl)] [] σ)) ?_
    rw [if_pos c3]
    exact no _ rfl
  by_cases c4 : Int32.ofNat la.length < nv
  · refine ⟨0, lc, lp, ls, Or.inl rfl, hlc, hlp, rfl, fun q1 q2 q3 q4 => absurd (show (la.length : Int) < nv.toInt by have q5 := Int32.lt_iff_toInt_lt.mp c4; rw [n32 (by omega)] at q5; exact q5) (by omega), ?_⟩
    rw [hsame]
    refine G.go 2 (fun n => (rfl : _ = exe ξ n (d + 1) j_C_learn (if fr < 0 then 31 else 4) [(0, .ref i), (1, .ref a), (2, .int fr), (3, .int nv), (4, .int fl)] [] σ)) ?_
    rw [if_neg c1]
    refine G.go 2 (fun n => (rfl : _ = exe ξ n (d + 1) j_C_learn (if nv < 0 then 31 else 8) [(0, .ref i), (1, .ref a), (2, .int fr), (3, .int nv), (4, .int fl)] [] σ)) ?_
    rw [if_neg c2]
    refine G.go 2 (fun n => (rfl : _ = exe ξ n (d + 1) j_C_learn 10 [(0, .ref i), (1, .ref a), (2, .int fr), (3, .int nv), (4, .int fl)] [.ref i, .int nv] σ)) ?_
    refine G.get rfl rfl rfl hi rfl ?_
    refine G.ilen rfl hns hss ?_
    refine G.go 1 (fun n => (rfl : _ = exe ξ n (d + 1) j_C_learn (if Int32.ofNat ls.length < nv then 31 else 17) [(0, .ref i), (1, .ref a), (2, .int fr), (3, .int nv), (4, .int fl)] [] σ)) ?_
    rw [if_neg c3]
    refine G.go 2 (fun n => (rfl : _ = exe ξ n (d + 1) j_C_learn 19 [(0, .ref i), (1, .ref a), (2, .int fr), (3, .int nv), (4, .int fl)] [.ref a, .int nv] σ)) ?_
    refine G.ilen rfl hna ha ?_
    refine G.go 1 (fun n => (rfl : _ = exe ξ n (d + 1) j_C_learn (if Int32.ofNat la.length < nv then 31 else 23) [(0, .ref i), (1, .ref a), (2, .int fr), (3, .int nv), (4, .int fl)] [] σ)) ?_
    rw [if_pos c4]
    exact no _ rfl
  by_cases c5 : ¬ fr ≤ Int32.ofNat la.length - nv
  · refine ⟨0, lc, lp, ls, Or.inl rfl, hlc, hlp, rfl, fun q1 q2 q3 q4 => absurd (show (la.length : Int) - nv.toInt < fr.toInt by have q5 := Int32.lt_iff_toInt_lt.mp (Int32.not_le.mp c5); rw [Jvm.Kit.i32_sub (by rw [n32 (by omega)]; omega) (by rw [n32 (by omega)]; omega), n32 (by omega)] at q5; exact q5) (by omega), ?_⟩
    rw [hsame]
    refine G.go 2 (fun n => (rfl : _ = exe ξ n (d + 1) j_C_learn (if fr < 0 then 31 else 4) [(0, .ref i), (1, .ref a), (2, .int fr), (3, .int nv), (4, .int fl)] [] σ)) ?_
    rw [if_neg c1]
    refine G.go 2 (fun n => (rfl : _ = exe ξ n (d + 1) j_C_learn (if nv < 0 then 31 else 8) [(0, .ref i), (1, .ref a), (2, .int fr), (3, .int nv), (4, .int fl)] [] σ)) ?_
    rw [if_neg c2]
    refine G.go 2 (fun n => (rfl : _ = exe ξ n (d + 1) j_C_learn 10 [(0, .ref i), (1, .ref a), (2, .int fr), (3, .int nv), (4, .int fl)] [.ref i, .int nv] σ)) ?_
    refine G.get rfl rfl rfl hi rfl ?_
    refine G.ilen rfl hns hss ?_
    refine G.go 1 (fun n => (rfl : _ = exe ξ n (d + 1) j_C_learn (if Int32.ofNat ls.length < nv then 31 else 17) [(0, .ref i), (1, .ref a), (2, .int fr), (3, .int nv), (4, .int fl)] [] σ)) ?_
    rw [if_neg c3]
    refine G.go 2 (fun n => (rfl : _ = exe ξ n (d + 1) j_C_learn 19 [(0, .ref i), (1, .ref a), (2, .int fr), (3, .int nv), (4, .int fl)] [.ref a, .int nv] σ)) ?_
    refine G.ilen rfl hna ha ?_
    refine G.go 1 (fun n => (rfl : _ = exe ξ n (d + 1) j_C_learn (if Int32.ofNat la.length < nv then 31 else 23) [(0, .ref i), (1, .ref a), (2, .int fr), (3, .int nv), (4, .int fl)] [] σ)) ?_
    rw [if_neg c4]
    refine G.go 2 (fun n => (rfl : _ = exe ξ n (d + 1) j_C_learn 25 [(0, .ref i), (1, .ref a), (2, .int fr), (3, .int nv), (4, .int fl)] [.ref a, .int fr] σ)) ?_
    refine G.ilen rfl hna ha ?_
    refine G.go 3 (fun n => (rfl : _ = exe ξ n (d + 1) j_C_learn (if fr ≤ Int32.ofNat la.length - nv then 33 else 31) [(0, .ref i), (1, .ref a), (2, .int fr), (3, .int nv), (4, .int fl)] [] σ)) ?_
    rw [if_neg c5]
    exact no _ rfl
  have c5 := Classical.not_not.mp c5
  have f0 : 0 ≤ fr.toInt := by
    have := Int32.le_iff_toInt_le.mp (Int32.not_lt.mp c1)
    omega
  have n0 : 0 ≤ nv.toInt := by
    have := Int32.le_iff_toInt_le.mp (Int32.not_lt.mp c2)
    omega
  have n1 : nv.toInt ≤ la.length := by
    have := Int32.le_iff_toInt_le.mp (Int32.not_lt.mp c4)
    rw [n32 (by omega)] at this
    exact this
  have n2 : fr.toInt + nv.toInt ≤ la.length := by
    have := Int32.le_iff_toInt_le.mp c5
    rw [Jvm.Kit.i32_sub (by rw [n32 (by omega)]; omega) (by rw [n32 (by omega)]; omega), n32 (by omega)] at this
    omega
  have n3 : nv.toInt ≤ ls.length := by
    have := Int32.le_iff_toInt_le.mp (Int32.not_lt.mp c3)
    rw [n32 (by omega)] at this
    exact this
  obtain ⟨fa, hfa⟩ : ∃ fa : Nat, fa = fr.toInt.toNat := ⟨_, rfl⟩
  obtain ⟨nn, hnn⟩ : ∃ nn : Nat, nn = nv.toInt.toNat := ⟨_, rfl⟩
  have ef : fr = Int32.ofNat fa := by rw [hfa]; exact n32of f0
  have en : nv = Int32.ofNat nn := by rw [hnn]; exact n32of n0
  obtain ⟨lf, f1, f2, gf⟩ := c_fill2 (ξ := ξ) d c 0 lc σ hnc (by omega) hc
  have hk0 : cntOk lf 0 := ⟨by omega, fun t ht => by rw [f2 t (by omega), z0]; omega⟩
  have hk0v : cntV la fa lf 0 := fun t ht => by
    rw [f2 t (by omega), z0]
    rfl
  obtain ⟨lk, k1, k1v, gk⟩ := c_count_loop (ξ := ξ) (d + 1) i a c p s fa nn fl la hnc hna hac hic (by omega) (by omega) nn 0 lf (σ.set c (.inr (.inl (0, lf)))) (by omega) hk0 hk0v (qs_ne hic.symm hi) (qs_ne hac.symm ha) (qs_at hc)
  rw [List.set_set] at gk
  obtain ⟨lp', ls', r1, r2, r3, gs⟩ := c_sort (ξ := ξ) d i a c p s fa nn la lk lp ls (σ.set c (.inr (.inl (0, lk)))) k1 k1v (by omega) hlp (by omega) (by omega) (by omega) (by omega) hna hnc hnp hns hap has hcp hps (qs_ne hic.symm hi) (qs_ne hac.symm ha) (qs_at hc) (qs_ne hcp hpp) (qs_ne hcs hss)
  obtain ⟨σ9, hσ9⟩ : ∃ σ9, σ9 = ((σ.set c (.inr (.inl (0, lk)))).set p (.inr (.inl (0, lp')))).set s (.inr (.inl (0, ls'))) := ⟨_, rfl⟩
  rw [← hσ9] at gs
  have hi9 : σ9[i]? = some (.inl (2, [.ref c, .ref p, .ref s])) := by rw [hσ9]; exact qs_ne his.symm (qs_ne hip.symm (qs_ne hic.symm hi))
  have hc9 : σ9[c]? = some (.inr (.inl (0, lk))) := by rw [hσ9]; exact qs_ne hcs.symm (qs_ne hcp.symm (qs_at hc))
  have hcd : CDL lk ls' (LN la fa) nn := SRT_end r3 (fun l a b => by
    have h9 := k1v l.toNat (by omega)
    rw [Int.toNat_of_nonneg (by omega)] at h9
    exact h9) (by omega)
  have hth := THQ_n (L := LN la fa) (n := nn) (fun k _ _ => LN_r la fa k)
  have hmy := MY_r (LN la fa) 0 nn
  have hc0 : (lk.getD 0 0).toInt = MY (LN la fa) 0 nn := k1v 0 (by decide)
  have hc1 : (lk.getD 1 0).toInt = MY (LN la fa) 1 nn := k1v 1 (by decide)
  obtain ⟨b9, hb9, hb9v, gc⟩ := c_complete (ξ := ξ) d i c p s lk σ9 (LN la fa) nn k1v (by omega) k1.1 hnc hi9 hc9
  have hqi : ∀ (σ1 : qH) (k : Nat), σ1[i]? = some (.inl (2, [.ref c, .ref p, .ref s])) → qco k = 2 → qrc σ1 i k = true := by
    intro σ1 k h1 h2
    unfold qrc
    rw [hni, h1, h2]
    rfl
  obtain ⟨u, hu⟩ : ∃ u : Int32, u = Int32.ofNat nn - lk.getD 0 0 := ⟨_, rfl⟩
  have hut : u.toInt = THQ (LN la fa) nn 15 := by
    rw [hu, Jvm.Kit.i32_sub (by rw [n32 (by omega)]; omega) (by rw [n32 (by omega)]; omega), n32 (by omega)]
    omega
  rw [← hfa, ← hnn]
  -- to the end of the sorting
  have key : ∀ o, G ξ (d + 1) j_C_learn 91 [(0, .ref i), (1, .ref a), (2, .int (Int32.ofNat fa)), (3, .int (Int32.ofNat nn)), (4, .int fl), (5, .int u)] [] σ9 o → G ξ (d + 1) j_C_learn 0 (lv_args 0 [.ref i, .ref a, .int fr, .int nv, .int fl]) [] σ o := by
    intro o g
    refine G.go 2 (fun n => (rfl : _ = exe ξ n (d + 1) j_C_learn (if fr < 0 then 31 else 4) [(0, .ref i), (1, .ref a), (2, .int fr), (3, .int nv), (4, .int fl)] [] σ)) ?_
    rw [if_neg c1]
    refine G.go 2 (fun n => (rfl : _ = exe ξ n (d + 1) j_C_learn (if nv < 0 then 31 else 8) [(0, .ref i), (1, .ref a), (2, .int fr), (3, .int nv), (4, .int fl)] [] σ)) ?_
    rw [if_neg c2]
    refine G.go 2 (fun n => (rfl : _ = exe ξ n (d + 1) j_C_learn 10 [(0, .ref i), (1, .ref a), (2, .int fr), (3, .int nv), (4, .int fl)] [.ref i, .int nv] σ)) ?_
    refine G.get rfl rfl rfl hi rfl ?_
    refine G.ilen rfl hns hss ?_
    refine G.go 1 (fun n => (rfl : _ = exe ξ n (d + 1) j_C_learn (if Int32.ofNat ls.length < nv then 31 else 17) [(0, .ref i), (1, .ref a), (2, .int fr), (3, .int nv), (4, .int fl)] [] σ)) ?_
    rw [if_neg c3]
    refine G.go 2 (fun n => (rfl : _ = exe ξ n (d + 1) j_C_learn 19 [(0, .ref i), (1, .ref a), (2, .int fr), (3, .int nv), (4, .int fl)] [.ref a, .int nv] σ)) ?_
    refine G.ilen rfl hna ha ?_
    refine G.go 1 (fun n => (rfl : _ = exe ξ n (d + 1) j_C_learn (if Int32.ofNat la.length < nv then 31 else 23) [(0, .ref i), (1, .ref a), (2, .int fr), (3, .int nv), (4, .int fl)] [] σ)) ?_
    rw [if_neg c4]
    refine G.go 2 (fun n => (rfl : _ = exe ξ n (d + 1) j_C_learn 25 [(0, .ref i), (1, .ref a), (2, .int fr), (3, .int nv), (4, .int fl)] [.ref a, .int fr] σ)) ?_
    refine G.ilen rfl hna ha ?_
    refine G.go 3 (fun n => (rfl : _ = exe ξ n (d + 1) j_C_learn (if fr ≤ Int32.ofNat la.length - nv then 33 else 31) [(0, .ref i), (1, .ref a), (2, .int fr), (3, .int nv), (4, .int fl)] [] σ)) ?_
    rw [if_pos c5]
    refine G.go 1 (fun n => (rfl : _ = exe ξ n (d + 1) j_C_learn 34 [(0, .ref i), (1, .ref a), (2, .int fr), (3, .int nv), (4, .int fl)] [.ref i] σ)) ?_
    refine G.get rfl rfl rfl hi rfl ?_
    refine G.go 1 (fun n => (rfl : _ = exe ξ n (d + 1) j_C_learn 38 [(0, .ref i), (1, .ref a), (2, .int fr), (3, .int nv), (4, .int fl)] [.int 0, .ref c] σ)) ?_
    refine G.call (k := j_J_fill2) (as := [.ref c, .int 0]) (r := []) rfl rfl rfl rfl rfl rfl rfl rfl gf ?_
    rw [ef, en]
    refine G.go 2 (fun n => (rfl : _ = exe ξ n (d + 1) j_C_learn 44 [(0, .ref i), (1, .ref a), (2, .int (Int32.ofNat fa)), (3, .int (Int32.ofNat nn)), (4, .int fl), (5, .int (Int32.ofNat 0))] [] (σ.set c (.inr (.inl (0, lf)))))) ?_
    refine gk _ ?_
    refine G.go 2 (fun n => (rfl : _ = exe ξ n (d + 1) j_C_learn 76 [(0, .ref i), (1, .ref a), (2, .int (Int32.ofNat fa)), (3, .int (Int32.ofNat nn)), (4, .int fl), (5, .int (Int32.ofNat nn))] [.ref i, .int (Int32.ofNat nn)] (σ.set c (.inr (.inl (0, lk)))))) ?_
    refine G.get rfl rfl rfl (qs_ne hic.symm hi) rfl ?_
    refine G.go 1 (fun n => (rfl : _ = exe ξ n (d + 1) j_C_learn 80 [(0, .ref i), (1, .ref a), (2, .int (Int32.ofNat fa)), (3, .int (Int32.ofNat nn)), (4, .int fl), (5, .int (Int32.ofNat nn))] [.int 0, .ref c, .int (Int32.ofNat nn)] (σ.set c (.inr (.inl (0, lk)))))) ?_
    refine G.iald rfl hnc (qs_at hc) (qix_of (x := 0) (by decide) (by rw [k1.1]; decide)) ?_
    refine G.go 6 (fun n => (rfl : _ = exe ξ n (d + 1) j_C_learn 88 [(0, .ref i), (1, .ref a), (2, .int (Int32.ofNat fa)), (3, .int (Int32.ofNat nn)), (4, .int fl), (5, .int (Int32.ofNat nn - lk.getD 0 0))] [.int (Int32.ofNat nn), .int (Int32.ofNat fa), .ref a, .ref i] (σ.set c (.inr (.inl (0, lk)))))) ?_
    rw [← hu]
    refine G.call (k := j_C_sortSigns) (as := [.ref i, .ref a, .int (Int32.ofNat fa), .int (Int32.ofNat nn)]) (r := []) rfl rfl rfl rfl rfl rfl rfl ?_ gs g
    show (bif qrc _ i j_C_sortSigns && _ then _ else _) = _
    rw [hqi _ _ (qs_ne hic.symm hi) rfl]
    rfl
  -- behind it
  have last : ∃ b : Int32, (b = 0 ∨ b = 1) ∧ (b = 1 ↔ SMQ (LN la fa) nn 15 = 32768) ∧ G ξ (d + 1) j_C_learn 115 [(0, .ref i), (1, .ref a), (2, .int (Int32.ofNat fa)), (3, .int (Int32.ofNat nn)), (4, .int fl), (5, .int u)] [] σ9 (some (.int b), σ9) := by
    have step : ∀ o, G ξ (d + 1) j_C_learn (if b9 = 0 then 126 else 122) [(0, .ref i), (1, .ref a), (2, .int (Int32.ofNat fa)), (3, .int (Int32.ofNat nn)), (4, .int fl), (5, .int u)] [] σ9 o → G ξ (d + 1) j_C_learn 115 [(0, .ref i), (1, .ref a), (2, .int (Int32.ofNat fa)), (3, .int (Int32.ofNat nn)), (4, .int fl), (5, .int u)] [] σ9 o := by
      intro o g
      refine G.go 1 (fun n => (rfl : _ = exe ξ n (d + 1) j_C_learn 116 [(0, .ref i), (1, .ref a), (2, .int (Int32.ofNat fa)), (3, .int (Int32.ofNat nn)), (4, .int fl), (5, .int u)] [.ref i] σ9)) ?_
      refine G.call (k := j_C_areComplete) (as := [.ref i]) (r := []) (v := some (.int b9)) rfl rfl rfl rfl rfl rfl rfl ?_ gc ?_
      · show (bif qrc _ i j_C_areComplete && _ then _ else _) = _
        rw [hqi _ _ hi9 rfl]
        rfl
      · exact G.go 1 (fun n => rfl) g
    by_cases h0 : b9 = 0
    · exact ⟨0, Or.inl rfl, ⟨fun z => absurd z (by decide), fun z => absurd (hb9v.mpr z) (by rw [h0]; decide)⟩, step _ (by rw [if_pos h0]; exact G.end 2 (fun n => rfl))⟩
    · exact ⟨1, Or.inr rfl, ⟨fun _ => hb9v.mp (hb9.resolve_left h0), fun _ => rfl⟩, step _ (by rw [if_neg h0]; exact G.end 3 (fun n => rfl))⟩
  by_cases h0 : u = 0
  · have hz : THQ (LN la fa) nn 15 = 0 := by
      rw [← hut, h0]
      rfl
    have hsm := THQ_0 hz
    refine ⟨fl, lk, lp', ls', hfl, k1.1, r1, r2, fun _ _ _ _ => ⟨hcd, ⟨fun z => Or.inr ⟨hz, z⟩, fun z => z.elim (fun q => absurd q (fun q9 => by unfold OKQ at q9; omega)) (fun q => q.2)⟩⟩, ?_⟩
    rw [← hσ9]
    refine key _ ?_
    refine G.go 2 (fun n => (rfl : _ = exe ξ n (d + 1) j_C_learn (if u = 0 then 96 else 99) [(0, .ref i), (1, .ref a), (2, .int (Int32.ofNat fa)), (3, .int (Int32.ofNat nn)), (4, .int fl), (5, .int u)] [] σ9)) ?_
    rw [if_pos h0]
    rcases hfl with rfl | rfl
    · exact G.end 2 (fun n => rfl)
    · exact G.end 2 (fun n => rfl)
  · have key2 : ∀ o, G ξ (d + 1) j_C_learn (if u = 1 then 105 else 115) [(0, .ref i), (1, .ref a), (2, .int (Int32.ofNat fa)), (3, .int (Int32.ofNat nn)), (4, .int fl), (5, .int u)] [] σ9 o → G ξ (d + 1) j_C_learn 91 [(0, .ref i), (1, .ref a), (2, .int (Int32.ofNat fa)), (3, .int (Int32.ofNat nn)), (4, .int fl), (5, .int u)] [] σ9 o := by
      intro o g
      refine G.go 2 (fun n => (rfl : _ = exe ξ n (d + 1) j_C_learn (if u = 0 then 96 else 99) [(0, .ref i), (1, .ref a), (2, .int (Int32.ofNat fa)), (3, .int (Int32.ofNat nn)), (4, .int fl), (5, .int u)] [] σ9)) ?_
      rw [if_neg h0]
      exact G.go 3 (fun n => rfl) g
    obtain ⟨b, hb, hbv, gl9⟩ := last
    have hz : THQ (LN la fa) nn 15 ≠ 0 := fun q => h0 (Int32.toInt_inj.mp (show u.toInt = (0 : Int32).toInt from hut.trans q))
    by_cases h1 : u = 1
    · have key3 : ∀ o, G ξ (d + 1) j_C_learn (if lk.getD 1 0 = 1 then 122 else 115) [(0, .ref i), (1, .ref a), (2, .int (Int32.ofNat fa)), (3, .int (Int32.ofNat nn)), (4, .int fl), (5, .int u)] [] σ9 o → G ξ (d + 1) j_C_learn 91 [(0, .ref i), (1, .ref a), (2, .int (Int32.ofNat fa)), (3, .int (Int32.ofNat nn)), (4, .int fl), (5, .int u)] [] σ9 o := by
        intro o g
        refine key2 _ ?_
        rw [if_pos h1]
        refine G.go 1 (fun n => (rfl : _ = exe ξ n (d + 1) j_C_learn 106 [(0, .ref i), (1, .ref a), (2, .int (Int32.ofNat fa)), (3, .int (Int32.ofNat nn)), (4, .int fl), (5, .int u)] [.ref i] σ9)) ?_
        refine G.get rfl rfl rfl hi9 rfl ?_
        refine G.go 1 (fun n => (rfl : _ = exe ξ n (d + 1) j_C_learn 110 [(0, .ref i), (1, .ref a), (2, .int (Int32.ofNat fa)), (3, .int (Int32.ofNat nn)), (4, .int fl), (5, .int u)] [.int 1, .ref c] σ9)) ?_
        refine G.iald rfl hnc hc9 (qix_of (x := 1) (by decide) (by rw [k1.1]; decide)) ?_
        exact G.go 2 (fun n => rfl) g
      by_cases h2 : lk.getD 1 0 = 1
      · have hz1 : THQ (LN la fa) nn 15 = 1 := by
          rw [← hut, h1]
          rfl
        have hm1 : MY (LN la fa) 1 nn = 1 := by
          rw [← hc1, h2]
          rfl
        refine ⟨1, lk, lp', ls', Or.inr rfl, k1.1, r1, r2, fun _ _ _ _ => ⟨hcd, ⟨fun _ => Or.inl (Or.inr ⟨hz1, (THQ_1 hz1).1.mpr hm1⟩), fun _ => rfl⟩⟩, ?_⟩
        rw [← hσ9]
        exact key _ (key3 _ (by rw [if_pos h2]; exact G.end 3 (fun n => rfl)))
      · have hz1 : THQ (LN la fa) nn 15 = 1 := by
          rw [← hut, h1]
          rfl
        have hm1 : MY (LN la fa) 1 nn ≠ 1 := fun q => h2 (Int32.toInt_inj.mp (show (lk.getD 1 0).toInt = (1 : Int32).toInt from hc1.trans q))
        have hm2 := THQ_1 hz1
        refine ⟨b, lk, lp', ls', hb, k1.1, r1, r2, fun _ _ _ _ => ⟨hcd, ⟨fun z => Or.inl (Or.inl (hbv.mp z)), fun z => hbv.mpr (z.elim (fun q => q.elim id (fun q9 => absurd (hm2.1.mp q9.2) hm1)) (fun q => absurd q.1 hz))⟩⟩, ?_⟩
        rw [← hσ9]
        exact key _ (key3 _ (by rw [if_neg h2]; exact gl9))
    · have hz1 : THQ (LN la fa) nn 15 ≠ 1 := fun q => h1 (Int32.toInt_inj.mp (show u.toInt = (1 : Int32).toInt from hut.trans q))
      refine ⟨b, lk, lp', ls', hb, k1.1, r1, r2, fun _ _ _ _ => ⟨hcd, ⟨fun z => Or.inl (Or.inl (hbv.mp z)), fun z => hbv.mpr (z.elim (fun q => q.elim id (fun q9 => absurd q9.1 hz1)) (fun q => absurd q.1 hz))⟩⟩, ?_⟩
      rw [← hσ9]
      exact key _ (key2 _ (by rw [if_neg h1]; exact gl9))
end
