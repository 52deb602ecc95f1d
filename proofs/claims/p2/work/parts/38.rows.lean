/-! A row that grows from nothing; feed; the model's put, copyRow, feed, open. -/
section
variable {ξ : Nat → Option (Nat × List Int32)}
/-- the row at r (most m) has got len bytes since σ0, nothing else has changed -/
def rowI (r m : Nat) (σ0 σ : qH) (len : Nat) : Prop := (σ0.length ≤ σ.length ∧ sz 1 m σ0 σ) ∧ (∀ (k : Nat) (c : qC), k ≠ r → σ0[k]? = some c → σ[k]? = some c) ∧ ((len = 0 ∧ σ = σ0) ∨ ∃ (b : Nat) (li : List Int32), σ0.length ≤ b ∧ li.length = m ∧ σ[r]? = some (.inl (5, [.int (Int32.ofNat m), .ref b, .int (Int32.ofNat len)])) ∧ σ[b]? = some (.inr (.inl (1, li))))
theorem rowI.start (r m : Nat) (σ0 : qH) : rowI r m σ0 σ0 0 := ⟨⟨Nat.le_refl _, (sz.refl σ0).mono (by omega) (by omega)⟩, fun _ _ _ h => h, Or.inl ⟨rfl, rfl⟩⟩
theorem rowI.add {r b0 m len : Nat} {σ0 σ : qH} (d : Nat) (v : Int32) (h0 : σ0[r]? = some (.inl (5, [.int (Int32.ofNat m), .ref b0, .int 0]))) (h1 : σ0[b0]? = some (.inr (.inl (1, [])))) (hσ : qnE ≤ σ0.length) (hb0 : Nat.blt b0 qnE = false) (hm : m ≤ 8000) (hm0 : 0 < m) (hI : rowI r m σ0 σ len) (hl : len < m) : ∃ σ' : qH, rowI r m σ0 σ' (len + 1) ∧ G ξ d j_R_add 0 (lv_args 0 [.ref r, .int v]) [] σ (some (.int 1), σ') := by
  obtain ⟨g1, g2, g3⟩ := hI
  have hr : r < σ0.length := (List.getElem?_eq_some_iff.mp h0).1
  rcases g3 with ⟨rfl, rfl⟩ | ⟨b, li, k1, k2, k3, k4⟩
  · refine ⟨_, ?_, c_add_new d r b0 (Int32.ofNat m) 0 v [] σ h0 h1 hb0 hσ ?_ ?_ ?_ ?_ ?_⟩
    · refine ⟨⟨by rw [List.length_set, List.length_append]; omega, sz.mono (sz.set (sz.push (sz.refl σ)) (qs_push h0) rfl) (by omega) (by simp only [qcs, List.length_set, List.length_replicate, n32c (show m < 2147483648 by omega)]; omega)⟩, fun k c hk hc => ?_, Or.inr ⟨σ.length, (List.replicate (Int32.ofNat m).toNatClampNeg 0).set (Int32.toNatClampNeg 0) (b8 v), Nat.le_refl _, ?_, qs_at (qs_push h0), ?_⟩⟩
      · rw [List.getElem?_set_ne (fun z => hk z.symm)]
        exact qs_push hc
      · rw [List.length_set, List.length_replicate, n32c (by omega)]
      · rw [List.getElem?_set_ne (by omega), List.getElem?_append_right (Nat.le_refl _), Nat.sub_self]
        rfl
    · exact (n32lt (a := 0) (by omega) (by omega)).mpr hm0
    · intro z
      have := (n32le (b := 0) (by omega) (by omega)).mp z
      omega
    · have : ¬ Int32.ofNat m < 0 := fun z => by
        have := (n32lt (b := 0) (by omega) (by omega)).mp z
        omega
      simp [this]
    · rw [n32c (by omega)]
      exact Nat.ble_eq_true_of_le (by omega)
    · rw [n32c (by omega)]
      exact qix_n (m := 0) hm0 (by omega)
  · have hrb : r ≠ b := by omega
    have hnb : Nat.blt b qnE = false := by
      cases hb9 : Nat.blt b qnE with
      | false => rfl
      | true =>
        have h9 : b < qnE := Nat.le_of_ble_eq_true hb9
        omega
    refine ⟨_, ?_, c_add_in d r b (Int32.ofNat m) (Int32.ofNat len) v li σ k3 k4 hnb ((n32lt (by omega) (by omega)).mpr hl) (by rw [k2]; exact Int32.le_refl _) (qix_n (by omega) (by omega))⟩
    refine ⟨⟨by rw [List.length_set, List.length_set]; exact g1.1, sz.set (sz.set g1.2 k4 (by simp [qcs])) (qs_ne hrb.symm k3) rfl⟩, fun k c hk hc => ?_, Or.inr ⟨b, li.set (Int32.ofNat len).toNatClampNeg (b8 v), k1, ?_, ?_, qs_ne hrb (qs_at k4)⟩⟩
    · have hkl : k < σ0.length := (List.getElem?_eq_some_iff.mp hc).1
      exact qs_ne (fun z => hk z.symm) (qs_ne (by omega) (g2 k c hk hc))
    · rw [List.length_set]; exact k2
    · have e : Int32.ofNat len + 1 = Int32.ofNat (len + 1) := n32i len
      rw [e]
      exact qs_at (qs_ne hrb.symm k3)
theorem feedInt_turn (d : Nat) (w s : Int32) (σ0 σ : qH) (len : Nat) (hF : freshN σ0) (hB : freshB σ0) (hσ : qnE ≤ σ0.length) (hI : rowI 64 8000 σ0 σ len) (hl : len < 8000) (hs : ¬ s < 0) : ∃ σ' : qH, rowI 64 8000 σ0 σ' (len + 1) ∧ ∀ o, G ξ (d + 1) j_N_feedInt 3 [(0, .ref 16), (1, .int w), (2, .int (s + Int32.ofInt (-8)))] [] σ' o → G ξ (d + 1) j_N_feedInt 3 [(0, .ref 16), (1, .int w), (2, .int s)] [] σ o := by
  obtain ⟨hN, hT, hV, hK, hA, hR⟩ := hF
  have q1 := hI.2.1 16 _ (by decide) hN
  have q2 := hI.2.1 63 _ (by decide) hA
  have q3 : ∃ fs, σ[64]? = some (.inl (5, fs)) := by
    rcases hI.2.2 with ⟨-, rfl⟩ | ⟨b, li, -, -, k3, -⟩
    · exact ⟨_, hR⟩
    · exact ⟨_, k3⟩
  obtain ⟨fs, q3⟩ := q3
  obtain ⟨σ', r1, r2⟩ := rowI.add (ξ := ξ) d ((w.toUInt32 >>> (s.toUInt32 &&& Int32.toUInt32 31)).toInt32 &&& 255) hR hB.2.1 hσ rfl (by decide) (by decide) hI hl
  refine ⟨σ', r1, fun o g => ?_⟩
  refine G.go 2 (fun n => (rfl : _ = exe ξ n (d + 1) j_N_feedInt (if s < 0 then 31 else 7) [(0, .ref 16), (1, .int w), (2, .int s)] [] σ)) ?_
  rw [if_neg hs]
  refine G.go 1 (fun n => (rfl : _ = exe ξ n (d + 1) j_N_feedInt 8 [(0, .ref 16), (1, .int w), (2, .int s)] [.ref 16] σ)) ?_
  refine G.get rfl rfl rfl q1 rfl ?_
  refine G.get rfl rfl rfl q2 rfl ?_
  refine G.go 5 (fun n => (rfl : _ = exe ξ n (d + 1) j_N_feedInt 21 [(0, .ref 16), (1, .int w), (2, .int s)] [.int ((w.toUInt32 >>> (s.toUInt32 &&& Int32.toUInt32 31)).toInt32 &&& 255), .ref 64] σ)) ?_
  refine G.call (k := j_R_add) (as := [.ref 64, .int ((w.toUInt32 >>> (s.toUInt32 &&& Int32.toUInt32 31)).toInt32 &&& 255)]) (r := []) (v := some (.int 1)) rfl rfl rfl rfl rfl rfl rfl ?_ r2 ?_
  · show (bif qrc _ 64 j_R_add && _ then _ else _) = _
    rw [qrc_at rfl q3 rfl]
    rfl
  exact G.go 3 (fun n => rfl) g
theorem c_feedInt (d : Nat) (w : Int32) (σ0 σ : qH) (len : Nat) (hF : freshN σ0) (hB : freshB σ0) (hσ : qnE ≤ σ0.length) (hI : rowI 64 8000 σ0 σ len) (hl : len + 4 ≤ 8000) : ∃ σ' : qH, rowI 64 8000 σ0 σ' (len + 4) ∧ G ξ (d + 1) j_N_feedInt 0 (lv_args 0 [.ref 16, .int w]) [] σ (none, σ') := by
  obtain ⟨σ1, i1, g1⟩ := feedInt_turn (ξ := ξ) d w 24 σ0 σ len hF hB hσ hI (by omega) (by decide)
  obtain ⟨σ2, i2, g2⟩ := feedInt_turn (ξ := ξ) d w 16 σ0 σ1 (len + 1) hF hB hσ i1 (by omega) (by decide)
  obtain ⟨σ3, i3, g3⟩ := feedInt_turn (ξ := ξ) d w 8 σ0 σ2 (len + 2) hF hB hσ i2 (by omega) (by decide)
  obtain ⟨σ4, i4, g4⟩ := feedInt_turn (ξ := ξ) d w 0 σ0 σ3 (len + 3) hF hB hσ i3 (by omega) (by decide)
  refine ⟨σ4, i4, ?_⟩
  refine G.go 2 (fun n => (rfl : _ = exe ξ n (d + 1) j_N_feedInt 3 [(0, .ref 16), (1, .int w), (2, .int 24)] [] σ)) ?_
  exact g1 _ (g2 _ (g3 _ (g4 _ (G.end 3 (fun n => rfl)))))
theorem pN_feed (d : Nat) (a b c e f : Int32) (σ : qH) (hF : freshN σ) (hB : freshB σ) (hσ : qnE ≤ σ.length) : ∃ σ1 : qH, (keepM σ σ1 ∧ sz 1 8010 σ σ1) ∧ G ξ (d + 2) j_N_feed 0 (lv_args 0 [.ref 16, .int a, .int b, .int c, .int e, .int f]) [] σ (some (.int 1), σ1) := by
  obtain ⟨σ1, i1, g1⟩ := c_feedInt (ξ := ξ) d a σ σ 0 hF hB hσ (rowI.start _ _ _) (by decide)
  obtain ⟨σ2, i2, g2⟩ := c_feedInt (ξ := ξ) d b σ σ1 4 hF hB hσ i1 (by decide)
  obtain ⟨σ3, i3, g3⟩ := c_feedInt (ξ := ξ) d c σ σ2 8 hF hB hσ i2 (by decide)
  obtain ⟨σ4, i4, g4⟩ := c_feedInt (ξ := ξ) d e σ σ3 12 hF hB hσ i3 (by decide)
  obtain ⟨σ5, i5, g5⟩ := c_feedInt (ξ := ξ) d f σ σ4 16 hF hB hσ i4 (by decide)
  obtain ⟨hN, hT, hV, hK, hA, hR⟩ := hF
  refine ⟨σ5, ⟨fun k c hk h => i5.2.1 k c (by omega) h, sz.mono i5.1.2 (by decide) (by decide)⟩, ?_⟩
  refine G.go 1 (fun n => (rfl : _ = exe ξ n (d + 2) j_N_feed 1 [(0, .ref 16), (1, .int a), (2, .int b), (3, .int c), (4, .int e), (5, .int f)] [.ref 16] σ)) ?_
  refine G.get rfl rfl rfl hN rfl ?_
  refine G.get rfl rfl rfl hA rfl ?_
  refine G.get rfl rfl rfl hR rfl ?_
  refine G.go 4 (fun n => (rfl : _ = exe ξ n (d + 2) j_N_feed 20 [(0, .ref 16), (1, .int a), (2, .int b), (3, .int c), (4, .int e), (5, .int f)] [.int a, .ref 16] σ)) ?_
  refine G.call (k := j_N_feedInt) (as := [.ref 16, .int a]) (r := []) (v := none) rfl rfl rfl rfl rfl rfl rfl ?_ g1 ?_
  · show (bif qrc _ 16 j_N_feedInt && _ then _ else _) = _
    rw [qrc_at rfl hN rfl]
    rfl
  refine G.go 2 (fun n => (rfl : _ = exe ξ n (d + 2) j_N_feed 25 [(0, .ref 16), (1, .int a), (2, .int b), (3, .int c), (4, .int e), (5, .int f)] [.int b, .ref 16] σ1)) ?_
  refine G.call (k := j_N_feedInt) (as := [.ref 16, .int b]) (r := []) (v := none) rfl rfl rfl rfl rfl rfl rfl ?_ g2 ?_
  · show (bif qrc _ 16 j_N_feedInt && _ then _ else _) = _
    rw [qrc_at rfl (i1.2.1 16 _ (by decide) hN) rfl]
    rfl
  refine G.go 2 (fun n => (rfl : _ = exe ξ n (d + 2) j_N_feed 30 [(0, .ref 16), (1, .int a), (2, .int b), (3, .int c), (4, .int e), (5, .int f)] [.int c, .ref 16] σ2)) ?_
  refine G.call (k := j_N_feedInt) (as := [.ref 16, .int c]) (r := []) (v := none) rfl rfl rfl rfl rfl rfl rfl ?_ g3 ?_
  · show (bif qrc _ 16 j_N_feedInt && _ then _ else _) = _
    rw [qrc_at rfl (i2.2.1 16 _ (by decide) hN) rfl]
    rfl
  refine G.go 2 (fun n => (rfl : _ = exe ξ n (d + 2) j_N_feed 36 [(0, .ref 16), (1, .int a), (2, .int b), (3, .int c), (4, .int e), (5, .int f)] [.int e, .ref 16] σ3)) ?_
  refine G.call (k := j_N_feedInt) (as := [.ref 16, .int e]) (r := []) (v := none) rfl rfl rfl rfl rfl rfl rfl ?_ g4 ?_
  · show (bif qrc _ 16 j_N_feedInt && _ then _ else _) = _
    rw [qrc_at rfl (i3.2.1 16 _ (by decide) hN) rfl]
    rfl
  refine G.go 2 (fun n => (rfl : _ = exe ξ n (d + 2) j_N_feed 42 [(0, .ref 16), (1, .int a), (2, .int b), (3, .int c), (4, .int e), (5, .int f)] [.int f, .ref 16] σ4)) ?_
  refine G.call (k := j_N_feedInt) (as := [.ref 16, .int f]) (r := []) (v := none) rfl rfl rfl rfl rfl rfl rfl ?_ g5 ?_
  · show (bif qrc _ 16 j_N_feedInt && _ then _ else _) = _
    rw [qrc_at rfl (i4.2.1 16 _ (by decide) hN) rfl]
    rfl
  exact G.end 2 (fun n => rfl)
theorem n32m (k r : Nat) : Int32.ofNat k * Int32.ofNat r = Int32.ofNat (k * r) := (Int32.ofNat_mul k r).symm
theorem n32d {k m : Nat} (hk : k < 2147483648) (hm : m < 2147483648) : Int32.ofNat k / Int32.ofNat m = Int32.ofNat (k / m) := by
  apply Int32.toInt_inj.mp
  have h9 : k / m ≤ k := Nat.div_le_self k m
  rw [Jvm.Kit.i32_div (by rw [n32 hk]; omega), n32 hk, n32 hm, n32 (by omega)]
  exact (Int.ofNat_tdiv k m).symm
theorem c_put (d x c r k : Nat) (v : Int32) (fs : List Value) (lc : List Int64) (σ : qH) (hx : σ[x]? = some (.inl (7, fs))) (hfc : fs[1]? = some (.ref c)) (hc : σ[c]? = some (.inr (.inr (.inl lc)))) (hl : lc.length = 7000) (hr : r < 7) (hk : k < 8000) : ∃ y : Int64, G ξ d j_M_put 0 (lv_args 0 [.ref x, .int (Int32.ofNat r), .int (Int32.ofNat k), .int v]) [] σ (none, σ.set c (.inr (.inr (.inl (lc.set (1000 * r + k / 8) y))))) := by
  have hk8 : k / 8 < 1000 := by omega
  have e1 : (1000 : Int32) * Int32.ofNat r + Int32.ofNat k / 8 = Int32.ofNat (1000 * r + k / 8) := by
    rw [show (1000 : Int32) = Int32.ofNat 1000 from rfl, show (8 : Int32) = Int32.ofNat 8 from rfl, n32m, n32d (by omega) (by omega), n32a]
  obtain ⟨up, hup⟩ : ∃ up : Int32, up = 8 * (Int32.ofNat k - Int32.ofNat k / 8 * 8) := ⟨_, rfl⟩
  refine ⟨(lc.getD (1000 * r + k / 8) 0 &&& ((255 : Int64) <<< (up.toInt64 &&& 63) ^^^ (-1 : Int64))) ||| ((v.toInt64 &&& (255 : Int64)) <<< (up.toInt64 &&& 63)), ?_⟩
  refine G.go 7 (fun n => (rfl : _ = exe ξ n d j_M_put 10 [(0, .ref x), (1, .int (Int32.ofNat r)), (2, .int (Int32.ofNat k)), (3, .int v)] [.int (1000 * Int32.ofNat r + Int32.ofNat k / 8)] σ)) ?_
  rw [e1]
  refine G.go 6 (fun n => (rfl : _ = exe ξ n d j_M_put 19 [(0, .ref x), (1, .int (Int32.ofNat r)), (2, .int (Int32.ofNat k)), (3, .int v), (4, .int (Int32.ofNat (1000 * r + k / 8)))] [.int (8 * (Int32.ofNat k - Int32.ofNat k / 8 * 8))] σ)) ?_
  rw [← hup]
  refine G.go 2 (fun n => (rfl : _ = exe ξ n d j_M_put 22 [(0, .ref x), (1, .int (Int32.ofNat r)), (2, .int (Int32.ofNat k)), (3, .int v), (4, .int (Int32.ofNat (1000 * r + k / 8))), (5, .int up)] [.ref x] σ)) ?_
  refine G.get rfl rfl rfl hx hfc ?_
  refine G.go 2 (fun n => (rfl : _ = exe ξ n d j_M_put 28 [(0, .ref x), (1, .int (Int32.ofNat r)), (2, .int (Int32.ofNat k)), (3, .int v), (4, .int (Int32.ofNat (1000 * r + k / 8))), (5, .int up)] [.ref x, .int (Int32.ofNat (1000 * r + k / 8)), .ref c] σ)) ?_
  refine G.get rfl rfl rfl hx hfc ?_
  refine G.go 1 (fun n => (rfl : _ = exe ξ n d j_M_put 33 [(0, .ref x), (1, .int (Int32.ofNat r)), (2, .int (Int32.ofNat k)), (3, .int v), (4, .int (Int32.ofNat (1000 * r + k / 8))), (5, .int up)] [.int (Int32.ofNat (1000 * r + k / 8)), .ref c, .int (Int32.ofNat (1000 * r + k / 8)), .ref c] σ)) ?_
  refine G.lald rfl hc (qix_n (by omega) (by omega)) ?_
  rw [n32c (by omega)]
  refine G.go 13 (fun n => (rfl : _ = exe ξ n d j_M_put 55 [(0, .ref x), (1, .int (Int32.ofNat r)), (2, .int (Int32.ofNat k)), (3, .int v), (4, .int (Int32.ofNat (1000 * r + k / 8))), (5, .int up)] [.long ((lc.getD (1000 * r + k / 8) 0 &&& ((255 : Int64) <<< (up.toInt64 &&& 63) ^^^ (-1 : Int64))) ||| ((v.toInt64 &&& (255 : Int64)) <<< (up.toInt64 &&& 63))), .int (Int32.ofNat (1000 * r + k / 8)), .ref c] σ)) ?_
  refine G.last rfl hc (qix_n (by omega) (by omega)) ?_
  rw [n32c (by omega)]
  exact G.end 1 (fun n => rfl)
theorem c_copy_loop (d x c r1 r2 : Nat) (fs : List Value) (hfc : fs[1]? = some (.ref c)) (h1 : r1 < 7) (h2 : r2 < 7) : ∀ (f m : Nat) (lc : List Int64) (σ : qH), m + f = 1000 → lc.length = 7000 → σ[x]? = some (.inl (7, fs)) → σ[c]? = some (.inr (.inr (.inl lc))) → ∃ lc' : List Int64, lc'.length = 7000 ∧ ∀ o, G ξ d j_M_copyRow 39 [(0, .ref x), (1, .int (Int32.ofNat r1)), (2, .int (Int32.ofNat r2)), (3, .int (Int32.ofNat 1000))] [] (σ.set c (.inr (.inr (.inl lc')))) o → G ξ d j_M_copyRow 2 [(0, .ref x), (1, .int (Int32.ofNat r1)), (2, .int (Int32.ofNat r2)), (3, .int (Int32.ofNat m))] [] σ o := by
  intro f
  induction f with
  | zero =>
    intro m lc σ hm hl hx hc
    have e : m = 1000 := by omega
    subst e
    refine ⟨lc, hl, fun o g => ?_⟩
    rw [qs_id hc] at g
    exact G.go 3 (fun n => rfl) g
  | succ f ih =>
    intro m lc σ hm hl hx hc
    have hxc : x ≠ c := q_dif hx hc (by intro z; cases z)
    obtain ⟨lc', g1, g2⟩ := ih (m + 1) (lc.set (1000 * r2 + m) (lc.getD (1000 * r1 + m) 0)) (σ.set c (.inr (.inr (.inl (lc.set (1000 * r2 + m) (lc.getD (1000 * r1 + m) 0)))))) (by omega) (by rw [List.length_set]; exact hl) (qs_ne hxc.symm hx) (qs_at hc)
    refine ⟨lc', g1, fun o g => ?_⟩
    have g3 := g2 o (by rw [List.set_set]; exact g)
    have e1 : ∀ r : Nat, (1000 : Int32) * Int32.ofNat r + Int32.ofNat m = Int32.ofNat (1000 * r + m) := fun r => by
      rw [show (1000 : Int32) = Int32.ofNat 1000 from rfl, n32m, n32a]
    refine G.go 3 (fun n => (rfl : _ = exe ξ n d j_M_copyRow (if (1000 : Int32) ≤ Int32.ofNat m then 39 else 9) [(0, .ref x), (1, .int (Int32.ofNat r1)), (2, .int (Int32.ofNat r2)), (3, .int (Int32.ofNat m))] [] σ)) ?_
    rw [if_neg (fun z => by have := (n32le (a := 1000) (by omega) (by omega)).mp z; omega)]
    refine G.go 1 (fun n => (rfl : _ = exe ξ n d j_M_copyRow 10 [(0, .ref x), (1, .int (Int32.ofNat r1)), (2, .int (Int32.ofNat r2)), (3, .int (Int32.ofNat m))] [.ref x] σ)) ?_
    refine G.get rfl rfl rfl hx hfc ?_
    refine G.go 6 (fun n => (rfl : _ = exe ξ n d j_M_copyRow 21 [(0, .ref x), (1, .int (Int32.ofNat r1)), (2, .int (Int32.ofNat r2)), (3, .int (Int32.ofNat m))] [.ref x, .int (1000 * Int32.ofNat r2 + Int32.ofNat m), .ref c] σ)) ?_
    rw [e1]
    refine G.get rfl rfl rfl hx hfc ?_
    refine G.go 5 (fun n => (rfl : _ = exe ξ n d j_M_copyRow 31 [(0, .ref x), (1, .int (Int32.ofNat r1)), (2, .int (Int32.ofNat r2)), (3, .int (Int32.ofNat m))] [.int (1000 * Int32.ofNat r1 + Int32.ofNat m), .ref c, .int (Int32.ofNat (1000 * r2 + m)), .ref c] σ)) ?_
    rw [e1]
    refine G.lald rfl hc (qix_n (by omega) (by omega)) ?_
    rw [n32c (by omega)]
    refine G.last rfl hc (qix_n (by omega) (by omega)) ?_
    rw [n32c (by omega)]
    refine G.go 2 (fun n => (rfl : _ = exe ξ n d j_M_copyRow 2 [(0, .ref x), (1, .int (Int32.ofNat r1)), (2, .int (Int32.ofNat r2)), (3, .int (Int32.ofNat m + Int32.ofInt 1))] [] (σ.set c (.inr (.inr (.inl (lc.set (1000 * r2 + m) (lc.getD (1000 * r1 + m) 0)))))))) ?_
    rw [n32i]
    exact g3
theorem c_copyRow (d x c l r1 r2 : Nat) (fs : List Value) (lc : List Int64) (li : List Int32) (σ : qH) (hfc : fs[1]? = some (.ref c)) (hfl : fs[2]? = some (.ref l)) (h1 : r1 < 7) (h2 : r2 < 7) (hlc : lc.length = 7000) (hli : li.length = 7) (hnl : Nat.blt l qnE = false) (hx : σ[x]? = some (.inl (7, fs))) (hc : σ[c]? = some (.inr (.inr (.inl lc)))) (hl : σ[l]? = some (.inr (.inl (0, li)))) : ∃ lc' : List Int64, lc'.length = 7000 ∧ G ξ d j_M_copyRow 0 (lv_args 0 [.ref x, .int (Int32.ofNat r1), .int (Int32.ofNat r2)]) [] σ (none, (σ.set c (.inr (.inr (.inl lc')))).set l (.inr (.inl (0, li.set r2 (li.getD r1 0))))) := by
  have hxc : x ≠ c := q_dif hx hc (by intro z; cases z)
  have hcl : c ≠ l := q_dif hc hl (by intro z; cases z)
  obtain ⟨lc', k1, k2⟩ := c_copy_loop (ξ := ξ) d x c r1 r2 fs hfc h1 h2 1000 0 lc σ rfl hlc hx hc
  refine ⟨lc', k1, ?_⟩
  refine G.go 2 (fun n => (rfl : _ = exe ξ n d j_M_copyRow 2 [(0, .ref x), (1, .int (Int32.ofNat r1)), (2, .int (Int32.ofNat r2)), (3, .int (Int32.ofNat 0))] [] σ)) ?_
  refine k2 _ ?_
  refine G.go 1 (fun n => (rfl : _ = exe ξ n d j_M_copyRow 40 [(0, .ref x), (1, .int (Int32.ofNat r1)), (2, .int (Int32.ofNat r2)), (3, .int (Int32.ofNat 1000))] [.ref x] (σ.set c (.inr (.inr (.inl lc')))))) ?_
  refine G.get rfl rfl rfl (qs_ne hxc.symm hx) hfl ?_
  refine G.go 2 (fun n => (rfl : _ = exe ξ n d j_M_copyRow 45 [(0, .ref x), (1, .int (Int32.ofNat r1)), (2, .int (Int32.ofNat r2)), (3, .int (Int32.ofNat 1000))] [.ref x, .int (Int32.ofNat r2), .ref l] (σ.set c (.inr (.inr (.inl lc')))))) ?_
  refine G.get rfl rfl rfl (qs_ne hxc.symm hx) hfl ?_
  refine G.go 1 (fun n => (rfl : _ = exe ξ n d j_M_copyRow 49 [(0, .ref x), (1, .int (Int32.ofNat r1)), (2, .int (Int32.ofNat r2)), (3, .int (Int32.ofNat 1000))] [.int (Int32.ofNat r1), .ref l, .int (Int32.ofNat r2), .ref l] (σ.set c (.inr (.inr (.inl lc')))))) ?_
  refine G.iald rfl hnl (qs_ne hcl hl) (qix_n (by omega) (by omega)) ?_
  rw [n32c (by omega)]
  refine G.iast rfl (qs_ne hcl hl) (qix_n (by omega) (by omega)) ?_
  rw [n32c (by omega)]
  exact G.end 1 (fun n => rfl)
theorem pM_put (d k : Nat) (v : Int32) (fs : List Value) (lc : List Int64) (σ : qH) (hx : σ[137]? = some (.inl (7, fs))) (hfc : fs[1]? = some (.ref 138)) (hc : σ[138]? = some (.inr (.inr (.inl lc)))) (hl : lc.length = 7000) (hk : k < 8000) : ∃ (σ' : qH) (lc' : List Int64), σ'[138]? = some (.inr (.inr (.inl lc'))) ∧ lc'.length = 7000 ∧ ((∀ (j : Nat) (c : qC), j ≠ 138 → σ[j]? = some c → σ'[j]? = some c) ∧ sz 0 0 σ σ') ∧ G ξ d j_M_put 0 (lv_args 0 [.ref 137, .int (Int32.ofNat 0), .int (Int32.ofNat k), .int v]) [] σ (none, σ') := by
  obtain ⟨y, g⟩ := c_put (ξ := ξ) d 137 138 0 k v fs lc σ hx hfc hc hl (by decide) hk
  exact ⟨_, _, qs_at hc, by rw [List.length_set]; exact hl, ⟨fun j c hj h => qs_ne (fun z => hj z.symm) h, sz.set (sz.refl σ) hc (by simp [qcs])⟩, g⟩
set_option maxHeartbeats 2000000 in
theorem pM_feed (d : Nat) (a b c e f : Int32) (lc : List Int64) (σ : qH) (hF : freshM σ) (h1 : σ[138]? = some (.inr (.inr (.inl lc)))) (h1l : lc.length = 7000) : ∃ (σ2 : qH) (fs : List Value), σ2[137]? = some (.inl (7, .int 0 :: fs)) ∧ ((∀ c, σ[146]? = some c → σ2[146]? = some c) ∧ sz 0 0 σ σ2) ∧ G ξ (d + 8) j_M_feed 0 (lv_args 0 [.ref 137, .int a, .int b, .int c, .int e, .int f]) [] σ (some (.int 1), σ2) := by
  obtain ⟨h0, h2⟩ := hF
  obtain ⟨τ1, lc1, a1, b1, ⟨q1, s1⟩, g1⟩ := pM_put (ξ := ξ) (d + 7) 0 (a >>> ((24 : Int32) &&& 31)) _ _ (σ.set 137 (.inl (7, [.int 0, .ref 138, .ref 139, .int 0, .int 0, .ref 140, .int 0, .int (-1), .int 0, .ref 141, .int 0, .int 0, .ref 142, .ref 143, .int 0, .int 0, .int 0, .int 0, .int 0, .int 0, .int 0, .ref 144, .int 0, .ref 145, .int 0, .int 0]))) (qs_at h0) rfl (qs_ne (by decide) h1) h1l (by decide)
  have h0_1 := q1 137 _ (by decide) (qs_at h0)
  have h2_1 := q1 139 _ (by decide) (qs_ne (by decide) h2)
  have o_1 := fun c h => q1 146 c (by decide) (qs_ne (by decide) h)
  have z_1 := sz.trans (sz.set (sz.refl σ) h0 (by simp [qcs])) s1
  obtain ⟨τ2, lc2, a2, b2, ⟨q2, s2⟩, g2⟩ := pM_put (ξ := ξ) (d + 7) 1 (a >>> ((16 : Int32) &&& 31)) _ _ τ1 h0_1 rfl a1 b1 (by decide)
  have h0_2 := q2 137 _ (by decide) h0_1
  have h2_2 := q2 139 _ (by decide) h2_1
  have o_2 := fun c h => q2 146 c (by decide) (o_1 c h)
  have z_2 := sz.trans z_1 s2
  obtain ⟨τ3, lc3, a3, b3, ⟨q3, s3⟩, g3⟩ := pM_put (ξ := ξ) (d + 7) 2 (a >>> ((8 : Int32) &&& 31)) _ _ τ2 h0_2 rfl a2 b2 (by decide)
  have h0_3 := q3 137 _ (by decide) h0_2
  have h2_3 := q3 139 _ (by decide) h2_2
  have o_3 := fun c h => q3 146 c (by decide) (o_2 c h)
  have z_3 := sz.trans z_2 s3
  obtain ⟨τ4, lc4, a4, b4, ⟨q4, s4⟩, g4⟩ := pM_put (ξ := ξ) (d + 7) 3 (a >>> ((0 : Int32) &&& 31)) _ _ τ3 h0_3 rfl a3 b3 (by decide)
  have h0_4 := q4 137 _ (by decide) h0_3
  have h2_4 := q4 139 _ (by decide) h2_3
  have o_4 := fun c h => q4 146 c (by decide) (o_3 c h)
  have z_4 := sz.trans z_3 s4
  obtain ⟨τ5, lc5, a5, b5, ⟨q5, s5⟩, g5⟩ := pM_put (ξ := ξ) (d + 7) 4 (b >>> ((24 : Int32) &&& 31)) _ _ τ4 h0_4 rfl a4 b4 (by decide)
  have h0_5 := q5 137 _ (by decide) h0_4
  have h2_5 := q5 139 _ (by decide) h2_4
  have o_5 := fun c h => q5 146 c (by decide) (o_4 c h)
  have z_5 := sz.trans z_4 s5
  obtain ⟨τ6, lc6, a6, b6, ⟨q6, s6⟩, g6⟩ := pM_put (ξ := ξ) (d + 7) 5 (b >>> ((16 : Int32) &&& 31)) _ _ τ5 h0_5 rfl a5 b5 (by decide)
  have h0_6 := q6 137 _ (by decide) h0_5
  have h2_6 := q6 139 _ (by decide) h2_5
  have o_6 := fun c h => q6 146 c (by decide) (o_5 c h)
  have z_6 := sz.trans z_5 s6
  obtain ⟨τ7, lc7, a7, b7, ⟨q7, s7⟩, g7⟩ := pM_put (ξ := ξ) (d + 7) 6 (b >>> ((8 : Int32) &&& 31)) _ _ τ6 h0_6 rfl a6 b6 (by decide)
  have h0_7 := q7 137 _ (by decide) h0_6
  have h2_7 := q7 139 _ (by decide) h2_6
  have o_7 := fun c h => q7 146 c (by decide) (o_6 c h)
  have z_7 := sz.trans z_6 s7
  obtain ⟨τ8, lc8, a8, b8, ⟨q8, s8⟩, g8⟩ := pM_put (ξ := ξ) (d + 7) 7 (b >>> ((0 : Int32) &&& 31)) _ _ τ7 h0_7 rfl a7 b7 (by decide)
  have h0_8 := q8 137 _ (by decide) h0_7
  have h2_8 := q8 139 _ (by decide) h2_7
  have o_8 := fun c h => q8 146 c (by decide) (o_7 c h)
  have z_8 := sz.trans z_7 s8
  obtain ⟨τ9, lc9, a9, b9, ⟨q9, s9⟩, g9⟩ := pM_put (ξ := ξ) (d + 7) 8 (c >>> ((24 : Int32) &&& 31)) _ _ τ8 h0_8 rfl a8 b8 (by decide)
  have h0_9 := q9 137 _ (by decide) h0_8
  have h2_9 := q9 139 _ (by decide) h2_8
  have o_9 := fun c h => q9 146 c (by decide) (o_8 c h)
  have z_9 := sz.trans z_8 s9
  obtain ⟨τ10, lc10, a10, b10, ⟨q10, s10⟩, g10⟩ := pM_put (ξ := ξ) (d + 7) 9 (c >>> ((16 : Int32) &&& 31)) _ _ τ9 h0_9 rfl a9 b9 (by decide)
  have h0_10 := q10 137 _ (by decide) h0_9
  have h2_10 := q10 139 _ (by decide) h2_9
  have o_10 := fun c h => q10 146 c (by decide) (o_9 c h)
  have z_10 := sz.trans z_9 s10
  obtain ⟨τ11, lc11, a11, b11, ⟨q11, s11⟩, g11⟩ := pM_put (ξ := ξ) (d + 7) 10 (c >>> ((8 : Int32) &&& 31)) _ _ τ10 h0_10 rfl a10 b10 (by decide)
  have h0_11 := q11 137 _ (by decide) h0_10
  have h2_11 := q11 139 _ (by decide) h2_10
  have o_11 := fun c h => q11 146 c (by decide) (o_10 c h)
  have z_11 := sz.trans z_10 s11
  obtain ⟨τ12, lc12, a12, b12, ⟨q12, s12⟩, g12⟩ := pM_put (ξ := ξ) (d + 7) 11 (c >>> ((0 : Int32) &&& 31)) _ _ τ11 h0_11 rfl a11 b11 (by decide)
  have h0_12 := q12 137 _ (by decide) h0_11
  have h2_12 := q12 139 _ (by decide) h2_11
  have o_12 := fun c h => q12 146 c (by decide) (o_11 c h)
  have z_12 := sz.trans z_11 s12
  obtain ⟨τ13, lc13, a13, b13, ⟨q13, s13⟩, g13⟩ := pM_put (ξ := ξ) (d + 7) 12 (e >>> ((24 : Int32) &&& 31)) _ _ τ12 h0_12 rfl a12 b12 (by decide)
  have h0_13 := q13 137 _ (by decide) h0_12
  have h2_13 := q13 139 _ (by decide) h2_12
  have o_13 := fun c h => q13 146 c (by decide) (o_12 c h)
  have z_13 := sz.trans z_12 s13
  obtain ⟨τ14, lc14, a14, b14, ⟨q14, s14⟩, g14⟩ := pM_put (ξ := ξ) (d + 7) 13 (e >>> ((16 : Int32) &&& 31)) _ _ τ13 h0_13 rfl a13 b13 (by decide)
  have h0_14 := q14 137 _ (by decide) h0_13
  have h2_14 := q14 139 _ (by decide) h2_13
  have o_14 := fun c h => q14 146 c (by decide) (o_13 c h)
  have z_14 := sz.trans z_13 s14
  obtain ⟨τ15, lc15, a15, b15, ⟨q15, s15⟩, g15⟩ := pM_put (ξ := ξ) (d + 7) 14 (e >>> ((8 : Int32) &&& 31)) _ _ τ14 h0_14 rfl a14 b14 (by decide)
  have h0_15 := q15 137 _ (by decide) h0_14
  have h2_15 := q15 139 _ (by decide) h2_14
  have o_15 := fun c h => q15 146 c (by decide) (o_14 c h)
  have z_15 := sz.trans z_14 s15
  obtain ⟨τ16, lc16, a16, b16, ⟨q16, s16⟩, g16⟩ := pM_put (ξ := ξ) (d + 7) 15 (e >>> ((0 : Int32) &&& 31)) _ _ τ15 h0_15 rfl a15 b15 (by decide)
  have h0_16 := q16 137 _ (by decide) h0_15
  have h2_16 := q16 139 _ (by decide) h2_15
  have o_16 := fun c h => q16 146 c (by decide) (o_15 c h)
  have z_16 := sz.trans z_15 s16
  obtain ⟨τ17, lc17, a17, b17, ⟨q17, s17⟩, g17⟩ := pM_put (ξ := ξ) (d + 7) 16 (f >>> ((24 : Int32) &&& 31)) _ _ τ16 h0_16 rfl a16 b16 (by decide)
  have h0_17 := q17 137 _ (by decide) h0_16
  have h2_17 := q17 139 _ (by decide) h2_16
  have o_17 := fun c h => q17 146 c (by decide) (o_16 c h)
  have z_17 := sz.trans z_16 s17
  obtain ⟨τ18, lc18, a18, b18, ⟨q18, s18⟩, g18⟩ := pM_put (ξ := ξ) (d + 7) 17 (f >>> ((16 : Int32) &&& 31)) _ _ τ17 h0_17 rfl a17 b17 (by decide)
  have h0_18 := q18 137 _ (by decide) h0_17
  have h2_18 := q18 139 _ (by decide) h2_17
  have o_18 := fun c h => q18 146 c (by decide) (o_17 c h)
  have z_18 := sz.trans z_17 s18
  obtain ⟨τ19, lc19, a19, b19, ⟨q19, s19⟩, g19⟩ := pM_put (ξ := ξ) (d + 7) 18 (f >>> ((8 : Int32) &&& 31)) _ _ τ18 h0_18 rfl a18 b18 (by decide)
  have h0_19 := q19 137 _ (by decide) h0_18
  have h2_19 := q19 139 _ (by decide) h2_18
  have o_19 := fun c h => q19 146 c (by decide) (o_18 c h)
  have z_19 := sz.trans z_18 s19
  obtain ⟨τ20, lc20, a20, b20, ⟨q20, s20⟩, g20⟩ := pM_put (ξ := ξ) (d + 7) 19 (f >>> ((0 : Int32) &&& 31)) _ _ τ19 h0_19 rfl a19 b19 (by decide)
  have h0_20 := q20 137 _ (by decide) h0_19
  have h2_20 := q20 139 _ (by decide) h2_19
  have o_20 := fun c h => q20 146 c (by decide) (o_19 c h)
  have z_20 := sz.trans z_19 s20
  refine ⟨(τ20.set 139 (.inr (.inl (0, ((List.replicate 7 0).set 0 20))))), _, (qs_ne (by decide) h0_20), ⟨fun c h => qs_ne (by decide) (o_20 c h), (sz.set z_20 h2_20 (by simp [qcs]))⟩, ?_⟩
  refine G.go 2 (fun n => (rfl : _ = exe ξ n (d + 8) j_M_feed 2 [(0, .ref 137), (1, .int a), (2, .int b), (3, .int c), (4, .int e), (5, .int f)] [.int 0, .ref 137] σ)) ?_
  refine G.put rfl rfl h0 rfl rfl rfl ?_
  refine G.go 1 (fun n => (rfl : _ = exe ξ n (d + 8) j_M_feed 6 [(0, .ref 137), (1, .int a), (2, .int b), (3, .int c), (4, .int e), (5, .int f)] [.ref 137] (σ.set 137 (.inl (7, [.int 0, .ref 138, .ref 139, .int 0, .int 0, .ref 140, .int 0, .int (-1), .int 0, .ref 141, .int 0, .int 0, .ref 142, .ref 143, .int 0, .int 0, .int 0, .int 0, .int 0, .int 0, .int 0, .ref 144, .int 0, .ref 145, .int 0, .int 0]))))) ?_
  refine G.get rfl rfl rfl (qs_at h0) rfl ?_
  refine G.go 1 (fun n => (rfl : _ = exe ξ n (d + 8) j_M_feed 10 [(0, .ref 137), (1, .int a), (2, .int b), (3, .int c), (4, .int e), (5, .int f)] [.int 0, .ref 139] (σ.set 137 (.inl (7, [.int 0, .ref 138, .ref 139, .int 0, .int 0, .ref 140, .int 0, .int (-1), .int 0, .ref 141, .int 0, .int 0, .ref 142, .ref 143, .int 0, .int 0, .int 0, .int 0, .int 0, .int 0, .int 0, .ref 144, .int 0, .ref 145, .int 0, .int 0]))))) ?_
  refine G.iald rfl rfl (qs_ne (by decide) h2) rfl ?_
  refine G.go 18 (fun n => (rfl : _ = exe ξ n (d + 8) j_M_feed 83 [(0, .ref 137), (1, .int a), (2, .int b), (3, .int c), (4, .int e), (5, .int f), (6, .int 0), (7, .int a)] [.ref 137, .int 0, .ref 137] (σ.set 137 (.inl (7, [.int 0, .ref 138, .ref 139, .int 0, .int 0, .ref 140, .int 0, .int (-1), .int 0, .ref 141, .int 0, .int 0, .ref 142, .ref 143, .int 0, .int 0, .int 0, .int 0, .int 0, .int 0, .int 0, .ref 144, .int 0, .ref 145, .int 0, .int 0]))))) ?_
  refine G.get rfl rfl rfl (qs_at h0) rfl ?_
  refine G.go 1 (fun n => (rfl : _ = exe ξ n (d + 8) j_M_feed 87 [(0, .ref 137), (1, .int a), (2, .int b), (3, .int c), (4, .int e), (5, .int f), (6, .int 0), (7, .int a)] [.int 0, .ref 139, .int 0, .ref 137] (σ.set 137 (.inl (7, [.int 0, .ref 138, .ref 139, .int 0, .int 0, .ref 140, .int 0, .int (-1), .int 0, .ref 141, .int 0, .int 0, .ref 142, .ref 143, .int 0, .int 0, .int 0, .int 0, .int 0, .int 0, .int 0, .ref 144, .int 0, .ref 145, .int 0, .int 0]))))) ?_
  refine G.iald rfl rfl (qs_ne (by decide) h2) rfl ?_
  refine G.go 11 (fun n => (rfl : _ = exe ξ n (d + 8) j_M_feed 104 [(0, .ref 137), (1, .int a), (2, .int b), (3, .int c), (4, .int e), (5, .int f), (6, .int 0), (7, .int a)] [.int (a >>> ((24 : Int32) &&& 31)), .int 0, .int 0, .ref 137] (σ.set 137 (.inl (7, [.int 0, .ref 138, .ref 139, .int 0, .int 0, .ref 140, .int 0, .int (-1), .int 0, .ref 141, .int 0, .int 0, .ref 142, .ref 143, .int 0, .int 0, .int 0, .int 0, .int 0, .int 0, .int 0, .ref 144, .int 0, .ref 145, .int 0, .int 0]))))) ?_
  refine G.call (k := j_M_put) (as := [.ref 137, .int 0, .int 0, .int (a >>> ((24 : Int32) &&& 31))]) (r := []) (v := none) (σ1 := τ1) rfl rfl rfl rfl rfl rfl rfl ?_ ?_ ?_
  · show (bif qrc _ 137 j_M_put && _ then _ else _) = _
    rw [qrc_at rfl (qs_at h0) rfl]
    rfl
  · exact g1
  refine G.go 14 (fun n => (rfl : _ = exe ξ n (d + 8) j_M_feed 83 [(0, .ref 137), (1, .int a), (2, .int b), (3, .int c), (4, .int e), (5, .int f), (6, .int 1), (7, .int a)] [.ref 137, .int 0, .ref 137] τ1)) ?_
  refine G.get rfl rfl rfl h0_1 rfl ?_
  refine G.go 1 (fun n => (rfl : _ = exe ξ n (d + 8) j_M_feed 87 [(0, .ref 137), (1, .int a), (2, .int b), (3, .int c), (4, .int e), (5, .int f), (6, .int 1), (7, .int a)] [.int 0, .ref 139, .int 0, .ref 137] τ1)) ?_
  refine G.iald rfl rfl h2_1 rfl ?_
  refine G.go 11 (fun n => (rfl : _ = exe ξ n (d + 8) j_M_feed 104 [(0, .ref 137), (1, .int a), (2, .int b), (3, .int c), (4, .int e), (5, .int f), (6, .int 1), (7, .int a)] [.int (a >>> ((16 : Int32) &&& 31)), .int 1, .int 0, .ref 137] τ1)) ?_
  refine G.call (k := j_M_put) (as := [.ref 137, .int 0, .int 1, .int (a >>> ((16 : Int32) &&& 31))]) (r := []) (v := none) (σ1 := τ2) rfl rfl rfl rfl rfl rfl rfl ?_ ?_ ?_
  · show (bif qrc _ 137 j_M_put && _ then _ else _) = _
    rw [qrc_at rfl h0_1 rfl]
    rfl
  · exact g2
  refine G.go 14 (fun n => (rfl : _ = exe ξ n (d + 8) j_M_feed 83 [(0, .ref 137), (1, .int a), (2, .int b), (3, .int c), (4, .int e), (5, .int f), (6, .int 2), (7, .int a)] [.ref 137, .int 0, .ref 137] τ2)) ?_
  refine G.get rfl rfl rfl h0_2 rfl ?_
  refine G.go 1 (fun n => (rfl : _ = exe ξ n (d + 8) j_M_feed 87 [(0, .ref 137), (1, .int a), (2, .int b), (3, .int c), (4, .int e), (5, .int f), (6, .int 2), (7, .int a)] [.int 0, .ref 139, .int 0, .ref 137] τ2)) ?_
  refine G.iald rfl rfl h2_2 rfl ?_
  refine G.go 11 (fun n => (rfl : _ = exe ξ n (d + 8) j_M_feed 104 [(0, .ref 137), (1, .int a), (2, .int b), (3, .int c), (4, .int e), (5, .int f), (6, .int 2), (7, .int a)] [.int (a >>> ((8 : Int32) &&& 31)), .int 2, .int 0, .ref 137] τ2)) ?_
  refine G.call (k := j_M_put) (as := [.ref 137, .int 0, .int 2, .int (a >>> ((8 : Int32) &&& 31))]) (r := []) (v := none) (σ1 := τ3) rfl rfl rfl rfl rfl rfl rfl ?_ ?_ ?_
  · show (bif qrc _ 137 j_M_put && _ then _ else _) = _
    rw [qrc_at rfl h0_2 rfl]
    rfl
  · exact g3
  refine G.go 14 (fun n => (rfl : _ = exe ξ n (d + 8) j_M_feed 83 [(0, .ref 137), (1, .int a), (2, .int b), (3, .int c), (4, .int e), (5, .int f), (6, .int 3), (7, .int a)] [.ref 137, .int 0, .ref 137] τ3)) ?_
  refine G.get rfl rfl rfl h0_3 rfl ?_
  refine G.go 1 (fun n => (rfl : _ = exe ξ n (d + 8) j_M_feed 87 [(0, .ref 137), (1, .int a), (2, .int b), (3, .int c), (4, .int e), (5, .int f), (6, .int 3), (7, .int a)] [.int 0, .ref 139, .int 0, .ref 137] τ3)) ?_
  refine G.iald rfl rfl h2_3 rfl ?_
  refine G.go 11 (fun n => (rfl : _ = exe ξ n (d + 8) j_M_feed 104 [(0, .ref 137), (1, .int a), (2, .int b), (3, .int c), (4, .int e), (5, .int f), (6, .int 3), (7, .int a)] [.int (a >>> ((0 : Int32) &&& 31)), .int 3, .int 0, .ref 137] τ3)) ?_
  refine G.call (k := j_M_put) (as := [.ref 137, .int 0, .int 3, .int (a >>> ((0 : Int32) &&& 31))]) (r := []) (v := none) (σ1 := τ4) rfl rfl rfl rfl rfl rfl rfl ?_ ?_ ?_
  · show (bif qrc _ 137 j_M_put && _ then _ else _) = _
    rw [qrc_at rfl h0_3 rfl]
    rfl
  · exact g4
  refine G.go 17 (fun n => (rfl : _ = exe ξ n (d + 8) j_M_feed 83 [(0, .ref 137), (1, .int a), (2, .int b), (3, .int c), (4, .int e), (5, .int f), (6, .int 4), (7, .int b)] [.ref 137, .int 0, .ref 137] τ4)) ?_
  refine G.get rfl rfl rfl h0_4 rfl ?_
  refine G.go 1 (fun n => (rfl : _ = exe ξ n (d + 8) j_M_feed 87 [(0, .ref 137), (1, .int a), (2, .int b), (3, .int c), (4, .int e), (5, .int f), (6, .int 4), (7, .int b)] [.int 0, .ref 139, .int 0, .ref 137] τ4)) ?_
  refine G.iald rfl rfl h2_4 rfl ?_
  refine G.go 11 (fun n => (rfl : _ = exe ξ n (d + 8) j_M_feed 104 [(0, .ref 137), (1, .int a), (2, .int b), (3, .int c), (4, .int e), (5, .int f), (6, .int 4), (7, .int b)] [.int (b >>> ((24 : Int32) &&& 31)), .int 4, .int 0, .ref 137] τ4)) ?_
  refine G.call (k := j_M_put) (as := [.ref 137, .int 0, .int 4, .int (b >>> ((24 : Int32) &&& 31))]) (r := []) (v := none) (σ1 := τ5) rfl rfl rfl rfl rfl rfl rfl ?_ ?_ ?_
  · show (bif qrc _ 137 j_M_put && _ then _ else _) = _
    rw [qrc_at rfl h0_4 rfl]
    rfl
  · exact g5
  refine G.go 17 (fun n => (rfl : _ = exe ξ n (d + 8) j_M_feed 83 [(0, .ref 137), (1, .int a), (2, .int b), (3, .int c), (4, .int e), (5, .int f), (6, .int 5), (7, .int b)] [.ref 137, .int 0, .ref 137] τ5)) ?_
  refine G.get rfl rfl rfl h0_5 rfl ?_
  refine G.go 1 (fun n => (rfl : _ = exe ξ n (d + 8) j_M_feed 87 [(0, .ref 137), (1, .int a), (2, .int b), (3, .int c), (4, .int e), (5, .int f), (6, .int 5), (7, .int b)] [.int 0, .ref 139, .int 0, .ref 137] τ5)) ?_
  refine G.iald rfl rfl h2_5 rfl ?_
  refine G.go 11 (fun n => (rfl : _ = exe ξ n (d + 8) j_M_feed 104 [(0, .ref 137), (1, .int a), (2, .int b), (3, .int c), (4, .int e), (5, .int f), (6, .int 5), (7, .int b)] [.int (b >>> ((16 : Int32) &&& 31)), .int 5, .int 0, .ref 137] τ5)) ?_
  refine G.call (k := j_M_put) (as := [.ref 137, .int 0, .int 5, .int (b >>> ((16 : Int32) &&& 31))]) (r := []) (v := none) (σ1 := τ6) rfl rfl rfl rfl rfl rfl rfl ?_ ?_ ?_
  · show (bif qrc _ 137 j_M_put && _ then _ else _) = _
    rw [qrc_at rfl h0_5 rfl]
    rfl
  · exact g6
  refine G.go 17 (fun n => (rfl : _ = exe ξ n (d + 8) j_M_feed 83 [(0, .ref 137), (1, .int a), (2, .int b), (3, .int c), (4, .int e), (5, .int f), (6, .int 6), (7, .int b)] [.ref 137, .int 0, .ref 137] τ6)) ?_
  refine G.get rfl rfl rfl h0_6 rfl ?_
  refine G.go 1 (fun n => (rfl : _ = exe ξ n (d + 8) j_M_feed 87 [(0, .ref 137), (1, .int a), (2, .int b), (3, .int c), (4, .int e), (5, .int f), (6, .int 6), (7, .int b)] [.int 0, .ref 139, .int 0, .ref 137] τ6)) ?_
  refine G.iald rfl rfl h2_6 rfl ?_
  refine G.go 11 (fun n => (rfl : _ = exe ξ n (d + 8) j_M_feed 104 [(0, .ref 137), (1, .int a), (2, .int b), (3, .int c), (4, .int e), (5, .int f), (6, .int 6), (7, .int b)] [.int (b >>> ((8 : Int32) &&& 31)), .int 6, .int 0, .ref 137] τ6)) ?_
  refine G.call (k := j_M_put) (as := [.ref 137, .int 0, .int 6, .int (b >>> ((8 : Int32) &&& 31))]) (r := []) (v := none) (σ1 := τ7) rfl rfl rfl rfl rfl rfl rfl ?_ ?_ ?_
  · show (bif qrc _ 137 j_M_put && _ then _ else _) = _
    rw [qrc_at rfl h0_6 rfl]
    rfl
  · exact g7
  refine G.go 17 (fun n => (rfl : _ = exe ξ n (d + 8) j_M_feed 83 [(0, .ref 137), (1, .int a), (2, .int b), (3, .int c), (4, .int e), (5, .int f), (6, .int 7), (7, .int b)] [.ref 137, .int 0, .ref 137] τ7)) ?_
  refine G.get rfl rfl rfl h0_7 rfl ?_
  refine G.go 1 (fun n => (rfl : _ = exe ξ n (d + 8) j_M_feed 87 [(0, .ref 137), (1, .int a), (2, .int b), (3, .int c), (4, .int e), (5, .int f), (6, .int 7), (7, .int b)] [.int 0, .ref 139, .int 0, .ref 137] τ7)) ?_
  refine G.iald rfl rfl h2_7 rfl ?_
  refine G.go 11 (fun n => (rfl : _ = exe ξ n (d + 8) j_M_feed 104 [(0, .ref 137), (1, .int a), (2, .int b), (3, .int c), (4, .int e), (5, .int f), (6, .int 7), (7, .int b)] [.int (b >>> ((0 : Int32) &&& 31)), .int 7, .int 0, .ref 137] τ7)) ?_
  refine G.call (k := j_M_put) (as := [.ref 137, .int 0, .int 7, .int (b >>> ((0 : Int32) &&& 31))]) (r := []) (v := none) (σ1 := τ8) rfl rfl rfl rfl rfl rfl rfl ?_ ?_ ?_
  · show (bif qrc _ 137 j_M_put && _ then _ else _) = _
    rw [qrc_at rfl h0_7 rfl]
    rfl
  · exact g8
  refine G.go 20 (fun n => (rfl : _ = exe ξ n (d + 8) j_M_feed 83 [(0, .ref 137), (1, .int a), (2, .int b), (3, .int c), (4, .int e), (5, .int f), (6, .int 8), (7, .int c)] [.ref 137, .int 0, .ref 137] τ8)) ?_
  refine G.get rfl rfl rfl h0_8 rfl ?_
  refine G.go 1 (fun n => (rfl : _ = exe ξ n (d + 8) j_M_feed 87 [(0, .ref 137), (1, .int a), (2, .int b), (3, .int c), (4, .int e), (5, .int f), (6, .int 8), (7, .int c)] [.int 0, .ref 139, .int 0, .ref 137] τ8)) ?_
  refine G.iald rfl rfl h2_8 rfl ?_
  refine G.go 11 (fun n => (rfl : _ = exe ξ n (d + 8) j_M_feed 104 [(0, .ref 137), (1, .int a), (2, .int b), (3, .int c), (4, .int e), (5, .int f), (6, .int 8), (7, .int c)] [.int (c >>> ((24 : Int32) &&& 31)), .int 8, .int 0, .ref 137] τ8)) ?_
  refine G.call (k := j_M_put) (as := [.ref 137, .int 0, .int 8, .int (c >>> ((24 : Int32) &&& 31))]) (r := []) (v := none) (σ1 := τ9) rfl rfl rfl rfl rfl rfl rfl ?_ ?_ ?_
  · show (bif qrc _ 137 j_M_put && _ then _ else _) = _
    rw [qrc_at rfl h0_8 rfl]
    rfl
  · exact g9
  refine G.go 20 (fun n => (rfl : _ = exe ξ n (d + 8) j_M_feed 83 [(0, .ref 137), (1, .int a), (2, .int b), (3, .int c), (4, .int e), (5, .int f), (6, .int 9), (7, .int c)] [.ref 137, .int 0, .ref 137] τ9)) ?_
  refine G.get rfl rfl rfl h0_9 rfl ?_
  refine G.go 1 (fun n => (rfl : _ = exe ξ n (d + 8) j_M_feed 87 [(0, .ref 137), (1, .int a), (2, .int b), (3, .int c), (4, .int e), (5, .int f), (6, .int 9), (7, .int c)] [.int 0, .ref 139, .int 0, .ref 137] τ9)) ?_
  refine G.iald rfl rfl h2_9 rfl ?_
  refine G.go 11 (fun n => (rfl : _ = exe ξ n (d + 8) j_M_feed 104 [(0, .ref 137), (1, .int a), (2, .int b), (3, .int c), (4, .int e), (5, .int f), (6, .int 9), (7, .int c)] [.int (c >>> ((16 : Int32) &&& 31)), .int 9, .int 0, .ref 137] τ9)) ?_
  refine G.call (k := j_M_put) (as := [.ref 137, .int 0, .int 9, .int (c >>> ((16 : Int32) &&& 31))]) (r := []) (v := none) (σ1 := τ10) rfl rfl rfl rfl rfl rfl rfl ?_ ?_ ?_
  · show (bif qrc _ 137 j_M_put && _ then _ else _) = _
    rw [qrc_at rfl h0_9 rfl]
    rfl
  · exact g10
  refine G.go 20 (fun n => (rfl : _ = exe ξ n (d + 8) j_M_feed 83 [(0, .ref 137), (1, .int a), (2, .int b), (3, .int c), (4, .int e), (5, .int f), (6, .int 10), (7, .int c)] [.ref 137, .int 0, .ref 137] τ10)) ?_
  refine G.get rfl rfl rfl h0_10 rfl ?_
  refine G.go 1 (fun n => (rfl : _ = exe ξ n (d + 8) j_M_feed 87 [(0, .ref 137), (1, .int a), (2, .int b), (3, .int c), (4, .int e), (5, .int f), (6, .int 10), (7, .int c)] [.int 0, .ref 139, .int 0, .ref 137] τ10)) ?_
  refine G.iald rfl rfl h2_10 rfl ?_
  refine G.go 11 (fun n => (rfl : _ = exe ξ n (d + 8) j_M_feed 104 [(0, .ref 137), (1, .int a), (2, .int b), (3, .int c), (4, .int e), (5, .int f), (6, .int 10), (7, .int c)] [.int (c >>> ((8 : Int32) &&& 31)), .int 10, .int 0, .ref 137] τ10)) ?_
  refine G.call (k := j_M_put) (as := [.ref 137, .int 0, .int 10, .int (c >>> ((8 : Int32) &&& 31))]) (r := []) (v := none) (σ1 := τ11) rfl rfl rfl rfl rfl rfl rfl ?_ ?_ ?_
  · show (bif qrc _ 137 j_M_put && _ then _ else _) = _
    rw [qrc_at rfl h0_10 rfl]
    rfl
  · exact g11
  refine G.go 20 (fun n => (rfl : _ = exe ξ n (d + 8) j_M_feed 83 [(0, .ref 137), (1, .int a), (2, .int b), (3, .int c), (4, .int e), (5, .int f), (6, .int 11), (7, .int c)] [.ref 137, .int 0, .ref 137] τ11)) ?_
  refine G.get rfl rfl rfl h0_11 rfl ?_
  refine G.go 1 (fun n => (rfl : _ = exe ξ n (d + 8) j_M_feed 87 [(0, .ref 137), (1, .int a), (2, .int b), (3, .int c), (4, .int e), (5, .int f), (6, .int 11), (7, .int c)] [.int 0, .ref 139, .int 0, .ref 137] τ11)) ?_
  refine G.iald rfl rfl h2_11 rfl ?_
  refine G.go 11 (fun n => (rfl : _ = exe ξ n (d + 8) j_M_feed 104 [(0, .ref 137), (1, .int a), (2, .int b), (3, .int c), (4, .int e), (5, .int f), (6, .int 11), (7, .int c)] [.int (c >>> ((0 : Int32) &&& 31)), .int 11, .int 0, .ref 137] τ11)) ?_
  refine G.call (k := j_M_put) (as := [.ref 137, .int 0, .int 11, .int (c >>> ((0 : Int32) &&& 31))]) (r := []) (v := none) (σ1 := τ12) rfl rfl rfl rfl rfl rfl rfl ?_ ?_ ?_
  · show (bif qrc _ 137 j_M_put && _ then _ else _) = _
    rw [qrc_at rfl h0_11 rfl]
    rfl
  · exact g12
  refine G.go 23 (fun n => (rfl : _ = exe ξ n (d + 8) j_M_feed 83 [(0, .ref 137), (1, .int a), (2, .int b), (3, .int c), (4, .int e), (5, .int f), (6, .int 12), (7, .int e)] [.ref 137, .int 0, .ref 137] τ12)) ?_
  refine G.get rfl rfl rfl h0_12 rfl ?_
  refine G.go 1 (fun n => (rfl : _ = exe ξ n (d + 8) j_M_feed 87 [(0, .ref 137), (1, .int a), (2, .int b), (3, .int c), (4, .int e), (5, .int f), (6, .int 12), (7, .int e)] [.int 0, .ref 139, .int 0, .ref 137] τ12)) ?_
  refine G.iald rfl rfl h2_12 rfl ?_
  refine G.go 11 (fun n => (rfl : _ = exe ξ n (d + 8) j_M_feed 104 [(0, .ref 137), (1, .int a), (2, .int b), (3, .int c), (4, .int e), (5, .int f), (6, .int 12), (7, .int e)] [.int (e >>> ((24 : Int32) &&& 31)), .int 12, .int 0, .ref 137] τ12)) ?_
  refine G.call (k := j_M_put) (as := [.ref 137, .int 0, .int 12, .int (e >>> ((24 : Int32) &&& 31))]) (r := []) (v := none) (σ1 := τ13) rfl rfl rfl rfl rfl rfl rfl ?_ ?_ ?_
  · show (bif qrc _ 137 j_M_put && _ then _ else _) = _
    rw [qrc_at rfl h0_12 rfl]
    rfl
  · exact g13
  refine G.go 23 (fun n => (rfl : _ = exe ξ n (d + 8) j_M_feed 83 [(0, .ref 137), (1, .int a), (2, .int b), (3, .int c), (4, .int e), (5, .int f), (6, .int 13), (7, .int e)] [.ref 137, .int 0, .ref 137] τ13)) ?_
  refine G.get rfl rfl rfl h0_13 rfl ?_
  refine G.go 1 (fun n => (rfl : _ = exe ξ n (d + 8) j_M_feed 87 [(0, .ref 137), (1, .int a), (2, .int b), (3, .int c), (4, .int e), (5, .int f), (6, .int 13), (7, .int e)] [.int 0, .ref 139, .int 0, .ref 137] τ13)) ?_
  refine G.iald rfl rfl h2_13 rfl ?_
  refine G.go 11 (fun n => (rfl : _ = exe ξ n (d + 8) j_M_feed 104 [(0, .ref 137), (1, .int a), (2, .int b), (3, .int c), (4, .int e), (5, .int f), (6, .int 13), (7, .int e)] [.int (e >>> ((16 : Int32) &&& 31)), .int 13, .int 0, .ref 137] τ13)) ?_
  refine G.call (k := j_M_put) (as := [.ref 137, .int 0, .int 13, .int (e >>> ((16 : Int32) &&& 31))]) (r := []) (v := none) (σ1 := τ14) rfl rfl rfl rfl rfl rfl rfl ?_ ?_ ?_
  · show (bif qrc _ 137 j_M_put && _ then _ else _) = _
    rw [qrc_at rfl h0_13 rfl]
    rfl
  · exact g14
  refine G.go 23 (fun n => (rfl : _ = exe ξ n (d + 8) j_M_feed 83 [(0, .ref 137), (1, .int a), (2, .int b), (3, .int c), (4, .int e), (5, .int f), (6, .int 14), (7, .int e)] [.ref 137, .int 0, .ref 137] τ14)) ?_
  refine G.get rfl rfl rfl h0_14 rfl ?_
  refine G.go 1 (fun n => (rfl : _ = exe ξ n (d + 8) j_M_feed 87 [(0, .ref 137), (1, .int a), (2, .int b), (3, .int c), (4, .int e), (5, .int f), (6, .int 14), (7, .int e)] [.int 0, .ref 139, .int 0, .ref 137] τ14)) ?_
  refine G.iald rfl rfl h2_14 rfl ?_
  refine G.go 11 (fun n => (rfl : _ = exe ξ n (d + 8) j_M_feed 104 [(0, .ref 137), (1, .int a), (2, .int b), (3, .int c), (4, .int e), (5, .int f), (6, .int 14), (7, .int e)] [.int (e >>> ((8 : Int32) &&& 31)), .int 14, .int 0, .ref 137] τ14)) ?_
  refine G.call (k := j_M_put) (as := [.ref 137, .int 0, .int 14, .int (e >>> ((8 : Int32) &&& 31))]) (r := []) (v := none) (σ1 := τ15) rfl rfl rfl rfl rfl rfl rfl ?_ ?_ ?_
  · show (bif qrc _ 137 j_M_put && _ then _ else _) = _
    rw [qrc_at rfl h0_14 rfl]
    rfl
  · exact g15
  refine G.go 23 (fun n => (rfl : _ = exe ξ n (d + 8) j_M_feed 83 [(0, .ref 137), (1, .int a), (2, .int b), (3, .int c), (4, .int e), (5, .int f), (6, .int 15), (7, .int e)] [.ref 137, .int 0, .ref 137] τ15)) ?_
  refine G.get rfl rfl rfl h0_15 rfl ?_
  refine G.go 1 (fun n => (rfl : _ = exe ξ n (d + 8) j_M_feed 87 [(0, .ref 137), (1, .int a), (2, .int b), (3, .int c), (4, .int e), (5, .int f), (6, .int 15), (7, .int e)] [.int 0, .ref 139, .int 0, .ref 137] τ15)) ?_
  refine G.iald rfl rfl h2_15 rfl ?_
  refine G.go 11 (fun n => (rfl : _ = exe ξ n (d + 8) j_M_feed 104 [(0, .ref 137), (1, .int a), (2, .int b), (3, .int c), (4, .int e), (5, .int f), (6, .int 15), (7, .int e)] [.int (e >>> ((0 : Int32) &&& 31)), .int 15, .int 0, .ref 137] τ15)) ?_
  refine G.call (k := j_M_put) (as := [.ref 137, .int 0, .int 15, .int (e >>> ((0 : Int32) &&& 31))]) (r := []) (v := none) (σ1 := τ16) rfl rfl rfl rfl rfl rfl rfl ?_ ?_ ?_
  · show (bif qrc _ 137 j_M_put && _ then _ else _) = _
    rw [qrc_at rfl h0_15 rfl]
    rfl
  · exact g16
  refine G.go 22 (fun n => (rfl : _ = exe ξ n (d + 8) j_M_feed 83 [(0, .ref 137), (1, .int a), (2, .int b), (3, .int c), (4, .int e), (5, .int f), (6, .int 16), (7, .int f)] [.ref 137, .int 0, .ref 137] τ16)) ?_
  refine G.get rfl rfl rfl h0_16 rfl ?_
  refine G.go 1 (fun n => (rfl : _ = exe ξ n (d + 8) j_M_feed 87 [(0, .ref 137), (1, .int a), (2, .int b), (3, .int c), (4, .int e), (5, .int f), (6, .int 16), (7, .int f)] [.int 0, .ref 139, .int 0, .ref 137] τ16)) ?_
  refine G.iald rfl rfl h2_16 rfl ?_
  refine G.go 11 (fun n => (rfl : _ = exe ξ n (d + 8) j_M_feed 104 [(0, .ref 137), (1, .int a), (2, .int b), (3, .int c), (4, .int e), (5, .int f), (6, .int 16), (7, .int f)] [.int (f >>> ((24 : Int32) &&& 31)), .int 16, .int 0, .ref 137] τ16)) ?_
  refine G.call (k := j_M_put) (as := [.ref 137, .int 0, .int 16, .int (f >>> ((24 : Int32) &&& 31))]) (r := []) (v := none) (σ1 := τ17) rfl rfl rfl rfl rfl rfl rfl ?_ ?_ ?_
  · show (bif qrc _ 137 j_M_put && _ then _ else _) = _
    rw [qrc_at rfl h0_16 rfl]
    rfl
  · exact g17
  refine G.go 22 (fun n => (rfl : _ = exe ξ n (d + 8) j_M_feed 83 [(0, .ref 137), (1, .int a), (2, .int b), (3, .int c), (4, .int e), (5, .int f), (6, .int 17), (7, .int f)] [.ref 137, .int 0, .ref 137] τ17)) ?_
  refine G.get rfl rfl rfl h0_17 rfl ?_
  refine G.go 1 (fun n => (rfl : _ = exe ξ n (d + 8) j_M_feed 87 [(0, .ref 137), (1, .int a), (2, .int b), (3, .int c), (4, .int e), (5, .int f), (6, .int 17), (7, .int f)] [.int 0, .ref 139, .int 0, .ref 137] τ17)) ?_
  refine G.iald rfl rfl h2_17 rfl ?_
  refine G.go 11 (fun n => (rfl : _ = exe ξ n (d + 8) j_M_feed 104 [(0, .ref 137), (1, .int a), (2, .int b), (3, .int c), (4, .int e), (5, .int f), (6, .int 17), (7, .int f)] [.int (f >>> ((16 : Int32) &&& 31)), .int 17, .int 0, .ref 137] τ17)) ?_
  refine G.call (k := j_M_put) (as := [.ref 137, .int 0, .int 17, .int (f >>> ((16 : Int32) &&& 31))]) (r := []) (v := none) (σ1 := τ18) rfl rfl rfl rfl rfl rfl rfl ?_ ?_ ?_
  · show (bif qrc _ 137 j_M_put && _ then _ else _) = _
    rw [qrc_at rfl h0_17 rfl]
    rfl
  · exact g18
  refine G.go 22 (fun n => (rfl : _ = exe ξ n (d + 8) j_M_feed 83 [(0, .ref 137), (1, .int a), (2, .int b), (3, .int c), (4, .int e), (5, .int f), (6, .int 18), (7, .int f)] [.ref 137, .int 0, .ref 137] τ18)) ?_
  refine G.get rfl rfl rfl h0_18 rfl ?_
  refine G.go 1 (fun n => (rfl : _ = exe ξ n (d + 8) j_M_feed 87 [(0, .ref 137), (1, .int a), (2, .int b), (3, .int c), (4, .int e), (5, .int f), (6, .int 18), (7, .int f)] [.int 0, .ref 139, .int 0, .ref 137] τ18)) ?_
  refine G.iald rfl rfl h2_18 rfl ?_
  refine G.go 11 (fun n => (rfl : _ = exe ξ n (d + 8) j_M_feed 104 [(0, .ref 137), (1, .int a), (2, .int b), (3, .int c), (4, .int e), (5, .int f), (6, .int 18), (7, .int f)] [.int (f >>> ((8 : Int32) &&& 31)), .int 18, .int 0, .ref 137] τ18)) ?_
  refine G.call (k := j_M_put) (as := [.ref 137, .int 0, .int 18, .int (f >>> ((8 : Int32) &&& 31))]) (r := []) (v := none) (σ1 := τ19) rfl rfl rfl rfl rfl rfl rfl ?_ ?_ ?_
  · show (bif qrc _ 137 j_M_put && _ then _ else _) = _
    rw [qrc_at rfl h0_18 rfl]
    rfl
  · exact g19
  refine G.go 22 (fun n => (rfl : _ = exe ξ n (d + 8) j_M_feed 83 [(0, .ref 137), (1, .int a), (2, .int b), (3, .int c), (4, .int e), (5, .int f), (6, .int 19), (7, .int f)] [.ref 137, .int 0, .ref 137] τ19)) ?_
  refine G.get rfl rfl rfl h0_19 rfl ?_
  refine G.go 1 (fun n => (rfl : _ = exe ξ n (d + 8) j_M_feed 87 [(0, .ref 137), (1, .int a), (2, .int b), (3, .int c), (4, .int e), (5, .int f), (6, .int 19), (7, .int f)] [.int 0, .ref 139, .int 0, .ref 137] τ19)) ?_
  refine G.iald rfl rfl h2_19 rfl ?_
  refine G.go 11 (fun n => (rfl : _ = exe ξ n (d + 8) j_M_feed 104 [(0, .ref 137), (1, .int a), (2, .int b), (3, .int c), (4, .int e), (5, .int f), (6, .int 19), (7, .int f)] [.int (f >>> ((0 : Int32) &&& 31)), .int 19, .int 0, .ref 137] τ19)) ?_
  refine G.call (k := j_M_put) (as := [.ref 137, .int 0, .int 19, .int (f >>> ((0 : Int32) &&& 31))]) (r := []) (v := none) (σ1 := τ20) rfl rfl rfl rfl rfl rfl rfl ?_ ?_ ?_
  · show (bif qrc _ 137 j_M_put && _ then _ else _) = _
    rw [qrc_at rfl h0_19 rfl]
    rfl
  · exact g20
  refine G.go 6 (fun n => (rfl : _ = exe ξ n (d + 8) j_M_feed 114 [(0, .ref 137), (1, .int a), (2, .int b), (3, .int c), (4, .int e), (5, .int f), (6, .int 20), (7, .int f)] [.ref 137] τ20)) ?_
  refine G.get rfl rfl rfl h0_20 rfl ?_
  refine G.go 2 (fun n => (rfl : _ = exe ξ n (d + 8) j_M_feed 119 [(0, .ref 137), (1, .int a), (2, .int b), (3, .int c), (4, .int e), (5, .int f), (6, .int 20), (7, .int f)] [.int 0, .ref 139, .int 0, .ref 139] τ20)) ?_
  refine G.iald rfl rfl h2_20 rfl ?_
  refine G.go 2 (fun n => (rfl : _ = exe ξ n (d + 8) j_M_feed 123 [(0, .ref 137), (1, .int a), (2, .int b), (3, .int c), (4, .int e), (5, .int f), (6, .int 20), (7, .int f)] [.int 20, .int 0, .ref 139] τ20)) ?_
  refine G.iast rfl h2_20 rfl ?_
  exact G.end 2 (fun n => rfl)
theorem pM_open (d : Nat) (lc : List Int64) (σ : qH) (hF : freshM σ) (h1 : σ[138]? = some (.inr (.inr (.inl lc)))) (h1l : lc.length = 7000) : ∃ (σ2 : qH) (fs : List Value), σ2[137]? = some (.inl (7, .int 1 :: fs)) ∧ ((∀ c, σ[146]? = some c → σ2[146]? = some c) ∧ sz 0 0 σ σ2) ∧ G ξ (d + 8) j_M_open 0 (lv_args 0 [.ref 137]) [] σ (some (.int 0), σ2) := by
  obtain ⟨h0, h2⟩ := hF
  obtain ⟨lc1, b1, g1⟩ := c_copyRow (ξ := ξ) (d + 7) 137 138 139 0 4 _ lc _ ((σ.set 137 (.inl (7, [.int 0, .ref 138, .ref 139, .int 0, .int 0, .ref 140, .int 0, .int (-1), .int 0, .ref 141, .int 0, .int 0, .ref 142, .ref 143, .int 0, .int 0, .int 0, .int 0, .int 0, .int 0, .int 0, .ref 144, .int 0, .ref 145, .int 0, .int 0]))).set 139 (.inr (.inl (0, ((List.replicate 7 0).set 0 0))))) rfl rfl (by decide) (by decide) h1l (by simp) rfl (qs_ne (by decide) (qs_at h0)) (qs_ne (by decide) (qs_ne (by decide) h1)) (qs_at (qs_ne (by decide) h2))
  refine ⟨((((((((((((σ.set 137 (.inl (7, [.int 0, .ref 138, .ref 139, .int 0, .int 0, .ref 140, .int 0, .int (-1), .int 0, .ref 141, .int 0, .int 0, .ref 142, .ref 143, .int 0, .int 0, .int 0, .int 0, .int 0, .int 0, .int 0, .ref 144, .int 0, .ref 145, .int 0, .int 0]))).set 139 (.inr (.inl (0, ((List.replicate 7 0).set 0 0))))).set 138 (.inr (.inr (.inl lc1)))).set 139 (.inr (.inl (0, (((List.replicate 7 0).set 0 0).set 4 (((List.replicate 7 0).set 0 0).getD 0 0)))))).set 139 (.inr (.inl (0, ((((List.replicate 7 0).set 0 0).set 4 (((List.replicate 7 0).set 0 0).getD 0 0)).set 4 0))))).set 137 (.inl (7, [.int 0, .ref 138, .ref 139, .int 0, .int 0, .ref 140, .int 0, .int (-1), .int 0, .ref 141, .int 4, .int 0, .ref 142, .ref 143, .int 0, .int 0, .int 0, .int 0, .int 0, .int 0, .int 0, .ref 144, .int 0, .ref 145, .int 0, .int 0]))).set 137 (.inl (7, [.int 0, .ref 138, .ref 139, .int 0, .int 0, .ref 140, .int 0, .int (-1), .int 0, .ref 141, .int 4, .int 0, .ref 142, .ref 143, .int 0, .int 0, .int 0, .int 0, .int 0, .int 0, .int 0, .ref 144, .int 0, .ref 145, .int 0, .int 0]))).set 137 (.inl (7, [.int 0, .ref 138, .ref 139, .int 0, .int 0, .ref 140, .int 0, .int (-1), .int 0, .ref 141, .int 4, .int 0, .ref 142, .ref 143, .int 1, .int 0, .int 0, .int 0, .int 0, .int 0, .int 0, .ref 144, .int 0, .ref 145, .int 0, .int 0]))).set 137 (.inl (7, [.int 0, .ref 138, .ref 139, .int 0, .int 0, .ref 140, .int 0, .int (-1), .int 0, .ref 141, .int 4, .int 0, .ref 142, .ref 143, .int 1, .int (-1), .int 0, .int 0, .int 0, .int 0, .int 0, .ref 144, .int 0, .ref 145, .int 0, .int 0]))).set 137 (.inl (7, [.int 0, .ref 138, .ref 139, .int 0, .int 0, .ref 140, .int 1, .int (-1), .int 0, .ref 141, .int 4, .int 0, .ref 142, .ref 143, .int 1, .int (-1), .int 0, .int 0, .int 0, .int 0, .int 0, .ref 144, .int 0, .ref 145, .int 0, .int 0]))).set 137 (.inl (7, [.int 0, .ref 138, .ref 139, .int 0, .int 0, .ref 140, .int 1, .int (-1), .int 0, .ref 141, .int 4, .int 0, .ref 142, .ref 143, .int 1, .int (-1), .int 0, .int 0, .int 0, .int 0, .int 0, .ref 144, .int 0, .ref 145, .int 0, .int 0]))).set 137 (.inl (7, [.int 1, .ref 138, .ref 139, .int 0, .int 0, .ref 140, .int 1, .int (-1), .int 0, .ref 141, .int 4, .int 0, .ref 142, .ref 143, .int 1, .int (-1), .int 0, .int 0, .int 0, .int 0, .int 0, .ref 144, .int 0, .ref 145, .int 0, .int 0]))), _, (qs_at (qs_at (qs_at (qs_at (qs_at (qs_at (qs_at (qs_ne (by decide) (qs_ne (by decide) (qs_ne (by decide) (qs_ne (by decide) (qs_at h0)))))))))))), ⟨fun c h => (qs_ne (by decide) (qs_ne (by decide) (qs_ne (by decide) (qs_ne (by decide) (qs_ne (by decide) (qs_ne (by decide) (qs_ne (by decide) (qs_ne (by decide) (qs_ne (by decide) (qs_ne (by decide) (qs_ne (by decide) (qs_ne (by decide) h)))))))))))), (sz.set (sz.set (sz.set (sz.set (sz.set (sz.set (sz.set (sz.set (sz.set (sz.set (sz.set (sz.set (sz.refl σ) h0 (by simp [qcs])) (qs_ne (by decide) h2) (by simp [qcs])) (qs_ne (by decide) (qs_ne (by decide) h1)) (by simp [qcs, b1, h1l])) (qs_ne (by decide) (qs_at (qs_ne (by decide) h2))) (by simp [qcs])) (qs_at (qs_ne (by decide) (qs_at (qs_ne (by decide) h2)))) (by simp [qcs])) (qs_ne (by decide) (qs_ne (by decide) (qs_ne (by decide) (qs_ne (by decide) (qs_at h0))))) (by simp [qcs])) (qs_at (qs_ne (by decide) (qs_ne (by decide) (qs_ne (by decide) (qs_ne (by decide) (qs_at h0)))))) (by simp [qcs])) (qs_at (qs_at (qs_ne (by decide) (qs_ne (by decide) (qs_ne (by decide) (qs_ne (by decide) (qs_at h0))))))) (by simp [qcs])) (qs_at (qs_at (qs_at (qs_ne (by decide) (qs_ne (by decide) (qs_ne (by decide) (qs_ne (by decide) (qs_at h0)))))))) (by simp [qcs])) (qs_at (qs_at (qs_at (qs_at (qs_ne (by decide) (qs_ne (by decide) (qs_ne (by decide) (qs_ne (by decide) (qs_at h0))))))))) (by simp [qcs])) (qs_at (qs_at (qs_at (qs_at (qs_at (qs_ne (by decide) (qs_ne (by decide) (qs_ne (by decide) (qs_ne (by decide) (qs_at h0)))))))))) (by simp [qcs])) (qs_at (qs_at (qs_at (qs_at (qs_at (qs_at (qs_ne (by decide) (qs_ne (by decide) (qs_ne (by decide) (qs_ne (by decide) (qs_at h0))))))))))) (by simp [qcs]))⟩, ?_⟩
  refine G.go 2 (fun n => (rfl : _ = exe ξ n (d + 8) j_M_open 2 [(0, .ref 137)] [.int 0, .ref 137] σ)) ?_
  refine G.put rfl rfl h0 rfl rfl rfl ?_
  refine G.go 1 (fun n => (rfl : _ = exe ξ n (d + 8) j_M_open 6 [(0, .ref 137)] [.ref 137] (σ.set 137 (.inl (7, [.int 0, .ref 138, .ref 139, .int 0, .int 0, .ref 140, .int 0, .int (-1), .int 0, .ref 141, .int 0, .int 0, .ref 142, .ref 143, .int 0, .int 0, .int 0, .int 0, .int 0, .int 0, .int 0, .ref 144, .int 0, .ref 145, .int 0, .int 0]))))) ?_
  refine G.get rfl rfl rfl (qs_at h0) rfl ?_
  refine G.go 1 (fun n => (rfl : _ = exe ξ n (d + 8) j_M_open 10 [(0, .ref 137)] [.int 0, .ref 139] (σ.set 137 (.inl (7, [.int 0, .ref 138, .ref 139, .int 0, .int 0, .ref 140, .int 0, .int (-1), .int 0, .ref 141, .int 0, .int 0, .ref 142, .ref 143, .int 0, .int 0, .int 0, .int 0, .int 0, .int 0, .int 0, .ref 144, .int 0, .ref 145, .int 0, .int 0]))))) ?_
  refine G.iald rfl rfl (qs_ne (by decide) h2) rfl ?_
  refine G.go 2 (fun n => (rfl : _ = exe ξ n (d + 8) j_M_open 13 [(0, .ref 137), (1, .int 0)] [.ref 137] (σ.set 137 (.inl (7, [.int 0, .ref 138, .ref 139, .int 0, .int 0, .ref 140, .int 0, .int (-1), .int 0, .ref 141, .int 0, .int 0, .ref 142, .ref 143, .int 0, .int 0, .int 0, .int 0, .int 0, .int 0, .int 0, .ref 144, .int 0, .ref 145, .int 0, .int 0]))))) ?_
  refine G.get rfl rfl rfl (qs_at h0) rfl ?_
  refine G.go 2 (fun n => (rfl : _ = exe ξ n (d + 8) j_M_open 18 [(0, .ref 137), (1, .int 0)] [.int 0, .int 0, .ref 139] (σ.set 137 (.inl (7, [.int 0, .ref 138, .ref 139, .int 0, .int 0, .ref 140, .int 0, .int (-1), .int 0, .ref 141, .int 0, .int 0, .ref 142, .ref 143, .int 0, .int 0, .int 0, .int 0, .int 0, .int 0, .int 0, .ref 144, .int 0, .ref 145, .int 0, .int 0]))))) ?_
  refine G.iast rfl (qs_ne (by decide) h2) rfl ?_
  refine G.go 3 (fun n => (rfl : _ = exe ξ n (d + 8) j_M_open 22 [(0, .ref 137), (1, .int 0)] [.int 4, .int 0, .ref 137] ((σ.set 137 (.inl (7, [.int 0, .ref 138, .ref 139, .int 0, .int 0, .ref 140, .int 0, .int (-1), .int 0, .ref 141, .int 0, .int 0, .ref 142, .ref 143, .int 0, .int 0, .int 0, .int 0, .int 0, .int 0, .int 0, .ref 144, .int 0, .ref 145, .int 0, .int 0]))).set 139 (.inr (.inl (0, ((List.replicate 7 0).set 0 0))))))) ?_
  refine G.call (k := j_M_copyRow) (as := [.ref 137, .int 0, .int 4]) (r := []) (v := none) (σ1 := ((((σ.set 137 (.inl (7, [.int 0, .ref 138, .ref 139, .int 0, .int 0, .ref 140, .int 0, .int (-1), .int 0, .ref 141, .int 0, .int 0, .ref 142, .ref 143, .int 0, .int 0, .int 0, .int 0, .int 0, .int 0, .int 0, .ref 144, .int 0, .ref 145, .int 0, .int 0]))).set 139 (.inr (.inl (0, ((List.replicate 7 0).set 0 0))))).set 138 (.inr (.inr (.inl lc1)))).set 139 (.inr (.inl (0, (((List.replicate 7 0).set 0 0).set 4 (((List.replicate 7 0).set 0 0).getD 0 0))))))) rfl rfl rfl rfl rfl rfl rfl ?_ ?_ ?_
  · show (bif qrc _ 137 j_M_copyRow && _ then _ else _) = _
    rw [qrc_at rfl (qs_ne (by decide) (qs_at h0)) rfl]
    rfl
  · exact g1
  refine G.go 1 (fun n => (rfl : _ = exe ξ n (d + 8) j_M_open 26 [(0, .ref 137), (1, .int 0)] [.ref 137] ((((σ.set 137 (.inl (7, [.int 0, .ref 138, .ref 139, .int 0, .int 0, .ref 140, .int 0, .int (-1), .int 0, .ref 141, .int 0, .int 0, .ref 142, .ref 143, .int 0, .int 0, .int 0, .int 0, .int 0, .int 0, .int 0, .ref 144, .int 0, .ref 145, .int 0, .int 0]))).set 139 (.inr (.inl (0, ((List.replicate 7 0).set 0 0))))).set 138 (.inr (.inr (.inl lc1)))).set 139 (.inr (.inl (0, (((List.replicate 7 0).set 0 0).set 4 (((List.replicate 7 0).set 0 0).getD 0 0)))))))) ?_
  refine G.get rfl rfl rfl (qs_ne (by decide) (qs_ne (by decide) (qs_ne (by decide) (qs_at h0)))) rfl ?_
  refine G.go 2 (fun n => (rfl : _ = exe ξ n (d + 8) j_M_open 31 [(0, .ref 137), (1, .int 0)] [.int 0, .int 4, .ref 139] ((((σ.set 137 (.inl (7, [.int 0, .ref 138, .ref 139, .int 0, .int 0, .ref 140, .int 0, .int (-1), .int 0, .ref 141, .int 0, .int 0, .ref 142, .ref 143, .int 0, .int 0, .int 0, .int 0, .int 0, .int 0, .int 0, .ref 144, .int 0, .ref 145, .int 0, .int 0]))).set 139 (.inr (.inl (0, ((List.replicate 7 0).set 0 0))))).set 138 (.inr (.inr (.inl lc1)))).set 139 (.inr (.inl (0, (((List.replicate 7 0).set 0 0).set 4 (((List.replicate 7 0).set 0 0).getD 0 0)))))))) ?_
  refine G.iast rfl (qs_at (qs_ne (by decide) (qs_at (qs_ne (by decide) h2)))) rfl ?_
  refine G.go 2 (fun n => (rfl : _ = exe ξ n (d + 8) j_M_open 34 [(0, .ref 137), (1, .int 0)] [.int 4, .ref 137] (((((σ.set 137 (.inl (7, [.int 0, .ref 138, .ref 139, .int 0, .int 0, .ref 140, .int 0, .int (-1), .int 0, .ref 141, .int 0, .int 0, .ref 142, .ref 143, .int 0, .int 0, .int 0, .int 0, .int 0, .int 0, .int 0, .ref 144, .int 0, .ref 145, .int 0, .int 0]))).set 139 (.inr (.inl (0, ((List.replicate 7 0).set 0 0))))).set 138 (.inr (.inr (.inl lc1)))).set 139 (.inr (.inl (0, (((List.replicate 7 0).set 0 0).set 4 (((List.replicate 7 0).set 0 0).getD 0 0)))))).set 139 (.inr (.inl (0, ((((List.replicate 7 0).set 0 0).set 4 (((List.replicate 7 0).set 0 0).getD 0 0)).set 4 0))))))) ?_
  refine G.call (k := j_M_isFaulty) (as := [.ref 137, .int 4]) (r := []) (v := some (.int 1)) (σ1 := (((((((((σ.set 137 (.inl (7, [.int 0, .ref 138, .ref 139, .int 0, .int 0, .ref 140, .int 0, .int (-1), .int 0, .ref 141, .int 0, .int 0, .ref 142, .ref 143, .int 0, .int 0, .int 0, .int 0, .int 0, .int 0, .int 0, .ref 144, .int 0, .ref 145, .int 0, .int 0]))).set 139 (.inr (.inl (0, ((List.replicate 7 0).set 0 0))))).set 138 (.inr (.inr (.inl lc1)))).set 139 (.inr (.inl (0, (((List.replicate 7 0).set 0 0).set 4 (((List.replicate 7 0).set 0 0).getD 0 0)))))).set 139 (.inr (.inl (0, ((((List.replicate 7 0).set 0 0).set 4 (((List.replicate 7 0).set 0 0).getD 0 0)).set 4 0))))).set 137 (.inl (7, [.int 0, .ref 138, .ref 139, .int 0, .int 0, .ref 140, .int 0, .int (-1), .int 0, .ref 141, .int 4, .int 0, .ref 142, .ref 143, .int 0, .int 0, .int 0, .int 0, .int 0, .int 0, .int 0, .ref 144, .int 0, .ref 145, .int 0, .int 0]))).set 137 (.inl (7, [.int 0, .ref 138, .ref 139, .int 0, .int 0, .ref 140, .int 0, .int (-1), .int 0, .ref 141, .int 4, .int 0, .ref 142, .ref 143, .int 0, .int 0, .int 0, .int 0, .int 0, .int 0, .int 0, .ref 144, .int 0, .ref 145, .int 0, .int 0]))).set 137 (.inl (7, [.int 0, .ref 138, .ref 139, .int 0, .int 0, .ref 140, .int 0, .int (-1), .int 0, .ref 141, .int 4, .int 0, .ref 142, .ref 143, .int 1, .int 0, .int 0, .int 0, .int 0, .int 0, .int 0, .ref 144, .int 0, .ref 145, .int 0, .int 0]))).set 137 (.inl (7, [.int 0, .ref 138, .ref 139, .int 0, .int 0, .ref 140, .int 0, .int (-1), .int 0, .ref 141, .int 4, .int 0, .ref 142, .ref 143, .int 1, .int (-1), .int 0, .int 0, .int 0, .int 0, .int 0, .ref 144, .int 0, .ref 145, .int 0, .int 0])))) rfl rfl rfl rfl rfl rfl rfl ?_ ?_ ?_
  · show (bif qrc _ 137 j_M_isFaulty && _ then _ else _) = _
    rw [qrc_at rfl (qs_ne (by decide) (qs_ne (by decide) (qs_ne (by decide) (qs_ne (by decide) (qs_at h0))))) rfl]
    rfl
  · refine G.go 2 (fun n => (rfl : _ = exe ξ n (d + 7) j_M_isFaulty 2 [(0, .ref 137), (1, .int 4)] [.int 4, .ref 137] (((((σ.set 137 (.inl (7, [.int 0, .ref 138, .ref 139, .int 0, .int 0, .ref 140, .int 0, .int (-1), .int 0, .ref 141, .int 0, .int 0, .ref 142, .ref 143, .int 0, .int 0, .int 0, .int 0, .int 0, .int 0, .int 0, .ref 144, .int 0, .ref 145, .int 0, .int 0]))).set 139 (.inr (.inl (0, ((List.replicate 7 0).set 0 0))))).set 138 (.inr (.inr (.inl lc1)))).set 139 (.inr (.inl (0, (((List.replicate 7 0).set 0 0).set 4 (((List.replicate 7 0).set 0 0).getD 0 0)))))).set 139 (.inr (.inl (0, ((((List.replicate 7 0).set 0 0).set 4 (((List.replicate 7 0).set 0 0).getD 0 0)).set 4 0))))))) ?_
    refine G.put rfl rfl (qs_ne (by decide) (qs_ne (by decide) (qs_ne (by decide) (qs_ne (by decide) (qs_at h0))))) rfl rfl rfl ?_
    refine G.go 2 (fun n => (rfl : _ = exe ξ n (d + 7) j_M_isFaulty 7 [(0, .ref 137), (1, .int 4)] [.int 0, .ref 137] ((((((σ.set 137 (.inl (7, [.int 0, .ref 138, .ref 139, .int 0, .int 0, .ref 140, .int 0, .int (-1), .int 0, .ref 141, .int 0, .int 0, .ref 142, .ref 143, .int 0, .int 0, .int 0, .int 0, .int 0, .int 0, .int 0, .ref 144, .int 0, .ref 145, .int 0, .int 0]))).set 139 (.inr (.inl (0, ((List.replicate 7 0).set 0 0))))).set 138 (.inr (.inr (.inl lc1)))).set 139 (.inr (.inl (0, (((List.replicate 7 0).set 0 0).set 4 (((List.replicate 7 0).set 0 0).getD 0 0)))))).set 139 (.inr (.inl (0, ((((List.replicate 7 0).set 0 0).set 4 (((List.replicate 7 0).set 0 0).getD 0 0)).set 4 0))))).set 137 (.inl (7, [.int 0, .ref 138, .ref 139, .int 0, .int 0, .ref 140, .int 0, .int (-1), .int 0, .ref 141, .int 4, .int 0, .ref 142, .ref 143, .int 0, .int 0, .int 0, .int 0, .int 0, .int 0, .int 0, .ref 144, .int 0, .ref 145, .int 0, .int 0]))))) ?_
    refine G.put rfl rfl (qs_at (qs_ne (by decide) (qs_ne (by decide) (qs_ne (by decide) (qs_ne (by decide) (qs_at h0)))))) rfl rfl rfl ?_
    refine G.go 1 (fun n => (rfl : _ = exe ξ n (d + 7) j_M_isFaulty 11 [(0, .ref 137), (1, .int 4)] [.ref 137] (((((((σ.set 137 (.inl (7, [.int 0, .ref 138, .ref 139, .int 0, .int 0, .ref 140, .int 0, .int (-1), .int 0, .ref 141, .int 0, .int 0, .ref 142, .ref 143, .int 0, .int 0, .int 0, .int 0, .int 0, .int 0, .int 0, .ref 144, .int 0, .ref 145, .int 0, .int 0]))).set 139 (.inr (.inl (0, ((List.replicate 7 0).set 0 0))))).set 138 (.inr (.inr (.inl lc1)))).set 139 (.inr (.inl (0, (((List.replicate 7 0).set 0 0).set 4 (((List.replicate 7 0).set 0 0).getD 0 0)))))).set 139 (.inr (.inl (0, ((((List.replicate 7 0).set 0 0).set 4 (((List.replicate 7 0).set 0 0).getD 0 0)).set 4 0))))).set 137 (.inl (7, [.int 0, .ref 138, .ref 139, .int 0, .int 0, .ref 140, .int 0, .int (-1), .int 0, .ref 141, .int 4, .int 0, .ref 142, .ref 143, .int 0, .int 0, .int 0, .int 0, .int 0, .int 0, .int 0, .ref 144, .int 0, .ref 145, .int 0, .int 0]))).set 137 (.inl (7, [.int 0, .ref 138, .ref 139, .int 0, .int 0, .ref 140, .int 0, .int (-1), .int 0, .ref 141, .int 4, .int 0, .ref 142, .ref 143, .int 0, .int 0, .int 0, .int 0, .int 0, .int 0, .int 0, .ref 144, .int 0, .ref 145, .int 0, .int 0]))))) ?_
    refine G.call (k := j_M_endRecord) (as := [.ref 137]) (r := []) (v := some (.int (-1))) (σ1 := (((((((σ.set 137 (.inl (7, [.int 0, .ref 138, .ref 139, .int 0, .int 0, .ref 140, .int 0, .int (-1), .int 0, .ref 141, .int 0, .int 0, .ref 142, .ref 143, .int 0, .int 0, .int 0, .int 0, .int 0, .int 0, .int 0, .ref 144, .int 0, .ref 145, .int 0, .int 0]))).set 139 (.inr (.inl (0, ((List.replicate 7 0).set 0 0))))).set 138 (.inr (.inr (.inl lc1)))).set 139 (.inr (.inl (0, (((List.replicate 7 0).set 0 0).set 4 (((List.replicate 7 0).set 0 0).getD 0 0)))))).set 139 (.inr (.inl (0, ((((List.replicate 7 0).set 0 0).set 4 (((List.replicate 7 0).set 0 0).getD 0 0)).set 4 0))))).set 137 (.inl (7, [.int 0, .ref 138, .ref 139, .int 0, .int 0, .ref 140, .int 0, .int (-1), .int 0, .ref 141, .int 4, .int 0, .ref 142, .ref 143, .int 0, .int 0, .int 0, .int 0, .int 0, .int 0, .int 0, .ref 144, .int 0, .ref 145, .int 0, .int 0]))).set 137 (.inl (7, [.int 0, .ref 138, .ref 139, .int 0, .int 0, .ref 140, .int 0, .int (-1), .int 0, .ref 141, .int 4, .int 0, .ref 142, .ref 143, .int 0, .int 0, .int 0, .int 0, .int 0, .int 0, .int 0, .ref 144, .int 0, .ref 145, .int 0, .int 0])))) rfl rfl rfl rfl rfl rfl rfl ?_ ?_ ?_
    · show (bif qrc _ 137 j_M_endRecord && _ then _ else _) = _
      rw [qrc_at rfl (qs_at (qs_at (qs_ne (by decide) (qs_ne (by decide) (qs_ne (by decide) (qs_ne (by decide) (qs_at h0))))))) rfl]
      rfl
    · refine G.go 1 (fun n => (rfl : _ = exe ξ n (d + 6) j_M_endRecord 1 [(0, .ref 137)] [.ref 137] (((((((σ.set 137 (.inl (7, [.int 0, .ref 138, .ref 139, .int 0, .int 0, .ref 140, .int 0, .int (-1), .int 0, .ref 141, .int 0, .int 0, .ref 142, .ref 143, .int 0, .int 0, .int 0, .int 0, .int 0, .int 0, .int 0, .ref 144, .int 0, .ref 145, .int 0, .int 0]))).set 139 (.inr (.inl (0, ((List.replicate 7 0).set 0 0))))).set 138 (.inr (.inr (.inl lc1)))).set 139 (.inr (.inl (0, (((List.replicate 7 0).set 0 0).set 4 (((List.replicate 7 0).set 0 0).getD 0 0)))))).set 139 (.inr (.inl (0, ((((List.replicate 7 0).set 0 0).set 4 (((List.replicate 7 0).set 0 0).getD 0 0)).set 4 0))))).set 137 (.inl (7, [.int 0, .ref 138, .ref 139, .int 0, .int 0, .ref 140, .int 0, .int (-1), .int 0, .ref 141, .int 4, .int 0, .ref 142, .ref 143, .int 0, .int 0, .int 0, .int 0, .int 0, .int 0, .int 0, .ref 144, .int 0, .ref 145, .int 0, .int 0]))).set 137 (.inl (7, [.int 0, .ref 138, .ref 139, .int 0, .int 0, .ref 140, .int 0, .int (-1), .int 0, .ref 141, .int 4, .int 0, .ref 142, .ref 143, .int 0, .int 0, .int 0, .int 0, .int 0, .int 0, .int 0, .ref 144, .int 0, .ref 145, .int 0, .int 0]))))) ?_
      refine G.get rfl rfl rfl (qs_at (qs_at (qs_ne (by decide) (qs_ne (by decide) (qs_ne (by decide) (qs_ne (by decide) (qs_at h0))))))) rfl ?_
      refine G.go 1 (fun n => (rfl : _ = exe ξ n (d + 6) j_M_endRecord 5 [(0, .ref 137)] [.ref 137, .ref 139] (((((((σ.set 137 (.inl (7, [.int 0, .ref 138, .ref 139, .int 0, .int 0, .ref 140, .int 0, .int (-1), .int 0, .ref 141, .int 0, .int 0, .ref 142, .ref 143, .int 0, .int 0, .int 0, .int 0, .int 0, .int 0, .int 0, .ref 144, .int 0, .ref 145, .int 0, .int 0]))).set 139 (.inr (.inl (0, ((List.replicate 7 0).set 0 0))))).set 138 (.inr (.inr (.inl lc1)))).set 139 (.inr (.inl (0, (((List.replicate 7 0).set 0 0).set 4 (((List.replicate 7 0).set 0 0).getD 0 0)))))).set 139 (.inr (.inl (0, ((((List.replicate 7 0).set 0 0).set 4 (((List.replicate 7 0).set 0 0).getD 0 0)).set 4 0))))).set 137 (.inl (7, [.int 0, .ref 138, .ref 139, .int 0, .int 0, .ref 140, .int 0, .int (-1), .int 0, .ref 141, .int 4, .int 0, .ref 142, .ref 143, .int 0, .int 0, .int 0, .int 0, .int 0, .int 0, .int 0, .ref 144, .int 0, .ref 145, .int 0, .int 0]))).set 137 (.inl (7, [.int 0, .ref 138, .ref 139, .int 0, .int 0, .ref 140, .int 0, .int (-1), .int 0, .ref 141, .int 4, .int 0, .ref 142, .ref 143, .int 0, .int 0, .int 0, .int 0, .int 0, .int 0, .int 0, .ref 144, .int 0, .ref 145, .int 0, .int 0]))))) ?_
      refine G.get rfl rfl rfl (qs_at (qs_at (qs_ne (by decide) (qs_ne (by decide) (qs_ne (by decide) (qs_ne (by decide) (qs_at h0))))))) rfl ?_
      refine G.iald rfl rfl (qs_ne (by decide) (qs_ne (by decide) (qs_at (qs_at (qs_ne (by decide) (qs_at (qs_ne (by decide) h2))))))) rfl ?_
      exact G.end 9 (fun n => rfl)
    refine G.go 6 (fun n => (rfl : _ = exe ξ n (d + 7) j_M_isFaulty 22 [(0, .ref 137), (1, .int 4), (2, .int (-1))] [.int (-1), .int 1, .ref 137] (((((((σ.set 137 (.inl (7, [.int 0, .ref 138, .ref 139, .int 0, .int 0, .ref 140, .int 0, .int (-1), .int 0, .ref 141, .int 0, .int 0, .ref 142, .ref 143, .int 0, .int 0, .int 0, .int 0, .int 0, .int 0, .int 0, .ref 144, .int 0, .ref 145, .int 0, .int 0]))).set 139 (.inr (.inl (0, ((List.replicate 7 0).set 0 0))))).set 138 (.inr (.inr (.inl lc1)))).set 139 (.inr (.inl (0, (((List.replicate 7 0).set 0 0).set 4 (((List.replicate 7 0).set 0 0).getD 0 0)))))).set 139 (.inr (.inl (0, ((((List.replicate 7 0).set 0 0).set 4 (((List.replicate 7 0).set 0 0).getD 0 0)).set 4 0))))).set 137 (.inl (7, [.int 0, .ref 138, .ref 139, .int 0, .int 0, .ref 140, .int 0, .int (-1), .int 0, .ref 141, .int 4, .int 0, .ref 142, .ref 143, .int 0, .int 0, .int 0, .int 0, .int 0, .int 0, .int 0, .ref 144, .int 0, .ref 145, .int 0, .int 0]))).set 137 (.inl (7, [.int 0, .ref 138, .ref 139, .int 0, .int 0, .ref 140, .int 0, .int (-1), .int 0, .ref 141, .int 4, .int 0, .ref 142, .ref 143, .int 0, .int 0, .int 0, .int 0, .int 0, .int 0, .int 0, .ref 144, .int 0, .ref 145, .int 0, .int 0]))))) ?_
    refine G.call (k := j_M_isWrong) (as := [.ref 137, .int 1, .int (-1)]) (r := []) (v := some (.int 1)) (σ1 := (((((((((σ.set 137 (.inl (7, [.int 0, .ref 138, .ref 139, .int 0, .int 0, .ref 140, .int 0, .int (-1), .int 0, .ref 141, .int 0, .int 0, .ref 142, .ref 143, .int 0, .int 0, .int 0, .int 0, .int 0, .int 0, .int 0, .ref 144, .int 0, .ref 145, .int 0, .int 0]))).set 139 (.inr (.inl (0, ((List.replicate 7 0).set 0 0))))).set 138 (.inr (.inr (.inl lc1)))).set 139 (.inr (.inl (0, (((List.replicate 7 0).set 0 0).set 4 (((List.replicate 7 0).set 0 0).getD 0 0)))))).set 139 (.inr (.inl (0, ((((List.replicate 7 0).set 0 0).set 4 (((List.replicate 7 0).set 0 0).getD 0 0)).set 4 0))))).set 137 (.inl (7, [.int 0, .ref 138, .ref 139, .int 0, .int 0, .ref 140, .int 0, .int (-1), .int 0, .ref 141, .int 4, .int 0, .ref 142, .ref 143, .int 0, .int 0, .int 0, .int 0, .int 0, .int 0, .int 0, .ref 144, .int 0, .ref 145, .int 0, .int 0]))).set 137 (.inl (7, [.int 0, .ref 138, .ref 139, .int 0, .int 0, .ref 140, .int 0, .int (-1), .int 0, .ref 141, .int 4, .int 0, .ref 142, .ref 143, .int 0, .int 0, .int 0, .int 0, .int 0, .int 0, .int 0, .ref 144, .int 0, .ref 145, .int 0, .int 0]))).set 137 (.inl (7, [.int 0, .ref 138, .ref 139, .int 0, .int 0, .ref 140, .int 0, .int (-1), .int 0, .ref 141, .int 4, .int 0, .ref 142, .ref 143, .int 1, .int 0, .int 0, .int 0, .int 0, .int 0, .int 0, .ref 144, .int 0, .ref 145, .int 0, .int 0]))).set 137 (.inl (7, [.int 0, .ref 138, .ref 139, .int 0, .int 0, .ref 140, .int 0, .int (-1), .int 0, .ref 141, .int 4, .int 0, .ref 142, .ref 143, .int 1, .int (-1), .int 0, .int 0, .int 0, .int 0, .int 0, .ref 144, .int 0, .ref 145, .int 0, .int 0])))) rfl rfl rfl rfl rfl rfl rfl ?_ ?_ ?_
    · show (bif qrc _ 137 j_M_isWrong && _ then _ else _) = _
      rw [qrc_at rfl (qs_at (qs_at (qs_ne (by decide) (qs_ne (by decide) (qs_ne (by decide) (qs_ne (by decide) (qs_at h0))))))) rfl]
      rfl
    · refine G.go 2 (fun n => (rfl : _ = exe ξ n (d + 6) j_M_isWrong 2 [(0, .ref 137), (1, .int 1), (2, .int (-1))] [.int 1, .ref 137] (((((((σ.set 137 (.inl (7, [.int 0, .ref 138, .ref 139, .int 0, .int 0, .ref 140, .int 0, .int (-1), .int 0, .ref 141, .int 0, .int 0, .ref 142, .ref 143, .int 0, .int 0, .int 0, .int 0, .int 0, .int 0, .int 0, .ref 144, .int 0, .ref 145, .int 0, .int 0]))).set 139 (.inr (.inl (0, ((List.replicate 7 0).set 0 0))))).set 138 (.inr (.inr (.inl lc1)))).set 139 (.inr (.inl (0, (((List.replicate 7 0).set 0 0).set 4 (((List.replicate 7 0).set 0 0).getD 0 0)))))).set 139 (.inr (.inl (0, ((((List.replicate 7 0).set 0 0).set 4 (((List.replicate 7 0).set 0 0).getD 0 0)).set 4 0))))).set 137 (.inl (7, [.int 0, .ref 138, .ref 139, .int 0, .int 0, .ref 140, .int 0, .int (-1), .int 0, .ref 141, .int 4, .int 0, .ref 142, .ref 143, .int 0, .int 0, .int 0, .int 0, .int 0, .int 0, .int 0, .ref 144, .int 0, .ref 145, .int 0, .int 0]))).set 137 (.inl (7, [.int 0, .ref 138, .ref 139, .int 0, .int 0, .ref 140, .int 0, .int (-1), .int 0, .ref 141, .int 4, .int 0, .ref 142, .ref 143, .int 0, .int 0, .int 0, .int 0, .int 0, .int 0, .int 0, .ref 144, .int 0, .ref 145, .int 0, .int 0]))))) ?_
      refine G.put rfl rfl (qs_at (qs_at (qs_ne (by decide) (qs_ne (by decide) (qs_ne (by decide) (qs_ne (by decide) (qs_at h0))))))) rfl rfl rfl ?_
      refine G.go 2 (fun n => (rfl : _ = exe ξ n (d + 6) j_M_isWrong 7 [(0, .ref 137), (1, .int 1), (2, .int (-1))] [.int (-1), .ref 137] ((((((((σ.set 137 (.inl (7, [.int 0, .ref 138, .ref 139, .int 0, .int 0, .ref 140, .int 0, .int (-1), .int 0, .ref 141, .int 0, .int 0, .ref 142, .ref 143, .int 0, .int 0, .int 0, .int 0, .int 0, .int 0, .int 0, .ref 144, .int 0, .ref 145, .int 0, .int 0]))).set 139 (.inr (.inl (0, ((List.replicate 7 0).set 0 0))))).set 138 (.inr (.inr (.inl lc1)))).set 139 (.inr (.inl (0, (((List.replicate 7 0).set 0 0).set 4 (((List.replicate 7 0).set 0 0).getD 0 0)))))).set 139 (.inr (.inl (0, ((((List.replicate 7 0).set 0 0).set 4 (((List.replicate 7 0).set 0 0).getD 0 0)).set 4 0))))).set 137 (.inl (7, [.int 0, .ref 138, .ref 139, .int 0, .int 0, .ref 140, .int 0, .int (-1), .int 0, .ref 141, .int 4, .int 0, .ref 142, .ref 143, .int 0, .int 0, .int 0, .int 0, .int 0, .int 0, .int 0, .ref 144, .int 0, .ref 145, .int 0, .int 0]))).set 137 (.inl (7, [.int 0, .ref 138, .ref 139, .int 0, .int 0, .ref 140, .int 0, .int (-1), .int 0, .ref 141, .int 4, .int 0, .ref 142, .ref 143, .int 0, .int 0, .int 0, .int 0, .int 0, .int 0, .int 0, .ref 144, .int 0, .ref 145, .int 0, .int 0]))).set 137 (.inl (7, [.int 0, .ref 138, .ref 139, .int 0, .int 0, .ref 140, .int 0, .int (-1), .int 0, .ref 141, .int 4, .int 0, .ref 142, .ref 143, .int 1, .int 0, .int 0, .int 0, .int 0, .int 0, .int 0, .ref 144, .int 0, .ref 145, .int 0, .int 0]))))) ?_
      refine G.put rfl rfl (qs_at (qs_at (qs_at (qs_ne (by decide) (qs_ne (by decide) (qs_ne (by decide) (qs_ne (by decide) (qs_at h0)))))))) rfl rfl rfl ?_
      exact G.end 2 (fun n => rfl)
    exact G.end 1 (fun n => rfl)
  refine G.go 3 (fun n => (rfl : _ = exe ξ n (d + 8) j_M_open 42 [(0, .ref 137), (1, .int 0)] [.int 1, .ref 137] (((((((((σ.set 137 (.inl (7, [.int 0, .ref 138, .ref 139, .int 0, .int 0, .ref 140, .int 0, .int (-1), .int 0, .ref 141, .int 0, .int 0, .ref 142, .ref 143, .int 0, .int 0, .int 0, .int 0, .int 0, .int 0, .int 0, .ref 144, .int 0, .ref 145, .int 0, .int 0]))).set 139 (.inr (.inl (0, ((List.replicate 7 0).set 0 0))))).set 138 (.inr (.inr (.inl lc1)))).set 139 (.inr (.inl (0, (((List.replicate 7 0).set 0 0).set 4 (((List.replicate 7 0).set 0 0).getD 0 0)))))).set 139 (.inr (.inl (0, ((((List.replicate 7 0).set 0 0).set 4 (((List.replicate 7 0).set 0 0).getD 0 0)).set 4 0))))).set 137 (.inl (7, [.int 0, .ref 138, .ref 139, .int 0, .int 0, .ref 140, .int 0, .int (-1), .int 0, .ref 141, .int 4, .int 0, .ref 142, .ref 143, .int 0, .int 0, .int 0, .int 0, .int 0, .int 0, .int 0, .ref 144, .int 0, .ref 145, .int 0, .int 0]))).set 137 (.inl (7, [.int 0, .ref 138, .ref 139, .int 0, .int 0, .ref 140, .int 0, .int (-1), .int 0, .ref 141, .int 4, .int 0, .ref 142, .ref 143, .int 0, .int 0, .int 0, .int 0, .int 0, .int 0, .int 0, .ref 144, .int 0, .ref 145, .int 0, .int 0]))).set 137 (.inl (7, [.int 0, .ref 138, .ref 139, .int 0, .int 0, .ref 140, .int 0, .int (-1), .int 0, .ref 141, .int 4, .int 0, .ref 142, .ref 143, .int 1, .int 0, .int 0, .int 0, .int 0, .int 0, .int 0, .ref 144, .int 0, .ref 145, .int 0, .int 0]))).set 137 (.inl (7, [.int 0, .ref 138, .ref 139, .int 0, .int 0, .ref 140, .int 0, .int (-1), .int 0, .ref 141, .int 4, .int 0, .ref 142, .ref 143, .int 1, .int (-1), .int 0, .int 0, .int 0, .int 0, .int 0, .ref 144, .int 0, .ref 145, .int 0, .int 0]))))) ?_
  refine G.call (k := j_M_refuseFault) (as := [.ref 137, .int 1]) (r := []) (v := some (.int 0)) (σ1 := ((((((((((((σ.set 137 (.inl (7, [.int 0, .ref 138, .ref 139, .int 0, .int 0, .ref 140, .int 0, .int (-1), .int 0, .ref 141, .int 0, .int 0, .ref 142, .ref 143, .int 0, .int 0, .int 0, .int 0, .int 0, .int 0, .int 0, .ref 144, .int 0, .ref 145, .int 0, .int 0]))).set 139 (.inr (.inl (0, ((List.replicate 7 0).set 0 0))))).set 138 (.inr (.inr (.inl lc1)))).set 139 (.inr (.inl (0, (((List.replicate 7 0).set 0 0).set 4 (((List.replicate 7 0).set 0 0).getD 0 0)))))).set 139 (.inr (.inl (0, ((((List.replicate 7 0).set 0 0).set 4 (((List.replicate 7 0).set 0 0).getD 0 0)).set 4 0))))).set 137 (.inl (7, [.int 0, .ref 138, .ref 139, .int 0, .int 0, .ref 140, .int 0, .int (-1), .int 0, .ref 141, .int 4, .int 0, .ref 142, .ref 143, .int 0, .int 0, .int 0, .int 0, .int 0, .int 0, .int 0, .ref 144, .int 0, .ref 145, .int 0, .int 0]))).set 137 (.inl (7, [.int 0, .ref 138, .ref 139, .int 0, .int 0, .ref 140, .int 0, .int (-1), .int 0, .ref 141, .int 4, .int 0, .ref 142, .ref 143, .int 0, .int 0, .int 0, .int 0, .int 0, .int 0, .int 0, .ref 144, .int 0, .ref 145, .int 0, .int 0]))).set 137 (.inl (7, [.int 0, .ref 138, .ref 139, .int 0, .int 0, .ref 140, .int 0, .int (-1), .int 0, .ref 141, .int 4, .int 0, .ref 142, .ref 143, .int 1, .int 0, .int 0, .int 0, .int 0, .int 0, .int 0, .ref 144, .int 0, .ref 145, .int 0, .int 0]))).set 137 (.inl (7, [.int 0, .ref 138, .ref 139, .int 0, .int 0, .ref 140, .int 0, .int (-1), .int 0, .ref 141, .int 4, .int 0, .ref 142, .ref 143, .int 1, .int (-1), .int 0, .int 0, .int 0, .int 0, .int 0, .ref 144, .int 0, .ref 145, .int 0, .int 0]))).set 137 (.inl (7, [.int 0, .ref 138, .ref 139, .int 0, .int 0, .ref 140, .int 1, .int (-1), .int 0, .ref 141, .int 4, .int 0, .ref 142, .ref 143, .int 1, .int (-1), .int 0, .int 0, .int 0, .int 0, .int 0, .ref 144, .int 0, .ref 145, .int 0, .int 0]))).set 137 (.inl (7, [.int 0, .ref 138, .ref 139, .int 0, .int 0, .ref 140, .int 1, .int (-1), .int 0, .ref 141, .int 4, .int 0, .ref 142, .ref 143, .int 1, .int (-1), .int 0, .int 0, .int 0, .int 0, .int 0, .ref 144, .int 0, .ref 145, .int 0, .int 0]))).set 137 (.inl (7, [.int 1, .ref 138, .ref 139, .int 0, .int 0, .ref 140, .int 1, .int (-1), .int 0, .ref 141, .int 4, .int 0, .ref 142, .ref 143, .int 1, .int (-1), .int 0, .int 0, .int 0, .int 0, .int 0, .ref 144, .int 0, .ref 145, .int 0, .int 0])))) rfl rfl rfl rfl rfl rfl rfl ?_ ?_ ?_
  · show (bif qrc _ 137 j_M_refuseFault && _ then _ else _) = _
    rw [qrc_at rfl (qs_at (qs_at (qs_at (qs_at (qs_ne (by decide) (qs_ne (by decide) (qs_ne (by decide) (qs_ne (by decide) (qs_at h0))))))))) rfl]
    rfl
  · refine G.go 2 (fun n => (rfl : _ = exe ξ n (d + 7) j_M_refuseFault 2 [(0, .ref 137), (1, .int 1)] [.ref 137, .ref 137] (((((((((σ.set 137 (.inl (7, [.int 0, .ref 138, .ref 139, .int 0, .int 0, .ref 140, .int 0, .int (-1), .int 0, .ref 141, .int 0, .int 0, .ref 142, .ref 143, .int 0, .int 0, .int 0, .int 0, .int 0, .int 0, .int 0, .ref 144, .int 0, .ref 145, .int 0, .int 0]))).set 139 (.inr (.inl (0, ((List.replicate 7 0).set 0 0))))).set 138 (.inr (.inr (.inl lc1)))).set 139 (.inr (.inl (0, (((List.replicate 7 0).set 0 0).set 4 (((List.replicate 7 0).set 0 0).getD 0 0)))))).set 139 (.inr (.inl (0, ((((List.replicate 7 0).set 0 0).set 4 (((List.replicate 7 0).set 0 0).getD 0 0)).set 4 0))))).set 137 (.inl (7, [.int 0, .ref 138, .ref 139, .int 0, .int 0, .ref 140, .int 0, .int (-1), .int 0, .ref 141, .int 4, .int 0, .ref 142, .ref 143, .int 0, .int 0, .int 0, .int 0, .int 0, .int 0, .int 0, .ref 144, .int 0, .ref 145, .int 0, .int 0]))).set 137 (.inl (7, [.int 0, .ref 138, .ref 139, .int 0, .int 0, .ref 140, .int 0, .int (-1), .int 0, .ref 141, .int 4, .int 0, .ref 142, .ref 143, .int 0, .int 0, .int 0, .int 0, .int 0, .int 0, .int 0, .ref 144, .int 0, .ref 145, .int 0, .int 0]))).set 137 (.inl (7, [.int 0, .ref 138, .ref 139, .int 0, .int 0, .ref 140, .int 0, .int (-1), .int 0, .ref 141, .int 4, .int 0, .ref 142, .ref 143, .int 1, .int 0, .int 0, .int 0, .int 0, .int 0, .int 0, .ref 144, .int 0, .ref 145, .int 0, .int 0]))).set 137 (.inl (7, [.int 0, .ref 138, .ref 139, .int 0, .int 0, .ref 140, .int 0, .int (-1), .int 0, .ref 141, .int 4, .int 0, .ref 142, .ref 143, .int 1, .int (-1), .int 0, .int 0, .int 0, .int 0, .int 0, .ref 144, .int 0, .ref 145, .int 0, .int 0]))))) ?_
    refine G.get rfl rfl rfl (qs_at (qs_at (qs_at (qs_at (qs_ne (by decide) (qs_ne (by decide) (qs_ne (by decide) (qs_ne (by decide) (qs_at h0))))))))) rfl ?_
    refine G.put rfl rfl (qs_at (qs_at (qs_at (qs_at (qs_ne (by decide) (qs_ne (by decide) (qs_ne (by decide) (qs_ne (by decide) (qs_at h0))))))))) rfl rfl rfl ?_
    refine G.go 2 (fun n => (rfl : _ = exe ξ n (d + 7) j_M_refuseFault 10 [(0, .ref 137), (1, .int 1)] [.ref 137, .ref 137] ((((((((((σ.set 137 (.inl (7, [.int 0, .ref 138, .ref 139, .int 0, .int 0, .ref 140, .int 0, .int (-1), .int 0, .ref 141, .int 0, .int 0, .ref 142, .ref 143, .int 0, .int 0, .int 0, .int 0, .int 0, .int 0, .int 0, .ref 144, .int 0, .ref 145, .int 0, .int 0]))).set 139 (.inr (.inl (0, ((List.replicate 7 0).set 0 0))))).set 138 (.inr (.inr (.inl lc1)))).set 139 (.inr (.inl (0, (((List.replicate 7 0).set 0 0).set 4 (((List.replicate 7 0).set 0 0).getD 0 0)))))).set 139 (.inr (.inl (0, ((((List.replicate 7 0).set 0 0).set 4 (((List.replicate 7 0).set 0 0).getD 0 0)).set 4 0))))).set 137 (.inl (7, [.int 0, .ref 138, .ref 139, .int 0, .int 0, .ref 140, .int 0, .int (-1), .int 0, .ref 141, .int 4, .int 0, .ref 142, .ref 143, .int 0, .int 0, .int 0, .int 0, .int 0, .int 0, .int 0, .ref 144, .int 0, .ref 145, .int 0, .int 0]))).set 137 (.inl (7, [.int 0, .ref 138, .ref 139, .int 0, .int 0, .ref 140, .int 0, .int (-1), .int 0, .ref 141, .int 4, .int 0, .ref 142, .ref 143, .int 0, .int 0, .int 0, .int 0, .int 0, .int 0, .int 0, .ref 144, .int 0, .ref 145, .int 0, .int 0]))).set 137 (.inl (7, [.int 0, .ref 138, .ref 139, .int 0, .int 0, .ref 140, .int 0, .int (-1), .int 0, .ref 141, .int 4, .int 0, .ref 142, .ref 143, .int 1, .int 0, .int 0, .int 0, .int 0, .int 0, .int 0, .ref 144, .int 0, .ref 145, .int 0, .int 0]))).set 137 (.inl (7, [.int 0, .ref 138, .ref 139, .int 0, .int 0, .ref 140, .int 0, .int (-1), .int 0, .ref 141, .int 4, .int 0, .ref 142, .ref 143, .int 1, .int (-1), .int 0, .int 0, .int 0, .int 0, .int 0, .ref 144, .int 0, .ref 145, .int 0, .int 0]))).set 137 (.inl (7, [.int 0, .ref 138, .ref 139, .int 0, .int 0, .ref 140, .int 1, .int (-1), .int 0, .ref 141, .int 4, .int 0, .ref 142, .ref 143, .int 1, .int (-1), .int 0, .int 0, .int 0, .int 0, .int 0, .ref 144, .int 0, .ref 145, .int 0, .int 0]))))) ?_
    refine G.get rfl rfl rfl (qs_at (qs_at (qs_at (qs_at (qs_at (qs_ne (by decide) (qs_ne (by decide) (qs_ne (by decide) (qs_ne (by decide) (qs_at h0)))))))))) rfl ?_
    refine G.put rfl rfl (qs_at (qs_at (qs_at (qs_at (qs_at (qs_ne (by decide) (qs_ne (by decide) (qs_ne (by decide) (qs_ne (by decide) (qs_at h0)))))))))) rfl rfl rfl ?_
    refine G.go 2 (fun n => (rfl : _ = exe ξ n (d + 7) j_M_refuseFault 18 [(0, .ref 137), (1, .int 1)] [.int 1, .ref 137] (((((((((((σ.set 137 (.inl (7, [.int 0, .ref 138, .ref 139, .int 0, .int 0, .ref 140, .int 0, .int (-1), .int 0, .ref 141, .int 0, .int 0, .ref 142, .ref 143, .int 0, .int 0, .int 0, .int 0, .int 0, .int 0, .int 0, .ref 144, .int 0, .ref 145, .int 0, .int 0]))).set 139 (.inr (.inl (0, ((List.replicate 7 0).set 0 0))))).set 138 (.inr (.inr (.inl lc1)))).set 139 (.inr (.inl (0, (((List.replicate 7 0).set 0 0).set 4 (((List.replicate 7 0).set 0 0).getD 0 0)))))).set 139 (.inr (.inl (0, ((((List.replicate 7 0).set 0 0).set 4 (((List.replicate 7 0).set 0 0).getD 0 0)).set 4 0))))).set 137 (.inl (7, [.int 0, .ref 138, .ref 139, .int 0, .int 0, .ref 140, .int 0, .int (-1), .int 0, .ref 141, .int 4, .int 0, .ref 142, .ref 143, .int 0, .int 0, .int 0, .int 0, .int 0, .int 0, .int 0, .ref 144, .int 0, .ref 145, .int 0, .int 0]))).set 137 (.inl (7, [.int 0, .ref 138, .ref 139, .int 0, .int 0, .ref 140, .int 0, .int (-1), .int 0, .ref 141, .int 4, .int 0, .ref 142, .ref 143, .int 0, .int 0, .int 0, .int 0, .int 0, .int 0, .int 0, .ref 144, .int 0, .ref 145, .int 0, .int 0]))).set 137 (.inl (7, [.int 0, .ref 138, .ref 139, .int 0, .int 0, .ref 140, .int 0, .int (-1), .int 0, .ref 141, .int 4, .int 0, .ref 142, .ref 143, .int 1, .int 0, .int 0, .int 0, .int 0, .int 0, .int 0, .ref 144, .int 0, .ref 145, .int 0, .int 0]))).set 137 (.inl (7, [.int 0, .ref 138, .ref 139, .int 0, .int 0, .ref 140, .int 0, .int (-1), .int 0, .ref 141, .int 4, .int 0, .ref 142, .ref 143, .int 1, .int (-1), .int 0, .int 0, .int 0, .int 0, .int 0, .ref 144, .int 0, .ref 145, .int 0, .int 0]))).set 137 (.inl (7, [.int 0, .ref 138, .ref 139, .int 0, .int 0, .ref 140, .int 1, .int (-1), .int 0, .ref 141, .int 4, .int 0, .ref 142, .ref 143, .int 1, .int (-1), .int 0, .int 0, .int 0, .int 0, .int 0, .ref 144, .int 0, .ref 145, .int 0, .int 0]))).set 137 (.inl (7, [.int 0, .ref 138, .ref 139, .int 0, .int 0, .ref 140, .int 1, .int (-1), .int 0, .ref 141, .int 4, .int 0, .ref 142, .ref 143, .int 1, .int (-1), .int 0, .int 0, .int 0, .int 0, .int 0, .ref 144, .int 0, .ref 145, .int 0, .int 0]))))) ?_
    refine G.call (k := j_M_refuse) (as := [.ref 137, .int 1]) (r := []) (v := some (.int 0)) (σ1 := ((((((((((((σ.set 137 (.inl (7, [.int 0, .ref 138, .ref 139, .int 0, .int 0, .ref 140, .int 0, .int (-1), .int 0, .ref 141, .int 0, .int 0, .ref 142, .ref 143, .int 0, .int 0, .int 0, .int 0, .int 0, .int 0, .int 0, .ref 144, .int 0, .ref 145, .int 0, .int 0]))).set 139 (.inr (.inl (0, ((List.replicate 7 0).set 0 0))))).set 138 (.inr (.inr (.inl lc1)))).set 139 (.inr (.inl (0, (((List.replicate 7 0).set 0 0).set 4 (((List.replicate 7 0).set 0 0).getD 0 0)))))).set 139 (.inr (.inl (0, ((((List.replicate 7 0).set 0 0).set 4 (((List.replicate 7 0).set 0 0).getD 0 0)).set 4 0))))).set 137 (.inl (7, [.int 0, .ref 138, .ref 139, .int 0, .int 0, .ref 140, .int 0, .int (-1), .int 0, .ref 141, .int 4, .int 0, .ref 142, .ref 143, .int 0, .int 0, .int 0, .int 0, .int 0, .int 0, .int 0, .ref 144, .int 0, .ref 145, .int 0, .int 0]))).set 137 (.inl (7, [.int 0, .ref 138, .ref 139, .int 0, .int 0, .ref 140, .int 0, .int (-1), .int 0, .ref 141, .int 4, .int 0, .ref 142, .ref 143, .int 0, .int 0, .int 0, .int 0, .int 0, .int 0, .int 0, .ref 144, .int 0, .ref 145, .int 0, .int 0]))).set 137 (.inl (7, [.int 0, .ref 138, .ref 139, .int 0, .int 0, .ref 140, .int 0, .int (-1), .int 0, .ref 141, .int 4, .int 0, .ref 142, .ref 143, .int 1, .int 0, .int 0, .int 0, .int 0, .int 0, .int 0, .ref 144, .int 0, .ref 145, .int 0, .int 0]))).set 137 (.inl (7, [.int 0, .ref 138, .ref 139, .int 0, .int 0, .ref 140, .int 0, .int (-1), .int 0, .ref 141, .int 4, .int 0, .ref 142, .ref 143, .int 1, .int (-1), .int 0, .int 0, .int 0, .int 0, .int 0, .ref 144, .int 0, .ref 145, .int 0, .int 0]))).set 137 (.inl (7, [.int 0, .ref 138, .ref 139, .int 0, .int 0, .ref 140, .int 1, .int (-1), .int 0, .ref 141, .int 4, .int 0, .ref 142, .ref 143, .int 1, .int (-1), .int 0, .int 0, .int 0, .int 0, .int 0, .ref 144, .int 0, .ref 145, .int 0, .int 0]))).set 137 (.inl (7, [.int 0, .ref 138, .ref 139, .int 0, .int 0, .ref 140, .int 1, .int (-1), .int 0, .ref 141, .int 4, .int 0, .ref 142, .ref 143, .int 1, .int (-1), .int 0, .int 0, .int 0, .int 0, .int 0, .ref 144, .int 0, .ref 145, .int 0, .int 0]))).set 137 (.inl (7, [.int 1, .ref 138, .ref 139, .int 0, .int 0, .ref 140, .int 1, .int (-1), .int 0, .ref 141, .int 4, .int 0, .ref 142, .ref 143, .int 1, .int (-1), .int 0, .int 0, .int 0, .int 0, .int 0, .ref 144, .int 0, .ref 145, .int 0, .int 0])))) rfl rfl rfl rfl rfl rfl rfl ?_ ?_ ?_
    · show (bif qrc _ 137 j_M_refuse && _ then _ else _) = _
      rw [qrc_at rfl (qs_at (qs_at (qs_at (qs_at (qs_at (qs_at (qs_ne (by decide) (qs_ne (by decide) (qs_ne (by decide) (qs_ne (by decide) (qs_at h0))))))))))) rfl]
      rfl
    · refine G.go 2 (fun n => (rfl : _ = exe ξ n (d + 6) j_M_refuse 2 [(0, .ref 137), (1, .int 1)] [.int 1, .ref 137] (((((((((((σ.set 137 (.inl (7, [.int 0, .ref 138, .ref 139, .int 0, .int 0, .ref 140, .int 0, .int (-1), .int 0, .ref 141, .int 0, .int 0, .ref 142, .ref 143, .int 0, .int 0, .int 0, .int 0, .int 0, .int 0, .int 0, .ref 144, .int 0, .ref 145, .int 0, .int 0]))).set 139 (.inr (.inl (0, ((List.replicate 7 0).set 0 0))))).set 138 (.inr (.inr (.inl lc1)))).set 139 (.inr (.inl (0, (((List.replicate 7 0).set 0 0).set 4 (((List.replicate 7 0).set 0 0).getD 0 0)))))).set 139 (.inr (.inl (0, ((((List.replicate 7 0).set 0 0).set 4 (((List.replicate 7 0).set 0 0).getD 0 0)).set 4 0))))).set 137 (.inl (7, [.int 0, .ref 138, .ref 139, .int 0, .int 0, .ref 140, .int 0, .int (-1), .int 0, .ref 141, .int 4, .int 0, .ref 142, .ref 143, .int 0, .int 0, .int 0, .int 0, .int 0, .int 0, .int 0, .ref 144, .int 0, .ref 145, .int 0, .int 0]))).set 137 (.inl (7, [.int 0, .ref 138, .ref 139, .int 0, .int 0, .ref 140, .int 0, .int (-1), .int 0, .ref 141, .int 4, .int 0, .ref 142, .ref 143, .int 0, .int 0, .int 0, .int 0, .int 0, .int 0, .int 0, .ref 144, .int 0, .ref 145, .int 0, .int 0]))).set 137 (.inl (7, [.int 0, .ref 138, .ref 139, .int 0, .int 0, .ref 140, .int 0, .int (-1), .int 0, .ref 141, .int 4, .int 0, .ref 142, .ref 143, .int 1, .int 0, .int 0, .int 0, .int 0, .int 0, .int 0, .ref 144, .int 0, .ref 145, .int 0, .int 0]))).set 137 (.inl (7, [.int 0, .ref 138, .ref 139, .int 0, .int 0, .ref 140, .int 0, .int (-1), .int 0, .ref 141, .int 4, .int 0, .ref 142, .ref 143, .int 1, .int (-1), .int 0, .int 0, .int 0, .int 0, .int 0, .ref 144, .int 0, .ref 145, .int 0, .int 0]))).set 137 (.inl (7, [.int 0, .ref 138, .ref 139, .int 0, .int 0, .ref 140, .int 1, .int (-1), .int 0, .ref 141, .int 4, .int 0, .ref 142, .ref 143, .int 1, .int (-1), .int 0, .int 0, .int 0, .int 0, .int 0, .ref 144, .int 0, .ref 145, .int 0, .int 0]))).set 137 (.inl (7, [.int 0, .ref 138, .ref 139, .int 0, .int 0, .ref 140, .int 1, .int (-1), .int 0, .ref 141, .int 4, .int 0, .ref 142, .ref 143, .int 1, .int (-1), .int 0, .int 0, .int 0, .int 0, .int 0, .ref 144, .int 0, .ref 145, .int 0, .int 0]))))) ?_
      refine G.put rfl rfl (qs_at (qs_at (qs_at (qs_at (qs_at (qs_at (qs_ne (by decide) (qs_ne (by decide) (qs_ne (by decide) (qs_ne (by decide) (qs_at h0))))))))))) rfl rfl rfl ?_
      exact G.end 2 (fun n => rfl)
    exact G.end 1 (fun n => rfl)
  exact G.end 1 (fun n => rfl)
end
