/-! class Unpacker: its constructor. -/
section
variable {ξ : Nat → Option (Nat × List Int32)} {d j pc : Nat} {lv : qLV} {st r : List Value} {σ cs : qH} {o : Option Value × qH}
theorem G.xlen {i : Nat} {li : List Int32} (hf : qfe j pc = some (.arraylength, 1)) (hn : Nat.blt i qnE = true) (hx : ξ i = some (0, li)) (g : G ξ d j (pc + 1) lv (.int (Int32.ofNat li.length) :: r) σ o) : G ξ d j pc lv (.ref i :: r) σ o :=
  G.go 1 (fun n => ex_rd hf rfl rfl (by unfold qrd; simp only [hn, hx, cond_true])) g
theorem blt_of {i k : Nat} (h : qnE ≤ i) : Nat.blt (i + k) qnE = false := by
  cases hb : Nat.blt (i + k) qnE with
  | false => rfl
  | true =>
    have h1 : i + k < qnE := Nat.le_of_ble_eq_true hb
    omega
theorem c_fillA (d a b : Nat) (y : Int32) (li : List Int32) (σ cs : qH) (k : Nat) (hσ : qnE ≤ σ.length) (hl : li.length < 2147483648) (hab : a ≤ b) (hb : b ≤ li.length) (hi : cs[k]? = some (.inr (.inl (0, li)))) : ∃ li' : List Int32, li'.length = li.length ∧ (∀ t, li'.getD t 0 = if a ≤ t ∧ t < b then y else li.getD t 0) ∧ G ξ (d + 1) j_J_fill 0 (lv_args 0 [.ref (σ.length + k), .int (Int32.ofNat a), .int (Int32.ofNat b), .int y]) [] (σ ++ cs) (none, σ ++ cs.set k (.inr (.inl (0, li')))) := by
  obtain ⟨li', h1, h3, h2⟩ := c_fill (ξ := ξ) d (σ.length + k) a b y li (σ ++ cs) (blt_of hσ) hl hab hb (by rw [qA_get]; exact hi)
  rw [qA_set] at h2
  exact ⟨li', h1, h3, h2⟩
theorem c_learnA (d : Nat) (fr nv fl : Int32) (la lc lp ls : List Int32) (σ cs : qH) (i a c p s : Nat) (hσ : qnE ≤ σ.length) (hfl : fl = 0 ∨ fl = 1) (hlc : lc.length = 16) (hlp : lp.length = 16) (hls : ls.length < 100000000) (hla : la.length < 100000000) (hac : a ≠ c) (hap : a ≠ p) (has : a ≠ s) (hcp : c ≠ p) (hcs : c ≠ s) (hps : p ≠ s)
    (hi : cs[i]? = some (.inl (2, [.ref (σ.length + c), .ref (σ.length + p), .ref (σ.length + s)]))) (ha : cs[a]? = some (.inr (.inl (0, la)))) (hc : cs[c]? = some (.inr (.inl (0, lc)))) (hpp : cs[p]? = some (.inr (.inl (0, lp)))) (hss : cs[s]? = some (.inr (.inl (0, ls)))) :
    ∃ (b : Int32) (lc' lp' ls' : List Int32), (b = 0 ∨ b = 1) ∧ lc'.length = 16 ∧ lp'.length = 16 ∧ ls'.length = ls.length ∧ (0 ≤ fr.toInt → 0 ≤ nv.toInt → nv.toInt ≤ ls.length → fr.toInt + nv.toInt ≤ la.length → CDL lc' ls' (LN la fr.toInt.toNat) nv.toInt.toNat ∧ (b = 1 ↔ (OKQ (LN la fr.toInt.toNat) nv.toInt.toNat ∨ (THQ (LN la fr.toInt.toNat) nv.toInt.toNat 15 = 0 ∧ fl = 1)))) ∧ G ξ (d + 1) j_C_learn 0 (lv_args 0 [.ref (σ.length + i), .ref (σ.length + a), .int fr, .int nv, .int fl]) [] (σ ++ cs) (some (.int b), σ ++ ((cs.set c (.inr (.inl (0, lc')))).set p (.inr (.inl (0, lp')))).set s (.inr (.inl (0, ls')))) := by
  obtain ⟨b, lc', lp', ls', h1, h2, h3, h4, h6, h5⟩ := c_learn (ξ := ξ) d (σ.length + i) (σ.length + a) (σ.length + c) (σ.length + p) (σ.length + s) fr nv fl la lc lp ls (σ ++ cs) hfl hlc hlp hls hla (blt_of hσ) (blt_of hσ) (blt_of hσ) (blt_of hσ) (blt_of hσ) (by omega) (by omega) (by omega) (by omega) (by omega) (by omega) (by rw [qA_get]; exact hi) (by rw [qA_get]; exact ha) (by rw [qA_get]; exact hc) (by rw [qA_get]; exact hpp) (by rw [qA_get]; exact hss)
  rw [qA_set, qA_set, qA_set] at h5
  exact ⟨b, lc', lp', ls', h1, h2, h3, h4, h6, h5⟩
end
section
variable {ξ : Nat → Option (Nat × List Int32)}
def cUnp (L : Nat) (l1 fc fp fs wc wp ws : List Int32) : qH := [.inl (6, [.ref (L + 1), .ref (L + 2), .ref (L + 6), .ref (L + 10), .ref (L + 14), .ref (L + 18), .ref (L + 22), .ref (L + 22), .int 0, .int 0, .int 0, .int 0]), .inr (.inl (0, l1)), .inl (2, [.ref (L + 3), .ref (L + 4), .ref (L + 5)]), .inr (.inl (0, List.replicate 16 0)), .inr (.inl (0, List.replicate 16 0)), .inr (.inl (0, List.replicate 19 0)), .inl (2, [.ref (L + 7), .ref (L + 8), .ref (L + 9)]), .inr (.inl (0, List.replicate 16 0)), .inr (.inl (0, List.replicate 16 0)), .inr (.inl (0, List.replicate 286 0)), .inl (2, [.ref (L + 11), .ref (L + 12), .ref (L + 13)]), .inr (.inl (0, List.replicate 16 0)), .inr (.inl (0, List.replicate 16 0)), .inr (.inl (0, List.replicate 30 0)), .inl (2, [.ref (L + 15), .ref (L + 16), .ref (L + 17)]), .inr (.inl (0, fc)), .inr (.inl (0, fp)), .inr (.inl (0, fs)), .inl (2, [.ref (L + 19), .ref (L + 20), .ref (L + 21)]), .inr (.inl (0, wc)), .inr (.inl (0, wp)), .inr (.inl (0, ws)), .inl (5, [.int 0, .ref (L + 23), .int 0]), .inr (.inl (1, []))]
def unpOk (l1 fc fp fs wc wp ws : List Int32) : Prop := l1.length = 320 ∧ fc.length = 16 ∧ fp.length = 16 ∧ fs.length = 288 ∧ wc.length = 16 ∧ wp.length = 16 ∧ ws.length = 32 ∧ CDL fc fs fixA 288 ∧ CDL wc ws (fun _ => 5) 32
set_option maxRecDepth 100000 in
set_option maxHeartbeats 2000000 in
theorem c_U_init1 (d : Nat) (σ : qH) (lo : List Int32) (hξ : ξ 1 = some (0, lo)) (hlo : lo.length = 19) (o : Option Value × qH) (g : G ξ (d + 3) j_U_init 122 [(0, .ref σ.length)] [] (σ ++ cUnp σ.length (List.replicate 320 0) (List.replicate 16 0) (List.replicate 16 0) (List.replicate 288 0) (List.replicate 16 0) (List.replicate 16 0) (List.replicate 32 0)) o) : G ξ (d + 3) j_U_init 0 (lv_args 0 [.ref σ.length]) [] (σ ++ [.inl (6, qnew 6)]) o := by
  refine G.go 4 (fun n => (rfl : _ = exe ξ n (d + 3) j_U_init 8 [(0, .ref σ.length)] [.int 320, .ref σ.length] (σ ++ (.inl (6, qnew 6) :: [])))) ?_
  refine G.aloA rfl rfl rfl rfl rfl rfl ?_
  refine G.putA (k9 := 0) rfl rfl rfl rfl rfl rfl ?_
  refine G.go 1 (fun n => (rfl : _ = exe ξ n (d + 3) j_U_init 14 [(0, .ref σ.length)] [.ref σ.length] (σ ++ (.inl (6, [.ref (σ.length + 1), .null, .null, .null, .null, .null, .null, .null, .int 0, .int 0, .int 0, .int 0]) :: [.inr (.inl (0, List.replicate 320 0))])))) ?_
  refine G.aloA rfl rfl rfl rfl rfl rfl ?_
  refine G.go 2 (fun n => (rfl : _ = exe ξ n (d + 3) j_U_init 21 [(0, .ref σ.length)] [.ref 1, .ref (σ.length + 2), .ref (σ.length + 2), .ref σ.length] (σ ++ (.inl (6, [.ref (σ.length + 1), .null, .null, .null, .null, .null, .null, .null, .int 0, .int 0, .int 0, .int 0]) :: ([.inr (.inl (0, List.replicate 320 0))] ++ [.inl (2, qnew 2)]))))) ?_
  refine G.xlen rfl rfl hξ ?_
  rw [hlo]
  refine G.call (k := j_C_init) (as := [.ref (σ.length + 2), .int 19]) (r := [.ref (σ.length + 2), .ref σ.length]) rfl rfl rfl rfl rfl rfl rfl rfl (newSub (o := .inl (2, qnew 2)) (fun τ L h => c_C_init _ 19 rfl rfl τ L h) σ (.inl (6, [.ref (σ.length + 1), .null, .null, .null, .null, .null, .null, .null, .int 0, .int 0, .int 0, .int 0]) :: [.inr (.inl (0, List.replicate 320 0))])) ?_
  refine G.putA (k9 := 0) rfl rfl rfl rfl rfl rfl ?_
  refine G.go 1 (fun n => (rfl : _ = exe ξ n (d + 3) j_U_init 29 [(0, .ref σ.length)] [.ref σ.length] (σ ++ (.inl (6, [.ref (σ.length + 1), .ref (σ.length + 2), .null, .null, .null, .null, .null, .null, .int 0, .int 0, .int 0, .int 0]) :: ([.inr (.inl (0, List.replicate 320 0))] ++ cCod (σ.length + 2) 19))))) ?_
  refine G.aloA rfl rfl rfl rfl rfl rfl ?_
  refine G.go 2 (fun n => (rfl : _ = exe ξ n (d + 3) j_U_init 36 [(0, .ref σ.length)] [.int 286, .ref (σ.length + 6), .ref (σ.length + 6), .ref σ.length] (σ ++ (.inl (6, [.ref (σ.length + 1), .ref (σ.length + 2), .null, .null, .null, .null, .null, .null, .int 0, .int 0, .int 0, .int 0]) :: (([.inr (.inl (0, List.replicate 320 0))] ++ cCod (σ.length + 2) 19) ++ [.inl (2, qnew 2)]))))) ?_
  refine G.call (k := j_C_init) (as := [.ref (σ.length + 6), .int 286]) (r := [.ref (σ.length + 6), .ref σ.length]) rfl rfl rfl rfl rfl rfl rfl rfl (newSub (o := .inl (2, qnew 2)) (fun τ L h => c_C_init _ 286 rfl rfl τ L h) σ (.inl (6, [.ref (σ.length + 1), .ref (σ.length + 2), .null, .null, .null, .null, .null, .null, .int 0, .int 0, .int 0, .int 0]) :: ([.inr (.inl (0, List.replicate 320 0))] ++ cCod (σ.length + 2) 19))) ?_
  refine G.putA (k9 := 0) rfl rfl rfl rfl rfl rfl ?_
  refine G.go 1 (fun n => (rfl : _ = exe ξ n (d + 3) j_U_init 43 [(0, .ref σ.length)] [.ref σ.length] (σ ++ (.inl (6, [.ref (σ.length + 1), .ref (σ.length + 2), .ref (σ.length + 6), .null, .null, .null, .null, .null, .int 0, .int 0, .int 0, .int 0]) :: (([.inr (.inl (0, List.replicate 320 0))] ++ cCod (σ.length + 2) 19) ++ cCod (σ.length + 6) 286))))) ?_
  refine G.aloA rfl rfl rfl rfl rfl rfl ?_
  refine G.go 2 (fun n => (rfl : _ = exe ξ n (d + 3) j_U_init 49 [(0, .ref σ.length)] [.int 30, .ref (σ.length + 10), .ref (σ.length + 10), .ref σ.length] (σ ++ (.inl (6, [.ref (σ.length + 1), .ref (σ.length + 2), .ref (σ.length + 6), .null, .null, .null, .null, .null, .int 0, .int 0, .int 0, .int 0]) :: ((([.inr (.inl (0, List.replicate 320 0))] ++ cCod (σ.length + 2) 19) ++ cCod (σ.length + 6) 286) ++ [.inl (2, qnew 2)]))))) ?_
  refine G.call (k := j_C_init) (as := [.ref (σ.length + 10), .int 30]) (r := [.ref (σ.length + 10), .ref σ.length]) rfl rfl rfl rfl rfl rfl rfl rfl (newSub (o := .inl (2, qnew 2)) (fun τ L h => c_C_init _ 30 rfl rfl τ L h) σ (.inl (6, [.ref (σ.length + 1), .ref (σ.length + 2), .ref (σ.length + 6), .null, .null, .null, .null, .null, .int 0, .int 0, .int 0, .int 0]) :: (([.inr (.inl (0, List.replicate 320 0))] ++ cCod (σ.length + 2) 19) ++ cCod (σ.length + 6) 286))) ?_
  refine G.putA (k9 := 0) rfl rfl rfl rfl rfl rfl ?_
  refine G.go 1 (fun n => (rfl : _ = exe ξ n (d + 3) j_U_init 56 [(0, .ref σ.length)] [.ref σ.length] (σ ++ (.inl (6, [.ref (σ.length + 1), .ref (σ.length + 2), .ref (σ.length + 6), .ref (σ.length + 10), .null, .null, .null, .null, .int 0, .int 0, .int 0, .int 0]) :: ((([.inr (.inl (0, List.replicate 320 0))] ++ cCod (σ.length + 2) 19) ++ cCod (σ.length + 6) 286) ++ cCod (σ.length + 10) 30))))) ?_
  refine G.aloA rfl rfl rfl rfl rfl rfl ?_
  refine G.go 2 (fun n => (rfl : _ = exe ξ n (d + 3) j_U_init 63 [(0, .ref σ.length)] [.int 288, .ref (σ.length + 14), .ref (σ.length + 14), .ref σ.length] (σ ++ (.inl (6, [.ref (σ.length + 1), .ref (σ.length + 2), .ref (σ.length + 6), .ref (σ.length + 10), .null, .null, .null, .null, .int 0, .int 0, .int 0, .int 0]) :: (((([.inr (.inl (0, List.replicate 320 0))] ++ cCod (σ.length + 2) 19) ++ cCod (σ.length + 6) 286) ++ cCod (σ.length + 10) 30) ++ [.inl (2, qnew 2)]))))) ?_
  refine G.call (k := j_C_init) (as := [.ref (σ.length + 14), .int 288]) (r := [.ref (σ.length + 14), .ref σ.length]) rfl rfl rfl rfl rfl rfl rfl rfl (newSub (o := .inl (2, qnew 2)) (fun τ L h => c_C_init _ 288 rfl rfl τ L h) σ (.inl (6, [.ref (σ.length + 1), .ref (σ.length + 2), .ref (σ.length + 6), .ref (σ.length + 10), .null, .null, .null, .null, .int 0, .int 0, .int 0, .int 0]) :: ((([.inr (.inl (0, List.replicate 320 0))] ++ cCod (σ.length + 2) 19) ++ cCod (σ.length + 6) 286) ++ cCod (σ.length + 10) 30))) ?_
  refine G.putA (k9 := 0) rfl rfl rfl rfl rfl rfl ?_
  refine G.go 1 (fun n => (rfl : _ = exe ξ n (d + 3) j_U_init 70 [(0, .ref σ.length)] [.ref σ.length] (σ ++ (.inl (6, [.ref (σ.length + 1), .ref (σ.length + 2), .ref (σ.length + 6), .ref (σ.length + 10), .ref (σ.length + 14), .null, .null, .null, .int 0, .int 0, .int 0, .int 0]) :: (((([.inr (.inl (0, List.replicate 320 0))] ++ cCod (σ.length + 2) 19) ++ cCod (σ.length + 6) 286) ++ cCod (σ.length + 10) 30) ++ cCod (σ.length + 14) 288))))) ?_
  refine G.aloA rfl rfl rfl rfl rfl rfl ?_
  refine G.go 2 (fun n => (rfl : _ = exe ξ n (d + 3) j_U_init 76 [(0, .ref σ.length)] [.int 32, .ref (σ.length + 18), .ref (σ.length + 18), .ref σ.length] (σ ++ (.inl (6, [.ref (σ.length + 1), .ref (σ.length + 2), .ref (σ.length + 6), .ref (σ.length + 10), .ref (σ.length + 14), .null, .null, .null, .int 0, .int 0, .int 0, .int 0]) :: ((((([.inr (.inl (0, List.replicate 320 0))] ++ cCod (σ.length + 2) 19) ++ cCod (σ.length + 6) 286) ++ cCod (σ.length + 10) 30) ++ cCod (σ.length + 14) 288) ++ [.inl (2, qnew 2)]))))) ?_
  refine G.call (k := j_C_init) (as := [.ref (σ.length + 18), .int 32]) (r := [.ref (σ.length + 18), .ref σ.length]) rfl rfl rfl rfl rfl rfl rfl rfl (newSub (o := .inl (2, qnew 2)) (fun τ L h => c_C_init _ 32 rfl rfl τ L h) σ (.inl (6, [.ref (σ.length + 1), .ref (σ.length + 2), .ref (σ.length + 6), .ref (σ.length + 10), .ref (σ.length + 14), .null, .null, .null, .int 0, .int 0, .int 0, .int 0]) :: (((([.inr (.inl (0, List.replicate 320 0))] ++ cCod (σ.length + 2) 19) ++ cCod (σ.length + 6) 286) ++ cCod (σ.length + 10) 30) ++ cCod (σ.length + 14) 288))) ?_
  refine G.putA (k9 := 0) rfl rfl rfl rfl rfl rfl ?_
  refine G.go 1 (fun n => (rfl : _ = exe ξ n (d + 3) j_U_init 83 [(0, .ref σ.length)] [.ref σ.length] (σ ++ (.inl (6, [.ref (σ.length + 1), .ref (σ.length + 2), .ref (σ.length + 6), .ref (σ.length + 10), .ref (σ.length + 14), .ref (σ.length + 18), .null, .null, .int 0, .int 0, .int 0, .int 0]) :: ((((([.inr (.inl (0, List.replicate 320 0))] ++ cCod (σ.length + 2) 19) ++ cCod (σ.length + 6) 286) ++ cCod (σ.length + 10) 30) ++ cCod (σ.length + 14) 288) ++ cCod (σ.length + 18) 32))))) ?_
  refine G.aloA rfl rfl rfl rfl rfl rfl ?_
  refine G.go 2 (fun n => (rfl : _ = exe ξ n (d + 3) j_U_init 88 [(0, .ref σ.length)] [.int 0, .ref (σ.length + 22), .ref (σ.length + 22), .ref σ.length] (σ ++ (.inl (6, [.ref (σ.length + 1), .ref (σ.length + 2), .ref (σ.length + 6), .ref (σ.length + 10), .ref (σ.length + 14), .ref (σ.length + 18), .null, .null, .int 0, .int 0, .int 0, .int 0]) :: (((((([.inr (.inl (0, List.replicate 320 0))] ++ cCod (σ.length + 2) 19) ++ cCod (σ.length + 6) 286) ++ cCod (σ.length + 10) 30) ++ cCod (σ.length + 14) 288) ++ cCod (σ.length + 18) 32) ++ [.inl (5, qnew 5)]))))) ?_
  refine G.call (k := j_R_init) (as := [.ref (σ.length + 22), .int 0]) (r := [.ref (σ.length + 22), .ref σ.length]) rfl rfl rfl rfl rfl rfl rfl rfl (newSub (o := .inl (5, qnew 5)) (fun τ L h => c_R_init _ 0 τ L h) σ (.inl (6, [.ref (σ.length + 1), .ref (σ.length + 2), .ref (σ.length + 6), .ref (σ.length + 10), .ref (σ.length + 14), .ref (σ.length + 18), .null, .null, .int 0, .int 0, .int 0, .int 0]) :: ((((([.inr (.inl (0, List.replicate 320 0))] ++ cCod (σ.length + 2) 19) ++ cCod (σ.length + 6) 286) ++ cCod (σ.length + 10) 30) ++ cCod (σ.length + 14) 288) ++ cCod (σ.length + 18) 32))) ?_
  refine G.putA (k9 := 0) rfl rfl rfl rfl rfl rfl ?_
  refine G.go 2 (fun n => (rfl : _ = exe ξ n (d + 3) j_U_init 96 [(0, .ref σ.length)] [.ref σ.length, .ref σ.length] (σ ++ (.inl (6, [.ref (σ.length + 1), .ref (σ.length + 2), .ref (σ.length + 6), .ref (σ.length + 10), .ref (σ.length + 14), .ref (σ.length + 18), .ref (σ.length + 22), .null, .int 0, .int 0, .int 0, .int 0]) :: (((((([.inr (.inl (0, List.replicate 320 0))] ++ cCod (σ.length + 2) 19) ++ cCod (σ.length + 6) 286) ++ cCod (σ.length + 10) 30) ++ cCod (σ.length + 14) 288) ++ cCod (σ.length + 18) 32) ++ cRow (σ.length + 22) 0))))) ?_
  refine G.getA (k9 := 0) rfl rfl rfl rfl rfl ?_
  refine G.putA (k9 := 0) rfl rfl rfl rfl rfl rfl ?_
  refine G.go 2 (fun n => (rfl : _ = exe ξ n (d + 3) j_U_init 104 [(0, .ref σ.length)] [.int 0, .ref σ.length] (σ ++ (.inl (6, [.ref (σ.length + 1), .ref (σ.length + 2), .ref (σ.length + 6), .ref (σ.length + 10), .ref (σ.length + 14), .ref (σ.length + 18), .ref (σ.length + 22), .ref (σ.length + 22), .int 0, .int 0, .int 0, .int 0]) :: (((((([.inr (.inl (0, List.replicate 320 0))] ++ cCod (σ.length + 2) 19) ++ cCod (σ.length + 6) 286) ++ cCod (σ.length + 10) 30) ++ cCod (σ.length + 14) 288) ++ cCod (σ.length + 18) 32) ++ cRow (σ.length + 22) 0))))) ?_
  refine G.putA (k9 := 0) rfl rfl rfl rfl rfl rfl ?_
  refine G.go 2 (fun n => (rfl : _ = exe ξ n (d + 3) j_U_init 109 [(0, .ref σ.length)] [.int 0, .ref σ.length] (σ ++ (.inl (6, [.ref (σ.length + 1), .ref (σ.length + 2), .ref (σ.length + 6), .ref (σ.length + 10), .ref (σ.length + 14), .ref (σ.length + 18), .ref (σ.length + 22), .ref (σ.length + 22), .int 0, .int 0, .int 0, .int 0]) :: (((((([.inr (.inl (0, List.replicate 320 0))] ++ cCod (σ.length + 2) 19) ++ cCod (σ.length + 6) 286) ++ cCod (σ.length + 10) 30) ++ cCod (σ.length + 14) 288) ++ cCod (σ.length + 18) 32) ++ cRow (σ.length + 22) 0))))) ?_
  refine G.putA (k9 := 0) rfl rfl rfl rfl rfl rfl ?_
  refine G.go 2 (fun n => (rfl : _ = exe ξ n (d + 3) j_U_init 114 [(0, .ref σ.length)] [.int 0, .ref σ.length] (σ ++ (.inl (6, [.ref (σ.length + 1), .ref (σ.length + 2), .ref (σ.length + 6), .ref (σ.length + 10), .ref (σ.length + 14), .ref (σ.length + 18), .ref (σ.length + 22), .ref (σ.length + 22), .int 0, .int 0, .int 0, .int 0]) :: (((((([.inr (.inl (0, List.replicate 320 0))] ++ cCod (σ.length + 2) 19) ++ cCod (σ.length + 6) 286) ++ cCod (σ.length + 10) 30) ++ cCod (σ.length + 14) 288) ++ cCod (σ.length + 18) 32) ++ cRow (σ.length + 22) 0))))) ?_
  refine G.putA (k9 := 0) rfl rfl rfl rfl rfl rfl ?_
  refine G.go 2 (fun n => (rfl : _ = exe ξ n (d + 3) j_U_init 119 [(0, .ref σ.length)] [.int 0, .ref σ.length] (σ ++ (.inl (6, [.ref (σ.length + 1), .ref (σ.length + 2), .ref (σ.length + 6), .ref (σ.length + 10), .ref (σ.length + 14), .ref (σ.length + 18), .ref (σ.length + 22), .ref (σ.length + 22), .int 0, .int 0, .int 0, .int 0]) :: (((((([.inr (.inl (0, List.replicate 320 0))] ++ cCod (σ.length + 2) 19) ++ cCod (σ.length + 6) 286) ++ cCod (σ.length + 10) 30) ++ cCod (σ.length + 14) 288) ++ cCod (σ.length + 18) 32) ++ cRow (σ.length + 22) 0))))) ?_
  refine G.putA (k9 := 0) rfl rfl rfl rfl rfl rfl ?_
  exact g
set_option maxRecDepth 100000 in
set_option maxHeartbeats 2000000 in
theorem c_U_init (d : Nat) (σ : qH) (L : Nat) (lo : List Int32) (hξ : ξ 1 = some (0, lo)) (hlo : lo.length = 19) (hσ : qnE ≤ σ.length) (hL : L = σ.length) : ∃ l1 fc fp fs wc wp ws : List Int32, unpOk l1 fc fp fs wc wp ws ∧ G ξ (d + 3) j_U_init 0 (lv_args 0 [.ref L]) [] (σ ++ [.inl (6, qnew 6)]) (none, σ ++ cUnp L l1 fc fp fs wc wp ws) := by
  subst hL
  obtain ⟨m1, e1, v1, g1⟩ := c_fillA (ξ := ξ) (d + 1) 0 144 8 (List.replicate 320 0) σ (cUnp σ.length (List.replicate 320 0) (List.replicate 16 0) (List.replicate 16 0) (List.replicate 288 0) (List.replicate 16 0) (List.replicate 16 0) (List.replicate 32 0)) 1 hσ (by rw [List.length_replicate]; decide) (by decide) (by rw [List.length_replicate]; decide) rfl
  rw [List.length_replicate] at e1
  obtain ⟨m2, e2, v2, g2⟩ := c_fillA (ξ := ξ) (d + 1) 144 256 9 m1 σ (cUnp σ.length m1 (List.replicate 16 0) (List.replicate 16 0) (List.replicate 288 0) (List.replicate 16 0) (List.replicate 16 0) (List.replicate 32 0)) 1 hσ (by rw [e1]; decide) (by decide) (by rw [e1]; decide) rfl
  rw [e1] at e2
  obtain ⟨m3, e3, v3, g3⟩ := c_fillA (ξ := ξ) (d + 1) 256 280 7 m2 σ (cUnp σ.length m2 (List.replicate 16 0) (List.replicate 16 0) (List.replicate 288 0) (List.replicate 16 0) (List.replicate 16 0) (List.replicate 32 0)) 1 hσ (by rw [e2]; decide) (by decide) (by rw [e2]; decide) rfl
  rw [e2] at e3
  obtain ⟨m4, e4, v4, g4⟩ := c_fillA (ξ := ξ) (d + 1) 280 288 8 m3 σ (cUnp σ.length m3 (List.replicate 16 0) (List.replicate 16 0) (List.replicate 288 0) (List.replicate 16 0) (List.replicate 16 0) (List.replicate 32 0)) 1 hσ (by rw [e3]; decide) (by decide) (by rw [e3]; decide) rfl
  rw [e3] at e4
  obtain ⟨m5, e5, v5, g5⟩ := c_fillA (ξ := ξ) (d + 1) 288 320 5 m4 σ (cUnp σ.length m4 (List.replicate 16 0) (List.replicate 16 0) (List.replicate 288 0) (List.replicate 16 0) (List.replicate 16 0) (List.replicate 32 0)) 1 hσ (by rw [e4]; decide) (by decide) (by rw [e4]; decide) rfl
  rw [e4] at e5
  obtain ⟨b1, fc, fp, fs, r1, r2, r3, r4, r5, g6⟩ := c_learnA (ξ := ξ) (d + 1) 0 288 0 m5 (List.replicate 16 0) (List.replicate 16 0) (List.replicate 288 0) σ (cUnp σ.length m5 (List.replicate 16 0) (List.replicate 16 0) (List.replicate 288 0) (List.replicate 16 0) (List.replicate 16 0) (List.replicate 32 0)) 14 1 15 16 17 hσ (Or.inl rfl) (by rw [List.length_replicate]) (by rw [List.length_replicate]) (by rw [List.length_replicate]; decide) (by rw [e5]; decide) (by decide) (by decide) (by decide) (by decide) (by decide) (by decide) rfl rfl rfl rfl rfl
  rw [List.length_replicate] at r4
  obtain ⟨b2, wc, wp, ws, s1, s2, s3, s4, s5, g7⟩ := c_learnA (ξ := ξ) (d + 1) 288 32 0 m5 (List.replicate 16 0) (List.replicate 16 0) (List.replicate 32 0) σ (cUnp σ.length m5 fc fp fs (List.replicate 16 0) (List.replicate 16 0) (List.replicate 32 0)) 18 1 19 20 21 hσ (Or.inl rfl) (by rw [List.length_replicate]) (by rw [List.length_replicate]) (by rw [List.length_replicate]; decide) (by rw [e5]; decide) (by decide) (by decide) (by decide) (by decide) (by decide) (by decide) rfl rfl rfl rfl rfl
  rw [List.length_replicate] at s4
  have t0 : (0 : Int32).toInt = 0 := by decide
  have t288 : (288 : Int32).toInt = 288 := by decide
  have t32 : (32 : Int32).toInt = 32 := by decide
  have k1 : CDL fc fs (LN m5 0) 288 := by
    have h := (r5 (by rw [t0]; decide) (by rw [t288]; decide) (by rw [t288, List.length_replicate]; decide) (by rw [t0, t288, e5]; decide)).1
    rw [t0, t288] at h
    exact h
  have k2 : CDL wc ws (LN m5 288) 32 := by
    have h := (s5 (by rw [t288]; decide) (by rw [t32]; decide) (by rw [t32, List.length_replicate]; decide) (by rw [t288, t32, e5]; decide)).1
    rw [t288, t32] at h
    exact h
  have k3 : CDL fc fs fixA 288 := CDL_congr (fun k a b => by
    unfold LN fixA
    rw [v5, v4, v3, v2, v1, if_neg (by omega)]
    rcases (by omega : k < 144 ∨ (144 ≤ k ∧ k < 256) ∨ (256 ≤ k ∧ k < 280) ∨ (280 ≤ k ∧ k < 288)) with c | c | c | c
    · rw [if_neg (by omega), if_neg (by omega), if_neg (by omega), if_pos (by omega), if_pos c]
      decide
    · rw [if_neg (by omega), if_neg (by omega), if_pos (by omega), if_neg (by omega), if_pos (by omega)]
      decide
    · rw [if_neg (by omega), if_pos (by omega), if_neg (by omega), if_neg (by omega), if_pos (by omega)]
      decide
    · rw [if_pos (by omega), if_neg (by omega), if_neg (by omega), if_neg (by omega)]
      decide) k1
  have k4 : CDL wc ws (fun _ => 5) 32 := CDL_congr (fun k a b => by
    unfold LN
    rw [v5, if_pos (by omega)]
    decide) k2
  refine ⟨m5, fc, fp, fs, wc, wp, ws, ⟨e5, r2, r3, r4, s2, s3, s4, k3, k4⟩, c_U_init1 d σ lo hξ hlo _ ?_⟩
  refine G.go 1 (fun n => (rfl : _ = exe ξ n (d + 3) j_U_init 123 [(0, .ref σ.length)] [.ref σ.length] (σ ++ cUnp σ.length (List.replicate 320 0) (List.replicate 16 0) (List.replicate 16 0) (List.replicate 288 0) (List.replicate 16 0) (List.replicate 16 0) (List.replicate 32 0)))) ?_
  refine G.getA (k9 := 0) rfl rfl rfl rfl rfl ?_
  refine G.go 3 (fun n => (rfl : _ = exe ξ n (d + 3) j_U_init 132 [(0, .ref σ.length)] [.int 8, .int (Int32.ofNat 144), .int (Int32.ofNat 0), .ref (σ.length + 1)] (σ ++ cUnp σ.length (List.replicate 320 0) (List.replicate 16 0) (List.replicate 16 0) (List.replicate 288 0) (List.replicate 16 0) (List.replicate 16 0) (List.replicate 32 0)))) ?_
  refine G.call (k := j_J_fill) (as := [.ref (σ.length + 1), .int (Int32.ofNat 0), .int (Int32.ofNat 144), .int 8]) (r := []) rfl rfl rfl rfl rfl rfl rfl rfl g1 ?_
  refine G.go 1 (fun n => (rfl : _ = exe ξ n (d + 3) j_U_init 136 [(0, .ref σ.length)] [.ref σ.length] (σ ++ cUnp σ.length m1 (List.replicate 16 0) (List.replicate 16 0) (List.replicate 288 0) (List.replicate 16 0) (List.replicate 16 0) (List.replicate 32 0)))) ?_
  refine G.getA (k9 := 0) rfl rfl rfl rfl rfl ?_
  refine G.go 3 (fun n => (rfl : _ = exe ξ n (d + 3) j_U_init 147 [(0, .ref σ.length)] [.int 9, .int (Int32.ofNat 256), .int (Int32.ofNat 144), .ref (σ.length + 1)] (σ ++ cUnp σ.length m1 (List.replicate 16 0) (List.replicate 16 0) (List.replicate 288 0) (List.replicate 16 0) (List.replicate 16 0) (List.replicate 32 0)))) ?_
  refine G.call (k := j_J_fill) (as := [.ref (σ.length + 1), .int (Int32.ofNat 144), .int (Int32.ofNat 256), .int 9]) (r := []) rfl rfl rfl rfl rfl rfl rfl rfl g2 ?_
  refine G.go 1 (fun n => (rfl : _ = exe ξ n (d + 3) j_U_init 151 [(0, .ref σ.length)] [.ref σ.length] (σ ++ cUnp σ.length m2 (List.replicate 16 0) (List.replicate 16 0) (List.replicate 288 0) (List.replicate 16 0) (List.replicate 16 0) (List.replicate 32 0)))) ?_
  refine G.getA (k9 := 0) rfl rfl rfl rfl rfl ?_
  refine G.go 3 (fun n => (rfl : _ = exe ξ n (d + 3) j_U_init 162 [(0, .ref σ.length)] [.int 7, .int (Int32.ofNat 280), .int (Int32.ofNat 256), .ref (σ.length + 1)] (σ ++ cUnp σ.length m2 (List.replicate 16 0) (List.replicate 16 0) (List.replicate 288 0) (List.replicate 16 0) (List.replicate 16 0) (List.replicate 32 0)))) ?_
  refine G.call (k := j_J_fill) (as := [.ref (σ.length + 1), .int (Int32.ofNat 256), .int (Int32.ofNat 280), .int 7]) (r := []) rfl rfl rfl rfl rfl rfl rfl rfl g3 ?_
  refine G.go 1 (fun n => (rfl : _ = exe ξ n (d + 3) j_U_init 166 [(0, .ref σ.length)] [.ref σ.length] (σ ++ cUnp σ.length m3 (List.replicate 16 0) (List.replicate 16 0) (List.replicate 288 0) (List.replicate 16 0) (List.replicate 16 0) (List.replicate 32 0)))) ?_
  refine G.getA (k9 := 0) rfl rfl rfl rfl rfl ?_
  refine G.go 3 (fun n => (rfl : _ = exe ξ n (d + 3) j_U_init 177 [(0, .ref σ.length)] [.int 8, .int (Int32.ofNat 288), .int (Int32.ofNat 280), .ref (σ.length + 1)] (σ ++ cUnp σ.length m3 (List.replicate 16 0) (List.replicate 16 0) (List.replicate 288 0) (List.replicate 16 0) (List.replicate 16 0) (List.replicate 32 0)))) ?_
  refine G.call (k := j_J_fill) (as := [.ref (σ.length + 1), .int (Int32.ofNat 280), .int (Int32.ofNat 288), .int 8]) (r := []) rfl rfl rfl rfl rfl rfl rfl rfl g4 ?_
  refine G.go 1 (fun n => (rfl : _ = exe ξ n (d + 3) j_U_init 181 [(0, .ref σ.length)] [.ref σ.length] (σ ++ cUnp σ.length m4 (List.replicate 16 0) (List.replicate 16 0) (List.replicate 288 0) (List.replicate 16 0) (List.replicate 16 0) (List.replicate 32 0)))) ?_
  refine G.getA (k9 := 0) rfl rfl rfl rfl rfl ?_
  refine G.go 3 (fun n => (rfl : _ = exe ξ n (d + 3) j_U_init 191 [(0, .ref σ.length)] [.int 5, .int (Int32.ofNat 320), .int (Int32.ofNat 288), .ref (σ.length + 1)] (σ ++ cUnp σ.length m4 (List.replicate 16 0) (List.replicate 16 0) (List.replicate 288 0) (List.replicate 16 0) (List.replicate 16 0) (List.replicate 32 0)))) ?_
  refine G.call (k := j_J_fill) (as := [.ref (σ.length + 1), .int (Int32.ofNat 288), .int (Int32.ofNat 320), .int 5]) (r := []) rfl rfl rfl rfl rfl rfl rfl rfl g5 ?_
  refine G.go 1 (fun n => (rfl : _ = exe ξ n (d + 3) j_U_init 195 [(0, .ref σ.length)] [.ref σ.length] (σ ++ cUnp σ.length m5 (List.replicate 16 0) (List.replicate 16 0) (List.replicate 288 0) (List.replicate 16 0) (List.replicate 16 0) (List.replicate 32 0)))) ?_
  refine G.getA (k9 := 0) rfl rfl rfl rfl rfl ?_
  refine G.go 1 (fun n => (rfl : _ = exe ξ n (d + 3) j_U_init 199 [(0, .ref σ.length)] [.ref σ.length, .ref (σ.length + 14)] (σ ++ cUnp σ.length m5 (List.replicate 16 0) (List.replicate 16 0) (List.replicate 288 0) (List.replicate 16 0) (List.replicate 16 0) (List.replicate 32 0)))) ?_
  refine G.getA (k9 := 0) rfl rfl rfl rfl rfl ?_
  refine G.go 3 (fun n => (rfl : _ = exe ξ n (d + 3) j_U_init 207 [(0, .ref σ.length)] [.int 0, .int 288, .int 0, .ref (σ.length + 1), .ref (σ.length + 14)] (σ ++ cUnp σ.length m5 (List.replicate 16 0) (List.replicate 16 0) (List.replicate 288 0) (List.replicate 16 0) (List.replicate 16 0) (List.replicate 32 0)))) ?_
  refine G.call (k := j_C_learn) (as := [.ref (σ.length + 14), .ref (σ.length + 1), .int 0, .int 288, .int 0]) (r := []) (v := some (.int b1)) rfl rfl rfl rfl rfl rfl rfl ?_ g6 ?_
  · show (bif qrc _ (σ.length + 14) j_C_learn && _ then _ else _) = _
    rw [qrc_at (ci := 2) (blt_of hσ) (by rw [qA_get]; rfl) rfl]
    rfl
  refine G.go 1 (fun n => (rfl : _ = exe ξ n (d + 3) j_U_init 211 [(0, .ref σ.length)] [] (σ ++ cUnp σ.length m5 fc fp fs (List.replicate 16 0) (List.replicate 16 0) (List.replicate 32 0)))) ?_
  refine G.go 1 (fun n => (rfl : _ = exe ξ n (d + 3) j_U_init 212 [(0, .ref σ.length)] [.ref σ.length] (σ ++ cUnp σ.length m5 fc fp fs (List.replicate 16 0) (List.replicate 16 0) (List.replicate 32 0)))) ?_
  refine G.getA (k9 := 0) rfl rfl rfl rfl rfl ?_
  refine G.go 1 (fun n => (rfl : _ = exe ξ n (d + 3) j_U_init 216 [(0, .ref σ.length)] [.ref σ.length, .ref (σ.length + 18)] (σ ++ cUnp σ.length m5 fc fp fs (List.replicate 16 0) (List.replicate 16 0) (List.replicate 32 0)))) ?_
  refine G.getA (k9 := 0) rfl rfl rfl rfl rfl ?_
  refine G.go 3 (fun n => (rfl : _ = exe ξ n (d + 3) j_U_init 225 [(0, .ref σ.length)] [.int 0, .int 32, .int 288, .ref (σ.length + 1), .ref (σ.length + 18)] (σ ++ cUnp σ.length m5 fc fp fs (List.replicate 16 0) (List.replicate 16 0) (List.replicate 32 0)))) ?_
  refine G.call (k := j_C_learn) (as := [.ref (σ.length + 18), .ref (σ.length + 1), .int 288, .int 32, .int 0]) (r := []) (v := some (.int b2)) rfl rfl rfl rfl rfl rfl rfl ?_ g7 ?_
  · show (bif qrc _ (σ.length + 18) j_C_learn && _ then _ else _) = _
    rw [qrc_at (ci := 2) (blt_of hσ) (by rw [qA_get]; rfl) rfl]
    rfl
  exact G.end 2 (fun n => rfl)
end
