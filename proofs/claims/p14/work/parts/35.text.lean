/-! Row.add; the two texts, and how they are laid into a row. -/
section
variable {ξ : Nat → Option (Nat × List Int32)}
def b8 (v : Int32) : Int32 := v.toInt8.toInt32.toInt8.toInt32
theorem c_add_in (d i b : Nat) (m len v : Int32) (li : List Int32) (σ : qH) (hi : σ[i]? = some (.inl (5, [.int m, .ref b, .int len]))) (hb : σ[b]? = some (.inr (.inl (1, li)))) (hnb : Nat.blt b qnE = false) (h1 : len < m) (h2 : m ≤ Int32.ofNat li.length) (h3 : qix len li.length = true) : G ξ d j_R_add 0 (lv_args 0 [.ref i, .int v]) [] σ (some (.int 1), (σ.set b (.inr (.inl (1, li.set len.toNatClampNeg (b8 v))))).set i (.inl (5, [.int m, .ref b, .int (len + 1)]))) := by
  have hib : i ≠ b := q_dif hi hb (by intro z; cases z)
  refine G.go 1 (fun n => (rfl : _ = exe ξ n d j_R_add 1 [(0, .ref i), (1, .int v)] [.ref i] σ)) ?_
  refine G.get rfl rfl rfl hi rfl ?_
  refine G.go 1 (fun n => (rfl : _ = exe ξ n d j_R_add 5 [(0, .ref i), (1, .int v)] [.ref i, .int len] σ)) ?_
  refine G.get rfl rfl rfl hi rfl ?_
  refine G.go 1 (fun n => (rfl : _ = exe ξ n d j_R_add (if len < m then 13 else 11) [(0, .ref i), (1, .int v)] [] σ)) ?_
  rw [if_pos h1]
  refine G.go 1 (fun n => (rfl : _ = exe ξ n d j_R_add 14 [(0, .ref i), (1, .int v)] [.ref i] σ)) ?_
  refine G.get rfl rfl rfl hi rfl ?_
  refine G.ilen rfl hnb hb ?_
  refine G.go 1 (fun n => (rfl : _ = exe ξ n d j_R_add 19 [(0, .ref i), (1, .int v)] [.ref i, .int (Int32.ofNat li.length)] σ)) ?_
  refine G.get rfl rfl rfl hi rfl ?_
  refine G.go 1 (fun n => (rfl : _ = exe ξ n d j_R_add (if m ≤ Int32.ofNat li.length then 35 else 25) [(0, .ref i), (1, .int v)] [] σ)) ?_
  rw [if_pos h2]
  refine G.go 1 (fun n => (rfl : _ = exe ξ n d j_R_add 36 [(0, .ref i), (1, .int v)] [.ref i] σ)) ?_
  refine G.get rfl rfl rfl hi rfl ?_
  refine G.go 1 (fun n => (rfl : _ = exe ξ n d j_R_add 40 [(0, .ref i), (1, .int v)] [.ref i, .ref b] σ)) ?_
  refine G.get rfl rfl rfl hi rfl ?_
  refine G.go 2 (fun n => (rfl : _ = exe ξ n d j_R_add 45 [(0, .ref i), (1, .int v)] [.int v.toInt8.toInt32, .int len, .ref b] σ)) ?_
  refine G.bast rfl hb h3 ?_
  refine G.go 2 (fun n => (rfl : _ = exe ξ n d j_R_add 48 [(0, .ref i), (1, .int v)] [.ref i, .ref i] (σ.set b (.inr (.inl (1, li.set len.toNatClampNeg (b8 v))))))) ?_
  refine G.get rfl rfl rfl (qs_ne hib.symm hi) rfl ?_
  refine G.go 2 (fun n => (rfl : _ = exe ξ n d j_R_add 53 [(0, .ref i), (1, .int v)] [.int (len + 1), .ref i] (σ.set b (.inr (.inl (1, li.set len.toNatClampNeg (b8 v))))))) ?_
  refine G.put rfl rfl (qs_ne hib.symm hi) rfl rfl rfl ?_
  exact G.end 2 (fun n => rfl)
theorem qal_byte {co : Nat} {n : Int32} {r : List Value} (h8 : (!(decide (n < 0))) = true) (h9 : Nat.ble n.toNatClampNeg 100000 = true) : qal co (.newarray .byte) 2 (.int n :: r) = some (r, .inr (.inl (1, List.replicate n.toNatClampNeg 0))) := by
  unfold qal
  simp only [h8, h9, Bool.and_self, cond_true]
theorem c_add_new (d i b : Nat) (m len v : Int32) (li : List Int32) (σ : qH) (hi : σ[i]? = some (.inl (5, [.int m, .ref b, .int len]))) (hb : σ[b]? = some (.inr (.inl (1, li)))) (hnb : Nat.blt b qnE = false) (hσ : qnE ≤ σ.length) (h1 : len < m) (h2 : ¬ m ≤ Int32.ofNat li.length) (h8 : (!(decide (m < 0))) = true) (h9 : Nat.ble m.toNatClampNeg 100000 = true) (h3 : qix len m.toNatClampNeg = true) : G ξ d j_R_add 0 (lv_args 0 [.ref i, .int v]) [] σ (some (.int 1), (σ ++ ([.inr (.inl (1, (List.replicate m.toNatClampNeg 0).set len.toNatClampNeg (b8 v)))] : qH)).set i (.inl (5, [.int m, .ref σ.length, .int (len + 1)]))) := by
  have hil : i < σ.length := (List.getElem?_eq_some_iff.mp hi).1
  have hin : i ≠ σ.length := by omega
  have hnl : Nat.blt σ.length qnE = false := by
    cases hb9 : Nat.blt σ.length qnE with
    | false => rfl
    | true =>
      have h9 : σ.length < qnE := Nat.le_of_ble_eq_true hb9
      omega
  have e1 : ∀ (B : qC) (C : qC), ((σ ++ [B]).set i C)[σ.length]? = some B := fun B C => by
    rw [List.getElem?_set_ne hin, List.getElem?_append_right (Nat.le_refl _), Nat.sub_self]
    rfl
  have e2 : ∀ (B C B2 C2 : qC), ((((σ ++ [B]).set i C).set σ.length B2).set i C2) = (σ ++ [B2]).set i C2 := fun B C B2 C2 => by
    rw [List.set_comm _ _ hin, List.set_set, List.set_append_right _ _ (Nat.le_refl _), Nat.sub_self]
    rfl
  refine G.go 1 (fun n => (rfl : _ = exe ξ n d j_R_add 1 [(0, .ref i), (1, .int v)] [.ref i] σ)) ?_
  refine G.get rfl rfl rfl hi rfl ?_
  refine G.go 1 (fun n => (rfl : _ = exe ξ n d j_R_add 5 [(0, .ref i), (1, .int v)] [.ref i, .int len] σ)) ?_
  refine G.get rfl rfl rfl hi rfl ?_
  refine G.go 1 (fun n => (rfl : _ = exe ξ n d j_R_add (if len < m then 13 else 11) [(0, .ref i), (1, .int v)] [] σ)) ?_
  rw [if_pos h1]
  refine G.go 1 (fun n => (rfl : _ = exe ξ n d j_R_add 14 [(0, .ref i), (1, .int v)] [.ref i] σ)) ?_
  refine G.get rfl rfl rfl hi rfl ?_
  refine G.ilen rfl hnb hb ?_
  refine G.go 1 (fun n => (rfl : _ = exe ξ n d j_R_add 19 [(0, .ref i), (1, .int v)] [.ref i, .int (Int32.ofNat li.length)] σ)) ?_
  refine G.get rfl rfl rfl hi rfl ?_
  refine G.go 1 (fun n => (rfl : _ = exe ξ n d j_R_add (if m ≤ Int32.ofNat li.length then 35 else 25) [(0, .ref i), (1, .int v)] [] σ)) ?_
  rw [if_neg h2]
  refine G.go 2 (fun n => (rfl : _ = exe ξ n d j_R_add 27 [(0, .ref i), (1, .int v)] [.ref i, .ref i] σ)) ?_
  refine G.get rfl rfl rfl hi rfl ?_
  refine G.go 1 (fun n => ex_al rfl rfl rfl rfl rfl (qal_byte h8 h9)) ?_
  refine G.put rfl rfl (qs_push hi) rfl rfl rfl ?_
  refine G.go 1 (fun n => (rfl : _ = exe ξ n d j_R_add 36 [(0, .ref i), (1, .int v)] [.ref i] ((σ ++ ([.inr (.inl (1, List.replicate m.toNatClampNeg 0))] : qH)).set i (.inl (5, [.int m, .ref σ.length, .int len]))))) ?_
  refine G.get rfl rfl rfl (qs_at (qs_push hi)) rfl ?_
  refine G.go 1 (fun n => (rfl : _ = exe ξ n d j_R_add 40 [(0, .ref i), (1, .int v)] [.ref i, .ref σ.length] ((σ ++ ([.inr (.inl (1, List.replicate m.toNatClampNeg 0))] : qH)).set i (.inl (5, [.int m, .ref σ.length, .int len]))))) ?_
  refine G.get rfl rfl rfl (qs_at (qs_push hi)) rfl ?_
  refine G.go 2 (fun n => (rfl : _ = exe ξ n d j_R_add 45 [(0, .ref i), (1, .int v)] [.int v.toInt8.toInt32, .int len, .ref σ.length] ((σ ++ ([.inr (.inl (1, List.replicate m.toNatClampNeg 0))] : qH)).set i (.inl (5, [.int m, .ref σ.length, .int len]))))) ?_
  refine G.bast rfl (e1 _ _) (by rw [List.length_replicate]; exact h3) ?_
  refine G.go 2 (fun n => (rfl : _ = exe ξ n d j_R_add 48 [(0, .ref i), (1, .int v)] [.ref i, .ref i] (((σ ++ ([.inr (.inl (1, List.replicate m.toNatClampNeg 0))] : qH)).set i (.inl (5, [.int m, .ref σ.length, .int len]))).set σ.length (.inr (.inl (1, (List.replicate m.toNatClampNeg 0).set len.toNatClampNeg (b8 v))))))) ?_
  refine G.get rfl rfl rfl (qs_ne hin.symm (qs_at (qs_push hi))) rfl ?_
  refine G.go 2 (fun n => (rfl : _ = exe ξ n d j_R_add 53 [(0, .ref i), (1, .int v)] [.int (len + 1), .ref i] (((σ ++ ([.inr (.inl (1, List.replicate m.toNatClampNeg 0))] : qH)).set i (.inl (5, [.int m, .ref σ.length, .int len]))).set σ.length (.inr (.inl (1, (List.replicate m.toNatClampNeg 0).set len.toNatClampNeg (b8 v))))))) ?_
  refine G.put rfl rfl (qs_ne hin.symm (qs_at (qs_push hi))) rfl rfl rfl ?_
  refine G.go 1 (fun n => (rfl : _ = exe ξ n d j_R_add 57 [(0, .ref i), (1, .int v)] [.int 1] ((((σ ++ ([.inr (.inl (1, List.replicate m.toNatClampNeg 0))] : qH)).set i (.inl (5, [.int m, .ref σ.length, .int len]))).set σ.length (.inr (.inl (1, (List.replicate m.toNatClampNeg 0).set len.toNatClampNeg (b8 v))))).set i (.inl (5, [.int m, .ref σ.length, .int (len + 1)]))))) ?_
  rw [e2]
  exact G.end 1 (fun n => rfl)
/-- a text: its length, and its letters -/
def isText (ξ : Nat → Option (Nat × List Int32)) (d t n : Nat) (w : Nat → Int32) : Prop := (∀ σ : qH, G ξ d j_S_length 0 (lv_args 0 [.ref t]) [] σ (some (.int (Int32.ofNat n)), σ)) ∧ ∀ (σ : qH) (k : Nat), k < n → G ξ d j_S_charAt 0 (lv_args 0 [.ref t, .int (Int32.ofNat k)]) [] σ (some (.int (w k)), σ)
def isTx (t : Nat) : Prop := (match qtn t with
  | some _ => true
  | none => false) = true ∧ Nat.blt t qnE = true
theorem qrc_tx {σ : qH} {t k : Nat} (h : isTx t) (hk : Nat.beq (qco k) 11 = true) : qrc σ t k = true := by
  unfold qrc
  rw [h.2, hk]
  exact h.1
theorem c_text_loop (d i t n b : Nat) {w : Nat → Int32} (htx : isTx t) (ht : isText ξ d t n w) (hnb : Nat.blt b qnE = false) (hni : Nat.blt i qnE = false) (hn : n ≤ 40) : ∀ (f m : Nat) (li : List Int32) (σ : qH), m + f = n → li.length = 40 → σ[i]? = some (.inl (5, [.int 40, .ref b, .int (Int32.ofNat m)])) → σ[b]? = some (.inr (.inl (1, li))) →
    ∃ li' : List Int32, (li'.length = 40 ∧ ∀ k, k < n → li'.getD k 0 = if k < m then li.getD k 0 else b8 (w k)) ∧ G ξ (d + 1) j_R_addText 2 [(0, .ref i), (1, .ref t), (2, .int (Int32.ofNat m))] [] σ (none, (σ.set b (.inr (.inl (1, li')))).set i (.inl (5, [.int 40, .ref b, .int (Int32.ofNat n)]))) := by
  intro f
  induction f with
  | zero =>
    intro m li σ hm hl hi hb
    have e : m = n := by omega
    subst e
    refine ⟨li, ⟨hl, fun k hk => (if_pos hk).symm⟩, ?_⟩
    rw [qs_id hb, qs_id hi]
    refine G.go 2 (fun n9 => (rfl : _ = exe ξ n9 (d + 1) j_R_addText 4 [(0, .ref i), (1, .ref t), (2, .int (Int32.ofNat m))] [.ref t, .int (Int32.ofNat m)] σ)) ?_
    refine G.call (k := j_S_length) (as := [.ref t]) (r := [.int (Int32.ofNat m)]) (v := some (.int (Int32.ofNat m))) rfl rfl rfl rfl rfl rfl rfl ?_ (ht.1 σ) ?_
    · show (bif qrc _ t j_S_length && _ then _ else _) = _
      rw [qrc_tx htx rfl]
      rfl
    refine G.go 1 (fun n9 => (rfl : _ = exe ξ n9 (d + 1) j_R_addText (if Int32.ofNat m ≤ Int32.ofNat m then 26 else 10) [(0, .ref i), (1, .ref t), (2, .int (Int32.ofNat m))] [] σ)) ?_
    rw [if_pos (Int32.le_refl _)]
    exact G.end 1 (fun n => rfl)
  | succ f ih =>
    intro m li σ hm hl hi hb
    have hib : i ≠ b := q_dif hi hb (by intro z; cases z)
    obtain ⟨c, ec⟩ : ∃ c, c = w m := ⟨_, rfl⟩
    have hc := ht.2 σ m (by omega)
    rw [← ec] at hc
    obtain ⟨li', g1, g2⟩ := ih (m + 1) (li.set (Int32.ofNat m).toNatClampNeg (b8 c)) ((σ.set b (.inr (.inl (1, li.set (Int32.ofNat m).toNatClampNeg (b8 c))))).set i (.inl (5, [.int 40, .ref b, .int (Int32.ofNat (m + 1))]))) (by omega) (by rw [List.length_set]; exact hl) (qs_at (qs_ne hib.symm hi)) (qs_ne hib (qs_at hb))
    refine ⟨li', ⟨g1.1, fun k hk => ?_⟩, ?_⟩
    · rw [g1.2 k hk]
      rcases Nat.lt_trichotomy k m with q | q | q
      · rw [if_pos (by omega), if_pos q, List.getD_eq_getElem?_getD, List.getD_eq_getElem?_getD, List.getElem?_set_ne (by rw [n32c (by omega)]; omega)]
      · rw [if_pos (by omega), if_neg (by omega), List.getD_eq_getElem?_getD, q, n32c (by omega), List.getElem?_set_self (by omega), ec]
        rfl
      · rw [if_neg (by omega), if_neg (by omega)]
    have e9 : ((((σ.set b (.inr (.inl (1, li.set (Int32.ofNat m).toNatClampNeg (b8 c))))).set i (.inl (5, [.int 40, .ref b, .int (Int32.ofNat (m + 1))]))).set b (.inr (.inl (1, li')))).set i (.inl (5, [.int 40, .ref b, .int (Int32.ofNat n)]))) = (σ.set b (.inr (.inl (1, li')))).set i (.inl (5, [.int 40, .ref b, .int (Int32.ofNat n)])) := by
      rw [List.set_comm _ _ hib, List.set_set, List.set_set]
    rw [e9] at g2
    refine G.go 2 (fun n9 => (rfl : _ = exe ξ n9 (d + 1) j_R_addText 4 [(0, .ref i), (1, .ref t), (2, .int (Int32.ofNat m))] [.ref t, .int (Int32.ofNat m)] σ)) ?_
    refine G.call (k := j_S_length) (as := [.ref t]) (r := [.int (Int32.ofNat m)]) (v := some (.int (Int32.ofNat n))) rfl rfl rfl rfl rfl rfl rfl ?_ (ht.1 σ) ?_
    · show (bif qrc _ t j_S_length && _ then _ else _) = _
      rw [qrc_tx htx rfl]
      rfl
    refine G.go 1 (fun n9 => (rfl : _ = exe ξ n9 (d + 1) j_R_addText (if Int32.ofNat n ≤ Int32.ofNat m then 26 else 10) [(0, .ref i), (1, .ref t), (2, .int (Int32.ofNat m))] [] σ)) ?_
    rw [if_neg (fun z => by have := (n32le (by omega) (by omega)).mp z; omega)]
    refine G.go 3 (fun n9 => (rfl : _ = exe ξ n9 (d + 1) j_R_addText 13 [(0, .ref i), (1, .ref t), (2, .int (Int32.ofNat m))] [.int (Int32.ofNat m), .ref t, .ref i] σ)) ?_
    refine G.call (k := j_S_charAt) (as := [.ref t, .int (Int32.ofNat m)]) (r := [.ref i]) (v := some (.int c)) rfl rfl rfl rfl rfl rfl rfl ?_ hc ?_
    · show (bif qrc _ t j_S_charAt && _ then _ else _) = _
      rw [qrc_tx htx rfl]
      rfl
    refine G.call (k := j_R_add) (as := [.ref i, .int c]) (r := []) (v := some (.int 1)) rfl rfl rfl rfl rfl rfl rfl ?_ (c_add_in d i b 40 (Int32.ofNat m) c li σ hi hb hnb ((n32lt (b := 40) (by omega) (by omega)).mpr (by omega)) (by rw [hl]; exact Int32.le_refl _) (qix_n (by omega) (by omega))) ?_
    · show (bif qrc _ i j_R_add && _ then _ else _) = _
      rw [qrc_at hni hi rfl]
      rfl
    rw [show Int32.ofNat m + 1 = Int32.ofNat (m + 1) from n32i m]
    refine G.go 3 (fun n9 => (rfl : _ = exe ξ n9 (d + 1) j_R_addText 2 [(0, .ref i), (1, .ref t), (2, .int (Int32.ofNat m + Int32.ofInt 1))] [] ((σ.set b (.inr (.inl (1, li.set (Int32.ofNat m).toNatClampNeg (b8 c))))).set i (.inl (5, [.int 40, .ref b, .int (Int32.ofNat (m + 1))]))))) ?_
    rw [n32i]
    exact g2
theorem c_text (d i t n b0 : Nat) {w : Nat → Int32} (htx : isTx t) (ht : isText ξ d t (n + 1) w) (σ : qH) (hσ : qnE ≤ σ.length) (hn0 : Nat.blt b0 qnE = false) (hni : Nat.blt i qnE = false) (hn : n + 1 ≤ 40) (hi : σ[i]? = some (.inl (5, [.int 40, .ref b0, .int 0]))) (hb : σ[b0]? = some (.inr (.inl (1, [])))) :
    ∃ li' : List Int32, (li'.length = 40 ∧ ∀ k, k < n + 1 → li'.getD k 0 = b8 (w k)) ∧ G ξ (d + 1) j_R_addText 0 (lv_args 0 [.ref i, .ref t]) [] σ (none, (σ ++ ([.inr (.inl (1, li'))] : qH)).set i (.inl (5, [.int 40, .ref σ.length, .int (Int32.ofNat (n + 1))]))) := by
  have hil : i < σ.length := (List.getElem?_eq_some_iff.mp hi).1
  have hin : i ≠ σ.length := by omega
  have hnl : Nat.blt σ.length qnE = false := by
    cases hb9 : Nat.blt σ.length qnE with
    | false => rfl
    | true =>
      have h9 : σ.length < qnE := Nat.le_of_ble_eq_true hb9
      omega
  obtain ⟨c, ec⟩ : ∃ c, c = w 0 := ⟨_, rfl⟩
  have hc := ht.2 σ 0 (by omega)
  rw [← ec] at hc
  have g0 := c_add_new (ξ := ξ) d i b0 40 0 c [] σ hi hb hn0 hσ (by decide) (by decide) (by decide) (by decide) (by decide)
  obtain ⟨li', g1, g2⟩ := c_text_loop (ξ := ξ) d i t (n + 1) σ.length htx ht hnl hni hn n 1 _ _ (by omega) (by rw [List.length_set, List.length_replicate]; rfl) (qs_at (x := .inl (5, [.int 40, .ref b0, .int 0])) (qs_push hi)) (show ((σ ++ ([.inr (.inl (1, (List.replicate (40 : Int32).toNatClampNeg 0).set (0 : Int32).toNatClampNeg (b8 c)))] : qH)).set i (.inl (5, [.int 40, .ref σ.length, .int (Int32.ofNat 1)])))[σ.length]? = some (.inr (.inl (1, (List.replicate (40 : Int32).toNatClampNeg 0).set (0 : Int32).toNatClampNeg (b8 c)))) by
    rw [List.getElem?_set_ne hin, List.getElem?_append_right (Nat.le_refl _), Nat.sub_self]
    rfl)
  refine ⟨li', ⟨g1.1, fun k hk => ?_⟩, ?_⟩
  · rw [g1.2 k hk]
    by_cases q : k < 1
    · rw [if_pos q]
      have q0 : k = 0 := by omega
      rw [q0, ← ec]
      rfl
    · rw [if_neg q]
  have e9 : ∀ (B C B2 C2 : qC), ((((σ ++ [B]).set i C).set σ.length B2).set i C2) = (σ ++ [B2]).set i C2 := fun B C B2 C2 => by
    rw [List.set_comm _ _ hin, List.set_set, List.set_append_right _ _ (Nat.le_refl _), Nat.sub_self]
    rfl
  rw [e9] at g2
  refine G.go 4 (fun n9 => (rfl : _ = exe ξ n9 (d + 1) j_R_addText 4 [(0, .ref i), (1, .ref t), (2, .int 0)] [.ref t, .int 0] σ)) ?_
  refine G.call (k := j_S_length) (as := [.ref t]) (r := [.int 0]) (v := some (.int (Int32.ofNat (n + 1)))) rfl rfl rfl rfl rfl rfl rfl ?_ (ht.1 σ) ?_
  · show (bif qrc _ t j_S_length && _ then _ else _) = _
    rw [qrc_tx htx rfl]
    rfl
  refine G.go 1 (fun n9 => (rfl : _ = exe ξ n9 (d + 1) j_R_addText (if Int32.ofNat (n + 1) ≤ 0 then 26 else 10) [(0, .ref i), (1, .ref t), (2, .int 0)] [] σ)) ?_
  rw [if_neg (fun z => by have := (n32le (b := 0) (by omega) (by omega)).mp z; omega)]
  refine G.go 3 (fun n9 => (rfl : _ = exe ξ n9 (d + 1) j_R_addText 13 [(0, .ref i), (1, .ref t), (2, .int 0)] [.int 0, .ref t, .ref i] σ)) ?_
  refine G.call (k := j_S_charAt) (as := [.ref t, .int 0]) (r := [.ref i]) (v := some (.int c)) rfl rfl rfl rfl rfl rfl rfl ?_ hc ?_
  · show (bif qrc _ t j_S_charAt && _ then _ else _) = _
    rw [qrc_tx htx rfl]
    rfl
  refine G.call (k := j_R_add) (as := [.ref i, .int c]) (r := []) (v := some (.int 1)) rfl rfl rfl rfl rfl rfl rfl ?_ g0 ?_
  · show (bif qrc _ i j_R_add && _ then _ else _) = _
    rw [qrc_at hni hi rfl]
    rfl
  exact G.go 3 (fun n => rfl) g2
end
def txM : List Int32 := [77, 69, 84, 65, 45, 73, 78, 70, 47, 77, 65, 78, 73, 70, 69, 83, 84, 46, 77, 70]
def txI : List Int32 := [105, 110, 100, 101, 120, 46, 116, 120, 116]
