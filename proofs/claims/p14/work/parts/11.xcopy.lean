/-! System.arraycopy of bytes. -/
/-- what a stretch of one list, laid over another, gives -/
def qcp (ls ld : List Int32) (sp dp n : Nat) : List Int32 := ld.take dp ++ ((ls.drop sp).take n ++ ld.drop (dp + n))
def qisb (x : Int32) : Bool := decide (-128 ≤ x) && decide (x ≤ 127)
theorem qcp_len {ls ld : List Int32} {sp dp n : Nat} (h1 : sp + n ≤ ls.length) (h2 : dp + n ≤ ld.length) : (qcp ls ld sp dp n).length = ld.length := by
  unfold qcp
  rw [List.length_append, List.length_append, List.length_take, List.length_take, List.length_drop, List.length_drop]
  omega
theorem qcp_get {ls ld : List Int32} {sp dp n : Nat} (h1 : sp + n ≤ ls.length) (h2 : dp + n ≤ ld.length) (j : Nat) : (qcp ls ld sp dp n).getD j 0 = if dp ≤ j ∧ j < dp + n then ls.getD (sp + (j - dp)) 0 else ld.getD j 0 := by
  unfold qcp
  simp only [List.getD_eq_getElem?_getD]
  by_cases ha : j < dp
  · rw [if_neg (by omega), List.getElem?_append_left (by rw [List.length_take]; omega), List.getElem?_take, if_pos ha]
  · rw [List.getElem?_append_right (by rw [List.length_take]; omega)]
    have e1 : (ld.take dp).length = dp := by rw [List.length_take]; omega
    rw [e1]
    by_cases hb : j < dp + n
    · rw [if_pos ⟨by omega, hb⟩, List.getElem?_append_left (by rw [List.length_take, List.length_drop]; omega), List.getElem?_take, if_pos (by omega), List.getElem?_drop]
    · have e2 : ((ls.drop sp).take n).length = n := by rw [List.length_take, List.length_drop]; omega
      rw [if_neg (by omega), List.getElem?_append_right (by rw [e2]; omega), e2, List.getElem?_drop]
      congr 2
      omega
section
variable {p : Program} {l : Launch} {e : Env} {R : Room} {s : State} {m : MethodId} {args : Array Value} {below : List Frame} {meth : Method} {c : Code} {H : Heap} {locs : List Loc} {cells slots : Nat} {Q : State → Prop}
variable {ξ : Nat → Option (Nat × List Int32)} {E : qEv} {co : Nat} {b : ByteArray} {nL pc : Nat} {ls : Array Slot} {rest : List Value} {σ : qH} {i k : Nat}
set_option maxHeartbeats 4000000 in
theorem q_copy (X : qX ξ E co b nL p s m args meth c) {idx : Nat} {q : Nat × Nat} {u w : Nat} (hls : ls.size = nL) (hd : decode b pc = .ok (.invokestatic idx, 3)) (hf : qlk (qmL.getD co []) idx = some ((8, u, w), q)) (hR : qR E σ H) (hS : va_S (qA E) s.heap H locs) {la lb : List Int32} (hi : σ[i]? = some (.inr (.inl (1, la)))) (hk : σ[k]? = some (.inr (.inl (1, lb)))) {sp dp n : Int32} (h1 : ¬ sp < 0) (h2 : ¬ dp < 0) (h3 : ¬ n < 0) (h4 : sp.toNatClampNeg + n.toNatClampNeg ≤ la.length) (h5 : dp.toNatClampNeg + n.toNatClampNeg ≤ lb.length) (hfit : la.all qisb = true)
    (hfr : 1 ≤ R.frames) (hlo : (rest.map fun v => v.category).sum + (nativeFrameWords "java/lang/System" "arraycopy" 5 + 11) ≤ R.locals)
    (kk : ∀ (H1 : Heap) (locs1 : List Loc), qR E (σ.set k (.inr (.inl (1, qcp la lb sp.toNatClampNeg dp.toNatClampNeg n.toNatClampNeg)))) H1 → va_S (qA E) s.heap H1 locs1 → W p l e R s m args below meth c H1 locs1 cells slots Q (F0 m (pc + 3) ls rest)) : W p l e R s m args below meth c H locs cells slots Q (F0 m pc ls (.int n :: .int dp :: .ref (qr E k) :: .int sp :: .ref (qr E i) :: rest)) := by
  have nn : ∀ z : Int32, ¬ z < 0 → z.toInt = (z.toNatClampNeg : Int) := by
    intro z hz
    have hz0 : (0 : Int) ≤ z.toInt := by
      have := Int32.not_lt.mp hz
      simpa using Int32.le_iff_toInt_le.mp this
    show z.toInt = ((z.toInt.toNat : Nat) : Int)
    omega
  obtain ⟨hx, hb, hml, hown, hts, ⟨hnw, hK, hao, hY, hTh⟩, hlk⟩ := X
  have hm : Cond.methodLink (qnm co) idx arraycopyName ∈ qgw := qin_mem (List.all_eq_true.mp (qk_m co) _ (qlk_mem hf))
  have ho := Bool.and_eq_true_iff.mp qk_cpy
  have ho2 := Bool.and_eq_true_iff.mp ho.2
  obtain ⟨hni, ha⟩ := hR.2 i _ _ hi rfl
  obtain ⟨hnk, hbk⟩ := hR.2 k _ _ hk rfl
  have hc0 : H[qr E i]? = some (arrV (qac E 1) la.length (fun j => .int (la.getD j 0))) := ha
  have hc1 : H[qr E k]? = some (arrV (qac E 1) lb.length (fun j => .int (lb.getD j 0))) := hbk
  intro T hT X
  obtain ⟨-, k0, hk0, cm0, hkk0⟩ := (hK.2 1 _ rfl).1 la.length (fun j => .int (la.getD j 0))
  obtain ⟨-, k1, hk1, cm1, hkk1⟩ := (hK.2 1 _ rfl).1 lb.length (fun j => .int (lb.getD j 0))
  obtain ⟨vm', X', step⟩ := X.arraycopy hx hown (hts _ hm) (hts _ (qin_mem ho.1)) (hts _ (qin_mem ho2.1)) (hts _ (qin_mem ho2.2)) (src := qr E i) (dst := qr E k) (cs := arrV (qac E 1) la.length (fun j => .int (la.getD j 0))) (cd := arrV (qac E 1) lb.length (fun j => .int (lb.getD j 0))) (srcPos := sp) (destPos := dp) (n := n) (by rw [hT]; exact hc0) (by rw [hT]; exact hc1)
    (fun _ h => by cases h) (fun _ h => by cases h) (fun h => by cases h) (fun h => by cases h) hk0 hk1 hkk0 hkk1 rfl h1 h2 h3
    (by rw [nn sp h1, nn n h3, arrV_size]; omega)
    (by rw [nn dp h2, nn n h3, arrV_size]; omega)
    (fun vm₁ _ j hj => by
      have e : (arrV (qac E 1) la.length (fun j => .int (la.getD j 0))).slots.getD (sp.toNatClampNeg + j) .null = .int (la.getD (sp.toNatClampNeg + j) 0) := by
        rw [Array.getD_eq_getD_getElem?, arrV_read _ _ (by omega)]
        rfl
      have hlt : sp.toNatClampNeg + j < la.length := by omega
      have hb9 : qisb (la.getD (sp.toNatClampNeg + j) 0) = true := by
        rw [List.getD_eq_getElem?_getD, List.getElem?_eq_getElem hlt]
        exact List.all_eq_true.mp hfit _ (List.getElem_mem hlt)
      refine ⟨?_, ?_⟩
      · rw [e]
        exact hb9
      · rw [e]
        exact trivial)
    (g := F0 m pc ls (.int n :: .int dp :: .ref (qr E k) :: .int sp :: .ref (qr E i) :: rest)) rfl (by rw [hml]; exact hls) (rest := rest) rfl (by rw [hb]; exact hd) hfr (by show 2 * 0 + _ + _ ≤ _; omega)
  have e1 : copied (arrV (qac E 1) la.length (fun j => .int (la.getD j 0))) (arrV (qac E 1) lb.length (fun j => .int (lb.getD j 0))) sp dp n = arrV (qac E 1) lb.length (fun j => .int (va_cpy (fun j => la.getD j 0) (fun j => lb.getD j 0) sp.toNatClampNeg dp.toNatClampNeg n.toNatClampNeg j)) := va_copied (fun z => .int z) (qac E 1) (qac E 1) (fun j => la.getD j 0) (fun j => lb.getD j 0) h4
  rw [e1] at X' step
  have hl : qr E k < H.size := (Array.getElem?_eq_some_iff.mp hc1).1
  have e2 : arrV (qac E 1) lb.length (fun j => .int (va_cpy (fun j => la.getD j 0) (fun j => lb.getD j 0) sp.toNatClampNeg dp.toNatClampNeg n.toNatClampNeg j)) = arrV (qac E 1) (qcp la lb sp.toNatClampNeg dp.toNatClampNeg n.toNatClampNeg).length (fun j => .int ((qcp la lb sp.toNatClampNeg dp.toNatClampNeg n.toNatClampNeg).getD j 0)) := by
    rw [qcp_len h4 h5]
    congr 1
    funext j
    rw [qcp_get h4 h5]
    rfl
  rw [e2] at X' step
  have hheap : ((T.setVm vm').setCell (qr E k) (arrV (qac E 1) (qcp la lb sp.toNatClampNeg dp.toNatClampNeg n.toNatClampNeg).length (fun j => .int ((qcp la lb sp.toNatClampNeg dp.toNatClampNeg n.toNatClampNeg).getD j 0)))).heap = H.setIfInBounds (qr E k) (arrV (qac E 1) (qcp la lb sp.toNatClampNeg dp.toNatClampNeg n.toNatClampNeg).length (fun j => .int ((qcp la lb sp.toNatClampNeg dp.toNatClampNeg n.toNatClampNeg).getD j 0))) := by rw [← hT]; rfl
  have oq : ∀ q : Nat, q ≠ qr E k → (H.setIfInBounds (qr E k) (arrV (qac E 1) (qcp la lb sp.toNatClampNeg dp.toNatClampNeg n.toNatClampNeg).length (fun j => .int ((qcp la lb sp.toNatClampNeg dp.toNatClampNeg n.toNatClampNeg).getD j 0))))[q]? = H[q]? := fun q hq => by simp [Array.getElem?_setIfInBounds, Ne.symm hq]
  obtain ⟨t, a1, b1⟩ := kk _ _ (hR.set (c1 := .inr (.inl (1, qcp la lb sp.toNatClampNeg dp.toNatClampNeg n.toNatClampNeg))) hk hnk (by simp) oq rfl (show (H.setIfInBounds (qr E k) _)[qr E k]? = some (vp_cell _ _) by simp [Array.getElem?_setIfInBounds, hl]; rfl)) ⟨by simp; exact hS.1, fun q g1 g2 => by
      rw [oq q (fun e => g2 (by rw [e]; exact qA_of hnk))]
      exact hS.2.1 q g1 g2, fun q hq => by
      rcases List.mem_append.mp hq with h | h
      · exact hS.2.2 q h
      · obtain ⟨z, -, hz⟩ := List.mem_map.mp h
        rw [← hz]
        exact qA_of hnk⟩ _ hheap X'
  exact ⟨t, step t a1, b1⟩
end
