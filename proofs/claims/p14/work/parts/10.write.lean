/-! Writes, array reads, and what is made. -/
theorem qmap_set (f : Value → Value) (fs : List Value) (k : Nat) (v : Value) : (fs.set k v).map f = (fs.map f).set k (f v) := List.map_set
theorem qgetD_set {α : Type} (l : List α) (k : Nat) (v d : α) (hk : k < l.length) (j : Nat) : (l.set k v).getD j d = if j = k then v else l.getD j d := by
  by_cases h : j = k
  · subst h
    rw [if_pos rfl, List.getD_eq_getElem?_getD, List.getElem?_set_self hk]
    rfl
  · rw [if_neg h, List.getD_eq_getElem?_getD, List.getD_eq_getElem?_getD, List.getElem?_set_ne (fun q => h q.symm)]
section
variable {p : Program} {l : Launch} {e : Env} {R : Room} {s : State} {m : MethodId} {args : Array Value} {below : List Frame} {meth : Method} {c : Code} {H : Heap} {locs : List Loc} {cells slots : Nat} {Q : State → Prop}
variable {ξ : Nat → Option (Nat × List Int32)} {E : qEv} {co : Nat} {b : ByteArray} {nL pc : Nat} {ls : Array Slot} {rest : List Value} {σ : qH} {i : Nat}
set_option maxHeartbeats 1000000 in
theorem q_put (X : qX ξ E co b nL p s m args meth c) {idx ci k : Nat} {nb : Bool} {q : Nat × Nat} (hd : decode b pc = .ok (.putfield idx, 3)) (hf : qlk (qfL.getD co []) idx = some ((ci, k, nb), q)) (hR : qR E σ H) (hS : va_S (qA E) s.heap H locs) {fs : List Value} (hi : σ[i]? = some (.inl (ci, fs))) (hk9 : k < fs.length) {v : Value} (hv : qfit (qcty ci k) v = true)
    (hfin : (qfn ci k).2.2.2 = false ∨ (nb = false ∧ meth.name = "<init>" ∧ qfC ci = qnm co))
    (kk : ∀ (H1 : Heap) (locs1 : List Loc), qR E (σ.set i (.inl (ci, fs.set k v))) H1 → va_S (qA E) s.heap H1 locs1 → W p l e R s m args below meth c H1 locs1 cells slots Q (F0 m (pc + 3) ls rest)) : W p l e R s m args below meth c H locs cells slots Q (F0 m pc ls (qv (qr E) v :: .ref (qr E i) :: rest)) := by
  obtain ⟨hx, hb, hml, hown, hts, ⟨hnw, hK, hao, hY, hTh⟩, hlk⟩ := X
  obtain ⟨hk, hf0, hf1⟩ := qfl_ok hf
  obtain ⟨hn, r, h1, cell, q1, q2, q3, q4⟩ := hR.2 i _ _ hi rfl
  have hcl : ci < 8 := qcl_lt h1
  have hr : r = (qfC ci, qfn ci, qfN ci) := Option.some.inj (h1.symm.trans (qcl_at hcl))
  subst hr
  have hap := va_apart (own := qnm co) hts (qcl_ws hcl) (qcty ci) (qcl_ty hcl) (qcl_nm hcl) hK (qcl_at hcl)
  obtain ⟨hSl, hfc, kC, hkC, hkind⟩ := hK.1 ci _ (qcl_at hcl)
  obtain ⟨cf, kf, fi, f, hfi, hsl⟩ := hSl k hk
  have hst := (u_facts hfc hkC (u_lays hts (qcl_ws hcl) hk) hfi).1
  obtain ⟨hnar, hfit⟩ := qfit_ok (ρ := qr E) hv
  have hlay := hts _ (qcl_ws hcl _ (u_in_lay hk))
  have hfi2 : s.fieldFound? (qfC ci) (qfn ci k).2.1 (qfn ci k).2.2.1 = some (cf, kf, fi, f) := by rw [← qcl_own hcl hk]; exact hfi
  have fin : ∀ H' : Heap, H'[qr E i]? = some (cell.setSlot f.slot (qv (qr E) v)) → H'.size = H.size → (∀ q, q ≠ qr E i → H'[q]? = H[q]?) → W p l e R s m args below meth c H' (locs ++ [⟨qr E i, f.slot⟩]) cells slots Q (F0 m (pc + 3) ls rest) := by
    intro H' e1 e2 e3
    rw [hsl] at e1 ⊢
    refine kk H' _ (hR.set (c1 := .inl (ci, fs.set k v)) hi hn e2 e3 rfl ⟨_, h1, ?_⟩) (hS.put e2 e3 (qA_of hn))
    refine t_OB.to (V := updV (vp_V (fs.map (qv (qr E)))) k (qv (qr E) v)) ⟨_, e1, q2, q3, t_set q4 hap hk _⟩ (fun j _ => ?_)
    rw [vp_updV_set (by rw [List.length_map]; exact hk9), ← qmap_set]
  by_cases hF : (qfn ci k).2.2.2 = true
  · rcases hfin with hfin | ⟨hnb, hin, hC⟩
    · rw [hF] at hfin; cases hfin
    · subst hnb
      unfold u_lay at hlay
      rw [if_pos hF] at hlay
      have hcf : m.cls = cf := by
        obtain ⟨_, _, c', _, _, _, -, -, hf', -, -, -, hown2, -⟩ := Cond.laysFinal_spec hlay
        have e1 : c' = cf := by have := hfi.symm.trans hf'; simp at this; exact this.1.symm
        rw [qcl_own hcl hk, hC] at hown2
        rw [← e1]; exact Option.some.inj (hown.symm.trans hown2)
      have h6 := u_fits hfc hkC hkind (Or.inr hlay) hfi (qcl_ty hcl k hk) hnar hfit
      exact W.putFinK hx hb hown (hts _ (hf0 rfl)) hfi2 hst hcf hin (by rw [q2]; exact h6) q1 q3 (by rw [hsl]; exact k2_hasslot (q4 k hk)) rfl rfl hd fin
  · have hF : (qfn ci k).2.2.2 = false := by simpa using hF
    unfold u_lay at hlay
    rw [if_neg (by rw [hF]; decide)] at hlay
    have h6 := u_store hfc hkC hkind hlay hfi (qcl_ty hcl k hk) hnar hfit
    cases nb with
    | false => exact W.putK hx hb (f := f) ⟨hown, hts _ (hf0 rfl), ⟨_, _, _, hfi2⟩, hst⟩ (by rw [q2]; exact h6) q1 q3 (by rw [hsl]; exact k2_hasslot (q4 k hk)) rfl rfl hd fin
    | true => exact va_WputK hx hb (f := f) hown (va_Nw.use rfl (hnw _ (List.mem_filter.mpr ⟨hf1 rfl, rfl⟩))) hfi2 hst (by rw [q2]; exact h6) q1 q3 (by rw [hsl]; exact k2_hasslot (q4 k hk)) rfl rfl hd fin
/-- an index into a list -/
def qix (x : Int32) (n : Nat) : Bool := !(decide (x < 0)) && Nat.blt x.toNatClampNeg n
theorem qix_in {x : Int32} {n : Nat} (h : qix x n = true) : vp_in x n ∧ x.toNatClampNeg < n := by
  unfold qix at h
  simp only [Bool.and_eq_true, Bool.not_eq_true', decide_eq_false_iff_not] at h
  have h2 : x.toNatClampNeg < n := Nat.le_of_ble_eq_true h.2
  exact ⟨fun z => z.elim h.1 (fun z => by omega), h2⟩
theorem q_iald (X : qX ξ E co b nL p s m args meth c) {x : Int32} {li : List Int32} (hd : decode b pc = .ok (.iaload, 1)) (hR : qR E σ H) (hi : σ[i]? = some (.inr (.inl (0, li)))) (hx9 : qix x li.length = true)
    (kk : W p l e R s m args below meth c H locs cells slots Q (F0 m (pc + 1) ls (.int (li.getD x.toNatClampNeg 0) :: rest))) : W p l e R s m args below meth c H locs cells slots Q (F0 m pc ls (.int x :: .ref (qr E i) :: rest)) := by
  obtain ⟨hx, hb, hml, hown, hts, ⟨hnw, hK, hao, hY, hTh⟩, hlk⟩ := X
  exact va_iald hx hb hK (hR.one hi rfl) 0 0 rfl rfl (qix_in hx9).1 hd kk
theorem q_bald (X : qX ξ E co b nL p s m args meth c) {x : Int32} {li : List Int32} (hd : decode b pc = .ok (.baload, 1)) (hR : qR E σ H) (hi : σ[i]? = some (.inr (.inl (1, li)))) (hx9 : qix x li.length = true)
    (kk : W p l e R s m args below meth c H locs cells slots Q (F0 m (pc + 1) ls (.int (li.getD x.toNatClampNeg 0) :: rest))) : W p l e R s m args below meth c H locs cells slots Q (F0 m pc ls (.int x :: .ref (qr E i) :: rest)) := by
  obtain ⟨hx, hb, hml, hown, hts, ⟨hnw, hK, hao, hY, hTh⟩, hlk⟩ := X
  exact va_bald hx hb hK (hR.one hi rfl) 0 1 rfl rfl (qix_in hx9).1 hd kk
theorem q_lald (X : qX ξ E co b nL p s m args meth c) {x : Int32} {li : List Int64} (hd : decode b pc = .ok (.laload, 1)) (hR : qR E σ H) (hi : σ[i]? = some (.inr (.inr (.inl li)))) (hx9 : qix x li.length = true)
    (kk : W p l e R s m args below meth c H locs cells slots Q (F0 m (pc + 1) ls (.long (li.getD x.toNatClampNeg 0) :: rest))) : W p l e R s m args below meth c H locs cells slots Q (F0 m pc ls (.int x :: .ref (qr E i) :: rest)) := by
  obtain ⟨hx, hb, hml, hown, hts, ⟨hnw, hK, hao, hY, hTh⟩, hlk⟩ := X
  exact va_lald hx hb hK (hR.one hi rfl) 0 2 rfl rfl (qix_in hx9).1 hd kk
def qof (r : Option Nat) : Value := match r with
  | none => .null
  | some a => .ref a
theorem qof_v (E : qEv) (r : Option Nat) : qv (qr E) (qof r) = va_rf (r.map (qr E)) := by cases r <;> rfl
theorem q_aald (X : qX ξ E co b nL p s m args meth c) {x : Int32} {li : List (Option Nat)} (hd : decode b pc = .ok (.aaload, 1)) (hR : qR E σ H) (hi : σ[i]? = some (.inr (.inr (.inr (.inl li))))) (hx9 : qix x li.length = true)
    (kk : W p l e R s m args below meth c H locs cells slots Q (F0 m (pc + 1) ls (qv (qr E) (qof (li.getD x.toNatClampNeg none)) :: rest))) : W p l e R s m args below meth c H locs cells slots Q (F0 m pc ls (.int x :: .ref (qr E i) :: rest)) := by
  obtain ⟨hx, hb, hml, hown, hts, ⟨hnw, hK, hao, hY, hTh⟩, hlk⟩ := X
  rw [qof_v] at kk
  exact va_aldq hx hb hK (hR.one hi rfl) 0 3 rfl rfl (qix_in hx9).1 hd kk
theorem q_alen (X : qX ξ E co b nL p s m args meth c) {cc : qC} {n : Nat} (hd : decode b pc = .ok (.arraylength, 1)) (hR : qR E σ H) (hi : σ[i]? = some cc) (hc : (∃ t li, cc = .inr (.inl (t, li)) ∧ n = li.length) ∨ (∃ li, cc = .inr (.inr (.inl li)) ∧ n = li.length) ∨ ∃ li, cc = .inr (.inr (.inr (.inl li))) ∧ n = li.length)
    (kk : W p l e R s m args below meth c H locs cells slots Q (F0 m (pc + 1) ls (.int (Int32.ofNat n) :: rest))) : W p l e R s m args below meth c H locs cells slots Q (F0 m pc ls (.ref (qr E i) :: rest)) := by
  obtain ⟨hx, hb, hml, hown, hts, ⟨hnw, hK, hao, hY, hTh⟩, hlk⟩ := X
  rcases hc with ⟨t, li, rfl, rfl⟩ | ⟨li, rfl, rfl⟩ | ⟨li, rfl, rfl⟩
  · match t with
    | 0 => exact va_alen hx hb hK (hR.one hi rfl) 0 0 rfl rfl rfl hd kk
    | t + 1 => exact va_alen hx hb hK (hR.one hi rfl) 0 1 rfl rfl rfl hd kk
  · exact va_alen hx hb hK (hR.one hi rfl) 0 2 rfl rfl rfl hd kk
  · exact va_alen hx hb hK (hR.one hi rfl) 0 3 rfl rfl rfl hd kk
theorem q_iast (X : qX ξ E co b nL p s m args meth c) {x y : Int32} {li : List Int32} (hd : decode b pc = .ok (.iastore, 1)) (hR : qR E σ H) (hS : va_S (qA E) s.heap H locs) (hi : σ[i]? = some (.inr (.inl (0, li)))) (hx9 : qix x li.length = true)
    (kk : ∀ (H1 : Heap) (locs1 : List Loc), qR E (σ.set i (.inr (.inl (0, li.set x.toNatClampNeg y)))) H1 → va_S (qA E) s.heap H1 locs1 → W p l e R s m args below meth c H1 locs1 cells slots Q (F0 m (pc + 1) ls rest)) : W p l e R s m args below meth c H locs cells slots Q (F0 m pc ls (.int y :: .int x :: .ref (qr E i) :: rest)) := by
  obtain ⟨hx, hb, hml, hown, hts, ⟨hnw, hK, hao, hY, hTh⟩, hlk⟩ := X
  obtain ⟨hn, ha⟩ := hR.2 i _ _ hi rfl
  obtain ⟨hin, hlt⟩ := qix_in hx9
  refine W.iast hx hb ha ((hK.2 0 _ rfl).1 li.length (fun j => .int (li.getD j 0))) (fun q => by cases q) (by show ¬ (x < 0 ∨ (arrV _ _ _).slots.size ≤ _); rw [arrV_size]; exact hin) rfl rfl hd fun H1 e z oq => ?_
  refine kk H1 _ (hR.set (c1 := .inr (.inl (0, li.set x.toNatClampNeg y))) hi hn z oq rfl ?_) (hS.put z oq (qA_of hn))
  show H1[qr E i]? = some (vp_cell _ _)
  rw [e]
  show some ((arrV (qac E 0) li.length (fun j => .int (li.getD j 0))).setSlot _ _) = some (arrV (qac E 0) (li.set x.toNatClampNeg y).length (fun j => .int ((li.set x.toNatClampNeg y).getD j 0)))
  rw [arrV_store, List.length_set]
  congr 2
  funext j
  rw [qgetD_set _ _ _ _ hlt]
  unfold updV
  split <;> rfl
theorem q_bast (X : qX ξ E co b nL p s m args meth c) {x y : Int32} {li : List Int32} (hd : decode b pc = .ok (.bastore, 1)) (hR : qR E σ H) (hS : va_S (qA E) s.heap H locs) (hi : σ[i]? = some (.inr (.inl (1, li)))) (hx9 : qix x li.length = true)
    (kk : ∀ (H1 : Heap) (locs1 : List Loc), qR E (σ.set i (.inr (.inl (1, li.set x.toNatClampNeg y.toInt8.toInt32)))) H1 → va_S (qA E) s.heap H1 locs1 → W p l e R s m args below meth c H1 locs1 cells slots Q (F0 m (pc + 1) ls rest)) : W p l e R s m args below meth c H locs cells slots Q (F0 m pc ls (.int y :: .int x :: .ref (qr E i) :: rest)) := by
  obtain ⟨hx, hb, hml, hown, hts, ⟨hnw, hK, hao, hY, hTh⟩, hlk⟩ := X
  obtain ⟨hn, ha⟩ := hR.2 i _ _ hi rfl
  obtain ⟨hin, hlt⟩ := qix_in hx9
  refine W.bast hx hb ha ((hK.2 1 _ rfl).1 li.length (fun j => .int (li.getD j 0))) (fun q => by cases q) (by show ¬ (x < 0 ∨ (arrV _ _ _).slots.size ≤ _); rw [arrV_size]; exact hin) rfl rfl hd fun H1 e z oq => ?_
  refine kk H1 _ (hR.set (c1 := .inr (.inl (1, li.set x.toNatClampNeg y.toInt8.toInt32))) hi hn z oq rfl ?_) (hS.put z oq (qA_of hn))
  show H1[qr E i]? = some (vp_cell _ _)
  rw [e]
  show some ((arrV (qac E 1) li.length (fun j => .int (li.getD j 0))).setSlot _ _) = some (arrV (qac E 1) (li.set x.toNatClampNeg y.toInt8.toInt32).length (fun j => .int ((li.set x.toNatClampNeg y.toInt8.toInt32).getD j 0)))
  rw [arrV_store, List.length_set]
  congr 2
  funext j
  rw [qgetD_set _ _ _ _ hlt]
  unfold updV
  split <;> rfl
theorem q_last (X : qX ξ E co b nL p s m args meth c) {x : Int32} {y : Int64} {li : List Int64} (hd : decode b pc = .ok (.lastore, 1)) (hR : qR E σ H) (hS : va_S (qA E) s.heap H locs) (hi : σ[i]? = some (.inr (.inr (.inl li)))) (hx9 : qix x li.length = true)
    (kk : ∀ (H1 : Heap) (locs1 : List Loc), qR E (σ.set i (.inr (.inr (.inl (li.set x.toNatClampNeg y))))) H1 → va_S (qA E) s.heap H1 locs1 → W p l e R s m args below meth c H1 locs1 cells slots Q (F0 m (pc + 1) ls rest)) : W p l e R s m args below meth c H locs cells slots Q (F0 m pc ls (.long y :: .int x :: .ref (qr E i) :: rest)) := by
  obtain ⟨hx, hb, hml, hown, hts, ⟨hnw, hK, hao, hY, hTh⟩, hlk⟩ := X
  obtain ⟨hn, ha⟩ := hR.2 i _ _ hi rfl
  obtain ⟨hin, hlt⟩ := qix_in hx9
  refine W.last hx hb ha ((hK.2 2 _ rfl).1 li.length (fun j => .long (li.getD j 0))) (fun q => by cases q) (by show ¬ (x < 0 ∨ (arrV _ _ _).slots.size ≤ _); rw [arrV_size]; exact hin) rfl rfl hd fun H1 e z oq => ?_
  refine kk H1 _ (hR.set (c1 := .inr (.inr (.inl (li.set x.toNatClampNeg y)))) hi hn z oq rfl ?_) (hS.put z oq (qA_of hn))
  show H1[qr E i]? = some (vp_cell _ _)
  rw [e]
  show some ((arrV (E.2.1.2.2.1) li.length (fun j => .long (li.getD j 0))).setSlot _ _) = some (arrV (E.2.1.2.2.1) (li.set x.toNatClampNeg y).length (fun j => .long ((li.set x.toNatClampNeg y).getD j 0)))
  rw [arrV_store, List.length_set]
  congr 2
  funext j
  rw [qgetD_set _ _ _ _ hlt]
  unfold updV
  split <;> rfl
end
