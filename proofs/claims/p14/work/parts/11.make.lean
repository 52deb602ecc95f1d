/-! What is made: objects, arrays; constants; Object's constructor, Math.max. -/
theorem qS_push {E : qEv} {s : State} {H H1 : Heap} {locs : List Loc} (h : va_S (qA E) s.heap H locs) (z : H1.size = H.size + 1) (o : ∀ q : Nat, q < H.size → H1[q]? = H[q]?) : va_S (qA E) s.heap H1 locs := ⟨by have := h.1; omega, fun q h1 h2 => (o q (Nat.lt_of_lt_of_le h1 h.1)).trans (h.2.1 q h1 h2), h.2.2⟩
def qdv (ty : FieldType) : Value := match ty with
  | .int => .int 0
  | .boolean => .int 0
  | .long => .long 0
  | _ => .null
theorem qdv_ok {ty : FieldType} (h : ty = .int ∨ ty = .boolean ∨ ty = .long ∨ (∃ C, ty = .object C) ∨ ∃ t, ty = .array t) (ρ : Nat → Nat) : defaultValue ty = qv ρ (qdv ty) := by
  rcases h with rfl | rfl | rfl | ⟨C, rfl⟩ | ⟨t, rfl⟩ <;> rfl
theorem qdv_all {ci k : Nat} (h : ci < 8) (hk : k < qfN ci) : qcty ci k = .int ∨ qcty ci k = .boolean ∨ qcty ci k = .long ∨ (∃ C, qcty ci k = .object C) ∨ ∃ t, qcty ci k = .array t := by
  have key : ∀ ci, ci < 8 → ∀ k, k < qfN ci → (match qcty ci k with
    | .int => true
    | .boolean => true
    | .long => true
    | .object _ => true
    | .array _ => true
    | _ => false) = true := by decide +kernel
  have h1 := key ci h k hk
  revert h1
  cases hq : qcty ci k <;> simp
/-- the fields of a new object -/
def qnew (ci : Nat) : List Value := (List.range (qfN ci)).map (fun k => qdv (qcty ci k))
section
variable {p : Program} {l : Launch} {e : Env} {R : Room} {s : State} {m : MethodId} {args : Array Value} {below : List Frame} {meth : Method} {c : Code} {H : Heap} {locs : List Loc} {cells slots : Nat} {Q : State → Prop}
variable {ξ : Nat → Option (Nat × List Int32)} {E : qEv} {co : Nat} {b : ByteArray} {nL pc : Nat} {ls : Array Slot} {rest : List Value} {σ : qH} {i : Nat}
theorem q_new (X : qX ξ E co b nL p s m args meth c) {idx ci : Nat} {q : Nat × Nat} (hd : decode b pc = .ok (.new idx, 3)) (hf : qlk (qkL.getD co []) idx = some (ci, q)) (hci : Nat.blt ci 8 = true) (hR : qR E σ H) (hn : qnE ≤ σ.length) (hS : va_S (qA E) s.heap H locs) (hc : cells + 1 ≤ R.cells) (hs : slots + qfN ci ≤ R.slots)
    (kk : ∀ H1 : Heap, qR E (σ ++ [.inl (ci, qnew ci)]) H1 → va_S (qA E) s.heap H1 locs → W p l e R s m args below meth c H1 locs (cells + 1) (slots + qfN ci) Q (F0 m (pc + 3) ls (.ref (qr E σ.length) :: rest))) : W p l e R s m args below meth c H locs cells slots Q (F0 m pc ls rest) := by
  obtain ⟨hx, hb, hml, hown, hts, ⟨hnw, hK, hao, hY, hTh⟩, hlk⟩ := X
  have hcl : ci < 8 := Nat.le_of_ble_eq_true hci
  have hKn := hK.1 ci _ (qcl_at hcl)
  refine W.newcK hx hb hown (hts _ (qkl_ok hf hci)) (hts _ (qcl_d hcl).1) (hts _ (qcl_d hcl).2) rfl hd hc hs hKn.2.1 rfl fun H1 kC hkC e1 z1 o1 => ?_
  have hk := kk H1 (hR.push (c1 := .inl (ci, qnew ci)) hn z1 o1 rfl ⟨_, qcl_at hcl, ?_⟩) (qS_push hS z1 o1)
  · rw [hR.top hn] at hk
    exact hk
  · refine (u_born (qcty ci) hts (qcl_ws hcl) hKn hkC e1 (qcl_ty hcl)).to (fun k hk => ?_)
    show defaultValue (qcty ci k) = vp_V ((qnew ci).map (qv (qr E))) k
    have hkk : k < qfN ci := hk
    unfold vp_V qnew
    rw [List.getD_eq_getElem?_getD, List.getElem?_map, List.getElem?_map, List.getElem?_range hkk]
    exact qdv_ok (qdv_all hcl hkk) _
theorem q_newi (X : qX ξ E co b nL p s m args meth c) {n : Int32} (hd : decode b pc = .ok (.newarray .int, 2)) (hn0 : ¬ n < 0) (hsz : n.toNatClampNeg ≤ 100000) (hR : qR E σ H) (hn : qnE ≤ σ.length) (hS : va_S (qA E) s.heap H locs) (hc : cells + 1 ≤ R.cells) (hs : slots + n.toNatClampNeg ≤ R.slots)
    (kk : ∀ H1 : Heap, qR E (σ ++ [.inr (.inl (0, List.replicate n.toNatClampNeg 0))]) H1 → va_S (qA E) s.heap H1 locs → W p l e R s m args below meth c H1 locs (cells + 1) (slots + n.toNatClampNeg) Q (F0 m (pc + 2) ls (.ref (qr E σ.length) :: rest))) : W p l e R s m args below meth c H locs cells slots Q (F0 m pc ls (.int n :: rest)) := by
  obtain ⟨hx, hb, hml, hown, hts, ⟨hnw, hK, hao, hY, hTh⟩, hlk⟩ := X
  refine va_newaK hx hb (atype := .int) (hts _ (qin_mem (Bool.and_eq_true_iff.mp qk_arr).1)) rfl hd rfl hn0 rfl (by show _ * 4 ≤ _; omega) hc hs rfl fun H1 cA e1 z1 o1 hAr hNm => ?_
  have ec : cA = E.2.1.1 := Option.some.inj (hNm.symm.trans (hK.2 0 _ rfl).2)
  subst ec
  have hk := kk H1 (hR.push (c1 := .inr (.inl (0, List.replicate n.toNatClampNeg 0))) hn z1 o1 rfl ?_) (qS_push hS z1 o1)
  · rw [hR.top hn] at hk
    exact hk
  · show H1[Array.size H]? = some (arrV E.2.1.1 (List.replicate n.toNatClampNeg (0 : Int32)).length (fun j => .int ((List.replicate n.toNatClampNeg (0 : Int32)).getD j 0)))
    rw [e1, List.length_replicate]
    congr 2
    funext j
    rw [List.getD_eq_getElem?_getD, List.getElem?_replicate]
    split <;> rfl
theorem q_newb (X : qX ξ E co b nL p s m args meth c) {n : Int32} (hd : decode b pc = .ok (.newarray .byte, 2)) (hn0 : ¬ n < 0) (hsz : n.toNatClampNeg ≤ 100000) (hR : qR E σ H) (hn : qnE ≤ σ.length) (hS : va_S (qA E) s.heap H locs) (hc : cells + 1 ≤ R.cells) (hs : slots + n.toNatClampNeg ≤ R.slots)
    (kk : ∀ H1 : Heap, qR E (σ ++ [.inr (.inl (1, List.replicate n.toNatClampNeg 0))]) H1 → va_S (qA E) s.heap H1 locs → W p l e R s m args below meth c H1 locs (cells + 1) (slots + n.toNatClampNeg) Q (F0 m (pc + 2) ls (.ref (qr E σ.length) :: rest))) : W p l e R s m args below meth c H locs cells slots Q (F0 m pc ls (.int n :: rest)) := by
  obtain ⟨hx, hb, hml, hown, hts, ⟨hnw, hK, hao, hY, hTh⟩, hlk⟩ := X
  refine va_newaK hx hb (atype := .byte) (hts _ (qin_mem (Bool.and_eq_true_iff.mp (Bool.and_eq_true_iff.mp qk_arr).2).1)) rfl hd rfl hn0 rfl (by show _ * 1 ≤ _; omega) hc hs rfl fun H1 cA e1 z1 o1 hAr hNm => ?_
  have ec : cA = E.2.1.2.1 := Option.some.inj (hNm.symm.trans (hK.2 1 _ rfl).2)
  subst ec
  have hk := kk H1 (hR.push (c1 := .inr (.inl (1, List.replicate n.toNatClampNeg 0))) hn z1 o1 rfl ?_) (qS_push hS z1 o1)
  · rw [hR.top hn] at hk
    exact hk
  · show H1[Array.size H]? = some (arrV E.2.1.2.1 (List.replicate n.toNatClampNeg (0 : Int32)).length (fun j => .int ((List.replicate n.toNatClampNeg (0 : Int32)).getD j 0)))
    rw [e1, List.length_replicate]
    congr 2
    funext j
    rw [List.getD_eq_getElem?_getD, List.getElem?_replicate]
    split <;> rfl
theorem q_newl (X : qX ξ E co b nL p s m args meth c) {n : Int32} (hd : decode b pc = .ok (.newarray .long, 2)) (hn0 : ¬ n < 0) (hsz : n.toNatClampNeg ≤ 100000) (hR : qR E σ H) (hn : qnE ≤ σ.length) (hS : va_S (qA E) s.heap H locs) (hc : cells + 1 ≤ R.cells) (hs : slots + n.toNatClampNeg ≤ R.slots)
    (kk : ∀ H1 : Heap, qR E (σ ++ [.inr (.inr (.inl (List.replicate n.toNatClampNeg 0)))]) H1 → va_S (qA E) s.heap H1 locs → W p l e R s m args below meth c H1 locs (cells + 1) (slots + n.toNatClampNeg) Q (F0 m (pc + 2) ls (.ref (qr E σ.length) :: rest))) : W p l e R s m args below meth c H locs cells slots Q (F0 m pc ls (.int n :: rest)) := by
  obtain ⟨hx, hb, hml, hown, hts, ⟨hnw, hK, hao, hY, hTh⟩, hlk⟩ := X
  refine va_newaK hx hb (atype := .long) (hts _ (qin_mem (Bool.and_eq_true_iff.mp (Bool.and_eq_true_iff.mp qk_arr).2).2)) rfl hd rfl hn0 rfl (by show _ * 8 ≤ _; omega) hc hs rfl fun H1 cA e1 z1 o1 hAr hNm => ?_
  have ec : cA = E.2.1.2.2.1 := Option.some.inj (hNm.symm.trans (hK.2 2 _ rfl).2)
  subst ec
  have hk := kk H1 (hR.push (c1 := .inr (.inr (.inl (List.replicate n.toNatClampNeg 0)))) hn z1 o1 rfl ?_) (qS_push hS z1 o1)
  · rw [hR.top hn] at hk
    exact hk
  · show H1[Array.size H]? = some (arrV E.2.1.2.2.1 (List.replicate n.toNatClampNeg (0 : Int64)).length (fun j => .long ((List.replicate n.toNatClampNeg (0 : Int64)).getD j 0)))
    rw [e1, List.length_replicate]
    congr 2
    funext j
    rw [List.getD_eq_getElem?_getD, List.getElem?_replicate]
    split <;> rfl
theorem q_newq (X : qX ξ E co b nL p s m args meth c) {idx : Nat} {q : Nat × Nat} {n : Int32} (hd : decode b pc = .ok (.anewarray idx, 3)) (hf : qlk (qkL.getD co []) idx = some (1, q)) (hn0 : ¬ n < 0) (hsz : n.toNatClampNeg ≤ 100000) (hR : qR E σ H) (hn : qnE ≤ σ.length) (hS : va_S (qA E) s.heap H locs) (hc : cells + 1 ≤ R.cells) (hs : slots + n.toNatClampNeg ≤ R.slots)
    (kk : ∀ H1 : Heap, qR E (σ ++ [.inr (.inr (.inr (.inl (List.replicate n.toNatClampNeg none))))]) H1 → va_S (qA E) s.heap H1 locs → W p l e R s m args below meth c H1 locs (cells + 1) (slots + n.toNatClampNeg) Q (F0 m (pc + 3) ls (.ref (qr E σ.length) :: rest))) : W p l e R s m args below meth c H locs cells slots Q (F0 m pc ls (.int n :: rest)) := by
  obtain ⟨hx, hb, hml, hown, hts, ⟨hnw, hK, hao, hY, hTh⟩, hlk⟩ := X
  refine W.anew hx hb hown (C := "NestedArchives$Archive") (hts _ (qkl_ok hf rfl)) (va_AO.use hao) rfl hd rfl hn0 (by omega) hc hs fun cA kA comp f1 f2 f3 f4 => ?_
  generalize hH1 : H.push ({ cls := cA, slots := Array.replicate n.toNatClampNeg .null, vm := .none } : Cell) = H1
  have z1 : H1.size = H.size + 1 := by rw [← hH1, Array.size_push]
  have e1 : H1[H.size]? = some (arrV cA n.toNatClampNeg (fun _ => .null)) := by rw [← hH1, Array.getElem?_push_size, ← arrV_new]
  have o1 : ∀ q : Nat, q < H.size → H1[q]? = H[q]? := fun q hq => by rw [← hH1, Array.getElem?_push, if_neg (Nat.ne_of_lt hq)]
  have ec : cA = E.2.1.2.2.2 := by
    obtain ⟨_, _, _, _, _, k4⟩ := (hK.2 3 _ rfl).2
    exact Option.some.inj (f1.symm.trans k4)
  subst ec
  have hk := kk H1 (hR.push (c1 := .inr (.inr (.inr (.inl (List.replicate n.toNatClampNeg none))))) hn z1 o1 rfl ?_) (qS_push hS z1 o1)
  · rw [hR.top hn] at hk
    exact hk
  · show H1[Array.size H]? = some (arrV E.2.1.2.2.2 (List.replicate n.toNatClampNeg (none : Option Nat)).length (fun j => va_rf (((List.replicate n.toNatClampNeg (none : Option Nat)).getD j none).map (qr E))))
    rw [e1, List.length_replicate]
    congr 2
    funext j
    rw [List.getD_eq_getElem?_getD, List.getElem?_replicate]
    split <;> rfl
set_option maxHeartbeats 1000000 in
theorem q_aast (X : qX ξ E co b nL p s m args meth c) {x : Int32} {li : List (Option Nat)} {k : Nat} {fs : List Value} (hd : decode b pc = .ok (.aastore, 1)) (hR : qR E σ H) (hS : va_S (qA E) s.heap H locs) (hi : σ[i]? = some (.inr (.inr (.inr (.inl li))))) (hk9 : σ[k]? = some (.inl (1, fs))) (hx9 : qix x li.length = true)
    (kk : ∀ (H1 : Heap) (locs1 : List Loc), qR E (σ.set i (.inr (.inr (.inr (.inl (li.set x.toNatClampNeg (some k))))))) H1 → va_S (qA E) s.heap H1 locs1 → W p l e R s m args below meth c H1 locs1 cells slots Q (F0 m (pc + 1) ls rest)) : W p l e R s m args below meth c H locs cells slots Q (F0 m pc ls (.ref (qr E k) :: .int x :: .ref (qr E i) :: rest)) := by
  obtain ⟨hx, hb, hml, hown, hts, ⟨hnw, hK, hao, hY, hTh⟩, hlk⟩ := X
  obtain ⟨hn, ha⟩ := hR.2 i _ _ hi rfl
  obtain ⟨hin, hlt⟩ := qix_in hx9
  obtain ⟨-, r, hr, cellV, g1, g2, g3, -⟩ := hR.2 k _ _ hk9 rfl
  have hcls := (hK.1 1 _ (qcl_at (show 1 < 8 by decide))).2
  obtain ⟨kA, comp, k1, k2, k3, -⟩ := (hK.2 3 _ rfl).2
  have hcomp : comp = E.1.1 1 := Option.some.inj (k3.symm.trans hcls.1)
  subst hcomp
  obtain ⟨kC, hkC, -⟩ := hcls.2
  refine W.aast hx hb ha (fun q h => by cases h) (fun h => by cases h) k1 k2 rfl hkC ⟨fun z => hin (Or.inl z), by show _ < (arrV _ _ _).slots.size; rw [arrV_size]; exact hlt⟩ g1 (fun q h => by rw [g3] at h; cases h) (by rw [g2]; exact hkC) (by rw [g2]; exact va_assign hcls) rfl rfl hd fun H1 e z oq => ?_
  refine kk H1 _ (hR.set (c1 := .inr (.inr (.inr (.inl (li.set x.toNatClampNeg (some k)))))) hi hn z oq rfl ?_) (hS.put z oq (qA_of hn))
  show H1[qr E i]? = some (vp_cell _ _)
  rw [e]
  show some ((arrV E.2.1.2.2.2 li.length (fun j => va_rf ((li.getD j none).map (qr E)))).setSlot _ _) = some (arrV E.2.1.2.2.2 (li.set x.toNatClampNeg (some k)).length (fun j => va_rf (((li.set x.toNatClampNeg (some k)).getD j none).map (qr E))))
  rw [arrV_store, List.length_set]
  congr 2
  funext j
  rw [qgetD_set _ _ _ _ hlt]
  unfold updV
  split <;> rfl
theorem q_ldc (X : qX ξ E co b nL p s m args meth c) {idx : Nat} {v : Int32} {q : Nat × Nat} (hd : decode b pc = .ok (.ldc idx, 2)) (hf : qlk (qiL.getD co []) idx = some (v, q)) (kk : W p l e R s m args below meth c H locs cells slots Q (F0 m (pc + 2) ls (.int v :: rest))) : W p l e R s m args below meth c H locs cells slots Q (F0 m pc ls rest) := by
  obtain ⟨hx, hb, hml, hown, hts, ⟨hnw, hK, hao, hY, hTh⟩, hlk⟩ := X
  exact lv_ldc hx hb hown (hts _ (qil_ok hf)) hd kk
theorem q_ldc2 (X : qX ξ E co b nL p s m args meth c) {idx : Nat} {v : Int64} {q : Nat × Nat} (hd : decode b pc = .ok (.ldc2_w idx, 3)) (hf : qlk (qjL.getD co []) idx = some (v, q)) (kk : W p l e R s m args below meth c H locs cells slots Q (F0 m (pc + 3) ls (.long v :: rest))) : W p l e R s m args below meth c H locs cells slots Q (F0 m pc ls rest) := by
  obtain ⟨hx, hb, hml, hown, hts, ⟨hnw, hK, hao, hY, hTh⟩, hlk⟩ := X
  exact lv_ldc2 hx hb hown (hts _ (qjl_ok hf)) hd kk
theorem q_obj (X : qX ξ E co b nL p s m args meth c) {idx a : Nat} {q : Nat × Nat} {x y : Nat} (hls : ls.size = nL) (hd : decode b pc = .ok (.invokespecial idx, 3)) (hf : qlk (qmL.getD co []) idx = some ((5, x, y), q)) (h1 : 1 ≤ R.frames) (h2 : (rest.map fun v => v.category).sum + 12 ≤ R.locals) (kk : W p l e R s m args below meth c H locs cells slots Q (F0 m (pc + 3) ls rest)) : W p l e R s m args below meth c H locs cells slots Q (F0 m pc ls (.ref a :: rest)) := by
  obtain ⟨hx, hb, hml, hown, hts, ⟨hnw, hK, hao, hY, hTh⟩, hlk⟩ := X
  have hm : Cond.methodLink (qnm co) idx Lib.objectInit ∈ qgw := qin_mem (List.all_eq_true.mp (qk_m co) _ (qlk_mem hf))
  have ho := Bool.and_eq_true_iff.mp qk_obj
  exact W.objInit hx hb hown (hts _ hm) (hts _ (qin_mem ho.1)) (hts _ (qin_mem ho.2)) rfl (by rw [hml]; exact hls) rfl hd h1 (by show 2 * 0 + _ + 12 ≤ _; omega) kk
theorem q_max (X : qX ξ E co b nL p s m args meth c) {idx : Nat} {q : Nat × Nat} {u w : Nat} {x y : Int32} (hls : ls.size = nL) (hd : decode b pc = .ok (.invokestatic idx, 3)) (hf : qlk (qmL.getD co []) idx = some ((11, u, w), q)) (h1 : 1 ≤ R.frames) (h2 : (rest.map fun v => v.category).sum + 13 ≤ R.locals) (hc : cells ≤ R.cells) (hs : slots ≤ R.slots) (kk : W p l e R s m args below meth c H locs cells slots Q (F0 m (pc + 3) ls (.int (if x < y then y else x) :: rest))) : W p l e R s m args below meth c H locs cells slots Q (F0 m pc ls (.int y :: .int x :: rest)) := by
  obtain ⟨hx, hb, hml, hown, hts, ⟨hnw, hK, hao, hY, hTh⟩, hlk⟩ := X
  have hm : Cond.methodLink (qnm co) idx Lib.Math.max.name ∈ qgw := qin_mem (List.all_eq_true.mp (qk_m co) _ (qlk_mem hf))
  have ho := Bool.and_eq_true_iff.mp qk_max
  have ho2 := Bool.and_eq_true_iff.mp ho.2
  exact va_mmax hx hb (by rw [hml]; exact hls.symm) hown (hts _ hm) (hts _ (qin_mem ho.1)) (hts _ (qin_mem ho2.1)) (hts _ (qin_mem ho2.2)) h1 h2 hc hs hd kk
end
