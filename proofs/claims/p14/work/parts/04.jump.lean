theorem qtg_ok {t : Int} {n : Nat} (h : qtg t = some n) : t = (n : Int) := by
  unfold qtg at h
  split at h
  · cases h; rfl
  · cases h
section
variable {p : Program} {l : Launch} {e : Env} {R : Room} {s : State} {m : MethodId} {args : Array Value} {below : List Frame} {meth : Method} {c : Code} {H : Heap} {locs : List Loc} {cells slots : Nat} {Q : State → Prop}
set_option maxHeartbeats 4000000 in
theorem qjmp_ok (hx : p.tables.exec = Jvm.exec) {cc : ByteArray} (hb : c.code = cc) {ρ : Nat → Nat} {pc len pc' : Nat} {ins : Instr} {st st' : List Value} (hd : decode cc pc = .ok (ins, len)) (h : qjmp ins len pc st = some (pc', st')) {ls : Array Slot}
    (k : W p l e R s m args below meth c H locs cells slots Q (F0 m pc' ls (st'.map (qv ρ)))) : W p l e R s m args below meth c H locs cells slots Q (F0 m pc ls (st.map (qv ρ))) := by
  unfold qjmp at h
  split at h
  · split at h
    · rename_i ht
      cases h
      exact lv_goto hx hb hd (qtg_ok ht) k
    · cases h
  · split at h
    · rename_i ht
      split at h <;> cases h
      · exact lv_if_eq hx hb hd (qtg_ok ht) (fun z => by rw [if_pos z] at k; exact k) (fun z => by rw [if_neg z] at k; exact k)
      · exact lv_if_ne hx hb hd (qtg_ok ht) (fun z => by rw [if_neg z] at k; exact k) (fun z => by rw [if_pos z] at k; exact k)
      · exact lv_if_lt hx hb hd (qtg_ok ht) (fun z => by rw [if_pos z] at k; exact k) (fun z => by rw [if_neg z] at k; exact k)
      · exact lv_if_ge hx hb hd (qtg_ok ht) (fun z => by rw [if_pos z] at k; exact k) (fun z => by rw [if_neg z] at k; exact k)
      · exact lv_if_gt hx hb hd (qtg_ok ht) (fun z => by rw [if_pos z] at k; exact k) (fun z => by rw [if_neg z] at k; exact k)
      · exact lv_if_le hx hb hd (qtg_ok ht) (fun z => by rw [if_pos z] at k; exact k) (fun z => by rw [if_neg z] at k; exact k)
    · cases h
  · split at h
    · rename_i ht
      split at h <;> cases h
      · exact lv_icmp_eq hx hb hd (qtg_ok ht) (fun z => by rw [if_pos z] at k; exact k) (fun z => by rw [if_neg z] at k; exact k)
      · exact lv_icmp_ne hx hb hd (qtg_ok ht) (fun z => by rw [if_neg z] at k; exact k) (fun z => by rw [if_pos z] at k; exact k)
      · exact lv_icmp_lt hx hb hd (qtg_ok ht) (fun z => by rw [if_pos z] at k; exact k) (fun z => by rw [if_neg z] at k; exact k)
      · exact lv_icmp_ge hx hb hd (qtg_ok ht) (fun z => by rw [if_pos z] at k; exact k) (fun z => by rw [if_neg z] at k; exact k)
      · exact lv_icmp_gt hx hb hd (qtg_ok ht) (fun z => by rw [if_pos z] at k; exact k) (fun z => by rw [if_neg z] at k; exact k)
      · exact lv_icmp_le hx hb hd (qtg_ok ht) (fun z => by rw [if_pos z] at k; exact k) (fun z => by rw [if_neg z] at k; exact k)
    · cases h
  · split at h
    · rename_i ht
      cases h
      exact lv_ifnullN hx hb hd (qtg_ok ht) k
    · cases h
      exact lv_ifnull hx hb hd k
    · cases h
  · split at h
    · cases h
      exact lv_ifnonnullN hx hb hd k
    · rename_i ht
      cases h
      exact lv_ifnonnull hx hb hd (qtg_ok ht) k
    · cases h
  · split at h
    · rename_i x r
      cases hc : (decide (x.toInt < _) || decide (_ < x.toInt)) with
      | true =>
        rw [hc] at h
        simp only [cond_true] at h
        split at h
        · rename_i ht
          cases h
          exact lv_tableOut hx hb hd (by simpa using hc) (qtg_ok ht) k
        · cases h
      | false =>
        rw [hc] at h
        simp only [cond_false] at h
        simp only [Bool.or_eq_false_iff, decide_eq_false_iff_not] at hc
        split at h
        · rename_i ho
          split at h
          · rename_i ht
            cases h
            exact lv_tableIn hx hb hd hc.1 hc.2 ho (qtg_ok ht) k
          · cases h
        · cases h
    · cases h
  · cases h
end
