/-! type: the eight bytes of a long, by the object and by the model. -/
theorem bm8 (x : Int) : (x.bmod (2 ^ 32)) % 2 ^ 8 = x % 2 ^ 8 := by
  simp only [Int.bmod]
  split <;> omega
def Bu (w : Int64) (s : Int32) : Int32 := (w.toUInt64 >>> (s.toInt64.toUInt64 &&& Int64.toUInt64 63)).toInt64.toInt32 &&& 255
def Bm (w : Int64) (s : Int32) : Int32 := (w >>> (s.toInt64 &&& 63)).toInt32 &&& 255
theorem bq56 (w : Int64) : Bu w 56 = Bm w 56 := by
  unfold Bu Bm
  apply Int32.toInt_inj.mp
  rw [Jvm.Kit.i32_mask _ 255 (k := 8) (by decide) (by decide), Jvm.Kit.i32_mask _ 255 (k := 8) (by decide) (by decide), Int64.toInt_toInt32, Int64.toInt_toInt32, bm8, bm8, Jvm.Kit.i64_shr w _ (k := 56) (by decide)]
  have hn : ((56 : Int32).toInt64.toUInt64 &&& Int64.toUInt64 63).toNat = 56 := by decide
  have e2 : ((w.toUInt64 >>> ((56 : Int32).toInt64.toUInt64 &&& Int64.toUInt64 63)).toInt64).toBitVec.toNat = w.toBitVec.toNat / 2 ^ 56 := by
    simp only [UInt64.toBitVec_toInt64, UInt64.toBitVec_shiftRight, Int64.toBitVec_toUInt64]
    simp [BitVec.toNat_ushiftRight, Nat.shiftRight_eq_div_pow]
  have e3 : ((w.toUInt64 >>> ((56 : Int32).toInt64.toUInt64 &&& Int64.toUInt64 63)).toInt64).toInt = ((w.toBitVec.toNat / 2 ^ 56 : Nat) : Int).bmod (2 ^ 64) := by
    rw [← e2]
    exact BitVec.toInt_eq_toNat_bmod _
  have e4 : w.toInt = (w.toBitVec.toNat : Int).bmod (2 ^ 64) := BitVec.toInt_eq_toNat_bmod _
  rw [e3, e4]
  have hb := w.toBitVec.isLt
  obtain ⟨N, hN⟩ : ∃ N, N = w.toBitVec.toNat := ⟨_, rfl⟩
  rw [← hN] at hb ⊢
  simp only [Int.bmod]
  split <;> split <;> omega
theorem bq48 (w : Int64) : Bu w 48 = Bm w 48 := by
  unfold Bu Bm
  apply Int32.toInt_inj.mp
  rw [Jvm.Kit.i32_mask _ 255 (k := 8) (by decide) (by decide), Jvm.Kit.i32_mask _ 255 (k := 8) (by decide) (by decide), Int64.toInt_toInt32, Int64.toInt_toInt32, bm8, bm8, Jvm.Kit.i64_shr w _ (k := 48) (by decide)]
  have hn : ((48 : Int32).toInt64.toUInt64 &&& Int64.toUInt64 63).toNat = 48 := by decide
  have e2 : ((w.toUInt64 >>> ((48 : Int32).toInt64.toUInt64 &&& Int64.toUInt64 63)).toInt64).toBitVec.toNat = w.toBitVec.toNat / 2 ^ 48 := by
    simp only [UInt64.toBitVec_toInt64, UInt64.toBitVec_shiftRight, Int64.toBitVec_toUInt64]
    simp [BitVec.toNat_ushiftRight, Nat.shiftRight_eq_div_pow]
  have e3 : ((w.toUInt64 >>> ((48 : Int32).toInt64.toUInt64 &&& Int64.toUInt64 63)).toInt64).toInt = ((w.toBitVec.toNat / 2 ^ 48 : Nat) : Int).bmod (2 ^ 64) := by
    rw [← e2]
    exact BitVec.toInt_eq_toNat_bmod _
  have e4 : w.toInt = (w.toBitVec.toNat : Int).bmod (2 ^ 64) := BitVec.toInt_eq_toNat_bmod _
  rw [e3, e4]
  have hb := w.toBitVec.isLt
  obtain ⟨N, hN⟩ : ∃ N, N = w.toBitVec.toNat := ⟨_, rfl⟩
  rw [← hN] at hb ⊢
  simp only [Int.bmod]
  split <;> split <;> omega
theorem bq40 (w : Int64) : Bu w 40 = Bm w 40 := by
  unfold Bu Bm
  apply Int32.toInt_inj.mp
  rw [Jvm.Kit.i32_mask _ 255 (k := 8) (by decide) (by decide), Jvm.Kit.i32_mask _ 255 (k := 8) (by decide) (by decide), Int64.toInt_toInt32, Int64.toInt_toInt32, bm8, bm8, Jvm.Kit.i64_shr w _ (k := 40) (by decide)]
  have hn : ((40 : Int32).toInt64.toUInt64 &&& Int64.toUInt64 63).toNat = 40 := by decide
  have e2 : ((w.toUInt64 >>> ((40 : Int32).toInt64.toUInt64 &&& Int64.toUInt64 63)).toInt64).toBitVec.toNat = w.toBitVec.toNat / 2 ^ 40 := by
    simp only [UInt64.toBitVec_toInt64, UInt64.toBitVec_shiftRight, Int64.toBitVec_toUInt64]
    simp [BitVec.toNat_ushiftRight, Nat.shiftRight_eq_div_pow]
  have e3 : ((w.toUInt64 >>> ((40 : Int32).toInt64.toUInt64 &&& Int64.toUInt64 63)).toInt64).toInt = ((w.toBitVec.toNat / 2 ^ 40 : Nat) : Int).bmod (2 ^ 64) := by
    rw [← e2]
    exact BitVec.toInt_eq_toNat_bmod _
  have e4 : w.toInt = (w.toBitVec.toNat : Int).bmod (2 ^ 64) := BitVec.toInt_eq_toNat_bmod _
  rw [e3, e4]
  have hb := w.toBitVec.isLt
  obtain ⟨N, hN⟩ : ∃ N, N = w.toBitVec.toNat := ⟨_, rfl⟩
  rw [← hN] at hb ⊢
  simp only [Int.bmod]
  split <;> split <;> omega
theorem bq32 (w : Int64) : Bu w 32 = Bm w 32 := by
  unfold Bu Bm
  apply Int32.toInt_inj.mp
  rw [Jvm.Kit.i32_mask _ 255 (k := 8) (by decide) (by decide), Jvm.Kit.i32_mask _ 255 (k := 8) (by decide) (by decide), Int64.toInt_toInt32, Int64.toInt_toInt32, bm8, bm8, Jvm.Kit.i64_shr w _ (k := 32) (by decide)]
  have hn : ((32 : Int32).toInt64.toUInt64 &&& Int64.toUInt64 63).toNat = 32 := by decide
  have e2 : ((w.toUInt64 >>> ((32 : Int32).toInt64.toUInt64 &&& Int64.toUInt64 63)).toInt64).toBitVec.toNat = w.toBitVec.toNat / 2 ^ 32 := by
    simp only [UInt64.toBitVec_toInt64, UInt64.toBitVec_shiftRight, Int64.toBitVec_toUInt64]
    simp [BitVec.toNat_ushiftRight, Nat.shiftRight_eq_div_pow]
  have e3 : ((w.toUInt64 >>> ((32 : Int32).toInt64.toUInt64 &&& Int64.toUInt64 63)).toInt64).toInt = ((w.toBitVec.toNat / 2 ^ 32 : Nat) : Int).bmod (2 ^ 64) := by
    rw [← e2]
    exact BitVec.toInt_eq_toNat_bmod _
  have e4 : w.toInt = (w.toBitVec.toNat : Int).bmod (2 ^ 64) := BitVec.toInt_eq_toNat_bmod _
  rw [e3, e4]
  have hb := w.toBitVec.isLt
  obtain ⟨N, hN⟩ : ∃ N, N = w.toBitVec.toNat := ⟨_, rfl⟩
  rw [← hN] at hb ⊢
  simp only [Int.bmod]
  split <;> split <;> omega
theorem bq24 (w : Int64) : Bu w 24 = Bm w 24 := by
  unfold Bu Bm
  apply Int32.toInt_inj.mp
  rw [Jvm.Kit.i32_mask _ 255 (k := 8) (by decide) (by decide), Jvm.Kit.i32_mask _ 255 (k := 8) (by decide) (by decide), Int64.toInt_toInt32, Int64.toInt_toInt32, bm8, bm8, Jvm.Kit.i64_shr w _ (k := 24) (by decide)]
  have hn : ((24 : Int32).toInt64.toUInt64 &&& Int64.toUInt64 63).toNat = 24 := by decide
  have e2 : ((w.toUInt64 >>> ((24 : Int32).toInt64.toUInt64 &&& Int64.toUInt64 63)).toInt64).toBitVec.toNat = w.toBitVec.toNat / 2 ^ 24 := by
    simp only [UInt64.toBitVec_toInt64, UInt64.toBitVec_shiftRight, Int64.toBitVec_toUInt64]
    simp [BitVec.toNat_ushiftRight, Nat.shiftRight_eq_div_pow]
  have e3 : ((w.toUInt64 >>> ((24 : Int32).toInt64.toUInt64 &&& Int64.toUInt64 63)).toInt64).toInt = ((w.toBitVec.toNat / 2 ^ 24 : Nat) : Int).bmod (2 ^ 64) := by
    rw [← e2]
    exact BitVec.toInt_eq_toNat_bmod _
  have e4 : w.toInt = (w.toBitVec.toNat : Int).bmod (2 ^ 64) := BitVec.toInt_eq_toNat_bmod _
  rw [e3, e4]
  have hb := w.toBitVec.isLt
  obtain ⟨N, hN⟩ : ∃ N, N = w.toBitVec.toNat := ⟨_, rfl⟩
  rw [← hN] at hb ⊢
  simp only [Int.bmod]
  split <;> split <;> omega
theorem bq16 (w : Int64) : Bu w 16 = Bm w 16 := by
  unfold Bu Bm
  apply Int32.toInt_inj.mp
  rw [Jvm.Kit.i32_mask _ 255 (k := 8) (by decide) (by decide), Jvm.Kit.i32_mask _ 255 (k := 8) (by decide) (by decide), Int64.toInt_toInt32, Int64.toInt_toInt32, bm8, bm8, Jvm.Kit.i64_shr w _ (k := 16) (by decide)]
  have hn : ((16 : Int32).toInt64.toUInt64 &&& Int64.toUInt64 63).toNat = 16 := by decide
  have e2 : ((w.toUInt64 >>> ((16 : Int32).toInt64.toUInt64 &&& Int64.toUInt64 63)).toInt64).toBitVec.toNat = w.toBitVec.toNat / 2 ^ 16 := by
    simp only [UInt64.toBitVec_toInt64, UInt64.toBitVec_shiftRight, Int64.toBitVec_toUInt64]
    simp [BitVec.toNat_ushiftRight, Nat.shiftRight_eq_div_pow]
  have e3 : ((w.toUInt64 >>> ((16 : Int32).toInt64.toUInt64 &&& Int64.toUInt64 63)).toInt64).toInt = ((w.toBitVec.toNat / 2 ^ 16 : Nat) : Int).bmod (2 ^ 64) := by
    rw [← e2]
    exact BitVec.toInt_eq_toNat_bmod _
  have e4 : w.toInt = (w.toBitVec.toNat : Int).bmod (2 ^ 64) := BitVec.toInt_eq_toNat_bmod _
  rw [e3, e4]
  have hb := w.toBitVec.isLt
  obtain ⟨N, hN⟩ : ∃ N, N = w.toBitVec.toNat := ⟨_, rfl⟩
  rw [← hN] at hb ⊢
  simp only [Int.bmod]
  split <;> split <;> omega
theorem bq8 (w : Int64) : Bu w 8 = Bm w 8 := by
  unfold Bu Bm
  apply Int32.toInt_inj.mp
  rw [Jvm.Kit.i32_mask _ 255 (k := 8) (by decide) (by decide), Jvm.Kit.i32_mask _ 255 (k := 8) (by decide) (by decide), Int64.toInt_toInt32, Int64.toInt_toInt32, bm8, bm8, Jvm.Kit.i64_shr w _ (k := 8) (by decide)]
  have hn : ((8 : Int32).toInt64.toUInt64 &&& Int64.toUInt64 63).toNat = 8 := by decide
  have e2 : ((w.toUInt64 >>> ((8 : Int32).toInt64.toUInt64 &&& Int64.toUInt64 63)).toInt64).toBitVec.toNat = w.toBitVec.toNat / 2 ^ 8 := by
    simp only [UInt64.toBitVec_toInt64, UInt64.toBitVec_shiftRight, Int64.toBitVec_toUInt64]
    simp [BitVec.toNat_ushiftRight, Nat.shiftRight_eq_div_pow]
  have e3 : ((w.toUInt64 >>> ((8 : Int32).toInt64.toUInt64 &&& Int64.toUInt64 63)).toInt64).toInt = ((w.toBitVec.toNat / 2 ^ 8 : Nat) : Int).bmod (2 ^ 64) := by
    rw [← e2]
    exact BitVec.toInt_eq_toNat_bmod _
  have e4 : w.toInt = (w.toBitVec.toNat : Int).bmod (2 ^ 64) := BitVec.toInt_eq_toNat_bmod _
  rw [e3, e4]
  have hb := w.toBitVec.isLt
  obtain ⟨N, hN⟩ : ∃ N, N = w.toBitVec.toNat := ⟨_, rfl⟩
  rw [← hN] at hb ⊢
  simp only [Int.bmod]
  split <;> split <;> omega
theorem bq0 (w : Int64) : Bu w 0 = Bm w 0 := by
  unfold Bu Bm
  apply Int32.toInt_inj.mp
  rw [Jvm.Kit.i32_mask _ 255 (k := 8) (by decide) (by decide), Jvm.Kit.i32_mask _ 255 (k := 8) (by decide) (by decide), Int64.toInt_toInt32, Int64.toInt_toInt32, bm8, bm8, Jvm.Kit.i64_shr w _ (k := 0) (by decide)]
  have hn : ((0 : Int32).toInt64.toUInt64 &&& Int64.toUInt64 63).toNat = 0 := by decide
  have e2 : ((w.toUInt64 >>> ((0 : Int32).toInt64.toUInt64 &&& Int64.toUInt64 63)).toInt64).toBitVec.toNat = w.toBitVec.toNat / 2 ^ 0 := by
    simp only [UInt64.toBitVec_toInt64, UInt64.toBitVec_shiftRight, Int64.toBitVec_toUInt64]
    simp [BitVec.toNat_ushiftRight, Nat.shiftRight_eq_div_pow]
  have e3 : ((w.toUInt64 >>> ((0 : Int32).toInt64.toUInt64 &&& Int64.toUInt64 63)).toInt64).toInt = ((w.toBitVec.toNat / 2 ^ 0 : Nat) : Int).bmod (2 ^ 64) := by
    rw [← e2]
    exact BitVec.toInt_eq_toNat_bmod _
  have e4 : w.toInt = (w.toBitVec.toNat : Int).bmod (2 ^ 64) := BitVec.toInt_eq_toNat_bmod _
  rw [e3, e4]
  have hb := w.toBitVec.isLt
  obtain ⟨N, hN⟩ : ∃ N, N = w.toBitVec.toNat := ⟨_, rfl⟩
  rw [← hN] at hb ⊢
  simp only [Int.bmod]
  split <;> split <;> omega
def okB (B : Int32) : Prop := B = 0 ∨ (¬ B < 33 ∧ ¬ (126 : Int32) < B)
def exT (ex : qLV) : Prop := ex = [] ∨ ∃ u : Int32, ex = [(5, .int u)]
def up1 (B more : Int32) : Int32 := more + (if B = 0 then 0 else 1)
theorem up1_le {B more : Int32} {j : Nat} (h0 : 0 ≤ more.toInt) (h : more.toInt ≤ j) (hj : j < 1000) : 0 ≤ (up1 B more).toInt ∧ (up1 B more).toInt ≤ (j + 1 : Nat) := by
  unfold up1
  have z0 : (0 : Int32).toInt = 0 := rfl
  have z1 : (1 : Int32).toInt = 1 := rfl
  split
  · rw [Jvm.Kit.i32_add (by omega) (by omega)]
    omega
  · rw [Jvm.Kit.i32_add (by omega) (by omega)]
    omega
section
variable {ξ : Nat → Option (Nat × List Int32)}
theorem G.sim {d j pc : Nat} {lv : qLV} {st : List Value} {σ : qH} {o : Option Value × qH} {ins : Instr} {len : Nat} {lv' : qLV} {st' : List Value} (hf : qfe j pc = some (ins, len)) (h : qsim (qnl j) ins len lv st = some (lv', st')) (g : G ξ d j (pc + len) lv' st' σ o) : G ξ d j pc lv st σ o := G.go 1 (fun n => ex_sim hf h) g
theorem c_letter (d : Nat) (B : Int32) (σ : qH) : (¬ B < 33 ∧ ¬ (126 : Int32) < B → G ξ d j_N_isLetter 0 (lv_args 0 [.int B]) [] σ (some (.int 1), σ)) ∧ (¬ (¬ B < 33 ∧ ¬ (126 : Int32) < B) → G ξ d j_N_isLetter 0 (lv_args 0 [.int B]) [] σ (some (.int 0), σ)) := by
  refine ⟨fun h => ?_, fun h => ?_⟩
  · refine G.go 3 (fun n => (rfl : _ = exe ξ n d j_N_isLetter (if B < 33 then 16 else 6) [(0, .int B)] [] σ)) ?_
    rw [if_neg h.1]
    refine G.go 3 (fun n => (rfl : _ = exe ξ n d j_N_isLetter (if (126 : Int32) < B then 16 else 12) [(0, .int B)] [] σ)) ?_
    rw [if_neg h.2]
    exact G.end 3 (fun n => rfl)
  · refine G.go 3 (fun n => (rfl : _ = exe ξ n d j_N_isLetter (if B < 33 then 16 else 6) [(0, .int B)] [] σ)) ?_
    by_cases h1 : B < 33
    · rw [if_pos h1]
      exact G.end 2 (fun n => rfl)
    · rw [if_neg h1]
      refine G.go 3 (fun n => (rfl : _ = exe ξ n d j_N_isLetter (if (126 : Int32) < B then 16 else 12) [(0, .int B)] [] σ)) ?_
      rw [if_pos (Classical.byContradiction fun z => h ⟨h1, z⟩)]
      exact G.end 2 (fun n => rfl)
theorem c_in (d : Nat) (B : Int32) (σ : qH) : (¬ B < 33 ∧ ¬ (126 : Int32) < B → G ξ d j_M_in 0 (lv_args 0 [.int B, .int 33, .int 126]) [] σ (some (.int 1), σ)) ∧ (¬ (¬ B < 33 ∧ ¬ (126 : Int32) < B) → G ξ d j_M_in 0 (lv_args 0 [.int B, .int 33, .int 126]) [] σ (some (.int 0), σ)) := by
  refine ⟨fun h => ?_, fun h => ?_⟩
  · refine G.go 3 (fun n => (rfl : _ = exe ξ n d j_M_in (if B < 33 then 14 else 5) [(0, .int B), (1, .int 33), (2, .int 126)] [] σ)) ?_
    rw [if_neg h.1]
    refine G.go 3 (fun n => (rfl : _ = exe ξ n d j_M_in (if (126 : Int32) < B then 14 else 10) [(0, .int B), (1, .int 33), (2, .int 126)] [] σ)) ?_
    rw [if_neg h.2]
    exact G.end 3 (fun n => rfl)
  · refine G.go 3 (fun n => (rfl : _ = exe ξ n d j_M_in (if B < 33 then 14 else 5) [(0, .int B), (1, .int 33), (2, .int 126)] [] σ)) ?_
    by_cases h1 : B < 33
    · rw [if_pos h1]
      exact G.end 2 (fun n => rfl)
    · rw [if_neg h1]
      refine G.go 3 (fun n => (rfl : _ = exe ξ n d j_M_in (if (126 : Int32) < B then 14 else 10) [(0, .int B), (1, .int 33), (2, .int 126)] [] σ)) ?_
      rw [if_pos (Classical.byContradiction fun z => h ⟨h1, z⟩)]
      exact G.end 2 (fun n => rfl)
theorem tN_turn (d : Nat) (w : Int64) (s more : Int32) (ex : qLV) (σ : qH) (B : Int32) (hB : B = ((w.toUInt64 >>> (s.toInt64.toUInt64 &&& Int64.toUInt64 63)).toInt64.toInt32 &&& 255)) (hs : ¬ s < 0) (hex : exT ex) : (okB B → ∀ o, G ξ (d + 1) j_N_type 6 [(0, .ref 16), (1, .long w), (3, .int (up1 B more)), (4, .int (s + Int32.ofInt (-8))), (5, .int B)] [] σ o → G ξ (d + 1) j_N_type 6 ([(0, .ref 16), (1, .long w), (3, .int more), (4, .int s)] ++ ex) [] σ o) ∧ (¬ okB B → G ξ (d + 1) j_N_type 6 ([(0, .ref 16), (1, .long w), (3, .int more), (4, .int s)] ++ ex) [] σ (some (.int 0), σ)) := by
  have key : ∀ o, G ξ (d + 1) j_N_type (if B = 0 then 37 else 27) [(0, .ref 16), (1, .long w), (3, .int more), (4, .int s), (5, .int B)] [] σ o → G ξ (d + 1) j_N_type 6 ([(0, .ref 16), (1, .long w), (3, .int more), (4, .int s)] ++ ex) [] σ o := by
    intro o g
    rcases hex with rfl | ⟨u, rfl⟩
    · refine G.go 2 (fun n => (rfl : _ = exe ξ n (d + 1) j_N_type (if s < 0 then 56 else 11) [(0, .ref 16), (1, .long w), (3, .int more), (4, .int s)] [] σ)) ?_
      rw [if_neg hs]
      refine G.go 7 (fun n => (rfl : _ = exe ξ n (d + 1) j_N_type 22 [(0, .ref 16), (1, .long w), (3, .int more), (4, .int s), (5, .int ((w.toUInt64 >>> (s.toInt64.toUInt64 &&& Int64.toUInt64 63)).toInt64.toInt32 &&& 255))] [] σ)) ?_
      rw [← hB]
      exact G.go 2 (fun n => rfl) g
    · refine G.go 2 (fun n => (rfl : _ = exe ξ n (d + 1) j_N_type (if s < 0 then 56 else 11) [(0, .ref 16), (1, .long w), (3, .int more), (4, .int s), (5, .int u)] [] σ)) ?_
      rw [if_neg hs]
      refine G.go 7 (fun n => (rfl : _ = exe ξ n (d + 1) j_N_type 22 [(0, .ref 16), (1, .long w), (3, .int more), (4, .int s), (5, .int ((w.toUInt64 >>> (s.toInt64.toUInt64 &&& Int64.toUInt64 63)).toInt64.toInt32 &&& 255))] [] σ)) ?_
      rw [← hB]
      exact G.go 2 (fun n => rfl) g
  refine ⟨fun hok o g => key o ?_, fun hno => key _ ?_⟩
  · have tail : G ξ (d + 1) j_N_type 37 [(0, .ref 16), (1, .long w), (3, .int more), (4, .int s), (5, .int B)] [] σ o := by
      refine G.go 3 (fun n => (rfl : _ = exe ξ n (d + 1) j_N_type (if B = 0 then 43 else 47) [(0, .ref 16), (1, .long w), (3, .int more), (4, .int s), (5, .int B)] [.int more] σ)) ?_
      by_cases h0 : B = 0
      · rw [if_pos h0]
        have e : up1 B more = more + 0 := by unfold up1; rw [if_pos h0]
        rw [e] at g
        exact G.go 6 (fun n => rfl) g
      · rw [if_neg h0]
        have e : up1 B more = more + 1 := by unfold up1; rw [if_neg h0]
        rw [e] at g
        exact G.go 5 (fun n => rfl) g
    by_cases h0 : B = 0
    · rw [if_pos h0]
      exact tail
    · rw [if_neg h0]
      refine G.go 1 (fun n => (rfl : _ = exe ξ n (d + 1) j_N_type 29 [(0, .ref 16), (1, .long w), (3, .int more), (4, .int s), (5, .int B)] [.int B] σ)) ?_
      refine G.call (k := j_N_isLetter) (as := [.int B]) (r := []) (v := some (.int 1)) rfl rfl rfl rfl rfl rfl rfl rfl ((c_letter d B σ).1 (hok.resolve_left h0)) ?_
      exact G.go 1 (fun n => rfl) tail
  · have h0 : ¬ B = 0 := fun z => hno (Or.inl z)
    rw [if_neg h0]
    refine G.go 1 (fun n => (rfl : _ = exe ξ n (d + 1) j_N_type 29 [(0, .ref 16), (1, .long w), (3, .int more), (4, .int s), (5, .int B)] [.int B] σ)) ?_
    refine G.call (k := j_N_isLetter) (as := [.int B]) (r := []) (v := some (.int 0)) rfl rfl rfl rfl rfl rfl rfl rfl ((c_letter d B σ).2 (fun z => hno (Or.inr z))) ?_
    exact G.end 3 (fun n => rfl)
def allN (w : Int64) : Prop := okB (Bu w 56) ∧ okB (Bu w 48) ∧ okB (Bu w 40) ∧ okB (Bu w 32) ∧ okB (Bu w 24) ∧ okB (Bu w 16) ∧ okB (Bu w 8) ∧ okB (Bu w 0)
theorem tN_all (d : Nat) (w : Int64) (σ : qH) : (allN w → ∃ more u : Int32, 0 ≤ more.toInt ∧ more.toInt ≤ 8 ∧ ∀ o, G ξ (d + 1) j_N_type 56 [(0, .ref 16), (1, .long w), (3, .int more), (4, .int (-8)), (5, .int u)] [] σ o → G ξ (d + 1) j_N_type 6 [(0, .ref 16), (1, .long w), (3, .int 0), (4, .int 56)] [] σ o) ∧ (¬ allN w → G ξ (d + 1) j_N_type 6 [(0, .ref 16), (1, .long w), (3, .int 0), (4, .int 56)] [] σ (some (.int 0), σ)) := by
  have t0 := tN_turn (ξ := ξ) d w 56 0 [] σ (Bu w 56) rfl (by decide) (Or.inl rfl)
  have t1 := tN_turn (ξ := ξ) d w 48 (up1 (Bu w 56) 0) [(5, .int (Bu w 56))] σ (Bu w 48) rfl (by decide) (Or.inr ⟨_, rfl⟩)
  have t2 := tN_turn (ξ := ξ) d w 40 (up1 (Bu w 48) (up1 (Bu w 56) 0)) [(5, .int (Bu w 48))] σ (Bu w 40) rfl (by decide) (Or.inr ⟨_, rfl⟩)
  have t3 := tN_turn (ξ := ξ) d w 32 (up1 (Bu w 40) (up1 (Bu w 48) (up1 (Bu w 56) 0))) [(5, .int (Bu w 40))] σ (Bu w 32) rfl (by decide) (Or.inr ⟨_, rfl⟩)
  have t4 := tN_turn (ξ := ξ) d w 24 (up1 (Bu w 32) (up1 (Bu w 40) (up1 (Bu w 48) (up1 (Bu w 56) 0)))) [(5, .int (Bu w 32))] σ (Bu w 24) rfl (by decide) (Or.inr ⟨_, rfl⟩)
  have t5 := tN_turn (ξ := ξ) d w 16 (up1 (Bu w 24) (up1 (Bu w 32) (up1 (Bu w 40) (up1 (Bu w 48) (up1 (Bu w 56) 0))))) [(5, .int (Bu w 24))] σ (Bu w 16) rfl (by decide) (Or.inr ⟨_, rfl⟩)
  have t6 := tN_turn (ξ := ξ) d w 8 (up1 (Bu w 16) (up1 (Bu w 24) (up1 (Bu w 32) (up1 (Bu w 40) (up1 (Bu w 48) (up1 (Bu w 56) 0)))))) [(5, .int (Bu w 16))] σ (Bu w 8) rfl (by decide) (Or.inr ⟨_, rfl⟩)
  have t7 := tN_turn (ξ := ξ) d w 0 (up1 (Bu w 8) (up1 (Bu w 16) (up1 (Bu w 24) (up1 (Bu w 32) (up1 (Bu w 40) (up1 (Bu w 48) (up1 (Bu w 56) 0))))))) [(5, .int (Bu w 8))] σ (Bu w 0) rfl (by decide) (Or.inr ⟨_, rfl⟩)
  have u0 := up1_le (B := Bu w 56) (more := 0) (j := 0) (by decide) (by decide) (by decide)
  have u1 := up1_le (B := Bu w 48) (more := (up1 (Bu w 56) 0)) (j := 1) u0.1 u0.2 (by decide)
  have u2 := up1_le (B := Bu w 40) (more := (up1 (Bu w 48) (up1 (Bu w 56) 0))) (j := 2) u1.1 u1.2 (by decide)
  have u3 := up1_le (B := Bu w 32) (more := (up1 (Bu w 40) (up1 (Bu w 48) (up1 (Bu w 56) 0)))) (j := 3) u2.1 u2.2 (by decide)
  have u4 := up1_le (B := Bu w 24) (more := (up1 (Bu w 32) (up1 (Bu w 40) (up1 (Bu w 48) (up1 (Bu w 56) 0))))) (j := 4) u3.1 u3.2 (by decide)
  have u5 := up1_le (B := Bu w 16) (more := (up1 (Bu w 24) (up1 (Bu w 32) (up1 (Bu w 40) (up1 (Bu w 48) (up1 (Bu w 56) 0)))))) (j := 5) u4.1 u4.2 (by decide)
  have u6 := up1_le (B := Bu w 8) (more := (up1 (Bu w 16) (up1 (Bu w 24) (up1 (Bu w 32) (up1 (Bu w 40) (up1 (Bu w 48) (up1 (Bu w 56) 0))))))) (j := 6) u5.1 u5.2 (by decide)
  have u7 := up1_le (B := Bu w 0) (more := (up1 (Bu w 8) (up1 (Bu w 16) (up1 (Bu w 24) (up1 (Bu w 32) (up1 (Bu w 40) (up1 (Bu w 48) (up1 (Bu w 56) 0)))))))) (j := 7) u6.1 u6.2 (by decide)
  refine ⟨fun h => ?_, fun h => ?_⟩
  · obtain ⟨h0, h1, h2, h3, h4, h5, h6, h7⟩ := h
    refine ⟨(up1 (Bu w 0) (up1 (Bu w 8) (up1 (Bu w 16) (up1 (Bu w 24) (up1 (Bu w 32) (up1 (Bu w 40) (up1 (Bu w 48) (up1 (Bu w 56) 0)))))))), Bu w 0, u7.1, u7.2, fun o g => ?_⟩
    exact (t0.1 h0 _ (t1.1 h1 _ (t2.1 h2 _ (t3.1 h3 _ (t4.1 h4 _ (t5.1 h5 _ (t6.1 h6 _ (t7.1 h7 _ (G.go 2 (fun n => rfl) g)))))))))
  · by_cases h0 : okB (Bu w 56)
    · by_cases h1 : okB (Bu w 48)
      · by_cases h2 : okB (Bu w 40)
        · by_cases h3 : okB (Bu w 32)
          · by_cases h4 : okB (Bu w 24)
            · by_cases h5 : okB (Bu w 16)
              · by_cases h6 : okB (Bu w 8)
                · by_cases h7 : okB (Bu w 0)
                  · exact absurd ⟨h0, h1, h2, h3, h4, h5, h6, h7⟩ h
                  · exact (t0.1 h0 _ (t1.1 h1 _ (t2.1 h2 _ (t3.1 h3 _ (t4.1 h4 _ (t5.1 h5 _ (t6.1 h6 _ (t7.2 h7))))))))
                · exact (t0.1 h0 _ (t1.1 h1 _ (t2.1 h2 _ (t3.1 h3 _ (t4.1 h4 _ (t5.1 h5 _ (t6.2 h6)))))))
              · exact (t0.1 h0 _ (t1.1 h1 _ (t2.1 h2 _ (t3.1 h3 _ (t4.1 h4 _ (t5.2 h5))))))
            · exact (t0.1 h0 _ (t1.1 h1 _ (t2.1 h2 _ (t3.1 h3 _ (t4.2 h4)))))
          · exact (t0.1 h0 _ (t1.1 h1 _ (t2.1 h2 _ (t3.2 h3))))
        · exact (t0.1 h0 _ (t1.1 h1 _ (t2.2 h2)))
      · exact (t0.1 h0 _ (t1.2 h1))
    · exact (t0.2 h0)
theorem tM_turn (d : Nat) (w : Int64) (s more : Int32) (ex : qLV) (σ : qH) (B : Int32) (hB : B = ((w >>> (s.toInt64 &&& 63)).toInt32 &&& 255)) (hs : ¬ s < 0) (hex : exT ex) : (okB B → ∀ o, G ξ (d + 1) j_M_type 11 [(0, .ref 137), (1, .long w), (3, .int (up1 B more)), (4, .int (s + Int32.ofInt (-8))), (5, .int B)] [] σ o → G ξ (d + 1) j_M_type 11 ([(0, .ref 137), (1, .long w), (3, .int more), (4, .int s)] ++ ex) [] σ o) ∧ (¬ okB B → G ξ (d + 1) j_M_type 11 ([(0, .ref 137), (1, .long w), (3, .int more), (4, .int s)] ++ ex) [] σ (some (.int 0), σ)) := by
  have key : ∀ o, G ξ (d + 1) j_M_type (if B = 0 then 32 else 35) [(0, .ref 137), (1, .long w), (3, .int more), (4, .int s), (5, .int B)] [] σ o → G ξ (d + 1) j_M_type 11 ([(0, .ref 137), (1, .long w), (3, .int more), (4, .int s)] ++ ex) [] σ o := by
    intro o g
    rcases hex with rfl | ⟨u, rfl⟩
    · refine G.go 2 (fun n => (rfl : _ = exe ξ n (d + 1) j_M_type (if s < 0 then 58 else 16) [(0, .ref 137), (1, .long w), (3, .int more), (4, .int s)] [] σ)) ?_
      rw [if_neg hs]
      refine G.go 7 (fun n => (rfl : _ = exe ξ n (d + 1) j_M_type 27 [(0, .ref 137), (1, .long w), (3, .int more), (4, .int s), (5, .int ((w >>> (s.toInt64 &&& 63)).toInt32 &&& 255))] [] σ)) ?_
      rw [← hB]
      exact G.go 2 (fun n => rfl) g
    · refine G.go 2 (fun n => (rfl : _ = exe ξ n (d + 1) j_M_type (if s < 0 then 58 else 16) [(0, .ref 137), (1, .long w), (3, .int more), (4, .int s), (5, .int u)] [] σ)) ?_
      rw [if_neg hs]
      refine G.go 7 (fun n => (rfl : _ = exe ξ n (d + 1) j_M_type 27 [(0, .ref 137), (1, .long w), (3, .int more), (4, .int s), (5, .int ((w >>> (s.toInt64 &&& 63)).toInt32 &&& 255))] [] σ)) ?_
      rw [← hB]
      exact G.go 2 (fun n => rfl) g
  refine ⟨fun hok o g => key o ?_, fun hno => key _ ?_⟩
  · by_cases h0 : B = 0
    · rw [if_pos h0]
      have e : up1 B more = more := by unfold up1; rw [if_pos h0]; exact Int32.add_zero more
      rw [e] at g
      refine G.go 1 (fun n => (rfl : _ = exe ξ n (d + 1) j_M_type 52 [(0, .ref 137), (1, .long w), (3, .int more), (4, .int s), (5, .int B)] [] σ)) ?_
      refine G.sim (lv' := [(0, .ref 137), (1, .long w), (3, .int more), (4, .int (s + Int32.ofInt (-8))), (5, .int B)]) (st' := []) rfl rfl ?_
      exact G.go 1 (fun n => rfl) g
    · rw [if_neg h0]
      have e : up1 B more = more + Int32.ofInt 1 := by unfold up1; rw [if_neg h0]; rfl
      rw [e] at g
      refine G.go 3 (fun n => (rfl : _ = exe ξ n (d + 1) j_M_type 41 [(0, .ref 137), (1, .long w), (3, .int more), (4, .int s), (5, .int B)] [.int 126, .int 33, .int B] σ)) ?_
      refine G.call (k := j_M_in) (as := [.int B, .int 33, .int 126]) (r := []) (v := some (.int 1)) rfl rfl rfl rfl rfl rfl rfl rfl ((c_in d B σ).1 (hok.resolve_left h0)) ?_
      exact G.go 4 (fun n => rfl) g
  · have h0 : ¬ B = 0 := fun z => hno (Or.inl z)
    rw [if_neg h0]
    refine G.go 3 (fun n => (rfl : _ = exe ξ n (d + 1) j_M_type 41 [(0, .ref 137), (1, .long w), (3, .int more), (4, .int s), (5, .int B)] [.int 126, .int 33, .int B] σ)) ?_
    refine G.call (k := j_M_in) (as := [.int B, .int 33, .int 126]) (r := []) (v := some (.int 0)) rfl rfl rfl rfl rfl rfl rfl rfl ((c_in d B σ).2 (fun z => hno (Or.inr z))) ?_
    exact G.end 3 (fun n => rfl)
def allM (w : Int64) : Prop := okB (Bm w 56) ∧ okB (Bm w 48) ∧ okB (Bm w 40) ∧ okB (Bm w 32) ∧ okB (Bm w 24) ∧ okB (Bm w 16) ∧ okB (Bm w 8) ∧ okB (Bm w 0)
theorem tM_all (d : Nat) (w : Int64) (σ : qH) : (allM w → ∃ more u : Int32, 0 ≤ more.toInt ∧ more.toInt ≤ 8 ∧ ∀ o, G ξ (d + 1) j_M_type 58 [(0, .ref 137), (1, .long w), (3, .int more), (4, .int (-8)), (5, .int u)] [] σ o → G ξ (d + 1) j_M_type 11 [(0, .ref 137), (1, .long w), (3, .int 0), (4, .int 56)] [] σ o) ∧ (¬ allM w → G ξ (d + 1) j_M_type 11 [(0, .ref 137), (1, .long w), (3, .int 0), (4, .int 56)] [] σ (some (.int 0), σ)) := by
  have t0 := tM_turn (ξ := ξ) d w 56 0 [] σ (Bm w 56) rfl (by decide) (Or.inl rfl)
  have t1 := tM_turn (ξ := ξ) d w 48 (up1 (Bm w 56) 0) [(5, .int (Bm w 56))] σ (Bm w 48) rfl (by decide) (Or.inr ⟨_, rfl⟩)
  have t2 := tM_turn (ξ := ξ) d w 40 (up1 (Bm w 48) (up1 (Bm w 56) 0)) [(5, .int (Bm w 48))] σ (Bm w 40) rfl (by decide) (Or.inr ⟨_, rfl⟩)
  have t3 := tM_turn (ξ := ξ) d w 32 (up1 (Bm w 40) (up1 (Bm w 48) (up1 (Bm w 56) 0))) [(5, .int (Bm w 40))] σ (Bm w 32) rfl (by decide) (Or.inr ⟨_, rfl⟩)
  have t4 := tM_turn (ξ := ξ) d w 24 (up1 (Bm w 32) (up1 (Bm w 40) (up1 (Bm w 48) (up1 (Bm w 56) 0)))) [(5, .int (Bm w 32))] σ (Bm w 24) rfl (by decide) (Or.inr ⟨_, rfl⟩)
  have t5 := tM_turn (ξ := ξ) d w 16 (up1 (Bm w 24) (up1 (Bm w 32) (up1 (Bm w 40) (up1 (Bm w 48) (up1 (Bm w 56) 0))))) [(5, .int (Bm w 24))] σ (Bm w 16) rfl (by decide) (Or.inr ⟨_, rfl⟩)
  have t6 := tM_turn (ξ := ξ) d w 8 (up1 (Bm w 16) (up1 (Bm w 24) (up1 (Bm w 32) (up1 (Bm w 40) (up1 (Bm w 48) (up1 (Bm w 56) 0)))))) [(5, .int (Bm w 16))] σ (Bm w 8) rfl (by decide) (Or.inr ⟨_, rfl⟩)
  have t7 := tM_turn (ξ := ξ) d w 0 (up1 (Bm w 8) (up1 (Bm w 16) (up1 (Bm w 24) (up1 (Bm w 32) (up1 (Bm w 40) (up1 (Bm w 48) (up1 (Bm w 56) 0))))))) [(5, .int (Bm w 8))] σ (Bm w 0) rfl (by decide) (Or.inr ⟨_, rfl⟩)
  have u0 := up1_le (B := Bm w 56) (more := 0) (j := 0) (by decide) (by decide) (by decide)
  have u1 := up1_le (B := Bm w 48) (more := (up1 (Bm w 56) 0)) (j := 1) u0.1 u0.2 (by decide)
  have u2 := up1_le (B := Bm w 40) (more := (up1 (Bm w 48) (up1 (Bm w 56) 0))) (j := 2) u1.1 u1.2 (by decide)
  have u3 := up1_le (B := Bm w 32) (more := (up1 (Bm w 40) (up1 (Bm w 48) (up1 (Bm w 56) 0)))) (j := 3) u2.1 u2.2 (by decide)
  have u4 := up1_le (B := Bm w 24) (more := (up1 (Bm w 32) (up1 (Bm w 40) (up1 (Bm w 48) (up1 (Bm w 56) 0))))) (j := 4) u3.1 u3.2 (by decide)
  have u5 := up1_le (B := Bm w 16) (more := (up1 (Bm w 24) (up1 (Bm w 32) (up1 (Bm w 40) (up1 (Bm w 48) (up1 (Bm w 56) 0)))))) (j := 5) u4.1 u4.2 (by decide)
  have u6 := up1_le (B := Bm w 8) (more := (up1 (Bm w 16) (up1 (Bm w 24) (up1 (Bm w 32) (up1 (Bm w 40) (up1 (Bm w 48) (up1 (Bm w 56) 0))))))) (j := 6) u5.1 u5.2 (by decide)
  have u7 := up1_le (B := Bm w 0) (more := (up1 (Bm w 8) (up1 (Bm w 16) (up1 (Bm w 24) (up1 (Bm w 32) (up1 (Bm w 40) (up1 (Bm w 48) (up1 (Bm w 56) 0)))))))) (j := 7) u6.1 u6.2 (by decide)
  refine ⟨fun h => ?_, fun h => ?_⟩
  · obtain ⟨h0, h1, h2, h3, h4, h5, h6, h7⟩ := h
    refine ⟨(up1 (Bm w 0) (up1 (Bm w 8) (up1 (Bm w 16) (up1 (Bm w 24) (up1 (Bm w 32) (up1 (Bm w 40) (up1 (Bm w 48) (up1 (Bm w 56) 0)))))))), Bm w 0, u7.1, u7.2, fun o g => ?_⟩
    exact (t0.1 h0 _ (t1.1 h1 _ (t2.1 h2 _ (t3.1 h3 _ (t4.1 h4 _ (t5.1 h5 _ (t6.1 h6 _ (t7.1 h7 _ (G.go 2 (fun n => rfl) g)))))))))
  · by_cases h0 : okB (Bm w 56)
    · by_cases h1 : okB (Bm w 48)
      · by_cases h2 : okB (Bm w 40)
        · by_cases h3 : okB (Bm w 32)
          · by_cases h4 : okB (Bm w 24)
            · by_cases h5 : okB (Bm w 16)
              · by_cases h6 : okB (Bm w 8)
                · by_cases h7 : okB (Bm w 0)
                  · exact absurd ⟨h0, h1, h2, h3, h4, h5, h6, h7⟩ h
                  · exact (t0.1 h0 _ (t1.1 h1 _ (t2.1 h2 _ (t3.1 h3 _ (t4.1 h4 _ (t5.1 h5 _ (t6.1 h6 _ (t7.2 h7))))))))
                · exact (t0.1 h0 _ (t1.1 h1 _ (t2.1 h2 _ (t3.1 h3 _ (t4.1 h4 _ (t5.1 h5 _ (t6.2 h6)))))))
              · exact (t0.1 h0 _ (t1.1 h1 _ (t2.1 h2 _ (t3.1 h3 _ (t4.1 h4 _ (t5.2 h5))))))
            · exact (t0.1 h0 _ (t1.1 h1 _ (t2.1 h2 _ (t3.1 h3 _ (t4.2 h4)))))
          · exact (t0.1 h0 _ (t1.1 h1 _ (t2.1 h2 _ (t3.2 h3))))
        · exact (t0.1 h0 _ (t1.1 h1 _ (t2.2 h2)))
      · exact (t0.1 h0 _ (t1.2 h1))
    · exact (t0.2 h0)
theorem tN_add (d : Nat) (w : Int64) (s more u B : Int32) (hB9 : B = ((w.toUInt64 >>> (s.toInt64.toUInt64 &&& Int64.toUInt64 63)).toInt64.toInt32 &&& 255)) (σ0 σ : qH) (len : Nat) (hF : freshN σ0) (hB : freshB σ0) (hσ : qnE ≤ σ0.length) (hI : rowI 51 40 σ0 σ len) (hl : len < 40) (hs : ¬ s < 0) : ∃ (σ' : qH) (len' : Nat), len' ≤ len + 1 ∧ rowI 51 40 σ0 σ' len' ∧ ∀ o, G ξ (d + 1) j_N_type 76 [(0, .ref 16), (1, .long w), (3, .int more), (4, .int (s + Int32.ofInt (-8))), (5, .int B)] [] σ' o → G ξ (d + 1) j_N_type 76 [(0, .ref 16), (1, .long w), (3, .int more), (4, .int s), (5, .int u)] [] σ o := by
  obtain ⟨hN, hT, hV, hK, hA, hR⟩ := hF
  have q1 := hI.2.1 16 _ (by decide) hN
  have q3 : ∃ fs, σ[51]? = some (.inl (5, fs)) := by
    rcases hI.2.2 with ⟨-, rfl⟩ | ⟨b, li, -, -, k3, -⟩
    · exact ⟨_, hT⟩
    · exact ⟨_, k3⟩
  obtain ⟨fs, q3⟩ := q3
  have key : ∀ o, G ξ (d + 1) j_N_type (if B = 0 then 107 else 97) [(0, .ref 16), (1, .long w), (3, .int more), (4, .int s), (5, .int B)] [] σ o → G ξ (d + 1) j_N_type 76 [(0, .ref 16), (1, .long w), (3, .int more), (4, .int s), (5, .int u)] [] σ o := by
    intro o g
    refine G.go 2 (fun n => (rfl : _ = exe ξ n (d + 1) j_N_type (if s < 0 then 113 else 81) [(0, .ref 16), (1, .long w), (3, .int more), (4, .int s), (5, .int u)] [] σ)) ?_
    rw [if_neg hs]
    refine G.go 7 (fun n => (rfl : _ = exe ξ n (d + 1) j_N_type 92 [(0, .ref 16), (1, .long w), (3, .int more), (4, .int s), (5, .int ((w.toUInt64 >>> (s.toInt64.toUInt64 &&& Int64.toUInt64 63)).toInt64.toInt32 &&& 255))] [] σ)) ?_
    rw [← hB9]
    exact G.go 2 (fun n => rfl) g
  by_cases h0 : B = 0
  · refine ⟨σ, len, Nat.le_succ _, hI, fun o g => key o ?_⟩
    rw [if_pos h0]
    refine G.sim (lv' := [(0, .ref 16), (1, .long w), (3, .int more), (4, .int (s + Int32.ofInt (-8))), (5, .int B)]) (st' := []) rfl rfl ?_
    exact G.go 1 (fun n => rfl) g
  · obtain ⟨σ', r1, r2⟩ := rowI.add (ξ := ξ) d (B) hT hB.1 hσ rfl (by decide) (by decide) hI hl
    refine ⟨σ', len + 1, Nat.le_refl _, r1, fun o g => key o ?_⟩
    rw [if_neg h0]
    refine G.go 1 (fun n => (rfl : _ = exe ξ n (d + 1) j_N_type 98 [(0, .ref 16), (1, .long w), (3, .int more), (4, .int s), (5, .int B)] [.ref 16] σ)) ?_
    refine G.get rfl rfl rfl q1 rfl ?_
    refine G.go 1 (fun n => (rfl : _ = exe ξ n (d + 1) j_N_type 103 [(0, .ref 16), (1, .long w), (3, .int more), (4, .int s), (5, .int B)] [.int (B), .ref 51] σ)) ?_
    refine G.call (k := j_R_add) (as := [.ref 51, .int (B)]) (r := []) (v := some (.int 1)) rfl rfl rfl rfl rfl rfl rfl ?_ r2 ?_
    · show (bif qrc _ 51 j_R_add && _ then _ else _) = _
      rw [qrc_at rfl q3 rfl]
      rfl
    exact G.go 3 (fun n => rfl) g
theorem pN_type (d : Nat) (w : Int64) (σ : qH) (hF : freshN σ) (hB : freshB σ) (hσ : qnE ≤ σ.length) : (allN w → ∃ σ1 : qH, (keepM σ σ1 ∧ sz 1 8010 σ σ1) ∧ G ξ (d + 1) j_N_type 0 (lv_args 0 [.ref 16, .long w]) [] σ (some (.int 1), σ1)) ∧ (¬ allN w → ∃ σ1 : qH, (keepM σ σ1 ∧ sz 1 8010 σ σ1) ∧ G ξ (d + 1) j_N_type 0 (lv_args 0 [.ref 16, .long w]) [] σ (some (.int 0), σ1)) := by
  obtain ⟨t1, t2⟩ := tN_all (ξ := ξ) d w σ
  have start : ∀ o, G ξ (d + 1) j_N_type 6 [(0, .ref 16), (1, .long w), (3, .int 0), (4, .int 56)] [] σ o → G ξ (d + 1) j_N_type 0 (lv_args 0 [.ref 16, .long w]) [] σ o := fun o g => G.go 4 (fun n => rfl) g
  refine ⟨fun h => ?_, fun h => ⟨σ, ⟨fun k c _ h => h, sz.mono (sz.refl σ) (by decide) (by decide)⟩, start _ (t2 h)⟩⟩
  obtain ⟨more, u, m0, m8, g1⟩ := t1 h
  obtain ⟨σ2, n2, z2, i2, g2⟩ := tN_add (ξ := ξ) d w 56 more u (Bu w 56) rfl σ σ 0 hF hB hσ (rowI.start _ _ _) (by omega) (by decide)
  obtain ⟨σ3, n3, z3, i3, g3⟩ := tN_add (ξ := ξ) d w 48 more (Bu w 56) (Bu w 48) rfl σ σ2 n2 hF hB hσ i2 (by omega) (by decide)
  obtain ⟨σ4, n4, z4, i4, g4⟩ := tN_add (ξ := ξ) d w 40 more (Bu w 48) (Bu w 40) rfl σ σ3 n3 hF hB hσ i3 (by omega) (by decide)
  obtain ⟨σ5, n5, z5, i5, g5⟩ := tN_add (ξ := ξ) d w 32 more (Bu w 40) (Bu w 32) rfl σ σ4 n4 hF hB hσ i4 (by omega) (by decide)
  obtain ⟨σ6, n6, z6, i6, g6⟩ := tN_add (ξ := ξ) d w 24 more (Bu w 32) (Bu w 24) rfl σ σ5 n5 hF hB hσ i5 (by omega) (by decide)
  obtain ⟨σ7, n7, z7, i7, g7⟩ := tN_add (ξ := ξ) d w 16 more (Bu w 24) (Bu w 16) rfl σ σ6 n6 hF hB hσ i6 (by omega) (by decide)
  obtain ⟨σ8, n8, z8, i8, g8⟩ := tN_add (ξ := ξ) d w 8 more (Bu w 16) (Bu w 8) rfl σ σ7 n7 hF hB hσ i7 (by omega) (by decide)
  obtain ⟨σ9, n9, z9, i9, g9⟩ := tN_add (ξ := ξ) d w 0 more (Bu w 8) (Bu w 0) rfl σ σ8 n8 hF hB hσ i8 (by omega) (by decide)
  obtain ⟨hN, hT, hV, hK, hA, hR⟩ := hF
  refine ⟨σ9, ⟨fun k c hk h => i9.2.1 k c (by omega) h, sz.mono i9.1.2 (by decide) (by decide)⟩, start _ (g1 _ ?_)⟩
  refine G.go 3 (fun n => (rfl : _ = exe ξ n (d + 1) j_N_type 60 [(0, .ref 16), (1, .long w), (3, .int more), (4, .int (-8)), (5, .int u)] [.ref 16, .int 40, .int more] σ)) ?_
  refine G.get rfl rfl rfl hN rfl ?_
  refine G.get rfl rfl rfl hT rfl ?_
  refine G.go 2 (fun n => (rfl : _ = exe ξ n (d + 1) j_N_type (if more ≤ 40 - 0 then 72 else 70) [(0, .ref 16), (1, .long w), (3, .int more), (4, .int (-8)), (5, .int u)] [] σ)) ?_
  rw [if_pos (by rw [Int32.le_iff_toInt_le]; show more.toInt ≤ 40; omega)]
  refine G.go 2 (fun n => (rfl : _ = exe ξ n (d + 1) j_N_type 76 [(0, .ref 16), (1, .long w), (3, .int more), (4, .int 56), (5, .int u)] [] σ)) ?_
  exact (g2 _ (g3 _ (g4 _ (g5 _ (g6 _ (g7 _ (g8 _ (g9 _ (G.end 4 (fun n => rfl))))))))))
def nameI (σ0 σ : qH) (k : Nat) : Prop := σ[137]? = some (.inl (7, [.int 0, .ref 138, .ref 139, .int 0, .int 0, .ref 140, .int 0, .int (-1), .int (Int32.ofNat k), .ref 141, .int 0, .int 0, .ref 142, .ref 143, .int 0, .int 0, .int 0, .int 0, .int 0, .int 0, .int 0, .ref 144, .int 0, .ref 145, .int 0, .int 0])) ∧ (∃ li : List Int32, li.length = 40 ∧ σ[141]? = some (.inr (.inl (0, li)))) ∧ (∀ c, σ0[146]? = some c → σ[146]? = some c) ∧ sz 0 0 σ0 σ
theorem tM_add (d : Nat) (w : Int64) (s more u B : Int32) (hB9 : B = ((w >>> (s.toInt64 &&& 63)).toInt32 &&& 255)) (σ0 σ : qH) (k : Nat) (hI : nameI σ0 σ k) (hl : k < 40) (hs : ¬ s < 0) : ∃ (σ' : qH) (k' : Nat), k' ≤ k + 1 ∧ nameI σ0 σ' k' ∧ ∀ o, G ξ (d + 1) j_M_type 75 [(0, .ref 137), (1, .long w), (3, .int more), (4, .int (s + Int32.ofInt (-8))), (5, .int B)] [] σ' o → G ξ (d + 1) j_M_type 75 [(0, .ref 137), (1, .long w), (3, .int more), (4, .int s), (5, .int u)] [] σ o := by
  obtain ⟨h0, ⟨li, hli, h4⟩, ho, hz0⟩ := hI
  have key : ∀ o, G ξ (d + 1) j_M_type (if B = 0 then 96 else 99) [(0, .ref 137), (1, .long w), (3, .int more), (4, .int s), (5, .int B)] [] σ o → G ξ (d + 1) j_M_type 75 [(0, .ref 137), (1, .long w), (3, .int more), (4, .int s), (5, .int u)] [] σ o := by
    intro o g
    refine G.go 2 (fun n => (rfl : _ = exe ξ n (d + 1) j_M_type (if s < 0 then 126 else 80) [(0, .ref 137), (1, .long w), (3, .int more), (4, .int s), (5, .int u)] [] σ)) ?_
    rw [if_neg hs]
    refine G.go 7 (fun n => (rfl : _ = exe ξ n (d + 1) j_M_type 91 [(0, .ref 137), (1, .long w), (3, .int more), (4, .int s), (5, .int ((w >>> (s.toInt64 &&& 63)).toInt32 &&& 255))] [] σ)) ?_
    rw [← hB9]
    exact G.go 2 (fun n => rfl) g
  by_cases hz : B = 0
  · refine ⟨σ, k, Nat.le_succ _, ⟨h0, ⟨li, hli, h4⟩, ho, hz0⟩, fun o g => key o ?_⟩
    rw [if_pos hz]
    refine G.go 1 (fun n => (rfl : _ = exe ξ n (d + 1) j_M_type 120 [(0, .ref 137), (1, .long w), (3, .int more), (4, .int s), (5, .int B)] [] σ)) ?_
    refine G.sim (lv' := [(0, .ref 137), (1, .long w), (3, .int more), (4, .int (s + Int32.ofInt (-8))), (5, .int B)]) (st' := []) rfl rfl ?_
    exact G.go 1 (fun n => rfl) g
  · refine ⟨(σ.set 141 (.inr (.inl (0, li.set k (B))))).set 137 (.inl (7, [.int 0, .ref 138, .ref 139, .int 0, .int 0, .ref 140, .int 0, .int (-1), .int (Int32.ofNat (k + 1)), .ref 141, .int 0, .int 0, .ref 142, .ref 143, .int 0, .int 0, .int 0, .int 0, .int 0, .int 0, .int 0, .ref 144, .int 0, .ref 145, .int 0, .int 0])), k + 1, Nat.le_refl _, ⟨qs_at (qs_ne (by decide) h0), ⟨li.set k (B), by rw [List.length_set]; exact hli, qs_ne (by decide) (qs_at h4)⟩, fun c h => qs_ne (by decide) (qs_ne (by decide) (ho c h)), sz.set (sz.set hz0 h4 (by simp [qcs])) (qs_ne (by decide) h0) rfl⟩, fun o g => key o ?_⟩
    rw [if_neg hz]
    refine G.go 1 (fun n => (rfl : _ = exe ξ n (d + 1) j_M_type 100 [(0, .ref 137), (1, .long w), (3, .int more), (4, .int s), (5, .int B)] [.ref 137] σ)) ?_
    refine G.get rfl rfl rfl h0 rfl ?_
    refine G.go 1 (fun n => (rfl : _ = exe ξ n (d + 1) j_M_type 104 [(0, .ref 137), (1, .long w), (3, .int more), (4, .int s), (5, .int B)] [.ref 137, .ref 141] σ)) ?_
    refine G.get rfl rfl rfl h0 rfl ?_
    refine G.go 1 (fun n => (rfl : _ = exe ξ n (d + 1) j_M_type 109 [(0, .ref 137), (1, .long w), (3, .int more), (4, .int s), (5, .int B)] [.int (B), .int (Int32.ofNat k), .ref 141] σ)) ?_
    refine G.iast rfl h4 (qix_n (by omega) (by omega)) ?_
    rw [n32c (by omega)]
    refine G.go 2 (fun n => (rfl : _ = exe ξ n (d + 1) j_M_type 112 [(0, .ref 137), (1, .long w), (3, .int more), (4, .int s), (5, .int B)] [.ref 137, .ref 137] (σ.set 141 (.inr (.inl (0, li.set k (B))))))) ?_
    refine G.get rfl rfl rfl (qs_ne (by decide) h0) rfl ?_
    refine G.go 2 (fun n => (rfl : _ = exe ξ n (d + 1) j_M_type 117 [(0, .ref 137), (1, .long w), (3, .int more), (4, .int s), (5, .int B)] [.int (Int32.ofNat k + 1), .ref 137] (σ.set 141 (.inr (.inl (0, li.set k (B))))))) ?_
    rw [show Int32.ofNat k + 1 = Int32.ofNat (k + 1) from n32i k]
    refine G.put rfl rfl (qs_ne (by decide) h0) rfl rfl rfl ?_
    refine G.sim (lv' := [(0, .ref 137), (1, .long w), (3, .int more), (4, .int (s + Int32.ofInt (-8))), (5, .int B)]) (st' := []) rfl rfl ?_
    exact G.go 1 (fun n => rfl) g
theorem pM_type (d : Nat) (w : Int64) (σ : qH) (hF : freshM σ) (h4 : σ[141]? = some (.inr (.inl (0, List.replicate 40 0)))) : (allM w → ∃ (σ2 : qH) (fs : List Value), σ2[137]? = some (.inl (7, .int 0 :: fs)) ∧ ((∀ c, σ[146]? = some c → σ2[146]? = some c) ∧ sz 0 0 σ σ2) ∧ G ξ (d + 1) j_M_type 0 (lv_args 0 [.ref 137, .long w]) [] σ (some (.int 1), σ2)) ∧ (¬ allM w → ∃ (σ2 : qH) (fs : List Value), σ2[137]? = some (.inl (7, .int 0 :: fs)) ∧ ((∀ c, σ[146]? = some c → σ2[146]? = some c) ∧ sz 0 0 σ σ2) ∧ G ξ (d + 1) j_M_type 0 (lv_args 0 [.ref 137, .long w]) [] σ (some (.int 0), σ2)) := by
  obtain ⟨h0, h2⟩ := hF
  obtain ⟨σs, hσs⟩ : ∃ σs, σs = σ.set 137 (.inl (7, [.int 0, .ref 138, .ref 139, .int 0, .int 0, .ref 140, .int 0, .int (-1), .int 0, .ref 141, .int 0, .int 0, .ref 142, .ref 143, .int 0, .int 0, .int 0, .int 0, .int 0, .int 0, .int 0, .ref 144, .int 0, .ref 145, .int 0, .int 0])) := ⟨_, rfl⟩
  have i1 : nameI σ σs 0 := by
    rw [hσs]
    exact ⟨qs_at h0, ⟨_, List.length_replicate, qs_ne (by decide) h4⟩, fun c h => qs_ne (by decide) h, sz.set (sz.refl σ) h0 rfl⟩
  obtain ⟨t1, t2⟩ := tM_all (ξ := ξ) d w σs
  have start : ∀ o, G ξ (d + 1) j_M_type 11 [(0, .ref 137), (1, .long w), (3, .int 0), (4, .int 56)] [] σs o → G ξ (d + 1) j_M_type 0 (lv_args 0 [.ref 137, .long w]) [] σ o := by
    intro o g
    refine G.go 2 (fun n => (rfl : _ = exe ξ n (d + 1) j_M_type 2 [(0, .ref 137), (1, .long w)] [.int 0, .ref 137] σ)) ?_
    refine G.put rfl rfl h0 rfl rfl rfl ?_
    rw [hσs] at g
    exact G.go 4 (fun n => rfl) g
  refine ⟨fun h => ?_, fun h => ⟨σs, _, i1.1, i1.2.2, start _ (t2 h)⟩⟩
  obtain ⟨more, u, m0, m8, g1⟩ := t1 h
  obtain ⟨σ2, n2, z2, i2, g2⟩ := tM_add (ξ := ξ) d w 56 more u (Bm w 56) rfl σ σs 0 i1 (by omega) (by decide)
  obtain ⟨σ3, n3, z3, i3, g3⟩ := tM_add (ξ := ξ) d w 48 more (Bm w 56) (Bm w 48) rfl σ σ2 n2 i2 (by omega) (by decide)
  obtain ⟨σ4, n4, z4, i4, g4⟩ := tM_add (ξ := ξ) d w 40 more (Bm w 48) (Bm w 40) rfl σ σ3 n3 i3 (by omega) (by decide)
  obtain ⟨σ5, n5, z5, i5, g5⟩ := tM_add (ξ := ξ) d w 32 more (Bm w 40) (Bm w 32) rfl σ σ4 n4 i4 (by omega) (by decide)
  obtain ⟨σ6, n6, z6, i6, g6⟩ := tM_add (ξ := ξ) d w 24 more (Bm w 32) (Bm w 24) rfl σ σ5 n5 i5 (by omega) (by decide)
  obtain ⟨σ7, n7, z7, i7, g7⟩ := tM_add (ξ := ξ) d w 16 more (Bm w 24) (Bm w 16) rfl σ σ6 n6 i6 (by omega) (by decide)
  obtain ⟨σ8, n8, z8, i8, g8⟩ := tM_add (ξ := ξ) d w 8 more (Bm w 16) (Bm w 8) rfl σ σ7 n7 i7 (by omega) (by decide)
  obtain ⟨σ9, n9, z9, i9, g9⟩ := tM_add (ξ := ξ) d w 0 more (Bm w 8) (Bm w 0) rfl σ σ8 n8 i8 (by omega) (by decide)
  refine ⟨σ9, _, i9.1, i9.2.2, start _ (g1 _ ?_)⟩
  refine G.go 1 (fun n => (rfl : _ = exe ξ n (d + 1) j_M_type 59 [(0, .ref 137), (1, .long w), (3, .int more), (4, .int (-8)), (5, .int u)] [.ref 137] σs)) ?_
  refine G.get rfl rfl rfl i1.1 rfl ?_
  refine G.go 4 (fun n => (rfl : _ = exe ξ n (d + 1) j_M_type (if Int32.ofNat 0 + more ≤ 40 then 71 else 69) [(0, .ref 137), (1, .long w), (3, .int more), (4, .int (-8)), (5, .int u)] [] σs)) ?_
  rw [if_pos (by rw [Int32.le_iff_toInt_le, Jvm.Kit.i32_add (by show -2 ^ 31 ≤ (0 : Int) + _; omega) (by show (0 : Int) + _ < _; omega)]; show (0 : Int) + more.toInt ≤ 40; omega)]
  refine G.go 2 (fun n => (rfl : _ = exe ξ n (d + 1) j_M_type 75 [(0, .ref 137), (1, .long w), (3, .int more), (4, .int 56), (5, .int u)] [] σs)) ?_
  exact (g2 _ (g3 _ (g4 _ (g5 _ (g6 _ (g7 _ (g8 _ (g9 _ (G.end 4 (fun n => rfl))))))))))
end
