/-! Rows that stay as they were. -/
/-- rows whose bytes, lengths stay: all but those of S -/
def RG (S : List Int) (A B : List Int64) : Prop := ∀ q : Int, 0 ≤ q → q ∉ S → gc B q = gc A q
def LG (S : List Int) (A B : List Int32) : Prop := ∀ q : Int, 0 ≤ q → q ∉ S → gl B q = gl A q
theorem RG.refl {S : List Int} {A : List Int64} : RG S A A := fun _ _ _ => rfl
theorem LG.refl {S : List Int} {A : List Int32} : LG S A A := fun _ _ _ => rfl
theorem RG.trans {S S' : List Int} {A B C : List Int64} (h : RG S A B) (g : RG S' B C) (hs : ∀ q ∈ S', q ∈ S) : RG S A C := fun q a b => (g q a (fun z => b (hs q z))).trans (h q a b)
theorem LG.trans {S S' : List Int} {A B C : List Int32} (h : LG S A B) (g : LG S' B C) (hs : ∀ q ∈ S', q ∈ S) : LG S A C := fun q a b => (g q a (fun z => b (hs q z))).trans (h q a b)
theorem LG.set {S : List Int} {A : List Int32} {x : Int} {v : Int32} (hx : x ∈ S) (h0 : 0 ≤ x) : LG S A (A.set x.toNat v) := by
  intro q hq hn
  have : q ≠ x := fun e => hn (by rw [e]; exact hx)
  unfold gl
  rw [List.getD_eq_getElem?_getD, List.getElem?_set_ne (by omega), ← List.getD_eq_getElem?_getD]
theorem gc_eq {A B : List Int64} {p q : Int} (h : ∀ j : Int, 0 ≤ j → j < 1000 → B.getD (1000 * q + j).toNat 0 = A.getD (1000 * p + j).toNat 0) : gc B q = gc A p := by
  funext k
  unfold gc
  split
  · rename_i hk
    unfold mby
    rw [h (k / 8) (by omega) (by omega)]
  · rfl
/-- the long words of all rows but one -/
def AG (r : Int) (A B : List Int64) : Prop := ∀ i : Nat, ((i : Int) < 1000 * r ∨ 1000 * r + 1000 ≤ (i : Int)) → B.getD i 0 = A.getD i 0
theorem AG.refl {r : Int} {A : List Int64} : AG r A A := fun _ _ => rfl
theorem AG.set {r x : Int} {A B : List Int64} {v : Int64} (h : AG r A B) (h0 : 0 ≤ r) (hx : 1000 * r ≤ x ∧ x < 1000 * r + 1000) : AG r A (B.set x.toNat v) := by
  intro i hi
  rw [List.getD_eq_getElem?_getD, List.getElem?_set_ne (by omega), ← List.getD_eq_getElem?_getD]
  exact h i hi
theorem AG.rg {r : Int} {A B : List Int64} (h : AG r A B) : RG [r] A B := fun q h0 hq => gc_eq (fun j a b => h _ (by
  have : q ≠ r := fun e => hq (by rw [e]; exact List.mem_cons_self)
  omega))
/-- the first words of row x stand in row y -/
def CP (x y k : Int) (A B : List Int64) : Prop := AG y A B ∧ ∀ j : Int, 0 ≤ j → j < k → B.getD (1000 * y + j).toNat 0 = A.getD (1000 * x + j).toNat 0
theorem CP.zero {x y : Int} {A : List Int64} : CP x y 0 A A := ⟨AG.refl, fun j a b => absurd b (by omega)⟩
theorem CP.step {x y k z : Int} {A B : List Int64} (h : CP x y k A B) (hx : 0 ≤ x) (hy : 0 ≤ y) (hn : x ≠ y) (hk : 0 ≤ k ∧ k < 1000) (hl : 1000 * y + k < B.length) (e : B.getD (1000 * x + k).toNat 0 = Int64.ofInt z) : CP x y (k + 1) A (B.set (1000 * y + k).toNat (Int64.ofInt z)) := by
  refine ⟨h.1.set hy (by omega), fun j a b => ?_⟩
  rw [List.getD_eq_getElem?_getD]
  by_cases q : j = k
  · subst q
    rw [List.getElem?_set_self (by omega), Option.getD_some, ← e]
    exact h.1 _ (by omega)
  · rw [List.getElem?_set_ne (by omega), ← List.getD_eq_getElem?_getD]
    exact h.2 j a (by omega)
theorem CP.gc {x y k : Int} {A B : List Int64} (h : CP x y k A B) (hk : 1000 ≤ k) : gc B y = gc A x := gc_eq (fun j a b => h.2 j a (by omega))
/-- headers and data of the first n entries -/
def HD (g : Int → Int) (lh ld : List Int32) (n : Int) : Prop := ∀ j : Int, 0 ≤ j → j < n → gl lh j ≤ 7932 ∧ gl lh j + 46 + W2 g (gl lh j + 28) ≤ 8000 ∧ 0 ≤ gl ld j ∧ gl ld j + W4 g (gl lh j + 20) ≤ 8000
/-- the outer archive is one, and the mounts are entries of it -/
def OKM (Lc : List Int64) (la lm : List Int32) (io mo : Int) : Prop := (io = 1 ∨ 1 ≤ mo) → FOn (gc Lc 1) (gl la 1) = 1 ∧ ∀ j : Int, 0 ≤ j → j < mo → gl lm j < W2 (gc Lc 1) (EN (gc Lc 1) (gl la 1) + 8)
theorem OKM.keep {S : List Int} {A B : List Int64} {a b lm : List Int32} {io mo : Int} (h : OKM A a lm io mo) (r : RG S A B) (l : LG S a b) (hs : (1 : Int) ∉ S) : OKM B b lm io mo := by
  unfold OKM at h ⊢
  rw [r 1 (by decide) hs, l 1 (by decide) hs]
  exact h
/-- how many of the lowest bytes of a word aren't 0 -/
def CW (x : Int) : Nat → Int
  | 0 => 0
  | m + 1 => CW x m + (if x / P2 (8 * (m : Int)) % 256 = 0 then 0 else 1)
theorem CW_r (x : Int) (m : Nat) : 0 ≤ CW x m ∧ CW x m ≤ m := by
  induction m with
  | zero => exact ⟨Int.le_refl _, Int.le_refl _⟩
  | succ m ih =>
    show 0 ≤ CW x m + (if _ then (0 : Int) else 1) ∧ CW x m + (if _ then (0 : Int) else 1) ≤ _
    split <;> omega
theorem CW_step {x k : Int} (h : 0 ≤ k) (h8 : k % 8 = 0) : CW x ((k + 8) / 8).toNat = CW x (k / 8).toNat + (if x / P2 k % 256 = 0 then 0 else 1) := by
  rw [show ((k + 8) / 8).toNat = (k / 8).toNat + 1 by omega]
  show CW x (k / 8).toNat + (if x / P2 (8 * ((k / 8).toNat : Int)) % 256 = 0 then 0 else 1) = _
  rw [show 8 * ((k / 8).toNat : Int) = k by omega]
theorem T.lshrp {ξ : Nat → Option (Nat × List Int32)} {d j pc : Nat} {lv : qLV} {r : List Value} {σ : qH} {Q : Option Value → qH → Prop} {a s : Int} (hf : qfe j pc = some (.lshr, 1)) (ha : -9223372036854775808 ≤ a ∧ a ≤ 9223372036854775807) (hs : 0 ≤ s ∧ s ≤ 56) (g : T ξ d j (pc + 1) lv (JL (a / P2 s) :: r) σ Q) : T ξ d j pc lv (J s :: JL a :: r) σ Q :=
  T.sim hf (show some (lv, Value.long (Int64.ofInt a >>> ((Int32.ofInt s).toInt64 &&& 63)) :: r) = _ by
    have h4 : ∀ m : Fin 57, (((Int32.ofInt (m.val : Int)).toInt64 &&& 63).toBitVec.smod 64).toNat = m.val := by decide
    have h5 := h4 ⟨s.toNat, by omega⟩
    simp only [Int.toNat_of_nonneg hs.1] at h5
    rw [i64_is (x := Int64.ofInt a >>> ((Int32.ofInt s).toInt64 &&& 63)) (z := a / P2 s)]
    rw [Jvm.Kit.i64_shr _ _ h5, i64_to ha]
    rfl) g
