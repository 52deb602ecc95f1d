/-! The manifest: what attribute answers, in common words. -/
/-- the same bytes, where there are any -/
def EQF (u u' : Int → Int) (f : Int) : Prop := ∀ k : Int, 0 ≤ k → k < f → u k = u' k
theorem EQF.symm {u u' : Int → Int} {f : Int} (h : EQF u u' f) : EQF u' u f := fun k a b => (h k a b).symm
theorem LSn_c {u u' : Int → Int} {f : Int} (h : EQF u u' f) : ∀ (n : Nat) (a : Int), 0 ≤ a → LSn u f n a = LSn u' f n a
  | 0, _, _ => rfl
  | n + 1, a, h0 => by
    show (if a < f ∧ u a ≠ 10 then LSn u f n (a + 1) else a) = if a < f ∧ u' a ≠ 10 then LSn u' f n (a + 1) else a
    by_cases c : a < f
    · rw [h a h0 c, LSn_c h n (a + 1) (by omega)]
    · rw [if_neg (fun q => c q.1), if_neg (fun q => c q.1)]
theorem LSt_c {u u' : Int → Int} {f a : Int} (h : EQF u u' f) (h0 : 0 ≤ a) : LSt u f a = LSt u' f a := LSn_c h _ a h0
theorem LEe_c {u u' : Int → Int} {f a : Int} (h : EQF u u' f) (h0 : 0 ≤ a) : LEe u f a = LEe u' f a := by
  have l := (LSt_r u' f a).1
  unfold LEe
  rw [LSt_c h h0]
  by_cases c : LSt u' f a < f
  · by_cases d : a < LSt u' f a
    · rw [h (LSt u' f a - 1) (by omega) (by omega)]
    · rw [if_neg (fun q => d q.2.1), if_neg (fun q => d q.2.1)]
  · rw [if_neg (fun q => c q.1), if_neg (fun q => c q.1)]
theorem SB_c {u u' : Int → Int} {f : Int} (h : EQF u u' f) : ∀ (n : Nat) (p : Int), 0 ≤ p → p + n ≤ f → SB u n p = SB u' n p
  | 0, _, _, _ => rfl
  | n + 1, p, h0, h1 => by
    show u p :: SB u n (p + 1) = u' p :: SB u' n (p + 1)
    rw [h p h0 (by omega), SB_c h n (p + 1) (by omega) (by omega)]
theorem SEG_c {u u' : Int → Int} {f e : Int} (h : EQF u u' f) (he : e ≤ f) : ∀ (n : Nat) (a : Int), 0 ≤ a → SEG u f e n a = SEG u' f e n a
  | 0, _, _ => rfl
  | n + 1, a, h0 => by
    show (if a < e ∧ u a = 32 then SB u (LEe u f a - a - 1).toNat (a + 1) ++ SEG u f e n (LSt u f a + 1) else []) = if a < e ∧ u' a = 32 then SB u' (LEe u' f a - a - 1).toNat (a + 1) ++ SEG u' f e n (LSt u' f a + 1) else []
    have l := LSt_r u' f a
    have l2 := LE_r u' f a
    by_cases c : a < e
    · rw [h a h0 (by omega), LEe_c h h0, LSt_c h h0, SEG_c h he n (LSt u' f a + 1) (by omega), SB_c h (LEe u' f a - a - 1).toNat (a + 1) (by omega) (by have := l.2 (by omega); omega)]
    · rw [if_neg (fun q => c q.1), if_neg (fun q => c q.1)]
theorem NXC_c {u u' : Int → Int} {f e : Int} (h : EQF u u' f) (he : e ≤ f) : ∀ (n : Nat) (a : Int), 0 ≤ a → NXC u f e n a = NXC u' f e n a
  | 0, _, _ => rfl
  | n + 1, a, h0 => by
    show (if a < e ∧ u a = 32 then NXC u f e n (LSt u f a + 1) else a) = if a < e ∧ u' a = 32 then NXC u' f e n (LSt u' f a + 1) else a
    have l := LSt_r u' f a
    by_cases c : a < e
    · rw [h a h0 (by omega), LSt_c h h0, NXC_c h he n (LSt u' f a + 1) (by omega)]
    · rw [if_neg (fun q => c q.1), if_neg (fun q => c q.1)]
theorem LIN_c {u u' : Int → Int} {f e b : Int} (h : EQF u u' f) (he : e ≤ f) (h0 : 0 ≤ b) : LIN u f e b = LIN u' f e b := by
  have l := LSt_r u' f b
  have l2 := LE_r u' f b
  have hs : SGM u f e (LSt u' f b + 1) = SGM u' f e (LSt u' f b + 1) := SEG_c h he _ _ (by omega)
  unfold LIN
  rw [LEe_c h h0, LSt_c h h0, hs]
  by_cases c : b ≤ f
  · rw [SB_c h (LEe u' f b - b).toNat b h0 (by have := l.2 c; omega)]
  · have e1 := LSt_stop (u := u') (f := f) (a := b) (fun q => by omega)
    rw [show (LEe u' f b - b).toNat = 0 by omega]
    rfl
theorem BHD_c {u u' : Int → Int} {f e b : Int} (h : EQF u u' f) (he : e ≤ f) (h0 : 0 ≤ b) : BHD u f e b = BHD u' f e b := by
  have l := LSt_r u' f b
  have hs : NXT u f e (LSt u' f b + 1) = NXT u' f e (LSt u' f b + 1) := NXC_c h he _ _ (by omega)
  unfold BHD
  rw [LSt_c h h0, hs]
theorem BRl_c {u u' : Int → Int} {f e : Int} (h : EQF u u' f) (he : e ≤ f) (i : Nat) : BRl u f e i = BRl u' f e i := by
  induction i with
  | zero => rfl
  | succ i ih =>
    show BHD u f e (BRl u f e i) = BHD u' f e (BRl u' f e i)
    rw [ih, BHD_c h he (BRl_0 u' f e i)]
theorem LIB_c {u u' : Int → Int} {f e : Int} (h : EQF u u' f) (he : e ≤ f) (i : Nat) : LIN u f e (BRl u f e i) = LIN u' f e (BRl u' f e i) := by
  rw [BRl_c h he, LIN_c h he (BRl_0 u' f e i)]
theorem LST_0 (u : Int → Int) (f : Int) (i : Nat) : 0 ≤ LST u f i := LST_le u f (i := 0) (j := i) (Nat.zero_le i)
theorem LST_c {u u' : Int → Int} {f : Int} (h : EQF u u' f) (i : Nat) : LST u f i = LST u' f i := by
  induction i with
  | zero => rfl
  | succ i ih =>
    show LSt u f (LST u f i) + 1 = LSt u' f (LST u' f i) + 1
    rw [ih, LSt_c h (LST_0 u' f i)]
theorem NOL_c {u u' : Int → Int} {f : Int} (h : EQF u u' f) (q : NOL u f) : NOL u' f := fun i hi => by
  have k := q i
  rw [LST_c h, LEe_c h (LST_0 u' f i)] at k
  exact k hi
theorem MMI_c {u u' : Int → Int} {f k : Int} (h : EQF u u' f) (q : MMI u f k) : MMI u' f k := by
  obtain ⟨i, e1, q⟩ := q
  refine ⟨i, by rw [← LST_c h]; exact e1, fun j hj => ?_⟩
  have k := q j hj
  rw [LST_c h, LEe_c h (LST_0 u' f j)] at k
  exact k
theorem IME_c {u u' : Int → Int} {f e : Int} (h : EQF u u' f) (q : IME u f e) : IME u' f e := by
  obtain ⟨k, m, q⟩ := q
  have k0 : 0 ≤ k := by
    obtain ⟨i, e1, -⟩ := id m
    rw [e1]
    exact LST_0 u f i
  refine ⟨k, MMI_c h m, ?_⟩
  rw [← LEe_c h k0]
  exact q
theorem MFV_c {u u' : Int → Int} {f e : Int} (h : EQF u u' f) (he : e ≤ f) (q : MFV u f e) : MFV u' f e := by
  obtain ⟨q1, q2, q3⟩ := q
  refine ⟨NOL_c h q1, fun z => q2 ⟨z.1, by rw [h 0 (Int.le_refl 0) z.1]; exact z.2⟩, fun i hi => ?_⟩
  have k := q3 i (by rw [BRl_c h he]; exact hi)
  rw [← LIB_c h he]
  refine ⟨k.1, fun j hj => ?_⟩
  rw [← LIB_c h he]
  exact k.2 j hj
/-- the main part ends somewhere -/
theorem IME_go {u : Int → Int} {f k : Int} (hf : 0 ≤ f) (h0 : 0 ≤ k) (m : MMI u f k) : ∃ e : Int, IME u f e ∧ 0 ≤ e ∧ e ≤ f := by
  obtain ⟨n, hn⟩ : ∃ n : Nat, (f - k).toNat = n := ⟨_, rfl⟩
  induction n using Nat.strongRecOn generalizing k with
  | ind n ih =>
    by_cases c : k < f ∧ k < LEe u f k
    · have l := (LSt_r u f k).1
      exact ih (f - (LSt u f k + 1)).toNat (by omega) (k := LSt u f k + 1) (by omega) (MMI_s m c) rfl
    · by_cases d : k < f
      · exact ⟨k, ⟨k, m, Or.inl ⟨d, fun q => c ⟨d, q⟩, rfl⟩⟩, h0, by omega⟩
      · exact ⟨f, ⟨k, m, Or.inr ⟨by omega, rfl⟩⟩, hf, Int.le_refl f⟩
theorem IME_ex (u : Int → Int) {f : Int} (hf : 0 ≤ f) : ∃ e : Int, IME u f e ∧ 0 ≤ e ∧ e ≤ f := IME_go hf (Int.le_refl 0) (MMI_0 u f)
/-- what is asked for is one line at most -/
theorem ASK_one {u v : Int → Int} {f e n : Int} {i j : Nat} (m : MFV u f e) (hi : BRl u f e i < e) (hj : BRl u f e j < e) (a : ASK (LIN u f e (BRl u f e i)) v n) (b : ASK (LIN u f e (BRl u f e j)) v n) : i = j := by
  have key : SAM (LIN u f e (BRl u f e i)) (LIN u f e (BRl u f e j)) := ⟨a.1.trans b.1.symm, fun k k0 k1 => (a.2 k k0 (by rw [← a.1]; exact k1)).trans (b.2 k k0 (by rw [← a.1]; exact k1)).symm⟩
  rcases Nat.lt_trichotomy i j with c | c | c
  · exact ((m.2.2 j hj).2 i c (SAM_comm key)).elim
  · exact c
  · exact ((m.2.2 i hi).2 j c key).elim
/-- the value z bytes long, r6 has it; or none -/
def VLX (u : Int → Int) (f e : Int) (v : Int → Int) (n : Int) (r6 : Int → Int) (f6 z : Int) : Prop := (z = -1 ∧ f6 = 0 ∧ ∀ j : Nat, BRl u f e j < e → ¬ ASK (LIN u f e (BRl u f e j)) v n) ∨ ∃ j : Nat, BRl u f e j < e ∧ ASK (LIN u f e (BRl u f e j)) v n ∧ KVL (VAL (LIN u f e (BRl u f e j))) r6 z ∧ f6 = z
theorem VLX_c {u u' v r6 : Int → Int} {f e n f6 z : Int} (h : EQF u u' f) (he : e ≤ f) (q : VLX u f e v n r6 f6 z) : VLX u' f e v n r6 f6 z := by
  rcases q with ⟨a, b, c⟩ | ⟨j, a, b, c, d⟩
  · refine Or.inl ⟨a, b, fun j hj => ?_⟩
    rw [← LIB_c h he]
    exact c j (by rw [BRl_c h he]; exact hj)
  · rw [LIB_c h he] at b c
    rw [BRl_c h he] at a
    exact Or.inr ⟨j, a, b, c, d⟩
theorem VLX_one {u v r6 r6' : Int → Int} {f e n f6 z f6' z' : Int} (m : MFV u f e) (q : VLX u f e v n r6 f6 z) (q' : VLX u f e v n r6' f6' z') : z = z' ∧ f6 = f6' ∧ ∀ k : Int, 0 ≤ k → k < f6 → r6 k = r6' k := by
  rcases q with ⟨a, b, c⟩ | ⟨j, a, b, c, d⟩ <;> rcases q' with ⟨a', b', c'⟩ | ⟨j', a', b', c', d'⟩
  · exact ⟨a.trans a'.symm, b.trans b'.symm, fun k k0 k1 => by omega⟩
  · exact (c j' a' b').elim
  · exact (c' j a b).elim
  · have ej := ASK_one m a a' b b'
    subst ej
    have ez : z = z' := c.1.symm.trans c'.1
    refine ⟨ez, by omega, fun k k0 k1 => ?_⟩
    have k2 := c.2 k.toNat (by omega)
    have k3 := c'.2 k.toNat (by omega)
    rw [show ((k.toNat : Nat) : Int) = k by omega] at k2 k3
    exact k2.trans k3.symm
/-- META-INF/MANIFEST.MF -/
def mfn (k : Int) : Int := if k = 0 then 77 else if k = 1 then 69 else if k = 2 then 84 else if k = 3 then 65 else if k = 4 then 45 else if k = 5 then 73 else if k = 6 then 78 else if k = 7 then 70 else if k = 8 then 47 else if k = 9 then 77 else if k = 10 then 65 else if k = 11 then 78 else if k = 12 then 73 else if k = 13 then 70 else if k = 14 then 69 else if k = 15 then 83 else if k = 16 then 84 else if k = 17 then 46 else if k = 18 then 77 else if k = 19 then 70 else 0
/-- attribute's answer, in the archive o, of which the bytes r are read -/
def ATO (o : Int → Int) (fo : Int) (r v : Int → Int) (n : Int) (r6 : Int → Int) (f6 z : Int) : Prop := (NNM o fo mfn 0 20 ∧ z = -1 ∧ f6 = 0) ∨ ∃ (j : Int) (b : Int → Int) (fb e : Int), NMD o fo mfn 0 20 j ∧ RD r (Hj o fo j) (Dj o fo j) b ∧ fb = W4 r (Hj o fo j + 24) ∧ IME b fb e ∧ MFV b fb e ∧ VLX b fb e v n r6 f6 z
/-- the manifest can't be read, or is none -/
def ATN (o : Int → Int) (fo : Int) (r : Int → Int) : Prop := ∃ j : Int, NMD o fo mfn 0 20 j ∧ ((∀ b : Int → Int, ¬ RD r (Hj o fo j) (Dj o fo j) b) ∨ ∃ (b : Int → Int) (fb e : Int), RD r (Hj o fo j) (Dj o fo j) b ∧ fb = W4 r (Hj o fo j + 24) ∧ IME b fb e ∧ ¬ MFV b fb e)
theorem ATO_one {o r v r6 r6' : Int → Int} {fo n f6 z f6' z' : Int} (hf : FOn o fo = 1) (h : ATO o fo r v n r6 f6 z) (q : ATO o fo r v n r6' f6' z') : z = z' ∧ f6 = f6' ∧ ∀ k : Int, 0 ≤ k → k < f6 → r6 k = r6' k := by
  rcases h with ⟨a, b, c⟩ | ⟨j, b, fb, e, a1, a2, a3, a4, a5, a6⟩ <;> rcases q with ⟨a', b', c'⟩ | ⟨j', b', fb', e', a1', a2', a3', a4', a5', a6'⟩
  · exact ⟨b.trans b'.symm, c.trans c'.symm, fun k k0 k1 => by omega⟩
  · exact (a j' a1').elim
  · exact (a' j a1).elim
  · have ej := NMD_one hf a1 a1'
    subst ej
    have eb := RD_one a2 a2'
    subst eb
    have ef : fb = fb' := a3.trans a3'.symm
    subst ef
    have ee := IME_one a4 a4'
    subst ee
    exact VLX_one a5 a6 a6'
theorem ATO_no {o r v r6 : Int → Int} {fo n f6 z : Int} (hf : FOn o fo = 1) (h : ATO o fo r v n r6 f6 z) (q : ATN o fo r) : False := by
  obtain ⟨j', b1, b2⟩ := q
  rcases h with ⟨a, b, c⟩ | ⟨j, b, fb, e, a1, a2, a3, a4, a5, a6⟩
  · exact a j' b1
  · have ej := NMD_one hf a1 b1
    subst ej
    rcases b2 with b2 | ⟨b', fb', e', c1, c2, c3, c4⟩
    · exact b2 b a2
    · have eb := RD_one a2 c1
      subst eb
      have ef : fb = fb' := a3.trans c2.symm
      subst ef
      have ee := IME_one a4 c3
      subst ee
      exact c4 a5
/-- the value's row, class beside model -/
def VAQ (σ : qH) (r6 : Int → Int) (f6 : Int) : Prop := AGR σ 57 r6 ∧ rl σ 57 = f6
theorem VAQ.fr {σ σ' : qH} {r6 : Int → Int} {f6 : Int} {w : List Nat} (h : VAQ σ r6 f6) (hN : NA σ) (hF : Fr w σ σ') (hw : 57 ∉ w) : VAQ σ' r6 f6 := ⟨h.1.fr hN hF (by decide) hw, (rl_eq (hF.2.2.1 57 (by decide) hw)).trans h.2⟩
theorem VAQ_SM {σ σ' : qH} {r6 : Int → Int} {f6 : Int} (hK : K σ) (h : SM σ σ') (q : VAQ σ r6 f6) : VAQ σ' r6 f6 := by
  obtain ⟨c1, c2⟩ := CT_SM hK h (r := 57) (by decide)
  exact ⟨q.1.keep c1 c2, c2.trans q.2⟩
theorem VAQ_kp {σ σ' : qH} {r6 : Int → Int} {f6 : Int} (q : VAQ σ r6 f6) (h : KPR [57] σ σ') : VAQ σ' r6 f6 := by
  obtain ⟨c1, c2⟩ := KPR_at h
  exact ⟨q.1.keep c1 c2, c2.trans q.2⟩
/-- attribute, as the class leaves it -/
def HAt (σ' : qH) (g : Int → Int) (f : Int) (lm : List Int32) (io mo x k w : Int) (v : Int → Int) (n : Int) : Prop := (k = 0 → VL io mo x ∧ ∃ (o : Int → Int) (fo : Int), ARX g f lm x o fo ∧ FOn o fo = 1 ∧ ∀ r : Int → Int, AGB r o fo → ATO o fo r v n (nb σ' 57) (rl σ' 57) w) ∧ (k = 1 → ¬ VL io mo x) ∧ (k = 2 → VL io mo x ∧ ∃ (o : Int → Int) (fo : Int), ARX g f lm x o fo ∧ FOn o fo = 1 ∧ ∀ r : Int → Int, AGB r o fo → ATN o fo r) ∧ (0 ≤ k ∧ k ≤ 2)
/-- attribute, as the model leaves it -/
def ATM (g : Int → Int) (f : Int) (lm : List Int32) (x : Int) (v : Int → Int) (n : Int) (q6 : Int → Int) (e6 w : Int) : Prop := ∃ (o : Int → Int) (fo : Int) (r : Int → Int), ARX g f lm x o fo ∧ AGB r o fo ∧ ATO o fo r v n q6 e6 w
def ATE (g : Int → Int) (f : Int) (lm : List Int32) (x : Int) : Prop := ∃ (o : Int → Int) (fo : Int) (r : Int → Int), ARX g f lm x o fo ∧ AGB r o fo ∧ ATN o fo r
def ATR (g : Int → Int) (f : Int) (lm : List Int32) (io mo x k w : Int) (v : Int → Int) (n : Int) (r6 : Int → Int) (f6 : Int) (q6 : Int → Int) (e6 : Int) : Prop := (k = 0 → VL io mo x ∧ ATM g f lm x v n q6 e6 w) ∧ (k = 1 → ¬ VL io mo x) ∧ (k = 2 → VL io mo x ∧ ATE g f lm x) ∧ (0 ≤ k ∧ k ≤ 2) ∧ (k ≠ 0 → q6 = r6 ∧ e6 = f6)
theorem attr_both {σ1 : qH} {g v r6 q6 : Int → Int} {f io mo x k w k' w' n f6 e6 : Int} {lm : List Int32} (h : HAt σ1 g f lm io mo x k w v n) (hk : k ≠ 0 → VAQ σ1 r6 f6) (q : ATR g f lm io mo x k' w' v n r6 f6 q6 e6) : (k = k' ∧ (k = 0 → w = w')) ∧ VAQ σ1 q6 e6 := by
  obtain ⟨h0, h1, h2, h3⟩ := h
  obtain ⟨q0, q1, q2, q3, q4⟩ := q
  rcases k3 h3 with a | a | a <;> rcases k3 q3 with b | b | b
  · obtain ⟨v1, o, fo, a1, a2, a3⟩ := h0 a
    obtain ⟨-, o', fo', r, b1, b2, b3⟩ := q0 b
    obtain ⟨e1, e2⟩ := ARX_one v1.2.1 a1 b1
    subst e1
    subst e2
    obtain ⟨c1, c2, c3⟩ := ATO_one a2 (a3 r b2) b3
    refine ⟨⟨a.trans b.symm, fun _ => c1⟩, fun k9 k0 k1 => ?_, c2⟩
    rw [← c3 k9 k0 k1]
    exact nb_ag k9 k0 k1
  · exact (q1 b (h0 a).1).elim
  · obtain ⟨v1, o, fo, a1, a2, a3⟩ := h0 a
    obtain ⟨-, o', fo', r, b1, b2, b3⟩ := q2 b
    obtain ⟨e1, e2⟩ := ARX_one v1.2.1 a1 b1
    subst e1
    subst e2
    exact (ATO_no a2 (a3 r b2) b3).elim
  · exact (h1 a (q0 b).1).elim
  · obtain ⟨e1, e2⟩ := q4 (by rw [b]; decide)
    rw [e1, e2]
    exact ⟨⟨a.trans b.symm, fun z => absurd (a.symm.trans z) (by decide)⟩, hk (by rw [a]; decide)⟩
  · exact (h1 a (q2 b).1).elim
  · obtain ⟨v1, o, fo, a1, a2, a3⟩ := h2 a
    obtain ⟨-, o', fo', r, b1, b2, b3⟩ := q0 b
    obtain ⟨e1, e2⟩ := ARX_one v1.2.1 a1 b1
    subst e1
    subst e2
    exact (ATO_no a2 b3 (a3 r b2)).elim
  · exact (q1 b (h2 a).1).elim
  · obtain ⟨e1, e2⟩ := q4 (by rw [b]; decide)
    rw [e1, e2]
    exact ⟨⟨a.trans b.symm, fun z => absurd (a.symm.trans z) (by decide)⟩, hk (by rw [a]; decide)⟩
