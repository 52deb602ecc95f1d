/-! The law's entry: all that the runs stand on. -/
theorem q_isS {C n d : String} {A : Nat → Prop} {s : State} {args : Array Value} (hl : (Cond.laysStatic C n d).before args s = true) (hr : (Cond.isRef (.static C n d)).before args s = true) (hA : ∀ a : Nat, a < s.heap.size → ¬ A a) : qS C n d A s s.heap := by
  obtain ⟨c, k, i, f, a, cell, hc, hi, hst, ha, hcell, hs, hcls, hlt, hty⟩ := Cond.laysStatic_spec hl
  cases hv : (Term.static C n d).eval args s none [] s with
  | none => simp [Cond.before, Cond.holds, Cond.value, hv] at hr
  | some v =>
    obtain ⟨-, a', cell', ha', hcell', -, hslot⟩ := Term.static_spec hi hv
    cases ha.symm.trans ha'
    cases hcell.symm.trans hcell'
    have hvr : v.isRef = true := by
      simp only [Cond.before, Cond.holds, Cond.value, hv] at hr
      cases v <;> simp_all [Value.isRef]
    exact ⟨c, k, i, f, a, cell, v, ⟨hc, hi, hst, ha, hty⟩, hcell, hs, hcls, hlt, hslot, hvr, hA a (Array.getElem?_eq_some_iff.mp hcell).1⟩
theorem q_isF {t : Term} {a : Nat} {c n d : String} {v : Value} {A : Nat → Prop} {s : State} {args : Array Value} (ht : t.eval args s none [] s = some (.ref a)) (hv : (Term.field t c n d).eval args s none [] s = some v) (hA : ∀ a : Nat, a < s.heap.size → ¬ A a) : va_OF c n d v a A s s.heap := by
  cases hfo : s.fieldFound? c n d with
  | none =>
    rw [va_fe ht] at hv
    simp [State.fieldOf?, State.fieldNamed?, hfo] at hv
  | some x =>
    obtain ⟨cf, k, fi, f⟩ := x
    obtain ⟨g1, cell, g2, g3, -, -, g6⟩ := Term.field_spec hfo ht hv
    exact ⟨cf, k, fi, f, cell, hfo, g1, g2, g3, g6, hA _ (Array.getElem?_eq_some_iff.mp g2).1⟩
theorem q_text {k : Nat} {x : String} {A : Nat → Prop} {s : State} {args : Array Value} (hr : (Cond.stringRef "NestedArchives" k x).before args s = true) (hx : (Cond.exactly (.string "NestedArchives" k) "java/lang/String").before args s = true) (hA : ∀ a : Nat, a < s.heap.size → ¬ A a) : ∃ a : Nat, (Term.string "NestedArchives" k).eval args s none [] s = some (.ref a) ∧ vk_R "NestedArchives" k x a s ∧ va_O "java/lang/String" a A s s.heap := by
  obtain ⟨a, c, cell, kc, q1, q2, q3, q4, q5, q6, -⟩ := Cond.exactly_spec hx
  exact ⟨a, q1, vk_R.of hr q1, cell, q3, q5, by rw [q6]; exact q2, hA a (Array.getElem?_eq_some_iff.mp q3).1⟩
theorem q_arrC {s : State} {args : Array Value} {t : FieldType} (h : (Cond.arrayClass t).before args s = true) : ∃ cA : ClassId, ArrOfT s cA t ∧ s.vm.findClass ("[" ++ t.toString) = some cA := by
  obtain ⟨c, k, comp, h1, h2, h3⟩ := Cond.arrayClass_spec h
  exact ⟨c, fun n z => ⟨fun k9 h9 => (by cases h9), k, h2, comp, h3⟩, h1⟩
set_option maxHeartbeats 4000000 in
set_option maxRecDepth 100000 in
theorem q_entry {s : State} {b L : Nat} {xs : Nat → Int32} (hts : ∀ w ∈ lw_tbl, w.before #[Value.ref b] s = true) (hgv : (Jvm.Cond.and given_1 narrow_1).before #[Value.ref b] s = true) (hX : va_X b L xs s s.heap) (hL : L < 2147483648) (hbl : b < s.heap.size) : ∃ (f : Bool) (E : qEv), E.2.2.1 = s.heap.size ∧ E.2.2.2 0 = b ∧ qG (qxj ((List.range L).map xs) f) E s := by
  have hs := flat_of_before _ hgv
  obtain ⟨A, hAd⟩ : ∃ A : Nat → Prop, A = fun q => s.heap.size ≤ q := ⟨_, rfl⟩
  have hA : ∀ a : Nat, a < s.heap.size → ¬ A a := fun a h z => by
    rw [hAd] at z
    exact absurd z (Nat.not_le.mpr h)
  have hgw : ∀ w ∈ qgw, w.before #[Value.ref b] s = true := fun w hw => hts w (List.mem_filter.mp hw).1
  -- classes
  have hcl : ∀ c : Nat, ∃ p : ClassId × (Nat → Nat), ∀ q, qcl[c]? = some q → u_Kn s q.1 q.2.1 q.2.2 p.1 p.2 := by
    intro c
    by_cases hc : c < 8
    · obtain ⟨cC, iS, h⟩ := u_known (ws := qgw) hgw (qcl_ws hc) (hgw _ (qcl_d hc).1)
      refine ⟨(cC, iS), fun q hq => ?_⟩
      rw [qcl_at hc] at hq
      cases hq
      exact h
    · exact ⟨(0, fun _ => 0), fun q hq => absurd (qcl_lt hq) hc⟩
  obtain ⟨D, hD⟩ := Classical.axiomOfChoice hcl
  obtain ⟨cI, i1, i2⟩ := q_arrC (hts (Jvm.Cond.arrayClass Jvm.ClassFile.FieldType.int) (qis_mem (q := (1, 64)) (by decide +kernel)))
  obtain ⟨cB, b1, b2⟩ := q_arrC (hts (Jvm.Cond.arrayClass Jvm.ClassFile.FieldType.byte) (qis_mem (q := (1, 88)) (by decide +kernel)))
  obtain ⟨cJ, j1, j2⟩ := q_arrC (hts (Jvm.Cond.arrayClass Jvm.ClassFile.FieldType.long) (qis_mem (q := (5, 158)) (by decide +kernel)))
  have hao := (hts (Jvm.Cond.arrayOver (Jvm.ClassFile.FieldType.object "NestedArchives$Archive")) (qis_mem (q := (3, 87)) (by decide +kernel)))
  obtain ⟨comp, cR, kR, r1, r2, r3, r4, r5⟩ := Cond.arrayOver_spec hao
  obtain ⟨t1, h1, T1⟩ := va_Tof (args := #[Value.ref b]) (s := s) (A := A) (N := 19) (f := fun j => .int (([16, 17, 18, 0, 8, 7, 9, 6, 10, 5, 11, 4, 12, 3, 13, 2, 14, 1, 15] : List Int32).getD j 0)) (by decide) (hs _ nf_5) (va_eqt (hs _ nf_6)) (fun j hj => by
    match j, hj with
    | 0, _ => exact va_eqt (hs _ nf_7)
    | 1, _ => exact va_eqt (hs _ nf_8)
    | 2, _ => exact va_eqt (hs _ nf_9)
    | 3, _ => exact va_eqt (hs _ nf_10)
    | 4, _ => exact va_eqt (hs _ nf_11)
    | 5, _ => exact va_eqt (hs _ nf_12)
    | 6, _ => exact va_eqt (hs _ nf_13)
    | 7, _ => exact va_eqt (hs _ nf_14)
    | 8, _ => exact va_eqt (hs _ nf_15)
    | 9, _ => exact va_eqt (hs _ nf_16)
    | 10, _ => exact va_eqt (hs _ nf_17)
    | 11, _ => exact va_eqt (hs _ nf_18)
    | 12, _ => exact va_eqt (hs _ nf_19)
    | 13, _ => exact va_eqt (hs _ nf_20)
    | 14, _ => exact va_eqt (hs _ nf_21)
    | 15, _ => exact va_eqt (hs _ nf_22)
    | 16, _ => exact va_eqt (hs _ nf_23)
    | 17, _ => exact va_eqt (hs _ nf_24)
    | 18, _ => exact va_eqt (hs _ nf_25)
    | j + 19, h => exact absurd h (by omega)) hA
  have Z1 := va_Zref (A := A) (hts (Jvm.Cond.laysStatic "NestedArchives$Unpacker" "LENGTH_ORDER" "[I") (qis_mem (q := (1, 44)) (by decide +kernel))) (hts (Jvm.Cond.initialized "NestedArchives$Unpacker") (qis_mem (q := (1, 2)) (by decide +kernel))) h1 hA
  obtain ⟨t2, h2, T2⟩ := va_Tof (args := #[Value.ref b]) (s := s) (A := A) (N := 29) (f := fun j => .int (([3, 4, 5, 6, 7, 8, 9, 10, 11, 13, 15, 17, 19, 23, 27, 31, 35, 43, 51, 59, 67, 83, 99, 115, 131, 163, 195, 227, 258] : List Int32).getD j 0)) (by decide) (hs _ nf_240) (va_eqt (hs _ nf_241)) (fun j hj => by
    match j, hj with
    | 0, _ => exact va_eqt (hs _ nf_242)
    | 1, _ => exact va_eqt (hs _ nf_243)
    | 2, _ => exact va_eqt (hs _ nf_244)
    | 3, _ => exact va_eqt (hs _ nf_245)
    | 4, _ => exact va_eqt (hs _ nf_246)
    | 5, _ => exact va_eqt (hs _ nf_247)
    | 6, _ => exact va_eqt (hs _ nf_248)
    | 7, _ => exact va_eqt (hs _ nf_249)
    | 8, _ => exact va_eqt (hs _ nf_250)
    | 9, _ => exact va_eqt (hs _ nf_251)
    | 10, _ => exact va_eqt (hs _ nf_252)
    | 11, _ => exact va_eqt (hs _ nf_253)
    | 12, _ => exact va_eqt (hs _ nf_254)
    | 13, _ => exact va_eqt (hs _ nf_255)
    | 14, _ => exact va_eqt (hs _ nf_256)
    | 15, _ => exact va_eqt (hs _ nf_257)
    | 16, _ => exact va_eqt (hs _ nf_258)
    | 17, _ => exact va_eqt (hs _ nf_259)
    | 18, _ => exact va_eqt (hs _ nf_260)
    | 19, _ => exact va_eqt (hs _ nf_261)
    | 20, _ => exact va_eqt (hs _ nf_262)
    | 21, _ => exact va_eqt (hs _ nf_263)
    | 22, _ => exact va_eqt (hs _ nf_264)
    | 23, _ => exact va_eqt (hs _ nf_265)
    | 24, _ => exact va_eqt (hs _ nf_266)
    | 25, _ => exact va_eqt (hs _ nf_267)
    | 26, _ => exact va_eqt (hs _ nf_268)
    | 27, _ => exact va_eqt (hs _ nf_269)
    | 28, _ => exact va_eqt (hs _ nf_270)
    | j + 29, h => exact absurd h (by omega)) hA
  have Z2 := va_Zref (A := A) (hts (Jvm.Cond.laysStatic "NestedArchives$Unpacker" "COPY_LEAST" "[I") (qis_mem (q := (4, 192)) (by decide +kernel))) (hts (Jvm.Cond.initialized "NestedArchives$Unpacker") (qis_mem (q := (1, 2)) (by decide +kernel))) h2 hA
  obtain ⟨t3, h3, T3⟩ := va_Tof (args := #[Value.ref b]) (s := s) (A := A) (N := 29) (f := fun j => .int (([0, 0, 0, 0, 0, 0, 0, 0, 1, 1, 1, 1, 2, 2, 2, 2, 3, 3, 3, 3, 4, 4, 4, 4, 5, 5, 5, 5, 0] : List Int32).getD j 0)) (by decide) (hs _ nf_272) (va_eqt (hs _ nf_273)) (fun j hj => by
    match j, hj with
    | 0, _ => exact va_eqt (hs _ nf_274)
    | 1, _ => exact va_eqt (hs _ nf_275)
    | 2, _ => exact va_eqt (hs _ nf_276)
    | 3, _ => exact va_eqt (hs _ nf_277)
    | 4, _ => exact va_eqt (hs _ nf_278)
    | 5, _ => exact va_eqt (hs _ nf_279)
    | 6, _ => exact va_eqt (hs _ nf_280)
    | 7, _ => exact va_eqt (hs _ nf_281)
    | 8, _ => exact va_eqt (hs _ nf_282)
    | 9, _ => exact va_eqt (hs _ nf_283)
    | 10, _ => exact va_eqt (hs _ nf_284)
    | 11, _ => exact va_eqt (hs _ nf_285)
    | 12, _ => exact va_eqt (hs _ nf_286)
    | 13, _ => exact va_eqt (hs _ nf_287)
    | 14, _ => exact va_eqt (hs _ nf_288)
    | 15, _ => exact va_eqt (hs _ nf_289)
    | 16, _ => exact va_eqt (hs _ nf_290)
    | 17, _ => exact va_eqt (hs _ nf_291)
    | 18, _ => exact va_eqt (hs _ nf_292)
    | 19, _ => exact va_eqt (hs _ nf_293)
    | 20, _ => exact va_eqt (hs _ nf_294)
    | 21, _ => exact va_eqt (hs _ nf_295)
    | 22, _ => exact va_eqt (hs _ nf_296)
    | 23, _ => exact va_eqt (hs _ nf_297)
    | 24, _ => exact va_eqt (hs _ nf_298)
    | 25, _ => exact va_eqt (hs _ nf_299)
    | 26, _ => exact va_eqt (hs _ nf_300)
    | 27, _ => exact va_eqt (hs _ nf_301)
    | 28, _ => exact va_eqt (hs _ nf_302)
    | j + 29, h => exact absurd h (by omega)) hA
  have Z3 := va_Zref (A := A) (hts (Jvm.Cond.laysStatic "NestedArchives$Unpacker" "COPY_BITS" "[I") (qis_mem (q := (4, 194)) (by decide +kernel))) (hts (Jvm.Cond.initialized "NestedArchives$Unpacker") (qis_mem (q := (1, 2)) (by decide +kernel))) h3 hA
  obtain ⟨t4, h4, T4⟩ := va_Tof (args := #[Value.ref b]) (s := s) (A := A) (N := 30) (f := fun j => .int (([1, 2, 3, 4, 5, 7, 9, 13, 17, 25, 33, 49, 65, 97, 129, 193, 257, 385, 513, 769, 1025, 1537, 2049, 3073, 4097, 6145, 8193, 12289, 16385, 24577] : List Int32).getD j 0)) (by decide) (hs _ nf_304) (va_eqt (hs _ nf_305)) (fun j hj => by
    match j, hj with
    | 0, _ => exact va_eqt (hs _ nf_306)
    | 1, _ => exact va_eqt (hs _ nf_307)
    | 2, _ => exact va_eqt (hs _ nf_308)
    | 3, _ => exact va_eqt (hs _ nf_309)
    | 4, _ => exact va_eqt (hs _ nf_310)
    | 5, _ => exact va_eqt (hs _ nf_311)
    | 6, _ => exact va_eqt (hs _ nf_312)
    | 7, _ => exact va_eqt (hs _ nf_313)
    | 8, _ => exact va_eqt (hs _ nf_314)
    | 9, _ => exact va_eqt (hs _ nf_315)
    | 10, _ => exact va_eqt (hs _ nf_316)
    | 11, _ => exact va_eqt (hs _ nf_317)
    | 12, _ => exact va_eqt (hs _ nf_318)
    | 13, _ => exact va_eqt (hs _ nf_319)
    | 14, _ => exact va_eqt (hs _ nf_320)
    | 15, _ => exact va_eqt (hs _ nf_321)
    | 16, _ => exact va_eqt (hs _ nf_322)
    | 17, _ => exact va_eqt (hs _ nf_323)
    | 18, _ => exact va_eqt (hs _ nf_324)
    | 19, _ => exact va_eqt (hs _ nf_325)
    | 20, _ => exact va_eqt (hs _ nf_326)
    | 21, _ => exact va_eqt (hs _ nf_327)
    | 22, _ => exact va_eqt (hs _ nf_328)
    | 23, _ => exact va_eqt (hs _ nf_329)
    | 24, _ => exact va_eqt (hs _ nf_330)
    | 25, _ => exact va_eqt (hs _ nf_331)
    | 26, _ => exact va_eqt (hs _ nf_332)
    | 27, _ => exact va_eqt (hs _ nf_333)
    | 28, _ => exact va_eqt (hs _ nf_334)
    | 29, _ => exact va_eqt (hs _ nf_335)
    | j + 30, h => exact absurd h (by omega)) hA
  have Z4 := va_Zref (A := A) (hts (Jvm.Cond.laysStatic "NestedArchives$Unpacker" "WAY_LEAST" "[I") (qis_mem (q := (4, 196)) (by decide +kernel))) (hts (Jvm.Cond.initialized "NestedArchives$Unpacker") (qis_mem (q := (1, 2)) (by decide +kernel))) h4 hA
  obtain ⟨t5, h5, T5⟩ := va_Tof (args := #[Value.ref b]) (s := s) (A := A) (N := 30) (f := fun j => .int (([0, 0, 0, 0, 1, 1, 2, 2, 3, 3, 4, 4, 5, 5, 6, 6, 7, 7, 8, 8, 9, 9, 10, 10, 11, 11, 12, 12, 13, 13] : List Int32).getD j 0)) (by decide) (hs _ nf_337) (va_eqt (hs _ nf_338)) (fun j hj => by
    match j, hj with
    | 0, _ => exact va_eqt (hs _ nf_339)
    | 1, _ => exact va_eqt (hs _ nf_340)
    | 2, _ => exact va_eqt (hs _ nf_341)
    | 3, _ => exact va_eqt (hs _ nf_342)
    | 4, _ => exact va_eqt (hs _ nf_343)
    | 5, _ => exact va_eqt (hs _ nf_344)
    | 6, _ => exact va_eqt (hs _ nf_345)
    | 7, _ => exact va_eqt (hs _ nf_346)
    | 8, _ => exact va_eqt (hs _ nf_347)
    | 9, _ => exact va_eqt (hs _ nf_348)
    | 10, _ => exact va_eqt (hs _ nf_349)
    | 11, _ => exact va_eqt (hs _ nf_350)
    | 12, _ => exact va_eqt (hs _ nf_351)
    | 13, _ => exact va_eqt (hs _ nf_352)
    | 14, _ => exact va_eqt (hs _ nf_353)
    | 15, _ => exact va_eqt (hs _ nf_354)
    | 16, _ => exact va_eqt (hs _ nf_355)
    | 17, _ => exact va_eqt (hs _ nf_356)
    | 18, _ => exact va_eqt (hs _ nf_357)
    | 19, _ => exact va_eqt (hs _ nf_358)
    | 20, _ => exact va_eqt (hs _ nf_359)
    | 21, _ => exact va_eqt (hs _ nf_360)
    | 22, _ => exact va_eqt (hs _ nf_361)
    | 23, _ => exact va_eqt (hs _ nf_362)
    | 24, _ => exact va_eqt (hs _ nf_363)
    | 25, _ => exact va_eqt (hs _ nf_364)
    | 26, _ => exact va_eqt (hs _ nf_365)
    | 27, _ => exact va_eqt (hs _ nf_366)
    | 28, _ => exact va_eqt (hs _ nf_367)
    | 29, _ => exact va_eqt (hs _ nf_368)
    | j + 30, h => exact absurd h (by omega)) hA
  have Z5 := va_Zref (A := A) (hts (Jvm.Cond.laysStatic "NestedArchives$Unpacker" "WAY_BITS" "[I") (qis_mem (q := (4, 198)) (by decide +kernel))) (hts (Jvm.Cond.initialized "NestedArchives$Unpacker") (qis_mem (q := (1, 2)) (by decide +kernel))) h5 hA
  obtain ⟨t6, h6, T6⟩ := va_Tof (args := #[Value.ref b]) (s := s) (A := A) (N := 16) (f := fun j => .int (([0, 498536548, 997073096, 651767980, 1994146192, 1802195444, 1303535960, 1342533948, -306674912, -267414716, -690576408, -882789492, -1687895376, -2032938284, -1609899400, -1111625188] : List Int32).getD j 0)) (by decide) (hs _ nf_370) (va_eqt (hs _ nf_371)) (fun j hj => by
    match j, hj with
    | 0, _ => exact va_eqt (hs _ nf_372)
    | 1, _ => exact va_eqt (hs _ nf_373)
    | 2, _ => exact va_eqt (hs _ nf_374)
    | 3, _ => exact va_eqt (hs _ nf_375)
    | 4, _ => exact va_eqt (hs _ nf_376)
    | 5, _ => exact va_eqt (hs _ nf_377)
    | 6, _ => exact va_eqt (hs _ nf_378)
    | 7, _ => exact va_eqt (hs _ nf_379)
    | 8, _ => exact va_eqt (hs _ nf_380)
    | 9, _ => exact va_eqt (hs _ nf_381)
    | 10, _ => exact va_eqt (hs _ nf_382)
    | 11, _ => exact va_eqt (hs _ nf_383)
    | 12, _ => exact va_eqt (hs _ nf_384)
    | 13, _ => exact va_eqt (hs _ nf_385)
    | 14, _ => exact va_eqt (hs _ nf_386)
    | 15, _ => exact va_eqt (hs _ nf_387)
    | j + 16, h => exact absurd h (by omega)) hA
  have Z6 := va_Zref (A := A) (hts (Jvm.Cond.laysStatic "NestedArchives" "SUM_STEPS" "[I") (qis_mem (q := (4, 213)) (by decide +kernel))) (hts (Jvm.Cond.initialized "NestedArchives") (qis_mem (q := (1, 1)) (by decide +kernel))) h6 hA
  obtain ⟨s8, e8, R8, O8⟩ := q_text (A := A) (hts (Jvm.Cond.stringRef "NestedArchives" (85 : Nat) "META-INF/MANIFEST.MF") (qis_mem (q := (3, 88)) (by decide +kernel))) (hs _ nf_508) hA
  have C8 := q_isF (A := A) e8 (va_eqt (hs _ nf_509)) hA
  obtain ⟨v8, w8, B8⟩ := va_Tof (args := #[Value.ref b]) (s := s) (A := A) (N := 20) (f := fun j => .int (([77, 69, 84, 65, 45, 73, 78, 70, 47, 77, 65, 78, 73, 70, 69, 83, 84, 46, 77, 70] : List Int32).getD j 0)) (by decide) (hs _ nf_510) (va_eqt (hs _ nf_511)) (fun j hj => by
    match j, hj with
    | 0, _ => exact va_eqt (hs _ nf_512)
    | 1, _ => exact va_eqt (hs _ nf_513)
    | 2, _ => exact va_eqt (hs _ nf_514)
    | 3, _ => exact va_eqt (hs _ nf_515)
    | 4, _ => exact va_eqt (hs _ nf_516)
    | 5, _ => exact va_eqt (hs _ nf_517)
    | 6, _ => exact va_eqt (hs _ nf_518)
    | 7, _ => exact va_eqt (hs _ nf_519)
    | 8, _ => exact va_eqt (hs _ nf_520)
    | 9, _ => exact va_eqt (hs _ nf_521)
    | 10, _ => exact va_eqt (hs _ nf_522)
    | 11, _ => exact va_eqt (hs _ nf_523)
    | 12, _ => exact va_eqt (hs _ nf_524)
    | 13, _ => exact va_eqt (hs _ nf_525)
    | 14, _ => exact va_eqt (hs _ nf_526)
    | 15, _ => exact va_eqt (hs _ nf_527)
    | 16, _ => exact va_eqt (hs _ nf_528)
    | 17, _ => exact va_eqt (hs _ nf_529)
    | 18, _ => exact va_eqt (hs _ nf_530)
    | 19, _ => exact va_eqt (hs _ nf_531)
    | j + 20, h => exact absurd h (by omega)) hA
  have V8 := q_isF (A := A) e8 w8 hA
  obtain ⟨s9, e9, R9, O9⟩ := q_text (A := A) (hts (Jvm.Cond.stringRef "NestedArchives" (91 : Nat) "index.txt") (qis_mem (q := (3, 122)) (by decide +kernel))) (hs _ nf_537) hA
  have C9 := q_isF (A := A) e9 (va_eqt (hs _ nf_538)) hA
  obtain ⟨v9, w9, B9⟩ := va_Tof (args := #[Value.ref b]) (s := s) (A := A) (N := 9) (f := fun j => .int (([105, 110, 100, 101, 120, 46, 116, 120, 116] : List Int32).getD j 0)) (by decide) (hs _ nf_539) (va_eqt (hs _ nf_540)) (fun j hj => by
    match j, hj with
    | 0, _ => exact va_eqt (hs _ nf_541)
    | 1, _ => exact va_eqt (hs _ nf_542)
    | 2, _ => exact va_eqt (hs _ nf_543)
    | 3, _ => exact va_eqt (hs _ nf_544)
    | 4, _ => exact va_eqt (hs _ nf_545)
    | 5, _ => exact va_eqt (hs _ nf_546)
    | 6, _ => exact va_eqt (hs _ nf_547)
    | 7, _ => exact va_eqt (hs _ nf_548)
    | 8, _ => exact va_eqt (hs _ nf_549)
    | j + 9, h => exact absurd h (by omega)) hA
  have V9 := q_isF (A := A) e9 w9 hA
  have ZC := va_Zof (A := A) (hts (Jvm.Cond.laysStatic "java/lang/String" "COMPACT_STRINGS" "Z") (qis_mem (q := (1, 147)) (by decide +kernel))) (hts (Jvm.Cond.initialized "java/lang/String") (qis_mem (q := (1, 13)) (by decide +kernel))) (va_eqi (hs _ nf_28)) hA
  have ZS := va_Zqof (A := A) (hts (Jvm.Cond.laysStatic "jdk/internal/util/Preconditions" "SIOOBE_FORMATTER" "Ljava/util/function/BiFunction;") (qis_mem (q := (1, 231)) (by decide +kernel))) (hts (Jvm.Cond.initialized "jdk/internal/util/Preconditions") (qis_mem (q := (1, 17)) (by decide +kernel))) (hs _ nf_29) hA
  obtain ⟨f, tf, hf⟩ : ∃ (f : Bool) (tf : Nat), va_Z "jdk/internal/util/Preconditions" "SIOOBE_FORMATTER" "Ljava/util/function/BiFunction;" (bif f then .ref tf else .null) A s s.heap := by
    rcases ZS with h | ⟨t, h⟩
    · exact ⟨false, 0, h⟩
    · exact ⟨true, t, h⟩
  have S0 := q_isS (A := A) (hts (Jvm.Cond.laysStatic "java/lang/Throwable" "UNASSIGNED_STACK" "[Ljava/lang/StackTraceElement;") (qis_mem (q := (1, 122)) (by decide +kernel))) (hs _ nf_26) hA
  have S1 := q_isS (A := A) (hts (Jvm.Cond.laysStatic "java/lang/Throwable" "SUPPRESSED_SENTINEL" "Ljava/util/List;") (qis_mem (q := (1, 124)) (by decide +kernel))) (hs _ nf_27) hA
  obtain ⟨ad, had⟩ : ∃ ad : Nat → Nat, ad = (fun i => match i with
    | 0 => b | 1 => t1 | 2 => t2 | 3 => t3 | 4 => t4 | 5 => t5 | 6 => t6 | 8 => s8 | 9 => s9 | 10 => v8 | 11 => v9 | 12 => tf | _ => 0) := ⟨_, rfl⟩
  refine ⟨f, ((fun c => (D c).1, fun c => (D c).2), (cI, cB, cJ, cR), s.heap.size, ad), rfl, (by rw [had]; rfl), ?_⟩
  have hqA : qA ((fun c => (D c).1, fun c => (D c).2), (cI, cB, cJ, cR), s.heap.size, ad) = A := by rw [hAd]; rfl
  unfold qG qY qTh
  rw [hqA]
  refine ⟨fun w hw => ?_, ⟨fun c q hq => hD c q hq, ?_⟩, va_AO.of hao, ⟨?_, ?_, ?_, ?_, ZC, ?_⟩, S0, S1, fun w hw => ?_, ?_, ?_⟩
  · obtain ⟨h1, h2⟩ := List.mem_filter.mp hw
    refine va_Nw.of ?_ (hts w h1)
    revert h2
    split
    · intro _; rfl
    · intro _; rfl
    · intro h; cases h
  · intro k q hk
    match k, hk with
    | 0, hk => cases hk; exact ⟨i1, i2⟩
    | 1, hk => cases hk; exact ⟨b1, b2⟩
    | 2, hk => cases hk; exact ⟨j1, j2⟩
    | 3, hk => cases hk; exact ⟨fun n z => ⟨fun k9 h9 => (by cases h9), kR, r3, comp, r4⟩, kR, comp, r3, r4, r1, r5⟩
    | n + 4, hk => cases hk
  · intro i li h
    unfold qxj at h
    split at h
    · cases h
      refine ⟨by decide, ?_⟩
      obtain ⟨scr, x1, x2, x3, x4, x5⟩ := hX
      have hlen : ((List.range L).map xs).length = L := by rw [List.length_map, List.length_range]
      rw [had]
      refine ⟨scr, x1, x2, x3, (by omega), (by rw [x4, hlen]), fun j hj => ?_, hA b hbl⟩
      rw [hlen] at hj
      rw [x5 j hj]
      show some (Value.int (xs j)) = some (Value.int (((List.range L).map xs).getD j 0))
      rw [List.getD_eq_getElem?_getD, List.getElem?_map, List.getElem?_range hj]
      rfl
    · cases h
      rw [had]
      exact ⟨by decide, T1⟩
    · cases h
      rw [had]
      exact ⟨by decide, T2⟩
    · cases h
      rw [had]
      exact ⟨by decide, T3⟩
    · cases h
      rw [had]
      exact ⟨by decide, T4⟩
    · cases h
      rw [had]
      exact ⟨by decide, T5⟩
    · cases h
      rw [had]
      exact ⟨by decide, T6⟩
    · cases h
    · cases h
    · cases f <;> cases h
    · cases h
  · intro i C n h
    rw [had]
    unfold qsn at h
    split at h
    · cases h; exact ⟨by decide, Z1⟩
    · cases h; exact ⟨by decide, Z2⟩
    · cases h; exact ⟨by decide, Z3⟩
    · cases h; exact ⟨by decide, Z4⟩
    · cases h; exact ⟨by decide, Z5⟩
    · cases h; exact ⟨by decide, Z6⟩
    · cases h
  · intro i li h
    unfold qxj at h
    split at h
    · cases h
    · cases h
    · cases h
    · cases h
    · cases h
    · cases h
    · cases h
    · cases h
      rw [had]
      exact ⟨by decide, B8⟩
    · cases h
      rw [had]
      exact ⟨by decide, B9⟩
    · cases f <;> cases h
    · cases h
  · intro i k x h
    rw [had]
    unfold qtn at h
    split at h
    · cases h; exact ⟨by decide, R8, V8, C8, O8⟩
    · cases h; exact ⟨by decide, R9, V9, C9, O9⟩
    · cases h
  · have e12 : qxj ((List.range L).map xs) f 12 = bif f then some (2, []) else none := rfl
    rw [e12, had]
    cases f with
    | true => exact hf
    | false => exact hf
  · obtain ⟨h1, h2⟩ := List.mem_filter.mp hw
    refine va_Nw.of ?_ (hts w h1)
    revert h2
    split
    · intro _; rfl
    · intro _; rfl
    · intro h; cases h
  · intro q hq
    simp only [qms, List.mem_cons, List.not_mem_nil, or_false] at hq
    rcases hq with rfl | rfl | rfl | rfl | rfl | rfl | rfl | rfl | rfl | rfl | rfl | rfl | rfl | rfl | rfl
    · obtain ⟨a, -, h, -⟩ := q_text (A := A) (hts (Jvm.Cond.stringRef "NestedArchives" (85 : Nat) "META-INF/MANIFEST.MF") (qis_mem (q := (3, 88)) (by decide +kernel))) (hs _ nf_508) hA
      exact ⟨a, h⟩
    · obtain ⟨a, -, h, -⟩ := q_text (A := A) (hts (Jvm.Cond.stringRef "NestedArchives" (91 : Nat) "index.txt") (qis_mem (q := (3, 122)) (by decide +kernel))) (hs _ nf_537) hA
      exact ⟨a, h⟩
    · obtain ⟨a, -, h, -⟩ := q_text (A := A) (hts (Jvm.Cond.stringRef "NestedArchives" (118 : Nat) "the tape is no archive") (qis_mem (q := (4, 52)) (by decide +kernel))) (hs _ nf_556) hA
      exact ⟨a, h⟩
    · obtain ⟨a, -, h, -⟩ := q_text (A := A) (hts (Jvm.Cond.stringRef "NestedArchives" (135 : Nat) "no such entry") (qis_mem (q := (4, 75)) (by decide +kernel))) (hs _ nf_589) hA
      exact ⟨a, h⟩
    · obtain ⟨a, -, h, -⟩ := q_text (A := A) (hts (Jvm.Cond.stringRef "NestedArchives" (158 : Nat) "no such property") (qis_mem (q := (4, 108)) (by decide +kernel))) (hs _ nf_614) hA
      exact ⟨a, h⟩
    · obtain ⟨a, -, h, -⟩ := q_text (A := A) (hts (Jvm.Cond.stringRef "NestedArchives" (174 : Nat) "no such archive") (qis_mem (q := (4, 129)) (by decide +kernel))) (hs _ nf_643) hA
      exact ⟨a, h⟩
    · obtain ⟨a, -, h, -⟩ := q_text (A := A) (hts (Jvm.Cond.stringRef "NestedArchives" (179 : Nat) "mounts are counted from 1 on") (qis_mem (q := (4, 141)) (by decide +kernel))) (hs _ nf_672) hA
      exact ⟨a, h⟩
    · obtain ⟨a, -, h, -⟩ := q_text (A := A) (hts (Jvm.Cond.stringRef "NestedArchives" (185 : Nat) "the entry can't be read") (qis_mem (q := (4, 215)) (by decide +kernel))) (hs _ nf_715) hA
      exact ⟨a, h⟩
    · obtain ⟨a, -, h, -⟩ := q_text (A := A) (hts (Jvm.Cond.stringRef "NestedArchives" (193 : Nat) "the entry can't be mounted") (qis_mem (q := (4, 228)) (by decide +kernel))) (hs _ nf_754) hA
      exact ⟨a, h⟩
    · obtain ⟨a, -, h, -⟩ := q_text (A := A) (hts (Jvm.Cond.stringRef "NestedArchives" (197 : Nat) "there are six mounts") (qis_mem (q := (4, 238)) (by decide +kernel))) (hs _ nf_797) hA
      exact ⟨a, h⟩
    · obtain ⟨a, -, h, -⟩ := q_text (A := A) (hts (Jvm.Cond.stringRef "NestedArchives" (200 : Nat) "there is no outer archive") (qis_mem (q := (5, 12)) (by decide +kernel))) (hs _ nf_835) hA
      exact ⟨a, h⟩
    · obtain ⟨a, -, h, -⟩ := q_text (A := A) (hts (Jvm.Cond.stringRef "NestedArchives" (202 : Nat) "there is no index that can be read") (qis_mem (q := (5, 13)) (by decide +kernel))) (hs _ nf_879) hA
      exact ⟨a, h⟩
    · obtain ⟨a, -, h, -⟩ := q_text (A := A) (hts (Jvm.Cond.stringRef "NestedArchives" (211 : Nat) "a line of the index is wrong, or one too many") (qis_mem (q := (5, 23)) (by decide +kernel))) (hs _ nf_933) hA
      exact ⟨a, h⟩
    · obtain ⟨a, -, h, -⟩ := q_text (A := A) (hts (Jvm.Cond.stringRef "NestedArchives" (220 : Nat) "a line's entry can't be mounted") (qis_mem (q := (5, 24)) (by decide +kernel))) (hs _ nf_999) hA
      exact ⟨a, h⟩
    · obtain ⟨a, -, h, -⟩ := q_text (A := A) (hts (Jvm.Cond.stringRef "NestedArchives" (225 : Nat) "the manifest is wrong or can't be read") (qis_mem (q := (5, 72)) (by decide +kernel))) (hs _ nf_1052) hA
      exact ⟨a, h⟩
  · intro q hq
    simp only [qnc, List.mem_cons, List.not_mem_nil, or_false] at hq
    rcases hq with rfl | rfl | rfl | rfl | rfl | rfl
    · exact va_Nc.of (hs _ nf_405)
    · exact va_Nc.of (hs _ nf_417)
    · exact va_Nc.of (hs _ nf_399)
    · exact va_Nc.of (hs _ nf_425)
    · exact va_Nc.of (hs _ nf_400)
    · exact va_Nc.of (hs _ nf_412)
