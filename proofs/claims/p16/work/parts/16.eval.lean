/-! what stands outside: the six tables, the bytes of the two texts -/
def qxi (script : List Int32) (f : Bool) (i : Nat) : Option (Nat × List Int32) := match i with
  | 0 => some (0, script)
  | 1 => some (0, [16, 17, 18, 0, 8, 7, 9, 6, 10, 5, 11, 4, 12, 3, 13, 2, 14, 1, 15])
  | 10 => some (1, [77, 69, 84, 65, 45, 73, 78, 70, 47, 77, 65, 78, 73, 70, 69, 83, 84, 46, 77, 70])
  | 11 => some (1, [105, 110, 100, 101, 120, 46, 116, 120, 116])
  | 12 => bif f then some (2, []) else none
  | _ => none
def qs0 : qH := List.replicate 16 (.inr (.inr (.inr (.inr (.inr 0)))))
set_option maxRecDepth 1000000 in
theorem tev1 : (exe (qxi [] true) 200 3 j_R_init 0 (lv_args 0 [.ref 16, .int 40]) [] (qs0 ++ [.inl (5, qnew 5)])).isSome = true := by decide +kernel
set_option maxRecDepth 1000000 in
theorem tev2 : (exe (qxi [] true) 400 4 j_C_init 0 (lv_args 0 [.ref 16, .int 19]) [] (qs0 ++ [.inl (2, qnew 2)])).isSome = true := by decide +kernel
set_option maxRecDepth 1000000 in
theorem tev3 : (exe (qxi [] true) 2000 6 j_R_addText 0 (lv_args 0 [.ref 16, .ref 9]) [] (qs0 ++ [.inl (5, [.int 40, .ref 17, .int 0]), .inr (.inl (1, []))])).isSome = true := by decide +kernel
set_option maxRecDepth 1000000 in
theorem tev4 : (exe (qxi [] true) 3000 6 j_J_fill2 0 (lv_args 0 [.ref 16, .int 5]) [] (qs0 ++ [.inr (.inl (0, List.replicate 100 0))])).isSome = true := by decide +kernel
