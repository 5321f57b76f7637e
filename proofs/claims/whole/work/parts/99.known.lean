-- what is known at the law's entry; its own making of both objects
theorem in_10 : Cond.instantiable RX10 15 ∈ lw_g := am_mem 130 (by decide +kernel) (by decide +kernel)
theorem in_11 : Cond.instantiable RX11 62 ∈ lw_g := am_mem 1147 (by decide +kernel) (by decide +kernel)
theorem ckL_7 : Cond.classLink RL 7 RX10 ∈ lw_g := am_mem 129 (by decide +kernel) (by decide +kernel)
theorem ckL_10 : Cond.classLink RL 10 RX11 ∈ lw_g := am_mem 1146 (by decide +kernel) (by decide +kernel)
theorem miL_9 : Cond.methodLink RL 9 yX10_init ∈ lw_g := am_mem 131 (by decide +kernel) (by decide +kernel)
theorem miL_12 : Cond.methodLink RL 12 yX11_init ∈ lw_g := am_mem 1148 (by decide +kernel) (by decide +kernel)
theorem izL_10 : Cond.initialized RX10 ∈ lw_g := am_mem 109 (by decide +kernel) (by decide +kernel)
theorem izL_11 : Cond.initialized RX11 ∈ lw_g := am_mem 120 (by decide +kernel) (by decide +kernel)
set_option maxRecDepth 100000 in
set_option maxHeartbeats 4000000 in
theorem c_L : Cu mL_law 3 0 [.retAddr 0, .null, .null, .null] [] [] 112 9814 (fun pc' L' cs' => pc' = 18 ∧ L' = [.retAddr 0, .ref 0, .ref 73, .int 0] ∧ cs' = am_F0) := by
  refine cu_new (a := 0) (fs := [.null, .null, .null, .null, .null, .null, .null, .null, .null, .null, .null, .null, .null, .null, .int 0]) (nc := 111) (ns := 9799) cl_10 ckL_7 in_10 izL_10 (fun _ => rfl) (by decide +kernel) rfl dL_law_0 ?_
  refine cu_dup dL_law_3 rfl ?_
  refine cu_init (M' := mX10_init) (cs2 := zX10) (mc := 72) (ms := 4727) (nc := 39) (ns := 5072) [] [.ref 0] dL_law_4 (Or.inl miL_9) mfi_X10 mii_X10 rfl rfl (d' := 2) (by omega) rfl rfl rfl c_X10 (Nat.le_of_ble_eq_true rfl) rfl ?_
  refine cu_astore (L' := [.retAddr 0, .ref 0, .null, .null]) dL_law_7 (by decide) rfl ?_
  refine cu_new (a := 73) (fs := [.null, .null, .null, .null, .null, .null, .int 0, .int 0, .null, .int 0, .int 0, .int 0, .int 0, .int 0, .int 0, .int 0, .int 0, .int 0, .int 0, .null, .null, .null, .null, .null, .null, .null, .null, .null, .null, .null, .null, .null, .null, .null, .null, .null, .null, .int 0, .int 0, .int 0, .int 0, .int 0, .int 0, .null, .null, .null, .null, .null, .null, .int 0, .int 0, .int 0, .int 0, .null, .null, .null, .null, .null, .null, .null, .int 0, .int 0]) (nc := 38) (ns := 5010) cl_11 ckL_10 in_11 izL_11 (fun _ => rfl) (by decide +kernel) rfl dL_law_8 ?_
  refine cu_dup dL_law_11 rfl ?_
  refine cu_init (M' := mX11_init) (cs2 := am_F0) (mc := 38) (ms := 5010) (nc := 0) (ns := 0) [] [.ref 73] dL_law_12 (Or.inl miL_12) mfi_X11 mii_X11 rfl rfl (d' := 1) (by omega) rfl rfl rfl (c_X11 (pre := zX10) rfl) (Nat.le_of_ble_eq_true rfl) rfl ?_
  refine cu_astore (L' := [.retAddr 0, .ref 0, .ref 73, .null]) dL_law_15 (by decide) rfl ?_
  refine cu_iconst (v := 0) dL_law_16 (by decide) ?_
  refine cu_istore (L' := [.retAddr 0, .ref 0, .ref 73, .int 0]) dL_law_17 (by decide) rfl ?_
  exact cu_ret ⟨rfl, rfl, rfl⟩
section
variable {s : State} {args : Array Value}
theorem am_kn {ci : Nat} {C : String} {T : u_T} {N : Nat} {ty0 : Nat → FieldType} (hts : ∀ w ∈ lw_g, w.before args s = true) (hc : am_cls ci C T N ty0) (hi : Cond.instantiable C N ∈ lw_g) : ∃ p : ClassId × (Nat → Nat), ∀ q : vw_C, vwCl[ci]? = some q → u_Kn s q.1 q.2.1 q.2.2 p.1 p.2 := by
  obtain ⟨k1, k2, k3, k4, k5, k6⟩ := hc
  obtain ⟨cC, iS, h⟩ := u_known (C := C) (T := T) (N := N) (n := N) hts k3 (hts _ hi)
  refine ⟨(cC, iS), fun q hq => ?_⟩
  rw [k2] at hq
  cases hq
  exact h
theorem am_kar {ty : FieldType} (hts : ∀ w ∈ lw_g, w.before args s = true) (h : Cond.arrayClass ty ∈ lw_g) : ∃ cA : ClassId, ArrOfT s cA ty ∧ s.vm.findClass ("[" ++ ty.toString) = some cA := by
  obtain ⟨cA, kA, comp, h1, h2, h3⟩ := Cond.arrayClass_spec (hts _ h)
  exact ⟨cA, fun n z => ⟨fun k h => (by cases h), kA, h2, comp, h3⟩, h1⟩
theorem am_kall (hts : ∀ w ∈ lw_g, w.before args s = true) : ∃ (D : va_G) (cT : FieldType → ClassId), va_K D vwCl (am_tys cT) s := by
  have key : ∀ k : Nat, ∃ p : ClassId × (Nat → Nat), ∀ q : vw_C, vwCl[k]? = some q → u_Kn s q.1 q.2.1 q.2.2 p.1 p.2 := fun k => match k with
    | 0 => am_kn hts cl_0 in_0
    | 1 => am_kn hts cl_1 in_1
    | 2 => am_kn hts cl_2 in_2
    | 3 => am_kn hts cl_3 in_3
    | 4 => am_kn hts cl_4 in_4
    | 5 => am_kn hts cl_5 in_5
    | 6 => am_kn hts cl_6 in_6
    | 7 => am_kn hts cl_7 in_7
    | 8 => am_kn hts cl_8 in_8
    | 9 => am_kn hts cl_9 in_9
    | 10 => am_kn hts cl_10 in_10
    | 11 => am_kn hts cl_11 in_11
    | k + 12 => ⟨(0, fun _ => 0), fun q hq => (by
        rw [List.getElem?_eq_none (show vwCl.length ≤ k + 12 from Nat.le_add_left 12 k)] at hq; cases hq)⟩
  obtain ⟨f, hf⟩ := Classical.axiomOfChoice key
  obtain ⟨cI, i1, i2⟩ := am_kar hts aq_int
  obtain ⟨cB, b1, b2⟩ := am_kar hts aq_byte
  obtain ⟨cZ, z1, z2⟩ := am_kar hts aq_boolean
  refine ⟨(fun k => (f k).1, fun k => (f k).2), fun ty => match ty with | .byte => cB | .boolean => cZ | _ => cI, fun c q hq => hf c q hq, fun k q hq => ?_⟩
  match k, hq with
  | 0, hq => cases hq; exact ⟨i1, i2⟩
  | 1, hq => cases hq; exact ⟨b1, b2⟩
  | 2, hq => cases hq; exact ⟨z1, z2⟩
  | k + 3, hq => cases hq
theorem am_kS {b : Nat} (hts : ∀ w ∈ lw_tbl, w.before #[Value.ref b] s = true) (hgv : (Jvm.Cond.and given_1 narrow_1).before #[Value.ref b] s = true) : ∃ q1 q2 : Nat, am_S (s.heap.size, b, q1, q2) s := by
  have hs := flat_of_before _ hgv
  have hA : ∀ a : Nat, a < s.heap.size → ¬ (fun q : Nat => s.heap.size ≤ q) a := fun a h => Nat.not_le.mpr h
  obtain ⟨adK, adV, hS, hev⟩ := vk_Sof (args := #[Value.ref b]) (s := s) (N := 1) (tm := fun _ => .string "BureauCrown$LawReader" 115) (len := [10]) (byt := [[112, 115, 122, 100, 102, 110, 97, 105, 116, 119]]) (A := fun q : Nat => s.heap.size ≤ q)
    (fun i hi => by rw [show i = 0 by omega]; decide) (fun i hi => hs _ (by decide +kernel)) (fun i hi => hs _ (by decide +kernel)) (fun i hi => hs _ (by decide +kernel)) (fun i hi => by rw [show i = 0 by omega]; exact hs _ (by decide +kernel))
    (fun i hi j hj => by
      rw [show i = 0 by omega] at hj ⊢
      have hj' : j < 10 := hj
      rcases (by omega : j = 0 ∨ j = 1 ∨ j = 2 ∨ j = 3 ∨ j = 4 ∨ j = 5 ∨ j = 6 ∨ j = 7 ∨ j = 8 ∨ j = 9) with rfl | rfl | rfl | rfl | rfl | rfl | rfl | rfl | rfl | rfl <;> exact hs _ (by decide +kernel))
    (fun i j hi hj h => absurd (show i = j by omega) h) hA
  refine ⟨adK 0, adV 0, vk_R.of (hts _ (List.mem_of_getElem? (i := 569) (by decide +kernel))) (hev 0 (by omega)), ⟨fun i hi => ?_, fun i j hi hj _ => by omega⟩, ?_⟩
  · have w := hS.1 i hi
    rw [show i = 0 by omega] at w ⊢
    exact w
  · exact va_Zof (hts _ (List.mem_of_getElem? (i := 583) (by decide +kernel))) (hts _ (List.mem_of_getElem? (i := 121) (by decide +kernel))) (va_eqt (hs _ (by decide +kernel))) hA
theorem am_kN {b : Nat} (hts : ∀ w ∈ lw_tbl, w.before #[Value.ref b] s = true) : am_NW s := ⟨va_Nw.of rfl (hts _ (List.mem_of_getElem? (i := 139) (by decide +kernel))), va_Nw.of rfl (hts _ (List.mem_of_getElem? (i := 207) (by decide +kernel))), va_Nw.of rfl (hts _ (List.mem_of_getElem? (i := 273) (by decide +kernel))), va_Nw.of rfl (hts _ (List.mem_of_getElem? (i := 340) (by decide +kernel)))⟩
end
