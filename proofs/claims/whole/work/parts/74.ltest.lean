-- the law's text: the class reads tests
set_option maxRecDepth 20000 in
set_option maxHeartbeats 2000000 in
theorem sX3_emitJump_0 {d : Nat} {h : am_H} {Z : Int32 → am_H → Prop} {a0 : Nat} (hb0 : am_la a0) {x1 : Int32} (w : am_cl mX3_emitPair d [.ref a0, .int x1, .int 0] h (fun r1 h2 => Z ((h2.1 a0 8) - 1) h2)) : Ru mX3_emitJump none d 0 [.ref a0, .int x1] [] h Z := by
  refine st_aload_n dX3_emitJump_0 rfl ?_
  refine st_iload_n dX3_emitJump_1 rfl ?_
  refine st_iconst (v := 0) dX3_emitJump_2 (by decide) ?_
  refine st_callV (M' := mX3_emitPair) [.int x1, .int 0] [] dX3_emitJump_3 ml_X3_44 mf_X3_emitPair mv_X3_emitPair (la_0 hb0) rfl rfl rfl w (fun r1 h2 w => ?_)
  show Ru mX3_emitJump none d 6 [.ref a0, .int x1] [] h2 Z
  refine st_aload_n dX3_emitJump_6 rfl ?_
  refine st_getI fl_X3_37 fk_3_8 dX3_emitJump_7 (la_0 hb0) ?_
  refine st_iconst (v := 1) dX3_emitJump_10 (by decide) ?_
  refine st_isub dX3_emitJump_11 ?_
  exact st_ireturn rfl rfl dX3_emitJump_12 w
set_option maxRecDepth 20000 in
set_option maxHeartbeats 2000000 in
theorem sX3_land_0 {d : Nat} {h : am_H} {Z : Int32 → am_H → Prop} {a0 : Nat} (hb0 : am_la a0) {x1 : Int32} (w : (x1 < 0 → Z 0 h) ∧ (¬ (x1 < 0) → (512 ≤ x1 → Z 0 h) ∧ (¬ (512 ≤ x1) → (vp_in x1 512 ∧ (∀ h2 : am_H, h2 = am_sR h (a0 + 5) (upd (h.2.2 (a0 + 5)) x1.toNatClampNeg (h.1 a0 8)) → (Z 0 h2)))))) : Ru mX3_land none d 0 [.ref a0, .int x1] [] h Z := by
  refine st_iload_n dX3_land_0 rfl ?_
  refine st_if_lt (tgt := 21) dX3_land_1 (by decide) (fun c => ?_) (fun c => ?_)
  · replace w := w.1 c
    exact st_return rfl dX3_land_21 w
  · replace w := w.2 c
    refine st_iload_n dX3_land_4 rfl ?_
    refine st_sipush (v := 512) dX3_land_5 (by decide) ?_
    refine st_icmp_ge (tgt := 21) dX3_land_8 (by decide) (fun c => ?_) (fun c => ?_)
    · replace w := w.1 c
      exact st_return rfl dX3_land_21 w
    · replace w := w.2 c
      refine st_aload_n dX3_land_11 rfl ?_
      refine st_getF (q := a0 + 5) fl_X3_24 fk_3_4 rfl dX3_land_12 (la_0 hb0) ?_
      refine st_iload_n dX3_land_15 rfl ?_
      refine st_aload_n dX3_land_16 rfl ?_
      refine st_getI fl_X3_37 fk_3_8 dX3_land_17 (la_0 hb0) ?_
      have hc1 := w.1
      replace w := w.2
      refine st_iast dX3_land_20 (la_5 hb0) hc1 (fun h2 eh2 => ?_)
      replace w := w h2 eh2
      exact st_return rfl dX3_land_21 w
set_option maxRecDepth 20000 in
set_option maxHeartbeats 2000000 in
theorem sX4_readTest_0 {d : Nat} {h : am_H} {Z : Int32 → am_H → Prop} {x1 : Int32} (hd : 4 ≤ d) (w : (¬ (am_pk h) = 33 → (¬ (am_pk h) = 40 → am_cl mX4_readSum d [.ref 72, .int x1] h (fun r1 h2 => (¬ ((am_pk h2) = 60 ∨ (am_pk h2) = 62 ∨ (am_pk h2) = 61) → Z 0 (am_fal h2 (1 : Int32) (h2.1 3 2))) ∧ ((am_pk h2) = 60 ∨ (am_pk h2) = 62 ∨ (am_pk h2) = 61 → am_cl mX4_readSum d [.ref 72, .int x1] (am_sI h2 3 2 (h2.1 3 2 + 1)) (fun r3 h4 => (am_la (h4.2.1 72 1) ∧ (am_cl mX3_emit d [.ref (h4.2.1 72 1), .int (am_pk h2)] h4 (fun r6 h7 => Z 0 h7))))))) ∧ ((am_pk h) = 40 → am_cl mX4_opens d [.ref 72, .int x1] h (fun r8 h9 => (r8 = 0 → Z 0 h9) ∧ (¬ (r8 = 0) → am_cl mX4_readChoice d [.ref 72, .int (x1 + 1)] h9 (fun r10 h11 => Z 0 (am_exp h11 (41 : Int32))))))) ∧ ((am_pk h) = 33 → am_cl mX4_opens d [.ref 72, .int x1] h (fun r12 h13 => (r12 = 0 → Z 0 h13) ∧ (¬ (r12 = 0) → am_cl mX4_readTest d [.ref 72, .int (x1 + 1)] h13 (fun r14 h15 => (am_la (h15.2.1 72 1) ∧ (am_cl mX3_emit d [.ref (h15.2.1 72 1), .int 3] h15 (fun r17 h18 => Z 0 h18)))))))) : Ru mX4_readTest none d 0 [.ref 72, .int x1, .null, .null] [] h Z := by
  refine st_aload_n dX4_readTest_0 rfl ?_
  refine st_getF (q := 3) fl_X4_9 fk_4_0 rfl dX4_readTest_1 sh_72 ?_
  refine st_callV (M' := mX7_peek) [] [] dX4_readTest_4 ml_X4_37 mf_X7_peek mv_X7_peek sh_3 rfl rfl rfl (K := fun r h' => (am_pk h) = r ∧ h = h') ⟨2, by omega, iX7_peek (by omega) ⟨rfl, rfl⟩⟩ (fun r1 h1 w1 => ?_)
  obtain ⟨rfl, rfl⟩ := w1
  show Ru mX4_readTest none d 7 [.ref 72, .int x1, .null, .null] [.int (am_pk h)] h Z
  refine st_istore_n (L' := [.ref 72, .int x1, .int (am_pk h), .null]) dX4_readTest_7 (by decide) rfl ?_
  refine st_iload_n dX4_readTest_8 rfl ?_
  refine st_bipush (v := 33) dX4_readTest_9 (by decide) ?_
  refine st_icmp_ne (tgt := 40) dX4_readTest_11 (by decide) (fun c => ?_) (fun c => ?_)
  · replace w := w.1 c
    refine st_iload_n dX4_readTest_40 rfl ?_
    refine st_bipush (v := 40) dX4_readTest_41 (by decide) ?_
    refine st_icmp_ne (tgt := 73) dX4_readTest_43 (by decide) (fun c => ?_) (fun c => ?_)
    · replace w := w.1 c
      refine st_aload_n dX4_readTest_73 rfl ?_
      refine st_iload_n dX4_readTest_74 rfl ?_
      refine st_callV (M' := mX4_readSum) [.int x1] [] dX4_readTest_75 ml_X4_61 mf_X4_readSum mv_X4_readSum sh_72 rfl rfl rfl w (fun r1 h2 w => ?_)
      show Ru mX4_readTest none d 78 [.ref 72, .int x1, .int (am_pk h), .null] [] h2 Z
      refine st_aload_n dX4_readTest_78 rfl ?_
      refine st_getF (q := 3) fl_X4_9 fk_4_0 rfl dX4_readTest_79 sh_72 ?_
      refine st_callV (M' := mX7_peek) [] [] dX4_readTest_82 ml_X4_37 mf_X7_peek mv_X7_peek sh_3 rfl rfl rfl (K := fun r h' => (am_pk h2) = r ∧ h2 = h') ⟨2, by omega, iX7_peek (by omega) ⟨rfl, rfl⟩⟩ (fun r1 h1 w1 => ?_)
      obtain ⟨rfl, rfl⟩ := w1
      show Ru mX4_readTest none d 85 [.ref 72, .int x1, .int (am_pk h), .null] [.int (am_pk h2)] h2 Z
      refine st_istore_n (L' := [.ref 72, .int x1, .int (am_pk h), .int (am_pk h2)]) dX4_readTest_85 (by decide) rfl ?_
      refine st_iload_n dX4_readTest_86 rfl ?_
      refine st_callS (M' := mX4_isComparison) [.int (am_pk h2)] [] dX4_readTest_87 ml_X4_91 mf_X4_isComparison ms_X4_isComparison rfl rfl rfl (K := fun r h' => (am_b ((am_pk h2) = 60 ∨ (am_pk h2) = 62 ∨ (am_pk h2) = 61)) = r ∧ h2 = h') ⟨1, by omega, iX4_isComparison ⟨rfl, rfl⟩⟩ (fun r1 h1 w1 => ?_)
      obtain ⟨rfl, rfl⟩ := w1
      show Ru mX4_readTest none d 90 [.ref 72, .int x1, .int (am_pk h), .int (am_pk h2)] [.int (am_b ((am_pk h2) = 60 ∨ (am_pk h2) = 62 ∨ (am_pk h2) = 61))] h2 Z
      refine st_ifb_eq (tgt := 116) dX4_readTest_90 (by decide) (fun c => ?_) (fun c => ?_)
      · replace w := w.1 c
        refine st_aload_n dX4_readTest_116 rfl ?_
        refine st_getF (q := 3) fl_X4_9 fk_4_0 rfl dX4_readTest_117 sh_72 ?_
        refine st_iconst (v := 1) dX4_readTest_120 (by decide) ?_
        refine st_callV (M' := mX7_failHere) [.int 1] [] dX4_readTest_121 ml_X4_48 mf_X7_failHere mv_X7_failHere sh_3 rfl rfl rfl (K := fun r h' => 0 = r ∧ am_fal h2 (1 : Int32) (h2.1 3 2) = h') ⟨2, by omega, iX7_failHere (by omega) ⟨rfl, rfl⟩⟩ (fun r1 h1 w1 => ?_)
        obtain ⟨rfl, rfl⟩ := w1
        show Ru mX4_readTest none d 124 [.ref 72, .int x1, .int (am_pk h), .int (am_pk h2)] [] (am_fal h2 (1 : Int32) (h2.1 3 2)) Z
        exact st_return rfl dX4_readTest_124 w
      · replace w := w.2 c
        refine st_aload_n dX4_readTest_93 rfl ?_
        refine st_getF (q := 3) fl_X4_9 fk_4_0 rfl dX4_readTest_94 sh_72 ?_
        refine st_callV (M' := mX7_next) [] [] dX4_readTest_97 ml_X4_51 mf_X7_next mv_X7_next sh_3 rfl rfl rfl (K := fun r h' => 0 = r ∧ am_sI h2 3 2 (h2.1 3 2 + 1) = h') ⟨1, by omega, iX7_next ⟨rfl, rfl⟩⟩ (fun r1 h1 w1 => ?_)
        obtain ⟨rfl, rfl⟩ := w1
        show Ru mX4_readTest none d 100 [.ref 72, .int x1, .int (am_pk h), .int (am_pk h2)] [] (am_sI h2 3 2 (h2.1 3 2 + 1)) Z
        refine st_aload_n dX4_readTest_100 rfl ?_
        refine st_iload_n dX4_readTest_101 rfl ?_
        refine st_callV (M' := mX4_readSum) [.int x1] [] dX4_readTest_102 ml_X4_61 mf_X4_readSum mv_X4_readSum sh_72 rfl rfl rfl w (fun r3 h4 w => ?_)
        show Ru mX4_readTest none d 105 [.ref 72, .int x1, .int (am_pk h), .int (am_pk h2)] [] h4 Z
        refine st_aload_n dX4_readTest_105 rfl ?_
        refine st_getP fl_X4_15 fk_4_1 dX4_readTest_106 sh_72 ?_
        have hc5 := w.1
        replace w := w.2
        refine st_iload_n dX4_readTest_109 rfl ?_
        refine st_callV (M' := mX3_emit) [.int (am_pk h2)] [] dX4_readTest_110 ml_X4_88 mf_X3_emit mv_X3_emit (la_0 hc5) rfl rfl rfl w (fun r6 h7 w => ?_)
        show Ru mX4_readTest none d 113 [.ref 72, .int x1, .int (am_pk h), .int (am_pk h2)] [] h7 Z
        refine st_goto (tgt := 124) dX4_readTest_113 (by decide) ?_
        exact st_return rfl dX4_readTest_124 w
    · replace w := w.2 c
      refine st_aload_n dX4_readTest_46 rfl ?_
      refine st_iload_n dX4_readTest_47 rfl ?_
      refine st_callV (M' := mX4_opens) [.int x1] [] dX4_readTest_48 ml_X4_84 mf_X4_opens mv_X4_opens sh_72 rfl rfl rfl w (fun r8 h9 w => ?_)
      show Ru mX4_readTest none d 51 [.ref 72, .int x1, .int (am_pk h), .null] [.int r8] h9 Z
      refine st_if_eq (tgt := 124) dX4_readTest_51 (by decide) (fun c => ?_) (fun c => ?_)
      · replace w := w.1 c
        exact st_return rfl dX4_readTest_124 w
      · replace w := w.2 c
        refine st_aload_n dX4_readTest_54 rfl ?_
        refine st_iload_n dX4_readTest_55 rfl ?_
        refine st_iconst (v := 1) dX4_readTest_56 (by decide) ?_
        refine st_iadd dX4_readTest_57 ?_
        refine st_callV (M' := mX4_readChoice) [.int (x1 + 1)] [] dX4_readTest_58 ml_X4_64 mf_X4_readChoice mv_X4_readChoice sh_72 rfl rfl rfl w (fun r10 h11 w => ?_)
        show Ru mX4_readTest none d 61 [.ref 72, .int x1, .int (am_pk h), .null] [] h11 Z
        refine st_aload_n dX4_readTest_61 rfl ?_
        refine st_getF (q := 3) fl_X4_9 fk_4_0 rfl dX4_readTest_62 sh_72 ?_
        refine st_bipush (v := 41) dX4_readTest_65 (by decide) ?_
        refine st_callV (M' := mX7_expect) [.int 41] [] dX4_readTest_67 ml_X4_41 mf_X7_expect mv_X7_expect sh_3 rfl rfl rfl (K := fun r h' => 0 = r ∧ am_exp h11 (41 : Int32) = h') ⟨3, by omega, iX7_expect (by omega) ⟨rfl, rfl⟩⟩ (fun r1 h1 w1 => ?_)
        obtain ⟨rfl, rfl⟩ := w1
        show Ru mX4_readTest none d 70 [.ref 72, .int x1, .int (am_pk h), .null] [] (am_exp h11 (41 : Int32)) Z
        refine st_goto (tgt := 124) dX4_readTest_70 (by decide) ?_
        exact st_return rfl dX4_readTest_124 w
  · replace w := w.2 c
    refine st_aload_n dX4_readTest_14 rfl ?_
    refine st_iload_n dX4_readTest_15 rfl ?_
    refine st_callV (M' := mX4_opens) [.int x1] [] dX4_readTest_16 ml_X4_84 mf_X4_opens mv_X4_opens sh_72 rfl rfl rfl w (fun r12 h13 w => ?_)
    show Ru mX4_readTest none d 19 [.ref 72, .int x1, .int (am_pk h), .null] [.int r12] h13 Z
    refine st_if_eq (tgt := 124) dX4_readTest_19 (by decide) (fun c => ?_) (fun c => ?_)
    · replace w := w.1 c
      exact st_return rfl dX4_readTest_124 w
    · replace w := w.2 c
      refine st_aload_n dX4_readTest_22 rfl ?_
      refine st_iload_n dX4_readTest_23 rfl ?_
      refine st_iconst (v := 1) dX4_readTest_24 (by decide) ?_
      refine st_iadd dX4_readTest_25 ?_
      refine st_callV (M' := mX4_readTest) [.int (x1 + 1)] [] dX4_readTest_26 ml_X4_81 mf_X4_readTest mv_X4_readTest sh_72 rfl rfl rfl w (fun r14 h15 w => ?_)
      show Ru mX4_readTest none d 29 [.ref 72, .int x1, .int (am_pk h), .null] [] h15 Z
      refine st_aload_n dX4_readTest_29 rfl ?_
      refine st_getP fl_X4_15 fk_4_1 dX4_readTest_30 sh_72 ?_
      have hc16 := w.1
      replace w := w.2
      refine st_iconst (v := 3) dX4_readTest_33 (by decide) ?_
      refine st_callV (M' := mX3_emit) [.int 3] [] dX4_readTest_34 ml_X4_88 mf_X3_emit mv_X3_emit (la_0 hc16) rfl rfl rfl w (fun r17 h18 w => ?_)
      show Ru mX4_readTest none d 37 [.ref 72, .int x1, .int (am_pk h), .null] [] h18 Z
      refine st_goto (tgt := 124) dX4_readTest_37 (by decide) ?_
      exact st_return rfl dX4_readTest_124 w
set_option maxRecDepth 20000 in
set_option maxHeartbeats 2000000 in
theorem sX4_readPart_0 {d : Nat} {h : am_H} {Z : Int32 → am_H → Prop} {x1 : Int32} (w : am_cl mX4_readTest d [.ref 72, .int x1] h (fun r1 h2 => Ru mX4_readPart none d 7 [.ref 72, .int x1, .int 0, .null] [] h2 Z)) : Ru mX4_readPart none d 0 [.ref 72, .int x1, .null, .null] [] h Z := by
  refine st_aload_n dX4_readPart_0 rfl ?_
  refine st_iload_n dX4_readPart_1 rfl ?_
  refine st_callV (M' := mX4_readTest) [.int x1] [] dX4_readPart_2 ml_X4_81 mf_X4_readTest mv_X4_readTest sh_72 rfl rfl rfl w (fun r1 h2 w => ?_)
  show Ru mX4_readPart none d 5 [.ref 72, .int x1, .null, .null] [] h2 Z
  refine st_iconst (v := 0) dX4_readPart_5 (by decide) ?_
  refine st_istore_n (L' := [.ref 72, .int x1, .int 0, .null]) dX4_readPart_6 (by decide) rfl ?_
  exact w
set_option maxRecDepth 20000 in
set_option maxHeartbeats 2000000 in
theorem sX4_readPart_7 {d : Nat} {h : am_H} {Z : Int32 → am_H → Prop} {x1 : Int32} {x2 : Int32} {u3 : Value} (hd : 3 ≤ d) (w : (240 ≤ x2 → Z 0 h) ∧ (¬ (240 ≤ x2) → (¬ (am_pk h) = 38 → Z 0 h) ∧ ((am_pk h) = 38 → (am_la ((am_sI h 3 2 (h.1 3 2 + 1)).2.1 72 1) ∧ (am_cl mX3_emitJump d [.ref ((am_sI h 3 2 (h.1 3 2 + 1)).2.1 72 1), .int 5] (am_sI h 3 2 (h.1 3 2 + 1)) (fun r2 h3 => am_cl mX4_readTest d [.ref 72, .int x1] h3 (fun r4 h5 => (am_la (h5.2.1 72 1) ∧ (am_cl mX3_land d [.ref (h5.2.1 72 1), .int r2] h5 (fun r7 h8 => Ru mX4_readPart none d 7 [.ref 72, .int x1, .int (x2 + 1), .int r2] [] h8 Z)))))))))) : Ru mX4_readPart none d 7 [.ref 72, .int x1, .int x2, u3] [] h Z := by
  refine st_iload_n dX4_readPart_7 rfl ?_
  refine st_sipush (v := 240) dX4_readPart_8 (by decide) ?_
  refine st_icmp_ge (tgt := 61) dX4_readPart_11 (by decide) (fun c => ?_) (fun c => ?_)
  · replace w := w.1 c
    exact st_return rfl dX4_readPart_61 w
  · replace w := w.2 c
    refine st_aload_n dX4_readPart_14 rfl ?_
    refine st_getF (q := 3) fl_X4_9 fk_4_0 rfl dX4_readPart_15 sh_72 ?_
    refine st_callV (M' := mX7_peek) [] [] dX4_readPart_18 ml_X4_37 mf_X7_peek mv_X7_peek sh_3 rfl rfl rfl (K := fun r h' => (am_pk h) = r ∧ h = h') ⟨2, by omega, iX7_peek (by omega) ⟨rfl, rfl⟩⟩ (fun r1 h1 w1 => ?_)
    obtain ⟨rfl, rfl⟩ := w1
    show Ru mX4_readPart none d 21 [.ref 72, .int x1, .int x2, u3] [.int (am_pk h)] h Z
    refine st_bipush (v := 38) dX4_readPart_21 (by decide) ?_
    refine st_icmp_ne (tgt := 61) dX4_readPart_23 (by decide) (fun c => ?_) (fun c => ?_)
    · replace w := w.1 c
      exact st_return rfl dX4_readPart_61 w
    · replace w := w.2 c
      refine st_aload_n dX4_readPart_26 rfl ?_
      refine st_getF (q := 3) fl_X4_9 fk_4_0 rfl dX4_readPart_27 sh_72 ?_
      refine st_callV (M' := mX7_next) [] [] dX4_readPart_30 ml_X4_51 mf_X7_next mv_X7_next sh_3 rfl rfl rfl (K := fun r h' => 0 = r ∧ am_sI h 3 2 (h.1 3 2 + 1) = h') ⟨1, by omega, iX7_next ⟨rfl, rfl⟩⟩ (fun r1 h1 w1 => ?_)
      obtain ⟨rfl, rfl⟩ := w1
      show Ru mX4_readPart none d 33 [.ref 72, .int x1, .int x2, u3] [] (am_sI h 3 2 (h.1 3 2 + 1)) Z
      refine st_aload_n dX4_readPart_33 rfl ?_
      refine st_getP fl_X4_15 fk_4_1 dX4_readPart_34 sh_72 ?_
      have hc1 := w.1
      replace w := w.2
      refine st_iconst (v := 5) dX4_readPart_37 (by decide) ?_
      refine st_callV (M' := mX3_emitJump) [.int 5] [] dX4_readPart_38 ml_X4_74 mf_X3_emitJump mv_X3_emitJump (la_0 hc1) rfl rfl rfl w (fun r2 h3 w => ?_)
      show Ru mX4_readPart none d 41 [.ref 72, .int x1, .int x2, u3] [.int r2] h3 Z
      refine st_istore_n (L' := [.ref 72, .int x1, .int x2, .int r2]) dX4_readPart_41 (by decide) rfl ?_
      refine st_aload_n dX4_readPart_42 rfl ?_
      refine st_iload_n dX4_readPart_43 rfl ?_
      refine st_callV (M' := mX4_readTest) [.int x1] [] dX4_readPart_44 ml_X4_81 mf_X4_readTest mv_X4_readTest sh_72 rfl rfl rfl w (fun r4 h5 w => ?_)
      show Ru mX4_readPart none d 47 [.ref 72, .int x1, .int x2, .int r2] [] h5 Z
      refine st_aload_n dX4_readPart_47 rfl ?_
      refine st_getP fl_X4_15 fk_4_1 dX4_readPart_48 sh_72 ?_
      have hc6 := w.1
      replace w := w.2
      refine st_iload_n dX4_readPart_51 rfl ?_
      refine st_callV (M' := mX3_land) [.int r2] [] dX4_readPart_52 ml_X4_78 mf_X3_land mv_X3_land (la_0 hc6) rfl rfl rfl w (fun r7 h8 w => ?_)
      show Ru mX4_readPart none d 55 [.ref 72, .int x1, .int x2, .int r2] [] h8 Z
      refine st_iinc (L' := [.ref 72, .int x1, .int (x2 + 1), .int r2]) dX4_readPart_55 rfl rfl (by decide) rfl ?_
      refine st_goto (tgt := 7) dX4_readPart_58 (by decide) ?_
      exact w
set_option maxRecDepth 20000 in
set_option maxHeartbeats 2000000 in
theorem sX4_readChoice_0 {d : Nat} {h : am_H} {Z : Int32 → am_H → Prop} {x1 : Int32} (w : am_cl mX4_readPart d [.ref 72, .int x1] h (fun r1 h2 => Ru mX4_readChoice none d 7 [.ref 72, .int x1, .int 0, .null] [] h2 Z)) : Ru mX4_readChoice none d 0 [.ref 72, .int x1, .null, .null] [] h Z := by
  refine st_aload_n dX4_readChoice_0 rfl ?_
  refine st_iload_n dX4_readChoice_1 rfl ?_
  refine st_callV (M' := mX4_readPart) [.int x1] [] dX4_readChoice_2 ml_X4_71 mf_X4_readPart mv_X4_readPart sh_72 rfl rfl rfl w (fun r1 h2 w => ?_)
  show Ru mX4_readChoice none d 5 [.ref 72, .int x1, .null, .null] [] h2 Z
  refine st_iconst (v := 0) dX4_readChoice_5 (by decide) ?_
  refine st_istore_n (L' := [.ref 72, .int x1, .int 0, .null]) dX4_readChoice_6 (by decide) rfl ?_
  exact w
set_option maxRecDepth 20000 in
set_option maxHeartbeats 2000000 in
theorem sX4_readChoice_7 {d : Nat} {h : am_H} {Z : Int32 → am_H → Prop} {x1 : Int32} {x2 : Int32} {u3 : Value} (hd : 3 ≤ d) (w : (240 ≤ x2 → Z 0 h) ∧ (¬ (240 ≤ x2) → (¬ (am_pk h) = 124 → Z 0 h) ∧ ((am_pk h) = 124 → (am_la ((am_sI h 3 2 (h.1 3 2 + 1)).2.1 72 1) ∧ (am_cl mX3_emitJump d [.ref ((am_sI h 3 2 (h.1 3 2 + 1)).2.1 72 1), .int 4] (am_sI h 3 2 (h.1 3 2 + 1)) (fun r2 h3 => am_cl mX4_readPart d [.ref 72, .int x1] h3 (fun r4 h5 => (am_la (h5.2.1 72 1) ∧ (am_cl mX3_land d [.ref (h5.2.1 72 1), .int r2] h5 (fun r7 h8 => Ru mX4_readChoice none d 7 [.ref 72, .int x1, .int (x2 + 1), .int r2] [] h8 Z)))))))))) : Ru mX4_readChoice none d 7 [.ref 72, .int x1, .int x2, u3] [] h Z := by
  refine st_iload_n dX4_readChoice_7 rfl ?_
  refine st_sipush (v := 240) dX4_readChoice_8 (by decide) ?_
  refine st_icmp_ge (tgt := 61) dX4_readChoice_11 (by decide) (fun c => ?_) (fun c => ?_)
  · replace w := w.1 c
    exact st_return rfl dX4_readChoice_61 w
  · replace w := w.2 c
    refine st_aload_n dX4_readChoice_14 rfl ?_
    refine st_getF (q := 3) fl_X4_9 fk_4_0 rfl dX4_readChoice_15 sh_72 ?_
    refine st_callV (M' := mX7_peek) [] [] dX4_readChoice_18 ml_X4_37 mf_X7_peek mv_X7_peek sh_3 rfl rfl rfl (K := fun r h' => (am_pk h) = r ∧ h = h') ⟨2, by omega, iX7_peek (by omega) ⟨rfl, rfl⟩⟩ (fun r1 h1 w1 => ?_)
    obtain ⟨rfl, rfl⟩ := w1
    show Ru mX4_readChoice none d 21 [.ref 72, .int x1, .int x2, u3] [.int (am_pk h)] h Z
    refine st_bipush (v := 124) dX4_readChoice_21 (by decide) ?_
    refine st_icmp_ne (tgt := 61) dX4_readChoice_23 (by decide) (fun c => ?_) (fun c => ?_)
    · replace w := w.1 c
      exact st_return rfl dX4_readChoice_61 w
    · replace w := w.2 c
      refine st_aload_n dX4_readChoice_26 rfl ?_
      refine st_getF (q := 3) fl_X4_9 fk_4_0 rfl dX4_readChoice_27 sh_72 ?_
      refine st_callV (M' := mX7_next) [] [] dX4_readChoice_30 ml_X4_51 mf_X7_next mv_X7_next sh_3 rfl rfl rfl (K := fun r h' => 0 = r ∧ am_sI h 3 2 (h.1 3 2 + 1) = h') ⟨1, by omega, iX7_next ⟨rfl, rfl⟩⟩ (fun r1 h1 w1 => ?_)
      obtain ⟨rfl, rfl⟩ := w1
      show Ru mX4_readChoice none d 33 [.ref 72, .int x1, .int x2, u3] [] (am_sI h 3 2 (h.1 3 2 + 1)) Z
      refine st_aload_n dX4_readChoice_33 rfl ?_
      refine st_getP fl_X4_15 fk_4_1 dX4_readChoice_34 sh_72 ?_
      have hc1 := w.1
      replace w := w.2
      refine st_iconst (v := 4) dX4_readChoice_37 (by decide) ?_
      refine st_callV (M' := mX3_emitJump) [.int 4] [] dX4_readChoice_38 ml_X4_74 mf_X3_emitJump mv_X3_emitJump (la_0 hc1) rfl rfl rfl w (fun r2 h3 w => ?_)
      show Ru mX4_readChoice none d 41 [.ref 72, .int x1, .int x2, u3] [.int r2] h3 Z
      refine st_istore_n (L' := [.ref 72, .int x1, .int x2, .int r2]) dX4_readChoice_41 (by decide) rfl ?_
      refine st_aload_n dX4_readChoice_42 rfl ?_
      refine st_iload_n dX4_readChoice_43 rfl ?_
      refine st_callV (M' := mX4_readPart) [.int x1] [] dX4_readChoice_44 ml_X4_71 mf_X4_readPart mv_X4_readPart sh_72 rfl rfl rfl w (fun r4 h5 w => ?_)
      show Ru mX4_readChoice none d 47 [.ref 72, .int x1, .int x2, .int r2] [] h5 Z
      refine st_aload_n dX4_readChoice_47 rfl ?_
      refine st_getP fl_X4_15 fk_4_1 dX4_readChoice_48 sh_72 ?_
      have hc6 := w.1
      replace w := w.2
      refine st_iload_n dX4_readChoice_51 rfl ?_
      refine st_callV (M' := mX3_land) [.int r2] [] dX4_readChoice_52 ml_X4_78 mf_X3_land mv_X3_land (la_0 hc6) rfl rfl rfl w (fun r7 h8 w => ?_)
      show Ru mX4_readChoice none d 55 [.ref 72, .int x1, .int x2, .int r2] [] h8 Z
      refine st_iinc (L' := [.ref 72, .int x1, .int (x2 + 1), .int r2]) dX4_readChoice_55 rfl rfl (by decide) rfl ?_
      refine st_goto (tgt := 7) dX4_readChoice_58 (by decide) ?_
      exact w
section
variable {d n g : Nat} {h : am_H} {Z : Int32 → am_H → Prop} {t : Nat → Nat}
theorem iX3_emitJump {x : Int32} (hd : 3 ≤ d) (hg : am_la g) (z : ∀ r h', lc_e2 g x 0 h h' → (∀ p, h.1 g 8 = nI p → p + 1 < 512 → r = nI (p + 1)) → Z r h') : Sp mX3_emitJump d [.ref g, .int x] h Z := by
  refine Sp_of mf_X3_emitJump rfl (Nat.le_of_ble_eq_true rfl) rfl (sX3_emitJump_0 hg ⟨2, by omega, iX3_emitPair (by omega) hg (fun h2 m => z _ h2 m (fun p e hp => ?_))⟩)
  rw [(m.2.2 p e hp).1]
  exact am_sub_n (a := p + 2) (c := 1) (by omega)
def lc_ld (g : Nat) (x : Int32) (h h' : am_H) : Prop := lc_fr g h h' ∧ h'.1 = h.1 ∧ ∀ q, x = nI q → q < 512 → h'.2.2 (g + 5) = upd (h.2.2 (g + 5)) q (h.1 g 8)
theorem iX3_land {x : Int32} (hg : am_la g) (z : ∀ h', lc_ld g x h h' → Z 0 h') : Sp mX3_land d [.ref g, .int x] h Z := by
  refine Sp_of mf_X3_land rfl (Nat.le_of_ble_eq_true rfl) rfl (sX3_land_0 hg ⟨fun c => z h ⟨lc_fr_rf g h, rfl, fun q e hq => ?_⟩, fun c => ⟨fun c2 => z h ⟨lc_fr_rf g h, rfl, fun q e hq => ?_⟩, fun c2 => ⟨am_vin (n := 512) (by decide) c c2, fun h2 e2 => z h2 ?_⟩⟩⟩)
  · rw [e] at c; exact absurd c (nI_pos (by omega))
  · rw [e] at c2; exact absurd c2 (nI_ge (b := 512) hq (by omega))
  · rw [e2]
    exact ⟨⟨fun a ha => by rw [am_gR, if_neg ha], fun a k n1 n2 => rfl, rfl⟩, rfl, fun q e hq => by rw [am_gRs, e, nI_clamp (by omega)]⟩
/-- a jump over what was read -/
theorem lc_j {k p op : Nat} {x r : Int32} {h1 h3 h5 h8 : am_H} {io : lp_O} (hg : am_la g) (hop : (op = 11 ∧ x = 5) ∨ (op = 12 ∧ x = 4)) (n1 : lc_fr g h h1) (n4 : ∀ j, j < p → h1.2.2 (g + 5) j = h.2.2 (g + 5) j) (e8 : h1.1 g 8 = nI p) (pb : p + 1 < 512) (m2 : lc_e2 g x 0 h1 h3) (hr : ∀ p, h1.1 g 8 = nI p → p + 1 < 512 → r = nI (p + 1)) (oc : lc_oc t n g (p + 2) h3 h5 io) (m : lc_ld g r h5 h8) : lc_oc t n g p h h8 (lp_jm op io) := by
  refine ⟨lc_fr_tr n1 (lc_fr_tr m2.1 (lc_fr_tr oc.1 m.1)), ?_⟩
  obtain ⟨b1, b2⟩ := m2.2.2 p e8 pb
  have er := hr p e8 pb
  have hA := m.2.2 (p + 1) er (by omega)
  unfold lp_jm
  rcases oc.2 with ⟨a1, a2, a3, a4, a5⟩ | ⟨w1, w2⟩
  · rw [if_pos a1]
    refine Or.inl ⟨rfl, lc_ss hg m.1 (by rw [m.2.1]) a2, ?_, fun j hj => ?_, ?_, ?_⟩
    · show h8.1 g 8 = nI (p + (lp_z op + lp_cz io.2.2))
      rw [m.2.1, a3, lp_z_2 (C := 0) (by omega), Nat.add_assoc]
    · rw [hA]
      unfold upd
      rw [if_neg (by omega), a4 j (by omega), b2]
      unfold upd
      rw [if_neg (by omega), if_neg (by omega)]; exact n4 j hj
    · refine Or.inr (Or.inr (Or.inr (Or.inl ⟨?_, Nat.le_refl _, ?_⟩)))
      · have e : h8.2.2 (g + 5) p = x := by
          rw [hA]; unfold upd; rw [if_neg (by omega), a4 p (by omega), b2]; unfold upd; rw [if_neg (by omega), if_pos rfl]
        rcases hop with ⟨w1, w2⟩ | ⟨w1, w2⟩
        · exact Or.inl ⟨w1, e.trans w2⟩
        · exact Or.inr ⟨w1, e.trans w2⟩
      · show h8.2.2 (g + 5) (p + 1) = nI (p + 2 + lp_cz (io.2.2.take io.2.2.length))
        rw [List.take_length, hA]; unfold upd; rw [if_pos rfl]; exact a3
    · show lp_enc (h8.2.2 (g + 5)) io.2.2 (p + lp_z op)
      rw [lp_z_2 (C := 0) (by omega)]
      refine lp_enc_cg (fun j h1 h2 => ?_) a5
      rw [hA]; unfold upd; rw [if_neg (by omega)]
  · rw [if_neg w1]
    exact Or.inr ⟨w1, by rw [m.2.1]; exact w2⟩
theorem lx_p {o : Nat} {it : Nat → lp_O} (hd : 5 ≤ d) (hn : n ≤ 240) (hg : am_la g) (hi : lp_G n it 0 100) (hI : lc_C t n g mX4_readTest [.ref 72, .int (nI o)] (d - 1) it) : ∀ (f j k p : Nat) (h : am_H) (Z : Int32 → am_H → Prop) (u3 : Value), n + 1 ≤ k + f → j < k → am_ss t n k h → h.2.1 72 1 = g → h.1 g 8 = nI p → p ≤ 2 * k → (∀ h', lc_oc t n g p h h' (lp_jf it 38 11 t n f k) → Z 0 h') → Ru mX4_readPart none d 7 [.ref 72, .int (nI o), .int (nI j), u3] [] h Z
  | 0, j, k, p, h, Z, u3, hf, hj, hs, h72, h8, hp, z => by have := hs.2.2.2.1; omega
  | f + 1, j, k, p, h, Z, u3, hf, hj, hs, h72, h8, hp, z => by
    have tb := hs.2.2.2.2.2.1
    have hk : k ≤ n := hs.2.2.2.1
    have ec : am_rd t n k = 38 ↔ (k < n ∧ t k = 38) := am_rd_eq (x := 38) (by omega) tb
    refine sX4_readPart_7 (by omega) ⟨fun q => absurd q (nI_ge (b := 240) (by omega) (by omega)), fun _ => ?_⟩
    rw [am_ss_pk hs]
    rw [lp_jf_s] at z
    refine ⟨fun c => ?_, fun c => ?_⟩
    · rw [if_neg (fun q => c (ec.mpr q))] at z
      exact z h (lc_0 hs h8)
    · have c' := ec.mp c
      rw [if_pos c'] at z
      have nx := lc_nx (g := g) (p := p) hs c'.1 h8 hg
      have gi := hi (k + 1) c'.1
      rw [show (am_sI h 3 2 (h.1 3 2 + 1)).2.1 72 1 = g from h72]
      rcases nx.2 with ⟨_, n2, n3, n4, _⟩ | w
      · refine ⟨hg, 3, by omega, iX3_emitJump (by omega) hg (fun r h3 m2 hr => ?_)⟩
        have e3 : h3.1 g 8 = nI (p + 2) := (m2.2.2 p n3 (by omega)).1
        refine ⟨d - 1, by omega, hI h3 (k + 1) (p + 2) _ (lc_ss hg m2.1 m2.2.1 n2) (by rw [m2.1.2.2]; exact h72) e3 (by omega) (fun h5 oc => ?_)⟩
        generalize it (k + 1) = io at oc gi z
        have e72 : h5.2.1 72 1 = g := by rw [oc.1.2.2, m2.1.2.2]; exact h72
        rw [e72]
        refine ⟨hg, 2, by omega, iX3_land hg (fun h8' m => ?_)⟩
        have oj := lc_j (op := 11) (k := k) hg (Or.inl ⟨rfl, rfl⟩) nx.1 n4 n3 (by omega) m2 hr oc m
        rw [nI_1]
        rcases oc.2 with ⟨a1, a2, a3, a4, a5⟩ | ⟨w1, w2⟩
        · obtain ⟨g1, g2, g3, g4, _⟩ := gi.1 a1
          have e0 : (lp_jm 11 io).1 = 0 := by unfold lp_jm; rw [if_pos a1]
          have ek : (lp_jm 11 io).2.1 = io.2.1 := by unfold lp_jm; rw [if_pos a1]
          have ez : lp_cz (lp_jm 11 io).2.2 = 2 + lp_cz io.2.2 := by unfold lp_jm; rw [if_pos a1]; rfl
          refine lx_p hd hn hg hi hI f (j + 1) io.2.1 (p + (2 + lp_cz io.2.2)) h8' Z _ (by omega) (by omega) (lc_ss hg m.1 (by rw [m.2.1]) a2) (by rw [m.1.2.2]; exact e72) (by rw [m.2.1, a3, Nat.add_assoc]) (by omega) (fun h' oc2 => z h' (lc_b oj e0 ?_))
          rw [ek, ez]; exact oc2
        · have e1 : ¬ (lp_jm 11 io).1 = 0 := by unfold lp_jm; rw [if_neg w1]; exact w1
          have nz : ¬ h8'.1 3 3 = 0 := by rw [m.2.1, w2]; exact w1
          refine sX4_readPart_7 (by omega) ⟨fun q => absurd q (nI_ge (b := 240) (by omega) (by omega)), fun _ => ?_⟩
          rw [am_pk_no nz]
          exact ⟨fun _ => z h8' (lc_bf oj e1 (lc_fr_rf g h8') rfl), fun q => absurd q (by decide)⟩
      · exact absurd rfl w.1
theorem iX4_readPart {o : Nat} {it : Nat → lp_O} (hd : 5 ≤ d) (hn : n ≤ 240) (hg : am_la g) (hi : lp_G n it 0 100) (hI : lc_C t n g mX4_readTest [.ref 72, .int (nI o)] (d - 1) it) : lc_C t n g mX4_readPart [.ref 72, .int (nI o)] d (fun k => lp_b (it k) (fun k' => lp_jf it 38 11 t n (n + 1 - k') k')) := fun h k p Z hs h72 h8 hp z => by
  have hk : k ≤ n := hs.2.2.2.1
  have gi := hi k hk
  have z : ∀ h', lc_oc t n g p h h' (lp_b (it k) (fun k' => lp_jf it 38 11 t n (n + 1 - k') k')) → Z 0 h' := z
  refine Sp_of mf_X4_readPart rfl (Nat.le_of_ble_eq_true rfl) rfl (sX4_readPart_0 ⟨d - 1, by omega, hI h k p _ hs h72 h8 hp (fun h2 oc => ?_)⟩)
  generalize it k = io at oc gi z
  rcases oc.2 with ⟨a1, a2, a3, a4, a5⟩ | ⟨w1, w2⟩
  · obtain ⟨g1, g2, g3, g4, _⟩ := gi.1 a1
    exact lx_p hd hn hg hi hI (n + 1 - io.2.1) 0 io.2.1 (p + lp_cz io.2.2) h2 Z _ (by omega) (by omega) a2 (by rw [oc.1.2.2]; exact h72) a3 (by omega) (fun h' oc2 => z h' (lc_b oc a1 oc2))
  · refine sX4_readPart_7 (by omega) ⟨fun q => absurd q (by decide), fun _ => ?_⟩
    rw [am_pk_no (by rw [w2]; exact w1)]
    exact ⟨fun _ => z h2 (lc_bf oc w1 (lc_fr_rf g h2) rfl), fun q => absurd q (by decide)⟩
theorem fX4_readPart {x : Int32} (hd : 4 ≤ d) (hF : lc_F mX4_readTest [.ref 72, .int x] (d - 1)) : lc_F mX4_readPart [.ref 72, .int x] d := fun h Z q z => by
  refine Sp_of mf_X4_readPart rfl (Nat.le_of_ble_eq_true rfl) rfl (sX4_readPart_0 ⟨d - 1, by omega, hF h _ q ?_⟩)
  refine sX4_readPart_7 (by omega) ⟨fun q => absurd q (by decide), fun _ => ?_⟩
  rw [am_pk_no q]
  exact ⟨fun _ => z, fun q => absurd q (by decide)⟩
theorem lx_c {o : Nat} {it : Nat → lp_O} (hd : 5 ≤ d) (hn : n ≤ 240) (hg : am_la g) (hi : lp_G n it 0 100) (hI : lc_C t n g mX4_readPart [.ref 72, .int (nI o)] (d - 1) it) : ∀ (f j k p : Nat) (h : am_H) (Z : Int32 → am_H → Prop) (u3 : Value), n + 1 ≤ k + f → j < k → am_ss t n k h → h.2.1 72 1 = g → h.1 g 8 = nI p → p ≤ 2 * k → (∀ h', lc_oc t n g p h h' (lp_jf it 124 12 t n f k) → Z 0 h') → Ru mX4_readChoice none d 7 [.ref 72, .int (nI o), .int (nI j), u3] [] h Z
  | 0, j, k, p, h, Z, u3, hf, hj, hs, h72, h8, hp, z => by have := hs.2.2.2.1; omega
  | f + 1, j, k, p, h, Z, u3, hf, hj, hs, h72, h8, hp, z => by
    have tb := hs.2.2.2.2.2.1
    have hk : k ≤ n := hs.2.2.2.1
    have ec : am_rd t n k = 124 ↔ (k < n ∧ t k = 124) := am_rd_eq (x := 124) (by omega) tb
    refine sX4_readChoice_7 (by omega) ⟨fun q => absurd q (nI_ge (b := 240) (by omega) (by omega)), fun _ => ?_⟩
    rw [am_ss_pk hs]
    rw [lp_jf_s] at z
    refine ⟨fun c => ?_, fun c => ?_⟩
    · rw [if_neg (fun q => c (ec.mpr q))] at z
      exact z h (lc_0 hs h8)
    · have c' := ec.mp c
      rw [if_pos c'] at z
      have nx := lc_nx (g := g) (p := p) hs c'.1 h8 hg
      have gi := hi (k + 1) c'.1
      rw [show (am_sI h 3 2 (h.1 3 2 + 1)).2.1 72 1 = g from h72]
      rcases nx.2 with ⟨_, n2, n3, n4, _⟩ | w
      · refine ⟨hg, 3, by omega, iX3_emitJump (by omega) hg (fun r h3 m2 hr => ?_)⟩
        have e3 : h3.1 g 8 = nI (p + 2) := (m2.2.2 p n3 (by omega)).1
        refine ⟨d - 1, by omega, hI h3 (k + 1) (p + 2) _ (lc_ss hg m2.1 m2.2.1 n2) (by rw [m2.1.2.2]; exact h72) e3 (by omega) (fun h5 oc => ?_)⟩
        generalize it (k + 1) = io at oc gi z
        have e72 : h5.2.1 72 1 = g := by rw [oc.1.2.2, m2.1.2.2]; exact h72
        rw [e72]
        refine ⟨hg, 2, by omega, iX3_land hg (fun h8' m => ?_)⟩
        have oj := lc_j (op := 12) (k := k) hg (Or.inr ⟨rfl, rfl⟩) nx.1 n4 n3 (by omega) m2 hr oc m
        rw [nI_1]
        rcases oc.2 with ⟨a1, a2, a3, a4, a5⟩ | ⟨w1, w2⟩
        · obtain ⟨g1, g2, g3, g4, _⟩ := gi.1 a1
          have e0 : (lp_jm 12 io).1 = 0 := by unfold lp_jm; rw [if_pos a1]
          have ek : (lp_jm 12 io).2.1 = io.2.1 := by unfold lp_jm; rw [if_pos a1]
          have ez : lp_cz (lp_jm 12 io).2.2 = 2 + lp_cz io.2.2 := by unfold lp_jm; rw [if_pos a1]; rfl
          refine lx_c hd hn hg hi hI f (j + 1) io.2.1 (p + (2 + lp_cz io.2.2)) h8' Z _ (by omega) (by omega) (lc_ss hg m.1 (by rw [m.2.1]) a2) (by rw [m.1.2.2]; exact e72) (by rw [m.2.1, a3, Nat.add_assoc]) (by omega) (fun h' oc2 => z h' (lc_b oj e0 ?_))
          rw [ek, ez]; exact oc2
        · have e1 : ¬ (lp_jm 12 io).1 = 0 := by unfold lp_jm; rw [if_neg w1]; exact w1
          have nz : ¬ h8'.1 3 3 = 0 := by rw [m.2.1, w2]; exact w1
          refine sX4_readChoice_7 (by omega) ⟨fun q => absurd q (nI_ge (b := 240) (by omega) (by omega)), fun _ => ?_⟩
          rw [am_pk_no nz]
          exact ⟨fun _ => z h8' (lc_bf oj e1 (lc_fr_rf g h8') rfl), fun q => absurd q (by decide)⟩
      · exact absurd rfl w.1
theorem iX4_readChoice {o : Nat} {it : Nat → lp_O} (hd : 5 ≤ d) (hn : n ≤ 240) (hg : am_la g) (hi : lp_G n it 0 100) (hI : lc_C t n g mX4_readPart [.ref 72, .int (nI o)] (d - 1) it) : lc_C t n g mX4_readChoice [.ref 72, .int (nI o)] d (fun k => lp_b (it k) (fun k' => lp_jf it 124 12 t n (n + 1 - k') k')) := fun h k p Z hs h72 h8 hp z => by
  have hk : k ≤ n := hs.2.2.2.1
  have gi := hi k hk
  have z : ∀ h', lc_oc t n g p h h' (lp_b (it k) (fun k' => lp_jf it 124 12 t n (n + 1 - k') k')) → Z 0 h' := z
  refine Sp_of mf_X4_readChoice rfl (Nat.le_of_ble_eq_true rfl) rfl (sX4_readChoice_0 ⟨d - 1, by omega, hI h k p _ hs h72 h8 hp (fun h2 oc => ?_)⟩)
  generalize it k = io at oc gi z
  rcases oc.2 with ⟨a1, a2, a3, a4, a5⟩ | ⟨w1, w2⟩
  · obtain ⟨g1, g2, g3, g4, _⟩ := gi.1 a1
    exact lx_c hd hn hg hi hI (n + 1 - io.2.1) 0 io.2.1 (p + lp_cz io.2.2) h2 Z _ (by omega) (by omega) a2 (by rw [oc.1.2.2]; exact h72) a3 (by omega) (fun h' oc2 => z h' (lc_b oc a1 oc2))
  · refine sX4_readChoice_7 (by omega) ⟨fun q => absurd q (by decide), fun _ => ?_⟩
    rw [am_pk_no (by rw [w2]; exact w1)]
    exact ⟨fun _ => z h2 (lc_bf oc w1 (lc_fr_rf g h2) rfl), fun q => absurd q (by decide)⟩
theorem fX4_readChoice {x : Int32} (hd : 4 ≤ d) (hF : lc_F mX4_readPart [.ref 72, .int x] (d - 1)) : lc_F mX4_readChoice [.ref 72, .int x] d := fun h Z q z => by
  refine Sp_of mf_X4_readChoice rfl (Nat.le_of_ble_eq_true rfl) rfl (sX4_readChoice_0 ⟨d - 1, by omega, hF h _ q ?_⟩)
  refine sX4_readChoice_7 (by omega) ⟨fun q => absurd q (by decide), fun _ => ?_⟩
  rw [am_pk_no q]
  exact ⟨fun _ => z, fun q => absurd q (by decide)⟩
/-- a sign and what is behind it, then its code -/
theorem lc_el {p k : Nat} {h4 h7 : am_H} {x : Int32} {op : Nat} {io : lp_O} (hg : am_la g) (hn : n ≤ 240) (hp : p ≤ 2 * k) (g3 : io.1 = 0 → lp_cz io.2.2 + 2 * (k + 1) ≤ 2 * io.2.1 ∧ io.2.1 ≤ n) (oc : lc_oc t n g p h h4 io) (m : lc_em g x h4 h7) (hx : (op = 10 ∧ x = 3) ∨ (2 ≤ op ∧ op ≤ 9 ∧ x = q_sg op)) : lc_oc t n g p h h7 (lp_b io (fun k2 => (0, k2, [(op, 0)]))) := by
  rcases oc.2 with ⟨a1, a2, a3, a4, a5⟩ | ⟨w1, w2⟩
  · have g3 := g3 a1
    refine lc_b oc a1 (lc_e hg a2 a3 (by omega) m ⟨?_, trivial⟩ (lp_z_1 (by omega)))
    have e : (upd (h4.2.2 (g + 5)) (p + lp_cz io.2.2) x) (p + lp_cz io.2.2) = x := by unfold upd; rw [if_pos rfl]
    rcases hx with ⟨w1, w2⟩ | ⟨w1, w2, w3⟩
    · exact Or.inr (Or.inr (Or.inl ⟨w1, e.trans w2⟩))
    · exact Or.inr (Or.inr (Or.inr (Or.inr ⟨w1, w2, e.trans w3⟩)))
  · exact lc_bf oc w1 m.1 (by rw [m.2.1])
theorem fX4_readTest {x : Int32} (hd : 9 ≤ d) : lc_F mX4_readTest [.ref 72, .int x] d := fun h Z q z => by
  refine Sp_of mf_X4_readTest rfl (Nat.le_of_ble_eq_true rfl) rfl (sX4_readTest_0 (by omega) ?_)
  rw [am_pk_no q]
  refine ⟨fun _ => ⟨fun _ => ⟨d - 1, by omega, lf_sum (by omega) h _ q ?_⟩, fun c => absurd c (by decide)⟩, fun c => absurd c (by decide)⟩
  rw [am_pk_no q, am_fal_no q]
  exact ⟨fun _ => z, fun c => absurd c (by decide)⟩
theorem lp_sC_e : ∀ c, c < 256 → ¬ lp_sC c = 0 → nI c = q_sg (lp_sC c) := by decide +kernel
theorem lp_sC_i : ∀ c, c < 256 → ((nI c = 60 ∨ nI c = 62 ∨ nI c = 61) ↔ ¬ lp_sC c = 0) := by decide +kernel
/-- a step before a contract's outcome -/
theorem lc_pre {p : Nat} {h1 h2 : am_H} {o : lp_O} (n1 : lc_fr g h h1) (n4 : ∀ j, j < p → h1.2.2 (g + 5) j = h.2.2 (g + 5) j) (oc : lc_oc t n g p h1 h2 o) : lc_oc t n g p h h2 o := by
  refine ⟨lc_fr_tr n1 oc.1, ?_⟩
  rcases oc.2 with ⟨a1, a2, a3, a4, a5⟩ | w
  · exact Or.inl ⟨a1, a2, a3, fun j hj => (a4 j hj).trans (n4 j hj), a5⟩
  · exact Or.inr w
theorem x_tst {c o : Nat} {last : Bool} {tst sum : Nat → lp_O} (hd : 11 ≤ d) (hn : n ≤ 240) (hg : am_la g) (hc : o + c = 6) (hl : last = true ↔ c = 0) (hgs : lp_G n sum 0 1) (hgt : 0 < c → lp_G n tst 0 100) (hS : lc_C t n g mX4_readSum [.ref 72, .int (nI o)] (d - 1) sum) (hT : 0 < c → lc_C t n g mX4_readTest [.ref 72, .int (nI (o + 1))] (d - 1) tst) (hC : 0 < c → lc_C t n g mX4_readChoice [.ref 72, .int (nI (o + 1))] (d - 1) (lp_ch t n tst)) : lc_C t n g mX4_readTest [.ref 72, .int (nI o)] d (lp_ts t n last tst sum) := fun h k p Z hs h72 h8 hp z => by
  have tb := hs.2.2.2.2.2.1
  have hk : k ≤ n := hs.2.2.2.1
  have e33 : am_rd t n k = 33 ↔ (k < n ∧ t k = 33) := am_rd_eq (x := 33) (by omega) tb
  have e40 : am_rd t n k = 40 ↔ (k < n ∧ t k = 40) := am_rd_eq (x := 40) (by omega) tb
  have lf : 0 < c → last = false := fun q => by
    cases last with
    | false => rfl
    | true => have := hl.mp rfl; omega
  refine Sp_of mf_X4_readTest rfl (Nat.le_of_ble_eq_true rfl) rfl (sX4_readTest_0 (by omega) ?_)
  rw [am_ss_pk hs]
  refine ⟨fun c1 => ?_, fun c1 => ?_⟩
  · have c1' : ¬ (k < n ∧ t k = 33) := fun q => c1 (e33.mpr q)
    refine ⟨fun c2 => ?_, fun c2 => ?_⟩
    · have c2' : ¬ (k < n ∧ t k = 40) := fun q => c2 (e40.mpr q)
      have ee : lp_ts t n last tst sum k = lp_cmp t n sum k := by unfold lp_ts; rw [if_neg c1', if_neg c2']
      rw [ee] at z
      unfold lp_cmp at z
      have gi := hgs k hk
      refine ⟨d - 1, by omega, hS h k p _ hs h72 h8 hp (fun h2 oc => ?_)⟩
      generalize sum k = so at oc gi z
      rcases oc.2 with ⟨a1, a2, a3, a4, a5⟩ | ⟨w1, w2⟩
      · obtain ⟨g1, g2, g3, g4, _⟩ := gi.1 a1
        have gj := fun q : so.2.1 < n => hgs (so.2.1 + 1) q
        have e72 : h2.2.1 72 1 = g := by rw [oc.1.2.2]; exact h72
        have ci : (am_rd t n so.2.1 = 60 ∨ am_rd t n so.2.1 = 62 ∨ am_rd t n so.2.1 = 61) ↔ (so.2.1 < n ∧ ¬ lp_sC (t so.2.1) = 0) := by
          rcases Nat.lt_or_ge so.2.1 n with q | q
          · rw [show am_rd t n so.2.1 = nI (t so.2.1) from if_pos q, lp_sC_i _ (tb _)]; exact ⟨fun w => ⟨q, w⟩, fun w => w.2⟩
          · rw [show am_rd t n so.2.1 = -1 from if_neg (by omega)]
            exact ⟨fun q => absurd q (by decide), fun q => by omega⟩
        rw [am_ss_pk a2]
        refine ⟨fun q => z _ (lc_b oc a1 ?_), fun q => ?_⟩
        · rw [if_neg (fun w => q (ci.mpr w))]
          exact lc_f a2 (x := 1) (by omega) (by omega) _ rfl
        · have c3 := ci.mp q
          have sg := lp_sC_b _ c3.2
          have nx := lc_nx (g := g) (p := p + lp_cz so.2.2) a2 c3.1 a3 hg
          rcases nx.2 with ⟨_, n2, n3, n4, _⟩ | w
          · refine ⟨d - 1, by omega, hS _ (so.2.1 + 1) (p + lp_cz so.2.2) _ n2 e72 n3 (by omega) (fun h6 oc6 => ?_)⟩
            have gk := gj c3.1
            have oc6 := lc_pre nx.1 n4 oc6
            rw [show h6.2.1 72 1 = g by rw [oc6.1.2.2]; exact e72, show am_rd t n so.2.1 = nI (t so.2.1) from if_pos c3.1]
            refine ⟨hg, 2, by omega, iX3_emit hg (fun h9 m => z h9 (lc_b oc a1 ?_))⟩
            rw [if_pos c3]
            unfold lp_el
            generalize sum (so.2.1 + 1) = s2 at oc6 gk
            exact lc_el (k := so.2.1) hg hn (by omega) (fun q => ⟨(gk.1 q).2.2.1, (gk.1 q).2.1⟩) oc6 m (Or.inr ⟨by omega, by omega, lp_sC_e _ (tb _) c3.2⟩)
          · exact absurd rfl w.1
      · have nz : ¬ h2.1 3 3 = 0 := by rw [w2]; exact w1
        rw [am_pk_no nz, am_fal_no nz]
        exact ⟨fun _ => z h2 (lc_bf oc w1 (lc_fr_rf g h2) rfl), fun q => absurd q (by decide)⟩
    · have c2' := e40.mp c2
      refine ⟨4, by omega, iX4_opens (by omega) (by omega) (fun lt => ⟨fun q => absurd q (by decide), fun _ => ?_⟩) (fun eq => ⟨fun _ => z _ ?_, fun q => absurd rfl q⟩)⟩
      · have nx := lc_nx (g := g) (p := p) hs c2'.1 h8 hg
        rcases nx.2 with ⟨_, n2, n3, n4, _⟩ | w
        · rw [nI_1]
          refine ⟨d - 1, by omega, hC (by omega) _ (k + 1) p _ n2 h72 (show _ = nI p from n3) (by omega) (fun h2 oc => z _ ?_)⟩
          have ee : lp_ts t n last tst sum k = lp_b (lp_ch t n tst (k + 1)) (lp_ex t n 41) := by
            unfold lp_ts; rw [if_neg c1', if_pos c2', lf (by omega)]; rfl
          rw [ee]
          have oc' := lc_pre nx.1 n4 oc
          generalize lp_ch t n tst (k + 1) = so at oc'
          rcases oc'.2 with ⟨a1, a2, a3, a4, a5⟩ | ⟨w1, w2⟩
          · exact lc_b oc' a1 (lc_x (c := 41) hg a2 (by omega) a3)
          · rw [am_exp_no (by decide) (by rw [w2]; exact w1)]
            exact lc_bf oc' w1 (lc_fr_rf g h2) rfl
        · exact absurd rfl w.1
      · exact lc_f hs (x := 5) (by omega) (by omega) _ (by unfold lp_ts; rw [if_neg c1', if_pos c2', hl.mpr (by omega)]; rfl)
  · have c1' := e33.mp c1
    refine ⟨4, by omega, iX4_opens (by omega) (by omega) (fun lt => ⟨fun q => absurd q (by decide), fun _ => ?_⟩) (fun eq => ⟨fun _ => z _ ?_, fun q => absurd rfl q⟩)⟩
    · have nx := lc_nx (g := g) (p := p) hs c1'.1 h8 hg
      have gi := hgt (by omega) (k + 1) c1'.1
      rcases nx.2 with ⟨_, n2, n3, n4, _⟩ | w
      · rw [nI_1]
        refine ⟨d - 1, by omega, hT (by omega) _ (k + 1) p _ n2 h72 (show _ = nI p from n3) (by omega) (fun h2 oc => ?_)⟩
        have ee : lp_ts t n last tst sum k = lp_el tst 10 k := by
          unfold lp_ts; rw [if_pos c1', lf (by omega)]; rfl
        rw [ee] at z
        unfold lp_el at z
        have oc' := lc_pre nx.1 n4 oc
        generalize tst (k + 1) = so at oc' gi z
        rw [show h2.2.1 72 1 = g by rw [oc'.1.2.2]; exact h72]
        exact ⟨hg, 2, by omega, iX3_emit hg (fun h9 m => z h9 (lc_el (k := k) hg hn hp (fun q => ⟨(gi.1 q).2.2.1, (gi.1 q).2.1⟩) oc' m (Or.inl ⟨rfl, rfl⟩)))⟩
      · exact absurd rfl w.1
    · exact lc_f hs (x := 5) (by omega) (by omega) _ (by unfold lp_ts; rw [if_pos c1', hl.mpr (by omega)]; rfl)
theorem lc_tst (hn : n ≤ 240) (hg : am_la g) : ∀ (c o d : Nat), o + c = 6 → 11 + 3 * c ≤ d → lc_C t n g mX4_readTest [.ref 72, .int (nI o)] d (lp_t t n c)
  | 0, o, d, ho, hd => x_tst (c := 0) (by omega) hn hg ho ⟨fun _ => rfl, fun _ => rfl⟩ (lp_sum_g (by omega) (by omega)) (fun q => by omega) (lc_sum hn hg ho (by omega)) (fun q => by omega) (fun q => by omega)
  | c + 1, o, d, ho, hd => x_tst (c := c + 1) (by omega) hn hg ho ⟨fun q => (by cases q), fun q => by omega⟩ (lp_sum_g (by omega) (by omega)) (fun _ => lp_t_g (by omega) c (by omega)) (lc_sum hn hg ho (by omega)) (fun _ => lc_tst hn hg c (o + 1) (d - 1) (by omega) (by omega)) (fun _ => iX4_readChoice (by omega) hn hg (lp_pt_g (by omega) (lp_t_g (by omega) c (by omega))) (iX4_readPart (by omega) hn hg (lp_t_g (by omega) c (by omega)) (lc_tst hn hg c (o + 1) (d - 1 - 1 - 1) (by omega) (by omega))))
theorem lc_ch (hn : n ≤ 240) (hg : am_la g) {c o d : Nat} (ho : o + c = 6) (hd : 13 + 3 * c ≤ d) : lc_C t n g mX4_readChoice [.ref 72, .int (nI o)] d (lp_ch t n (lp_t t n c)) := iX4_readChoice (by omega) hn hg (lp_pt_g (by omega) (lp_t_g (by omega) c (by omega))) (iX4_readPart (by omega) hn hg (lp_t_g (by omega) c (by omega)) (lc_tst hn hg c o (d - 1 - 1) ho (by omega)))
theorem lf_ch {d : Nat} {x : Int32} (hd : 11 ≤ d) : lc_F mX4_readChoice [.ref 72, .int x] d := fX4_readChoice (by omega) (fX4_readPart (by omega) (fX4_readTest (by omega)))
end
