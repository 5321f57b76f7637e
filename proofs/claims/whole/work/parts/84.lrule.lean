-- the law's text: a rule, read by the class
set_option maxRecDepth 20000 in
set_option maxHeartbeats 2000000 in
theorem sX3_clear_0 {d : Nat} {h : am_H} {Z : Int32 → am_H → Prop} {a0 : Nat} (hb0 : am_la a0) (w : (∀ h1 : am_H, h1 = am_sI h a0 7 0 → (∀ h2 : am_H, h2 = am_sI h1 a0 8 0 → (Z 0 h2)))) : Ru mX3_clear none d 0 [.ref a0] [] h Z := by
  refine st_aload_n dX3_clear_0 rfl ?_
  refine st_iconst (v := 0) dX3_clear_1 (by decide) ?_
  refine st_putI flp_X3_33 fk_3_7 dX3_clear_2 (la_0 hb0) (fun h1 eh1 => ?_)
  replace w := w h1 eh1
  refine st_aload_n dX3_clear_5 rfl ?_
  refine st_iconst (v := 0) dX3_clear_6 (by decide) ?_
  refine st_putI flp_X3_37 fk_3_8 dX3_clear_7 (la_0 hb0) (fun h2 eh2 => ?_)
  replace w := w h2 eh2
  exact st_return rfl dX3_clear_10 w
set_option maxRecDepth 20000 in
set_option maxHeartbeats 2000000 in
theorem sX3_addRule_0 {d : Nat} {h : am_H} {Z : Int32 → am_H → Prop} {a0 : Nat} (hb0 : am_la a0) {x1 : Int32} {x2 : Int32} {x3 : Int32} (w : ((h.1 a0 7) < 0 → Z 0 h) ∧ (¬ ((h.1 a0 7) < 0) → ((h.1 a0 7) < 16 → (vp_in (h.1 a0 7) 16 ∧ (∀ h2 : am_H, h2 = am_sR h (a0 + 1) (upd (h.2.2 (a0 + 1)) (h.1 a0 7).toNatClampNeg x1) → (vp_in (h2.1 a0 7) 16 ∧ (∀ h4 : am_H, h4 = am_sR h2 (a0 + 2) (upd (h2.2.2 (a0 + 2)) (h2.1 a0 7).toNatClampNeg x2) → (vp_in (h4.1 a0 7) 16 ∧ (∀ h6 : am_H, h6 = am_sR h4 (a0 + 3) (upd (h4.2.2 (a0 + 3)) (h4.1 a0 7).toNatClampNeg x3) → (vp_in (h6.1 a0 7) 16 ∧ (∀ h8 : am_H, h8 = am_sR h6 (a0 + 4) (upd (h6.2.2 (a0 + 4)) (h6.1 a0 7).toNatClampNeg (h6.1 a0 8)) → (∀ h9 : am_H, h9 = am_sI h8 a0 7 ((h8.1 a0 7) + 1) → (Z 0 h9))))))))))) ∧ (¬ ((h.1 a0 7) < 16) → Z 0 h))) : Ru mX3_addRule none d 0 [.ref a0, .int x1, .int x2, .int x3] [] h Z := by
  refine st_aload_n dX3_addRule_0 rfl ?_
  refine st_getI fl_X3_33 fk_3_7 dX3_addRule_1 (la_0 hb0) ?_
  refine st_if_lt (tgt := 16) dX3_addRule_4 (by decide) (fun c => ?_) (fun c => ?_)
  · replace w := w.1 c
    exact st_return rfl dX3_addRule_16 w
  · replace w := w.2 c
    refine st_aload_n dX3_addRule_7 rfl ?_
    refine st_getI fl_X3_33 fk_3_7 dX3_addRule_8 (la_0 hb0) ?_
    refine st_bipush (v := 16) dX3_addRule_11 (by decide) ?_
    refine st_icmp_lt (tgt := 17) dX3_addRule_13 (by decide) (fun c => ?_) (fun c => ?_)
    · replace w := w.1 c
      refine st_aload_n dX3_addRule_17 rfl ?_
      refine st_getF (q := a0 + 1) fl_X3_11 fk_3_0 rfl dX3_addRule_18 (la_0 hb0) ?_
      refine st_aload_n dX3_addRule_21 rfl ?_
      refine st_getI fl_X3_33 fk_3_7 dX3_addRule_22 (la_0 hb0) ?_
      refine st_iload_n dX3_addRule_25 rfl ?_
      have hc1 := w.1
      replace w := w.2
      refine st_iast dX3_addRule_26 (la_1 hb0) hc1 (fun h2 eh2 => ?_)
      replace w := w h2 eh2
      refine st_aload_n dX3_addRule_27 rfl ?_
      refine st_getF (q := a0 + 2) fl_X3_15 fk_3_1 rfl dX3_addRule_28 (la_0 hb0) ?_
      refine st_aload_n dX3_addRule_31 rfl ?_
      refine st_getI fl_X3_33 fk_3_7 dX3_addRule_32 (la_0 hb0) ?_
      refine st_iload_n dX3_addRule_35 rfl ?_
      have hc3 := w.1
      replace w := w.2
      refine st_iast dX3_addRule_36 (la_2 hb0) hc3 (fun h4 eh4 => ?_)
      replace w := w h4 eh4
      refine st_aload_n dX3_addRule_37 rfl ?_
      refine st_getF (q := a0 + 3) fl_X3_18 fk_3_2 rfl dX3_addRule_38 (la_0 hb0) ?_
      refine st_aload_n dX3_addRule_41 rfl ?_
      refine st_getI fl_X3_33 fk_3_7 dX3_addRule_42 (la_0 hb0) ?_
      refine st_iload_n dX3_addRule_45 rfl ?_
      have hc5 := w.1
      replace w := w.2
      refine st_iast dX3_addRule_46 (la_3 hb0) hc5 (fun h6 eh6 => ?_)
      replace w := w h6 eh6
      refine st_aload_n dX3_addRule_47 rfl ?_
      refine st_getF (q := a0 + 4) fl_X3_21 fk_3_3 rfl dX3_addRule_48 (la_0 hb0) ?_
      refine st_aload_n dX3_addRule_51 rfl ?_
      refine st_getI fl_X3_33 fk_3_7 dX3_addRule_52 (la_0 hb0) ?_
      refine st_aload_n dX3_addRule_55 rfl ?_
      refine st_getI fl_X3_37 fk_3_8 dX3_addRule_56 (la_0 hb0) ?_
      have hc7 := w.1
      replace w := w.2
      refine st_iast dX3_addRule_59 (la_4 hb0) hc7 (fun h8 eh8 => ?_)
      replace w := w h8 eh8
      refine st_aload_n dX3_addRule_60 rfl ?_
      refine st_dup dX3_addRule_61 rfl ?_
      refine st_getI fl_X3_33 fk_3_7 dX3_addRule_62 (la_0 hb0) ?_
      refine st_iconst (v := 1) dX3_addRule_65 (by decide) ?_
      refine st_iadd dX3_addRule_66 ?_
      refine st_putI flp_X3_33 fk_3_7 dX3_addRule_67 (la_0 hb0) (fun h9 eh9 => ?_)
      replace w := w h9 eh9
      exact st_return rfl dX3_addRule_70 w
    · replace w := w.2 c
      exact st_return rfl dX3_addRule_16 w
set_option maxRecDepth 20000 in
set_option maxHeartbeats 2000000 in
theorem sX4_readRule_0 {d : Nat} {h : am_H} {Z : Int32 → am_H → Prop} {x1 : Int32} (hd : 3 ≤ d) (w : ((am_pk h) = 101 → Ru mX4_readRule none d 35 [.ref 72, .int x1, .int (am_pk h), .null, .null] [] h Z) ∧ (¬ ((am_pk h) = 101) → ((am_pk h) = 114 → Ru mX4_readRule none d 35 [.ref 72, .int x1, .int (am_pk h), .null, .null] [] h Z) ∧ (¬ ((am_pk h) = 114) → ((am_pk h) = 120 → Ru mX4_readRule none d 35 [.ref 72, .int x1, .int (am_pk h), .null, .null] [] h Z) ∧ (¬ ((am_pk h) = 120) → Z 0 (am_fal h (1 : Int32) (h.1 3 2)))))) : Ru mX4_readRule none d 0 [.ref 72, .int x1, .null, .null, .null] [] h Z := by
  refine st_aload_n dX4_readRule_0 rfl ?_
  refine st_getF (q := 3) fl_X4_9 fk_4_0 rfl dX4_readRule_1 sh_72 ?_
  refine st_callV (M' := mX7_peek) [] [] dX4_readRule_4 ml_X4_37 mf_X7_peek mv_X7_peek sh_3 rfl rfl rfl (K := fun r h' => (am_pk h) = r ∧ h = h') ⟨2, by omega, iX7_peek (by omega) ⟨rfl, rfl⟩⟩ (fun r1 h1 w1 => ?_)
  obtain ⟨rfl, rfl⟩ := w1
  show Ru mX4_readRule none d 7 [.ref 72, .int x1, .null, .null, .null] [.int (am_pk h)] h Z
  refine st_istore_n (L' := [.ref 72, .int x1, .int (am_pk h), .null, .null]) dX4_readRule_7 (by decide) rfl ?_
  refine st_iload_n dX4_readRule_8 rfl ?_
  refine st_bipush (v := 101) dX4_readRule_9 (by decide) ?_
  refine st_icmp_eq (tgt := 35) dX4_readRule_11 (by decide) (fun c => ?_) (fun c => ?_)
  · replace w := w.1 c
    exact w
  · replace w := w.2 c
    refine st_iload_n dX4_readRule_14 rfl ?_
    refine st_bipush (v := 114) dX4_readRule_15 (by decide) ?_
    refine st_icmp_eq (tgt := 35) dX4_readRule_17 (by decide) (fun c => ?_) (fun c => ?_)
    · replace w := w.1 c
      exact w
    · replace w := w.2 c
      refine st_iload_n dX4_readRule_20 rfl ?_
      refine st_bipush (v := 120) dX4_readRule_21 (by decide) ?_
      refine st_icmp_eq (tgt := 35) dX4_readRule_23 (by decide) (fun c => ?_) (fun c => ?_)
      · replace w := w.1 c
        exact w
      · replace w := w.2 c
        refine st_aload_n dX4_readRule_26 rfl ?_
        refine st_getF (q := 3) fl_X4_9 fk_4_0 rfl dX4_readRule_27 sh_72 ?_
        refine st_iconst (v := 1) dX4_readRule_30 (by decide) ?_
        refine st_callV (M' := mX7_failHere) [.int 1] [] dX4_readRule_31 ml_X4_48 mf_X7_failHere mv_X7_failHere sh_3 rfl rfl rfl (K := fun r h' => 0 = r ∧ am_fal h (1 : Int32) (h.1 3 2) = h') ⟨2, by omega, iX7_failHere (by omega) ⟨rfl, rfl⟩⟩ (fun r1 h1 w1 => ?_)
        obtain ⟨rfl, rfl⟩ := w1
        show Ru mX4_readRule none d 34 [.ref 72, .int x1, .int (am_pk h), .null, .null] [] (am_fal h (1 : Int32) (h.1 3 2)) Z
        exact st_return rfl dX4_readRule_34 w
set_option maxRecDepth 20000 in
set_option maxHeartbeats 2000000 in
theorem sX4_readRule_35 {d : Nat} {h : am_H} {Z : Int32 → am_H → Prop} {x1 : Int32} {x2 : Int32} {u3 : Value} {u4 : Value} (hd : 3 ≤ d) (w : (x1 < 16 → (am_la ((am_sI h 3 2 (h.1 3 2 + 1)).2.1 72 1) ∧ ((¬ x2 = 120 → am_cl mX4_readSum d [.ref 72, .int 0] (am_sI h 3 2 (h.1 3 2 + 1)) (fun r2 h3 => Ru mX4_readRule none d 88 [.ref 72, .int x1, .int x2, .int ((am_sI h 3 2 (h.1 3 2 + 1)).1 ((am_sI h 3 2 (h.1 3 2 + 1)).2.1 72 1) 8), u4] [] h3 Z)) ∧ (x2 = 120 → am_cl mX3_emitPair d [.ref ((am_sI h 3 2 (h.1 3 2 + 1)).2.1 72 1), .int 1, .int 1] (am_sI h 3 2 (h.1 3 2 + 1)) (fun r4 h5 => Ru mX4_readRule none d 88 [.ref 72, .int x1, .int x2, .int ((am_sI h 3 2 (h.1 3 2 + 1)).1 ((am_sI h 3 2 (h.1 3 2 + 1)).2.1 72 1) 8), u4] [] h5 Z))))) ∧ (¬ (x1 < 16) → Z 0 (am_fal h (4 : Int32) (h.1 3 2)))) : Ru mX4_readRule none d 35 [.ref 72, .int x1, .int x2, u3, u4] [] h Z := by
  refine st_iload_n dX4_readRule_35 rfl ?_
  refine st_bipush (v := 16) dX4_readRule_36 (by decide) ?_
  refine st_icmp_lt (tgt := 50) dX4_readRule_38 (by decide) (fun c => ?_) (fun c => ?_)
  · replace w := w.1 c
    refine st_aload_n dX4_readRule_50 rfl ?_
    refine st_getF (q := 3) fl_X4_9 fk_4_0 rfl dX4_readRule_51 sh_72 ?_
    refine st_callV (M' := mX7_next) [] [] dX4_readRule_54 ml_X4_51 mf_X7_next mv_X7_next sh_3 rfl rfl rfl (K := fun r h' => 0 = r ∧ am_sI h 3 2 (h.1 3 2 + 1) = h') ⟨1, by omega, iX7_next ⟨rfl, rfl⟩⟩ (fun r1 h1 w1 => ?_)
    obtain ⟨rfl, rfl⟩ := w1
    show Ru mX4_readRule none d 57 [.ref 72, .int x1, .int x2, u3, u4] [] (am_sI h 3 2 (h.1 3 2 + 1)) Z
    refine st_aload_n dX4_readRule_57 rfl ?_
    refine st_getP fl_X4_15 fk_4_1 dX4_readRule_58 sh_72 ?_
    have hc1 := w.1
    replace w := w.2
    refine st_getI fl_X4_54 fk_3_8 dX4_readRule_61 (la_0 hc1) ?_
    refine st_istore_n (L' := [.ref 72, .int x1, .int x2, .int ((am_sI h 3 2 (h.1 3 2 + 1)).1 ((am_sI h 3 2 (h.1 3 2 + 1)).2.1 72 1) 8), u4]) dX4_readRule_64 (by decide) rfl ?_
    refine st_iload_n dX4_readRule_65 rfl ?_
    refine st_bipush (v := 120) dX4_readRule_66 (by decide) ?_
    refine st_icmp_ne (tgt := 83) dX4_readRule_68 (by decide) (fun c => ?_) (fun c => ?_)
    · replace w := w.1 c
      refine st_aload_n dX4_readRule_83 rfl ?_
      refine st_iconst (v := 0) dX4_readRule_84 (by decide) ?_
      refine st_callV (M' := mX4_readSum) [.int 0] [] dX4_readRule_85 ml_X4_61 mf_X4_readSum mv_X4_readSum sh_72 rfl rfl rfl w (fun r2 h3 w => ?_)
      show Ru mX4_readRule none d 88 [.ref 72, .int x1, .int x2, .int ((am_sI h 3 2 (h.1 3 2 + 1)).1 ((am_sI h 3 2 (h.1 3 2 + 1)).2.1 72 1) 8), u4] [] h3 Z
      exact w
    · replace w := w.2 c
      refine st_aload_n dX4_readRule_71 rfl ?_
      refine st_getP fl_X4_15 fk_4_1 dX4_readRule_72 sh_72 ?_
      refine st_iconst (v := 1) dX4_readRule_75 (by decide) ?_
      refine st_iconst (v := 1) dX4_readRule_76 (by decide) ?_
      refine st_callV (M' := mX3_emitPair) [.int 1, .int 1] [] dX4_readRule_77 ml_X4_57 mf_X3_emitPair mv_X3_emitPair (la_0 hc1) rfl rfl rfl w (fun r4 h5 w => ?_)
      show Ru mX4_readRule none d 80 [.ref 72, .int x1, .int x2, .int ((am_sI h 3 2 (h.1 3 2 + 1)).1 ((am_sI h 3 2 (h.1 3 2 + 1)).2.1 72 1) 8), u4] [] h5 Z
      refine st_goto (tgt := 88) dX4_readRule_80 (by decide) ?_
      exact w
  · replace w := w.2 c
    refine st_aload_n dX4_readRule_41 rfl ?_
    refine st_getF (q := 3) fl_X4_9 fk_4_0 rfl dX4_readRule_42 sh_72 ?_
    refine st_iconst (v := 4) dX4_readRule_45 (by decide) ?_
    refine st_callV (M' := mX7_failHere) [.int 4] [] dX4_readRule_46 ml_X4_48 mf_X7_failHere mv_X7_failHere sh_3 rfl rfl rfl (K := fun r h' => 0 = r ∧ am_fal h (4 : Int32) (h.1 3 2) = h') ⟨2, by omega, iX7_failHere (by omega) ⟨rfl, rfl⟩⟩ (fun r1 h1 w1 => ?_)
    obtain ⟨rfl, rfl⟩ := w1
    show Ru mX4_readRule none d 49 [.ref 72, .int x1, .int x2, u3, u4] [] (am_fal h (4 : Int32) (h.1 3 2)) Z
    exact st_return rfl dX4_readRule_49 w
set_option maxRecDepth 20000 in
set_option maxHeartbeats 2000000 in
theorem sX4_readRule_88 {d : Nat} {h : am_H} {Z : Int32 → am_H → Prop} {u1 : Value} {x2 : Int32} {x3 : Int32} {u4 : Value} (hd : 4 ≤ d) (w : (am_la (h.2.1 72 1) ∧ (am_cl mX4_readChoice d [.ref 72, .int 1] (am_exp h (40 : Int32)) (fun r2 h3 => (am_la ((am_exp h3 (41 : Int32)).2.1 72 1) ∧ (am_cl mX3_addRule d [.ref ((am_exp h3 (41 : Int32)).2.1 72 1), .int x2, .int x3, .int (h.1 (h.2.1 72 1) 8)] (am_exp h3 (41 : Int32)) (fun r5 h6 => Z 0 h6))))))) : Ru mX4_readRule none d 88 [.ref 72, u1, .int x2, .int x3, u4] [] h Z := by
  refine st_aload_n dX4_readRule_88 rfl ?_
  refine st_getP fl_X4_15 fk_4_1 dX4_readRule_89 sh_72 ?_
  have hc1 := w.1
  replace w := w.2
  refine st_getI fl_X4_54 fk_3_8 dX4_readRule_92 (la_0 hc1) ?_
  refine st_istore (L' := [.ref 72, u1, .int x2, .int x3, .int (h.1 (h.2.1 72 1) 8)]) dX4_readRule_95 (by decide) rfl ?_
  refine st_aload_n dX4_readRule_97 rfl ?_
  refine st_getF (q := 3) fl_X4_9 fk_4_0 rfl dX4_readRule_98 sh_72 ?_
  refine st_bipush (v := 40) dX4_readRule_101 (by decide) ?_
  refine st_callV (M' := mX7_expect) [.int 40] [] dX4_readRule_103 ml_X4_41 mf_X7_expect mv_X7_expect sh_3 rfl rfl rfl (K := fun r h' => 0 = r ∧ am_exp h (40 : Int32) = h') ⟨3, by omega, iX7_expect (by omega) ⟨rfl, rfl⟩⟩ (fun r1 h1 w1 => ?_)
  obtain ⟨rfl, rfl⟩ := w1
  show Ru mX4_readRule none d 106 [.ref 72, u1, .int x2, .int x3, .int (h.1 (h.2.1 72 1) 8)] [] (am_exp h (40 : Int32)) Z
  refine st_aload_n dX4_readRule_106 rfl ?_
  refine st_iconst (v := 1) dX4_readRule_107 (by decide) ?_
  refine st_callV (M' := mX4_readChoice) [.int 1] [] dX4_readRule_108 ml_X4_64 mf_X4_readChoice mv_X4_readChoice sh_72 rfl rfl rfl w (fun r2 h3 w => ?_)
  show Ru mX4_readRule none d 111 [.ref 72, u1, .int x2, .int x3, .int (h.1 (h.2.1 72 1) 8)] [] h3 Z
  refine st_aload_n dX4_readRule_111 rfl ?_
  refine st_getF (q := 3) fl_X4_9 fk_4_0 rfl dX4_readRule_112 sh_72 ?_
  refine st_bipush (v := 41) dX4_readRule_115 (by decide) ?_
  refine st_callV (M' := mX7_expect) [.int 41] [] dX4_readRule_117 ml_X4_41 mf_X7_expect mv_X7_expect sh_3 rfl rfl rfl (K := fun r h' => 0 = r ∧ am_exp h3 (41 : Int32) = h') ⟨3, by omega, iX7_expect (by omega) ⟨rfl, rfl⟩⟩ (fun r1 h1 w1 => ?_)
  obtain ⟨rfl, rfl⟩ := w1
  show Ru mX4_readRule none d 120 [.ref 72, u1, .int x2, .int x3, .int (h.1 (h.2.1 72 1) 8)] [] (am_exp h3 (41 : Int32)) Z
  refine st_aload_n dX4_readRule_120 rfl ?_
  refine st_getP fl_X4_15 fk_4_1 dX4_readRule_121 sh_72 ?_
  have hc4 := w.1
  replace w := w.2
  refine st_iload_n dX4_readRule_124 rfl ?_
  refine st_iload_n dX4_readRule_125 rfl ?_
  refine st_iload dX4_readRule_126 rfl ?_
  refine st_callV (M' := mX3_addRule) [.int x2, .int x3, .int (h.1 (h.2.1 72 1) 8)] [] dX4_readRule_128 ml_X4_67 mf_X3_addRule mv_X3_addRule (la_0 hc4) rfl rfl rfl w (fun r5 h6 w => ?_)
  show Ru mX4_readRule none d 131 [.ref 72, u1, .int x2, .int x3, .int (h.1 (h.2.1 72 1) 8)] [] h6 Z
  exact st_return rfl dX4_readRule_131 w
set_option maxRecDepth 20000 in
set_option maxHeartbeats 2000000 in
theorem sX4_read_0 {d : Nat} {h : am_H} {Z : Int32 → am_H → Prop} {x1 : Int32} {a2 : Nat} (hb2 : am_la a2) (hd : 2 ≤ d) (w : (∀ h1 : am_H, h1 = am_sP h 72 1 a2 → (am_la (h1.2.1 72 1) ∧ (am_cl mX3_clear d [.ref (h1.2.1 72 1)] h1 (fun r3 h4 => Ru mX4_read none d 22 [.ref 72, .int x1, .ref a2, .int 0] [] (am_sI (am_sI (am_sI h4 3 1 x1) 3 2 0) 3 3 0) Z))))) : Ru mX4_read none d 0 [.ref 72, .int x1, .ref a2, .null] [] h Z := by
  refine st_aload_n dX4_read_0 rfl ?_
  refine st_aload_n dX4_read_1 rfl ?_
  refine st_putP flp_X4_15 fk_4_1 dX4_read_2 sh_72 (fun h1 eh1 => ?_)
  replace w := w h1 eh1
  refine st_aload_n dX4_read_5 rfl ?_
  refine st_getP fl_X4_15 fk_4_1 dX4_read_6 sh_72 ?_
  have hc2 := w.1
  replace w := w.2
  refine st_callV (M' := mX3_clear) [] [] dX4_read_9 ml_X4_19 mf_X3_clear mv_X3_clear (la_0 hc2) rfl rfl rfl w (fun r3 h4 w => ?_)
  show Ru mX4_read none d 12 [.ref 72, .int x1, .ref a2, .null] [] h4 Z
  refine st_aload_n dX4_read_12 rfl ?_
  refine st_getF (q := 3) fl_X4_9 fk_4_0 rfl dX4_read_13 sh_72 ?_
  refine st_iload_n dX4_read_16 rfl ?_
  refine st_callV (M' := mX7_start) [.int x1] [] dX4_read_17 ml_X4_24 mf_X7_start mv_X7_start sh_3 rfl rfl rfl (K := fun r h' => 0 = r ∧ am_sI (am_sI (am_sI h4 3 1 x1) 3 2 0) 3 3 0 = h') ⟨1, by omega, iX7_start ⟨rfl, rfl⟩⟩ (fun r1 h1 w1 => ?_)
  obtain ⟨rfl, rfl⟩ := w1
  show Ru mX4_read none d 20 [.ref 72, .int x1, .ref a2, .null] [] (am_sI (am_sI (am_sI h4 3 1 x1) 3 2 0) 3 3 0) Z
  refine st_iconst (v := 0) dX4_read_20 (by decide) ?_
  refine st_istore_n (L' := [.ref 72, .int x1, .ref a2, .int 0]) dX4_read_21 (by decide) rfl ?_
  exact w
set_option maxRecDepth 20000 in
set_option maxHeartbeats 2000000 in
theorem sX4_read_22 {d : Nat} {h : am_H} {Z : Int32 → am_H → Prop} {u1 : Value} {u2 : Value} {x3 : Int32} (hd : 4 ≤ d) (w : (16 < x3 → Z (h.1 3 3) h) ∧ (¬ (16 < x3) → (¬ h.1 3 3 = 0 → Z (h.1 3 3) h) ∧ (¬ (¬ h.1 3 3 = 0) → am_cl mX4_readRule d [.ref 72, .int x3] h (fun r1 h2 => (¬ h2.1 3 3 = 0 → Ru mX4_read none d 22 [.ref 72, u1, u2, .int (x3 + 1)] [] (am_exp h2 (59 : Int32)) Z) ∧ (¬ (¬ h2.1 3 3 = 0) → (¬ (am_pk h2) = (-1) → Ru mX4_read none d 22 [.ref 72, u1, u2, .int (x3 + 1)] [] (am_exp h2 (59 : Int32)) Z) ∧ ((am_pk h2) = (-1) → Z (x3 + 1) h2)))))) : Ru mX4_read none d 22 [.ref 72, u1, u2, .int x3] [] h Z := by
  refine st_iload_n dX4_read_22 rfl ?_
  refine st_bipush (v := 16) dX4_read_23 (by decide) ?_
  refine st_icmp_gt (tgt := 83) dX4_read_25 (by decide) (fun c => ?_) (fun c => ?_)
  · replace w := w.1 c
    refine st_aload_n dX4_read_83 rfl ?_
    refine st_getF (q := 3) fl_X4_9 fk_4_0 rfl dX4_read_84 sh_72 ?_
    refine st_getI fl_X4_44 fk_7_3 dX4_read_87 sh_3 ?_
    exact st_ireturn rfl rfl dX4_read_90 w
  · replace w := w.2 c
    refine st_aload_n dX4_read_28 rfl ?_
    refine st_getF (q := 3) fl_X4_9 fk_4_0 rfl dX4_read_29 sh_72 ?_
    refine st_callV (M' := mX7_failed) [] [] dX4_read_32 ml_X4_30 mf_X7_failed mv_X7_failed sh_3 rfl rfl rfl (K := fun r h' => (am_b (¬ h.1 3 3 = 0)) = r ∧ h = h') ⟨1, by omega, iX7_failed ⟨rfl, rfl⟩⟩ (fun r1 h1 w1 => ?_)
    obtain ⟨rfl, rfl⟩ := w1
    show Ru mX4_read none d 35 [.ref 72, u1, u2, .int x3] [.int (am_b (¬ h.1 3 3 = 0))] h Z
    refine st_ifb_ne (tgt := 83) dX4_read_35 (by decide) (fun c => ?_) (fun c => ?_)
    · replace w := w.1 c
      refine st_aload_n dX4_read_83 rfl ?_
      refine st_getF (q := 3) fl_X4_9 fk_4_0 rfl dX4_read_84 sh_72 ?_
      refine st_getI fl_X4_44 fk_7_3 dX4_read_87 sh_3 ?_
      exact st_ireturn rfl rfl dX4_read_90 w
    · replace w := w.2 c
      refine st_aload_n dX4_read_38 rfl ?_
      refine st_iload_n dX4_read_39 rfl ?_
      refine st_callV (M' := mX4_readRule) [.int x3] [] dX4_read_40 ml_X4_34 mf_X4_readRule mv_X4_readRule sh_72 rfl rfl rfl w (fun r1 h2 w => ?_)
      show Ru mX4_read none d 43 [.ref 72, u1, u2, .int x3] [] h2 Z
      refine st_aload_n dX4_read_43 rfl ?_
      refine st_getF (q := 3) fl_X4_9 fk_4_0 rfl dX4_read_44 sh_72 ?_
      refine st_callV (M' := mX7_failed) [] [] dX4_read_47 ml_X4_30 mf_X7_failed mv_X7_failed sh_3 rfl rfl rfl (K := fun r h' => (am_b (¬ h2.1 3 3 = 0)) = r ∧ h2 = h') ⟨1, by omega, iX7_failed ⟨rfl, rfl⟩⟩ (fun r1 h1 w1 => ?_)
      obtain ⟨rfl, rfl⟩ := w1
      show Ru mX4_read none d 50 [.ref 72, u1, u2, .int x3] [.int (am_b (¬ h2.1 3 3 = 0))] h2 Z
      refine st_ifb_ne (tgt := 68) dX4_read_50 (by decide) (fun c => ?_) (fun c => ?_)
      · replace w := w.1 c
        refine st_aload_n dX4_read_68 rfl ?_
        refine st_getF (q := 3) fl_X4_9 fk_4_0 rfl dX4_read_69 sh_72 ?_
        refine st_bipush (v := 59) dX4_read_72 (by decide) ?_
        refine st_callV (M' := mX7_expect) [.int 59] [] dX4_read_74 ml_X4_41 mf_X7_expect mv_X7_expect sh_3 rfl rfl rfl (K := fun r h' => 0 = r ∧ am_exp h2 (59 : Int32) = h') ⟨3, by omega, iX7_expect (by omega) ⟨rfl, rfl⟩⟩ (fun r1 h1 w1 => ?_)
        obtain ⟨rfl, rfl⟩ := w1
        show Ru mX4_read none d 77 [.ref 72, u1, u2, .int x3] [] (am_exp h2 (59 : Int32)) Z
        refine st_iinc (L' := [.ref 72, u1, u2, .int (x3 + 1)]) dX4_read_77 rfl rfl (by decide) rfl ?_
        refine st_goto (tgt := 22) dX4_read_80 (by decide) ?_
        exact w
      · replace w := w.2 c
        refine st_aload_n dX4_read_53 rfl ?_
        refine st_getF (q := 3) fl_X4_9 fk_4_0 rfl dX4_read_54 sh_72 ?_
        refine st_callV (M' := mX7_peek) [] [] dX4_read_57 ml_X4_37 mf_X7_peek mv_X7_peek sh_3 rfl rfl rfl (K := fun r h' => (am_pk h2) = r ∧ h2 = h') ⟨2, by omega, iX7_peek (by omega) ⟨rfl, rfl⟩⟩ (fun r1 h1 w1 => ?_)
        obtain ⟨rfl, rfl⟩ := w1
        show Ru mX4_read none d 60 [.ref 72, u1, u2, .int x3] [.int (am_pk h2)] h2 Z
        refine st_iconst (v := (-1)) dX4_read_60 (by decide) ?_
        refine st_icmp_ne (tgt := 68) dX4_read_61 (by decide) (fun c => ?_) (fun c => ?_)
        · replace w := w.1 c
          refine st_aload_n dX4_read_68 rfl ?_
          refine st_getF (q := 3) fl_X4_9 fk_4_0 rfl dX4_read_69 sh_72 ?_
          refine st_bipush (v := 59) dX4_read_72 (by decide) ?_
          refine st_callV (M' := mX7_expect) [.int 59] [] dX4_read_74 ml_X4_41 mf_X7_expect mv_X7_expect sh_3 rfl rfl rfl (K := fun r h' => 0 = r ∧ am_exp h2 (59 : Int32) = h') ⟨3, by omega, iX7_expect (by omega) ⟨rfl, rfl⟩⟩ (fun r1 h1 w1 => ?_)
          obtain ⟨rfl, rfl⟩ := w1
          show Ru mX4_read none d 77 [.ref 72, u1, u2, .int x3] [] (am_exp h2 (59 : Int32)) Z
          refine st_iinc (L' := [.ref 72, u1, u2, .int (x3 + 1)]) dX4_read_77 rfl rfl (by decide) rfl ?_
          refine st_goto (tgt := 22) dX4_read_80 (by decide) ?_
          exact w
        · replace w := w.2 c
          refine st_iload_n dX4_read_64 rfl ?_
          refine st_iconst (v := 1) dX4_read_65 (by decide) ?_
          refine st_iadd dX4_read_66 ?_
          exact st_ireturn rfl rfl dX4_read_67 w
def lp_v (t : Nat → Nat) (n k : Nat) : lp_O := if t k = 120 then (0, k + 1, []) else lp_sum t n 6 (k + 1)
/-- the class's codes of a value: an x says 1 -/
def lp_vc (x : Nat) (X : List (Nat × Nat)) : List (Nat × Nat) := if x = 120 then [(0, 1)] else X
def lc_f2 (g : Nat) (h h' : am_H) : Prop := (∀ a, ¬ (g + 1 ≤ a ∧ a ≤ g + 5) → h'.2.2 a = h.2.2 a) ∧ (∀ a k, a ≠ 3 → ¬ (a = g ∧ (k = 7 ∨ k = 8)) → h'.1 a k = h.1 a k) ∧ h'.2.1 = h.2.1
theorem lc_f2_of {g : Nat} {h h' : am_H} (p : lc_fr g h h') : lc_f2 g h h' := ⟨fun a n1 => p.1 a (by omega), fun a k n1 n2 => p.2.1 a k n1 (by omega), p.2.2⟩
theorem lc_f2_tr {g : Nat} {h h1 h2 : am_H} (p : lc_f2 g h h1) (q : lc_f2 g h1 h2) : lc_f2 g h h2 := ⟨fun a n1 => (q.1 a n1).trans (p.1 a n1), fun a k n1 n2 => (q.2.1 a k n1 n2).trans (p.2.1 a k n1 n2), q.2.2.trans p.2.2⟩
section
variable {d n g : Nat} {h : am_H} {Z : Int32 → am_H → Prop} {t : Nat → Nat}
/-- a rule is added -/
def lc_ad (g : Nat) (x y z : Int32) (h h' : am_H) : Prop := lc_f2 g h h' ∧ h'.1 3 = h.1 3 ∧ h'.1 g 8 = h.1 g 8 ∧ h'.2.2 (g + 5) = h.2.2 (g + 5) ∧ ∀ q, h.1 g 7 = nI q → q < 16 → h'.1 g 7 = nI (q + 1) ∧ h'.2.2 (g + 1) = upd (h.2.2 (g + 1)) q x ∧ h'.2.2 (g + 2) = upd (h.2.2 (g + 2)) q y ∧ h'.2.2 (g + 3) = upd (h.2.2 (g + 3)) q z ∧ h'.2.2 (g + 4) = upd (h.2.2 (g + 4)) q (h.1 g 8)
theorem lc_ad_no {x y z : Int32} (c : ∀ q, h.1 g 7 = nI q → q < 16 → False) : lc_ad g x y z h h := ⟨lc_f2_of (lc_fr_rf g h), rfl, rfl, rfl, fun q e hq => (c q e hq).elim⟩
theorem iX3_addRule {x y z : Int32} (hg : am_la g) (zz : ∀ h', lc_ad g x y z h h' → Z 0 h') : Sp mX3_addRule d [.ref g, .int x, .int y, .int z] h Z := by
  have g3 : ¬ 3 = g := by rcases hg with rfl | rfl <;> omega
  refine Sp_of mf_X3_addRule rfl (Nat.le_of_ble_eq_true rfl) rfl (sX3_addRule_0 hg ⟨fun c => zz h (lc_ad_no (fun q e hq => ?_)), fun c => ⟨fun c2 => ?_, fun c2 => zz h (lc_ad_no (fun q e hq => ?_))⟩⟩)
  · rw [e] at c; exact absurd c (nI_pos (by omega))
  · have vi : vp_in (h.1 g 7) 16 := am_vin (n := 16) (by decide) c (Int32.not_le.mpr c2)
    refine ⟨vi, fun h2 e2 => ?_⟩
    have e27 : h2.1 g 7 = h.1 g 7 := by rw [e2]; rfl
    rw [e27]
    refine ⟨vi, fun h4 e4 => ?_⟩
    have e47 : h4.1 g 7 = h.1 g 7 := by rw [e4]; exact e27
    rw [e47]
    refine ⟨vi, fun h6 e6 => ?_⟩
    have e67 : h6.1 g 7 = h.1 g 7 := by rw [e6]; exact e47
    rw [e67]
    refine ⟨vi, fun h8 e8 h9 e9 => zz h9 ?_⟩
    have e87 : h8.1 = h.1 := by rw [e8, e6, e4, e2]; rfl
    have a9 : h9.2.2 = h8.2.2 := by rw [e9]; rfl
    refine ⟨⟨fun a n1 => ?_, fun a k n1 n2 => ?_, by rw [e9, e8, e6, e4, e2]; rfl⟩, ?_, ?_, ?_, fun q e hq => ⟨?_, ?_, ?_, ?_, ?_⟩⟩
    · rw [a9, e8, am_gR, if_neg (by omega), e6, am_gR, if_neg (by omega), e4, am_gR, if_neg (by omega), e2, am_gR, if_neg (by omega)]
    · rw [e9, am_gI, if_neg (by omega), e87]
    · funext k; rw [e9, am_gI, if_neg (fun w => g3 w.1), e87]
    · rw [e9, am_gI, if_neg (by omega), e87]
    · rw [a9, e8, am_gR, if_neg (by omega), e6, am_gR, if_neg (by omega), e4, am_gR, if_neg (by omega), e2, am_gR, if_neg (by omega)]
    · rw [e9, am_gI, if_pos ⟨rfl, rfl⟩, e87, e, nI_1]
    · rw [a9, e8, am_gR, if_neg (by omega), e6, am_gR, if_neg (by omega), e4, am_gR, if_neg (by omega), e2, am_gRs, e, nI_clamp (by omega)]
    · rw [a9, e8, am_gR, if_neg (by omega), e6, am_gR, if_neg (by omega), e4, am_gRs, e, nI_clamp (by omega), e2, am_gR, if_neg (by omega)]
    · rw [a9, e8, am_gR, if_neg (by omega), e6, am_gRs, e, nI_clamp (by omega), e4, am_gR, if_neg (by omega), e2, am_gR, if_neg (by omega)]
    · rw [a9, e8, am_gRs, e, nI_clamp (by omega), e6, am_gR, if_neg (by omega), e4, am_gR, if_neg (by omega), e2, am_gR, if_neg (by omega)]
      congr 1
  · rw [e] at c2; exact absurd (nI_lt (b := 16) hq (by omega)) c2
theorem am_exp_2 (x : Int32) : (am_exp h x).2 = h.2 := by
  unfold am_exp am_fal
  split
  · rfl
  · split <;> rfl
/-- a rule's test, and the rule added -/
theorem x_88 (hd : 30 ≤ d) (hn : n ≤ 240) (hg : am_la g) {k p : Nat} {x2 x3 : Int32} {u1 u4 : Value} (hs : am_ss t n k h) (h72 : h.2.1 72 1 = g) (h8 : h.1 g 8 = nI p) (hp : p ≤ 2 * k) (z : ∀ hE h6, lc_oc t n g p h hE (lp_q t n k) → lc_ad g x2 x3 (nI p) hE h6 → Z 0 h6) : Ru mX4_readRule none d 88 [.ref 72, u1, .int x2, .int x3, u4] [] h Z := by
  have hk : k ≤ n := hs.2.2.2.1
  have o1 := lc_x (c := 40) hg hs (by omega) h8
  have P1 : (am_exp h 40).2.1 72 1 = g := by rw [am_exp_2]; exact h72
  unfold lp_q at z
  refine sX4_readRule_88 (by omega) ?_
  rw [h72, h8]
  refine ⟨hg, ?_⟩
  have o1' : lc_oc t n g p h (am_exp h 40) (lp_ex t n 40 k) := o1
  generalize hx : am_exp h 40 = h1 at o1' P1 ⊢
  clear o1
  generalize he : lp_ex t n 40 k = so at o1' z
  rcases o1'.2 with ⟨a1, a2, a3, a4, a5⟩ | ⟨w1, w2⟩
  · have ek : so.2.2 = [] ∧ k < so.2.1 := by
      rw [← he] at a1 ⊢
      unfold lp_ex at a1 ⊢
      by_cases c : k < n ∧ t k = 40
      · rw [if_pos c]; exact ⟨rfl, by show k < k + 1; omega⟩
      · rw [if_neg c] at a1
        exact absurd a1 (am_ft_n (by omega) (by omega) (by omega)).2
    rw [ek.1] at a3
    have a3' : h1.1 g 8 = nI p := a3
    refine ⟨d - 1, by omega, lc_ch hn hg (c := 5) (o := 1) (by omega) (by omega) h1 so.2.1 p _ a2 P1 a3' (by omega) (fun h3 oc => ?_)⟩
    have P3 : (am_exp h3 41).2.1 72 1 = g := by rw [am_exp_2, oc.1.2.2]; exact P1
    rw [P3]
    refine ⟨hg, 1, by omega, iX3_addRule hg (fun h6 ad => z (am_exp h3 41) h6 (lc_b o1' a1 ?_) ad)⟩
    rw [ek.1]
    show lc_oc t n g p h1 (am_exp h3 41) (lp_b (lp_ch t n (lp_t t n 5) so.2.1) (lp_ex t n 41))
    generalize lp_ch t n (lp_t t n 5) so.2.1 = co at oc
    rcases oc.2 with ⟨b1, b2, b3, b4, b5⟩ | ⟨w1, w2⟩
    · exact lc_b oc b1 (lc_x (c := 41) hg b2 (by omega) b3)
    · rw [am_exp_no (by decide) (by rw [w2]; exact w1)]
      exact lc_bf oc w1 (lc_fr_rf g h3) rfl
  · have nz : ¬ h1.1 3 3 = 0 := by rw [w2]; exact w1
    refine ⟨d - 1, by omega, lf_ch (by omega) h1 _ nz ?_⟩
    rw [am_exp_no (by decide) nz, P1]
    exact ⟨hg, 1, by omega, iX3_addRule hg (fun h6 ad => z h1 h6 (lc_bf o1' w1 (lc_fr_rf g h1) rfl) ad)⟩
/-- the same, after a fault -/
theorem f_88 (hd : 30 ≤ d) (hg : am_la g) {x2 x3 : Int32} {u1 u4 : Value} (h72 : h.2.1 72 1 = g) (nz : ¬ h.1 3 3 = 0) (z : ∀ h6, lc_ad g x2 x3 (h.1 g 8) h h6 → Z 0 h6) : Ru mX4_readRule none d 88 [.ref 72, u1, .int x2, .int x3, u4] [] h Z := by
  refine sX4_readRule_88 (by omega) ?_
  rw [am_exp_no (by decide) nz, h72]
  refine ⟨hg, d - 1, by omega, lf_ch (by omega) h _ nz ?_⟩
  rw [am_exp_no (by decide) nz, h72]
  exact ⟨hg, 1, by omega, iX3_addRule hg z⟩
end
