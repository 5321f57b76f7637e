-- the slip: what its text says; the class
set_option maxRecDepth 20000 in
set_option maxHeartbeats 2000000 in
theorem sX8_add_0 {d : Nat} {h : am_H} {Z : Int32 → am_H → Prop} {x1 : Int32} {x2 : Int32} (hd : 2 ≤ d) (w : ((h.1 5 3) < 0 → Z 0 (am_fal h (6 : Int32) x2)) ∧ (¬ ((h.1 5 3) < 0) → ((h.1 5 3) < 64 → (vp_in (h.1 5 3) 64 ∧ (∀ h2 : am_H, h2 = am_sR h 6 (upd (h.2.2 6) (h.1 5 3).toNatClampNeg x1) → (∀ h3 : am_H, h3 = am_sI h2 5 3 ((h2.1 5 3) + 1) → (Z 0 h3))))) ∧ (¬ ((h.1 5 3) < 64) → Z 0 (am_fal h (6 : Int32) x2)))) : Ru mX8_add none d 0 [.ref 5, .int x1, .int x2] [] h Z := by
  refine st_aload_n dX8_add_0 rfl ?_
  refine st_getI fl_X8_16 fk_8_3 dX8_add_1 sh_5 ?_
  refine st_if_lt (tgt := 16) dX8_add_4 (by decide) (fun c => ?_) (fun c => ?_)
  · replace w := w.1 c
    refine st_aload_n dX8_add_16 rfl ?_
    refine st_getF (q := 3) fl_X8_20 fk_8_0 rfl dX8_add_17 sh_5 ?_
    refine st_bipush (v := 6) dX8_add_20 (by decide) ?_
    refine st_iload_n dX8_add_22 rfl ?_
    refine st_callV (M' := mX7_fail) [.int 6, .int x2] [] dX8_add_23 ml_X8_71 mf_X7_fail mv_X7_fail sh_3 rfl rfl rfl (K := fun r h' => 0 = r ∧ am_fal h (6 : Int32) x2 = h') ⟨1, by omega, iX7_fail ⟨rfl, rfl⟩⟩ (fun r1 h1 w1 => ?_)
    obtain ⟨rfl, rfl⟩ := w1
    show Ru mX8_add none d 26 [.ref 5, .int x1, .int x2] [] (am_fal h (6 : Int32) x2) Z
    exact st_return rfl dX8_add_26 w
  · replace w := w.2 c
    refine st_aload_n dX8_add_7 rfl ?_
    refine st_getI fl_X8_16 fk_8_3 dX8_add_8 sh_5 ?_
    refine st_bipush (v := 64) dX8_add_11 (by decide) ?_
    refine st_icmp_lt (tgt := 27) dX8_add_13 (by decide) (fun c => ?_) (fun c => ?_)
    · replace w := w.1 c
      refine st_aload_n dX8_add_27 rfl ?_
      refine st_getF (q := 6) fl_X8_9 fk_8_1 rfl dX8_add_28 sh_5 ?_
      refine st_aload_n dX8_add_31 rfl ?_
      refine st_getI fl_X8_16 fk_8_3 dX8_add_32 sh_5 ?_
      refine st_iload_n dX8_add_35 rfl ?_
      have hc1 := w.1
      replace w := w.2
      refine st_iast dX8_add_36 sh_6 hc1 (fun h2 eh2 => ?_)
      replace w := w h2 eh2
      refine st_aload_n dX8_add_37 rfl ?_
      refine st_dup dX8_add_38 rfl ?_
      refine st_getI fl_X8_16 fk_8_3 dX8_add_39 sh_5 ?_
      refine st_iconst (v := 1) dX8_add_42 (by decide) ?_
      refine st_iadd dX8_add_43 ?_
      refine st_putI flp_X8_16 fk_8_3 dX8_add_44 sh_5 (fun h3 eh3 => ?_)
      replace w := w h3 eh3
      exact st_return rfl dX8_add_47 w
    · replace w := w.2 c
      refine st_aload_n dX8_add_16 rfl ?_
      refine st_getF (q := 3) fl_X8_20 fk_8_0 rfl dX8_add_17 sh_5 ?_
      refine st_bipush (v := 6) dX8_add_20 (by decide) ?_
      refine st_iload_n dX8_add_22 rfl ?_
      refine st_callV (M' := mX7_fail) [.int 6, .int x2] [] dX8_add_23 ml_X8_71 mf_X7_fail mv_X7_fail sh_3 rfl rfl rfl (K := fun r h' => 0 = r ∧ am_fal h (6 : Int32) x2 = h') ⟨1, by omega, iX7_fail ⟨rfl, rfl⟩⟩ (fun r1 h1 w1 => ?_)
      obtain ⟨rfl, rfl⟩ := w1
      show Ru mX8_add none d 26 [.ref 5, .int x1, .int x2] [] (am_fal h (6 : Int32) x2) Z
      exact st_return rfl dX8_add_26 w
set_option maxRecDepth 20000 in
set_option maxHeartbeats 2000000 in
theorem sX8_repeat_0 {d : Nat} {h : am_H} {Z : Int32 → am_H → Prop} {x1 : Int32} {x2 : Int32} {x3 : Int32} (w : Ru mX8_repeat none d 11 [.ref 5, .int x1, .int x2, .int x3, .int ((h.1 5 3) - x1), .int 0] [] h Z) : Ru mX8_repeat none d 0 [.ref 5, .int x1, .int x2, .int x3, .null, .null] [] h Z := by
  refine st_aload_n dX8_repeat_0 rfl ?_
  refine st_getI fl_X8_16 fk_8_3 dX8_repeat_1 sh_5 ?_
  refine st_iload_n dX8_repeat_4 rfl ?_
  refine st_isub dX8_repeat_5 ?_
  refine st_istore (L' := [.ref 5, .int x1, .int x2, .int x3, .int ((h.1 5 3) - x1), .null]) dX8_repeat_6 (by decide) rfl ?_
  refine st_iconst (v := 0) dX8_repeat_8 (by decide) ?_
  refine st_istore (L' := [.ref 5, .int x1, .int x2, .int x3, .int ((h.1 5 3) - x1), .int 0]) dX8_repeat_9 (by decide) rfl ?_
  exact w
set_option maxRecDepth 20000 in
set_option maxHeartbeats 2000000 in
theorem sX8_repeat_11 {d : Nat} {h : am_H} {Z : Int32 → am_H → Prop} {x1 : Int32} {x2 : Int32} {x3 : Int32} {x4 : Int32} {x5 : Int32} (hd : 2 ≤ d) (w : ((x4 * (x2 - 1)) ≤ x5 → Z 0 h) ∧ (¬ ((x4 * (x2 - 1)) ≤ x5) → ((h.1 5 3) ≤ (x1 + x5) → Z 0 h) ∧ (¬ ((h.1 5 3) ≤ (x1 + x5)) → (¬ h.1 3 3 = 0 → Z 0 h) ∧ (¬ (¬ h.1 3 3 = 0) → (vp_in (x1 + x5) 64 ∧ (am_cl mX8_add d [.ref 5, .int (h.2.2 6 (x1 + x5).toNatClampNeg), .int x3] h (fun r2 h3 => Ru mX8_repeat none d 11 [.ref 5, .int x1, .int x2, .int x3, .int x4, .int (x5 + 1)] [] h3 Z))))))) : Ru mX8_repeat none d 11 [.ref 5, .int x1, .int x2, .int x3, .int x4, .int x5] [] h Z := by
  refine st_iload dX8_repeat_11 rfl ?_
  refine st_iload dX8_repeat_13 rfl ?_
  refine st_iload_n dX8_repeat_15 rfl ?_
  refine st_iconst (v := 1) dX8_repeat_16 (by decide) ?_
  refine st_isub dX8_repeat_17 ?_
  refine st_imul dX8_repeat_18 ?_
  refine st_icmp_ge (tgt := 63) dX8_repeat_19 (by decide) (fun c => ?_) (fun c => ?_)
  · replace w := w.1 c
    exact st_return rfl dX8_repeat_63 w
  · replace w := w.2 c
    refine st_iload_n dX8_repeat_22 rfl ?_
    refine st_iload dX8_repeat_23 rfl ?_
    refine st_iadd dX8_repeat_25 ?_
    refine st_aload_n dX8_repeat_26 rfl ?_
    refine st_getI fl_X8_16 fk_8_3 dX8_repeat_27 sh_5 ?_
    refine st_icmp_ge (tgt := 63) dX8_repeat_30 (by decide) (fun c => ?_) (fun c => ?_)
    · replace w := w.1 c
      exact st_return rfl dX8_repeat_63 w
    · replace w := w.2 c
      refine st_aload_n dX8_repeat_33 rfl ?_
      refine st_getF (q := 3) fl_X8_20 fk_8_0 rfl dX8_repeat_34 sh_5 ?_
      refine st_callV (M' := mX7_failed) [] [] dX8_repeat_37 ml_X8_33 mf_X7_failed mv_X7_failed sh_3 rfl rfl rfl (K := fun r h' => (am_b (¬ h.1 3 3 = 0)) = r ∧ h = h') ⟨1, by omega, iX7_failed ⟨rfl, rfl⟩⟩ (fun r1 h1 w1 => ?_)
      obtain ⟨rfl, rfl⟩ := w1
      show Ru mX8_repeat none d 40 [.ref 5, .int x1, .int x2, .int x3, .int x4, .int x5] [.int (am_b (¬ h.1 3 3 = 0))] h Z
      refine st_ifb_ne (tgt := 63) dX8_repeat_40 (by decide) (fun c => ?_) (fun c => ?_)
      · replace w := w.1 c
        exact st_return rfl dX8_repeat_63 w
      · replace w := w.2 c
        refine st_aload_n dX8_repeat_43 rfl ?_
        refine st_aload_n dX8_repeat_44 rfl ?_
        refine st_getF (q := 6) fl_X8_9 fk_8_1 rfl dX8_repeat_45 sh_5 ?_
        refine st_iload_n dX8_repeat_48 rfl ?_
        refine st_iload dX8_repeat_49 rfl ?_
        refine st_iadd dX8_repeat_51 ?_
        have hc1 := w.1
        replace w := w.2
        refine st_iald dX8_repeat_52 sh_6 hc1 ?_
        refine st_iload_n dX8_repeat_53 rfl ?_
        refine st_callV (M' := mX8_add) [.int (h.2.2 6 (x1 + x5).toNatClampNeg), .int x3] [] dX8_repeat_54 ml_X8_57 mf_X8_add mv_X8_add sh_5 rfl rfl rfl w (fun r2 h3 w => ?_)
        show Ru mX8_repeat none d 57 [.ref 5, .int x1, .int x2, .int x3, .int x4, .int x5] [] h3 Z
        refine st_iinc (L' := [.ref 5, .int x1, .int x2, .int x3, .int x4, .int (x5 + 1)]) dX8_repeat_57 rfl rfl (by decide) rfl ?_
        refine st_goto (tgt := 11) dX8_repeat_60 (by decide) ?_
        exact w
set_option maxRecDepth 20000 in
set_option maxHeartbeats 2000000 in
theorem sX8_readOne_0 {d : Nat} {h : am_H} {Z : Int32 → am_H → Prop} {x1 : Int32} (hd : 3 ≤ d) (w : (¬ (48 ≤ (am_pk h) ∧ (am_pk h) ≤ 57) → Ru mX8_readOne none d 53 [.ref 5, .int x1, .int (h.1 3 2), .int 1, .null, .null] [] h Z) ∧ (48 ≤ (am_pk h) ∧ (am_pk h) ≤ 57 → ((am_pk h) < 50 → Ru mX8_readOne none d 53 [.ref 5, .int x1, .int (h.1 3 2), .int 1, .null, .null] [] h Z) ∧ (¬ ((am_pk h) < 50) → Ru mX8_readOne none d 53 [.ref 5, .int x1, .int (h.1 3 2), .int ((am_pk h) - 48), .null, .null] [] (am_sI h 3 2 (h.1 3 2 + 1)) Z))) : Ru mX8_readOne none d 0 [.ref 5, .int x1, .null, .null, .null, .null] [] h Z := by
  refine st_aload_n dX8_readOne_0 rfl ?_
  refine st_getF (q := 3) fl_X8_20 fk_8_0 rfl dX8_readOne_1 sh_5 ?_
  refine st_getI fl_X8_47 fk_7_2 dX8_readOne_4 sh_3 ?_
  refine st_istore_n (L' := [.ref 5, .int x1, .int (h.1 3 2), .null, .null, .null]) dX8_readOne_7 (by decide) rfl ?_
  refine st_iconst (v := 1) dX8_readOne_8 (by decide) ?_
  refine st_istore_n (L' := [.ref 5, .int x1, .int (h.1 3 2), .int 1, .null, .null]) dX8_readOne_9 (by decide) rfl ?_
  refine st_aload_n dX8_readOne_10 rfl ?_
  refine st_getF (q := 3) fl_X8_20 fk_8_0 rfl dX8_readOne_11 sh_5 ?_
  refine st_callV (M' := mX7_peek) [] [] dX8_readOne_14 ml_X8_43 mf_X7_peek mv_X7_peek sh_3 rfl rfl rfl (K := fun r h' => (am_pk h) = r ∧ h = h') ⟨2, by omega, iX7_peek (by omega) ⟨rfl, rfl⟩⟩ (fun r1 h1 w1 => ?_)
  obtain ⟨rfl, rfl⟩ := w1
  show Ru mX8_readOne none d 17 [.ref 5, .int x1, .int (h.1 3 2), .int 1, .null, .null] [.int (am_pk h)] h Z
  refine st_callS (M' := mX7_isDigit) [.int (am_pk h)] [] dX8_readOne_17 ml_X8_50 mf_X7_isDigit ms_X7_isDigit rfl rfl rfl (K := fun r h' => (am_b (48 ≤ (am_pk h) ∧ (am_pk h) ≤ 57)) = r ∧ h = h') ⟨1, by omega, iX7_isDigit ⟨rfl, rfl⟩⟩ (fun r1 h1 w1 => ?_)
  obtain ⟨rfl, rfl⟩ := w1
  show Ru mX8_readOne none d 20 [.ref 5, .int x1, .int (h.1 3 2), .int 1, .null, .null] [.int (am_b (48 ≤ (am_pk h) ∧ (am_pk h) ≤ 57))] h Z
  refine st_ifb_eq (tgt := 53) dX8_readOne_20 (by decide) (fun c => ?_) (fun c => ?_)
  · replace w := w.1 c
    exact w
  · replace w := w.2 c
    refine st_aload_n dX8_readOne_23 rfl ?_
    refine st_getF (q := 3) fl_X8_20 fk_8_0 rfl dX8_readOne_24 sh_5 ?_
    refine st_callV (M' := mX7_peek) [] [] dX8_readOne_27 ml_X8_43 mf_X7_peek mv_X7_peek sh_3 rfl rfl rfl (K := fun r h' => (am_pk h) = r ∧ h = h') ⟨2, by omega, iX7_peek (by omega) ⟨rfl, rfl⟩⟩ (fun r1 h1 w1 => ?_)
    obtain ⟨rfl, rfl⟩ := w1
    show Ru mX8_readOne none d 30 [.ref 5, .int x1, .int (h.1 3 2), .int 1, .null, .null] [.int (am_pk h)] h Z
    refine st_bipush (v := 50) dX8_readOne_30 (by decide) ?_
    refine st_icmp_lt (tgt := 53) dX8_readOne_32 (by decide) (fun c => ?_) (fun c => ?_)
    · replace w := w.1 c
      exact w
    · replace w := w.2 c
      refine st_aload_n dX8_readOne_35 rfl ?_
      refine st_getF (q := 3) fl_X8_20 fk_8_0 rfl dX8_readOne_36 sh_5 ?_
      refine st_callV (M' := mX7_peek) [] [] dX8_readOne_39 ml_X8_43 mf_X7_peek mv_X7_peek sh_3 rfl rfl rfl (K := fun r h' => (am_pk h) = r ∧ h = h') ⟨2, by omega, iX7_peek (by omega) ⟨rfl, rfl⟩⟩ (fun r1 h1 w1 => ?_)
      obtain ⟨rfl, rfl⟩ := w1
      show Ru mX8_readOne none d 42 [.ref 5, .int x1, .int (h.1 3 2), .int 1, .null, .null] [.int (am_pk h)] h Z
      refine st_bipush (v := 48) dX8_readOne_42 (by decide) ?_
      refine st_isub dX8_readOne_44 ?_
      refine st_istore_n (L' := [.ref 5, .int x1, .int (h.1 3 2), .int ((am_pk h) - 48), .null, .null]) dX8_readOne_45 (by decide) rfl ?_
      refine st_aload_n dX8_readOne_46 rfl ?_
      refine st_getF (q := 3) fl_X8_20 fk_8_0 rfl dX8_readOne_47 sh_5 ?_
      refine st_callV (M' := mX7_next) [] [] dX8_readOne_50 ml_X8_54 mf_X7_next mv_X7_next sh_3 rfl rfl rfl (K := fun r h' => 0 = r ∧ am_sI h 3 2 (h.1 3 2 + 1) = h') ⟨1, by omega, iX7_next ⟨rfl, rfl⟩⟩ (fun r1 h1 w1 => ?_)
      obtain ⟨rfl, rfl⟩ := w1
      show Ru mX8_readOne none d 53 [.ref 5, .int x1, .int (h.1 3 2), .int ((am_pk h) - 48), .null, .null] [] (am_sI h 3 2 (h.1 3 2 + 1)) Z
      exact w
set_option maxRecDepth 20000 in
set_option maxHeartbeats 2000000 in
theorem sX8_readOne_53 {d : Nat} {h : am_H} {Z : Int32 → am_H → Prop} {x1 : Int32} {x2 : Int32} {x3 : Int32} {u4 : Value} {u5 : Value} (hd : 3 ≤ d) (w : ((am_pk h) < 97 → Ru mX8_readOne none d 102 [.ref 5, .int x1, .int x2, .int x3, .int (h.1 5 3), .int (am_pk h)] [] h Z) ∧ (¬ ((am_pk h) < 97) → (122 < (am_pk h) → Ru mX8_readOne none d 102 [.ref 5, .int x1, .int x2, .int x3, .int (h.1 5 3), .int (am_pk h)] [] h Z) ∧ (¬ (122 < (am_pk h)) → am_cl mX8_add d [.ref 5, .int ((am_pk h) - 97), .int x2] (am_sI h 3 2 (h.1 3 2 + 1)) (fun r1 h2 => am_cl mX8_repeat d [.ref 5, .int (h.1 5 3), .int x3, .int x2] h2 (fun r3 h4 => Z 0 h4))))) : Ru mX8_readOne none d 53 [.ref 5, .int x1, .int x2, .int x3, u4, u5] [] h Z := by
  refine st_aload_n dX8_readOne_53 rfl ?_
  refine st_getI fl_X8_16 fk_8_3 dX8_readOne_54 sh_5 ?_
  refine st_istore (L' := [.ref 5, .int x1, .int x2, .int x3, .int (h.1 5 3), u5]) dX8_readOne_57 (by decide) rfl ?_
  refine st_aload_n dX8_readOne_59 rfl ?_
  refine st_getF (q := 3) fl_X8_20 fk_8_0 rfl dX8_readOne_60 sh_5 ?_
  refine st_callV (M' := mX7_peek) [] [] dX8_readOne_63 ml_X8_43 mf_X7_peek mv_X7_peek sh_3 rfl rfl rfl (K := fun r h' => (am_pk h) = r ∧ h = h') ⟨2, by omega, iX7_peek (by omega) ⟨rfl, rfl⟩⟩ (fun r1 h1 w1 => ?_)
  obtain ⟨rfl, rfl⟩ := w1
  show Ru mX8_readOne none d 66 [.ref 5, .int x1, .int x2, .int x3, .int (h.1 5 3), u5] [.int (am_pk h)] h Z
  refine st_istore (L' := [.ref 5, .int x1, .int x2, .int x3, .int (h.1 5 3), .int (am_pk h)]) dX8_readOne_66 (by decide) rfl ?_
  refine st_iload dX8_readOne_68 rfl ?_
  refine st_bipush (v := 97) dX8_readOne_70 (by decide) ?_
  refine st_icmp_lt (tgt := 102) dX8_readOne_72 (by decide) (fun c => ?_) (fun c => ?_)
  · replace w := w.1 c
    exact w
  · replace w := w.2 c
    refine st_iload dX8_readOne_75 rfl ?_
    refine st_bipush (v := 122) dX8_readOne_77 (by decide) ?_
    refine st_icmp_gt (tgt := 102) dX8_readOne_79 (by decide) (fun c => ?_) (fun c => ?_)
    · replace w := w.1 c
      exact w
    · replace w := w.2 c
      refine st_aload_n dX8_readOne_82 rfl ?_
      refine st_getF (q := 3) fl_X8_20 fk_8_0 rfl dX8_readOne_83 sh_5 ?_
      refine st_callV (M' := mX7_next) [] [] dX8_readOne_86 ml_X8_54 mf_X7_next mv_X7_next sh_3 rfl rfl rfl (K := fun r h' => 0 = r ∧ am_sI h 3 2 (h.1 3 2 + 1) = h') ⟨1, by omega, iX7_next ⟨rfl, rfl⟩⟩ (fun r1 h1 w1 => ?_)
      obtain ⟨rfl, rfl⟩ := w1
      show Ru mX8_readOne none d 89 [.ref 5, .int x1, .int x2, .int x3, .int (h.1 5 3), .int (am_pk h)] [] (am_sI h 3 2 (h.1 3 2 + 1)) Z
      refine st_aload_n dX8_readOne_89 rfl ?_
      refine st_iload dX8_readOne_90 rfl ?_
      refine st_bipush (v := 97) dX8_readOne_92 (by decide) ?_
      refine st_isub dX8_readOne_94 ?_
      refine st_iload_n dX8_readOne_95 rfl ?_
      refine st_callV (M' := mX8_add) [.int ((am_pk h) - 97), .int x2] [] dX8_readOne_96 ml_X8_57 mf_X8_add mv_X8_add sh_5 rfl rfl rfl w (fun r1 h2 w => ?_)
      show Ru mX8_readOne none d 99 [.ref 5, .int x1, .int x2, .int x3, .int (h.1 5 3), .int (am_pk h)] [] h2 Z
      refine st_goto (tgt := 159) dX8_readOne_99 (by decide) ?_
      refine st_aload_n dX8_readOne_159 rfl ?_
      refine st_iload dX8_readOne_160 rfl ?_
      refine st_iload_n dX8_readOne_162 rfl ?_
      refine st_iload_n dX8_readOne_163 rfl ?_
      refine st_callV (M' := mX8_repeat) [.int (h.1 5 3), .int x3, .int x2] [] dX8_readOne_164 ml_X8_67 mf_X8_repeat mv_X8_repeat sh_5 rfl rfl rfl w (fun r3 h4 w => ?_)
      show Ru mX8_readOne none d 167 [.ref 5, .int x1, .int x2, .int x3, .int (h.1 5 3), .int (am_pk h)] [] h4 Z
      exact st_return rfl dX8_readOne_167 w
set_option maxRecDepth 20000 in
set_option maxHeartbeats 2000000 in
theorem sX8_readOne_102 {d : Nat} {h : am_H} {Z : Int32 → am_H → Prop} {x1 : Int32} {x2 : Int32} {x3 : Int32} {x4 : Int32} {x5 : Int32} (hd : 4 ≤ d) (w : (x5 = 40 → (x1 < 2 → am_cl mX8_readRow d [.ref 5, .int (x1 + 1)] (am_sI h 3 2 (h.1 3 2 + 1)) (fun r1 h2 => am_cl mX8_repeat d [.ref 5, .int x4, .int x3, .int x2] (am_exp h2 (41 : Int32)) (fun r3 h4 => Z 0 h4))) ∧ (¬ (x1 < 2) → am_cl mX8_repeat d [.ref 5, .int x4, .int x3, .int x2] (am_fal h (5 : Int32) (h.1 3 2)) (fun r5 h6 => Z 0 h6))) ∧ (¬ (x5 = 40) → am_cl mX8_repeat d [.ref 5, .int x4, .int x3, .int x2] (am_fal h (1 : Int32) (h.1 3 2)) (fun r7 h8 => Z 0 h8))) : Ru mX8_readOne none d 102 [.ref 5, .int x1, .int x2, .int x3, .int x4, .int x5] [] h Z := by
  refine st_iload dX8_readOne_102 rfl ?_
  refine st_bipush (v := 40) dX8_readOne_104 (by decide) ?_
  refine st_icmp_eq (tgt := 120) dX8_readOne_106 (by decide) (fun c => ?_) (fun c => ?_)
  · replace w := w.1 c
    refine st_iload_n dX8_readOne_120 rfl ?_
    refine st_iconst (v := 2) dX8_readOne_121 (by decide) ?_
    refine st_icmp_lt (tgt := 136) dX8_readOne_122 (by decide) (fun c => ?_) (fun c => ?_)
    · replace w := w.1 c
      refine st_aload_n dX8_readOne_136 rfl ?_
      refine st_getF (q := 3) fl_X8_20 fk_8_0 rfl dX8_readOne_137 sh_5 ?_
      refine st_callV (M' := mX7_next) [] [] dX8_readOne_140 ml_X8_54 mf_X7_next mv_X7_next sh_3 rfl rfl rfl (K := fun r h' => 0 = r ∧ am_sI h 3 2 (h.1 3 2 + 1) = h') ⟨1, by omega, iX7_next ⟨rfl, rfl⟩⟩ (fun r1 h1 w1 => ?_)
      obtain ⟨rfl, rfl⟩ := w1
      show Ru mX8_readOne none d 143 [.ref 5, .int x1, .int x2, .int x3, .int x4, .int x5] [] (am_sI h 3 2 (h.1 3 2 + 1)) Z
      refine st_aload_n dX8_readOne_143 rfl ?_
      refine st_iload_n dX8_readOne_144 rfl ?_
      refine st_iconst (v := 1) dX8_readOne_145 (by decide) ?_
      refine st_iadd dX8_readOne_146 ?_
      refine st_callV (M' := mX8_readRow) [.int (x1 + 1)] [] dX8_readOne_147 ml_X8_30 mf_X8_readRow mv_X8_readRow sh_5 rfl rfl rfl w (fun r1 h2 w => ?_)
      show Ru mX8_readOne none d 150 [.ref 5, .int x1, .int x2, .int x3, .int x4, .int x5] [] h2 Z
      refine st_aload_n dX8_readOne_150 rfl ?_
      refine st_getF (q := 3) fl_X8_20 fk_8_0 rfl dX8_readOne_151 sh_5 ?_
      refine st_bipush (v := 41) dX8_readOne_154 (by decide) ?_
      refine st_callV (M' := mX7_expect) [.int 41] [] dX8_readOne_156 ml_X8_64 mf_X7_expect mv_X7_expect sh_3 rfl rfl rfl (K := fun r h' => 0 = r ∧ am_exp h2 (41 : Int32) = h') ⟨3, by omega, iX7_expect (by omega) ⟨rfl, rfl⟩⟩ (fun r1 h1 w1 => ?_)
      obtain ⟨rfl, rfl⟩ := w1
      show Ru mX8_readOne none d 159 [.ref 5, .int x1, .int x2, .int x3, .int x4, .int x5] [] (am_exp h2 (41 : Int32)) Z
      refine st_aload_n dX8_readOne_159 rfl ?_
      refine st_iload dX8_readOne_160 rfl ?_
      refine st_iload_n dX8_readOne_162 rfl ?_
      refine st_iload_n dX8_readOne_163 rfl ?_
      refine st_callV (M' := mX8_repeat) [.int x4, .int x3, .int x2] [] dX8_readOne_164 ml_X8_67 mf_X8_repeat mv_X8_repeat sh_5 rfl rfl rfl w (fun r3 h4 w => ?_)
      show Ru mX8_readOne none d 167 [.ref 5, .int x1, .int x2, .int x3, .int x4, .int x5] [] h4 Z
      exact st_return rfl dX8_readOne_167 w
    · replace w := w.2 c
      refine st_aload_n dX8_readOne_125 rfl ?_
      refine st_getF (q := 3) fl_X8_20 fk_8_0 rfl dX8_readOne_126 sh_5 ?_
      refine st_iconst (v := 5) dX8_readOne_129 (by decide) ?_
      refine st_callV (M' := mX7_failHere) [.int 5] [] dX8_readOne_130 ml_X8_61 mf_X7_failHere mv_X7_failHere sh_3 rfl rfl rfl (K := fun r h' => 0 = r ∧ am_fal h (5 : Int32) (h.1 3 2) = h') ⟨2, by omega, iX7_failHere (by omega) ⟨rfl, rfl⟩⟩ (fun r1 h1 w1 => ?_)
      obtain ⟨rfl, rfl⟩ := w1
      show Ru mX8_readOne none d 133 [.ref 5, .int x1, .int x2, .int x3, .int x4, .int x5] [] (am_fal h (5 : Int32) (h.1 3 2)) Z
      refine st_goto (tgt := 159) dX8_readOne_133 (by decide) ?_
      refine st_aload_n dX8_readOne_159 rfl ?_
      refine st_iload dX8_readOne_160 rfl ?_
      refine st_iload_n dX8_readOne_162 rfl ?_
      refine st_iload_n dX8_readOne_163 rfl ?_
      refine st_callV (M' := mX8_repeat) [.int x4, .int x3, .int x2] [] dX8_readOne_164 ml_X8_67 mf_X8_repeat mv_X8_repeat sh_5 rfl rfl rfl w (fun r5 h6 w => ?_)
      show Ru mX8_readOne none d 167 [.ref 5, .int x1, .int x2, .int x3, .int x4, .int x5] [] h6 Z
      exact st_return rfl dX8_readOne_167 w
  · replace w := w.2 c
    refine st_aload_n dX8_readOne_109 rfl ?_
    refine st_getF (q := 3) fl_X8_20 fk_8_0 rfl dX8_readOne_110 sh_5 ?_
    refine st_iconst (v := 1) dX8_readOne_113 (by decide) ?_
    refine st_callV (M' := mX7_failHere) [.int 1] [] dX8_readOne_114 ml_X8_61 mf_X7_failHere mv_X7_failHere sh_3 rfl rfl rfl (K := fun r h' => 0 = r ∧ am_fal h (1 : Int32) (h.1 3 2) = h') ⟨2, by omega, iX7_failHere (by omega) ⟨rfl, rfl⟩⟩ (fun r1 h1 w1 => ?_)
    obtain ⟨rfl, rfl⟩ := w1
    show Ru mX8_readOne none d 117 [.ref 5, .int x1, .int x2, .int x3, .int x4, .int x5] [] (am_fal h (1 : Int32) (h.1 3 2)) Z
    refine st_goto (tgt := 159) dX8_readOne_117 (by decide) ?_
    refine st_aload_n dX8_readOne_159 rfl ?_
    refine st_iload dX8_readOne_160 rfl ?_
    refine st_iload_n dX8_readOne_162 rfl ?_
    refine st_iload_n dX8_readOne_163 rfl ?_
    refine st_callV (M' := mX8_repeat) [.int x4, .int x3, .int x2] [] dX8_readOne_164 ml_X8_67 mf_X8_repeat mv_X8_repeat sh_5 rfl rfl rfl w (fun r7 h8 w => ?_)
    show Ru mX8_readOne none d 167 [.ref 5, .int x1, .int x2, .int x3, .int x4, .int x5] [] h8 Z
    exact st_return rfl dX8_readOne_167 w
set_option maxRecDepth 20000 in
set_option maxHeartbeats 2000000 in
theorem sX8_readRow_0 {d : Nat} {h : am_H} {Z : Int32 → am_H → Prop} {x1 : Int32} (w : (¬ x1 = 0 → am_cl mX8_readOne d [.ref 5, .int x1] h (fun r1 h2 => Ru mX8_readRow none d 18 [.ref 5, .int x1, .int 41, .int 0] [] h2 Z)) ∧ (x1 = 0 → am_cl mX8_readOne d [.ref 5, .int x1] h (fun r3 h4 => Ru mX8_readRow none d 18 [.ref 5, .int x1, .int (-1), .int 0] [] h4 Z))) : Ru mX8_readRow none d 0 [.ref 5, .int x1, .null, .null] [] h Z := by
  refine st_iload_n dX8_readRow_0 rfl ?_
  refine st_if_ne (tgt := 8) dX8_readRow_1 (by decide) (fun c => ?_) (fun c => ?_)
  · replace w := w.1 c
    refine st_bipush (v := 41) dX8_readRow_8 (by decide) ?_
    refine st_istore_n (L' := [.ref 5, .int x1, .int 41, .null]) dX8_readRow_10 (by decide) rfl ?_
    refine st_aload_n dX8_readRow_11 rfl ?_
    refine st_iload_n dX8_readRow_12 rfl ?_
    refine st_callV (M' := mX8_readOne) [.int x1] [] dX8_readRow_13 ml_X8_40 mf_X8_readOne mv_X8_readOne sh_5 rfl rfl rfl w (fun r1 h2 w => ?_)
    show Ru mX8_readRow none d 16 [.ref 5, .int x1, .int 41, .null] [] h2 Z
    refine st_iconst (v := 0) dX8_readRow_16 (by decide) ?_
    refine st_istore_n (L' := [.ref 5, .int x1, .int 41, .int 0]) dX8_readRow_17 (by decide) rfl ?_
    exact w
  · replace w := w.2 c
    refine st_iconst (v := (-1)) dX8_readRow_4 (by decide) ?_
    refine st_goto (tgt := 10) dX8_readRow_5 (by decide) ?_
    refine st_istore_n (L' := [.ref 5, .int x1, .int (-1), .null]) dX8_readRow_10 (by decide) rfl ?_
    refine st_aload_n dX8_readRow_11 rfl ?_
    refine st_iload_n dX8_readRow_12 rfl ?_
    refine st_callV (M' := mX8_readOne) [.int x1] [] dX8_readRow_13 ml_X8_40 mf_X8_readOne mv_X8_readOne sh_5 rfl rfl rfl w (fun r3 h4 w => ?_)
    show Ru mX8_readRow none d 16 [.ref 5, .int x1, .int (-1), .null] [] h4 Z
    refine st_iconst (v := 0) dX8_readRow_16 (by decide) ?_
    refine st_istore_n (L' := [.ref 5, .int x1, .int (-1), .int 0]) dX8_readRow_17 (by decide) rfl ?_
    exact w
set_option maxRecDepth 20000 in
set_option maxHeartbeats 2000000 in
theorem sX8_readRow_18 {d : Nat} {h : am_H} {Z : Int32 → am_H → Prop} {x1 : Int32} {x2 : Int32} {x3 : Int32} (hd : 3 ≤ d) (w : (80 ≤ x3 → Z 0 h) ∧ (¬ (80 ≤ x3) → (¬ h.1 3 3 = 0 → Z 0 h) ∧ (¬ (¬ h.1 3 3 = 0) → ((am_pk h) = x2 → Z 0 h) ∧ (¬ ((am_pk h) = x2) → am_cl mX8_readOne d [.ref 5, .int x1] h (fun r1 h2 => Ru mX8_readRow none d 18 [.ref 5, .int x1, .int x2, .int (x3 + 1)] [] h2 Z))))) : Ru mX8_readRow none d 18 [.ref 5, .int x1, .int x2, .int x3] [] h Z := by
  refine st_iload_n dX8_readRow_18 rfl ?_
  refine st_bipush (v := 80) dX8_readRow_19 (by decide) ?_
  refine st_icmp_ge (tgt := 56) dX8_readRow_21 (by decide) (fun c => ?_) (fun c => ?_)
  · replace w := w.1 c
    exact st_return rfl dX8_readRow_56 w
  · replace w := w.2 c
    refine st_aload_n dX8_readRow_24 rfl ?_
    refine st_getF (q := 3) fl_X8_20 fk_8_0 rfl dX8_readRow_25 sh_5 ?_
    refine st_callV (M' := mX7_failed) [] [] dX8_readRow_28 ml_X8_33 mf_X7_failed mv_X7_failed sh_3 rfl rfl rfl (K := fun r h' => (am_b (¬ h.1 3 3 = 0)) = r ∧ h = h') ⟨1, by omega, iX7_failed ⟨rfl, rfl⟩⟩ (fun r1 h1 w1 => ?_)
    obtain ⟨rfl, rfl⟩ := w1
    show Ru mX8_readRow none d 31 [.ref 5, .int x1, .int x2, .int x3] [.int (am_b (¬ h.1 3 3 = 0))] h Z
    refine st_ifb_ne (tgt := 56) dX8_readRow_31 (by decide) (fun c => ?_) (fun c => ?_)
    · replace w := w.1 c
      exact st_return rfl dX8_readRow_56 w
    · replace w := w.2 c
      refine st_aload_n dX8_readRow_34 rfl ?_
      refine st_getF (q := 3) fl_X8_20 fk_8_0 rfl dX8_readRow_35 sh_5 ?_
      refine st_callV (M' := mX7_peek) [] [] dX8_readRow_38 ml_X8_43 mf_X7_peek mv_X7_peek sh_3 rfl rfl rfl (K := fun r h' => (am_pk h) = r ∧ h = h') ⟨2, by omega, iX7_peek (by omega) ⟨rfl, rfl⟩⟩ (fun r1 h1 w1 => ?_)
      obtain ⟨rfl, rfl⟩ := w1
      show Ru mX8_readRow none d 41 [.ref 5, .int x1, .int x2, .int x3] [.int (am_pk h)] h Z
      refine st_iload_n dX8_readRow_41 rfl ?_
      refine st_icmp_eq (tgt := 56) dX8_readRow_42 (by decide) (fun c => ?_) (fun c => ?_)
      · replace w := w.1 c
        exact st_return rfl dX8_readRow_56 w
      · replace w := w.2 c
        refine st_aload_n dX8_readRow_45 rfl ?_
        refine st_iload_n dX8_readRow_46 rfl ?_
        refine st_callV (M' := mX8_readOne) [.int x1] [] dX8_readRow_47 ml_X8_40 mf_X8_readOne mv_X8_readOne sh_5 rfl rfl rfl w (fun r1 h2 w => ?_)
        show Ru mX8_readRow none d 50 [.ref 5, .int x1, .int x2, .int x3] [] h2 Z
        refine st_iinc (L' := [.ref 5, .int x1, .int x2, .int (x3 + 1)]) dX8_readRow_50 rfl rfl (by decide) rfl ?_
        refine st_goto (tgt := 18) dX8_readRow_53 (by decide) ?_
        exact w
set_option maxRecDepth 20000 in
set_option maxHeartbeats 2000000 in
theorem sX8_read_0 {d : Nat} {h : am_H} {Z : Int32 → am_H → Prop} {x1 : Int32} (hd : 2 ≤ d) (w : (∀ h1 : am_H, h1 = am_sI h 5 3 0 → (am_cl mX8_readRow d [.ref 5, .int 0] (am_sI (am_sI (am_sI h1 3 1 x1) 3 2 0) 3 3 0) (fun r2 h3 => (¬ (¬ h3.1 3 3 = 0) → Z (h3.1 5 3) h3) ∧ (¬ h3.1 3 3 = 0 → Z (h3.1 3 3) h3))))) : Ru mX8_read none d 0 [.ref 5, .int x1] [] h Z := by
  refine st_aload_n dX8_read_0 rfl ?_
  refine st_iconst (v := 0) dX8_read_1 (by decide) ?_
  refine st_putI flp_X8_16 fk_8_3 dX8_read_2 sh_5 (fun h1 eh1 => ?_)
  replace w := w h1 eh1
  refine st_aload_n dX8_read_5 rfl ?_
  refine st_getF (q := 3) fl_X8_20 fk_8_0 rfl dX8_read_6 sh_5 ?_
  refine st_iload_n dX8_read_9 rfl ?_
  refine st_callV (M' := mX7_start) [.int x1] [] dX8_read_10 ml_X8_24 mf_X7_start mv_X7_start sh_3 rfl rfl rfl (K := fun r h' => 0 = r ∧ am_sI (am_sI (am_sI h1 3 1 x1) 3 2 0) 3 3 0 = h') ⟨1, by omega, iX7_start ⟨rfl, rfl⟩⟩ (fun r1 h1 w1 => ?_)
  obtain ⟨rfl, rfl⟩ := w1
  show Ru mX8_read none d 13 [.ref 5, .int x1] [] (am_sI (am_sI (am_sI h1 3 1 x1) 3 2 0) 3 3 0) Z
  refine st_aload_n dX8_read_13 rfl ?_
  refine st_iconst (v := 0) dX8_read_14 (by decide) ?_
  refine st_callV (M' := mX8_readRow) [.int 0] [] dX8_read_15 ml_X8_30 mf_X8_readRow mv_X8_readRow sh_5 rfl rfl rfl w (fun r2 h3 w => ?_)
  show Ru mX8_read none d 18 [.ref 5, .int x1] [] h3 Z
  refine st_aload_n dX8_read_18 rfl ?_
  refine st_getF (q := 3) fl_X8_20 fk_8_0 rfl dX8_read_19 sh_5 ?_
  refine st_callV (M' := mX7_failed) [] [] dX8_read_22 ml_X8_33 mf_X7_failed mv_X7_failed sh_3 rfl rfl rfl (K := fun r h' => (am_b (¬ h3.1 3 3 = 0)) = r ∧ h3 = h') ⟨1, by omega, iX7_failed ⟨rfl, rfl⟩⟩ (fun r1 h1 w1 => ?_)
  obtain ⟨rfl, rfl⟩ := w1
  show Ru mX8_read none d 25 [.ref 5, .int x1] [.int (am_b (¬ h3.1 3 3 = 0))] h3 Z
  refine st_ifb_eq (tgt := 38) dX8_read_25 (by decide) (fun c => ?_) (fun c => ?_)
  · replace w := w.1 c
    refine st_aload_n dX8_read_38 rfl ?_
    refine st_getI fl_X8_16 fk_8_3 dX8_read_39 sh_5 ?_
    exact st_ireturn rfl rfl dX8_read_42 w
  · replace w := w.2 c
    refine st_aload_n dX8_read_28 rfl ?_
    refine st_getF (q := 3) fl_X8_20 fk_8_0 rfl dX8_read_29 sh_5 ?_
    refine st_getI fl_X8_37 fk_7_3 dX8_read_32 sh_3 ?_
    refine st_goto (tgt := 42) dX8_read_35 (by decide) ?_
    exact st_ireturn rfl rfl dX8_read_42 w
abbrev sl_S : Type := Nat × Nat × (Nat → Nat)
abbrev sl_O : Type := Int32 × sl_S
def sl_b (o : sl_O) (f : sl_S → sl_O) : sl_O := if o.1 = 0 then f o.2 else o
def sl_rp (a x y : Nat) (S : sl_S) : sl_O := if 64 < a + (S.2.1 - a) * x then (am_ft 6 y, S) else (0, (S.1, a + (S.2.1 - a) * x, am_fd (fun j L => am_un L (S.2.1 + j) (L (a + j))) 0 ((S.2.1 - a) * (x - 1)) S.2.2))
abbrev sl_dg (t : Nat → Nat) (n k : Nat) : Prop := k < n ∧ 50 ≤ t k ∧ t k ≤ 57
def sl_x (t : Nat → Nat) (n k : Nat) : Nat := if sl_dg t n k then t k - 48 else 1
def sl_k (t : Nat → Nat) (n k : Nat) : Nat := if sl_dg t n k then k + 1 else k
abbrev sl_lt (t : Nat → Nat) (n k : Nat) : Prop := k < n ∧ 97 ≤ t k ∧ t k ≤ 122
/-- a letter, as often as is told -/
def sl_1 (x y k c : Nat) (S : sl_S) : sl_O := if 64 < S.2.1 + x then (am_ft 6 y, S) else sl_rp S.2.1 x y (k, S.2.1 + 1, am_un S.2.2 S.2.1 c)
def sl_el (row : sl_S → sl_O) (last : Bool) (t : Nat → Nat) (n : Nat) (S : sl_S) : sl_O :=
  if sl_lt t n (sl_k t n S.1) then sl_1 (sl_x t n S.1) S.1 (sl_k t n S.1 + 1) (t (sl_k t n S.1) - 97) S
  else if sl_k t n S.1 < n ∧ t (sl_k t n S.1) = 40 then
    if last = true then (am_ft 5 (sl_k t n S.1), S)
    else sl_b (row (sl_k t n S.1 + 1, S.2)) (fun S2 => sl_rp S.2.1 (sl_x t n S.1) S.1 (S2.1 + 1, S2.2))
  else (am_ft 1 (sl_k t n S.1), S)
def sl_lf (el : sl_S → sl_O) (cl : Int32) (t : Nat → Nat) (n : Nat) : Nat → sl_S → sl_O
  | 0, S => (0, S)
  | f + 1, S => if am_rd t n S.1 = cl then (0, S) else sl_b (el S) (sl_lf el cl t n f)
def sl_rw (el : sl_S → sl_O) (cl : Int32) (t : Nat → Nat) (n : Nat) (S : sl_S) : sl_O := sl_b (el S) (fun S' => sl_lf el cl t n (n + 1 - S'.1) S')
def sl_e2 (t : Nat → Nat) (n : Nat) : sl_S → sl_O := sl_el (fun S => (0, S)) true t n
def sl_e1 (t : Nat → Nat) (n : Nat) : sl_S → sl_O := sl_el (sl_rw (sl_e2 t n) 41 t n) false t n
def sl_e0 (t : Nat → Nat) (n : Nat) : sl_S → sl_O := sl_el (sl_rw (sl_e1 t n) 41 t n) false t n
def sl_r0 (t : Nat → Nat) (n : Nat) : sl_S → sl_O := sl_rw (sl_e0 t n) (-1) t n
theorem sl_b_0 {o : sl_O} {f : sl_S → sl_O} (h : o.1 = 0) : sl_b o f = f o.2 := if_pos h
theorem sl_b_f {o : sl_O} {f : sl_S → sl_O} (h : ¬ o.1 = 0) : sl_b o f = o := if_neg h
theorem sl_b_as (o : sl_O) (f g : sl_S → sl_O) : sl_b (sl_b o f) g = sl_b o (fun S => sl_b (f S) g) := by
  by_cases h : o.1 = 0
  · rw [sl_b_0 h, sl_b_0 h]
  · rw [sl_b_f h, sl_b_f h, sl_b_f h]
theorem sl_lf_s (el : sl_S → sl_O) (cl : Int32) (t : Nat → Nat) (n f : Nat) (S : sl_S) : sl_lf el cl t n (f + 1) S = if am_rd t n S.1 = cl then (0, S) else sl_b (el S) (sl_lf el cl t n f) := rfl
/-- a state that is sound -/
def sl_ok (n : Nat) (S : sl_S) : Prop := S.1 ≤ n ∧ S.2.1 ≤ 64 ∧ ∀ i, i < S.2.1 → S.2.2 i < 26
/-- an element goes on, a fault is a fault -/
def sl_pg (n : Nat) (el : sl_S → sl_O) : Prop := ∀ S, sl_ok n S → ((el S).1 = 0 → sl_ok n (el S).2 ∧ S.1 < (el S).2.1) ∧ (¬ (el S).1 = 0 → (el S).1 < 0)
section
variable {t : Nat → Nat} {n : Nat}
theorem sl_k_le {k : Nat} (hk : k ≤ n) : sl_k t n k ≤ n ∧ k ≤ sl_k t n k := by
  unfold sl_k
  by_cases c : sl_dg t n k
  · rw [if_pos c]; have := c.1; omega
  · rw [if_neg c]; omega
theorem sl_x_1 (k : Nat) : 1 ≤ sl_x t n k ∧ sl_x t n k ≤ 9 := by
  unfold sl_x
  by_cases c : sl_dg t n k
  · rw [if_pos c]; have := c.2; omega
  · rw [if_neg c]; omega
theorem sl_rp_p {a x y : Nat} {S : sl_S} (hn : n ≤ 200) (hS : sl_ok n S) (ha : a ≤ S.2.1) (hx : 1 ≤ x) (hy : y ≤ 260) : ((sl_rp a x y S).1 = 0 → sl_ok n (sl_rp a x y S).2 ∧ (sl_rp a x y S).2.1 = S.1) ∧ (¬ (sl_rp a x y S).1 = 0 → (sl_rp a x y S).1 < 0) := by
  have ft := am_ft_n (x := 6) (k := y) (by omega) (by omega) hy
  unfold sl_rp
  by_cases c : 64 < a + (S.2.1 - a) * x
  · rw [if_pos c]; exact ⟨fun q => absurd q ft.2, fun _ => ft.1⟩
  · rw [if_neg c]
    refine ⟨fun _ => ⟨⟨hS.1, by show a + (S.2.1 - a) * x ≤ 64; omega, fun i hi => ?_⟩, rfl⟩, fun q => absurd rfl q⟩
    have hi' : i < a + (S.2.1 - a) * x := hi
    have key := am_fd_inv (R := fun j (L : Nat → Nat) => ∀ i, i < S.2.1 + j → L i < 26) (f := fun j L => am_un L (S.2.1 + j) (L (a + j))) ((S.2.1 - a) * (x - 1)) 0 S.2.2 (fun i hi => hS.2.2 i (by omega)) (fun j L _ hj q i hi => by
      have ne : ¬ S.2.1 - a = 0 := fun e => by rw [e, Nat.zero_mul] at hj; omega
      show am_un L (S.2.1 + j) (L (a + j)) i < 26
      unfold am_un
      split
      · exact q _ (by omega)
      · exact q i (by omega))
    refine key i ?_
    have e : (S.2.1 - a) * x = (S.2.1 - a) * (x - 1) + (S.2.1 - a) := by
      obtain ⟨x', rfl⟩ : ∃ x', x = x' + 1 := ⟨x - 1, by omega⟩
      rw [Nat.mul_succ]; rfl
    omega
theorem sl_1_p {x y k c : Nat} {S : sl_S} (hn : n ≤ 200) (hS : sl_ok n S) (hk : k ≤ n) (hc : c < 26) (hx : 1 ≤ x) (hy : y ≤ 260) : ((sl_1 x y k c S).1 = 0 → sl_ok n (sl_1 x y k c S).2 ∧ (sl_1 x y k c S).2.1 = k) ∧ (¬ (sl_1 x y k c S).1 = 0 → (sl_1 x y k c S).1 < 0) := by
  have ft := am_ft_n (x := 6) (k := y) (by omega) (by omega) hy
  unfold sl_1
  by_cases cc : 64 < S.2.1 + x
  · rw [if_pos cc]; exact ⟨fun q => absurd q ft.2, fun _ => ft.1⟩
  · rw [if_neg cc]
    refine sl_rp_p hn ⟨hk, by show S.2.1 + 1 ≤ 64; omega, fun i hi => ?_⟩ (Nat.le_succ _) hx hy
    have hi' : i < S.2.1 + 1 := hi
    show am_un _ _ _ i < 26
    unfold am_un
    split
    · exact hc
    · exact hS.2.2 i (by omega)
theorem sl_el_p {row : sl_S → sl_O} {last : Bool} (hn : n ≤ 200) (hr : last = false → ∀ S, sl_ok n S → ((row S).1 = 0 → sl_ok n (row S).2 ∧ S.1 ≤ (row S).2.1 ∧ (row S).2.1 < n ∧ S.2.1 ≤ (row S).2.2.1) ∧ (¬ (row S).1 = 0 → (row S).1 < 0)) : sl_pg n (sl_el row last t n) := fun S hS => by
  have kk := sl_k_le (t := t) hS.1
  have xx := sl_x_1 (t := t) (n := n) S.1
  have hS1 := hS.1
  have f5 := am_ft_n (x := 5) (k := sl_k t n S.1) (by omega) (by omega) (by omega)
  have f1 := am_ft_n (x := 1) (k := sl_k t n S.1) (by omega) (by omega) (by omega)
  unfold sl_el
  by_cases c1 : sl_lt t n (sl_k t n S.1)
  · rw [if_pos c1]
    have c1' := c1.1
    have c2' := c1.2
    have w := sl_1_p (x := sl_x t n S.1) (y := S.1) (k := sl_k t n S.1 + 1) (c := t (sl_k t n S.1) - 97) hn hS (by omega) (by omega) xx.1 (by omega)
    exact ⟨fun q => ⟨(w.1 q).1, by have := (w.1 q).2; omega⟩, w.2⟩
  · rw [if_neg c1]
    by_cases c2 : sl_k t n S.1 < n ∧ t (sl_k t n S.1) = 40
    · rw [if_pos c2]
      cases last with
      | true => rw [if_pos rfl]; exact ⟨fun q => absurd q f5.2, fun _ => f5.1⟩
      | false =>
        rw [if_neg (by decide)]
        have w := hr rfl (sl_k t n S.1 + 1, S.2) ⟨by show sl_k t n S.1 + 1 ≤ n; omega, hS.2⟩
        generalize row (sl_k t n S.1 + 1, S.2) = o at w
        by_cases c3 : o.1 = 0
        · rw [sl_b_0 c3]
          obtain ⟨w1, w2, w3, w4⟩ := w.1 c3
          have w2' : sl_k t n S.1 + 1 ≤ o.2.1 := w2
          have w4' : S.2.1 ≤ o.2.2.1 := w4
          have v := sl_rp_p (a := S.2.1) (x := sl_x t n S.1) (y := S.1) (S := (o.2.1 + 1, o.2.2)) hn ⟨by show o.2.1 + 1 ≤ n; omega, w1.2⟩ w4' xx.1 (by omega)
          exact ⟨fun q => ⟨(v.1 q).1, by
            have e : (sl_rp S.2.1 (sl_x t n S.1) S.1 (o.2.1 + 1, o.2.2)).2.1 = o.2.1 + 1 := (v.1 q).2
            omega⟩, v.2⟩
        · rw [sl_b_f c3]; exact ⟨fun q => absurd q c3, w.2⟩
    · rw [if_neg c2]; exact ⟨fun q => absurd q f1.2, fun _ => f1.1⟩
/-- lengths only grow -/
def sl_gr (el : sl_S → sl_O) : Prop := ∀ S, (el S).1 = 0 → S.2.1 ≤ (el S).2.2.1
theorem sl_rp_gr {a x y : Nat} {S : sl_S} (hx : 1 ≤ x) (h : (sl_rp a x y S).1 = 0) (ha : a ≤ S.2.1) : S.2.1 ≤ (sl_rp a x y S).2.2.1 := by
  unfold sl_rp at h ⊢
  by_cases c : 64 < a + (S.2.1 - a) * x
  · rw [if_pos c]; exact Nat.le_refl _
  · rw [if_neg c]
    show S.2.1 ≤ a + (S.2.1 - a) * x
    have := Nat.le_mul_of_pos_right (S.2.1 - a) hx
    omega
theorem sl_lf_p {el : sl_S → sl_O} {cl : Int32} (hp : sl_pg n el) (hg : ∀ S, sl_ok n S → (el S).1 = 0 → S.2.1 ≤ (el S).2.2.1) : ∀ (f : Nat) (S : sl_S), sl_ok n S → n + 1 ≤ S.1 + f → ((sl_lf el cl t n f S).1 = 0 → sl_ok n (sl_lf el cl t n f S).2 ∧ S.1 ≤ (sl_lf el cl t n f S).2.1 ∧ am_rd t n (sl_lf el cl t n f S).2.1 = cl ∧ S.2.1 ≤ (sl_lf el cl t n f S).2.2.1) ∧ (¬ (sl_lf el cl t n f S).1 = 0 → (sl_lf el cl t n f S).1 < 0)
  | 0, S, hS, hf => by have := hS.1; omega
  | f + 1, S, hS, hf => by
    rw [sl_lf_s]
    by_cases c : am_rd t n S.1 = cl
    · rw [if_pos c]; exact ⟨fun _ => ⟨hS, Nat.le_refl _, c, Nat.le_refl _⟩, fun q => absurd rfl q⟩
    · rw [if_neg c]
      have p := hp S hS
      have g := hg S hS
      generalize el S = o at p g
      by_cases c2 : o.1 = 0
      · rw [sl_b_0 c2]
        have p1 := p.1 c2
        have g1 := g c2
        have ih := sl_lf_p (cl := cl) hp hg f o.2 p1.1 (by omega)
        exact ⟨fun q => ⟨(ih.1 q).1, by have := (ih.1 q).2.1; omega, (ih.1 q).2.2.1, by have := (ih.1 q).2.2.2; omega⟩, ih.2⟩
      · rw [sl_b_f c2]; exact ⟨fun q => absurd q c2, p.2⟩
theorem sl_lf_f {el : sl_S → sl_O} {cl : Int32} (hp : sl_pg n el) : ∀ (f f' : Nat) (S : sl_S), sl_ok n S → n + 1 ≤ S.1 + f → n + 1 ≤ S.1 + f' → sl_lf el cl t n f S = sl_lf el cl t n f' S
  | 0, _, S, hS, hf, _ => by have := hS.1; omega
  | _, 0, S, hS, _, hf => by have := hS.1; omega
  | f + 1, f' + 1, S, hS, h1, h2 => by
    rw [sl_lf_s, sl_lf_s]
    by_cases c : am_rd t n S.1 = cl
    · rw [if_pos c, if_pos c]
    · rw [if_neg c, if_neg c]
      have p := hp S hS
      generalize el S = o at p
      by_cases c2 : o.1 = 0
      · rw [sl_b_0 c2, sl_b_0 c2]
        have p1 := p.1 c2
        exact sl_lf_f hp f f' o.2 p1.1 (by omega) (by omega)
      · rw [sl_b_f c2, sl_b_f c2]
theorem sl_rw_p {el : sl_S → sl_O} (tb : ∀ i, t i < 256) (hp : sl_pg n el) (hg : ∀ S, sl_ok n S → (el S).1 = 0 → S.2.1 ≤ (el S).2.2.1) : ∀ S, sl_ok n S → ((sl_rw el 41 t n S).1 = 0 → sl_ok n (sl_rw el 41 t n S).2 ∧ S.1 ≤ (sl_rw el 41 t n S).2.1 ∧ (sl_rw el 41 t n S).2.1 < n ∧ S.2.1 ≤ (sl_rw el 41 t n S).2.2.1) ∧ (¬ (sl_rw el 41 t n S).1 = 0 → (sl_rw el 41 t n S).1 < 0) := fun S hS => by
  unfold sl_rw
  have p := hp S hS
  have g := hg S hS
  generalize el S = o at p g
  by_cases c2 : o.1 = 0
  · rw [sl_b_0 c2]
    have p1 := p.1 c2
    have ih := sl_lf_p (t := t) (cl := 41) hp hg (n + 1 - o.2.1) o.2 p1.1 (by have := p1.1.1; omega)
    refine ⟨fun q => ⟨(ih.1 q).1, by have := (ih.1 q).2.1; omega, am_rd_lt (ih.1 q).2.2.1 (by decide), by have := (ih.1 q).2.2.2; have := g c2; omega⟩, ih.2⟩
  · rw [sl_b_f c2]; exact ⟨fun q => absurd q c2, p.2⟩
theorem sl_el_g {row : sl_S → sl_O} {last : Bool} (hr : last = false → ∀ S, sl_ok n S → (row S).1 = 0 → S.2.1 ≤ (row S).2.2.1) (S : sl_S) (hS : sl_ok n S) (h : (sl_el row last t n S).1 = 0) : S.2.1 ≤ (sl_el row last t n S).2.2.1 := by
  have xx := sl_x_1 (t := t) (n := n) S.1
  unfold sl_el at h ⊢
  by_cases c1 : sl_lt t n (sl_k t n S.1)
  · rw [if_pos c1] at h ⊢
    unfold sl_1 at h ⊢
    by_cases cc : 64 < S.2.1 + sl_x t n S.1
    · rw [if_pos cc]; exact Nat.le_refl _
    · rw [if_neg cc] at h ⊢
      have := sl_rp_gr (S := (sl_k t n S.1 + 1, S.2.1 + 1, am_un S.2.2 S.2.1 (t (sl_k t n S.1) - 97))) xx.1 h (Nat.le_succ _)
      exact Nat.le_trans (Nat.le_succ _) this
  · rw [if_neg c1] at h ⊢
    by_cases c2 : sl_k t n S.1 < n ∧ t (sl_k t n S.1) = 40
    · rw [if_pos c2] at h ⊢
      cases last with
      | true => rw [if_pos rfl]; exact Nat.le_refl _
      | false =>
        rw [if_neg (by decide)] at h ⊢
        have kk := sl_k_le (t := t) hS.1
        have w := hr rfl (sl_k t n S.1 + 1, S.2) ⟨by show sl_k t n S.1 + 1 ≤ n; omega, hS.2⟩
        generalize row (sl_k t n S.1 + 1, S.2) = o at w h
        by_cases c3 : o.1 = 0
        · rw [sl_b_0 c3] at h ⊢
          have w1 : S.2.1 ≤ o.2.2.1 := w c3
          have := sl_rp_gr (S := (o.2.1 + 1, o.2.2)) xx.1 h w1
          exact Nat.le_trans w1 this
        · rw [sl_b_f c3] at h; exact absurd h c3
    · rw [if_neg c2]; exact Nat.le_refl _
theorem sl_p2 (hn : n ≤ 200) : sl_pg n (sl_e2 t n) := sl_el_p hn (fun q => by cases q)
theorem sl_g2 : ∀ S, sl_ok n S → (sl_e2 t n S).1 = 0 → S.2.1 ≤ (sl_e2 t n S).2.2.1 := fun S hS h => sl_el_g (fun q => by cases q) S hS h
theorem sl_p1 (hn : n ≤ 200) (tb : ∀ i, t i < 256) : sl_pg n (sl_e1 t n) := sl_el_p hn (fun _ => sl_rw_p tb (sl_p2 hn) sl_g2)
theorem sl_g1 (hn : n ≤ 200) (tb : ∀ i, t i < 256) : ∀ S, sl_ok n S → (sl_e1 t n S).1 = 0 → S.2.1 ≤ (sl_e1 t n S).2.2.1 := fun S hS h => sl_el_g (fun _ S hS q => ((sl_rw_p tb (sl_p2 hn) sl_g2 S hS).1 q).2.2.2) S hS h
theorem sl_p0 (hn : n ≤ 200) (tb : ∀ i, t i < 256) : sl_pg n (sl_e0 t n) := sl_el_p hn (fun _ => sl_rw_p tb (sl_p1 hn tb) (sl_g1 hn tb))
theorem sl_g0 (hn : n ≤ 200) (tb : ∀ i, t i < 256) : ∀ S, sl_ok n S → (sl_e0 t n S).1 = 0 → S.2.1 ≤ (sl_e0 t n S).2.2.1 := fun S hS h => sl_el_g (fun _ S hS q => ((sl_rw_p tb (sl_p1 hn tb) (sl_g1 hn tb) S hS).1 q).2.2.2) S hS h
end
