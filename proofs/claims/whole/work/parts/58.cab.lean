-- the cabinet's text: what it says; the class
set_option maxRecDepth 20000 in
set_option maxHeartbeats 2000000 in
theorem sX1_read_0 {d : Nat} {h : am_H} {Z : Int32 → am_H → Prop} {x1 : Int32} {a2 : Nat} (hb2 : am_bu a2) (hd : 2 ≤ d) (w : am_cl mX0_clearCabinet d [.ref a2] h (fun r1 h2 => Ru mX1_read none d 14 [.ref 4, .int x1, .ref a2, .int 0] [] (am_sI (am_sI (am_sI h2 3 1 x1) 3 2 0) 3 3 0) Z)) : Ru mX1_read none d 0 [.ref 4, .int x1, .ref a2, .null] [] h Z := by
  refine st_aload_n dX1_read_0 rfl ?_
  refine st_callV (M' := mX0_clearCabinet) [] [] dX1_read_1 ml_X1_15 mf_X0_clearCabinet mv_X0_clearCabinet (bu_0 hb2) rfl rfl rfl w (fun r1 h2 w => ?_)
  show Ru mX1_read none d 4 [.ref 4, .int x1, .ref a2, .null] [] h2 Z
  refine st_aload_n dX1_read_4 rfl ?_
  refine st_getF (q := 3) fl_X1_9 fk_1_0 rfl dX1_read_5 sh_4 ?_
  refine st_iload_n dX1_read_8 rfl ?_
  refine st_callV (M' := mX7_start) [.int x1] [] dX1_read_9 ml_X1_20 mf_X7_start mv_X7_start sh_3 rfl rfl rfl (K := fun r h' => 0 = r ∧ am_sI (am_sI (am_sI h2 3 1 x1) 3 2 0) 3 3 0 = h') ⟨1, by omega, iX7_start ⟨rfl, rfl⟩⟩ (fun r1 h1 w1 => ?_)
  obtain ⟨rfl, rfl⟩ := w1
  show Ru mX1_read none d 12 [.ref 4, .int x1, .ref a2, .null] [] (am_sI (am_sI (am_sI h2 3 1 x1) 3 2 0) 3 3 0) Z
  refine st_iconst (v := 0) dX1_read_12 (by decide) ?_
  refine st_istore_n (L' := [.ref 4, .int x1, .ref a2, .int 0]) dX1_read_13 (by decide) rfl ?_
  exact w
set_option maxRecDepth 20000 in
set_option maxHeartbeats 2000000 in
theorem sX1_read_14 {d : Nat} {h : am_H} {Z : Int32 → am_H → Prop} {u1 : Value} {a2 : Nat} (hb2 : am_bu a2) {x3 : Int32} (hd : 4 ≤ d) (w : (36 < x3 → Z (h.1 3 3) h) ∧ (¬ (36 < x3) → (¬ h.1 3 3 = 0 → Z (h.1 3 3) h) ∧ (¬ (¬ h.1 3 3 = 0) → am_cl mX1_readLine d [.ref 4, .ref a2, .int x3] h (fun r1 h2 => (¬ h2.1 3 3 = 0 → Ru mX1_read none d 14 [.ref 4, u1, .ref a2, .int (x3 + 1)] [] (am_exp h2 (59 : Int32)) Z) ∧ (¬ (¬ h2.1 3 3 = 0) → (¬ (am_pk h2) = (-1) → Ru mX1_read none d 14 [.ref 4, u1, .ref a2, .int (x3 + 1)] [] (am_exp h2 (59 : Int32)) Z) ∧ ((am_pk h2) = (-1) → Z (x3 + 1) h2)))))) : Ru mX1_read none d 14 [.ref 4, u1, .ref a2, .int x3] [] h Z := by
  refine st_iload_n dX1_read_14 rfl ?_
  refine st_bipush (v := 36) dX1_read_15 (by decide) ?_
  refine st_icmp_gt (tgt := 76) dX1_read_17 (by decide) (fun c => ?_) (fun c => ?_)
  · replace w := w.1 c
    refine st_aload_n dX1_read_76 rfl ?_
    refine st_getF (q := 3) fl_X1_9 fk_1_0 rfl dX1_read_77 sh_4 ?_
    refine st_getI fl_X1_41 fk_7_3 dX1_read_80 sh_3 ?_
    exact st_ireturn rfl rfl dX1_read_83 w
  · replace w := w.2 c
    refine st_aload_n dX1_read_20 rfl ?_
    refine st_getF (q := 3) fl_X1_9 fk_1_0 rfl dX1_read_21 sh_4 ?_
    refine st_callV (M' := mX7_failed) [] [] dX1_read_24 ml_X1_26 mf_X7_failed mv_X7_failed sh_3 rfl rfl rfl (K := fun r h' => (am_b (¬ h.1 3 3 = 0)) = r ∧ h = h') ⟨1, by omega, iX7_failed ⟨rfl, rfl⟩⟩ (fun r1 h1 w1 => ?_)
    obtain ⟨rfl, rfl⟩ := w1
    show Ru mX1_read none d 27 [.ref 4, u1, .ref a2, .int x3] [.int (am_b (¬ h.1 3 3 = 0))] h Z
    refine st_ifb_ne (tgt := 76) dX1_read_27 (by decide) (fun c => ?_) (fun c => ?_)
    · replace w := w.1 c
      refine st_aload_n dX1_read_76 rfl ?_
      refine st_getF (q := 3) fl_X1_9 fk_1_0 rfl dX1_read_77 sh_4 ?_
      refine st_getI fl_X1_41 fk_7_3 dX1_read_80 sh_3 ?_
      exact st_ireturn rfl rfl dX1_read_83 w
    · replace w := w.2 c
      refine st_aload_n dX1_read_30 rfl ?_
      refine st_aload_n dX1_read_31 rfl ?_
      refine st_iload_n dX1_read_32 rfl ?_
      refine st_callV (M' := mX1_readLine) [.ref a2, .int x3] [] dX1_read_33 ml_X1_30 mf_X1_readLine mv_X1_readLine sh_4 rfl rfl rfl w (fun r1 h2 w => ?_)
      show Ru mX1_read none d 36 [.ref 4, u1, .ref a2, .int x3] [] h2 Z
      refine st_aload_n dX1_read_36 rfl ?_
      refine st_getF (q := 3) fl_X1_9 fk_1_0 rfl dX1_read_37 sh_4 ?_
      refine st_callV (M' := mX7_failed) [] [] dX1_read_40 ml_X1_26 mf_X7_failed mv_X7_failed sh_3 rfl rfl rfl (K := fun r h' => (am_b (¬ h2.1 3 3 = 0)) = r ∧ h2 = h') ⟨1, by omega, iX7_failed ⟨rfl, rfl⟩⟩ (fun r1 h1 w1 => ?_)
      obtain ⟨rfl, rfl⟩ := w1
      show Ru mX1_read none d 43 [.ref 4, u1, .ref a2, .int x3] [.int (am_b (¬ h2.1 3 3 = 0))] h2 Z
      refine st_ifb_ne (tgt := 61) dX1_read_43 (by decide) (fun c => ?_) (fun c => ?_)
      · replace w := w.1 c
        refine st_aload_n dX1_read_61 rfl ?_
        refine st_getF (q := 3) fl_X1_9 fk_1_0 rfl dX1_read_62 sh_4 ?_
        refine st_bipush (v := 59) dX1_read_65 (by decide) ?_
        refine st_callV (M' := mX7_expect) [.int 59] [] dX1_read_67 ml_X1_38 mf_X7_expect mv_X7_expect sh_3 rfl rfl rfl (K := fun r h' => 0 = r ∧ am_exp h2 (59 : Int32) = h') ⟨3, by omega, iX7_expect (by omega) ⟨rfl, rfl⟩⟩ (fun r1 h1 w1 => ?_)
        obtain ⟨rfl, rfl⟩ := w1
        show Ru mX1_read none d 70 [.ref 4, u1, .ref a2, .int x3] [] (am_exp h2 (59 : Int32)) Z
        refine st_iinc (L' := [.ref 4, u1, .ref a2, .int (x3 + 1)]) dX1_read_70 rfl rfl (by decide) rfl ?_
        refine st_goto (tgt := 14) dX1_read_73 (by decide) ?_
        exact w
      · replace w := w.2 c
        refine st_aload_n dX1_read_46 rfl ?_
        refine st_getF (q := 3) fl_X1_9 fk_1_0 rfl dX1_read_47 sh_4 ?_
        refine st_callV (M' := mX7_peek) [] [] dX1_read_50 ml_X1_34 mf_X7_peek mv_X7_peek sh_3 rfl rfl rfl (K := fun r h' => (am_pk h2) = r ∧ h2 = h') ⟨2, by omega, iX7_peek (by omega) ⟨rfl, rfl⟩⟩ (fun r1 h1 w1 => ?_)
        obtain ⟨rfl, rfl⟩ := w1
        show Ru mX1_read none d 53 [.ref 4, u1, .ref a2, .int x3] [.int (am_pk h2)] h2 Z
        refine st_iconst (v := (-1)) dX1_read_53 (by decide) ?_
        refine st_icmp_ne (tgt := 61) dX1_read_54 (by decide) (fun c => ?_) (fun c => ?_)
        · replace w := w.1 c
          refine st_aload_n dX1_read_61 rfl ?_
          refine st_getF (q := 3) fl_X1_9 fk_1_0 rfl dX1_read_62 sh_4 ?_
          refine st_bipush (v := 59) dX1_read_65 (by decide) ?_
          refine st_callV (M' := mX7_expect) [.int 59] [] dX1_read_67 ml_X1_38 mf_X7_expect mv_X7_expect sh_3 rfl rfl rfl (K := fun r h' => 0 = r ∧ am_exp h2 (59 : Int32) = h') ⟨3, by omega, iX7_expect (by omega) ⟨rfl, rfl⟩⟩ (fun r1 h1 w1 => ?_)
          obtain ⟨rfl, rfl⟩ := w1
          show Ru mX1_read none d 70 [.ref 4, u1, .ref a2, .int x3] [] (am_exp h2 (59 : Int32)) Z
          refine st_iinc (L' := [.ref 4, u1, .ref a2, .int (x3 + 1)]) dX1_read_70 rfl rfl (by decide) rfl ?_
          refine st_goto (tgt := 14) dX1_read_73 (by decide) ?_
          exact w
        · replace w := w.2 c
          refine st_iload_n dX1_read_57 rfl ?_
          refine st_iconst (v := 1) dX1_read_58 (by decide) ?_
          refine st_iadd dX1_read_59 ?_
          exact st_ireturn rfl rfl dX1_read_60 w
set_option maxRecDepth 20000 in
set_option maxHeartbeats 2000000 in
theorem sX1_readLine_0 {d : Nat} {h : am_H} {Z : Int32 → am_H → Prop} {a1 : Nat} (hb1 : am_bu a1) {x2 : Int32} (hd : 3 ≤ d) (w : (97 ≤ (am_pk h) ∧ (am_pk h) ≤ 108 → Ru mX1_readLine none d 42 [.ref 4, .ref a1, .int x2, .int (am_pk h), .int (am_b (97 ≤ (am_pk h) ∧ (am_pk h) ≤ 108))] [] h Z) ∧ (¬ (97 ≤ (am_pk h) ∧ (am_pk h) ≤ 108) → ((am_pk h) < 65 → Z 0 (am_fal h (1 : Int32) (h.1 3 2))) ∧ (¬ ((am_pk h) < 65) → ((am_pk h) ≤ 80 → Ru mX1_readLine none d 42 [.ref 4, .ref a1, .int x2, .int (am_pk h), .int (am_b (97 ≤ (am_pk h) ∧ (am_pk h) ≤ 108))] [] h Z) ∧ (¬ ((am_pk h) ≤ 80) → Z 0 (am_fal h (1 : Int32) (h.1 3 2)))))) : Ru mX1_readLine none d 0 [.ref 4, .ref a1, .int x2, .null, .null] [] h Z := by
  refine st_aload_n dX1_readLine_0 rfl ?_
  refine st_getF (q := 3) fl_X1_9 fk_1_0 rfl dX1_readLine_1 sh_4 ?_
  refine st_callV (M' := mX7_peek) [] [] dX1_readLine_4 ml_X1_34 mf_X7_peek mv_X7_peek sh_3 rfl rfl rfl (K := fun r h' => (am_pk h) = r ∧ h = h') ⟨2, by omega, iX7_peek (by omega) ⟨rfl, rfl⟩⟩ (fun r1 h1 w1 => ?_)
  obtain ⟨rfl, rfl⟩ := w1
  show Ru mX1_readLine none d 7 [.ref 4, .ref a1, .int x2, .null, .null] [.int (am_pk h)] h Z
  refine st_istore_n (L' := [.ref 4, .ref a1, .int x2, .int (am_pk h), .null]) dX1_readLine_7 (by decide) rfl ?_
  refine st_iload_n dX1_readLine_8 rfl ?_
  refine st_callS (M' := mX1_isDrawerLetter) [.int (am_pk h)] [] dX1_readLine_9 ml_X1_45 mf_X1_isDrawerLetter ms_X1_isDrawerLetter rfl rfl rfl (K := fun r h' => (am_b (97 ≤ (am_pk h) ∧ (am_pk h) ≤ 108)) = r ∧ h = h') ⟨1, by omega, iX1_isDL ⟨rfl, rfl⟩⟩ (fun r1 h1 w1 => ?_)
  obtain ⟨rfl, rfl⟩ := w1
  show Ru mX1_readLine none d 12 [.ref 4, .ref a1, .int x2, .int (am_pk h), .null] [.int (am_b (97 ≤ (am_pk h) ∧ (am_pk h) ≤ 108))] h Z
  refine st_istore (L' := [.ref 4, .ref a1, .int x2, .int (am_pk h), .int (am_b (97 ≤ (am_pk h) ∧ (am_pk h) ≤ 108))]) dX1_readLine_12 (by decide) rfl ?_
  refine st_iload dX1_readLine_14 rfl ?_
  refine st_ifb_ne (tgt := 42) dX1_readLine_16 (by decide) (fun c => ?_) (fun c => ?_)
  · replace w := w.1 c
    exact w
  · replace w := w.2 c
    refine st_iload_n dX1_readLine_19 rfl ?_
    refine st_bipush (v := 65) dX1_readLine_20 (by decide) ?_
    refine st_icmp_lt (tgt := 31) dX1_readLine_22 (by decide) (fun c => ?_) (fun c => ?_)
    · replace w := w.1 c
      refine st_aload_n dX1_readLine_31 rfl ?_
      refine st_getF (q := 3) fl_X1_9 fk_1_0 rfl dX1_readLine_32 sh_4 ?_
      refine st_iconst (v := 1) dX1_readLine_35 (by decide) ?_
      refine st_callV (M' := mX7_failHere) [.int 1] [] dX1_readLine_36 ml_X1_49 mf_X7_failHere mv_X7_failHere sh_3 rfl rfl rfl (K := fun r h' => 0 = r ∧ am_fal h (1 : Int32) (h.1 3 2) = h') ⟨2, by omega, iX7_failHere (by omega) ⟨rfl, rfl⟩⟩ (fun r1 h1 w1 => ?_)
      obtain ⟨rfl, rfl⟩ := w1
      show Ru mX1_readLine none d 39 [.ref 4, .ref a1, .int x2, .int (am_pk h), .int (am_b (97 ≤ (am_pk h) ∧ (am_pk h) ≤ 108))] [] (am_fal h (1 : Int32) (h.1 3 2)) Z
      refine st_goto (tgt := 99) dX1_readLine_39 (by decide) ?_
      exact st_return rfl dX1_readLine_99 w
    · replace w := w.2 c
      refine st_iload_n dX1_readLine_25 rfl ?_
      refine st_bipush (v := 80) dX1_readLine_26 (by decide) ?_
      refine st_icmp_le (tgt := 42) dX1_readLine_28 (by decide) (fun c => ?_) (fun c => ?_)
      · replace w := w.1 c
        exact w
      · replace w := w.2 c
        refine st_aload_n dX1_readLine_31 rfl ?_
        refine st_getF (q := 3) fl_X1_9 fk_1_0 rfl dX1_readLine_32 sh_4 ?_
        refine st_iconst (v := 1) dX1_readLine_35 (by decide) ?_
        refine st_callV (M' := mX7_failHere) [.int 1] [] dX1_readLine_36 ml_X1_49 mf_X7_failHere mv_X7_failHere sh_3 rfl rfl rfl (K := fun r h' => 0 = r ∧ am_fal h (1 : Int32) (h.1 3 2) = h') ⟨2, by omega, iX7_failHere (by omega) ⟨rfl, rfl⟩⟩ (fun r1 h1 w1 => ?_)
        obtain ⟨rfl, rfl⟩ := w1
        show Ru mX1_readLine none d 39 [.ref 4, .ref a1, .int x2, .int (am_pk h), .int (am_b (97 ≤ (am_pk h) ∧ (am_pk h) ≤ 108))] [] (am_fal h (1 : Int32) (h.1 3 2)) Z
        refine st_goto (tgt := 99) dX1_readLine_39 (by decide) ?_
        exact st_return rfl dX1_readLine_99 w
set_option maxRecDepth 20000 in
set_option maxHeartbeats 2000000 in
theorem sX1_readLine_42 {d : Nat} {h : am_H} {Z : Int32 → am_H → Prop} {a1 : Nat} (hb1 : am_bu a1) {x2 : Int32} {x3 : Int32} {x4 : Int32} (hd : 3 ≤ d) (w : (36 ≤ x2 → Z 0 (am_fal h (4 : Int32) (h.1 3 2))) ∧ (¬ (36 ≤ x2) → (¬ x4 = 0 → Ru mX1_readLine none d 73 [.ref 4, .ref a1, .int x2, .int x3, .int x4] [] h Z) ∧ (x4 = 0 → ((h.1 a1 8) < 24 → Ru mX1_readLine none d 73 [.ref 4, .ref a1, .int x2, .int x3, .int x4] [] h Z) ∧ (¬ ((h.1 a1 8) < 24) → Z 0 (am_fal h (4 : Int32) (h.1 3 2)))))) : Ru mX1_readLine none d 42 [.ref 4, .ref a1, .int x2, .int x3, .int x4] [] h Z := by
  refine st_iload_n dX1_readLine_42 rfl ?_
  refine st_bipush (v := 36) dX1_readLine_43 (by decide) ?_
  refine st_icmp_ge (tgt := 62) dX1_readLine_45 (by decide) (fun c => ?_) (fun c => ?_)
  · replace w := w.1 c
    refine st_aload_n dX1_readLine_62 rfl ?_
    refine st_getF (q := 3) fl_X1_9 fk_1_0 rfl dX1_readLine_63 sh_4 ?_
    refine st_iconst (v := 4) dX1_readLine_66 (by decide) ?_
    refine st_callV (M' := mX7_failHere) [.int 4] [] dX1_readLine_67 ml_X1_49 mf_X7_failHere mv_X7_failHere sh_3 rfl rfl rfl (K := fun r h' => 0 = r ∧ am_fal h (4 : Int32) (h.1 3 2) = h') ⟨2, by omega, iX7_failHere (by omega) ⟨rfl, rfl⟩⟩ (fun r1 h1 w1 => ?_)
    obtain ⟨rfl, rfl⟩ := w1
    show Ru mX1_readLine none d 70 [.ref 4, .ref a1, .int x2, .int x3, .int x4] [] (am_fal h (4 : Int32) (h.1 3 2)) Z
    refine st_goto (tgt := 99) dX1_readLine_70 (by decide) ?_
    exact st_return rfl dX1_readLine_99 w
  · replace w := w.2 c
    refine st_iload dX1_readLine_48 rfl ?_
    refine st_if_ne (tgt := 73) dX1_readLine_50 (by decide) (fun c => ?_) (fun c => ?_)
    · replace w := w.1 c
      exact w
    · replace w := w.2 c
      refine st_aload_n dX1_readLine_53 rfl ?_
      refine st_getI fl_X1_52 fk_0_8 dX1_readLine_54 (bu_0 hb1) ?_
      refine st_bipush (v := 24) dX1_readLine_57 (by decide) ?_
      refine st_icmp_lt (tgt := 73) dX1_readLine_59 (by decide) (fun c => ?_) (fun c => ?_)
      · replace w := w.1 c
        exact w
      · replace w := w.2 c
        refine st_aload_n dX1_readLine_62 rfl ?_
        refine st_getF (q := 3) fl_X1_9 fk_1_0 rfl dX1_readLine_63 sh_4 ?_
        refine st_iconst (v := 4) dX1_readLine_66 (by decide) ?_
        refine st_callV (M' := mX7_failHere) [.int 4] [] dX1_readLine_67 ml_X1_49 mf_X7_failHere mv_X7_failHere sh_3 rfl rfl rfl (K := fun r h' => 0 = r ∧ am_fal h (4 : Int32) (h.1 3 2) = h') ⟨2, by omega, iX7_failHere (by omega) ⟨rfl, rfl⟩⟩ (fun r1 h1 w1 => ?_)
        obtain ⟨rfl, rfl⟩ := w1
        show Ru mX1_readLine none d 70 [.ref 4, .ref a1, .int x2, .int x3, .int x4] [] (am_fal h (4 : Int32) (h.1 3 2)) Z
        refine st_goto (tgt := 99) dX1_readLine_70 (by decide) ?_
        exact st_return rfl dX1_readLine_99 w
set_option maxRecDepth 20000 in
set_option maxHeartbeats 2000000 in
theorem sX1_readLine_73 {d : Nat} {h : am_H} {Z : Int32 → am_H → Prop} {a1 : Nat} (hb1 : am_bu a1) {u2 : Value} {x3 : Int32} {x4 : Int32} (w : (x4 = 0 → am_cl mX1_readPaper d [.ref 4, .ref a1, .int (x3 - 65)] h (fun r1 h2 => Z 0 h2)) ∧ (¬ (x4 = 0) → am_cl mX1_readDrawer d [.ref 4, .ref a1, .int (x3 - 97)] h (fun r3 h4 => Z 0 h4))) : Ru mX1_readLine none d 73 [.ref 4, .ref a1, u2, .int x3, .int x4] [] h Z := by
  refine st_iload dX1_readLine_73 rfl ?_
  refine st_if_eq (tgt := 90) dX1_readLine_75 (by decide) (fun c => ?_) (fun c => ?_)
  · replace w := w.1 c
    refine st_aload_n dX1_readLine_90 rfl ?_
    refine st_aload_n dX1_readLine_91 rfl ?_
    refine st_iload_n dX1_readLine_92 rfl ?_
    refine st_bipush (v := 65) dX1_readLine_93 (by decide) ?_
    refine st_isub dX1_readLine_95 ?_
    refine st_callV (M' := mX1_readPaper) [.ref a1, .int (x3 - 65)] [] dX1_readLine_96 ml_X1_58 mf_X1_readPaper mv_X1_readPaper sh_4 rfl rfl rfl w (fun r1 h2 w => ?_)
    show Ru mX1_readLine none d 99 [.ref 4, .ref a1, u2, .int x3, .int x4] [] h2 Z
    exact st_return rfl dX1_readLine_99 w
  · replace w := w.2 c
    refine st_aload_n dX1_readLine_78 rfl ?_
    refine st_aload_n dX1_readLine_79 rfl ?_
    refine st_iload_n dX1_readLine_80 rfl ?_
    refine st_bipush (v := 97) dX1_readLine_81 (by decide) ?_
    refine st_isub dX1_readLine_83 ?_
    refine st_callV (M' := mX1_readDrawer) [.ref a1, .int (x3 - 97)] [] dX1_readLine_84 ml_X1_55 mf_X1_readDrawer mv_X1_readDrawer sh_4 rfl rfl rfl w (fun r3 h4 w => ?_)
    show Ru mX1_readLine none d 87 [.ref 4, .ref a1, u2, .int x3, .int x4] [] h4 Z
    refine st_goto (tgt := 99) dX1_readLine_87 (by decide) ?_
    exact st_return rfl dX1_readLine_99 w
set_option maxRecDepth 20000 in
set_option maxHeartbeats 2000000 in
theorem sX1_readDrawer_0 {d : Nat} {h : am_H} {Z : Int32 → am_H → Prop} {a1 : Nat} (hb1 : am_bu a1) {x2 : Int32} (hd : 3 ≤ d) (w : (¬ (am_told h a1 x2) → am_cl mX1_readRoom d [.ref 4] (am_sI h 3 2 (h.1 3 2 + 1)) (fun r1 h2 => (¬ h2.1 3 3 = 0 → Z 0 h2) ∧ (¬ (¬ h2.1 3 3 = 0) → am_cl mX0_tellDrawer d [.ref a1, .int x2, .int r1] h2 (fun r3 h4 => Z 0 h4)))) ∧ (am_told h a1 x2 → Z 0 (am_fal h (6 : Int32) (h.1 3 2)))) : Ru mX1_readDrawer none d 0 [.ref 4, .ref a1, .int x2, .null] [] h Z := by
  refine st_aload_n dX1_readDrawer_0 rfl ?_
  refine st_iload_n dX1_readDrawer_1 rfl ?_
  refine st_callV (M' := mX0_isTold) [.int x2] [] dX1_readDrawer_2 ml_X1_61 mf_X0_isTold mv_X0_isTold (bu_0 hb1) rfl rfl rfl (K := fun r h' => (am_b (am_told h a1 x2)) = r ∧ h = h') ⟨1, by omega, iX0_isTold hb1 ⟨rfl, rfl⟩⟩ (fun r1 h1 w1 => ?_)
  obtain ⟨rfl, rfl⟩ := w1
  show Ru mX1_readDrawer none d 5 [.ref 4, .ref a1, .int x2, .null] [.int (am_b (am_told h a1 x2))] h Z
  refine st_ifb_eq (tgt := 18) dX1_readDrawer_5 (by decide) (fun c => ?_) (fun c => ?_)
  · replace w := w.1 c
    refine st_aload_n dX1_readDrawer_18 rfl ?_
    refine st_getF (q := 3) fl_X1_9 fk_1_0 rfl dX1_readDrawer_19 sh_4 ?_
    refine st_callV (M' := mX7_next) [] [] dX1_readDrawer_22 ml_X1_64 mf_X7_next mv_X7_next sh_3 rfl rfl rfl (K := fun r h' => 0 = r ∧ am_sI h 3 2 (h.1 3 2 + 1) = h') ⟨1, by omega, iX7_next ⟨rfl, rfl⟩⟩ (fun r1 h1 w1 => ?_)
    obtain ⟨rfl, rfl⟩ := w1
    show Ru mX1_readDrawer none d 25 [.ref 4, .ref a1, .int x2, .null] [] (am_sI h 3 2 (h.1 3 2 + 1)) Z
    refine st_aload_n dX1_readDrawer_25 rfl ?_
    refine st_callV (M' := mX1_readRoom) [] [] dX1_readDrawer_26 ml_X1_67 mf_X1_readRoom mv_X1_readRoom sh_4 rfl rfl rfl w (fun r1 h2 w => ?_)
    show Ru mX1_readDrawer none d 29 [.ref 4, .ref a1, .int x2, .null] [.int r1] h2 Z
    refine st_istore_n (L' := [.ref 4, .ref a1, .int x2, .int r1]) dX1_readDrawer_29 (by decide) rfl ?_
    refine st_aload_n dX1_readDrawer_30 rfl ?_
    refine st_getF (q := 3) fl_X1_9 fk_1_0 rfl dX1_readDrawer_31 sh_4 ?_
    refine st_callV (M' := mX7_failed) [] [] dX1_readDrawer_34 ml_X1_26 mf_X7_failed mv_X7_failed sh_3 rfl rfl rfl (K := fun r h' => (am_b (¬ h2.1 3 3 = 0)) = r ∧ h2 = h') ⟨1, by omega, iX7_failed ⟨rfl, rfl⟩⟩ (fun r1 h1 w1 => ?_)
    obtain ⟨rfl, rfl⟩ := w1
    show Ru mX1_readDrawer none d 37 [.ref 4, .ref a1, .int x2, .int r1] [.int (am_b (¬ h2.1 3 3 = 0))] h2 Z
    refine st_ifb_ne (tgt := 46) dX1_readDrawer_37 (by decide) (fun c => ?_) (fun c => ?_)
    · replace w := w.1 c
      exact st_return rfl dX1_readDrawer_46 w
    · replace w := w.2 c
      refine st_aload_n dX1_readDrawer_40 rfl ?_
      refine st_iload_n dX1_readDrawer_41 rfl ?_
      refine st_iload_n dX1_readDrawer_42 rfl ?_
      refine st_callV (M' := mX0_tellDrawer) [.int x2, .int r1] [] dX1_readDrawer_43 ml_X1_70 mf_X0_tellDrawer mv_X0_tellDrawer (bu_0 hb1) rfl rfl rfl w (fun r3 h4 w => ?_)
      show Ru mX1_readDrawer none d 46 [.ref 4, .ref a1, .int x2, .int r1] [] h4 Z
      exact st_return rfl dX1_readDrawer_46 w
  · replace w := w.2 c
    refine st_aload_n dX1_readDrawer_8 rfl ?_
    refine st_getF (q := 3) fl_X1_9 fk_1_0 rfl dX1_readDrawer_9 sh_4 ?_
    refine st_bipush (v := 6) dX1_readDrawer_12 (by decide) ?_
    refine st_callV (M' := mX7_failHere) [.int 6] [] dX1_readDrawer_14 ml_X1_49 mf_X7_failHere mv_X7_failHere sh_3 rfl rfl rfl (K := fun r h' => 0 = r ∧ am_fal h (6 : Int32) (h.1 3 2) = h') ⟨2, by omega, iX7_failHere (by omega) ⟨rfl, rfl⟩⟩ (fun r1 h1 w1 => ?_)
    obtain ⟨rfl, rfl⟩ := w1
    show Ru mX1_readDrawer none d 17 [.ref 4, .ref a1, .int x2, .null] [] (am_fal h (6 : Int32) (h.1 3 2)) Z
    exact st_return rfl dX1_readDrawer_17 w
set_option maxRecDepth 20000 in
set_option maxHeartbeats 2000000 in
theorem sX1_readRoom_0 {d : Nat} {h : am_H} {Z : Int32 → am_H → Prop}  (hd : 3 ≤ d) (w : (48 ≤ (am_pk h) ∧ (am_pk h) ≤ 57 → (¬ (48 ≤ (am_pk (am_sI h 3 2 (h.1 3 2 + 1))) ∧ (am_pk (am_sI h 3 2 (h.1 3 2 + 1))) ≤ 57) → Ru mX1_readRoom none d 85 [.ref 4, .int (h.1 3 2), .int ((am_pk h) - 48)] [] (am_sI h 3 2 (h.1 3 2 + 1)) Z) ∧ (48 ≤ (am_pk (am_sI h 3 2 (h.1 3 2 + 1))) ∧ (am_pk (am_sI h 3 2 (h.1 3 2 + 1))) ≤ 57 → Ru mX1_readRoom none d 85 [.ref 4, .int (h.1 3 2), .int (((10 * ((am_pk h) - 48)) + (am_pk (am_sI h 3 2 (h.1 3 2 + 1)))) - 48)] [] (am_sI (am_sI h 3 2 (h.1 3 2 + 1)) 3 2 ((am_sI h 3 2 (h.1 3 2 + 1)).1 3 2 + 1)) Z)) ∧ (¬ (48 ≤ (am_pk h) ∧ (am_pk h) ≤ 57) → Z 0 (am_fal h (1 : Int32) (h.1 3 2)))) : Ru mX1_readRoom none d 0 [.ref 4, .null, .null] [] h Z := by
  refine st_aload_n dX1_readRoom_0 rfl ?_
  refine st_getF (q := 3) fl_X1_9 fk_1_0 rfl dX1_readRoom_1 sh_4 ?_
  refine st_getI fl_X1_74 fk_7_2 dX1_readRoom_4 sh_3 ?_
  refine st_istore_n (L' := [.ref 4, .int (h.1 3 2), .null]) dX1_readRoom_7 (by decide) rfl ?_
  refine st_aload_n dX1_readRoom_8 rfl ?_
  refine st_getF (q := 3) fl_X1_9 fk_1_0 rfl dX1_readRoom_9 sh_4 ?_
  refine st_callV (M' := mX7_peek) [] [] dX1_readRoom_12 ml_X1_34 mf_X7_peek mv_X7_peek sh_3 rfl rfl rfl (K := fun r h' => (am_pk h) = r ∧ h = h') ⟨2, by omega, iX7_peek (by omega) ⟨rfl, rfl⟩⟩ (fun r1 h1 w1 => ?_)
  obtain ⟨rfl, rfl⟩ := w1
  show Ru mX1_readRoom none d 15 [.ref 4, .int (h.1 3 2), .null] [.int (am_pk h)] h Z
  refine st_callS (M' := mX7_isDigit) [.int (am_pk h)] [] dX1_readRoom_15 ml_X1_77 mf_X7_isDigit ms_X7_isDigit rfl rfl rfl (K := fun r h' => (am_b (48 ≤ (am_pk h) ∧ (am_pk h) ≤ 57)) = r ∧ h = h') ⟨1, by omega, iX7_isDigit ⟨rfl, rfl⟩⟩ (fun r1 h1 w1 => ?_)
  obtain ⟨rfl, rfl⟩ := w1
  show Ru mX1_readRoom none d 18 [.ref 4, .int (h.1 3 2), .null] [.int (am_b (48 ≤ (am_pk h) ∧ (am_pk h) ≤ 57))] h Z
  refine st_ifb_ne (tgt := 31) dX1_readRoom_18 (by decide) (fun c => ?_) (fun c => ?_)
  · replace w := w.1 c
    refine st_aload_n dX1_readRoom_31 rfl ?_
    refine st_getF (q := 3) fl_X1_9 fk_1_0 rfl dX1_readRoom_32 sh_4 ?_
    refine st_callV (M' := mX7_peek) [] [] dX1_readRoom_35 ml_X1_34 mf_X7_peek mv_X7_peek sh_3 rfl rfl rfl (K := fun r h' => (am_pk h) = r ∧ h = h') ⟨2, by omega, iX7_peek (by omega) ⟨rfl, rfl⟩⟩ (fun r1 h1 w1 => ?_)
    obtain ⟨rfl, rfl⟩ := w1
    show Ru mX1_readRoom none d 38 [.ref 4, .int (h.1 3 2), .null] [.int (am_pk h)] h Z
    refine st_bipush (v := 48) dX1_readRoom_38 (by decide) ?_
    refine st_isub dX1_readRoom_40 ?_
    refine st_istore_n (L' := [.ref 4, .int (h.1 3 2), .int ((am_pk h) - 48)]) dX1_readRoom_41 (by decide) rfl ?_
    refine st_aload_n dX1_readRoom_42 rfl ?_
    refine st_getF (q := 3) fl_X1_9 fk_1_0 rfl dX1_readRoom_43 sh_4 ?_
    refine st_callV (M' := mX7_next) [] [] dX1_readRoom_46 ml_X1_64 mf_X7_next mv_X7_next sh_3 rfl rfl rfl (K := fun r h' => 0 = r ∧ am_sI h 3 2 (h.1 3 2 + 1) = h') ⟨1, by omega, iX7_next ⟨rfl, rfl⟩⟩ (fun r1 h1 w1 => ?_)
    obtain ⟨rfl, rfl⟩ := w1
    show Ru mX1_readRoom none d 49 [.ref 4, .int (h.1 3 2), .int ((am_pk h) - 48)] [] (am_sI h 3 2 (h.1 3 2 + 1)) Z
    refine st_aload_n dX1_readRoom_49 rfl ?_
    refine st_getF (q := 3) fl_X1_9 fk_1_0 rfl dX1_readRoom_50 sh_4 ?_
    refine st_callV (M' := mX7_peek) [] [] dX1_readRoom_53 ml_X1_34 mf_X7_peek mv_X7_peek sh_3 rfl rfl rfl (K := fun r h' => (am_pk (am_sI h 3 2 (h.1 3 2 + 1))) = r ∧ am_sI h 3 2 (h.1 3 2 + 1) = h') ⟨2, by omega, iX7_peek (by omega) ⟨rfl, rfl⟩⟩ (fun r1 h1 w1 => ?_)
    obtain ⟨rfl, rfl⟩ := w1
    show Ru mX1_readRoom none d 56 [.ref 4, .int (h.1 3 2), .int ((am_pk h) - 48)] [.int (am_pk (am_sI h 3 2 (h.1 3 2 + 1)))] (am_sI h 3 2 (h.1 3 2 + 1)) Z
    refine st_callS (M' := mX7_isDigit) [.int (am_pk (am_sI h 3 2 (h.1 3 2 + 1)))] [] dX1_readRoom_56 ml_X1_77 mf_X7_isDigit ms_X7_isDigit rfl rfl rfl (K := fun r h' => (am_b (48 ≤ (am_pk (am_sI h 3 2 (h.1 3 2 + 1))) ∧ (am_pk (am_sI h 3 2 (h.1 3 2 + 1))) ≤ 57)) = r ∧ am_sI h 3 2 (h.1 3 2 + 1) = h') ⟨1, by omega, iX7_isDigit ⟨rfl, rfl⟩⟩ (fun r1 h1 w1 => ?_)
    obtain ⟨rfl, rfl⟩ := w1
    show Ru mX1_readRoom none d 59 [.ref 4, .int (h.1 3 2), .int ((am_pk h) - 48)] [.int (am_b (48 ≤ (am_pk (am_sI h 3 2 (h.1 3 2 + 1))) ∧ (am_pk (am_sI h 3 2 (h.1 3 2 + 1))) ≤ 57))] (am_sI h 3 2 (h.1 3 2 + 1)) Z
    refine st_ifb_eq (tgt := 85) dX1_readRoom_59 (by decide) (fun c => ?_) (fun c => ?_)
    · replace w := w.1 c
      exact w
    · replace w := w.2 c
      refine st_bipush (v := 10) dX1_readRoom_62 (by decide) ?_
      refine st_iload_n dX1_readRoom_64 rfl ?_
      refine st_imul dX1_readRoom_65 ?_
      refine st_aload_n dX1_readRoom_66 rfl ?_
      refine st_getF (q := 3) fl_X1_9 fk_1_0 rfl dX1_readRoom_67 sh_4 ?_
      refine st_callV (M' := mX7_peek) [] [.int (10 * ((am_pk h) - 48))] dX1_readRoom_70 ml_X1_34 mf_X7_peek mv_X7_peek sh_3 rfl rfl rfl (K := fun r h' => (am_pk (am_sI h 3 2 (h.1 3 2 + 1))) = r ∧ am_sI h 3 2 (h.1 3 2 + 1) = h') ⟨2, by omega, iX7_peek (by omega) ⟨rfl, rfl⟩⟩ (fun r1 h1 w1 => ?_)
      obtain ⟨rfl, rfl⟩ := w1
      show Ru mX1_readRoom none d 73 [.ref 4, .int (h.1 3 2), .int ((am_pk h) - 48)] [.int (am_pk (am_sI h 3 2 (h.1 3 2 + 1))), .int (10 * ((am_pk h) - 48))] (am_sI h 3 2 (h.1 3 2 + 1)) Z
      refine st_iadd dX1_readRoom_73 ?_
      refine st_bipush (v := 48) dX1_readRoom_74 (by decide) ?_
      refine st_isub dX1_readRoom_76 ?_
      refine st_istore_n (L' := [.ref 4, .int (h.1 3 2), .int (((10 * ((am_pk h) - 48)) + (am_pk (am_sI h 3 2 (h.1 3 2 + 1)))) - 48)]) dX1_readRoom_77 (by decide) rfl ?_
      refine st_aload_n dX1_readRoom_78 rfl ?_
      refine st_getF (q := 3) fl_X1_9 fk_1_0 rfl dX1_readRoom_79 sh_4 ?_
      refine st_callV (M' := mX7_next) [] [] dX1_readRoom_82 ml_X1_64 mf_X7_next mv_X7_next sh_3 rfl rfl rfl (K := fun r h' => 0 = r ∧ am_sI (am_sI h 3 2 (h.1 3 2 + 1)) 3 2 ((am_sI h 3 2 (h.1 3 2 + 1)).1 3 2 + 1) = h') ⟨1, by omega, iX7_next ⟨rfl, rfl⟩⟩ (fun r1 h1 w1 => ?_)
      obtain ⟨rfl, rfl⟩ := w1
      show Ru mX1_readRoom none d 85 [.ref 4, .int (h.1 3 2), .int (((10 * ((am_pk h) - 48)) + (am_pk (am_sI h 3 2 (h.1 3 2 + 1)))) - 48)] [] (am_sI (am_sI h 3 2 (h.1 3 2 + 1)) 3 2 ((am_sI h 3 2 (h.1 3 2 + 1)).1 3 2 + 1)) Z
      exact w
  · replace w := w.2 c
    refine st_aload_n dX1_readRoom_21 rfl ?_
    refine st_getF (q := 3) fl_X1_9 fk_1_0 rfl dX1_readRoom_22 sh_4 ?_
    refine st_iconst (v := 1) dX1_readRoom_25 (by decide) ?_
    refine st_callV (M' := mX7_failHere) [.int 1] [] dX1_readRoom_26 ml_X1_49 mf_X7_failHere mv_X7_failHere sh_3 rfl rfl rfl (K := fun r h' => 0 = r ∧ am_fal h (1 : Int32) (h.1 3 2) = h') ⟨2, by omega, iX7_failHere (by omega) ⟨rfl, rfl⟩⟩ (fun r1 h1 w1 => ?_)
    obtain ⟨rfl, rfl⟩ := w1
    show Ru mX1_readRoom none d 29 [.ref 4, .int (h.1 3 2), .null] [] (am_fal h (1 : Int32) (h.1 3 2)) Z
    refine st_iconst (v := 0) dX1_readRoom_29 (by decide) ?_
    exact st_ireturn rfl rfl dX1_readRoom_30 w
set_option maxRecDepth 20000 in
set_option maxHeartbeats 2000000 in
theorem sX1_readRoom_85 {d : Nat} {h : am_H} {Z : Int32 → am_H → Prop} {x1 : Int32} {x2 : Int32} (hd : 3 ≤ d) (w : (¬ (48 ≤ (am_pk h) ∧ (am_pk h) ≤ 57) → (¬ x2 = 0 → Z x2 h) ∧ (x2 = 0 → Z x2 (am_fal h (3 : Int32) x1))) ∧ (48 ≤ (am_pk h) ∧ (am_pk h) ≤ 57 → Z x2 (am_fal h (2 : Int32) (h.1 3 2)))) : Ru mX1_readRoom none d 85 [.ref 4, .int x1, .int x2] [] h Z := by
  refine st_aload_n dX1_readRoom_85 rfl ?_
  refine st_getF (q := 3) fl_X1_9 fk_1_0 rfl dX1_readRoom_86 sh_4 ?_
  refine st_callV (M' := mX7_peek) [] [] dX1_readRoom_89 ml_X1_34 mf_X7_peek mv_X7_peek sh_3 rfl rfl rfl (K := fun r h' => (am_pk h) = r ∧ h = h') ⟨2, by omega, iX7_peek (by omega) ⟨rfl, rfl⟩⟩ (fun r1 h1 w1 => ?_)
  obtain ⟨rfl, rfl⟩ := w1
  show Ru mX1_readRoom none d 92 [.ref 4, .int x1, .int x2] [.int (am_pk h)] h Z
  refine st_callS (M' := mX7_isDigit) [.int (am_pk h)] [] dX1_readRoom_92 ml_X1_77 mf_X7_isDigit ms_X7_isDigit rfl rfl rfl (K := fun r h' => (am_b (48 ≤ (am_pk h) ∧ (am_pk h) ≤ 57)) = r ∧ h = h') ⟨1, by omega, iX7_isDigit ⟨rfl, rfl⟩⟩ (fun r1 h1 w1 => ?_)
  obtain ⟨rfl, rfl⟩ := w1
  show Ru mX1_readRoom none d 95 [.ref 4, .int x1, .int x2] [.int (am_b (48 ≤ (am_pk h) ∧ (am_pk h) ≤ 57))] h Z
  refine st_ifb_eq (tgt := 109) dX1_readRoom_95 (by decide) (fun c => ?_) (fun c => ?_)
  · replace w := w.1 c
    refine st_iload_n dX1_readRoom_109 rfl ?_
    refine st_if_ne (tgt := 122) dX1_readRoom_110 (by decide) (fun c => ?_) (fun c => ?_)
    · replace w := w.1 c
      refine st_iload_n dX1_readRoom_122 rfl ?_
      exact st_ireturn rfl rfl dX1_readRoom_123 w
    · replace w := w.2 c
      refine st_aload_n dX1_readRoom_113 rfl ?_
      refine st_getF (q := 3) fl_X1_9 fk_1_0 rfl dX1_readRoom_114 sh_4 ?_
      refine st_iconst (v := 3) dX1_readRoom_117 (by decide) ?_
      refine st_iload_n dX1_readRoom_118 rfl ?_
      refine st_callV (M' := mX7_fail) [.int 3, .int x1] [] dX1_readRoom_119 ml_X1_80 mf_X7_fail mv_X7_fail sh_3 rfl rfl rfl (K := fun r h' => 0 = r ∧ am_fal h (3 : Int32) x1 = h') ⟨1, by omega, iX7_fail ⟨rfl, rfl⟩⟩ (fun r1 h1 w1 => ?_)
      obtain ⟨rfl, rfl⟩ := w1
      show Ru mX1_readRoom none d 122 [.ref 4, .int x1, .int x2] [] (am_fal h (3 : Int32) x1) Z
      refine st_iload_n dX1_readRoom_122 rfl ?_
      exact st_ireturn rfl rfl dX1_readRoom_123 w
  · replace w := w.2 c
    refine st_aload_n dX1_readRoom_98 rfl ?_
    refine st_getF (q := 3) fl_X1_9 fk_1_0 rfl dX1_readRoom_99 sh_4 ?_
    refine st_iconst (v := 2) dX1_readRoom_102 (by decide) ?_
    refine st_callV (M' := mX7_failHere) [.int 2] [] dX1_readRoom_103 ml_X1_49 mf_X7_failHere mv_X7_failHere sh_3 rfl rfl rfl (K := fun r h' => 0 = r ∧ am_fal h (2 : Int32) (h.1 3 2) = h') ⟨2, by omega, iX7_failHere (by omega) ⟨rfl, rfl⟩⟩ (fun r1 h1 w1 => ?_)
    obtain ⟨rfl, rfl⟩ := w1
    show Ru mX1_readRoom none d 106 [.ref 4, .int x1, .int x2] [] (am_fal h (2 : Int32) (h.1 3 2)) Z
    refine st_goto (tgt := 122) dX1_readRoom_106 (by decide) ?_
    refine st_iload_n dX1_readRoom_122 rfl ?_
    exact st_ireturn rfl rfl dX1_readRoom_123 w
set_option maxRecDepth 20000 in
set_option maxHeartbeats 2000000 in
theorem sX1_readPaper_0 {d : Nat} {h : am_H} {Z : Int32 → am_H → Prop} {a1 : Nat} (hb1 : am_bu a1) {x2 : Int32} (hd : 3 ≤ d) (w : (¬ (48 ≤ (am_pk (am_sI h 3 2 (h.1 3 2 + 1))) ∧ (am_pk (am_sI h 3 2 (h.1 3 2 + 1))) ≤ 57) → Z 0 (am_fal (am_sI h 3 2 (h.1 3 2 + 1)) (1 : Int32) ((am_sI h 3 2 (h.1 3 2 + 1)).1 3 2))) ∧ (48 ≤ (am_pk (am_sI h 3 2 (h.1 3 2 + 1))) ∧ (am_pk (am_sI h 3 2 (h.1 3 2 + 1))) ≤ 57 → (¬ (am_pk (am_sI h 3 2 (h.1 3 2 + 1))) = 48 → am_cl mX0_addPaper d [.ref a1, .int x2, .int ((am_pk (am_sI h 3 2 (h.1 3 2 + 1))) - 48)] (am_sI (am_sI h 3 2 (h.1 3 2 + 1)) 3 2 ((am_sI h 3 2 (h.1 3 2 + 1)).1 3 2 + 1)) (fun r1 h2 => (¬ (am_pk h2) = 62 → Z 0 h2) ∧ ((am_pk h2) = 62 → am_cl mX1_readItsDrawer d [.ref 4, .ref a1] (am_sI h2 3 2 (h2.1 3 2 + 1)) (fun r3 h4 => Z 0 h4)))) ∧ ((am_pk (am_sI h 3 2 (h.1 3 2 + 1))) = 48 → Z 0 (am_fal (am_sI h 3 2 (h.1 3 2 + 1)) (1 : Int32) ((am_sI h 3 2 (h.1 3 2 + 1)).1 3 2))))) : Ru mX1_readPaper none d 0 [.ref 4, .ref a1, .int x2, .null] [] h Z := by
  refine st_aload_n dX1_readPaper_0 rfl ?_
  refine st_getF (q := 3) fl_X1_9 fk_1_0 rfl dX1_readPaper_1 sh_4 ?_
  refine st_callV (M' := mX7_next) [] [] dX1_readPaper_4 ml_X1_64 mf_X7_next mv_X7_next sh_3 rfl rfl rfl (K := fun r h' => 0 = r ∧ am_sI h 3 2 (h.1 3 2 + 1) = h') ⟨1, by omega, iX7_next ⟨rfl, rfl⟩⟩ (fun r1 h1 w1 => ?_)
  obtain ⟨rfl, rfl⟩ := w1
  show Ru mX1_readPaper none d 7 [.ref 4, .ref a1, .int x2, .null] [] (am_sI h 3 2 (h.1 3 2 + 1)) Z
  refine st_aload_n dX1_readPaper_7 rfl ?_
  refine st_getF (q := 3) fl_X1_9 fk_1_0 rfl dX1_readPaper_8 sh_4 ?_
  refine st_callV (M' := mX7_peek) [] [] dX1_readPaper_11 ml_X1_34 mf_X7_peek mv_X7_peek sh_3 rfl rfl rfl (K := fun r h' => (am_pk (am_sI h 3 2 (h.1 3 2 + 1))) = r ∧ am_sI h 3 2 (h.1 3 2 + 1) = h') ⟨2, by omega, iX7_peek (by omega) ⟨rfl, rfl⟩⟩ (fun r1 h1 w1 => ?_)
  obtain ⟨rfl, rfl⟩ := w1
  show Ru mX1_readPaper none d 14 [.ref 4, .ref a1, .int x2, .null] [.int (am_pk (am_sI h 3 2 (h.1 3 2 + 1)))] (am_sI h 3 2 (h.1 3 2 + 1)) Z
  refine st_istore_n (L' := [.ref 4, .ref a1, .int x2, .int (am_pk (am_sI h 3 2 (h.1 3 2 + 1)))]) dX1_readPaper_14 (by decide) rfl ?_
  refine st_iload_n dX1_readPaper_15 rfl ?_
  refine st_callS (M' := mX7_isDigit) [.int (am_pk (am_sI h 3 2 (h.1 3 2 + 1)))] [] dX1_readPaper_16 ml_X1_77 mf_X7_isDigit ms_X7_isDigit rfl rfl rfl (K := fun r h' => (am_b (48 ≤ (am_pk (am_sI h 3 2 (h.1 3 2 + 1))) ∧ (am_pk (am_sI h 3 2 (h.1 3 2 + 1))) ≤ 57)) = r ∧ am_sI h 3 2 (h.1 3 2 + 1) = h') ⟨1, by omega, iX7_isDigit ⟨rfl, rfl⟩⟩ (fun r1 h1 w1 => ?_)
  obtain ⟨rfl, rfl⟩ := w1
  show Ru mX1_readPaper none d 19 [.ref 4, .ref a1, .int x2, .int (am_pk (am_sI h 3 2 (h.1 3 2 + 1)))] [.int (am_b (48 ≤ (am_pk (am_sI h 3 2 (h.1 3 2 + 1))) ∧ (am_pk (am_sI h 3 2 (h.1 3 2 + 1))) ≤ 57))] (am_sI h 3 2 (h.1 3 2 + 1)) Z
  refine st_ifb_eq (tgt := 28) dX1_readPaper_19 (by decide) (fun c => ?_) (fun c => ?_)
  · replace w := w.1 c
    refine st_aload_n dX1_readPaper_28 rfl ?_
    refine st_getF (q := 3) fl_X1_9 fk_1_0 rfl dX1_readPaper_29 sh_4 ?_
    refine st_iconst (v := 1) dX1_readPaper_32 (by decide) ?_
    refine st_callV (M' := mX7_failHere) [.int 1] [] dX1_readPaper_33 ml_X1_49 mf_X7_failHere mv_X7_failHere sh_3 rfl rfl rfl (K := fun r h' => 0 = r ∧ am_fal (am_sI h 3 2 (h.1 3 2 + 1)) (1 : Int32) ((am_sI h 3 2 (h.1 3 2 + 1)).1 3 2) = h') ⟨2, by omega, iX7_failHere (by omega) ⟨rfl, rfl⟩⟩ (fun r1 h1 w1 => ?_)
    obtain ⟨rfl, rfl⟩ := w1
    show Ru mX1_readPaper none d 36 [.ref 4, .ref a1, .int x2, .int (am_pk (am_sI h 3 2 (h.1 3 2 + 1)))] [] (am_fal (am_sI h 3 2 (h.1 3 2 + 1)) (1 : Int32) ((am_sI h 3 2 (h.1 3 2 + 1)).1 3 2)) Z
    exact st_return rfl dX1_readPaper_36 w
  · replace w := w.2 c
    refine st_iload_n dX1_readPaper_22 rfl ?_
    refine st_bipush (v := 48) dX1_readPaper_23 (by decide) ?_
    refine st_icmp_ne (tgt := 37) dX1_readPaper_25 (by decide) (fun c => ?_) (fun c => ?_)
    · replace w := w.1 c
      refine st_aload_n dX1_readPaper_37 rfl ?_
      refine st_getF (q := 3) fl_X1_9 fk_1_0 rfl dX1_readPaper_38 sh_4 ?_
      refine st_callV (M' := mX7_next) [] [] dX1_readPaper_41 ml_X1_64 mf_X7_next mv_X7_next sh_3 rfl rfl rfl (K := fun r h' => 0 = r ∧ am_sI (am_sI h 3 2 (h.1 3 2 + 1)) 3 2 ((am_sI h 3 2 (h.1 3 2 + 1)).1 3 2 + 1) = h') ⟨1, by omega, iX7_next ⟨rfl, rfl⟩⟩ (fun r1 h1 w1 => ?_)
      obtain ⟨rfl, rfl⟩ := w1
      show Ru mX1_readPaper none d 44 [.ref 4, .ref a1, .int x2, .int (am_pk (am_sI h 3 2 (h.1 3 2 + 1)))] [] (am_sI (am_sI h 3 2 (h.1 3 2 + 1)) 3 2 ((am_sI h 3 2 (h.1 3 2 + 1)).1 3 2 + 1)) Z
      refine st_aload_n dX1_readPaper_44 rfl ?_
      refine st_iload_n dX1_readPaper_45 rfl ?_
      refine st_iload_n dX1_readPaper_46 rfl ?_
      refine st_bipush (v := 48) dX1_readPaper_47 (by decide) ?_
      refine st_isub dX1_readPaper_49 ?_
      refine st_callV (M' := mX0_addPaper) [.int x2, .int ((am_pk (am_sI h 3 2 (h.1 3 2 + 1))) - 48)] [] dX1_readPaper_50 ml_X1_83 mf_X0_addPaper mv_X0_addPaper (bu_0 hb1) rfl rfl rfl w (fun r1 h2 w => ?_)
      show Ru mX1_readPaper none d 53 [.ref 4, .ref a1, .int x2, .int (am_pk (am_sI h 3 2 (h.1 3 2 + 1)))] [] h2 Z
      refine st_aload_n dX1_readPaper_53 rfl ?_
      refine st_getF (q := 3) fl_X1_9 fk_1_0 rfl dX1_readPaper_54 sh_4 ?_
      refine st_callV (M' := mX7_peek) [] [] dX1_readPaper_57 ml_X1_34 mf_X7_peek mv_X7_peek sh_3 rfl rfl rfl (K := fun r h' => (am_pk h2) = r ∧ h2 = h') ⟨2, by omega, iX7_peek (by omega) ⟨rfl, rfl⟩⟩ (fun r1 h1 w1 => ?_)
      obtain ⟨rfl, rfl⟩ := w1
      show Ru mX1_readPaper none d 60 [.ref 4, .ref a1, .int x2, .int (am_pk (am_sI h 3 2 (h.1 3 2 + 1)))] [.int (am_pk h2)] h2 Z
      refine st_bipush (v := 62) dX1_readPaper_60 (by decide) ?_
      refine st_icmp_ne (tgt := 77) dX1_readPaper_62 (by decide) (fun c => ?_) (fun c => ?_)
      · replace w := w.1 c
        exact st_return rfl dX1_readPaper_77 w
      · replace w := w.2 c
        refine st_aload_n dX1_readPaper_65 rfl ?_
        refine st_getF (q := 3) fl_X1_9 fk_1_0 rfl dX1_readPaper_66 sh_4 ?_
        refine st_callV (M' := mX7_next) [] [] dX1_readPaper_69 ml_X1_64 mf_X7_next mv_X7_next sh_3 rfl rfl rfl (K := fun r h' => 0 = r ∧ am_sI h2 3 2 (h2.1 3 2 + 1) = h') ⟨1, by omega, iX7_next ⟨rfl, rfl⟩⟩ (fun r1 h1 w1 => ?_)
        obtain ⟨rfl, rfl⟩ := w1
        show Ru mX1_readPaper none d 72 [.ref 4, .ref a1, .int x2, .int (am_pk (am_sI h 3 2 (h.1 3 2 + 1)))] [] (am_sI h2 3 2 (h2.1 3 2 + 1)) Z
        refine st_aload_n dX1_readPaper_72 rfl ?_
        refine st_aload_n dX1_readPaper_73 rfl ?_
        refine st_callV (M' := mX1_readItsDrawer) [.ref a1] [] dX1_readPaper_74 ml_X1_86 mf_X1_readItsDrawer mv_X1_readItsDrawer sh_4 rfl rfl rfl w (fun r3 h4 w => ?_)
        show Ru mX1_readPaper none d 77 [.ref 4, .ref a1, .int x2, .int (am_pk (am_sI h 3 2 (h.1 3 2 + 1)))] [] h4 Z
        exact st_return rfl dX1_readPaper_77 w
    · replace w := w.2 c
      refine st_aload_n dX1_readPaper_28 rfl ?_
      refine st_getF (q := 3) fl_X1_9 fk_1_0 rfl dX1_readPaper_29 sh_4 ?_
      refine st_iconst (v := 1) dX1_readPaper_32 (by decide) ?_
      refine st_callV (M' := mX7_failHere) [.int 1] [] dX1_readPaper_33 ml_X1_49 mf_X7_failHere mv_X7_failHere sh_3 rfl rfl rfl (K := fun r h' => 0 = r ∧ am_fal (am_sI h 3 2 (h.1 3 2 + 1)) (1 : Int32) ((am_sI h 3 2 (h.1 3 2 + 1)).1 3 2) = h') ⟨2, by omega, iX7_failHere (by omega) ⟨rfl, rfl⟩⟩ (fun r1 h1 w1 => ?_)
      obtain ⟨rfl, rfl⟩ := w1
      show Ru mX1_readPaper none d 36 [.ref 4, .ref a1, .int x2, .int (am_pk (am_sI h 3 2 (h.1 3 2 + 1)))] [] (am_fal (am_sI h 3 2 (h.1 3 2 + 1)) (1 : Int32) ((am_sI h 3 2 (h.1 3 2 + 1)).1 3 2)) Z
      exact st_return rfl dX1_readPaper_36 w
set_option maxRecDepth 20000 in
set_option maxHeartbeats 2000000 in
theorem sX1_readItsDrawer_0 {d : Nat} {h : am_H} {Z : Int32 → am_H → Prop} {a1 : Nat} (hb1 : am_bu a1) (hd : 3 ≤ d) (w : (97 ≤ (am_pk h) ∧ (am_pk h) ≤ 108 → (am_told h a1 ((am_pk h) - 97) → (am_fit h a1 ((h.1 a1 8) - 1) ((am_pk h) - 97) → am_cl mX0_move d [.ref a1, .int ((h.1 a1 8) - 1), .int ((am_pk h) - 97)] h (fun r1 h2 => Z 0 (am_sI h2 3 2 (h2.1 3 2 + 1)))) ∧ (¬ (am_fit h a1 ((h.1 a1 8) - 1) ((am_pk h) - 97)) → Z 0 (am_fal h (8 : Int32) (h.1 3 2)))) ∧ (¬ (am_told h a1 ((am_pk h) - 97)) → Z 0 (am_fal h (7 : Int32) (h.1 3 2)))) ∧ (¬ (97 ≤ (am_pk h) ∧ (am_pk h) ≤ 108) → Z 0 (am_fal h (1 : Int32) (h.1 3 2)))) : Ru mX1_readItsDrawer none d 0 [.ref 4, .ref a1, .null, .null] [] h Z := by
  refine st_aload_n dX1_readItsDrawer_0 rfl ?_
  refine st_getF (q := 3) fl_X1_9 fk_1_0 rfl dX1_readItsDrawer_1 sh_4 ?_
  refine st_callV (M' := mX7_peek) [] [] dX1_readItsDrawer_4 ml_X1_34 mf_X7_peek mv_X7_peek sh_3 rfl rfl rfl (K := fun r h' => (am_pk h) = r ∧ h = h') ⟨2, by omega, iX7_peek (by omega) ⟨rfl, rfl⟩⟩ (fun r1 h1 w1 => ?_)
  obtain ⟨rfl, rfl⟩ := w1
  show Ru mX1_readItsDrawer none d 7 [.ref 4, .ref a1, .null, .null] [.int (am_pk h)] h Z
  refine st_istore_n (L' := [.ref 4, .ref a1, .int (am_pk h), .null]) dX1_readItsDrawer_7 (by decide) rfl ?_
  refine st_aload_n dX1_readItsDrawer_8 rfl ?_
  refine st_getI fl_X1_52 fk_0_8 dX1_readItsDrawer_9 (bu_0 hb1) ?_
  refine st_iconst (v := 1) dX1_readItsDrawer_12 (by decide) ?_
  refine st_isub dX1_readItsDrawer_13 ?_
  refine st_istore_n (L' := [.ref 4, .ref a1, .int (am_pk h), .int ((h.1 a1 8) - 1)]) dX1_readItsDrawer_14 (by decide) rfl ?_
  refine st_iload_n dX1_readItsDrawer_15 rfl ?_
  refine st_callS (M' := mX1_isDrawerLetter) [.int (am_pk h)] [] dX1_readItsDrawer_16 ml_X1_45 mf_X1_isDrawerLetter ms_X1_isDrawerLetter rfl rfl rfl (K := fun r h' => (am_b (97 ≤ (am_pk h) ∧ (am_pk h) ≤ 108)) = r ∧ h = h') ⟨1, by omega, iX1_isDL ⟨rfl, rfl⟩⟩ (fun r1 h1 w1 => ?_)
  obtain ⟨rfl, rfl⟩ := w1
  show Ru mX1_readItsDrawer none d 19 [.ref 4, .ref a1, .int (am_pk h), .int ((h.1 a1 8) - 1)] [.int (am_b (97 ≤ (am_pk h) ∧ (am_pk h) ≤ 108))] h Z
  refine st_ifb_ne (tgt := 33) dX1_readItsDrawer_19 (by decide) (fun c => ?_) (fun c => ?_)
  · replace w := w.1 c
    refine st_aload_n dX1_readItsDrawer_33 rfl ?_
    refine st_iload_n dX1_readItsDrawer_34 rfl ?_
    refine st_bipush (v := 97) dX1_readItsDrawer_35 (by decide) ?_
    refine st_isub dX1_readItsDrawer_37 ?_
    refine st_callV (M' := mX0_isTold) [.int ((am_pk h) - 97)] [] dX1_readItsDrawer_38 ml_X1_61 mf_X0_isTold mv_X0_isTold (bu_0 hb1) rfl rfl rfl (K := fun r h' => (am_b (am_told h a1 ((am_pk h) - 97))) = r ∧ h = h') ⟨1, by omega, iX0_isTold hb1 ⟨rfl, rfl⟩⟩ (fun r1 h1 w1 => ?_)
    obtain ⟨rfl, rfl⟩ := w1
    show Ru mX1_readItsDrawer none d 41 [.ref 4, .ref a1, .int (am_pk h), .int ((h.1 a1 8) - 1)] [.int (am_b (am_told h a1 ((am_pk h) - 97)))] h Z
    refine st_ifb_ne (tgt := 56) dX1_readItsDrawer_41 (by decide) (fun c => ?_) (fun c => ?_)
    · replace w := w.1 c
      refine st_aload_n dX1_readItsDrawer_56 rfl ?_
      refine st_iload_n dX1_readItsDrawer_57 rfl ?_
      refine st_iload_n dX1_readItsDrawer_58 rfl ?_
      refine st_bipush (v := 97) dX1_readItsDrawer_59 (by decide) ?_
      refine st_isub dX1_readItsDrawer_61 ?_
      refine st_callV (M' := mX0_fits) [.int ((h.1 a1 8) - 1), .int ((am_pk h) - 97)] [] dX1_readItsDrawer_62 ml_X1_90 mf_X0_fits mv_X0_fits (bu_0 hb1) rfl rfl rfl (K := fun r h' => (am_b (am_fit h a1 ((h.1 a1 8) - 1) ((am_pk h) - 97))) = r ∧ h = h') ⟨2, by omega, iX0_fits hb1 (by omega) ⟨rfl, rfl⟩⟩ (fun r1 h1 w1 => ?_)
      obtain ⟨rfl, rfl⟩ := w1
      show Ru mX1_readItsDrawer none d 65 [.ref 4, .ref a1, .int (am_pk h), .int ((h.1 a1 8) - 1)] [.int (am_b (am_fit h a1 ((h.1 a1 8) - 1) ((am_pk h) - 97)))] h Z
      refine st_ifb_ne (tgt := 80) dX1_readItsDrawer_65 (by decide) (fun c => ?_) (fun c => ?_)
      · replace w := w.1 c
        refine st_aload_n dX1_readItsDrawer_80 rfl ?_
        refine st_iload_n dX1_readItsDrawer_81 rfl ?_
        refine st_iload_n dX1_readItsDrawer_82 rfl ?_
        refine st_bipush (v := 97) dX1_readItsDrawer_83 (by decide) ?_
        refine st_isub dX1_readItsDrawer_85 ?_
        refine st_callV (M' := mX0_move) [.int ((h.1 a1 8) - 1), .int ((am_pk h) - 97)] [] dX1_readItsDrawer_86 ml_X1_94 mf_X0_move mv_X0_move (bu_0 hb1) rfl rfl rfl w (fun r1 h2 w => ?_)
        show Ru mX1_readItsDrawer none d 89 [.ref 4, .ref a1, .int (am_pk h), .int ((h.1 a1 8) - 1)] [] h2 Z
        refine st_aload_n dX1_readItsDrawer_89 rfl ?_
        refine st_getF (q := 3) fl_X1_9 fk_1_0 rfl dX1_readItsDrawer_90 sh_4 ?_
        refine st_callV (M' := mX7_next) [] [] dX1_readItsDrawer_93 ml_X1_64 mf_X7_next mv_X7_next sh_3 rfl rfl rfl (K := fun r h' => 0 = r ∧ am_sI h2 3 2 (h2.1 3 2 + 1) = h') ⟨1, by omega, iX7_next ⟨rfl, rfl⟩⟩ (fun r1 h1 w1 => ?_)
        obtain ⟨rfl, rfl⟩ := w1
        show Ru mX1_readItsDrawer none d 96 [.ref 4, .ref a1, .int (am_pk h), .int ((h.1 a1 8) - 1)] [] (am_sI h2 3 2 (h2.1 3 2 + 1)) Z
        exact st_return rfl dX1_readItsDrawer_96 w
      · replace w := w.2 c
        refine st_aload_n dX1_readItsDrawer_68 rfl ?_
        refine st_getF (q := 3) fl_X1_9 fk_1_0 rfl dX1_readItsDrawer_69 sh_4 ?_
        refine st_bipush (v := 8) dX1_readItsDrawer_72 (by decide) ?_
        refine st_callV (M' := mX7_failHere) [.int 8] [] dX1_readItsDrawer_74 ml_X1_49 mf_X7_failHere mv_X7_failHere sh_3 rfl rfl rfl (K := fun r h' => 0 = r ∧ am_fal h (8 : Int32) (h.1 3 2) = h') ⟨2, by omega, iX7_failHere (by omega) ⟨rfl, rfl⟩⟩ (fun r1 h1 w1 => ?_)
        obtain ⟨rfl, rfl⟩ := w1
        show Ru mX1_readItsDrawer none d 77 [.ref 4, .ref a1, .int (am_pk h), .int ((h.1 a1 8) - 1)] [] (am_fal h (8 : Int32) (h.1 3 2)) Z
        refine st_goto (tgt := 96) dX1_readItsDrawer_77 (by decide) ?_
        exact st_return rfl dX1_readItsDrawer_96 w
    · replace w := w.2 c
      refine st_aload_n dX1_readItsDrawer_44 rfl ?_
      refine st_getF (q := 3) fl_X1_9 fk_1_0 rfl dX1_readItsDrawer_45 sh_4 ?_
      refine st_bipush (v := 7) dX1_readItsDrawer_48 (by decide) ?_
      refine st_callV (M' := mX7_failHere) [.int 7] [] dX1_readItsDrawer_50 ml_X1_49 mf_X7_failHere mv_X7_failHere sh_3 rfl rfl rfl (K := fun r h' => 0 = r ∧ am_fal h (7 : Int32) (h.1 3 2) = h') ⟨2, by omega, iX7_failHere (by omega) ⟨rfl, rfl⟩⟩ (fun r1 h1 w1 => ?_)
      obtain ⟨rfl, rfl⟩ := w1
      show Ru mX1_readItsDrawer none d 53 [.ref 4, .ref a1, .int (am_pk h), .int ((h.1 a1 8) - 1)] [] (am_fal h (7 : Int32) (h.1 3 2)) Z
      refine st_goto (tgt := 96) dX1_readItsDrawer_53 (by decide) ?_
      exact st_return rfl dX1_readItsDrawer_96 w
  · replace w := w.2 c
    refine st_aload_n dX1_readItsDrawer_22 rfl ?_
    refine st_getF (q := 3) fl_X1_9 fk_1_0 rfl dX1_readItsDrawer_23 sh_4 ?_
    refine st_iconst (v := 1) dX1_readItsDrawer_26 (by decide) ?_
    refine st_callV (M' := mX7_failHere) [.int 1] [] dX1_readItsDrawer_27 ml_X1_49 mf_X7_failHere mv_X7_failHere sh_3 rfl rfl rfl (K := fun r h' => 0 = r ∧ am_fal h (1 : Int32) (h.1 3 2) = h') ⟨2, by omega, iX7_failHere (by omega) ⟨rfl, rfl⟩⟩ (fun r1 h1 w1 => ?_)
    obtain ⟨rfl, rfl⟩ := w1
    show Ru mX1_readItsDrawer none d 30 [.ref 4, .ref a1, .int (am_pk h), .int ((h.1 a1 8) - 1)] [] (am_fal h (1 : Int32) (h.1 3 2)) Z
    refine st_goto (tgt := 96) dX1_readItsDrawer_30 (by decide) ?_
    exact st_return rfl dX1_readItsDrawer_96 w
set_option maxRecDepth 20000 in
set_option maxHeartbeats 2000000 in
theorem sX10_cabinet_0 {d : Nat} {h : am_H} {Z : Int32 → am_H → Prop} {x1 : Int32} (hd : 2 ≤ d) (w : (¬ ((1 : Int32) ≤ x1 ∧ x1 ≤ (160 : Int32)) → Z (-1) h) ∧ ((1 : Int32) ≤ x1 ∧ x1 ≤ (160 : Int32) → (x1 ≤ h.1 1 1 → (am_bu (h.2.1 0 11) ∧ (am_cl mX1_read d [.ref 4, .int x1, .ref (h.2.1 0 11)] h (fun r2 h3 => (r2 ≤ 0 → Z r2 (am_sI h3 1 1 0)) ∧ (¬ (r2 ≤ 0) → (am_bu ((am_sI h3 1 1 0).2.1 0 11) ∧ (am_bu ((am_sI h3 1 1 0).2.1 0 10) ∧ (am_cl mX0_takeTime d [.ref ((am_sI h3 1 1 0).2.1 0 11), .ref ((am_sI h3 1 1 0).2.1 0 10)] (am_sI h3 1 1 0) (fun r6 h7 => (am_bu (h7.2.1 0 10) ∧ (am_bu (h7.2.1 0 11) ∧ (∀ h10 : am_H, h10 = am_sP h7 0 10 (h7.2.1 0 11) → (∀ h11 : am_H, h11 = am_sP h10 0 11 (h7.2.1 0 10) → (Z r2 h11)))))))))))))) ∧ (¬ (x1 ≤ h.1 1 1) → Z (-1) h))) : Ru mX10_cabinet none d 0 [.ref 0, .int x1, .null, .null] [] h Z := by
  refine st_iload_n dX10_cabinet_0 rfl ?_
  refine st_iconst (v := 1) dX10_cabinet_1 (by decide) ?_
  refine st_sipush (v := 160) dX10_cabinet_2 (by decide) ?_
  refine st_callS (M' := mX10_isFromTo) [.int x1, .int 1, .int 160] [] dX10_cabinet_5 ml_X10_135 mf_X10_isFromTo ms_X10_isFromTo rfl rfl rfl (K := fun r h' => (am_b ((1 : Int32) ≤ x1 ∧ x1 ≤ (160 : Int32))) = r ∧ h = h') ⟨1, by omega, iX10_isFromTo ⟨rfl, rfl⟩⟩ (fun r1 h1 w1 => ?_)
  obtain ⟨rfl, rfl⟩ := w1
  show Ru mX10_cabinet none d 8 [.ref 0, .int x1, .null, .null] [.int (am_b ((1 : Int32) ≤ x1 ∧ x1 ≤ (160 : Int32)))] h Z
  refine st_ifb_eq (tgt := 22) dX10_cabinet_8 (by decide) (fun c => ?_) (fun c => ?_)
  · replace w := w.1 c
    refine st_iconst (v := (-1)) dX10_cabinet_22 (by decide) ?_
    exact st_ireturn rfl rfl dX10_cabinet_23 w
  · replace w := w.2 c
    refine st_aload_n dX10_cabinet_11 rfl ?_
    refine st_getF (q := 1) fl_X10_10 fk_10_0 rfl dX10_cabinet_12 sh_0 ?_
    refine st_iload_n dX10_cabinet_15 rfl ?_
    refine st_callV (M' := mX9_holds) [.int x1] [] dX10_cabinet_16 ml_X10_139 mf_X9_holds mv_X9_holds sh_1 rfl rfl rfl (K := fun r h' => (am_b (x1 ≤ h.1 1 1)) = r ∧ h = h') ⟨1, by omega, iX9_holds ⟨rfl, rfl⟩⟩ (fun r1 h1 w1 => ?_)
    obtain ⟨rfl, rfl⟩ := w1
    show Ru mX10_cabinet none d 19 [.ref 0, .int x1, .null, .null] [.int (am_b (x1 ≤ h.1 1 1))] h Z
    refine st_ifb_ne (tgt := 24) dX10_cabinet_19 (by decide) (fun c => ?_) (fun c => ?_)
    · replace w := w.1 c
      refine st_aload_n dX10_cabinet_24 rfl ?_
      refine st_getF (q := 4) fl_X10_30 fk_10_2 rfl dX10_cabinet_25 sh_0 ?_
      refine st_iload_n dX10_cabinet_28 rfl ?_
      refine st_aload_n dX10_cabinet_29 rfl ?_
      refine st_getP fl_X10_75 fk_10_11 dX10_cabinet_30 sh_0 ?_
      have hc1 := w.1
      replace w := w.2
      refine st_callV (M' := mX1_read) [.int x1, .ref (h.2.1 0 11)] [] dX10_cabinet_33 ml_X10_149 mf_X1_read mv_X1_read sh_4 rfl rfl rfl w (fun r2 h3 w => ?_)
      show Ru mX10_cabinet none d 36 [.ref 0, .int x1, .null, .null] [.int r2] h3 Z
      refine st_istore_n (L' := [.ref 0, .int x1, .int r2, .null]) dX10_cabinet_36 (by decide) rfl ?_
      refine st_aload_n dX10_cabinet_37 rfl ?_
      refine st_getF (q := 1) fl_X10_10 fk_10_0 rfl dX10_cabinet_38 sh_0 ?_
      refine st_callV (M' := mX9_clear) [] [] dX10_cabinet_41 ml_X10_146 mf_X9_clear mv_X9_clear sh_1 rfl rfl rfl (K := fun r h' => 0 = r ∧ am_sI h3 1 1 0 = h') ⟨1, by omega, iX9_clear ⟨rfl, rfl⟩⟩ (fun r1 h1 w1 => ?_)
      obtain ⟨rfl, rfl⟩ := w1
      show Ru mX10_cabinet none d 44 [.ref 0, .int x1, .int r2, .null] [] (am_sI h3 1 1 0) Z
      refine st_iload_n dX10_cabinet_44 rfl ?_
      refine st_if_le (tgt := 77) dX10_cabinet_45 (by decide) (fun c => ?_) (fun c => ?_)
      · replace w := w.1 c
        refine st_iload_n dX10_cabinet_77 rfl ?_
        exact st_ireturn rfl rfl dX10_cabinet_78 w
      · replace w := w.2 c
        refine st_aload_n dX10_cabinet_48 rfl ?_
        refine st_getP fl_X10_75 fk_10_11 dX10_cabinet_49 sh_0 ?_
        have hc4 := w.1
        replace w := w.2
        refine st_aload_n dX10_cabinet_52 rfl ?_
        refine st_getP fl_X10_72 fk_10_10 dX10_cabinet_53 sh_0 ?_
        have hc5 := w.1
        replace w := w.2
        refine st_callV (M' := mX0_takeTime) [.ref ((am_sI h3 1 1 0).2.1 0 10)] [] dX10_cabinet_56 ml_X10_152 mf_X0_takeTime mv_X0_takeTime (bu_0 hc4) rfl rfl rfl w (fun r6 h7 w => ?_)
        show Ru mX10_cabinet none d 59 [.ref 0, .int x1, .int r2, .null] [] h7 Z
        refine st_aload_n dX10_cabinet_59 rfl ?_
        refine st_getP fl_X10_72 fk_10_10 dX10_cabinet_60 sh_0 ?_
        have hc8 := w.1
        replace w := w.2
        refine st_astore_n (L' := [.ref 0, .int x1, .int r2, .ref (h7.2.1 0 10)]) dX10_cabinet_63 (by decide) rfl ?_
        refine st_aload_n dX10_cabinet_64 rfl ?_
        refine st_aload_n dX10_cabinet_65 rfl ?_
        refine st_getP fl_X10_75 fk_10_11 dX10_cabinet_66 sh_0 ?_
        have hc9 := w.1
        replace w := w.2
        refine st_putP flp_X10_72 fk_10_10 dX10_cabinet_69 sh_0 (fun h10 eh10 => ?_)
        replace w := w h10 eh10
        refine st_aload_n dX10_cabinet_72 rfl ?_
        refine st_aload_n dX10_cabinet_73 rfl ?_
        refine st_putP flp_X10_75 fk_10_11 dX10_cabinet_74 sh_0 (fun h11 eh11 => ?_)
        replace w := w h11 eh11
        refine st_iload_n dX10_cabinet_77 rfl ?_
        exact st_ireturn rfl rfl dX10_cabinet_78 w
    · replace w := w.2 c
      refine st_iconst (v := (-1)) dX10_cabinet_22 (by decide) ?_
      exact st_ireturn rfl rfl dX10_cabinet_23 w
abbrev q_tl (B : am_AB) (i v : Nat) : am_AB := (B.1, am_un (q_r B) i v, B.2.2.1, B.2.2.2.1, B.2.2.2.2.1, B.2.2.2.2.2.1, B.2.2.2.2.2.2)
abbrev q_ap (B : am_AB) (u v : Nat) : am_AB := ((B.1.1 + 1, B.1.2.1, B.1.2.2), B.2.1, am_un (q_su B) B.1.1 u, am_un (q_si B) B.1.1 v, am_un (q_w B) B.1.1 12, am_un (q_rd B) B.1.1 0, am_un (q_ag B) B.1.1 0)
abbrev cb_dg (t : Nat → Nat) (n k : Nat) : Prop := k < n ∧ 48 ≤ t k ∧ t k ≤ 57
abbrev cb_dl (t : Nat → Nat) (n k : Nat) : Prop := k < n ∧ 97 ≤ t k ∧ t k ≤ 108
/-- a line: a fault, or where it ends and what there is then -/
def cb_rm (t : Nat → Nat) (n k : Nat) (B : am_AB) : Int32 × Nat × am_AB :=
  if ¬ cb_dg t n (k + 1) then (am_ft 1 (k + 1), k, B)
  else if cb_dg t n (k + 2) then
    if cb_dg t n (k + 3) then (am_ft 2 (k + 3), k, B)
    else if 10 * (t (k + 1) - 48) + (t (k + 2) - 48) = 0 then (am_ft 3 (k + 1), k, B)
    else (0, k + 3, q_tl B (t k - 97) (10 * (t (k + 1) - 48) + (t (k + 2) - 48)))
  else if t (k + 1) - 48 = 0 then (am_ft 3 (k + 1), k, B)
  else (0, k + 2, q_tl B (t k - 97) (t (k + 1) - 48))
def cb_pp (t : Nat → Nat) (n k : Nat) (B : am_AB) : Int32 × Nat × am_AB :=
  if ¬ (k + 1 < n ∧ 49 ≤ t (k + 1) ∧ t (k + 1) ≤ 57) then (am_ft 1 (k + 1), k, B)
  else if k + 2 < n ∧ t (k + 2) = 62 then
    if ¬ cb_dl t n (k + 3) then (am_ft 1 (k + 3), k, B)
    else if ¬ 0 < q_r B (t (k + 3) - 97) then (am_ft 7 (k + 3), k, B)
    else if ¬ (t (k + 1) - 48) + q_F B (t (k + 3) - 97) ≤ q_r B (t (k + 3) - 97) then (am_ft 8 (k + 3), k, B)
    else (0, k + 4, q_mv (q_ap B (t k - 65) (t (k + 1) - 48)) (q_n B) (t (k + 3) - 97))
  else (0, k + 2, q_ap B (t k - 65) (t (k + 1) - 48))
def cb_ln (t : Nat → Nat) (n ln k : Nat) (B : am_AB) : Int32 × Nat × am_AB :=
  if cb_dl t n k then
    if 36 ≤ ln then (am_ft 4 k, k, B)
    else if 0 < q_r B (t k - 97) then (am_ft 6 k, k, B)
    else cb_rm t n k B
  else if k < n ∧ 65 ≤ t k ∧ t k ≤ 80 then
    if 36 ≤ ln ∨ 24 ≤ q_n B then (am_ft 4 k, k, B)
    else cb_pp t n k B
  else (am_ft 1 k, k, B)
theorem q_ok_tl {B : am_AB} {i v : Nat} (hB : q_ok B) (hi : i < 12) (h0 : q_r B i = 0) (hv : v ≤ 99) (hv1 : 1 ≤ v) : q_ok (q_tl B i v) := by
  refine ⟨hB.1, hB.2.1, hB.2.2.1, fun j hj => ?_, fun p hp => ?_⟩
  · have := hB.2.2.2.1 j hj
    show am_un (q_r B) i v j ≤ 99 ∧ q_F B j ≤ am_un (q_r B) i v j
    unfold am_un
    by_cases c : j = i
    · subst c; rw [if_pos rfl]; exact ⟨hv, by omega⟩
    · rw [if_neg c]; exact this
  · have h9 := hB.2.2.2.2 p hp
    refine ⟨h9.1, h9.2.1, ?_, h9.2.2.2.1, h9.2.2.2.2⟩
    show q_w B p = 12 ∨ (q_w B p < 12 ∧ 0 < am_un (q_r B) i v (q_w B p))
    rcases h9.2.2.1 with q | q
    · exact Or.inl q
    · refine Or.inr ⟨q.1, ?_⟩
      unfold am_un
      split
      · omega
      · exact q.2
theorem q_F_ap (B : am_AB) (u v : Nat) {j : Nat} (hj : j < 12) : q_F (q_ap B u v) j = q_F B j := by
  unfold q_F
  show am_sm (fun p => if am_un (q_w B) B.1.1 12 p = j then am_un (q_si B) B.1.1 v p else 0) (B.1.1 + 1) = _
  rw [am_sm_s, am_un_s, if_neg (by omega), Nat.add_zero]
  exact am_sm_cg _ (fun p hp => by rw [am_un_n _ _ (show p ≠ B.1.1 by have : p < B.1.1 := hp; omega), am_un_n _ _ (show p ≠ B.1.1 by have : p < B.1.1 := hp; omega)])
theorem q_C_ap (B : am_AB) (u v : Nat) {j : Nat} (hj : j < 12) : q_C (q_ap B u v) j = q_C B j := by
  unfold q_C
  show am_sm (fun p => if am_un (q_w B) B.1.1 12 p = j then 1 else 0) (B.1.1 + 1) = _
  rw [am_sm_s, am_un_s, if_neg (by omega), Nat.add_zero]
  exact am_sm_cg _ (fun p hp => by rw [am_un_n _ _ (show p ≠ B.1.1 by have : p < B.1.1 := hp; omega)])
theorem q_ok_ap {B : am_AB} {u v : Nat} (hB : q_ok B) (hn : q_n B < 24) (hu : u < 16) (hv : 1 ≤ v) (hv9 : v ≤ 9) : q_ok (q_ap B u v) := by
  refine ⟨by show q_n B + 1 ≤ 24; omega, hB.2.1, hB.2.2.1, fun j hj => ?_, fun p hp => ?_⟩
  · rw [q_F_ap B u v hj]; exact hB.2.2.2.1 j hj
  · have hp' : p < q_n B + 1 := hp
    show (1 ≤ am_un _ _ _ p ∧ am_un _ _ _ p ≤ 9) ∧ am_un _ _ _ p < 16 ∧ (am_un _ _ _ p = 12 ∨ (am_un _ _ _ p < 12 ∧ 0 < q_r B (am_un _ _ _ p))) ∧ am_un _ _ _ p ≤ 1 ∧ am_un _ _ _ p ≤ 9999 ∧ (am_un _ _ _ p = 12 → am_un _ _ _ p = 0)
    unfold am_un
    by_cases c : p = B.1.1
    · simp only [c, if_true]; exact ⟨⟨hv, hv9⟩, hu, Or.inl trivial, by omega, by omega, fun _ => trivial⟩
    · simp only [c, if_false]; exact hB.2.2.2.2 p (by have : ¬ p = q_n B := c; omega)
/-- what reading a text into the bureau at b may change -/
def cb_fr (b : Nat) (h h' : am_H) : Prop := (∀ a, (a < b ∨ b + 8 < a) → h'.2.2 a = h.2.2 a) ∧ (∀ a k, (a < b ∨ b + 8 < a) → a ≠ 3 → h'.1 a k = h.1 a k) ∧ h'.1 b 9 = h.1 b 9 ∧ h'.1 b 10 = h.1 b 10 ∧ h'.2.1 = h.2.1
def cb_oc (t : Nat → Nat) (n b : Nat) (h h' : am_H) (o : Int32 × Nat × am_AB) : Prop := cb_fr b h h' ∧ ((o.1 = 0 ∧ am_ss t n o.2.1 h' ∧ q_IC h' b o.2.2 ∧ q_ok o.2.2) ∨ (¬ o.1 = 0 ∧ h'.1 3 3 = o.1))
section
variable {d b n k : Nat} {h : am_H} {Z : Int32 → am_H → Prop} {B : am_AB} {t : Nat → Nat}
theorem cb_fr_rf (b : Nat) (h : am_H) : cb_fr b h h := ⟨fun _ _ => rfl, fun _ _ _ _ => rfl, rfl, rfl, rfl⟩
theorem cb_fr_tr {h1 h2 : am_H} (p : cb_fr b h h1) (q : cb_fr b h1 h2) : cb_fr b h h2 := ⟨fun a n1 => (q.1 a n1).trans (p.1 a n1), fun a k n1 n2 => (q.2.1 a k n1 n2).trans (p.2.1 a k n1 n2), q.2.2.1.trans p.2.2.1, q.2.2.2.1.trans p.2.2.2.1, q.2.2.2.2.trans p.2.2.2.2⟩
theorem cb_fr_3 {h1 : am_H} {j : Nat} {x : Int32} (hb : 20 ≤ b) (p : cb_fr b h h1) : cb_fr b h (am_sI h1 3 j x) := ⟨p.1, fun a k n1 n2 => by rw [am_gI, if_neg (fun e => n2 e.1)]; exact p.2.1 a k n1 n2, by rw [am_gI, if_neg (fun e => by omega)]; exact p.2.2.1, by rw [am_gI, if_neg (fun e => by omega)]; exact p.2.2.2.1, p.2.2.2.2⟩
theorem am_ss_fr {h1 : am_H} (hb : 20 ≤ b) (p : am_fr b h h1) (q : am_ss t n k h) : am_ss t n k h1 := by
  obtain ⟨a1, a2, a3, a4, a5, a6, a7⟩ := q
  have e3 := (p.1 3 (by omega)).1
  refine ⟨by rw [e3]; exact a1, by rw [e3]; exact a2, by rw [e3]; exact a3, a4, a5, a6, fun i hi => ?_⟩
  have := a7 i hi
  unfold am_at at this ⊢
  rw [(p.1 1 (by omega)).1, (p.1 2 (by omega)).2]; exact this
theorem cb_fr_fal {x : Nat} (hb : 20 ≤ b) (q : am_ss t n k h) (y : Nat) : cb_fr b h (am_fal h (nI x) (nI y)) ∧ (am_fal h (nI x) (nI y)).1 3 3 = am_ft x y := by
  rw [am_ss_fal q]
  exact ⟨cb_fr_3 hb (cb_fr_rf b h), by rw [am_gI, if_pos ⟨rfl, rfl⟩]; rfl⟩
theorem q_IC_tl {i v : Nat} (hI : q_IC h b B) : q_IC (am_sR h (b + 1) (upd (h.2.2 (b + 1)) i (nI v))) b (q_tl B i v) := by
  refine ⟨hI.1, hI.2.1, hI.2.2.1, fun j hj => ?_, fun p hp => ?_⟩
  · simp only [am_gRb, Nat.reduceEqDiff, reduceIte]
    refine ⟨?_, (hI.2.2.2.1 j hj).2⟩
    show upd _ _ _ j = nI (am_un _ _ _ j)
    unfold upd am_un
    by_cases c : j = i
    · rw [if_pos c, if_pos c]
    · rw [if_neg c, if_neg c]; exact (hI.2.2.2.1 j hj).1
  · simp only [am_gRb, Nat.reduceEqDiff, reduceIte]; exact hI.2.2.2.2 p hp
theorem iX0_addPaper {u v : Nat} (hb : am_bu b) (hI : q_IC h b B) (hn : q_n B < 24) (z : ∀ h', q_IC h' b (q_ap B u v) → am_fr b h h' → h'.1 b 9 = h.1 b 9 → h'.1 b 10 = h.1 b 10 → Z 0 h') : Sp mX0_addPaper d [.ref b, .int (nI u), .int (nI v)] h Z := by
  refine Sp_of mf_X0_addPaper rfl (Nat.le_of_ble_eq_true rfl) rfl (sX0_addPaper_0 hb ?_)
  have e8 := hI.1
  rw [e8, nI_clamp (by omega)]
  refine ⟨fun c => absurd c (nI_pos (by omega)), fun _ => ⟨fun _ => ⟨vp_in_nI (by omega) (by omega), fun h2 e2 => ?_⟩, fun c => absurd (nI_lt (b := 24) (by omega) (by omega)) c⟩⟩
  have i2 : h2.1 b 8 = nI (q_n B) := by rw [e2, am_gRi]; exact e8
  rw [i2, nI_clamp (by omega)]
  refine ⟨vp_in_nI (by omega) (by omega), fun h4 e4 => ?_⟩
  have i4 : h4.1 b 8 = nI (q_n B) := by rw [e4, am_gRi]; exact i2
  rw [i4, nI_clamp (by omega)]
  refine ⟨vp_in_nI (by omega) (by omega), fun h6 e6 => ?_⟩
  have i6 : h6.1 b 8 = nI (q_n B) := by rw [e6, am_gRi]; exact i4
  rw [i6, nI_clamp (by omega)]
  refine ⟨vp_in_nI (by omega) (by omega), fun h8 e8' => ?_⟩
  have i8 : h8.1 b 8 = nI (q_n B) := by rw [e8', am_gRi]; exact i6
  rw [i8, nI_clamp (by omega)]
  refine ⟨vp_in_nI (by omega) (by omega), fun h10 e10 h11 e11 => ?_⟩
  have i10 : h10.1 b 8 = nI (q_n B) := by rw [e10, am_gRi]; exact i8
  rw [i10, nI_1] at e11
  have fr : am_fr b h h11 := by
    rw [e11, e10, e8', e6, e4, e2]
    exact am_fr_sI (am_fr_sR (am_fr_sR (am_fr_sR (am_fr_sR (am_fr_sR (am_fr_rf b h) (by decide)) (by decide)) (by decide)) (by decide)) (by decide))
  refine z h11 ?_ fr (by rw [e11, am_gI, if_neg (fun e => by omega), e10, e8', e6, e4, e2]; rfl) (by rw [e11, am_gI, if_neg (fun e => by omega), e10, e8', e6, e4, e2]; rfl)
  have c1 : h11.2.2 (b + 1) = h.2.2 (b + 1) := by rw [e11, am_gI2, e10, e8', e6, e4, e2]; simp only [am_gRb, Nat.reduceEqDiff, reduceIte]
  have c2 : h11.2.2 (b + 2) = h.2.2 (b + 2) := by rw [e11, am_gI2, e10, e8', e6, e4, e2]; simp only [am_gRb, Nat.reduceEqDiff, reduceIte]
  have c3 : h11.2.2 (b + 3) = h.2.2 (b + 3) := by rw [e11, am_gI2, e10, e8', e6, e4, e2]; simp only [am_gRb, Nat.reduceEqDiff, reduceIte]
  have c4 : h11.2.2 (b + 4) = upd (h.2.2 (b + 4)) (q_n B) (nI u) := by rw [e11, am_gI2, e10, e8', e6, e4, e2]; simp only [am_gRb, Nat.reduceEqDiff, reduceIte]
  have c5 : h11.2.2 (b + 5) = upd (h.2.2 (b + 5)) (q_n B) (nI v) := by rw [e11, am_gI2, e10, e8', e6, e4, e2]; simp only [am_gRb, Nat.reduceEqDiff, reduceIte]
  have c6 : h11.2.2 (b + 6) = upd (h.2.2 (b + 6)) (q_n B) (-2) := by rw [e11, am_gI2, e10, e8', e6, e4, e2]; simp only [am_gRb, Nat.reduceEqDiff, reduceIte]
  have c7 : h11.2.2 (b + 7) = upd (h.2.2 (b + 7)) (q_n B) 0 := by rw [e11, am_gI2, e10, e8', e6, e4, e2]; simp only [am_gRb, Nat.reduceEqDiff, reduceIte]
  have c8 : h11.2.2 (b + 8) = upd (h.2.2 (b + 8)) (q_n B) 0 := by rw [e11, am_gI2, e10, e8', e6, e4, e2]; simp only [am_gRb, Nat.reduceEqDiff, reduceIte]
  refine ⟨by rw [e11, am_gI, if_pos ⟨rfl, rfl⟩], ?_, ?_, fun i hi => ?_, fun p hp => ?_⟩
  · rw [e11, am_gI, if_neg (fun e => by omega), e10, e8', e6, e4, e2]; exact hI.2.1
  · rw [e11, am_gI, if_neg (fun e => by omega), e10, e8', e6, e4, e2]; exact hI.2.2.1
  · rw [c1, c2, c3, q_F_ap B u v hi, q_C_ap B u v hi]; exact hI.2.2.2.1 i hi
  · have hp' : p < q_n B + 1 := hp
    rw [c4, c5, c6, c7, c8]
    show upd _ _ _ p = nI (am_un _ _ _ p) ∧ upd _ _ _ p = nI (am_un _ _ _ p) ∧ upd _ _ _ p = q_w2 (am_un _ _ _ p) ∧ upd _ _ _ p = nI (am_un _ _ _ p) ∧ upd _ _ _ p = nI (am_un _ _ _ p)
    unfold upd am_un
    by_cases c : p = q_n B
    · subst c
      simp only [if_true]
      exact ⟨trivial, trivial, q_w2_out.symm, rfl, rfl⟩
    · simp only [c, if_false]
      exact hI.2.2.2.2 p (by omega)
theorem cb_fr_of {h1 : am_H} (p : am_fr b h h1) (e9 : h1.1 b 9 = h.1 b 9) (e10 : h1.1 b 10 = h.1 b 10) : cb_fr b h h1 := ⟨fun a ha => (p.1 a ha).2, fun a k ha _ => by rw [(p.1 a ha).1], e9, e10, p.2⟩
theorem am_sub_n {a c : Nat} (h : c ≤ a) : nI a - nI c = nI (a - c) := pk_sub h
/-- a drawer's room -/
theorem iX1_readDrawer (hd : 6 ≤ d) (hb : am_bu b) (hS : am_ss t n k h) (hk : cb_dl t n k) (hI : q_IC h b B) (hB : q_ok B) (z : ∀ h', cb_oc t n b h h' (if 0 < q_r B (t k - 97) then (am_ft 6 k, k, B) else cb_rm t n k B) → Z 0 h') : Sp mX1_readDrawer d [.ref 4, .ref b, .int (nI (t k - 97))] h Z := by
  have hb2 : 20 ≤ b := by rcases hb with rfl | rfl | rfl | rfl <;> omega
  obtain ⟨k1, k2, k3⟩ := hk
  have tb := hS.2.2.2.2.2.1
  have hn := hS.2.2.2.2.1
  have dgi : ∀ j, ((48 : Int32) ≤ am_rd t n j ∧ am_rd t n j ≤ 57) = cb_dg t n j := fun j => propext (am_rd_in (lo := 48) (hi := 57) (by omega) (by omega) tb)
  refine Sp_of mf_X1_readDrawer rfl (Nat.le_of_ble_eq_true rfl) rfl (sX1_readDrawer_0 hb (by omega) ?_)
  rw [q_told hI hB (by omega)]
  refine ⟨fun c => ?_, fun c => ?_⟩
  · rw [if_neg c] at z
    have S1 := am_ss_nx hS k1
    have I1 : q_IC (am_sI h 3 2 (h.1 3 2 + 1)) b B := q_IC_i (by omega) hI
    have f1 : cb_fr b h (am_sI h 3 2 (h.1 3 2 + 1)) := cb_fr_3 hb2 (cb_fr_rf b h)
    generalize am_sI h 3 2 (h.1 3 2 + 1) = g at S1 I1 f1 ⊢
    -- a fault
    have bad : ∀ (g' : am_H) (k' x y : Nat) (r : Int32), am_ss t n k' g' → cb_fr b h g' → 1 ≤ x → x ≤ 8 → y ≤ 260 → cb_rm t n k B = (am_ft x y, k, B) → (¬ (am_fal g' (nI x) (nI y)).1 3 3 = 0 → Z 0 (am_fal g' (nI x) (nI y))) ∧ (¬ (¬ (am_fal g' (nI x) (nI y)).1 3 3 = 0) → am_cl mX0_tellDrawer d [.ref b, .int (nI (t k - 97)), .int r] (am_fal g' (nI x) (nI y)) (fun r3 h4 => Z 0 h4)) := fun g' k' x y r S' f' x1 x8 yb e => by
      have ff := cb_fr_fal (x := x) hb2 S' y
      have ne := (am_ft_n x1 x8 yb).2
      refine ⟨fun _ => z _ ⟨cb_fr_tr f' ff.1, Or.inr (by rw [e]; exact ⟨ne, ff.2⟩)⟩, fun q => absurd ?_ q⟩
      rw [ff.2]; exact ne
    -- a room
    have good : ∀ (g' : am_H) (k' v : Nat), am_ss t n k' g' → cb_fr b h g' → q_IC g' b B → 1 ≤ v → v ≤ 99 → cb_rm t n k B = (0, k', q_tl B (t k - 97) v) → (¬ g'.1 3 3 = 0 → Z 0 g') ∧ (¬ (¬ g'.1 3 3 = 0) → am_cl mX0_tellDrawer d [.ref b, .int (nI (t k - 97)), .int (nI v)] g' (fun r3 h4 => Z 0 h4)) := fun g' k' v S' f' I' v1 v99 e => by
      refine ⟨fun q => absurd S'.2.2.1 q, fun _ => ⟨5, by omega, Sp_of mf_X0_tellDrawer rfl (Nat.le_of_ble_eq_true rfl) rfl (sX0_tellDrawer_0 hb ⟨fun q => absurd q (nI_pos (by omega)), fun _ => ⟨fun q => absurd q (nI_ge (b := 12) (by omega) (by omega)), fun _ => ⟨vp_in_nI (by omega) (by omega), fun h2 e2 => ?_⟩⟩⟩)⟩⟩
      rw [nI_clamp (by omega)] at e2
      subst e2
      have fr : am_fr b g' (am_sR g' (b + 1) (upd (g'.2.2 (b + 1)) (t k - 97) (nI v))) := am_fr_sR (am_fr_rf b g') (by omega)
      refine z _ ⟨cb_fr_tr f' (cb_fr_of fr rfl rfl), Or.inl ?_⟩
      rw [e]
      exact ⟨rfl, am_ss_fr hb2 fr S', q_IC_tl I', q_ok_tl hB (by omega) (by omega) v99 v1⟩
    refine ⟨5, by omega, Sp_of mf_X1_readRoom rfl (Nat.le_of_ble_eq_true rfl) rfl (sX1_readRoom_0 (by omega) ?_)⟩
    rw [am_ss_pk S1, dgi, S1.2.1]
    refine ⟨fun c1 => ?_, fun c1 => ?_⟩
    · have S2 := am_ss_nx S1 c1.1
      rw [S1.2.1] at S2
      have I2 : q_IC (am_sI g 3 2 (nI (k + 1) + 1)) b B := q_IC_i (by omega) I1
      have f2 : cb_fr b h (am_sI g 3 2 (nI (k + 1) + 1)) := cb_fr_3 hb2 f1
      have e1 : am_rd t n (k + 1) = nI (t (k + 1)) := if_pos c1.1
      have e48 : nI (t (k + 1)) - 48 = nI (t (k + 1) - 48) := am_sub_n (c := 48) c1.2.1
      rw [e1, e48]
      generalize am_sI g 3 2 (nI (k + 1) + 1) = g2 at S2 I2 f2 ⊢
      rw [am_ss_pk S2, dgi]
      refine ⟨fun c2 => ?_, fun c2 => ?_⟩
      · refine sX1_readRoom_85 (by omega) ?_
        rw [am_ss_pk S2, dgi]
        refine ⟨fun _ => ?_, fun q => absurd q c2⟩
        rw [show nI (t (k + 1) - 48) = 0 ↔ t (k + 1) - 48 = 0 from nI_eq (b := 0) (by omega) (by omega)]
        refine ⟨fun c3 => good g2 (k + 1 + 1) _ S2 f2 I2 (by omega) (by omega) ?_, fun c3 => bad g2 (k + 1 + 1) 3 (k + 1) _ S2 f2 (by omega) (by omega) (by omega) ?_⟩
        · unfold cb_rm; rw [if_neg (fun q => q c1), if_neg c2, if_neg c3]
        · unfold cb_rm; rw [if_neg (fun q => q c1), if_neg c2, if_pos c3]
      · have S3 := am_ss_nx S2 c2.1
        have I3 : q_IC (am_sI g2 3 2 (g2.1 3 2 + 1)) b B := q_IC_i (by omega) I2
        have f3 : cb_fr b h (am_sI g2 3 2 (g2.1 3 2 + 1)) := cb_fr_3 hb2 f2
        have e2 : am_rd t n (k + 1 + 1) = nI (t (k + 2)) := if_pos c2.1
        have c22 : 48 ≤ t (k + 2) ∧ t (k + 2) ≤ 57 := c2.2
        have e49 : (10 * nI (t (k + 1) - 48) + nI (t (k + 2))) - 48 = nI (10 * (t (k + 1) - 48) + (t (k + 2) - 48)) := by
          rw [show (10 : Int32) * nI (t (k + 1) - 48) = nI (10 * (t (k + 1) - 48)) from pk_mul 10 _, nI_add]
          rw [show nI (10 * (t (k + 1) - 48) + t (k + 2)) - 48 = nI (10 * (t (k + 1) - 48) + t (k + 2) - 48) from am_sub_n (c := 48) (by omega)]
          congr 1
          omega
        rw [e2, e49]
        generalize am_sI g2 3 2 (g2.1 3 2 + 1) = g3 at S3 I3 f3 ⊢
        refine sX1_readRoom_85 (by omega) ?_
        rw [am_ss_pk S3, dgi, S3.2.1, show nI (10 * (t (k + 1) - 48) + (t (k + 2) - 48)) = 0 ↔ 10 * (t (k + 1) - 48) + (t (k + 2) - 48) = 0 from nI_eq (b := 0) (by omega) (by omega)]
        refine ⟨fun c3 => ⟨fun c4 => good g3 (k + 1 + 1 + 1) _ S3 f3 I3 (by omega) (by omega) ?_, fun c4 => bad g3 (k + 1 + 1 + 1) 3 (k + 1) _ S3 f3 (by omega) (by omega) (by omega) ?_⟩, fun c3 => bad g3 (k + 1 + 1 + 1) 2 (k + 1 + 1 + 1) _ S3 f3 (by omega) (by omega) (by omega) ?_⟩
        · unfold cb_rm; rw [if_neg (fun q => q c1), if_pos c2, if_neg c3, if_neg c4]
        · unfold cb_rm; rw [if_neg (fun q => q c1), if_pos c2, if_neg c3, if_pos c4]
        · unfold cb_rm; rw [if_neg (fun q => q c1), if_pos c2, if_pos c3]
    · exact bad g (k + 1) 1 (k + 1) _ S1 f1 (by omega) (by omega) (by omega) (by unfold cb_rm; rw [if_pos c1])
  · rw [if_pos c] at z
    have ff := cb_fr_fal (x := 6) hb2 hS k
    rw [hS.2.1]
    exact z _ ⟨ff.1, Or.inr ⟨(am_ft_n (by omega) (by omega) (by omega)).2, ff.2⟩⟩
theorem iX1_readPaper (hd : 6 ≤ d) (hb : am_bu b) (hS : am_ss t n k h) (hk : k < n ∧ 65 ≤ t k ∧ t k ≤ 80) (hI : q_IC h b B) (hB : q_ok B) (hn24 : q_n B < 24) (z : ∀ h', cb_oc t n b h h' (cb_pp t n k B) → Z 0 h') : Sp mX1_readPaper d [.ref 4, .ref b, .int (nI (t k - 65))] h Z := by
  have hb2 : 20 ≤ b := by rcases hb with rfl | rfl | rfl | rfl <;> omega
  obtain ⟨k1, k2, k3⟩ := hk
  have tb := hS.2.2.2.2.2.1
  have hn := hS.2.2.2.2.1
  have dgi : ∀ j, ((48 : Int32) ≤ am_rd t n j ∧ am_rd t n j ≤ 57) = cb_dg t n j := fun j => propext (am_rd_in (lo := 48) (hi := 57) (by omega) (by omega) tb)
  have dli : ∀ j, ((97 : Int32) ≤ am_rd t n j ∧ am_rd t n j ≤ 108) = cb_dl t n j := fun j => propext (am_rd_in (lo := 97) (hi := 108) (by omega) (by omega) tb)
  have S1 := am_ss_nx hS k1
  have I1 : q_IC (am_sI h 3 2 (h.1 3 2 + 1)) b B := q_IC_i (by omega) hI
  have f1 : cb_fr b h (am_sI h 3 2 (h.1 3 2 + 1)) := cb_fr_3 hb2 (cb_fr_rf b h)
  refine Sp_of mf_X1_readPaper rfl (Nat.le_of_ble_eq_true rfl) rfl (sX1_readPaper_0 hb (by omega) ?_)
  generalize am_sI h 3 2 (h.1 3 2 + 1) = g at S1 I1 f1 ⊢
  have bad : ∀ (g' : am_H) (k' x y : Nat), am_ss t n k' g' → cb_fr b h g' → 1 ≤ x → x ≤ 8 → y ≤ 260 → cb_pp t n k B = (am_ft x y, k, B) → Z 0 (am_fal g' (nI x) (nI y)) := fun g' k' x y S' f' x1 x8 yb e => by
    have ff := cb_fr_fal (x := x) hb2 S' y
    exact z _ ⟨cb_fr_tr f' ff.1, Or.inr (by rw [e]; exact ⟨(am_ft_n x1 x8 yb).2, ff.2⟩)⟩
  rw [am_ss_pk S1, dgi, S1.2.1]
  refine ⟨fun c1 => bad g (k + 1) 1 (k + 1) S1 f1 (by omega) (by omega) (by omega) ?_, fun c1 => ⟨fun c2 => ?_, fun c2 => bad g (k + 1) 1 (k + 1) S1 f1 (by omega) (by omega) (by omega) ?_⟩⟩
  · unfold cb_pp; rw [if_pos (fun q => c1 ⟨q.1, by omega, by omega⟩)]
  · have e1 : am_rd t n (k + 1) = nI (t (k + 1)) := if_pos c1.1
    have e48 : nI (t (k + 1)) - 48 = nI (t (k + 1) - 48) := am_sub_n (c := 48) c1.2.1
    have c2' : ¬ t (k + 1) = 48 := fun e => c2 (by rw [e1, e]; rfl)
    have c1' : k + 1 < n ∧ 49 ≤ t (k + 1) ∧ t (k + 1) ≤ 57 := ⟨c1.1, by omega, c1.2.2⟩
    have S2 := am_ss_nx S1 c1.1
    rw [S1.2.1] at S2
    have I2 : q_IC (am_sI g 3 2 (nI (k + 1) + 1)) b B := q_IC_i (by omega) I1
    have f2 : cb_fr b h (am_sI g 3 2 (nI (k + 1) + 1)) := cb_fr_3 hb2 f1
    rw [e1, e48]
    generalize am_sI g 3 2 (nI (k + 1) + 1) = g2 at S2 I2 f2 ⊢
    have okA : q_ok (q_ap B (t k - 65) (t (k + 1) - 48)) := q_ok_ap hB hn24 (by omega) (by omega) (by omega)
    refine ⟨5, by omega, iX0_addPaper hb I2 hn24 (fun g3 I3 fr3 e39 e310 => ?_)⟩
    have S3 := am_ss_fr hb2 fr3 S2
    have f3 : cb_fr b h g3 := cb_fr_tr f2 (cb_fr_of fr3 e39 e310)
    rw [am_ss_pk S3, show (am_rd t n (k + 1 + 1) = 62) = (k + 2 < n ∧ t (k + 2) = 62) from propext (am_rd_eq (x := 62) (by omega) tb)]
    refine ⟨fun c3 => ?_, fun c3 => ?_⟩
    · refine z g3 ⟨f3, Or.inl ?_⟩
      rw [show cb_pp t n k B = (0, k + 2, q_ap B (t k - 65) (t (k + 1) - 48)) by unfold cb_pp; rw [if_neg (fun q => q c1'), if_neg c3]]
      exact ⟨rfl, S3, I3, okA⟩
    · have S4 := am_ss_nx S3 c3.1
      have I4 : q_IC (am_sI g3 3 2 (g3.1 3 2 + 1)) b (q_ap B (t k - 65) (t (k + 1) - 48)) := q_IC_i (by omega) I3
      have f4 : cb_fr b h (am_sI g3 3 2 (g3.1 3 2 + 1)) := cb_fr_3 hb2 f3
      generalize am_sI g3 3 2 (g3.1 3 2 + 1) = g4 at S4 I4 f4 ⊢
      refine ⟨5, by omega, Sp_of mf_X1_readItsDrawer rfl (Nat.le_of_ble_eq_true rfl) rfl (sX1_readItsDrawer_0 hb (by omega) ?_)⟩
      rw [am_ss_pk S4, dli, S4.2.1]
      refine ⟨fun c4 => ?_, fun c4 => bad g4 (k + 1 + 1 + 1) 1 (k + 1 + 1 + 1) S4 f4 (by omega) (by omega) (by omega) ?_⟩
      · have c4' : k + 3 < n ∧ 97 ≤ t (k + 3) ∧ t (k + 3) ≤ 108 := c4
        have e3 : am_rd t n (k + 1 + 1 + 1) = nI (t (k + 3)) := if_pos c4.1
        have e97 : nI (t (k + 3)) - 97 = nI (t (k + 3) - 97) := am_sub_n (c := 97) c4'.2.1
        have en : g4.1 b 8 - 1 = nI (q_n B) := by
          rw [I4.1]
          show nI (q_n B + 1) - 1 = _
          exact am_sub_n (a := q_n B + 1) (c := 1) (by omega)
        have pn : q_n B < q_n (q_ap B (t k - 65) (t (k + 1) - 48)) := Nat.lt_succ_self _
        rw [e3, e97, en, q_told I4 okA (by omega), q_fit I4 okA pn (by omega)]
        have esz : q_si (q_ap B (t k - 65) (t (k + 1) - 48)) (q_n B) = t (k + 1) - 48 := am_un_s _ _ _
        have eF : q_F (q_ap B (t k - 65) (t (k + 1) - 48)) (t (k + 3) - 97) = q_F B (t (k + 3) - 97) := q_F_ap B _ _ (by omega)
        rw [esz, eF]
        have er : q_r (q_ap B (t k - 65) (t (k + 1) - 48)) = q_r B := rfl
        rw [er]
        refine ⟨fun c5 => ⟨fun c6 => ⟨4, by omega, iX0_move (by omega) hb I4 okA pn (by omega) c6.1 (by rw [esz, eF]; exact c6.2) (fun g5 I5 fr5 => ?_)⟩, fun c6 => bad g4 (k + 1 + 1 + 1) 8 (k + 1 + 1 + 1) S4 f4 (by omega) (by omega) (by omega) ?_⟩, fun c5 => bad g4 (k + 1 + 1 + 1) 7 (k + 1 + 1 + 1) S4 f4 (by omega) (by omega) (by omega) ?_⟩
        · have S5 := am_ss_nx (am_ss_fr hb2 fr5 S4) c4.1
          have d5 : g5.1 b 9 = g4.1 b 9 := by rw [I5.2.1, I4.2.1]
          have x5 : g5.1 b 10 = g4.1 b 10 := by rw [I5.2.2.1, I4.2.2.1]
          refine z _ ⟨cb_fr_3 hb2 (cb_fr_tr f4 (cb_fr_of fr5 d5 x5)), Or.inl ?_⟩
          rw [show cb_pp t n k B = (0, k + 4, q_mv (q_ap B (t k - 65) (t (k + 1) - 48)) (q_n B) (t (k + 3) - 97)) by unfold cb_pp; rw [if_neg (fun q => q c1'), if_pos c3, if_neg (fun q => q c4'), if_neg (fun q => q c5), if_neg (fun q => q c6.2)]]
          exact ⟨rfl, S5, q_IC_i (by omega) I5, q_ok_mv okA pn (by omega) c6.1 (by rw [esz, eF]; exact c6.2)⟩
        · unfold cb_pp; rw [if_neg (fun q => q c1'), if_pos c3, if_neg (fun q => q c4'), if_neg (fun q => q c5), if_pos (fun q => c6 ⟨c5, q⟩)]
        · unfold cb_pp; rw [if_neg (fun q => q c1'), if_pos c3, if_neg (fun q => q c4'), if_pos c5]
      · unfold cb_pp; rw [if_neg (fun q => q c1'), if_pos c3, if_pos c4]
  · have e1 : am_rd t n (k + 1) = nI (t (k + 1)) := if_pos c1.1
    rw [e1] at c2
    have : t (k + 1) = 48 := (nI_eq (b := 48) (by have := tb (k + 1); omega) (by omega)).mp c2
    unfold cb_pp; rw [if_pos (fun q => by omega)]
theorem iX1_readLine {ln : Nat} (hd : 8 ≤ d) (hb : am_bu b) (hl : ln ≤ 36) (hS : am_ss t n k h) (hI : q_IC h b B) (hB : q_ok B) (z : ∀ h', cb_oc t n b h h' (cb_ln t n ln k B) → Z 0 h') : Sp mX1_readLine d [.ref 4, .ref b, .int (nI ln)] h Z := by
  have hb2 : 20 ≤ b := by rcases hb with rfl | rfl | rfl | rfl <;> omega
  have tb := hS.2.2.2.2.2.1
  have hn := hS.2.2.2.2.1
  have hkn := hS.2.2.2.1
  have hn24 := hB.1
  have dli : ((97 : Int32) ≤ am_rd t n k ∧ am_rd t n k ≤ 108) = cb_dl t n k := propext (am_rd_in (lo := 97) (hi := 108) (by omega) (by omega) tb)
  have bad : ∀ x, 1 ≤ x → x ≤ 8 → cb_ln t n ln k B = (am_ft x k, k, B) → Z 0 (am_fal h (nI x) (h.1 3 2)) := fun x x1 x8 e => by
    have ff := cb_fr_fal (x := x) hb2 hS k
    rw [hS.2.1]
    exact z _ ⟨ff.1, Or.inr (by rw [e]; exact ⟨(am_ft_n x1 x8 (by omega)).2, ff.2⟩)⟩
  refine Sp_of mf_X1_readLine rfl (Nat.le_of_ble_eq_true rfl) rfl (sX1_readLine_0 hb (by omega) ?_)
  rw [am_ss_pk hS]
  refine ⟨fun c0 => ?_, fun c0 => ?_⟩
  · have c1 : cb_dl t n k := by rw [← dli]; exact c0
    have e0 : am_rd t n k = nI (t k) := if_pos c1.1
    rw [am_b1 c0]
    refine sX1_readLine_42 hb (by omega) ⟨fun c2 => bad 4 (by omega) (by omega) ?_, fun c2 => ⟨fun _ => ?_, fun q => absurd q (by decide)⟩⟩
    · unfold cb_ln; rw [if_pos c1, if_pos ((nI_leI (a := 36) (by omega) (by omega)).mp c2)]
    · refine sX1_readLine_73 hb ⟨fun q => absurd q (by decide), fun _ => ?_⟩
      rw [e0, show nI (t k) - 97 = nI (t k - 97) from am_sub_n (c := 97) c1.2.1]
      refine ⟨7, by omega, iX1_readDrawer (by omega) hb hS c1 hI hB (fun h' hh => z h' ?_)⟩
      unfold cb_ln; rw [if_pos c1, if_neg (fun q => c2 (nI_le (a := 36) q (by omega)))]; exact hh
  · have c1 : ¬ cb_dl t n k := by rw [← dli]; exact c0
    have r2 : k < n ∧ 65 ≤ t k ∧ t k ≤ 80 ↔ ¬ am_rd t n k < 65 ∧ am_rd t n k ≤ 80 := by
      rw [← am_rd_in (lo := 65) (hi := 80) (by omega) (by omega) tb]
      exact ⟨fun q => ⟨Int32.not_lt.mpr q.1, q.2⟩, fun q => ⟨Int32.not_lt.mp q.1, q.2⟩⟩
    have no : ¬ (k < n ∧ 65 ≤ t k ∧ t k ≤ 80) → cb_ln t n ln k B = (am_ft 1 k, k, B) := fun q => by unfold cb_ln; rw [if_neg c1, if_neg q]
    refine ⟨fun c2 => bad 1 (by omega) (by omega) (no (fun q => (r2.mp q).1 c2)), fun c2 => ⟨fun c3 => ?_, fun c3 => bad 1 (by omega) (by omega) (no (fun q => c3 (r2.mp q).2))⟩⟩
    have c4 := r2.mpr ⟨c2, c3⟩
    have e0 : am_rd t n k = nI (t k) := if_pos c4.1
    rw [am_b0 c0]
    refine sX1_readLine_42 hb (by omega) ⟨fun c5 => bad 4 (by omega) (by omega) ?_, fun c5 => ⟨fun q => absurd rfl q, fun _ => ?_⟩⟩
    · unfold cb_ln; rw [if_neg c1, if_pos c4, if_pos (Or.inl ((nI_leI (a := 36) (by omega) (by omega)).mp c5))]
    · rw [hI.1, show (nI (q_n B) < 24) = (q_n B < 24) from propext (nI_ltI (b := 24) (by omega) (by omega))]
      refine ⟨fun c6 => ?_, fun c6 => bad 4 (by omega) (by omega) ?_⟩
      · refine sX1_readLine_73 hb ⟨fun _ => ?_, fun q => absurd rfl q⟩
        rw [e0, show nI (t k) - 65 = nI (t k - 65) from am_sub_n (c := 65) c4.2.1]
        refine ⟨7, by omega, iX1_readPaper (by omega) hb hS c4 hI hB c6 (fun h' hh => z h' ?_)⟩
        unfold cb_ln
        rw [if_neg c1, if_pos c4, if_neg (fun q => ?_)]; exact hh
        rcases q with q | q
        · exact c5 (nI_le (a := 36) q (by omega))
        · omega
      · unfold cb_ln; rw [if_neg c1, if_pos c4, if_pos (Or.inr (by omega))]
end
/-- the whole text: its lines, or a fault -/
def cb_tx (t : Nat → Nat) (n : Nat) : Nat → Nat → Nat → am_AB → Int32 × am_AB
  | 0, _, _, B => (0, B)
  | m + 1, ln, k, B =>
    if ¬ (cb_ln t n ln k B).1 = 0 then ((cb_ln t n ln k B).1, B)
    else if n ≤ (cb_ln t n ln k B).2.1 then (nI (ln + 1), (cb_ln t n ln k B).2.2)
    else if t (cb_ln t n ln k B).2.1 = 59 then cb_tx t n m (ln + 1) ((cb_ln t n ln k B).2.1 + 1) (cb_ln t n ln k B).2.2
    else (am_ft 1 (cb_ln t n ln k B).2.1, B)
theorem cb_ln_36 {t : Nat → Nat} {n k : Nat} (hk : k ≤ 260) (B : am_AB) : ¬ (cb_ln t n 36 k B).1 = 0 ∧ (cb_ln t n 36 k B).1 < 0 := by
  have f4 := am_ft_n (x := 4) (k := k) (by omega) (by omega) hk
  have f1 := am_ft_n (x := 1) (k := k) (by omega) (by omega) hk
  unfold cb_ln
  split
  · rw [if_pos (Nat.le_refl _)]; exact ⟨f4.2, f4.1⟩
  · split
    · rw [if_pos (Or.inl (Nat.le_refl _))]; exact ⟨f4.2, f4.1⟩
    · exact ⟨f1.2, f1.1⟩
theorem cb_rm_n {t : Nat → Nat} {n k : Nat} (hk : k + 3 ≤ 260) (B : am_AB) : (cb_rm t n k B).1 = 0 ∨ (cb_rm t n k B).1 < 0 := by
  have ff : ∀ x y, 1 ≤ x → x ≤ 8 → y ≤ 260 → am_ft x y < 0 := fun x y h1 h2 h3 => (am_ft_n h1 h2 h3).1
  unfold cb_rm
  split
  · exact Or.inr (ff _ _ (by omega) (by omega) (by omega))
  · split
    · split
      · exact Or.inr (ff _ _ (by omega) (by omega) (by omega))
      · split
        · exact Or.inr (ff _ _ (by omega) (by omega) (by omega))
        · exact Or.inl rfl
    · split
      · exact Or.inr (ff _ _ (by omega) (by omega) (by omega))
      · exact Or.inl rfl
theorem cb_pp_n {t : Nat → Nat} {n k : Nat} (hk : k + 3 ≤ 260) (B : am_AB) : (cb_pp t n k B).1 = 0 ∨ (cb_pp t n k B).1 < 0 := by
  have ff : ∀ x y, 1 ≤ x → x ≤ 8 → y ≤ 260 → am_ft x y < 0 := fun x y h1 h2 h3 => (am_ft_n h1 h2 h3).1
  unfold cb_pp
  split
  · exact Or.inr (ff _ _ (by omega) (by omega) (by omega))
  · split
    · split
      · exact Or.inr (ff _ _ (by omega) (by omega) (by omega))
      · split
        · exact Or.inr (ff _ _ (by omega) (by omega) (by omega))
        · split
          · exact Or.inr (ff _ _ (by omega) (by omega) (by omega))
          · exact Or.inl rfl
    · exact Or.inl rfl
theorem cb_ln_n {t : Nat → Nat} {n ln k : Nat} (hk : k + 3 ≤ 260) (B : am_AB) : (cb_ln t n ln k B).1 = 0 ∨ (cb_ln t n ln k B).1 < 0 := by
  have ff : ∀ x y, 1 ≤ x → x ≤ 8 → y ≤ 260 → am_ft x y < 0 := fun x y h1 h2 h3 => (am_ft_n h1 h2 h3).1
  unfold cb_ln
  split
  · split
    · exact Or.inr (ff _ _ (by omega) (by omega) (by omega))
    · split
      · exact Or.inr (ff _ _ (by omega) (by omega) (by omega))
      · exact cb_rm_n hk B
  · split
    · split
      · exact Or.inr (ff _ _ (by omega) (by omega) (by omega))
      · exact cb_pp_n hk B
    · exact Or.inr (ff _ _ (by omega) (by omega) (by omega))
theorem am_rd_no {t : Nat → Nat} {n k : Nat} (tb : ∀ i, t i < 256) : am_rd t n k = -1 ↔ n ≤ k := by
  unfold am_rd
  rcases Nat.lt_or_ge k n with c | c
  · rw [if_pos c]
    exact ⟨fun q => absurd (show (-1 : Int32) < 0 by decide) (by rw [← q]; exact nI_pos (by have := tb k; omega)), fun q => by omega⟩
  · rw [if_neg (by omega)]; exact ⟨fun _ => c, fun _ => rfl⟩
theorem cb_tx_s (t : Nat → Nat) (n m ln k : Nat) (B : am_AB) : cb_tx t n (m + 1) ln k B = if ¬ (cb_ln t n ln k B).1 = 0 then ((cb_ln t n ln k B).1, B) else if n ≤ (cb_ln t n ln k B).2.1 then (nI (ln + 1), (cb_ln t n ln k B).2.2) else if t (cb_ln t n ln k B).2.1 = 59 then cb_tx t n m (ln + 1) ((cb_ln t n ln k B).2.1 + 1) (cb_ln t n ln k B).2.2 else (am_ft 1 (cb_ln t n ln k B).2.1, B) := rfl
section
variable {d b n : Nat} {h : am_H} {Z : Int32 → am_H → Prop} {t : Nat → Nat} {u1 : Value}
theorem x_cab {r : Int32 × am_AB} (hd : 10 ≤ d) (hb : am_bu b) (zf : ∀ h', cb_fr b h h' → r.1 < 0 → Z r.1 h') (zg : ∀ h', cb_fr b h h' → 0 < r.1 → q_IC h' b r.2 → q_ok r.2 → Z r.1 h') : ∀ (m ln k : Nat) (B : am_AB) (h1 : am_H), ln + m = 36 → am_ss t n k h1 → n ≤ 250 → q_IC h1 b B → q_ok B → cb_fr b h h1 → cb_tx t n (m + 1) ln k B = r → Ru mX1_read none d 14 [.ref 4, u1, .ref b, .int (nI ln)] [] h1 Z
  | m, ln, k, B, h1, hm, hS, hn, hI, hB, hf, e => by
    have hb2 : 20 ≤ b := by rcases hb with rfl | rfl | rfl | rfl <;> omega
    have tb := hS.2.2.2.2.2.1
    have hkn := hS.2.2.2.1
    have fail : ∀ (g : am_H) (x : Int32), g.1 3 3 = r.1 → r.1 < 0 → cb_fr b h g → Ru mX1_read none d 14 [.ref 4, u1, .ref b, .int x] [] g Z := fun g x eg lt fg => by
      have ne : ¬ g.1 3 3 = 0 := fun q => by rw [eg] at q; rw [q] at lt; exact absurd lt (by decide)
      have w := zf g fg lt
      rw [← eg] at w
      exact sX1_read_14 hb (by omega) ⟨fun _ => w, fun _ => ⟨fun _ => w, fun q => absurd ne q⟩⟩
    refine sX1_read_14 hb (by omega) ⟨fun c => absurd c (nI_nlt (a := 36) (by omega) (by omega)), fun _ => ⟨fun c => absurd hS.2.2.1 c, fun _ => ⟨8, by omega, iX1_readLine (by omega) hb (by omega) hS hI hB (fun h2 oc => ?_)⟩⟩⟩
    rw [cb_tx_s] at e
    have neg := cb_ln_n (t := t) (n := n) (ln := ln) (k := k) (by omega) B
    have l36 := cb_ln_36 (t := t) (n := n) (k := k) (by omega) B
    generalize eo : cb_ln t n ln k B = o at e oc neg
    obtain ⟨fr2, oc⟩ := oc
    have f2 := cb_fr_tr hf fr2
    rw [nI_1]
    rcases oc with ⟨o0, S2, I2, B2⟩ | ⟨o1, e2⟩
    · rw [if_neg (fun q => q o0)] at e
      have hk2 := S2.2.2.2.1
      refine ⟨fun c => absurd S2.2.2.1 c, fun _ => ?_⟩
      rw [am_ss_pk S2, am_rd_no tb]
      refine ⟨fun c => ?_, fun c => ?_⟩
      · rw [if_neg c] at e
        have e59 : (am_pk h2 = 59) ↔ t o.2.1 = 59 := by
          rw [am_ss_pk S2]
          exact (am_rd_eq (x := 59) (by omega) tb).trans ⟨fun q => q.2, fun q => ⟨by omega, q⟩⟩
        by_cases c59 : t o.2.1 = 59
        · rw [if_pos c59] at e
          have ex : am_exp h2 59 = am_sI h2 3 2 (h2.1 3 2 + 1) := if_pos (e59.mpr c59)
          rw [ex]
          cases m with
          | zero =>
            rw [show ln = 36 by omega] at eo
            rw [eo] at l36
            exact absurd o0 l36.1
          | succ m => exact x_cab hd hb zf zg m (ln + 1) (o.2.1 + 1) o.2.2 _ (by omega) (am_ss_nx S2 (by omega)) hn (q_IC_i (by omega) I2) B2 (cb_fr_3 hb2 f2) e
        · rw [if_neg c59] at e
          have ex : am_exp h2 59 = am_fal h2 1 (h2.1 3 2) := if_neg (fun q => c59 (e59.mp q))
          rw [ex, S2.2.1]
          have ff := cb_fr_fal (x := 1) hb2 S2 o.2.1
          have er : r.1 = am_ft 1 o.2.1 := by rw [← e]
          exact fail _ _ (by rw [er]; exact ff.2) (by rw [er]; exact (am_ft_n (by omega) (by omega) (by omega)).1) (cb_fr_tr f2 ff.1)
      · rw [if_pos c] at e
        have er1 : r.1 = nI (ln + 1) := by rw [← e]
        have er2 : r.2 = o.2.2 := by rw [← e]
        have w := zg h2 f2 (by rw [er1]; exact nI_lt (a := 0) (by omega) (by omega)) (by rw [er2]; exact I2) (by rw [er2]; exact B2)
        rw [er1] at w; exact w
    · rw [if_pos o1] at e
      have er : r.1 = o.1 := by rw [← e]
      have lt : r.1 < 0 := by
        rw [er]; rcases neg with q | q
        · exact absurd q o1
        · exact q
      have ne : ¬ h2.1 3 3 = 0 := by rw [e2]; exact o1
      refine ⟨fun _ => ?_, fun c => absurd ne c⟩
      rw [am_exp_no (by decide) ne]
      exact fail h2 _ (by rw [er]; exact e2) lt f2
theorem iX1_read {N D X : Nat} (hd : 12 ≤ d) (hb : am_bu b) (ht : am_tape h N) (hn : n ≤ N) (hn2 : n ≤ 250) (h9 : h.1 b 9 = nI D) (h10 : h.1 b 10 = nI X) (hD : D ≤ 9999) (hX : X < 65536) (r : Int32 × am_AB) (er : r = cb_tx (am_bt h) n 37 0 0 ((0, D, X), fun _ => 0, fun _ => 0, fun _ => 0, fun _ => 12, fun _ => 0, fun _ => 0)) (zf : ∀ h', cb_fr b h h' → r.1 < 0 → Z r.1 h') (zg : ∀ h', cb_fr b h h' → 0 < r.1 → q_IC h' b r.2 → q_ok r.2 → Z r.1 h') : Sp mX1_read d [.ref 4, .int (nI n), .ref b] h Z := by
  have hb2 : 20 ≤ b := by rcases hb with rfl | rfl | rfl | rfl <;> omega
  have hN := ht.1
  refine Sp_of mf_X1_read rfl (Nat.le_of_ble_eq_true rfl) rfl (sX1_read_0 hb (by omega) ⟨11, by omega, Sp_of mf_X0_clearCabinet rfl (Nat.le_of_ble_eq_true rfl) rfl (sX0_clearCabinet_0 hb (by omega) (fun h1 e1 => ?_))⟩)
  have fr1 : am_fr b h h1 := by
    rw [e1]
    exact am_fr_sI (am_fr_sR (am_fr_sR (am_fr_sR (am_fr_rf b h) (by decide)) (by decide)) (by decide))
  have k9 : h1.1 b 9 = h.1 b 9 := by rw [e1, am_gI, if_neg (fun e => by omega)]; rfl
  have k10 : h1.1 b 10 = h.1 b 10 := by rw [e1, am_gI, if_neg (fun e => by omega)]; rfl
  have I1 : q_IC h1 b ((0, D, X), fun _ => 0, fun _ => 0, fun _ => 0, fun _ => 12, fun _ => 0, fun _ => 0) := by
    refine ⟨by rw [e1, am_gI, if_pos ⟨rfl, rfl⟩]; rfl, by rw [k9]; exact h9, by rw [k10]; exact h10, fun i hi => ?_, fun p hp => absurd hp (Nat.not_lt_zero p)⟩
    rw [e1, am_gI2]
    simp only [am_gRb, Nat.reduceEqDiff, reduceIte]
    unfold am_fill
    simp only [hi, if_true]
    exact ⟨rfl, rfl, rfl⟩
  have ok1 : q_ok ((0, D, X), fun _ => 0, fun _ => 0, fun _ => 0, fun _ => 12, fun _ => 0, fun _ => 0) := ⟨Nat.zero_le _, hD, hX, fun i _ => ⟨Nat.zero_le _, Nat.le_refl _⟩, fun p hp => absurd hp (Nat.not_lt_zero p)⟩
  refine x_cab (h := h) (t := am_bt h) (n := n) (r := r) (by omega) hb zf zg 36 0 0 _ _ (by omega) ?_ hn2 (q_IC_i (by omega) (q_IC_i (by omega) (q_IC_i (by omega) I1))) ok1 (cb_fr_3 hb2 (cb_fr_3 hb2 (cb_fr_3 hb2 (cb_fr_of fr1 k9 k10)))) er.symm
  refine ⟨?_, ?_, ?_, Nat.zero_le _, by omega, am_bt_lt h, fun i hi => ?_⟩
  · rw [am_gI, if_neg (by decide), am_gI, if_neg (by decide), am_gI, if_pos ⟨rfl, rfl⟩]
  · rw [am_gI, if_neg (by decide), am_gI, if_pos ⟨rfl, rfl⟩]; rfl
  · rw [am_gI, if_pos ⟨rfl, rfl⟩]
  · rw [am_at_sI _ _ _ (by decide), am_at_sI _ _ _ (by decide), am_at_sI _ _ _ (by decide)]
    have := am_at_b ht (i := i) (by omega)
    unfold am_at at this ⊢
    rw [(fr1.1 1 (by omega)).1, (fr1.1 2 (by omega)).2]; exact this
end
