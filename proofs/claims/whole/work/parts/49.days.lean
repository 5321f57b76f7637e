-- days, tried, shut: both sides
set_option maxRecDepth 20000 in
set_option maxHeartbeats 2000000 in
theorem sX10_days_0 {d : Nat} {h : am_H} {Z : Int32 → am_H → Prop} {x1 : Int32} (hd : 2 ≤ d) (w : ((1 : Int32) ≤ x1 ∧ x1 ≤ (100 : Int32) → (am_bu (h.2.1 0 10) ∧ (am_la (h.2.1 0 12) ∧ (am_cl mX2_pass d [.ref 8, .ref (h.2.1 0 10), .ref (h.2.1 0 12), .int x1] h (fun r3 h4 => Z (h4.1 8 1) h4))))) ∧ (¬ ((1 : Int32) ≤ x1 ∧ x1 ≤ (100 : Int32)) → Z (-1) h)) : Ru mX10_days none d 0 [.ref 0, .int x1] [] h Z := by
  refine st_iload_n dX10_days_0 rfl ?_
  refine st_iconst (v := 1) dX10_days_1 (by decide) ?_
  refine st_bipush (v := 100) dX10_days_2 (by decide) ?_
  refine st_callS (M' := mX10_isFromTo) [.int x1, .int 1, .int 100] [] dX10_days_4 ml_X10_135 mf_X10_isFromTo ms_X10_isFromTo rfl rfl rfl (K := fun r h' => (am_b ((1 : Int32) ≤ x1 ∧ x1 ≤ (100 : Int32))) = r ∧ h = h') ⟨1, by omega, iX10_isFromTo ⟨rfl, rfl⟩⟩ (fun r1 h1 w1 => ?_)
  obtain ⟨rfl, rfl⟩ := w1
  show Ru mX10_days none d 7 [.ref 0, .int x1] [.int (am_b ((1 : Int32) ≤ x1 ∧ x1 ≤ (100 : Int32)))] h Z
  refine st_ifb_ne (tgt := 12) dX10_days_7 (by decide) (fun c => ?_) (fun c => ?_)
  · replace w := w.1 c
    refine st_aload_n dX10_days_12 rfl ?_
    refine st_getF (q := 8) fl_X10_44 fk_10_5 rfl dX10_days_13 sh_0 ?_
    refine st_aload_n dX10_days_16 rfl ?_
    refine st_getP fl_X10_72 fk_10_10 dX10_days_17 sh_0 ?_
    have hc1 := w.1
    replace w := w.2
    refine st_aload_n dX10_days_20 rfl ?_
    refine st_getP fl_X10_81 fk_10_12 dX10_days_21 sh_0 ?_
    have hc2 := w.1
    replace w := w.2
    refine st_iload_n dX10_days_24 rfl ?_
    refine st_callV (M' := mX2_pass) [.ref (h.2.1 0 10), .ref (h.2.1 0 12), .int x1] [] dX10_days_25 ml_X10_156 mf_X2_pass mv_X2_pass sh_8 rfl rfl rfl w (fun r3 h4 w => ?_)
    show Ru mX10_days none d 28 [.ref 0, .int x1] [] h4 Z
    refine st_aload_n dX10_days_28 rfl ?_
    refine st_getF (q := 8) fl_X10_44 fk_10_5 rfl dX10_days_29 sh_0 ?_
    refine st_getI fl_X10_160 fk_2_1 dX10_days_32 sh_8 ?_
    exact st_ireturn rfl rfl dX10_days_35 w
  · replace w := w.2 c
    refine st_iconst (v := (-1)) dX10_days_10 (by decide) ?_
    exact st_ireturn rfl rfl dX10_days_11 w
set_option maxRecDepth 20000 in
set_option maxHeartbeats 2000000 in
theorem sX10_tried_0 {d : Nat} {h : am_H} {Z : Int32 → am_H → Prop} {x1 : Int32} {x2 : Int32} (hd : 2 ≤ d) (w : (¬ ((1 : Int32) ≤ x1 ∧ x1 ≤ (100 : Int32)) → Z (-1) h) ∧ ((1 : Int32) ≤ x1 ∧ x1 ≤ (100 : Int32) → am_cl mX10_canBeTried d [.ref 0, .int x2] h (fun r1 h2 => (¬ r1 = 0 → (am_bu (h2.2.1 0 10) ∧ (am_cl mX0_copyFrom d [.ref 20, .ref (h2.2.1 0 10)] h2 (fun r4 h5 => (am_la (h5.2.1 0 12) ∧ (am_cl mX2_pass d [.ref 8, .ref 20, .ref (h5.2.1 0 12), .int x1] h5 (fun r7 h8 => (x2 < 30 → (x2 < 10 → (x2 = 0 → Z (h8.1 8 1) h8) ∧ (¬ x2 = 0 → (x2 = 1 → Z (h8.1 8 2) h8) ∧ (¬ x2 = 1 → (x2 = 2 → am_cl mX0_bitsOut d [.ref 20] h8 (fun r11 h12 => Z r11 h12)) ∧ (¬ x2 = 2 → am_cl mX0_bitsRead d [.ref 20] h8 (fun r9 h10 => Z r9 h10))))) ∧ (¬ (x2 < 10) → (vp_in (x2 - 10) 12 ∧ (Z (h8.2.2 22 (x2 - 10).toNatClampNeg) h8)))) ∧ (¬ (x2 < 30) → (vp_in (x2 - 30) 24 ∧ (Z (h8.2.2 26 (x2 - 30).toNatClampNeg) h8)))))))))) ∧ (r1 = 0 → Z (-1) h2)))) : Ru mX10_tried none d 0 [.ref 0, .int x1, .int x2] [] h Z := by
  refine st_iload_n dX10_tried_0 rfl ?_
  refine st_iconst (v := 1) dX10_tried_1 (by decide) ?_
  refine st_bipush (v := 100) dX10_tried_2 (by decide) ?_
  refine st_callS (M' := mX10_isFromTo) [.int x1, .int 1, .int 100] [] dX10_tried_4 ml_X10_135 mf_X10_isFromTo ms_X10_isFromTo rfl rfl rfl (K := fun r h' => (am_b ((1 : Int32) ≤ x1 ∧ x1 ≤ (100 : Int32))) = r ∧ h = h') ⟨1, by omega, iX10_isFromTo ⟨rfl, rfl⟩⟩ (fun r1 h1 w1 => ?_)
  obtain ⟨rfl, rfl⟩ := w1
  show Ru mX10_tried none d 7 [.ref 0, .int x1, .int x2] [.int (am_b ((1 : Int32) ≤ x1 ∧ x1 ≤ (100 : Int32)))] h Z
  refine st_ifb_eq (tgt := 18) dX10_tried_7 (by decide) (fun c => ?_) (fun c => ?_)
  · replace w := w.1 c
    refine st_iconst (v := (-1)) dX10_tried_18 (by decide) ?_
    exact st_ireturn rfl rfl dX10_tried_19 w
  · replace w := w.2 c
    refine st_aload_n dX10_tried_10 rfl ?_
    refine st_iload_n dX10_tried_11 rfl ?_
    refine st_callV (M' := mX10_canBeTried) [.int x2] [] dX10_tried_12 ml_X10_163 mf_X10_canBeTried mv_X10_canBeTried sh_0 rfl rfl rfl w (fun r1 h2 w => ?_)
    show Ru mX10_tried none d 15 [.ref 0, .int x1, .int x2] [.int r1] h2 Z
    refine st_if_ne (tgt := 20) dX10_tried_15 (by decide) (fun c => ?_) (fun c => ?_)
    · replace w := w.1 c
      refine st_aload_n dX10_tried_20 rfl ?_
      refine st_getF (q := 20) fl_X10_65 fk_10_8 rfl dX10_tried_21 sh_0 ?_
      refine st_aload_n dX10_tried_24 rfl ?_
      refine st_getP fl_X10_72 fk_10_10 dX10_tried_25 sh_0 ?_
      have hc3 := w.1
      replace w := w.2
      refine st_callV (M' := mX0_copyFrom) [.ref (h2.2.1 0 10)] [] dX10_tried_28 ml_X10_166 mf_X0_copyFrom mv_X0_copyFrom sh_20 rfl rfl rfl w (fun r4 h5 w => ?_)
      show Ru mX10_tried none d 31 [.ref 0, .int x1, .int x2] [] h5 Z
      refine st_aload_n dX10_tried_31 rfl ?_
      refine st_getF (q := 8) fl_X10_44 fk_10_5 rfl dX10_tried_32 sh_0 ?_
      refine st_aload_n dX10_tried_35 rfl ?_
      refine st_getF (q := 20) fl_X10_65 fk_10_8 rfl dX10_tried_36 sh_0 ?_
      refine st_aload_n dX10_tried_39 rfl ?_
      refine st_getP fl_X10_81 fk_10_12 dX10_tried_40 sh_0 ?_
      have hc6 := w.1
      replace w := w.2
      refine st_iload_n dX10_tried_43 rfl ?_
      refine st_callV (M' := mX2_pass) [.ref 20, .ref (h5.2.1 0 12), .int x1] [] dX10_tried_44 ml_X10_156 mf_X2_pass mv_X2_pass sh_8 rfl rfl rfl w (fun r7 h8 w => ?_)
      show Ru mX10_tried none d 47 [.ref 0, .int x1, .int x2] [] h8 Z
      refine st_iload_n dX10_tried_47 rfl ?_
      refine st_bipush (v := 30) dX10_tried_48 (by decide) ?_
      refine st_icmp_lt (tgt := 66) dX10_tried_50 (by decide) (fun c => ?_) (fun c => ?_)
      · replace w := w.1 c
        refine st_iload_n dX10_tried_66 rfl ?_
        refine st_bipush (v := 10) dX10_tried_67 (by decide) ?_
        refine st_icmp_lt (tgt := 85) dX10_tried_69 (by decide) (fun c => ?_) (fun c => ?_)
        · replace w := w.1 c
          refine st_iload_n dX10_tried_85 rfl ?_
          by_cases c0 : x2 = 0
          · replace w := w.1 c0
            refine st_tableIn (off := 26) (tgt := 112) dX10_tried_86 (by rw [c0]; decide) (by rw [c0]; decide) (by rw [c0]; decide) (by decide) ?_
            refine st_aload_n dX10_tried_112 rfl ?_
            refine st_getF (q := 8) fl_X10_44 fk_10_5 rfl dX10_tried_113 sh_0 ?_
            refine st_getI fl_X10_160 fk_2_1 dX10_tried_116 sh_8 ?_
            exact st_ireturn rfl rfl dX10_tried_119 w
          · replace w := w.2 c0
            by_cases c1 : x2 = 1
            · replace w := w.1 c1
              refine st_tableIn (off := 34) (tgt := 120) dX10_tried_86 (by rw [c1]; decide) (by rw [c1]; decide) (by rw [c1]; decide) (by decide) ?_
              refine st_aload_n dX10_tried_120 rfl ?_
              refine st_getF (q := 8) fl_X10_44 fk_10_5 rfl dX10_tried_121 sh_0 ?_
              refine st_getI fl_X10_172 fk_2_2 dX10_tried_124 sh_8 ?_
              exact st_ireturn rfl rfl dX10_tried_127 w
            · replace w := w.2 c1
              by_cases c2 : x2 = 2
              · replace w := w.1 c2
                refine st_tableIn (off := 42) (tgt := 128) dX10_tried_86 (by rw [c2]; decide) (by rw [c2]; decide) (by rw [c2]; decide) (by decide) ?_
                refine st_aload_n dX10_tried_128 rfl ?_
                refine st_getF (q := 20) fl_X10_65 fk_10_8 rfl dX10_tried_129 sh_0 ?_
                refine st_callV (M' := mX0_bitsOut) [] [] dX10_tried_132 ml_X10_175 mf_X0_bitsOut mv_X0_bitsOut sh_20 rfl rfl rfl w (fun r11 h12 w => ?_)
                show Ru mX10_tried none d 135 [.ref 0, .int x1, .int x2] [.int r11] h12 Z
                exact st_ireturn rfl rfl dX10_tried_135 w
              · replace w := w.2 c2
                refine st_tableOut (tgt := 136) dX10_tried_86 (am_tout (lo := 0) (hi := 2) (fun v hv1 hv2 hv => ?_)) (by decide) ?_
                · have hq : v = 0 ∨ v = 1 ∨ v = 2 := by omega
                  rcases hq with rfl | rfl | rfl
                  · exact c0 (am_toI hv (by decide))
                  · exact c1 (am_toI hv (by decide))
                  · exact c2 (am_toI hv (by decide))
                · refine st_aload_n dX10_tried_136 rfl ?_
                  refine st_getF (q := 20) fl_X10_65 fk_10_8 rfl dX10_tried_137 sh_0 ?_
                  refine st_callV (M' := mX0_bitsRead) [] [] dX10_tried_140 ml_X10_179 mf_X0_bitsRead mv_X0_bitsRead sh_20 rfl rfl rfl w (fun r9 h10 w => ?_)
                  show Ru mX10_tried none d 143 [.ref 0, .int x1, .int x2] [.int r9] h10 Z
                  exact st_ireturn rfl rfl dX10_tried_143 w
        · replace w := w.2 c
          refine st_aload_n dX10_tried_72 rfl ?_
          refine st_getF (q := 20) fl_X10_65 fk_10_8 rfl dX10_tried_73 sh_0 ?_
          refine st_getF (q := 22) fl_X10_169 fk_0_1 rfl dX10_tried_76 sh_20 ?_
          refine st_iload_n dX10_tried_79 rfl ?_
          refine st_bipush (v := 10) dX10_tried_80 (by decide) ?_
          refine st_isub dX10_tried_82 ?_
          have hc13 := w.1
          replace w := w.2
          refine st_iald dX10_tried_83 sh_22 hc13 ?_
          exact st_ireturn rfl rfl dX10_tried_84 w
      · replace w := w.2 c
        refine st_aload_n dX10_tried_53 rfl ?_
        refine st_getF (q := 20) fl_X10_65 fk_10_8 rfl dX10_tried_54 sh_0 ?_
        refine st_getF (q := 26) fl_X10_112 fk_0_5 rfl dX10_tried_57 sh_20 ?_
        refine st_iload_n dX10_tried_60 rfl ?_
        refine st_bipush (v := 30) dX10_tried_61 (by decide) ?_
        refine st_isub dX10_tried_63 ?_
        have hc14 := w.1
        replace w := w.2
        refine st_iald dX10_tried_64 sh_26 hc14 ?_
        exact st_ireturn rfl rfl dX10_tried_65 w
    · replace w := w.2 c
      refine st_iconst (v := (-1)) dX10_tried_18 (by decide) ?_
      exact st_ireturn rfl rfl dX10_tried_19 w
set_option maxRecDepth 20000 in
set_option maxHeartbeats 2000000 in
theorem sX10_canBeTried_0 {d : Nat} {h : am_H} {Z : Int32 → am_H → Prop} {x1 : Int32} (hd : 2 ≤ d) (w : (¬ ((0 : Int32) ≤ x1 ∧ x1 ≤ (3 : Int32)) → (¬ ((10 : Int32) ≤ x1 ∧ x1 ≤ (21 : Int32)) → (¬ ((30 : Int32) ≤ x1 ∧ x1 ≤ (53 : Int32)) → Z 0 h) ∧ ((30 : Int32) ≤ x1 ∧ x1 ≤ (53 : Int32) → (am_bu (h.2.1 0 10) ∧ ((¬ (am_pap h (h.2.1 0 10) (x1 - 30)) → Z 0 h) ∧ (am_pap h (h.2.1 0 10) (x1 - 30) → Z 1 h))))) ∧ ((10 : Int32) ≤ x1 ∧ x1 ≤ (21 : Int32) → (am_bu (h.2.1 0 10) ∧ (Z (am_b (am_told h (h.2.1 0 10) (x1 - 10))) h)))) ∧ ((0 : Int32) ≤ x1 ∧ x1 ≤ (3 : Int32) → Z 1 h)) : Ru mX10_canBeTried none d 0 [.ref 0, .int x1] [] h Z := by
  refine st_iload_n dX10_canBeTried_0 rfl ?_
  refine st_iconst (v := 0) dX10_canBeTried_1 (by decide) ?_
  refine st_iconst (v := 3) dX10_canBeTried_2 (by decide) ?_
  refine st_callS (M' := mX10_isFromTo) [.int x1, .int 0, .int 3] [] dX10_canBeTried_3 ml_X10_135 mf_X10_isFromTo ms_X10_isFromTo rfl rfl rfl (K := fun r h' => (am_b ((0 : Int32) ≤ x1 ∧ x1 ≤ (3 : Int32))) = r ∧ h = h') ⟨1, by omega, iX10_isFromTo ⟨rfl, rfl⟩⟩ (fun r1 h1 w1 => ?_)
  obtain ⟨rfl, rfl⟩ := w1
  show Ru mX10_canBeTried none d 6 [.ref 0, .int x1] [.int (am_b ((0 : Int32) ≤ x1 ∧ x1 ≤ (3 : Int32)))] h Z
  refine st_ifb_eq (tgt := 11) dX10_canBeTried_6 (by decide) (fun c => ?_) (fun c => ?_)
  · replace w := w.1 c
    refine st_iload_n dX10_canBeTried_11 rfl ?_
    refine st_bipush (v := 10) dX10_canBeTried_12 (by decide) ?_
    refine st_bipush (v := 21) dX10_canBeTried_14 (by decide) ?_
    refine st_callS (M' := mX10_isFromTo) [.int x1, .int 10, .int 21] [] dX10_canBeTried_16 ml_X10_135 mf_X10_isFromTo ms_X10_isFromTo rfl rfl rfl (K := fun r h' => (am_b ((10 : Int32) ≤ x1 ∧ x1 ≤ (21 : Int32))) = r ∧ h = h') ⟨1, by omega, iX10_isFromTo ⟨rfl, rfl⟩⟩ (fun r1 h1 w1 => ?_)
    obtain ⟨rfl, rfl⟩ := w1
    show Ru mX10_canBeTried none d 19 [.ref 0, .int x1] [.int (am_b ((10 : Int32) ≤ x1 ∧ x1 ≤ (21 : Int32)))] h Z
    refine st_ifb_eq (tgt := 34) dX10_canBeTried_19 (by decide) (fun c => ?_) (fun c => ?_)
    · replace w := w.1 c
      refine st_iload_n dX10_canBeTried_34 rfl ?_
      refine st_bipush (v := 30) dX10_canBeTried_35 (by decide) ?_
      refine st_bipush (v := 53) dX10_canBeTried_37 (by decide) ?_
      refine st_callS (M' := mX10_isFromTo) [.int x1, .int 30, .int 53] [] dX10_canBeTried_39 ml_X10_135 mf_X10_isFromTo ms_X10_isFromTo rfl rfl rfl (K := fun r h' => (am_b ((30 : Int32) ≤ x1 ∧ x1 ≤ (53 : Int32))) = r ∧ h = h') ⟨1, by omega, iX10_isFromTo ⟨rfl, rfl⟩⟩ (fun r1 h1 w1 => ?_)
      obtain ⟨rfl, rfl⟩ := w1
      show Ru mX10_canBeTried none d 42 [.ref 0, .int x1] [.int (am_b ((30 : Int32) ≤ x1 ∧ x1 ≤ (53 : Int32)))] h Z
      refine st_ifb_eq (tgt := 63) dX10_canBeTried_42 (by decide) (fun c => ?_) (fun c => ?_)
      · replace w := w.1 c
        refine st_iconst (v := 0) dX10_canBeTried_63 (by decide) ?_
        exact st_ireturn rfl rfl dX10_canBeTried_64 w
      · replace w := w.2 c
        refine st_aload_n dX10_canBeTried_45 rfl ?_
        refine st_getP fl_X10_72 fk_10_10 dX10_canBeTried_46 sh_0 ?_
        have hc1 := w.1
        replace w := w.2
        refine st_iload_n dX10_canBeTried_49 rfl ?_
        refine st_bipush (v := 30) dX10_canBeTried_50 (by decide) ?_
        refine st_isub dX10_canBeTried_52 ?_
        refine st_callV (M' := mX0_hasPaper) [.int (x1 - 30)] [] dX10_canBeTried_53 ml_X10_101 mf_X0_hasPaper mv_X0_hasPaper (bu_0 hc1) rfl rfl rfl (K := fun r h' => (am_b (am_pap h (h.2.1 0 10) (x1 - 30))) = r ∧ h = h') ⟨1, by omega, iX0_hasPaper hc1 ⟨rfl, rfl⟩⟩ (fun r1 h1 w1 => ?_)
        obtain ⟨rfl, rfl⟩ := w1
        show Ru mX10_canBeTried none d 56 [.ref 0, .int x1] [.int (am_b (am_pap h (h.2.1 0 10) (x1 - 30)))] h Z
        refine st_ifb_eq (tgt := 63) dX10_canBeTried_56 (by decide) (fun c => ?_) (fun c => ?_)
        · replace w := w.1 c
          refine st_iconst (v := 0) dX10_canBeTried_63 (by decide) ?_
          exact st_ireturn rfl rfl dX10_canBeTried_64 w
        · replace w := w.2 c
          refine st_iconst (v := 1) dX10_canBeTried_59 (by decide) ?_
          refine st_goto (tgt := 64) dX10_canBeTried_60 (by decide) ?_
          exact st_ireturn rfl rfl dX10_canBeTried_64 w
    · replace w := w.2 c
      refine st_aload_n dX10_canBeTried_22 rfl ?_
      refine st_getP fl_X10_72 fk_10_10 dX10_canBeTried_23 sh_0 ?_
      have hc2 := w.1
      replace w := w.2
      refine st_iload_n dX10_canBeTried_26 rfl ?_
      refine st_bipush (v := 10) dX10_canBeTried_27 (by decide) ?_
      refine st_isub dX10_canBeTried_29 ?_
      refine st_callV (M' := mX0_isTold) [.int (x1 - 10)] [] dX10_canBeTried_30 ml_X10_109 mf_X0_isTold mv_X0_isTold (bu_0 hc2) rfl rfl rfl (K := fun r h' => (am_b (am_told h (h.2.1 0 10) (x1 - 10))) = r ∧ h = h') ⟨1, by omega, iX0_isTold hc2 ⟨rfl, rfl⟩⟩ (fun r1 h1 w1 => ?_)
      obtain ⟨rfl, rfl⟩ := w1
      show Ru mX10_canBeTried none d 33 [.ref 0, .int x1] [.int (am_b (am_told h (h.2.1 0 10) (x1 - 10)))] h Z
      exact st_ireturn rfl (am_nbc _) dX10_canBeTried_33 w
  · replace w := w.2 c
    refine st_iconst (v := 1) dX10_canBeTried_9 (by decide) ?_
    exact st_ireturn rfl rfl dX10_canBeTried_10 w
set_option maxRecDepth 20000 in
set_option maxHeartbeats 2000000 in
theorem sX10_shut_0 {d : Nat} {h : am_H} {Z : Int32 → am_H → Prop} {x1 : Int32} (hd : 2 ≤ d) (w : ((1 : Int32) ≤ x1 ∧ x1 ≤ (100 : Int32) → (am_bu (h.2.1 0 10) ∧ (am_cl mX0_copyFrom d [.ref 20, .ref (h.2.1 0 10)] h (fun r2 h3 => Ru mX10_shut none d 25 [.ref 0, .int x1, .int 0] [] h3 Z)))) ∧ (¬ ((1 : Int32) ≤ x1 ∧ x1 ≤ (100 : Int32)) → Z (-1) h)) : Ru mX10_shut none d 0 [.ref 0, .int x1, .null] [] h Z := by
  refine st_iload_n dX10_shut_0 rfl ?_
  refine st_iconst (v := 1) dX10_shut_1 (by decide) ?_
  refine st_bipush (v := 100) dX10_shut_2 (by decide) ?_
  refine st_callS (M' := mX10_isFromTo) [.int x1, .int 1, .int 100] [] dX10_shut_4 ml_X10_135 mf_X10_isFromTo ms_X10_isFromTo rfl rfl rfl (K := fun r h' => (am_b ((1 : Int32) ≤ x1 ∧ x1 ≤ (100 : Int32))) = r ∧ h = h') ⟨1, by omega, iX10_isFromTo ⟨rfl, rfl⟩⟩ (fun r1 h1 w1 => ?_)
  obtain ⟨rfl, rfl⟩ := w1
  show Ru mX10_shut none d 7 [.ref 0, .int x1, .null] [.int (am_b ((1 : Int32) ≤ x1 ∧ x1 ≤ (100 : Int32)))] h Z
  refine st_ifb_ne (tgt := 12) dX10_shut_7 (by decide) (fun c => ?_) (fun c => ?_)
  · replace w := w.1 c
    refine st_aload_n dX10_shut_12 rfl ?_
    refine st_getF (q := 20) fl_X10_65 fk_10_8 rfl dX10_shut_13 sh_0 ?_
    refine st_aload_n dX10_shut_16 rfl ?_
    refine st_getP fl_X10_72 fk_10_10 dX10_shut_17 sh_0 ?_
    have hc1 := w.1
    replace w := w.2
    refine st_callV (M' := mX0_copyFrom) [.ref (h.2.1 0 10)] [] dX10_shut_20 ml_X10_166 mf_X0_copyFrom mv_X0_copyFrom sh_20 rfl rfl rfl w (fun r2 h3 w => ?_)
    show Ru mX10_shut none d 23 [.ref 0, .int x1, .null] [] h3 Z
    refine st_iconst (v := 0) dX10_shut_23 (by decide) ?_
    refine st_istore_n (L' := [.ref 0, .int x1, .int 0]) dX10_shut_24 (by decide) rfl ?_
    exact w
  · replace w := w.2 c
    refine st_iconst (v := (-1)) dX10_shut_10 (by decide) ?_
    exact st_ireturn rfl rfl dX10_shut_11 w
set_option maxRecDepth 20000 in
set_option maxHeartbeats 2000000 in
theorem sX10_shut_25 {d : Nat} {h : am_H} {Z : Int32 → am_H → Prop} {x1 : Int32} {x2 : Int32} (w : (x1 ≤ x2 → am_cl mX0_bitsOut d [.ref 20] h (fun r1 h2 => (¬ r1 = 0 → Z (-2) h2) ∧ (r1 = 0 → Z x1 h2))) ∧ (¬ (x1 ≤ x2) → am_cl mX0_bitsOut d [.ref 20] h (fun r3 h4 => (¬ r3 = 0 → (am_la (h4.2.1 0 12) ∧ (am_cl mX2_pass d [.ref 8, .ref 20, .ref (h4.2.1 0 12), .int 1] h4 (fun r6 h7 => Ru mX10_shut none d 25 [.ref 0, .int x1, .int (x2 + 1)] [] h7 Z)))) ∧ (r3 = 0 → Z x2 h4)))) : Ru mX10_shut none d 25 [.ref 0, .int x1, .int x2] [] h Z := by
  refine st_iload_n dX10_shut_25 rfl ?_
  refine st_iload_n dX10_shut_26 rfl ?_
  refine st_icmp_ge (tgt := 64) dX10_shut_27 (by decide) (fun c => ?_) (fun c => ?_)
  · replace w := w.1 c
    refine st_aload_n dX10_shut_64 rfl ?_
    refine st_getF (q := 20) fl_X10_65 fk_10_8 rfl dX10_shut_65 sh_0 ?_
    refine st_callV (M' := mX0_bitsOut) [] [] dX10_shut_68 ml_X10_175 mf_X0_bitsOut mv_X0_bitsOut sh_20 rfl rfl rfl w (fun r1 h2 w => ?_)
    show Ru mX10_shut none d 71 [.ref 0, .int x1, .int x2] [.int r1] h2 Z
    refine st_if_ne (tgt := 78) dX10_shut_71 (by decide) (fun c => ?_) (fun c => ?_)
    · replace w := w.1 c
      refine st_bipush (v := (-2)) dX10_shut_78 (by decide) ?_
      exact st_ireturn rfl rfl dX10_shut_80 w
    · replace w := w.2 c
      refine st_iload_n dX10_shut_74 rfl ?_
      refine st_goto (tgt := 80) dX10_shut_75 (by decide) ?_
      exact st_ireturn rfl rfl dX10_shut_80 w
  · replace w := w.2 c
    refine st_aload_n dX10_shut_30 rfl ?_
    refine st_getF (q := 20) fl_X10_65 fk_10_8 rfl dX10_shut_31 sh_0 ?_
    refine st_callV (M' := mX0_bitsOut) [] [] dX10_shut_34 ml_X10_175 mf_X0_bitsOut mv_X0_bitsOut sh_20 rfl rfl rfl w (fun r3 h4 w => ?_)
    show Ru mX10_shut none d 37 [.ref 0, .int x1, .int x2] [.int r3] h4 Z
    refine st_if_ne (tgt := 42) dX10_shut_37 (by decide) (fun c => ?_) (fun c => ?_)
    · replace w := w.1 c
      refine st_aload_n dX10_shut_42 rfl ?_
      refine st_getF (q := 8) fl_X10_44 fk_10_5 rfl dX10_shut_43 sh_0 ?_
      refine st_aload_n dX10_shut_46 rfl ?_
      refine st_getF (q := 20) fl_X10_65 fk_10_8 rfl dX10_shut_47 sh_0 ?_
      refine st_aload_n dX10_shut_50 rfl ?_
      refine st_getP fl_X10_81 fk_10_12 dX10_shut_51 sh_0 ?_
      have hc5 := w.1
      replace w := w.2
      refine st_iconst (v := 1) dX10_shut_54 (by decide) ?_
      refine st_callV (M' := mX2_pass) [.ref 20, .ref (h4.2.1 0 12), .int 1] [] dX10_shut_55 ml_X10_156 mf_X2_pass mv_X2_pass sh_8 rfl rfl rfl w (fun r6 h7 w => ?_)
      show Ru mX10_shut none d 58 [.ref 0, .int x1, .int x2] [] h7 Z
      refine st_iinc (L' := [.ref 0, .int x1, .int (x2 + 1)]) dX10_shut_58 rfl rfl (by decide) rfl ?_
      refine st_goto (tgt := 25) dX10_shut_61 (by decide) ?_
      exact w
    · replace w := w.2 c
      refine st_iload_n dX10_shut_40 rfl ?_
      exact st_ireturn rfl rfl dX10_shut_41 w
set_option maxRecDepth 20000 in
set_option maxHeartbeats 2000000 in
theorem sX11_days_0 {d : Nat} {h : am_H} {Z : Int32 → am_H → Prop} {x1 : Int32} (hd : 2 ≤ d) (w : ((1 : Int32) ≤ x1 ∧ x1 ≤ (100 : Int32) → am_cl mX11_daysGo d [.ref 73, .int x1] h (fun r1 h2 => Z (h2.1 73 40) h2)) ∧ (¬ ((1 : Int32) ≤ x1 ∧ x1 ≤ (100 : Int32)) → Z (-1) h)) : Ru mX11_days none d 0 [.ref 73, .int x1] [] h Z := by
  refine st_iload_n dX11_days_0 rfl ?_
  refine st_iconst (v := 1) dX11_days_1 (by decide) ?_
  refine st_bipush (v := 100) dX11_days_2 (by decide) ?_
  refine st_callS (M' := mX11_in) [.int x1, .int 1, .int 100] [] dX11_days_4 ml_X11_125 mf_X11_in ms_X11_in rfl rfl rfl (K := fun r h' => (am_b ((1 : Int32) ≤ x1 ∧ x1 ≤ (100 : Int32))) = r ∧ h = h') ⟨1, by omega, iX11_in ⟨rfl, rfl⟩⟩ (fun r1 h1 w1 => ?_)
  obtain ⟨rfl, rfl⟩ := w1
  show Ru mX11_days none d 7 [.ref 73, .int x1] [.int (am_b ((1 : Int32) ≤ x1 ∧ x1 ≤ (100 : Int32)))] h Z
  refine st_ifb_ne (tgt := 12) dX11_days_7 (by decide) (fun c => ?_) (fun c => ?_)
  · replace w := w.1 c
    refine st_aload_n dX11_days_12 rfl ?_
    refine st_iload_n dX11_days_13 rfl ?_
    refine st_callV (M' := mX11_daysGo) [.int x1] [] dX11_days_14 ml_X11_329 mf_X11_daysGo mv_X11_daysGo sh_73 rfl rfl rfl w (fun r1 h2 w => ?_)
    show Ru mX11_days none d 17 [.ref 73, .int x1] [] h2 Z
    refine st_aload_n dX11_days_17 rfl ?_
    refine st_getI fl_X11_305 fk_11_40 dX11_days_18 sh_73 ?_
    exact st_ireturn rfl rfl dX11_days_21 w
  · replace w := w.2 c
    refine st_iconst (v := (-1)) dX11_days_10 (by decide) ?_
    exact st_ireturn rfl rfl dX11_days_11 w
set_option maxRecDepth 20000 in
set_option maxHeartbeats 2000000 in
theorem sX11_tried_0 {d : Nat} {h : am_H} {Z : Int32 → am_H → Prop} {x1 : Int32} {x2 : Int32} (hd : 3 ≤ d) (w : (¬ ((1 : Int32) ≤ x1 ∧ x1 ≤ (100 : Int32)) → Z (-1) h) ∧ ((1 : Int32) ≤ x1 ∧ x1 ≤ (100 : Int32) → ((0 : Int32) ≤ x2 ∧ x2 ≤ (3 : Int32) → Ru mX11_tried none d 43 [.ref 73, .int x1, .int x2, .null] [] h Z) ∧ (¬ ((0 : Int32) ≤ x2 ∧ x2 ≤ (3 : Int32)) → (am_mT h (x2 - 10) → Ru mX11_tried none d 43 [.ref 73, .int x1, .int x2, .null] [] h Z) ∧ (¬ (am_mT h (x2 - 10)) → (am_mP h (x2 - 30) → Ru mX11_tried none d 43 [.ref 73, .int x1, .int x2, .null] [] h Z) ∧ (¬ (am_mP h (x2 - 30)) → Z (-1) h))))) : Ru mX11_tried none d 0 [.ref 73, .int x1, .int x2, .null] [] h Z := by
  refine st_iload_n dX11_tried_0 rfl ?_
  refine st_iconst (v := 1) dX11_tried_1 (by decide) ?_
  refine st_bipush (v := 100) dX11_tried_2 (by decide) ?_
  refine st_callS (M' := mX11_in) [.int x1, .int 1, .int 100] [] dX11_tried_4 ml_X11_125 mf_X11_in ms_X11_in rfl rfl rfl (K := fun r h' => (am_b ((1 : Int32) ≤ x1 ∧ x1 ≤ (100 : Int32))) = r ∧ h = h') ⟨1, by omega, iX11_in ⟨rfl, rfl⟩⟩ (fun r1 h1 w1 => ?_)
  obtain ⟨rfl, rfl⟩ := w1
  show Ru mX11_tried none d 7 [.ref 73, .int x1, .int x2, .null] [.int (am_b ((1 : Int32) ≤ x1 ∧ x1 ≤ (100 : Int32)))] h Z
  refine st_ifb_eq (tgt := 41) dX11_tried_7 (by decide) (fun c => ?_) (fun c => ?_)
  · replace w := w.1 c
    refine st_iconst (v := (-1)) dX11_tried_41 (by decide) ?_
    exact st_ireturn rfl rfl dX11_tried_42 w
  · replace w := w.2 c
    refine st_iload_n dX11_tried_10 rfl ?_
    refine st_iconst (v := 0) dX11_tried_11 (by decide) ?_
    refine st_iconst (v := 3) dX11_tried_12 (by decide) ?_
    refine st_callS (M' := mX11_in) [.int x2, .int 0, .int 3] [] dX11_tried_13 ml_X11_125 mf_X11_in ms_X11_in rfl rfl rfl (K := fun r h' => (am_b ((0 : Int32) ≤ x2 ∧ x2 ≤ (3 : Int32))) = r ∧ h = h') ⟨1, by omega, iX11_in ⟨rfl, rfl⟩⟩ (fun r1 h1 w1 => ?_)
    obtain ⟨rfl, rfl⟩ := w1
    show Ru mX11_tried none d 16 [.ref 73, .int x1, .int x2, .null] [.int (am_b ((0 : Int32) ≤ x2 ∧ x2 ≤ (3 : Int32)))] h Z
    refine st_ifb_ne (tgt := 43) dX11_tried_16 (by decide) (fun c => ?_) (fun c => ?_)
    · replace w := w.1 c
      exact w
    · replace w := w.2 c
      refine st_aload_n dX11_tried_19 rfl ?_
      refine st_iload_n dX11_tried_20 rfl ?_
      refine st_bipush (v := 10) dX11_tried_21 (by decide) ?_
      refine st_isub dX11_tried_23 ?_
      refine st_callV (M' := mX11_isDrawer) [.int (x2 - 10)] [] dX11_tried_24 ml_X11_152 mf_X11_isDrawer mv_X11_isDrawer sh_73 rfl rfl rfl (K := fun r h' => (am_b (am_mT h (x2 - 10))) = r ∧ h = h') ⟨2, by omega, iX11_isDrawer (by omega) ⟨rfl, rfl⟩⟩ (fun r1 h1 w1 => ?_)
      obtain ⟨rfl, rfl⟩ := w1
      show Ru mX11_tried none d 27 [.ref 73, .int x1, .int x2, .null] [.int (am_b (am_mT h (x2 - 10)))] h Z
      refine st_ifb_ne (tgt := 43) dX11_tried_27 (by decide) (fun c => ?_) (fun c => ?_)
      · replace w := w.1 c
        exact w
      · replace w := w.2 c
        refine st_aload_n dX11_tried_30 rfl ?_
        refine st_iload_n dX11_tried_31 rfl ?_
        refine st_bipush (v := 30) dX11_tried_32 (by decide) ?_
        refine st_isub dX11_tried_34 ?_
        refine st_callV (M' := mX11_isPaper) [.int (x2 - 30)] [] dX11_tried_35 ml_X11_144 mf_X11_isPaper mv_X11_isPaper sh_73 rfl rfl rfl (K := fun r h' => (am_b (am_mP h (x2 - 30))) = r ∧ h = h') ⟨2, by omega, iX11_isPaper (by omega) ⟨rfl, rfl⟩⟩ (fun r1 h1 w1 => ?_)
        obtain ⟨rfl, rfl⟩ := w1
        show Ru mX11_tried none d 38 [.ref 73, .int x1, .int x2, .null] [.int (am_b (am_mP h (x2 - 30)))] h Z
        refine st_ifb_ne (tgt := 43) dX11_tried_38 (by decide) (fun c => ?_) (fun c => ?_)
        · replace w := w.1 c
          exact w
        · replace w := w.2 c
          refine st_iconst (v := (-1)) dX11_tried_41 (by decide) ?_
          exact st_ireturn rfl rfl dX11_tried_42 w
set_option maxRecDepth 20000 in
set_option maxHeartbeats 2000000 in
theorem sX11_tried_43 {d : Nat} {h : am_H} {Z : Int32 → am_H → Prop} {x1 : Int32} {x2 : Int32} {u3 : Value} (hd : 2 ≤ d) (w : am_cl mX11_copies d [.ref 74, .ref 75] h (fun r1 h2 => am_cl mX11_daysGo d [.ref 73, .int x1] h2 (fun r3 h4 => (x2 = 0 → am_cl mX11_copies d [.ref 75, .ref 74] h4 (fun r22 h23 => Z (h4.1 73 40) h23)) ∧ (¬ x2 = 0 → (x2 = 1 → am_cl mX11_copies d [.ref 75, .ref 74] h4 (fun r20 h21 => Z (h4.1 73 41) h21)) ∧ (¬ x2 = 1 → (x2 = 2 → am_cl mX11_papersIn d [.ref 73, .int (-1)] h4 (fun r16 h17 => am_cl mX11_copies d [.ref 75, .ref 74] h17 (fun r18 h19 => Z r16 h19))) ∧ (¬ x2 = 2 → (x2 = 3 → am_cl mX11_readSet d [.ref 73] h4 (fun r12 h13 => am_cl mX11_copies d [.ref 75, .ref 74] h13 (fun r14 h15 => Z r12 h15))) ∧ (¬ x2 = 3 → (30 ≤ x2 → (vp_in (x2 - 30) 74 ∧ (am_cl mX11_copies d [.ref 75, .ref 74] h4 (fun r6 h7 => Z (if (h4.2.2 74 (x2 - 30).toNatClampNeg) = -1 then -2 else (h4.2.2 74 (x2 - 30).toNatClampNeg)) h7)))) ∧ (¬ (30 ≤ x2) → am_cl mX11_fullOf d [.ref 73, .int (x2 - 10)] h4 (fun r8 h9 => am_cl mX11_copies d [.ref 75, .ref 74] h9 (fun r10 h11 => Z r8 h11)))))))))) : Ru mX11_tried none d 43 [.ref 73, .int x1, .int x2, u3] [] h Z := by
  refine st_aload_n dX11_tried_43 rfl ?_
  refine st_getF (q := 74) fl_X11_7 fk_11_0 rfl dX11_tried_44 sh_73 ?_
  refine st_aload_n dX11_tried_47 rfl ?_
  refine st_getF (q := 75) fl_X11_13 fk_11_1 rfl dX11_tried_48 sh_73 ?_
  refine st_callS (M' := mX11_copies) [.ref 74, .ref 75] [] dX11_tried_51 ml_X11_332 mf_X11_copies ms_X11_copies rfl rfl rfl w (fun r1 h2 w => ?_)
  show Ru mX11_tried none d 54 [.ref 73, .int x1, .int x2, u3] [] h2 Z
  refine st_aload_n dX11_tried_54 rfl ?_
  refine st_iload_n dX11_tried_55 rfl ?_
  refine st_callV (M' := mX11_daysGo) [.int x1] [] dX11_tried_56 ml_X11_329 mf_X11_daysGo mv_X11_daysGo sh_73 rfl rfl rfl w (fun r3 h4 w => ?_)
  show Ru mX11_tried none d 59 [.ref 73, .int x1, .int x2, u3] [] h4 Z
  refine st_iload_n dX11_tried_59 rfl ?_
  by_cases c0 : x2 = 0
  · replace w := w.1 c0
    refine st_tableIn (off := 32) (tgt := 92) dX11_tried_60 (by rw [c0]; decide) (by rw [c0]; decide) (by rw [c0]; decide) (by decide) ?_
    refine st_aload_n dX11_tried_92 rfl ?_
    refine st_getI fl_X11_305 fk_11_40 dX11_tried_93 sh_73 ?_
    refine st_istore_n (L' := [.ref 73, .int x1, .int x2, .int (h4.1 73 40)]) dX11_tried_96 (by decide) rfl ?_
    refine st_goto (tgt := 157) dX11_tried_97 (by decide) ?_
    refine st_aload_n dX11_tried_157 rfl ?_
    refine st_getF (q := 75) fl_X11_13 fk_11_1 rfl dX11_tried_158 sh_73 ?_
    refine st_aload_n dX11_tried_161 rfl ?_
    refine st_getF (q := 74) fl_X11_7 fk_11_0 rfl dX11_tried_162 sh_73 ?_
    refine st_callS (M' := mX11_copies) [.ref 75, .ref 74] [] dX11_tried_165 ml_X11_332 mf_X11_copies ms_X11_copies rfl rfl rfl w (fun r22 h23 w => ?_)
    show Ru mX11_tried none d 168 [.ref 73, .int x1, .int x2, .int (h4.1 73 40)] [] h23 Z
    refine st_iload_n dX11_tried_168 rfl ?_
    exact st_ireturn rfl rfl dX11_tried_169 w
  · replace w := w.2 c0
    by_cases c1 : x2 = 1
    · replace w := w.1 c1
      refine st_tableIn (off := 40) (tgt := 100) dX11_tried_60 (by rw [c1]; decide) (by rw [c1]; decide) (by rw [c1]; decide) (by decide) ?_
      refine st_aload_n dX11_tried_100 rfl ?_
      refine st_getI fl_X11_311 fk_11_41 dX11_tried_101 sh_73 ?_
      refine st_istore_n (L' := [.ref 73, .int x1, .int x2, .int (h4.1 73 41)]) dX11_tried_104 (by decide) rfl ?_
      refine st_goto (tgt := 157) dX11_tried_105 (by decide) ?_
      refine st_aload_n dX11_tried_157 rfl ?_
      refine st_getF (q := 75) fl_X11_13 fk_11_1 rfl dX11_tried_158 sh_73 ?_
      refine st_aload_n dX11_tried_161 rfl ?_
      refine st_getF (q := 74) fl_X11_7 fk_11_0 rfl dX11_tried_162 sh_73 ?_
      refine st_callS (M' := mX11_copies) [.ref 75, .ref 74] [] dX11_tried_165 ml_X11_332 mf_X11_copies ms_X11_copies rfl rfl rfl w (fun r20 h21 w => ?_)
      show Ru mX11_tried none d 168 [.ref 73, .int x1, .int x2, .int (h4.1 73 41)] [] h21 Z
      refine st_iload_n dX11_tried_168 rfl ?_
      exact st_ireturn rfl rfl dX11_tried_169 w
    · replace w := w.2 c1
      by_cases c2 : x2 = 2
      · replace w := w.1 c2
        refine st_tableIn (off := 48) (tgt := 108) dX11_tried_60 (by rw [c2]; decide) (by rw [c2]; decide) (by rw [c2]; decide) (by decide) ?_
        refine st_aload_n dX11_tried_108 rfl ?_
        refine st_iconst (v := (-1)) dX11_tried_109 (by decide) ?_
        refine st_callV (M' := mX11_papersIn) [.int (-1)] [] dX11_tried_110 ml_X11_286 mf_X11_papersIn mv_X11_papersIn sh_73 rfl rfl rfl w (fun r16 h17 w => ?_)
        show Ru mX11_tried none d 113 [.ref 73, .int x1, .int x2, u3] [.int r16] h17 Z
        refine st_istore_n (L' := [.ref 73, .int x1, .int x2, .int r16]) dX11_tried_113 (by decide) rfl ?_
        refine st_goto (tgt := 157) dX11_tried_114 (by decide) ?_
        refine st_aload_n dX11_tried_157 rfl ?_
        refine st_getF (q := 75) fl_X11_13 fk_11_1 rfl dX11_tried_158 sh_73 ?_
        refine st_aload_n dX11_tried_161 rfl ?_
        refine st_getF (q := 74) fl_X11_7 fk_11_0 rfl dX11_tried_162 sh_73 ?_
        refine st_callS (M' := mX11_copies) [.ref 75, .ref 74] [] dX11_tried_165 ml_X11_332 mf_X11_copies ms_X11_copies rfl rfl rfl w (fun r18 h19 w => ?_)
        show Ru mX11_tried none d 168 [.ref 73, .int x1, .int x2, .int r16] [] h19 Z
        refine st_iload_n dX11_tried_168 rfl ?_
        exact st_ireturn rfl rfl dX11_tried_169 w
      · replace w := w.2 c2
        by_cases c3 : x2 = 3
        · replace w := w.1 c3
          refine st_tableIn (off := 57) (tgt := 117) dX11_tried_60 (by rw [c3]; decide) (by rw [c3]; decide) (by rw [c3]; decide) (by decide) ?_
          refine st_aload_n dX11_tried_117 rfl ?_
          refine st_callV (M' := mX11_readSet) [] [] dX11_tried_118 ml_X11_336 mf_X11_readSet mv_X11_readSet sh_73 rfl rfl rfl w (fun r12 h13 w => ?_)
          show Ru mX11_tried none d 121 [.ref 73, .int x1, .int x2, u3] [.int r12] h13 Z
          refine st_istore_n (L' := [.ref 73, .int x1, .int x2, .int r12]) dX11_tried_121 (by decide) rfl ?_
          refine st_goto (tgt := 157) dX11_tried_122 (by decide) ?_
          refine st_aload_n dX11_tried_157 rfl ?_
          refine st_getF (q := 75) fl_X11_13 fk_11_1 rfl dX11_tried_158 sh_73 ?_
          refine st_aload_n dX11_tried_161 rfl ?_
          refine st_getF (q := 74) fl_X11_7 fk_11_0 rfl dX11_tried_162 sh_73 ?_
          refine st_callS (M' := mX11_copies) [.ref 75, .ref 74] [] dX11_tried_165 ml_X11_332 mf_X11_copies ms_X11_copies rfl rfl rfl w (fun r14 h15 w => ?_)
          show Ru mX11_tried none d 168 [.ref 73, .int x1, .int x2, .int r12] [] h15 Z
          refine st_iload_n dX11_tried_168 rfl ?_
          exact st_ireturn rfl rfl dX11_tried_169 w
        · replace w := w.2 c3
          refine st_tableOut (tgt := 125) dX11_tried_60 (am_tout (lo := 0) (hi := 3) (fun v hv1 hv2 hv => ?_)) (by decide) ?_
          · have hq : v = 0 ∨ v = 1 ∨ v = 2 ∨ v = 3 := by omega
            rcases hq with rfl | rfl | rfl | rfl
            · exact c0 (am_toI hv (by decide))
            · exact c1 (am_toI hv (by decide))
            · exact c2 (am_toI hv (by decide))
            · exact c3 (am_toI hv (by decide))
          · refine st_iload_n dX11_tried_125 rfl ?_
            refine st_bipush (v := 30) dX11_tried_126 (by decide) ?_
            refine st_icmp_ge (tgt := 142) dX11_tried_128 (by decide) (fun c => ?_) (fun c => ?_)
            · replace w := w.1 c
              refine st_aload_n dX11_tried_142 rfl ?_
              refine st_getF (q := 74) fl_X11_7 fk_11_0 rfl dX11_tried_143 sh_73 ?_
              refine st_iconst (v := 0) dX11_tried_146 (by decide) ?_
              refine st_iload_n dX11_tried_147 rfl ?_
              refine st_iadd0 dX11_tried_148 ?_
              refine st_bipush (v := 30) dX11_tried_149 (by decide) ?_
              refine st_isub dX11_tried_151 ?_
              have hc5 := w.1
              replace w := w.2
              refine st_iald dX11_tried_152 sh_74 hc5 ?_
              refine st_callS (M' := mX11_orNone) [.int (h4.2.2 74 (x2 - 30).toNatClampNeg)] [] dX11_tried_153 ml_X11_339 mf_X11_orNone ms_X11_orNone rfl rfl rfl (K := fun r h' => (if (h4.2.2 74 (x2 - 30).toNatClampNeg) = -1 then -2 else (h4.2.2 74 (x2 - 30).toNatClampNeg)) = r ∧ h4 = h') ⟨1, by omega, iX11_orNone ⟨rfl, rfl⟩⟩ (fun r1 h1 w1 => ?_)
              obtain ⟨rfl, rfl⟩ := w1
              show Ru mX11_tried none d 156 [.ref 73, .int x1, .int x2, u3] [.int (if (h4.2.2 74 (x2 - 30).toNatClampNeg) = -1 then -2 else (h4.2.2 74 (x2 - 30).toNatClampNeg))] h4 Z
              refine st_istore_n (L' := [.ref 73, .int x1, .int x2, .int (if (h4.2.2 74 (x2 - 30).toNatClampNeg) = -1 then -2 else (h4.2.2 74 (x2 - 30).toNatClampNeg))]) dX11_tried_156 (by decide) rfl ?_
              refine st_aload_n dX11_tried_157 rfl ?_
              refine st_getF (q := 75) fl_X11_13 fk_11_1 rfl dX11_tried_158 sh_73 ?_
              refine st_aload_n dX11_tried_161 rfl ?_
              refine st_getF (q := 74) fl_X11_7 fk_11_0 rfl dX11_tried_162 sh_73 ?_
              refine st_callS (M' := mX11_copies) [.ref 75, .ref 74] [] dX11_tried_165 ml_X11_332 mf_X11_copies ms_X11_copies rfl rfl rfl w (fun r6 h7 w => ?_)
              show Ru mX11_tried none d 168 [.ref 73, .int x1, .int x2, .int (if (h4.2.2 74 (x2 - 30).toNatClampNeg) = -1 then -2 else (h4.2.2 74 (x2 - 30).toNatClampNeg))] [] h7 Z
              refine st_iload_n dX11_tried_168 rfl ?_
              exact st_ireturn rfl rfl dX11_tried_169 w
            · replace w := w.2 c
              refine st_aload_n dX11_tried_131 rfl ?_
              refine st_iload_n dX11_tried_132 rfl ?_
              refine st_bipush (v := 10) dX11_tried_133 (by decide) ?_
              refine st_isub dX11_tried_135 ?_
              refine st_callV (M' := mX11_fullOf) [.int (x2 - 10)] [] dX11_tried_136 ml_X11_140 mf_X11_fullOf mv_X11_fullOf sh_73 rfl rfl rfl w (fun r8 h9 w => ?_)
              show Ru mX11_tried none d 139 [.ref 73, .int x1, .int x2, u3] [.int r8] h9 Z
              refine st_goto (tgt := 156) dX11_tried_139 (by decide) ?_
              refine st_istore_n (L' := [.ref 73, .int x1, .int x2, .int r8]) dX11_tried_156 (by decide) rfl ?_
              refine st_aload_n dX11_tried_157 rfl ?_
              refine st_getF (q := 75) fl_X11_13 fk_11_1 rfl dX11_tried_158 sh_73 ?_
              refine st_aload_n dX11_tried_161 rfl ?_
              refine st_getF (q := 74) fl_X11_7 fk_11_0 rfl dX11_tried_162 sh_73 ?_
              refine st_callS (M' := mX11_copies) [.ref 75, .ref 74] [] dX11_tried_165 ml_X11_332 mf_X11_copies ms_X11_copies rfl rfl rfl w (fun r10 h11 w => ?_)
              show Ru mX11_tried none d 168 [.ref 73, .int x1, .int x2, .int r8] [] h11 Z
              refine st_iload_n dX11_tried_168 rfl ?_
              exact st_ireturn rfl rfl dX11_tried_169 w
set_option maxRecDepth 20000 in
set_option maxHeartbeats 2000000 in
theorem sX11_shut_0 {d : Nat} {h : am_H} {Z : Int32 → am_H → Prop} {x1 : Int32} (hd : 2 ≤ d) (w : ((1 : Int32) ≤ x1 ∧ x1 ≤ (100 : Int32) → am_cl mX11_copies d [.ref 74, .ref 75] h (fun r1 h2 => Ru mX11_shut none d 25 [.ref 73, .int x1, .int 0, .null] [] h2 Z)) ∧ (¬ ((1 : Int32) ≤ x1 ∧ x1 ≤ (100 : Int32)) → Z (-1) h)) : Ru mX11_shut none d 0 [.ref 73, .int x1, .null, .null] [] h Z := by
  refine st_iload_n dX11_shut_0 rfl ?_
  refine st_iconst (v := 1) dX11_shut_1 (by decide) ?_
  refine st_bipush (v := 100) dX11_shut_2 (by decide) ?_
  refine st_callS (M' := mX11_in) [.int x1, .int 1, .int 100] [] dX11_shut_4 ml_X11_125 mf_X11_in ms_X11_in rfl rfl rfl (K := fun r h' => (am_b ((1 : Int32) ≤ x1 ∧ x1 ≤ (100 : Int32))) = r ∧ h = h') ⟨1, by omega, iX11_in ⟨rfl, rfl⟩⟩ (fun r1 h1 w1 => ?_)
  obtain ⟨rfl, rfl⟩ := w1
  show Ru mX11_shut none d 7 [.ref 73, .int x1, .null, .null] [.int (am_b ((1 : Int32) ≤ x1 ∧ x1 ≤ (100 : Int32)))] h Z
  refine st_ifb_ne (tgt := 12) dX11_shut_7 (by decide) (fun c => ?_) (fun c => ?_)
  · replace w := w.1 c
    refine st_aload_n dX11_shut_12 rfl ?_
    refine st_getF (q := 74) fl_X11_7 fk_11_0 rfl dX11_shut_13 sh_73 ?_
    refine st_aload_n dX11_shut_16 rfl ?_
    refine st_getF (q := 75) fl_X11_13 fk_11_1 rfl dX11_shut_17 sh_73 ?_
    refine st_callS (M' := mX11_copies) [.ref 74, .ref 75] [] dX11_shut_20 ml_X11_332 mf_X11_copies ms_X11_copies rfl rfl rfl w (fun r1 h2 w => ?_)
    show Ru mX11_shut none d 23 [.ref 73, .int x1, .null, .null] [] h2 Z
    refine st_iconst (v := 0) dX11_shut_23 (by decide) ?_
    refine st_istore_n (L' := [.ref 73, .int x1, .int 0, .null]) dX11_shut_24 (by decide) rfl ?_
    exact w
  · replace w := w.2 c
    refine st_iconst (v := (-1)) dX11_shut_10 (by decide) ?_
    exact st_ireturn rfl rfl dX11_shut_11 w
set_option maxRecDepth 20000 in
set_option maxHeartbeats 2000000 in
theorem sX11_shut_25 {d : Nat} {h : am_H} {Z : Int32 → am_H → Prop} {x1 : Int32} {x2 : Int32} {u3 : Value} (w : am_cl mX11_papersIn d [.ref 73, .int (-1)] h (fun r1 h2 => (r1 = 0 → Ru mX11_shut none d 62 [.ref 73, .int x1, .int x2, u3] [] h2 Z) ∧ (¬ (r1 = 0) → (x1 ≤ x2 → Ru mX11_shut none d 62 [.ref 73, .int x1, .int x2, u3] [] h2 Z) ∧ (¬ (x1 ≤ x2) → (9999 ≤ (h2.2.2 74 72) → Ru mX11_shut none d 62 [.ref 73, .int x1, .int x2, u3] [] h2 Z) ∧ (¬ (9999 ≤ (h2.2.2 74 72)) → am_cl mX11_dayGoes d [.ref 73] h2 (fun r3 h4 => Ru mX11_shut none d 25 [.ref 73, .int x1, .int (x2 + 1), u3] [] h4 Z)))))) : Ru mX11_shut none d 25 [.ref 73, .int x1, .int x2, u3] [] h Z := by
  refine st_aload_n dX11_shut_25 rfl ?_
  refine st_iconst (v := (-1)) dX11_shut_26 (by decide) ?_
  refine st_callV (M' := mX11_papersIn) [.int (-1)] [] dX11_shut_27 ml_X11_286 mf_X11_papersIn mv_X11_papersIn sh_73 rfl rfl rfl w (fun r1 h2 w => ?_)
  show Ru mX11_shut none d 30 [.ref 73, .int x1, .int x2, u3] [.int r1] h2 Z
  refine st_if_eq (tgt := 62) dX11_shut_30 (by decide) (fun c => ?_) (fun c => ?_)
  · replace w := w.1 c
    exact w
  · replace w := w.2 c
    refine st_iload_n dX11_shut_33 rfl ?_
    refine st_iload_n dX11_shut_34 rfl ?_
    refine st_icmp_ge (tgt := 62) dX11_shut_35 (by decide) (fun c => ?_) (fun c => ?_)
    · replace w := w.1 c
      exact w
    · replace w := w.2 c
      refine st_aload_n dX11_shut_38 rfl ?_
      refine st_getF (q := 74) fl_X11_7 fk_11_0 rfl dX11_shut_39 sh_73 ?_
      refine st_bipush (v := 72) dX11_shut_42 (by decide) ?_
      refine st_iald dX11_shut_44 sh_74 (by unfold vp_in; decide +kernel) ?_
      show Ru mX11_shut none d 45 [.ref 73, .int x1, .int x2, u3] [.int (h2.2.2 74 72)] h2 Z
      refine st_sipush (v := 9999) dX11_shut_45 (by decide) ?_
      refine st_icmp_ge (tgt := 62) dX11_shut_48 (by decide) (fun c => ?_) (fun c => ?_)
      · replace w := w.1 c
        exact w
      · replace w := w.2 c
        refine st_aload_n dX11_shut_51 rfl ?_
        refine st_callV (M' := mX11_dayGoes) [] [] dX11_shut_52 ml_X11_326 mf_X11_dayGoes mv_X11_dayGoes sh_73 rfl rfl rfl w (fun r3 h4 w => ?_)
        show Ru mX11_shut none d 55 [.ref 73, .int x1, .int x2, u3] [] h4 Z
        refine st_iload_n dX11_shut_55 rfl ?_
        refine st_iconst (v := 1) dX11_shut_56 (by decide) ?_
        refine st_iadd dX11_shut_57 ?_
        refine st_istore_n (L' := [.ref 73, .int x1, .int (x2 + 1), u3]) dX11_shut_58 (by decide) rfl ?_
        refine st_goto (tgt := 25) dX11_shut_59 (by decide) ?_
        exact w
set_option maxRecDepth 20000 in
set_option maxHeartbeats 2000000 in
theorem sX11_shut_62 {d : Nat} {h : am_H} {Z : Int32 → am_H → Prop} {u1 : Value} {x2 : Int32} {u3 : Value} (w : am_cl mX11_papersIn d [.ref 73, .int (-1)] h (fun r1 h2 => (¬ r1 = 0 → am_cl mX11_copies d [.ref 75, .ref 74] h2 (fun r3 h4 => ((0 : Int32) = 0 → Z (-2) h4) ∧ (¬ ((0 : Int32) = 0) → Z x2 h4))) ∧ (r1 = 0 → am_cl mX11_copies d [.ref 75, .ref 74] h2 (fun r5 h6 => ((1 : Int32) = 0 → Z (-2) h6) ∧ (¬ ((1 : Int32) = 0) → Z x2 h6))))) : Ru mX11_shut none d 62 [.ref 73, u1, .int x2, u3] [] h Z := by
  refine st_aload_n dX11_shut_62 rfl ?_
  refine st_iconst (v := (-1)) dX11_shut_63 (by decide) ?_
  refine st_callV (M' := mX11_papersIn) [.int (-1)] [] dX11_shut_64 ml_X11_286 mf_X11_papersIn mv_X11_papersIn sh_73 rfl rfl rfl w (fun r1 h2 w => ?_)
  show Ru mX11_shut none d 67 [.ref 73, u1, .int x2, u3] [.int r1] h2 Z
  refine st_if_ne (tgt := 74) dX11_shut_67 (by decide) (fun c => ?_) (fun c => ?_)
  · replace w := w.1 c
    refine st_iconst (v := 0) dX11_shut_74 (by decide) ?_
    refine st_istore_n (L' := [.ref 73, u1, .int x2, .int 0]) dX11_shut_75 (by decide) rfl ?_
    refine st_aload_n dX11_shut_76 rfl ?_
    refine st_getF (q := 75) fl_X11_13 fk_11_1 rfl dX11_shut_77 sh_73 ?_
    refine st_aload_n dX11_shut_80 rfl ?_
    refine st_getF (q := 74) fl_X11_7 fk_11_0 rfl dX11_shut_81 sh_73 ?_
    refine st_callS (M' := mX11_copies) [.ref 75, .ref 74] [] dX11_shut_84 ml_X11_332 mf_X11_copies ms_X11_copies rfl rfl rfl w (fun r3 h4 w => ?_)
    show Ru mX11_shut none d 87 [.ref 73, u1, .int x2, .int 0] [] h4 Z
    refine st_iload_n dX11_shut_87 rfl ?_
    refine st_if_eq (tgt := 95) dX11_shut_88 (by decide) (fun c => ?_) (fun c => ?_)
    · replace w := w.1 c
      refine st_bipush (v := (-2)) dX11_shut_95 (by decide) ?_
      exact st_ireturn rfl rfl dX11_shut_97 w
    · replace w := w.2 c
      refine st_iload_n dX11_shut_91 rfl ?_
      refine st_goto (tgt := 97) dX11_shut_92 (by decide) ?_
      exact st_ireturn rfl rfl dX11_shut_97 w
  · replace w := w.2 c
    refine st_iconst (v := 1) dX11_shut_70 (by decide) ?_
    refine st_goto (tgt := 75) dX11_shut_71 (by decide) ?_
    refine st_istore_n (L' := [.ref 73, u1, .int x2, .int 1]) dX11_shut_75 (by decide) rfl ?_
    refine st_aload_n dX11_shut_76 rfl ?_
    refine st_getF (q := 75) fl_X11_13 fk_11_1 rfl dX11_shut_77 sh_73 ?_
    refine st_aload_n dX11_shut_80 rfl ?_
    refine st_getF (q := 74) fl_X11_7 fk_11_0 rfl dX11_shut_81 sh_73 ?_
    refine st_callS (M' := mX11_copies) [.ref 75, .ref 74] [] dX11_shut_84 ml_X11_332 mf_X11_copies ms_X11_copies rfl rfl rfl w (fun r5 h6 w => ?_)
    show Ru mX11_shut none d 87 [.ref 73, u1, .int x2, .int 1] [] h6 Z
    refine st_iload_n dX11_shut_87 rfl ?_
    refine st_if_eq (tgt := 95) dX11_shut_88 (by decide) (fun c => ?_) (fun c => ?_)
    · replace w := w.1 c
      refine st_bipush (v := (-2)) dX11_shut_95 (by decide) ?_
      exact st_ireturn rfl rfl dX11_shut_97 w
    · replace w := w.2 c
      refine st_iload_n dX11_shut_91 rfl ?_
      refine st_goto (tgt := 97) dX11_shut_92 (by decide) ?_
      exact st_ireturn rfl rfl dX11_shut_97 w
/-- what days of both may change, the class's bureau at b -/
def q_fw (b g : Nat) (h h' : am_H) : Prop := (∀ a, (a < b ∨ b + 8 < a) → a ≠ g + 6 → a ≠ g + 7 → a ≠ 9 → a ≠ 74 → a ≠ 75 → a ≠ 92 → a ≠ 93 → h'.2.2 a = h.2.2 a) ∧ (∀ a k, (a < b ∨ b + 8 < a) → a ≠ 8 → ¬ (a = 73 ∧ (k = 40 ∨ k = 41 ∨ k = 42)) → h'.1 a k = h.1 a k) ∧ h'.2.1 = h.2.1
theorem q_relR_t : ∀ a, a < 29 → 20 ≤ a → am_relR a = false := by decide
theorem q_relI_t {a k : Nat} (h0 : 20 ≤ a) (h1 : a ≤ 28) : am_relI a k = false := by
  have : a = 20 ∨ a = 21 ∨ a = 22 ∨ a = 23 ∨ a = 24 ∨ a = 25 ∨ a = 26 ∨ a = 27 ∨ a = 28 := by omega
  rcases this with rfl | rfl | rfl | rfl | rfl | rfl | rfl | rfl | rfl <;> rfl
section
variable {b g c : Nat} {h h1 h2 : am_H} {B : am_AB} {L : am_AL}
theorem q_fw_fd (p : q_fd b g h h1) : q_fw b g h h1 := ⟨fun a n1 n2 n3 n4 _ _ _ _ => p.1 a n1 n2 n3 n4, fun a k n1 n2 _ => by rw [p.2.1 a n1 n2], p.2.2⟩
theorem q_fw_fm (p : q_fw b g h h1) (q : q_fm h1 h2) : q_fw b g h h2 := ⟨fun a n1 n2 n3 n4 n5 n6 n7 n8 => (q.1 a n5 n7 n8).trans (p.1 a n1 n2 n3 n4 n5 n6 n7 n8), fun a k n1 n2 n3 => (q.2.1 a k n3).trans (p.2.1 a k n1 n2 n3), q.2.2.trans p.2.2⟩
theorem q_fw_sR {a : Nat} {f : Nat → Int32} (p : q_fw b g h h1) (ha : a = 74 ∨ a = 75) : q_fw b g h (am_sR h1 a f) := ⟨fun a' n1 n2 n3 n4 n5 n6 n7 n8 => by rw [am_gR, if_neg (by omega)]; exact p.1 a' n1 n2 n3 n4 n5 n6 n7 n8, p.2.1, p.2.2⟩
theorem q_kp_fw (hg : am_la g) (hb : b = 38 ∨ b = 47) (hc : c = b ∨ c = 20) (p : q_fw c g h h1) : am_kp (q_eb b) h h1 := by
  have out : ∀ a, q_eb b a = false → (am_relR a = true ∨ ∃ k, am_relI a k = true) → a < c ∨ c + 8 < a := fun a he hr => by
    rcases hc with rfl | rfl
    · unfold q_eb at he
      simp only [Bool.or_eq_false_iff, Bool.and_eq_false_iff, decide_eq_false_iff_not] at he
      omega
    · rcases Nat.lt_or_ge a 20 with x | x
      · exact Or.inl x
      · rcases Nat.lt_or_ge 28 a with y | y
        · exact Or.inr y
        · rcases hr with hr | ⟨k, hr⟩
          · rw [q_relR_t a (by omega) x] at hr; cases hr
          · rw [q_relI_t x y] at hr; cases hr
  have g67 : am_relR (g + 6) = false ∧ am_relR (g + 7) = false := by rcases hg with rfl | rfl <;> exact ⟨rfl, rfl⟩
  have ne : ∀ {a x : Nat}, am_relR a = true → am_relR x = false → a ≠ x := fun ha hx e => by rw [e, hx] at ha; cases ha
  have n74 : ∀ a, q_eb b a = false → a ≠ 74 := fun a he e => by
    unfold q_eb at he
    simp only [Bool.or_eq_false_iff] at he
    rw [e] at he; exact absurd he.2 (by decide)
  refine ⟨fun a ha he => p.1 a (out a he (Or.inl ha)) (ne ha g67.1) (ne ha g67.2) (ne ha rfl) (n74 a he) (ne ha rfl) (ne ha rfl) (ne ha rfl), fun a k ha he => p.2.1 a k (out a he (Or.inr ⟨k, ha⟩)) (fun e => ?_) (fun e => ?_), by rw [p.2.2], p.2.1 1 1 (by omega) (by decide) (fun e => by omega), p.2.1 73 9 (by omega) (by decide) (fun e => by omega)⟩
  · rw [e] at ha; exact absurd ha (by simp [am_relI])
  · rcases e with ⟨rfl, rfl | rfl | rfl⟩ <;> exact absurd ha (by decide)
theorem q_IC_fm (hb : b ≤ 47) (p : q_fm h h1) (hI : q_IC h b B) : q_IC h1 b B := by
  unfold q_IC
  rw [p.2.1 b 8 (by omega), p.2.1 b 9 (by omega), p.2.1 b 10 (by omega), p.1 (b + 1) (by omega) (by omega) (by omega), p.1 (b + 2) (by omega) (by omega) (by omega), p.1 (b + 3) (by omega) (by omega) (by omega), p.1 (b + 4) (by omega) (by omega) (by omega), p.1 (b + 5) (by omega) (by omega) (by omega), p.1 (b + 6) (by omega) (by omega) (by omega), p.1 (b + 7) (by omega) (by omega) (by omega), p.1 (b + 8) (by omega) (by omega) (by omega)]
  exact hI
theorem q_IC_fw (hg : am_la g) (hb : b = 38 ∨ b = 47) (p : q_fw 20 g h h1) (hI : q_IC h b B) : q_IC h1 b B := by
  have hg2 : 56 ≤ g := by rcases hg with rfl | rfl <;> omega
  have e : ∀ k, k ≤ 8 → h1.2.2 (b + k) = h.2.2 (b + k) := fun k hk => p.1 _ (by omega) (by omega) (by omega) (by omega) (by omega) (by omega) (by omega) (by omega)
  unfold q_IC
  rw [p.2.1 b 8 (by omega) (by omega) (by omega), p.2.1 b 9 (by omega) (by omega) (by omega), p.2.1 b 10 (by omega) (by omega) (by omega), e 1 (by omega), e 2 (by omega), e 3 (by omega), e 4 (by omega), e 5 (by omega), e 6 (by omega), e 7 (by omega), e 8 (by omega)]
  exact hI
theorem q_IM_fw (hb : am_bu b) (hg : am_la g) (p : q_fw b g h h1) (hM : q_IM h B) : q_IM h1 B := by
  have hb2 : b ≤ 47 := by rcases hb with rfl | rfl | rfl | rfl <;> omega
  have hg2 : g ≤ 64 := by rcases hg with rfl | rfl <;> omega
  unfold q_IM
  rw [p.2.1 73 7 (by omega) (by omega) (by omega), p.2.1 73 6 (by omega) (by omega) (by omega), p.1 77 (by omega) (by omega) (by omega) (by omega) (by omega) (by omega) (by omega) (by omega), p.1 78 (by omega) (by omega) (by omega) (by omega) (by omega) (by omega) (by omega) (by omega), p.1 79 (by omega) (by omega) (by omega) (by omega) (by omega) (by omega) (by omega) (by omega)]
  exact hM
theorem q_LM_fw (hb : am_bu b) (hg : am_la g) (p : q_fw b g h h1) (hM : q_LM h L) : q_LM h1 L := by
  have hb2 : b ≤ 47 := by rcases hb with rfl | rfl | rfl | rfl <;> omega
  have hg2 : g ≤ 64 := by rcases hg with rfl | rfl <;> omega
  have e : ∀ k, 87 ≤ k → k ≤ 91 → h1.2.2 k = h.2.2 k := fun k h1 h2 => p.1 k (by omega) (by omega) (by omega) (by omega) (by omega) (by omega) (by omega) (by omega)
  unfold q_LM
  rw [p.2.1 73 18 (by omega) (by omega) (by omega), e 87 (by omega) (by omega), e 88 (by omega) (by omega), e 89 (by omega) (by omega), e 90 (by omega) (by omega), e 91 (by omega) (by omega)]
  exact hM
theorem q_LC_fw (hb : am_bu b) (hg : am_la g) (p : q_fw b g h h1) (hL : q_LC h g L) : q_LC h1 g L := by
  have hbg : b + 8 < g := by rcases hb with rfl | rfl | rfl | rfl <;> rcases hg with rfl | rfl <;> omega
  have hg2 : g ≤ 64 ∧ 56 ≤ g := by rcases hg with rfl | rfl <;> omega
  have e : ∀ k, k ≤ 5 → h1.2.2 (g + k) = h.2.2 (g + k) := fun k hk => p.1 _ (by omega) (by omega) (by omega) (by omega) (by omega) (by omega) (by omega) (by omega)
  unfold q_LC
  rw [p.2.1 g 7 (by omega) (by omega) (by omega), e 1 (by omega), e 2 (by omega), e 3 (by omega), e 4 (by omega), e 5 (by omega)]
  exact hL
theorem q_IN_fd (hb : am_bu b) (hg : am_la g) (p : q_fd b g h h1) (hN : q_IN h 74 B) : q_IN h1 74 B := by
  have hb2 : b ≤ 47 := by rcases hb with rfl | rfl | rfl | rfl <;> omega
  have hg2 : g ≤ 64 := by rcases hg with rfl | rfl <;> omega
  unfold q_IN
  rw [p.1 74 (by omega) (by omega) (by omega) (by omega)]
  exact hN
end
section
variable {d b g : Nat} {h : am_H} {K : Int32 → Int32 → am_H → Prop} {Z : Int32 → am_H → Prop} {B : am_AB} {L : am_AL}
theorem pp_days {x : Int32} (hd : 18 ≤ d) (eb : h.2.1 0 10 = b) (hb : b = 38 ∨ b = 47) (eg : h.2.1 0 12 = g) (hg : am_la g) (hI : q_IC h b B) (hN : q_IN h 74 B) (hM : q_IM h B) (hB : q_ok B) (hL : q_LC h g L) (hLM : q_LM h L) (z0 : ∀ r, K r r h) (z : ∀ r h' B', am_kp (q_eb b) h h' → q_IC h' b B' → q_IN h' 74 B' → q_IM h' B' → q_ok B' → K r r h') : am_cl mX10_days d [.ref 0, .int x] h (fun r1 h1 => am_cl mX11_days d [.ref 73, .int x] h1 (fun r2 h2 => K r1 r2 h2)) := by
  have hb' : am_bu b := by rcases hb with rfl | rfl <;> simp [am_bu]
  have m0 : ∀ {h0 : am_H} {Z : Int32 → am_H → Prop}, _ → am_cl mX11_days d [.ref 73, .int x] h0 Z := fun {h0 Z} w => ⟨16, by omega, Sp_of mf_X11_days rfl (Nat.le_of_ble_eq_true rfl) rfl (sX11_days_0 (by omega) w)⟩
  refine ⟨16, by omega, Sp_of mf_X10_days rfl (Nat.le_of_ble_eq_true rfl) rfl (sX10_days_0 (by omega) ⟨fun c => ?_, fun c => m0 ⟨fun q => absurd q c, fun _ => z0 _⟩⟩)⟩
  obtain ⟨n, hn, rfl⟩ := am_natle (N := 100) (by omega) (Int32.le_trans (by decide) c.1) c.2
  rw [eb, eg]
  refine ⟨hb', hg, 15, by omega, iX2_pass (by omega) hn hb' hg hL hB hI (fun h1 T eT hB1 hI1 hf1 e1 e2 => ?_)⟩
  rw [e1]
  refine m0 ⟨fun _ => ⟨15, by omega, iX11_daysGo (by omega) hn hg (q_LC_fd hb' hg hf1 hL) (q_LM_fw hb' hg (q_fw_fd hf1) hLM) hB (q_IN_fd hb' hg hf1 hN) (q_IM_fw hb' hg (q_fw_fd hf1) hM) (fun h2 T2 eT2 hB2 hN2 hM2 hf2 e21 e22 => ?_)⟩, fun q => absurd c q⟩
  have ee : T2 = T := eT2.trans eT.symm
  subst ee
  rw [e21]
  exact z _ h2 _ (q_kp_fw hg hb (Or.inl rfl) (q_fw_fm (q_fw_fd hf1) hf2)) (q_IC_fm (by omega) hf2 hI1) hN2 hM2 hB2
/-- what may be asked of days that are tried -/
def q_kn (B : am_AB) (y : Int32) : Prop := (∃ j, j ≤ 3 ∧ y = nI j) ∨ (∃ i, i < 12 ∧ y = nI (10 + i) ∧ 0 < q_r B i) ∨ ∃ p, p < q_n B ∧ y = nI (30 + p)
theorem q_sub_e {y : Int32} {a i : Nat} : y - nI a = nI i ↔ y = nI (a + i) := by
  constructor
  · intro q
    have : y = (y - nI a) + nI a := (Int32.sub_add_cancel _ _).symm
    rw [this, q, nI_add, Nat.add_comm]
  · intro q
    rw [q, Nat.add_comm, ← nI_add, Int32.add_sub_cancel]
theorem q_kn_T {y : Int32} (hM : q_IM h B) : am_mT h (y - 10) ↔ ∃ i, i < 12 ∧ y = nI (10 + i) ∧ 0 < q_r B i := by
  rw [q_mT hM]
  constructor
  · rintro ⟨i, hi, e, q⟩; exact ⟨i, hi, q_sub_e.mp e, q⟩
  · rintro ⟨i, hi, e, q⟩; exact ⟨i, hi, q_sub_e.mpr e, q⟩
theorem q_kn_P {y : Int32} (hM : q_IM h B) (hB : q_ok B) : am_mP h (y - 30) ↔ ∃ p, p < q_n B ∧ y = nI (30 + p) := by
  rw [q_mP hM hB]
  constructor
  · rintro ⟨i, hi, e⟩; exact ⟨i, hi, q_sub_e.mp e⟩
  · rintro ⟨i, hi, e⟩; exact ⟨i, hi, q_sub_e.mpr e⟩
theorem iX10_canBeTried {y : Int32} (hd : 3 ≤ d) (eb : h.2.1 0 10 = b) (hb : am_bu b) (hI : q_IC h b B) (hB : q_ok B) (z1 : q_kn B y → Z 1 h) (z0 : ¬ q_kn B y → Z 0 h) : Sp mX10_canBeTried d [.ref 0, .int y] h Z := by
  have hn := hB.1
  refine Sp_of mf_X10_canBeTried rfl (Nat.le_of_ble_eq_true rfl) rfl (sX10_canBeTried_0 (by omega) ⟨fun c1 => ?_, fun c1 => ?_⟩)
  · have n1 : ¬ ∃ j, j ≤ 3 ∧ y = nI j := by rintro ⟨j, hj, rfl⟩; exact c1 ⟨nI_pos' (by omega), (nI_leI (b := 3) (by omega) (by omega)).mpr hj⟩
    rw [eb]
    refine ⟨fun c2 => ?_, fun c2 => ⟨hb, ?_⟩⟩
    · have n2 : ¬ ∃ i, i < 12 ∧ y = nI (10 + i) ∧ 0 < q_r B i := by rintro ⟨i, hi, rfl, _⟩; exact c2 ⟨(nI_leI (a := 10) (by omega) (by omega)).mpr (by omega), (nI_leI (b := 21) (by omega) (by omega)).mpr (by omega)⟩
      refine ⟨fun c3 => z0 ?_, fun c3 => ⟨hb, fun c4 => z0 ?_, fun c4 => z1 ?_⟩⟩
      · rintro (q | q | ⟨p, hp, rfl⟩)
        · exact n1 q
        · exact n2 q
        · exact c3 ⟨(nI_leI (a := 30) (by omega) (by omega)).mpr (by omega), (nI_leI (b := 53) (by omega) (by omega)).mpr (by omega)⟩
      · rintro (q | q | ⟨p, hp, e⟩)
        · exact n1 q
        · exact n2 q
        · exact c4 ((q_pap hI hB).mpr ⟨p, hp, q_sub_e.mpr e⟩)
      · obtain ⟨p, hp, e⟩ := (q_pap hI hB).mp c4
        exact Or.inr (Or.inr ⟨p, hp, q_sub_e.mp e⟩)
    · obtain ⟨j, hj, rfl⟩ := am_natle (N := 21) (by omega) (Int32.le_trans (by decide) c2.1) c2.2
      have h10 : 10 ≤ j := (nI_leI (a := 10) (by omega) (by omega)).mp c2.1
      have e10 : nI j - 10 = nI (j - 10) := pk_sub (b := 10) h10
      rw [e10]
      by_cases ct : 0 < q_r B (j - 10)
      · rw [am_b1 ((q_told hI hB (by omega)).mpr ct)]
        exact z1 (Or.inr (Or.inl ⟨j - 10, by omega, by rw [show 10 + (j - 10) = j by omega], ct⟩))
      · rw [am_b0 (fun q => ct ((q_told hI hB (by omega)).mp q))]
        refine z0 ?_
        rintro (q | ⟨i, hi, e, q⟩ | ⟨p, hp, e⟩)
        · exact n1 q
        · have := (nI_eq (by omega) (by omega)).mp e
          rw [show j - 10 = i by omega] at ct; exact ct q
        · have := (nI_eq (by omega) (by omega)).mp e; omega
  · obtain ⟨j, hj, rfl⟩ := am_natle (N := 3) (by omega) c1.1 c1.2
    exact z1 (Or.inl ⟨j, hj, rfl⟩)
/-- the answer -/
def q_an (T : am_AB × Int32 × Int32) (y : Int32) : Int32 := if y = 0 then T.2.1 else if y = 1 then T.2.2 else if y = 2 then nI (q_set T.1 12) else if y = 3 then nI (q_rds T.1) else if y < 30 then nI (q_F T.1 (y - 10).toNatClampNeg) else q_w2 (q_w T.1 (y - 30).toNatClampNeg)
theorem q_an_F {T : am_AB × Int32 × Int32} {i : Nat} (hi : i < 12) : q_an T (nI (10 + i)) = nI (q_F T.1 i) := by
  have ne : ∀ k, k ≤ 3 → ¬ nI (10 + i) = nI k := fun k hk e => by have := (nI_eq (by omega) (by omega)).mp e; omega
  unfold q_an
  rw [if_neg (show ¬ nI (10 + i) = 0 from ne 0 (by omega)), if_neg (show ¬ nI (10 + i) = 1 from ne 1 (by omega)), if_neg (show ¬ nI (10 + i) = 2 from ne 2 (by omega)), if_neg (show ¬ nI (10 + i) = 3 from ne 3 (by omega)), if_pos (show nI (10 + i) < 30 from nI_lt (b := 30) (by omega) (by omega)), show nI (10 + i) - 10 = nI i from q_sub_e.mpr rfl, nI_clamp (by omega)]
theorem q_an_w {T : am_AB × Int32 × Int32} {p : Nat} (hp : p < 24) : q_an T (nI (30 + p)) = q_w2 (q_w T.1 p) := by
  have ne : ∀ k, k ≤ 3 → ¬ nI (30 + p) = nI k := fun k hk e => by have := (nI_eq (by omega) (by omega)).mp e; omega
  unfold q_an
  rw [if_neg (show ¬ nI (30 + p) = 0 from ne 0 (by omega)), if_neg (show ¬ nI (30 + p) = 1 from ne 1 (by omega)), if_neg (show ¬ nI (30 + p) = 2 from ne 2 (by omega)), if_neg (show ¬ nI (30 + p) = 3 from ne 3 (by omega)), if_neg (show ¬ nI (30 + p) < 30 from nI_nlt (b := 30) (by omega) (by omega)), show nI (30 + p) - 30 = nI p from q_sub_e.mpr rfl, nI_clamp (by omega)]
theorem q_fdo1 (L : am_AL) (n : Nat) (s : am_AB × (Nat → Bool)) (hB : q_ok s.1) : q_ok (am_fd (q_sk L) 0 n s).1 ∧ q_sm s.1 (am_fd (q_sk L) 0 n s).1 := am_fd_inv (R := fun _ (a : am_AB × (Nat → Bool)) => q_ok a.1 ∧ q_sm s.1 a.1) n 0 s ⟨hB, q_sm_rf _⟩ (fun i a _ _ q => ⟨(q_sk_i L i q.1).1, q_sm_tr q.2 (q_sk_i L i q.1).2⟩)
theorem q_fdo2 (L : am_AL) (t : Nat → Bool) (s : am_AB × Int32) (hB : q_ok s.1) : q_ok (am_fd (q_pu L t) 0 (q_n s.1) s).1 ∧ q_sm s.1 (am_fd (q_pu L t) 0 (q_n s.1) s).1 := am_fd_inv (R := fun _ (a : am_AB × Int32) => q_ok a.1 ∧ q_sm s.1 a.1) (q_n s.1) 0 s ⟨hB, q_sm_rf _⟩ (fun i a _ hi q => by
  have w := q_pu_i L t (p := i) q.1 (by rw [q.2.1]; omega)
  exact ⟨w.1, q_sm_tr q.2 w.2⟩)
theorem q_fdo3 (L : am_AL) (n : Nat) (s : am_AB × Int32) (hB : q_ok s.1) : q_ok (am_fd (q_re L) 0 n s).1 ∧ q_sm s.1 (am_fd (q_re L) 0 n s).1 := am_fd_inv (R := fun _ (a : am_AB × Int32) => q_ok a.1 ∧ q_sm s.1 a.1) n 0 s ⟨hB, q_sm_rf _⟩ (fun i a _ _ q => ⟨(q_re_i L q.1).1, q_sm_tr q.2 (q_re_i L q.1).2⟩)
theorem q_dys_ok (L : am_AL) : ∀ (m : Nat) (T : am_AB × Int32 × Int32), q_ok T.1 → q_ok (q_dys L m T).1 ∧ q_sm T.1 (q_dys L m T).1
  | 0, T, hB => ⟨hB, q_sm_rf _⟩
  | m + 1, T, hB => by
    unfold q_dys
    by_cases c : 9999 ≤ q_d T.1
    · rw [if_pos c]; exact ⟨hB, q_sm_rf _⟩
    · rw [if_neg c]
      have a1 : q_ok (q_s1 L T.1).1 ∧ q_sm T.1 (q_s1 L T.1).1 := by
        unfold q_s1
        exact q_fdo1 L 12 (T.1, fun _ => false) hB
      have a2 : q_ok (q_s2 L T).1 ∧ q_sm (q_s1 L T.1).1 (q_s2 L T).1 := by
        unfold q_s2
        generalize q_s1 L T.1 = s1 at a1
        exact q_fdo2 L s1.2 (s1.1, T.2.1) a1.1
      have a3 : q_ok (q_s3 L T).1 ∧ q_sm (q_s2 L T).1 (q_s3 L T).1 := by
        unfold q_s3
        generalize q_s2 L T = s2 at a2
        exact q_fdo3 L (q_n s2.1) (s2.1, T.2.2) a2.1
      have hd6 := q_day_d L T
      have hB' : q_ok (q_day L T).1 := by
        unfold q_day
        generalize q_s3 L T = s3 at a3 hd6
        exact ⟨a3.1.1, by show q_d s3.1 + 1 ≤ 9999; omega, a3.1.2.2⟩
      have hs3 : q_sm (q_s3 L T).1 (q_day L T).1 := by
        unfold q_day
        generalize q_s3 L T = s3
        exact ⟨rfl, rfl, rfl, rfl⟩
      have w := q_dys_ok L m (q_day L T) hB'
      exact ⟨w.1, q_sm_tr (q_sm_tr (q_sm_tr a1.2 a2.2) a3.2) (q_sm_tr hs3 w.2)⟩
theorem x_an {y : Int32} {T : am_AB × Int32 × Int32} {h8 : am_H} (hd : 5 ≤ d) (hy : q_kn B y) (hs : q_sm B T.1) (hB : q_ok T.1) (hI : q_IC h8 20 T.1) (e1 : h8.1 8 1 = T.2.1) (e2 : h8.1 8 2 = T.2.2) (z : Z (q_an T y) h8) : (y < 30 → (y < 10 → (y = 0 → Z (h8.1 8 1) h8) ∧ (¬ y = 0 → (y = 1 → Z (h8.1 8 2) h8) ∧ (¬ y = 1 → (y = 2 → am_cl mX0_bitsOut d [.ref 20] h8 (fun r11 h12 => Z r11 h12)) ∧ (¬ y = 2 → am_cl mX0_bitsRead d [.ref 20] h8 (fun r9 h10 => Z r9 h10))))) ∧ (¬ (y < 10) → (vp_in (y - 10) 12 ∧ (Z (h8.2.2 22 (y - 10).toNatClampNeg) h8)))) ∧ (¬ (y < 30) → (vp_in (y - 30) 24 ∧ (Z (h8.2.2 26 (y - 30).toNatClampNeg) h8))) := by
  have hb20 : am_bu 20 := Or.inl rfl
  have hn := hB.1
  rw [e1, e2]
  rcases hy with ⟨j, hj, rfl⟩ | ⟨i, hi, rfl, hr⟩ | ⟨p, hp, rfl⟩
  · have : j = 0 ∨ j = 1 ∨ j = 2 ∨ j = 3 := by omega
    refine ⟨fun _ => ⟨fun _ => ?_, fun q => absurd (nI_lt (b := 10) (by omega) (by omega)) q⟩, fun q => absurd (nI_lt (b := 30) (by omega) (by omega)) q⟩
    rcases this with rfl | rfl | rfl | rfl
    · exact ⟨fun _ => z, fun q => absurd rfl q⟩
    · exact ⟨fun q => absurd q (by decide), fun _ => ⟨fun _ => z, fun q => absurd rfl q⟩⟩
    · exact ⟨fun q => absurd q (by decide), fun _ => ⟨fun q => absurd q (by decide), fun _ => ⟨fun _ => ⟨4, by omega, iX0_bitsOut (by omega) hb20 hI hB z⟩, fun q => absurd rfl q⟩⟩⟩
    · exact ⟨fun q => absurd q (by decide), fun _ => ⟨fun q => absurd q (by decide), fun _ => ⟨fun q => absurd q (by decide), fun _ => ⟨4, by omega, iX0_bitsRead (by omega) hb20 hI hB z⟩⟩⟩⟩
  · rw [q_an_F hi] at z
    rw [show nI (10 + i) - 10 = nI i from q_sub_e.mpr rfl, nI_clamp (by omega)]
    refine ⟨fun _ => ⟨fun q => absurd q (nI_nlt (b := 10) (by omega) (by omega)), fun _ => ⟨vp_in_nI (by omega) (by omega), ?_⟩⟩, fun q => absurd (nI_lt (b := 30) (by omega) (by omega)) q⟩
    rw [show h8.2.2 22 i = nI (q_F T.1 i) from (hI.2.2.2.1 i hi).2.1]; exact z
  · have hp' : p < q_n T.1 := by rw [hs.1]; exact hp
    rw [q_an_w (by omega)] at z
    rw [show nI (30 + p) - 30 = nI p from q_sub_e.mpr rfl, nI_clamp (n := p) (by omega)]
    refine ⟨fun q => absurd q (nI_nlt (b := 30) (by omega) (by omega)), fun _ => ⟨vp_in_nI (by omega) (by omega), ?_⟩⟩
    rw [show h8.2.2 26 p = q_w2 (q_w T.1 p) from (hI.2.2.2.2 p hp').2.2.1]; exact z
theorem q_w12 {p : Nat} (hB : q_ok B) (hp : p < q_n B) : (if q_w1 (q_w B p) = -1 then (-2 : Int32) else q_w1 (q_w B p)) = q_w2 (q_w B p) := by
  rcases (hB.2.2.2.2 p hp).2.2.1 with e | ⟨e, _⟩
  · rw [e]; decide
  · rw [q_w1_in e, q_w2_in e, if_neg (fun q => absurd (show (-1 : Int32) < 0 by decide) (by rw [← q]; exact nI_pos (by omega)))]
theorem m_an {y : Int32} {T : am_AB × Int32 × Int32} {h4 : am_H} (hd : 5 ≤ d) (hy : q_kn B y) (hs : q_sm B T.1) (hB : q_ok T.1) (hN : q_IN h4 74 T.1) (hM : q_IM h4 T.1) (e1 : h4.1 73 40 = T.2.1) (e2 : h4.1 73 41 = T.2.2) (z : ∀ f, (∀ i, i < 74 → f i = h4.2.2 75 i) → Z (q_an T y) (am_sR h4 74 f)) : (y = 0 → am_cl mX11_copies d [.ref 75, .ref 74] h4 (fun r22 h23 => Z (h4.1 73 40) h23)) ∧ (¬ y = 0 → (y = 1 → am_cl mX11_copies d [.ref 75, .ref 74] h4 (fun r20 h21 => Z (h4.1 73 41) h21)) ∧ (¬ y = 1 → (y = 2 → am_cl mX11_papersIn d [.ref 73, .int (-1)] h4 (fun r16 h17 => am_cl mX11_copies d [.ref 75, .ref 74] h17 (fun r18 h19 => Z r16 h19))) ∧ (¬ y = 2 → (y = 3 → am_cl mX11_readSet d [.ref 73] h4 (fun r12 h13 => am_cl mX11_copies d [.ref 75, .ref 74] h13 (fun r14 h15 => Z r12 h15))) ∧ (¬ y = 3 → (30 ≤ y → (vp_in (y - 30) 74 ∧ (am_cl mX11_copies d [.ref 75, .ref 74] h4 (fun r6 h7 => Z (if (h4.2.2 74 (y - 30).toNatClampNeg) = -1 then -2 else (h4.2.2 74 (y - 30).toNatClampNeg)) h7)))) ∧ (¬ (30 ≤ y) → am_cl mX11_fullOf d [.ref 73, .int (y - 10)] h4 (fun r8 h9 => am_cl mX11_copies d [.ref 75, .ref 74] h9 (fun r10 h11 => Z r8 h11))))))) := by
  have hn := hB.1
  rw [e1, e2]
  have cp : ∀ v, (∀ f, (∀ i, i < 74 → f i = h4.2.2 75 i) → Z v (am_sR h4 74 f)) → am_cl mX11_copies d [.ref 75, .ref 74] h4 (fun _ h23 => Z v h23) := fun v w => ⟨4, by omega, iX11_copies sh_75 sh_74 (by decide) w⟩
  rcases hy with ⟨j, hj, rfl⟩ | ⟨i, hi, rfl, hr⟩ | ⟨p, hp, rfl⟩
  · have : j = 0 ∨ j = 1 ∨ j = 2 ∨ j = 3 := by omega
    rcases this with rfl | rfl | rfl | rfl
    · exact ⟨fun _ => cp _ z, fun q => absurd rfl q⟩
    · exact ⟨fun q => absurd q (by decide), fun _ => ⟨fun _ => cp _ z, fun q => absurd rfl q⟩⟩
    · exact ⟨fun q => absurd q (by decide), fun _ => ⟨fun q => absurd q (by decide), fun _ => ⟨fun _ => ⟨4, by omega, iX11_papersOut hN hM hB (cp _ z)⟩, fun q => absurd rfl q⟩⟩⟩
    · exact ⟨fun q => absurd q (by decide), fun _ => ⟨fun q => absurd q (by decide), fun _ => ⟨fun q => absurd q (by decide), fun _ => ⟨fun _ => ⟨4, by omega, iX11_readSet hN hM hB (cp _ z)⟩, fun q => absurd rfl q⟩⟩⟩⟩
  · have ne : ∀ k, k ≤ 3 → ¬ nI (10 + i) = nI k := fun k hk e => by have := (nI_eq (by omega) (by omega)).mp e; omega
    rw [q_an_F hi] at z
    rw [show nI (10 + i) - 10 = nI i from q_sub_e.mpr rfl]
    exact ⟨fun q => absurd q (ne 0 (by omega)), fun _ => ⟨fun q => absurd q (ne 1 (by omega)), fun _ => ⟨fun q => absurd q (ne 2 (by omega)), fun _ => ⟨fun q => absurd q (ne 3 (by omega)), fun _ => ⟨fun q => absurd q (nI_ge (b := 30) (by omega) (by omega)), fun _ => ⟨4, by omega, iX11_fullOf hN hM hB hi (cp _ z)⟩⟩⟩⟩⟩⟩
  · have hp' : p < q_n T.1 := by rw [hs.1]; exact hp
    have ne : ∀ k, k ≤ 3 → ¬ nI (30 + p) = nI k := fun k hk e => by have := (nI_eq (by omega) (by omega)).mp e; omega
    rw [q_an_w (by omega)] at z
    rw [show nI (30 + p) - 30 = nI p from q_sub_e.mpr rfl, nI_clamp (n := p) (by omega), (hN.2.2 p hp').1, q_w12 hB hp']
    exact ⟨fun q => absurd q (ne 0 (by omega)), fun _ => ⟨fun q => absurd q (ne 1 (by omega)), fun _ => ⟨fun q => absurd q (ne 2 (by omega)), fun _ => ⟨fun q => absurd q (ne 3 (by omega)), fun _ => ⟨fun _ => ⟨vp_in_nI (by omega) (by omega), cp _ z⟩, fun q => absurd ((nI_leI (a := 30) (by omega) (by omega)).mpr (by omega)) q⟩⟩⟩⟩⟩
theorem pp_tried {x y : Int32} (hd : 18 ≤ d) (eb : h.2.1 0 10 = b) (hb : b = 38 ∨ b = 47) (eg : h.2.1 0 12 = g) (hg : am_la g) (hI : q_IC h b B) (hN : q_IN h 74 B) (hM : q_IM h B) (hB : q_ok B) (hL : q_LC h g L) (hLM : q_LM h L) (z0 : ∀ r, K r r h) (z : ∀ r h' B', am_kp (q_eb b) h h' → q_IC h' b B' → q_IN h' 74 B' → q_IM h' B' → q_ok B' → K r r h') : am_cl mX10_tried d [.ref 0, .int x, .int y] h (fun r1 h1 => am_cl mX11_tried d [.ref 73, .int x, .int y] h1 (fun r2 h2 => K r1 r2 h2)) := by
  have hb' : am_bu b := by rcases hb with rfl | rfl <;> simp [am_bu]
  have hb20 : am_bu 20 := Or.inl rfl
  have m0 : ∀ {h0 : am_H} {Z : Int32 → am_H → Prop}, _ → am_cl mX11_tried d [.ref 73, .int x, .int y] h0 Z := fun {h0 Z} w => ⟨16, by omega, Sp_of mf_X11_tried rfl (Nat.le_of_ble_eq_true rfl) rfl (sX11_tried_0 (by omega) w)⟩
  refine ⟨16, by omega, Sp_of mf_X10_tried rfl (Nat.le_of_ble_eq_true rfl) rfl (sX10_tried_0 (by omega) ⟨fun c => m0 ⟨fun _ => z0 _, fun q => absurd q c⟩, fun c => ⟨15, by omega, iX10_canBeTried (by omega) eb hb' hI hB (fun hy => ⟨fun _ => ?_, fun q => absurd q (by decide)⟩) (fun hy => ⟨fun q => absurd rfl q, fun _ => ?_⟩)⟩⟩)⟩
  · obtain ⟨n, hn, rfl⟩ := am_natle (N := 100) (by omega) (Int32.le_trans (by decide) c.1) c.2
    rw [eb]
    refine ⟨hb', 15, by omega, iX0_copyFrom (by omega) hb20 hb' (by omega) hI hB.1 (fun h5 hI5 hf5 => ?_)⟩
    rw [hf5.2, eg]
    have fd5 : q_fd 20 g h h5 := q_fd_fr (q_fd_rf 20 g h) hf5
    refine ⟨hg, 15, by omega, iX2_pass (by omega) hn hb20 hg (q_LC_fd hb20 hg fd5 hL) hB hI5 (fun h8 T eT hB8 hI8 hf8 e81 e82 => ?_)⟩
    have hs : q_sm B T.1 := by rw [eT]; exact (q_dys_ok L n (B, 0, 0) hB).2
    refine x_an (d := 16) (Z := fun r1 h1 => am_cl mX11_tried d [.ref 73, .int (nI n), .int y] h1 (fun r2 h2 => K r1 r2 h2)) (by omega) hy hs hB8 hI8 e81 e82 ?_
    have fd8 := q_fd_tr fd5 hf8
    have body : Ru mX11_tried none 16 43 [.ref 73, .int (nI n), .int y, .null] [] h8 (fun r2 h2 => K (q_an T y) r2 h2) := by
      refine sX11_tried_43 (by omega) ⟨15, by omega, iX11_copies sh_74 sh_75 (by decide) (fun f hf => ?_)⟩
      have fw9 : q_fw 20 g h (am_sR h8 75 f) := q_fw_sR (q_fw_fd fd8) (Or.inr rfl)
      refine ⟨15, by omega, iX11_daysGo (B := B) (by omega) hn hg (q_LC_fw hb20 hg fw9 hL) (q_LM_fw hb20 hg fw9 hLM) hB (q_IN_rr (by decide) (q_IN_fd hb20 hg fd8 hN)) (q_IM_fw hb20 hg fw9 hM) (fun h4 T2 eT2 hB4 hN4 hM4 hf4 e41 e42 => ?_)⟩
      have ee : T2 = T := eT2.trans eT.symm
      subst ee
      refine m_an (d := 16) (Z := fun r2 h2 => K (q_an T2 y) r2 h2) (by omega) hy hs hB4 hN4 hM4 e41 e42 (fun f2 hf2 => ?_)
      have fw : q_fw 20 g h (am_sR h4 74 f2) := q_fw_sR (q_fw_fm fw9 hf4) (Or.inl rfl)
      have ef : ∀ i, i < 74 → f2 i = h.2.2 74 i := fun i hi => by
        have hg2 : g ≤ 64 := by rcases hg with rfl | rfl <;> omega
        rw [hf2 i hi, hf4.1 75 (by decide) (by decide) (by decide), am_gRs, hf i hi, fd8.1 74 (by omega) (by omega) (by omega) (by omega)]
      have hn24 := hB.1
      refine z _ _ B (q_kp_fw hg hb (Or.inr rfl) fw) (q_IC_fw hg hb fw hI) ⟨?_, ?_, fun p hp => ?_⟩ (q_IM_fw hb20 hg fw hM) hB
      · rw [am_gRs, ef 72 (by omega)]; exact hN.1
      · rw [am_gRs, ef 73 (by omega)]; exact hN.2.1
      · rw [am_gRs, ef p (by omega), ef (24 + p) (by omega), ef (48 + p) (by omega)]; exact hN.2.2 p hp
    have hM8 : q_IM h8 B := q_IM_fw hb20 hg (q_fw_fd fd8) hM
    refine m0 ⟨fun q => absurd c q, fun _ => ⟨fun _ => body, fun c1 => ⟨fun _ => body, fun c2 => ⟨fun _ => body, fun c3 => ?_⟩⟩⟩⟩
    rw [q_kn_T hM8] at c2
    rw [q_kn_P hM8 hB] at c3
    rcases hy with ⟨j, hj, rfl⟩ | q | q
    · exact absurd ⟨nI_pos' (by omega), (nI_leI (b := 3) (by omega) (by omega)).mpr hj⟩ c1
    · exact absurd q c2
    · exact absurd q c3
  · refine m0 ⟨fun q => absurd c q, fun _ => ⟨fun c1 => ?_, fun c1 => ⟨fun c2 => ?_, fun c2 => ⟨fun c3 => ?_, fun c3 => z0 _⟩⟩⟩⟩
    · obtain ⟨j, hj, rfl⟩ := am_natle (N := 3) (by omega) c1.1 c1.2
      exact absurd (Or.inl ⟨j, hj, rfl⟩) hy
    · exact absurd (Or.inr (Or.inl ((q_kn_T hM).mp c2))) hy
    · exact absurd (Or.inr (Or.inr ((q_kn_P hM hB).mp c3))) hy
/-- behind how many days nothing is out -/
def q_sh (L : am_AL) : Nat → Nat → am_AB → Int32
  | 0, k, B => if q_set B 12 = 0 then nI k else -2
  | m + 1, k, B => if q_set B 12 = 0 then nI k else if 9999 ≤ q_d B then -2 else q_sh L m (k + 1) (q_day L (B, 0, 0)).1
theorem q_sh_top (h9 : 9999 ≤ q_d B) (hs : ¬ q_set B 12 = 0) : ∀ (m k : Nat), q_sh L m k B = -2
  | 0, k => if_neg hs
  | m + 1, k => by unfold q_sh; rw [if_neg hs, if_pos h9]
theorem q_set_0 (hB : q_ok B) : nI (q_set B 12) = 0 ↔ q_set B 12 = 0 := by
  have hn := hB.1
  have := q_bs_lt (fun p => q_w B p == 12) (q_n B)
  have h2 : 2 ^ q_n B ≤ 2 ^ 24 := Nat.pow_le_pow_right (by decide) hn
  exact nI_eq (b := 0) (by unfold q_set; omega) (by omega)
theorem q_fde2 (L : am_AL) (t : Nat → Bool) (n : Nat) (A : am_AB) (x y : Int32) : (am_fd (q_pu L t) 0 n (A, x)).1 = (am_fd (q_pu L t) 0 n (A, y)).1 := am_fd_rel (R := fun _ (a b : am_AB × Int32) => a.1 = b.1) n 0 (A, x) (A, y) rfl (fun i a b _ _ e => by
  obtain ⟨a1, a2⟩ := a
  obtain ⟨b1, b2⟩ := b
  have e' : a1 = b1 := e
  subst e'
  unfold q_pu
  split
  · rfl
  · split <;> rfl)
theorem q_fde3 (L : am_AL) (n : Nat) (A : am_AB) (x y : Int32) : (am_fd (q_re L) 0 n (A, x)).1 = (am_fd (q_re L) 0 n (A, y)).1 := am_fd_rel (R := fun _ (a b : am_AB × Int32) => a.1 = b.1) n 0 (A, x) (A, y) rfl (fun i a b _ _ e => by
  obtain ⟨a1, a2⟩ := a
  obtain ⟨b1, b2⟩ := b
  have e' : a1 = b1 := e
  subst e'
  unfold q_re
  split
  · split <;> rfl
  · rfl)
theorem q_day_1 (x y : Int32) : (q_day L (B, x, y)).1 = (q_day L (B, 0, 0)).1 := by
  have a2 : (q_s2 L (B, x, y)).1 = (q_s2 L (B, 0, 0)).1 := by
    unfold q_s2
    generalize q_s1 L B = s1
    exact q_fde2 L s1.2 (q_n s1.1) s1.1 x 0
  have a3 : (q_s3 L (B, x, y)).1 = (q_s3 L (B, 0, 0)).1 := by
    unfold q_s3
    rw [a2]
    generalize (q_s2 L (B, 0, 0)).1 = A
    exact q_fde3 L (q_n A) A y 0
  have e : ∀ T, (q_day L T).1 = q_sd (q_s3 L T).1 := fun T => rfl
  rw [e, e, a3]
theorem x_sh {n : Nat} (hd : 17 ≤ d) (hn : n ≤ 100) (hg : am_la g) (eg : h.2.1 0 12 = g) (hL : q_LC h g L) : ∀ (m k : Nat) (B : am_AB) (h1 : am_H), k + m = n → q_ok B → q_IC h1 20 B → q_fd 20 g h h1 → (∀ h', q_fd 20 g h h' → Z (q_sh L m k B) h') → Ru mX10_shut none d 25 [.ref 0, .int (nI n), .int (nI k)] [] h1 Z
  | 0, k, B, h1, hk, hB, hI, hf, z => by
    have ek : k = n := by omega
    subst ek
    refine sX10_shut_25 ⟨fun _ => ⟨16, by omega, iX0_bitsOut (by omega) (Or.inl rfl) hI hB ?_⟩, fun c => absurd (Int32.le_refl _) c⟩
    rw [q_set_0 hB]
    have := z h1 hf
    unfold q_sh at this
    exact ⟨fun c => by rw [if_neg c] at this; exact this, fun c => by rw [if_pos c] at this; exact this⟩
  | m + 1, k, B, h1, hk, hB, hI, hf, z => by
    refine sX10_shut_25 ⟨fun c => absurd c (nI_ge (by omega) (by omega)), fun _ => ⟨16, by omega, iX0_bitsOut (by omega) (Or.inl rfl) hI hB ?_⟩⟩
    rw [q_set_0 hB, hf.2.2, eg, nI_1]
    refine ⟨fun c => ⟨hg, 16, by omega, iX2_pass (n := 1) (B := B) (by omega) (by omega) (Or.inl rfl) hg (q_LC_fd (Or.inl rfl) hg hf hL) hB hI (fun h2 T eT hB2 hI2 hf2 _ _ => ?_)⟩, fun c => ?_⟩
    · refine x_sh hd hn hg eg hL m (k + 1) T.1 h2 (by omega) hB2 hI2 (q_fd_tr hf hf2) (fun h' hf' => ?_)
      have := z h' hf'
      unfold q_sh at this
      rw [if_neg c] at this
      by_cases c9 : 9999 ≤ q_d B
      · have eT' : T = (B, 0, 0) := eT.trans (q_dys_top L _ _ c9)
        rw [if_pos c9] at this
        rw [eT', q_sh_top c9 c]; exact this
      · have eT' : T = q_day L (B, 0, 0) := eT.trans (if_neg c9)
        rw [if_neg c9] at this
        rw [eT']; exact this
    · have := z h1 hf
      unfold q_sh at this
      rw [if_pos c] at this; exact this
theorem m_s62 {k : Nat} {u1 u3 : Value} (hd : 5 ≤ d) (hB : q_ok B) (hN : q_IN h 74 B) (hM : q_IM h B) (z : ∀ f, (∀ i, i < 74 → f i = h.2.2 75 i) → Z (if q_set B 12 = 0 then nI k else -2) (am_sR h 74 f)) : Ru mX11_shut none d 62 [.ref 73, u1, .int (nI k), u3] [] h Z := by
  refine sX11_shut_62 ⟨4, by omega, iX11_papersOut hN hM hB ?_⟩
  rw [q_set_0 hB]
  refine ⟨fun c => ⟨4, by omega, iX11_copies sh_75 sh_74 (by decide) (fun f hf => ⟨fun _ => ?_, fun q => absurd rfl q⟩)⟩, fun c => ⟨4, by omega, iX11_copies sh_75 sh_74 (by decide) (fun f hf => ⟨fun q => absurd q (by decide), fun _ => ?_⟩)⟩⟩
  · have := z f hf
    rw [if_neg c] at this; exact this
  · have := z f hf
    rw [if_pos c] at this; exact this
theorem m_sh {n : Nat} {u3 : Value} (hd : 15 ≤ d) (hn : n ≤ 100) (hg : am_la g) (hL : q_LC h g L) (hLM : q_LM h L) : ∀ (m k : Nat) (B : am_AB) (h1 : am_H), k + m = n → q_ok B → q_IN h1 74 B → q_IM h1 B → q_fm h h1 → (∀ h' f, q_fm h h' → (∀ i, i < 74 → f i = h'.2.2 75 i) → Z (q_sh L m k B) (am_sR h' 74 f)) → Ru mX11_shut none d 25 [.ref 73, .int (nI n), .int (nI k), u3] [] h1 Z
  | 0, k, B, h1, hk, hB, hN, hM, hf, z => by
    have ek : k = n := by omega
    subst ek
    have fin : Ru mX11_shut none d 62 [.ref 73, .int (nI k), .int (nI k), u3] [] h1 Z := m_s62 (by omega) hB hN hM (fun f hff => z h1 f hf hff)
    exact sX11_shut_25 ⟨14, by omega, iX11_papersOut hN hM hB ⟨fun _ => fin, fun _ => ⟨fun _ => fin, fun q => absurd (Int32.le_refl _) q⟩⟩⟩
  | m + 1, k, B, h1, hk, hB, hN, hM, hf, z => by
    have hdd := hB.2.1
    refine sX11_shut_25 ⟨14, by omega, iX11_papersOut hN hM hB ?_⟩
    rw [q_set_0 hB, hN.1, nI_1, show (9999 : Int32) = nI 9999 from rfl, nI_leI (show 9999 < 2 ^ 31 by omega) (by omega)]
    refine ⟨fun c => m_s62 (by omega) hB hN hM (fun f hff => ?_), fun c => ⟨fun q => absurd q (nI_ge (by omega) (by omega)), fun _ => ⟨fun c9 => m_s62 (by omega) hB hN hM (fun f hff => ?_), fun c9 => ⟨14, by omega, iX11_dayGoes (T := (B, h1.1 73 40, h1.1 73 41)) (by omega) hg (q_LC_fm hg hf hL) (q_LM_fm hf hLM) hB hN hM (show q_d B < 9999 by omega) rfl rfl (fun h2 T2 eT hB2 hN2 hM2 hf2 _ _ => ?_)⟩⟩⟩⟩
    · have := z h1 f hf hff
      unfold q_sh at this
      rw [if_pos c] at this
      rw [if_pos c]; exact this
    · have := z h1 f hf hff
      unfold q_sh at this
      rw [if_neg c, if_pos c9] at this
      rw [if_neg c]; exact this
    · have e1 : T2.1 = (q_day L (B, 0, 0)).1 := by rw [eT]; exact q_day_1 _ _
      refine m_sh hd hn hg hL hLM m (k + 1) T2.1 h2 (by omega) hB2 hN2 hM2 (q_fm_tr hf hf2) (fun h' f hf' hff => ?_)
      have := z h' f hf' hff
      unfold q_sh at this
      rw [if_neg c, if_neg c9] at this
      rw [e1]; exact this
theorem pp_shut {x : Int32} (hd : 19 ≤ d) (eb : h.2.1 0 10 = b) (hb : b = 38 ∨ b = 47) (eg : h.2.1 0 12 = g) (hg : am_la g) (hI : q_IC h b B) (hN : q_IN h 74 B) (hM : q_IM h B) (hB : q_ok B) (hL : q_LC h g L) (hLM : q_LM h L) (z0 : ∀ r, K r r h) (z : ∀ r h' B', am_kp (q_eb b) h h' → q_IC h' b B' → q_IN h' 74 B' → q_IM h' B' → q_ok B' → K r r h') : am_cl mX10_shut d [.ref 0, .int x] h (fun r1 h1 => am_cl mX11_shut d [.ref 73, .int x] h1 (fun r2 h2 => K r1 r2 h2)) := by
  have hb' : am_bu b := by rcases hb with rfl | rfl <;> simp [am_bu]
  have hb20 : am_bu 20 := Or.inl rfl
  have m0 : ∀ {h0 : am_H} {Z : Int32 → am_H → Prop}, _ → am_cl mX11_shut d [.ref 73, .int x] h0 Z := fun {h0 Z} w => ⟨17, by omega, Sp_of mf_X11_shut rfl (Nat.le_of_ble_eq_true rfl) rfl (sX11_shut_0 (by omega) w)⟩
  refine ⟨17, by omega, Sp_of mf_X10_shut rfl (Nat.le_of_ble_eq_true rfl) rfl (sX10_shut_0 (by omega) ⟨fun c => ?_, fun c => m0 ⟨fun q => absurd q c, fun _ => z0 _⟩⟩)⟩
  obtain ⟨n, hn, rfl⟩ := am_natle (N := 100) (by omega) (Int32.le_trans (by decide) c.1) c.2
  rw [eb]
  refine ⟨hb', 16, by omega, iX0_copyFrom (by omega) hb20 hb' (by omega) hI hB.1 (fun h5 hI5 hf5 => ?_)⟩
  have fd5 : q_fd 20 g h h5 := q_fd_fr (q_fd_rf 20 g h) hf5
  refine x_sh (h := h) (by omega) hn hg eg hL n 0 B h5 (by omega) hB hI5 fd5 (fun h8 fd8 => ?_)
  refine m0 ⟨fun _ => ⟨16, by omega, iX11_copies sh_74 sh_75 (by decide) (fun f hf => ?_)⟩, fun q => absurd c q⟩
  have fw9 : q_fw 20 g h (am_sR h8 75 f) := q_fw_sR (q_fw_fd fd8) (Or.inr rfl)
  refine m_sh (h := am_sR h8 75 f) (by omega) hn hg (q_LC_fw hb20 hg fw9 hL) (q_LM_fw hb20 hg fw9 hLM) n 0 B _ (by omega) hB (q_IN_rr (by decide) (q_IN_fd hb20 hg fd8 hN)) (q_IM_fw hb20 hg fw9 hM) (q_fm_rf _) (fun h4 f2 hf4 hf2 => ?_)
  have fw : q_fw 20 g h (am_sR h4 74 f2) := q_fw_sR (q_fw_fm fw9 hf4) (Or.inl rfl)
  have ef : ∀ i, i < 74 → f2 i = h.2.2 74 i := fun i hi => by
    have hg2 : g ≤ 64 := by rcases hg with rfl | rfl <;> omega
    rw [hf2 i hi, hf4.1 75 (by decide) (by decide) (by decide), am_gRs, hf i hi, fd8.1 74 (by omega) (by omega) (by omega) (by omega)]
  have hn24 := hB.1
  refine z _ _ B (q_kp_fw hg hb (Or.inr rfl) fw) (q_IC_fw hg hb fw hI) ⟨?_, ?_, fun p hp => ?_⟩ (q_IM_fw hb20 hg fw hM) hB
  · rw [am_gRs, ef 72 (by omega)]; exact hN.1
  · rw [am_gRs, ef 73 (by omega)]; exact hN.2.1
  · rw [am_gRs, ef p (by omega), ef (24 + p) (by omega), ef (48 + p) (by omega)]; exact hN.2.2 p hp
end
