-- sets as bits; count, drawerIs, paperIs, seed
set_option maxRecDepth 20000 in
set_option maxHeartbeats 2000000 in
theorem sX11_papersIn_0 {d : Nat} {h : am_H} {Z : Int32 → am_H → Prop} {x1 : Int32} (w : Ru mX11_papersIn none d 4 [.ref 73, .int x1, .int 0, .int 0] [] h Z) : Ru mX11_papersIn none d 0 [.ref 73, .int x1, .null, .null] [] h Z := by
  refine st_iconst (v := 0) dX11_papersIn_0 (by decide) ?_
  refine st_istore_n (L' := [.ref 73, .int x1, .int 0, .null]) dX11_papersIn_1 (by decide) rfl ?_
  refine st_iconst (v := 0) dX11_papersIn_2 (by decide) ?_
  refine st_istore_n (L' := [.ref 73, .int x1, .int 0, .int 0]) dX11_papersIn_3 (by decide) rfl ?_
  exact w
set_option maxRecDepth 20000 in
set_option maxHeartbeats 2000000 in
theorem sX11_papersIn_4 {d : Nat} {h : am_H} {Z : Int32 → am_H → Prop} {x1 : Int32} {x2 : Int32} {x3 : Int32} (w : ((h.1 73 7) ≤ x3 → Z x2 h) ∧ (¬ ((h.1 73 7) ≤ x3) → (vp_in x3 74 ∧ ((¬ (h.2.2 74 x3.toNatClampNeg) = x1 → Ru mX11_papersIn none d 4 [.ref 73, .int x1, .int x2, .int (x3 + 1)] [] h Z) ∧ ((h.2.2 74 x3.toNatClampNeg) = x1 → Ru mX11_papersIn none d 4 [.ref 73, .int x1, .int (x2 ||| (1 <<< (x3 &&& 31))), .int (x3 + 1)] [] h Z))))) : Ru mX11_papersIn none d 4 [.ref 73, .int x1, .int x2, .int x3] [] h Z := by
  refine st_iload_n dX11_papersIn_4 rfl ?_
  refine st_aload_n dX11_papersIn_5 rfl ?_
  refine st_getI fl_X11_137 fk_11_7 dX11_papersIn_6 sh_73 ?_
  refine st_icmp_ge (tgt := 36) dX11_papersIn_9 (by decide) (fun c => ?_) (fun c => ?_)
  · replace w := w.1 c
    refine st_iload_n dX11_papersIn_36 rfl ?_
    exact st_ireturn rfl rfl dX11_papersIn_37 w
  · replace w := w.2 c
    refine st_aload_n dX11_papersIn_12 rfl ?_
    refine st_getF (q := 74) fl_X11_7 fk_11_0 rfl dX11_papersIn_13 sh_73 ?_
    refine st_iconst (v := 0) dX11_papersIn_16 (by decide) ?_
    refine st_iload_n dX11_papersIn_17 rfl ?_
    refine st_iadd0 dX11_papersIn_18 ?_
    have hc1 := w.1
    replace w := w.2
    refine st_iald dX11_papersIn_19 sh_74 hc1 ?_
    refine st_iload_n dX11_papersIn_20 rfl ?_
    refine st_icmp_ne (tgt := 30) dX11_papersIn_21 (by decide) (fun c => ?_) (fun c => ?_)
    · replace w := w.1 c
      refine st_iinc (L' := [.ref 73, .int x1, .int x2, .int (x3 + 1)]) dX11_papersIn_30 rfl rfl (by decide) rfl ?_
      refine st_goto (tgt := 4) dX11_papersIn_33 (by decide) ?_
      exact w
    · replace w := w.2 c
      refine st_iload_n dX11_papersIn_24 rfl ?_
      refine st_iconst (v := 1) dX11_papersIn_25 (by decide) ?_
      refine st_iload_n dX11_papersIn_26 rfl ?_
      refine st_ishl dX11_papersIn_27 ?_
      refine st_ior dX11_papersIn_28 ?_
      refine st_istore_n (L' := [.ref 73, .int x1, .int (x2 ||| (1 <<< (x3 &&& 31))), .int x3]) dX11_papersIn_29 (by decide) rfl ?_
      refine st_iinc (L' := [.ref 73, .int x1, .int (x2 ||| (1 <<< (x3 &&& 31))), .int (x3 + 1)]) dX11_papersIn_30 rfl rfl (by decide) rfl ?_
      refine st_goto (tgt := 4) dX11_papersIn_33 (by decide) ?_
      exact w
set_option maxRecDepth 20000 in
set_option maxHeartbeats 2000000 in
theorem sX11_readSet_0 {d : Nat} {h : am_H} {Z : Int32 → am_H → Prop}  (w : Ru mX11_readSet none d 4 [.ref 73, .int 0, .int 0] [] h Z) : Ru mX11_readSet none d 0 [.ref 73, .null, .null] [] h Z := by
  refine st_iconst (v := 0) dX11_readSet_0 (by decide) ?_
  refine st_istore_n (L' := [.ref 73, .int 0, .null]) dX11_readSet_1 (by decide) rfl ?_
  refine st_iconst (v := 0) dX11_readSet_2 (by decide) ?_
  refine st_istore_n (L' := [.ref 73, .int 0, .int 0]) dX11_readSet_3 (by decide) rfl ?_
  exact w
set_option maxRecDepth 20000 in
set_option maxHeartbeats 2000000 in
theorem sX11_readSet_4 {d : Nat} {h : am_H} {Z : Int32 → am_H → Prop} {x1 : Int32} {x2 : Int32} (w : ((h.1 73 7) ≤ x2 → Z x1 h) ∧ (¬ ((h.1 73 7) ≤ x2) → (vp_in (24 + x2) 74 ∧ (Ru mX11_readSet none d 4 [.ref 73, .int (x1 ||| ((h.2.2 74 (24 + x2).toNatClampNeg) <<< (x2 &&& 31))), .int (x2 + 1)] [] h Z)))) : Ru mX11_readSet none d 4 [.ref 73, .int x1, .int x2] [] h Z := by
  refine st_iload_n dX11_readSet_4 rfl ?_
  refine st_aload_n dX11_readSet_5 rfl ?_
  refine st_getI fl_X11_137 fk_11_7 dX11_readSet_6 sh_73 ?_
  refine st_icmp_ge (tgt := 32) dX11_readSet_9 (by decide) (fun c => ?_) (fun c => ?_)
  · replace w := w.1 c
    refine st_iload_n dX11_readSet_32 rfl ?_
    exact st_ireturn rfl rfl dX11_readSet_33 w
  · replace w := w.2 c
    refine st_iload_n dX11_readSet_12 rfl ?_
    refine st_aload_n dX11_readSet_13 rfl ?_
    refine st_getF (q := 74) fl_X11_7 fk_11_0 rfl dX11_readSet_14 sh_73 ?_
    refine st_bipush (v := 24) dX11_readSet_17 (by decide) ?_
    refine st_iload_n dX11_readSet_19 rfl ?_
    refine st_iadd dX11_readSet_20 ?_
    have hc1 := w.1
    replace w := w.2
    refine st_iald dX11_readSet_21 sh_74 hc1 ?_
    refine st_iload_n dX11_readSet_22 rfl ?_
    refine st_ishl dX11_readSet_23 ?_
    refine st_ior dX11_readSet_24 ?_
    refine st_istore_n (L' := [.ref 73, .int (x1 ||| ((h.2.2 74 (24 + x2).toNatClampNeg) <<< (x2 &&& 31))), .int x2]) dX11_readSet_25 (by decide) rfl ?_
    refine st_iinc (L' := [.ref 73, .int (x1 ||| ((h.2.2 74 (24 + x2).toNatClampNeg) <<< (x2 &&& 31))), .int (x2 + 1)]) dX11_readSet_26 rfl rfl (by decide) rfl ?_
    refine st_goto (tgt := 4) dX11_readSet_29 (by decide) ?_
    exact w
set_option maxRecDepth 20000 in
set_option maxHeartbeats 2000000 in
theorem sX11_sumUp_0 {d : Nat} {h : am_H} {Z : Int32 → am_H → Prop} {x1 : Int32} (w : Ru mX11_sumUp none d 4 [.ref 73, .int x1, .int 0, .int 0] [] h Z) : Ru mX11_sumUp none d 0 [.ref 73, .int x1, .null, .null] [] h Z := by
  refine st_iconst (v := 0) dX11_sumUp_0 (by decide) ?_
  refine st_istore_n (L' := [.ref 73, .int x1, .int 0, .null]) dX11_sumUp_1 (by decide) rfl ?_
  refine st_iconst (v := 0) dX11_sumUp_2 (by decide) ?_
  refine st_istore_n (L' := [.ref 73, .int x1, .int 0, .int 0]) dX11_sumUp_3 (by decide) rfl ?_
  exact w
set_option maxRecDepth 20000 in
set_option maxHeartbeats 2000000 in
theorem sX11_sumUp_4 {d : Nat} {h : am_H} {Z : Int32 → am_H → Prop} {x1 : Int32} {x2 : Int32} {x3 : Int32} (hd : 3 ≤ d) (w : (12 ≤ x3 → Z x2 h) ∧ (¬ (12 ≤ x3) → (¬ (am_mT h x3) → Ru mX11_sumUp none d 4 [.ref 73, .int x1, .int x2, .int (x3 + 1)] [] h Z) ∧ (am_mT h x3 → (x1 = 0 → (vp_in x3 12 ∧ (Ru mX11_sumUp none d 4 [.ref 73, .int x1, .int (x2 + (h.2.2 77 x3.toNatClampNeg)), .int (x3 + 1)] [] h Z))) ∧ (¬ (x1 = 0) → am_cl mX11_fullOf d [.ref 73, .int x3] h (fun r2 h3 => Ru mX11_sumUp none d 4 [.ref 73, .int x1, .int (x2 + r2), .int (x3 + 1)] [] h3 Z))))) : Ru mX11_sumUp none d 4 [.ref 73, .int x1, .int x2, .int x3] [] h Z := by
  refine st_iload_n dX11_sumUp_4 rfl ?_
  refine st_bipush (v := 12) dX11_sumUp_5 (by decide) ?_
  refine st_icmp_ge (tgt := 45) dX11_sumUp_7 (by decide) (fun c => ?_) (fun c => ?_)
  · replace w := w.1 c
    refine st_iload_n dX11_sumUp_45 rfl ?_
    exact st_ireturn rfl rfl dX11_sumUp_46 w
  · replace w := w.2 c
    refine st_aload_n dX11_sumUp_10 rfl ?_
    refine st_iload_n dX11_sumUp_11 rfl ?_
    refine st_callV (M' := mX11_isDrawer) [.int x3] [] dX11_sumUp_12 ml_X11_152 mf_X11_isDrawer mv_X11_isDrawer sh_73 rfl rfl rfl (K := fun r h' => (am_b (am_mT h x3)) = r ∧ h = h') ⟨2, by omega, iX11_isDrawer (by omega) ⟨rfl, rfl⟩⟩ (fun r1 h1 w1 => ?_)
    obtain ⟨rfl, rfl⟩ := w1
    show Ru mX11_sumUp none d 15 [.ref 73, .int x1, .int x2, .int x3] [.int (am_b (am_mT h x3))] h Z
    refine st_ifb_eq (tgt := 39) dX11_sumUp_15 (by decide) (fun c => ?_) (fun c => ?_)
    · replace w := w.1 c
      refine st_iinc (L' := [.ref 73, .int x1, .int x2, .int (x3 + 1)]) dX11_sumUp_39 rfl rfl (by decide) rfl ?_
      refine st_goto (tgt := 4) dX11_sumUp_42 (by decide) ?_
      exact w
    · replace w := w.2 c
      refine st_iload_n dX11_sumUp_18 rfl ?_
      refine st_iload_n dX11_sumUp_19 rfl ?_
      refine st_if_eq (tgt := 31) dX11_sumUp_20 (by decide) (fun c => ?_) (fun c => ?_)
      · replace w := w.1 c
        refine st_aload_n dX11_sumUp_31 rfl ?_
        refine st_getF (q := 77) fl_X11_19 fk_11_3 rfl dX11_sumUp_32 sh_73 ?_
        refine st_iload_n dX11_sumUp_35 rfl ?_
        have hc1 := w.1
        replace w := w.2
        refine st_iald dX11_sumUp_36 sh_77 hc1 ?_
        refine st_iadd dX11_sumUp_37 ?_
        refine st_istore_n (L' := [.ref 73, .int x1, .int (x2 + (h.2.2 77 x3.toNatClampNeg)), .int x3]) dX11_sumUp_38 (by decide) rfl ?_
        refine st_iinc (L' := [.ref 73, .int x1, .int (x2 + (h.2.2 77 x3.toNatClampNeg)), .int (x3 + 1)]) dX11_sumUp_39 rfl rfl (by decide) rfl ?_
        refine st_goto (tgt := 4) dX11_sumUp_42 (by decide) ?_
        exact w
      · replace w := w.2 c
        refine st_aload_n dX11_sumUp_23 rfl ?_
        refine st_iload_n dX11_sumUp_24 rfl ?_
        refine st_callV (M' := mX11_fullOf) [.int x3] [.int x2] dX11_sumUp_25 ml_X11_140 mf_X11_fullOf mv_X11_fullOf sh_73 rfl rfl rfl w (fun r2 h3 w => ?_)
        show Ru mX11_sumUp none d 28 [.ref 73, .int x1, .int x2, .int x3] [.int r2, .int x2] h3 Z
        refine st_goto (tgt := 37) dX11_sumUp_28 (by decide) ?_
        refine st_iadd dX11_sumUp_37 ?_
        refine st_istore_n (L' := [.ref 73, .int x1, .int (x2 + r2), .int x3]) dX11_sumUp_38 (by decide) rfl ?_
        refine st_iinc (L' := [.ref 73, .int x1, .int (x2 + r2), .int (x3 + 1)]) dX11_sumUp_39 rfl rfl (by decide) rfl ?_
        refine st_goto (tgt := 4) dX11_sumUp_42 (by decide) ?_
        exact w
set_option maxRecDepth 20000 in
set_option maxHeartbeats 2000000 in
theorem sX10_count_0 {d : Nat} {h : am_H} {Z : Int32 → am_H → Prop} {x1 : Int32} (w : (x1 = 0 → (am_bu (h.2.1 0 10) ∧ (Z (h.1 (h.2.1 0 10) 9) h))) ∧ (¬ x1 = 0 → (x1 = 1 → (am_bu (h.2.1 0 10) ∧ (am_cl mX0_bitsTold d [.ref (h.2.1 0 10)] h (fun r17 h18 => Z r17 h18)))) ∧ (¬ x1 = 1 → (x1 = 2 → (am_bu (h.2.1 0 10) ∧ (Z (h.1 (h.2.1 0 10) 8) h))) ∧ (¬ x1 = 2 → (x1 = 3 → (am_bu (h.2.1 0 10) ∧ (am_cl mX0_bitsOut d [.ref (h.2.1 0 10)] h (fun r13 h14 => Z r13 h14)))) ∧ (¬ x1 = 3 → (x1 = 4 → (am_bu (h.2.1 0 10) ∧ (am_cl mX0_bitsRead d [.ref (h.2.1 0 10)] h (fun r10 h11 => Z r10 h11)))) ∧ (¬ x1 = 4 → (x1 = 5 → (am_la (h.2.1 0 12) ∧ (Z (h.1 (h.2.1 0 12) 7) h))) ∧ (¬ x1 = 5 → (x1 = 6 → Z (h.1 1 1) h) ∧ (¬ x1 = 6 → (x1 = 7 → (am_bu (h.2.1 0 10) ∧ (Z (h.1 (h.2.1 0 10) 10) h))) ∧ (¬ x1 = 7 → (x1 = 8 → (am_bu (h.2.1 0 10) ∧ (am_cl mX0_fullOfAll d [.ref (h.2.1 0 10)] h (fun r5 h6 => Z r5 h6)))) ∧ (¬ x1 = 8 → (x1 = 9 → (am_bu (h.2.1 0 10) ∧ (am_cl mX0_roomOfAll d [.ref (h.2.1 0 10)] h (fun r2 h3 => Z r2 h3)))) ∧ (¬ x1 = 9 → Z (-1) h))))))))))) : Ru mX10_count none d 0 [.ref 0, .int x1] [] h Z := by
  refine st_iload_n dX10_count_0 rfl ?_
  by_cases c0 : x1 = 0
  · replace w := w.1 c0
    refine st_tableIn (off := 55) (tgt := 56) dX10_count_1 (by rw [c0]; decide) (by rw [c0]; decide) (by rw [c0]; decide) (by decide) ?_
    refine st_aload_n dX10_count_56 rfl ?_
    refine st_getP fl_X10_72 fk_10_10 dX10_count_57 sh_0 ?_
    have hc19 := w.1
    replace w := w.2
    refine st_getI fl_X10_266 fk_0_9 dX10_count_60 (bu_0 hc19) ?_
    exact st_ireturn rfl rfl dX10_count_63 w
  · replace w := w.2 c0
    by_cases c1 : x1 = 1
    · replace w := w.1 c1
      refine st_tableIn (off := 63) (tgt := 64) dX10_count_1 (by rw [c1]; decide) (by rw [c1]; decide) (by rw [c1]; decide) (by decide) ?_
      refine st_aload_n dX10_count_64 rfl ?_
      refine st_getP fl_X10_72 fk_10_10 dX10_count_65 sh_0 ?_
      have hc16 := w.1
      replace w := w.2
      refine st_callV (M' := mX0_bitsTold) [] [] dX10_count_68 ml_X10_278 mf_X0_bitsTold mv_X0_bitsTold (bu_0 hc16) rfl rfl rfl w (fun r17 h18 w => ?_)
      show Ru mX10_count none d 71 [.ref 0, .int x1] [.int r17] h18 Z
      exact st_ireturn rfl rfl dX10_count_71 w
    · replace w := w.2 c1
      by_cases c2 : x1 = 2
      · replace w := w.1 c2
        refine st_tableIn (off := 71) (tgt := 72) dX10_count_1 (by rw [c2]; decide) (by rw [c2]; decide) (by rw [c2]; decide) (by decide) ?_
        refine st_aload_n dX10_count_72 rfl ?_
        refine st_getP fl_X10_72 fk_10_10 dX10_count_73 sh_0 ?_
        have hc15 := w.1
        replace w := w.2
        refine st_getI fl_X10_200 fk_0_8 dX10_count_76 (bu_0 hc15) ?_
        exact st_ireturn rfl rfl dX10_count_79 w
      · replace w := w.2 c2
        by_cases c3 : x1 = 3
        · replace w := w.1 c3
          refine st_tableIn (off := 79) (tgt := 80) dX10_count_1 (by rw [c3]; decide) (by rw [c3]; decide) (by rw [c3]; decide) (by decide) ?_
          refine st_aload_n dX10_count_80 rfl ?_
          refine st_getP fl_X10_72 fk_10_10 dX10_count_81 sh_0 ?_
          have hc12 := w.1
          replace w := w.2
          refine st_callV (M' := mX0_bitsOut) [] [] dX10_count_84 ml_X10_175 mf_X0_bitsOut mv_X0_bitsOut (bu_0 hc12) rfl rfl rfl w (fun r13 h14 w => ?_)
          show Ru mX10_count none d 87 [.ref 0, .int x1] [.int r13] h14 Z
          exact st_ireturn rfl rfl dX10_count_87 w
        · replace w := w.2 c3
          by_cases c4 : x1 = 4
          · replace w := w.1 c4
            refine st_tableIn (off := 87) (tgt := 88) dX10_count_1 (by rw [c4]; decide) (by rw [c4]; decide) (by rw [c4]; decide) (by decide) ?_
            refine st_aload_n dX10_count_88 rfl ?_
            refine st_getP fl_X10_72 fk_10_10 dX10_count_89 sh_0 ?_
            have hc9 := w.1
            replace w := w.2
            refine st_callV (M' := mX0_bitsRead) [] [] dX10_count_92 ml_X10_179 mf_X0_bitsRead mv_X0_bitsRead (bu_0 hc9) rfl rfl rfl w (fun r10 h11 w => ?_)
            show Ru mX10_count none d 95 [.ref 0, .int x1] [.int r10] h11 Z
            exact st_ireturn rfl rfl dX10_count_95 w
          · replace w := w.2 c4
            by_cases c5 : x1 = 5
            · replace w := w.1 c5
              refine st_tableIn (off := 95) (tgt := 96) dX10_count_1 (by rw [c5]; decide) (by rw [c5]; decide) (by rw [c5]; decide) (by decide) ?_
              refine st_aload_n dX10_count_96 rfl ?_
              refine st_getP fl_X10_81 fk_10_12 dX10_count_97 sh_0 ?_
              have hc8 := w.1
              replace w := w.2
              refine st_getI fl_X10_281 fk_3_7 dX10_count_100 (la_0 hc8) ?_
              exact st_ireturn rfl rfl dX10_count_103 w
            · replace w := w.2 c5
              by_cases c6 : x1 = 6
              · replace w := w.1 c6
                refine st_tableIn (off := 103) (tgt := 104) dX10_count_1 (by rw [c6]; decide) (by rw [c6]; decide) (by rw [c6]; decide) (by decide) ?_
                refine st_aload_n dX10_count_104 rfl ?_
                refine st_getF (q := 1) fl_X10_10 fk_10_0 rfl dX10_count_105 sh_0 ?_
                refine st_getI fl_X10_131 fk_9_1 dX10_count_108 sh_1 ?_
                exact st_ireturn rfl rfl dX10_count_111 w
              · replace w := w.2 c6
                by_cases c7 : x1 = 7
                · replace w := w.1 c7
                  refine st_tableIn (off := 111) (tgt := 112) dX10_count_1 (by rw [c7]; decide) (by rw [c7]; decide) (by rw [c7]; decide) (by decide) ?_
                  refine st_aload_n dX10_count_112 rfl ?_
                  refine st_getP fl_X10_72 fk_10_10 dX10_count_113 sh_0 ?_
                  have hc7 := w.1
                  replace w := w.2
                  refine st_getI fl_X10_263 fk_0_10 dX10_count_116 (bu_0 hc7) ?_
                  exact st_ireturn rfl rfl dX10_count_119 w
                · replace w := w.2 c7
                  by_cases c8 : x1 = 8
                  · replace w := w.1 c8
                    refine st_tableIn (off := 119) (tgt := 120) dX10_count_1 (by rw [c8]; decide) (by rw [c8]; decide) (by rw [c8]; decide) (by decide) ?_
                    refine st_aload_n dX10_count_120 rfl ?_
                    refine st_getP fl_X10_72 fk_10_10 dX10_count_121 sh_0 ?_
                    have hc4 := w.1
                    replace w := w.2
                    refine st_callV (M' := mX0_fullOfAll) [] [] dX10_count_124 ml_X10_284 mf_X0_fullOfAll mv_X0_fullOfAll (bu_0 hc4) rfl rfl rfl w (fun r5 h6 w => ?_)
                    show Ru mX10_count none d 127 [.ref 0, .int x1] [.int r5] h6 Z
                    exact st_ireturn rfl rfl dX10_count_127 w
                  · replace w := w.2 c8
                    by_cases c9 : x1 = 9
                    · replace w := w.1 c9
                      refine st_tableIn (off := 127) (tgt := 128) dX10_count_1 (by rw [c9]; decide) (by rw [c9]; decide) (by rw [c9]; decide) (by decide) ?_
                      refine st_aload_n dX10_count_128 rfl ?_
                      refine st_getP fl_X10_72 fk_10_10 dX10_count_129 sh_0 ?_
                      have hc1 := w.1
                      replace w := w.2
                      refine st_callV (M' := mX0_roomOfAll) [] [] dX10_count_132 ml_X10_287 mf_X0_roomOfAll mv_X0_roomOfAll (bu_0 hc1) rfl rfl rfl w (fun r2 h3 w => ?_)
                      show Ru mX10_count none d 135 [.ref 0, .int x1] [.int r2] h3 Z
                      exact st_ireturn rfl rfl dX10_count_135 w
                    · replace w := w.2 c9
                      refine st_tableOut (tgt := 136) dX10_count_1 (am_tout (lo := 0) (hi := 9) (fun v hv1 hv2 hv => ?_)) (by decide) ?_
                      · have hq : v = 0 ∨ v = 1 ∨ v = 2 ∨ v = 3 ∨ v = 4 ∨ v = 5 ∨ v = 6 ∨ v = 7 ∨ v = 8 ∨ v = 9 := by omega
                        rcases hq with rfl | rfl | rfl | rfl | rfl | rfl | rfl | rfl | rfl | rfl
                        · exact c0 (am_toI hv (by decide))
                        · exact c1 (am_toI hv (by decide))
                        · exact c2 (am_toI hv (by decide))
                        · exact c3 (am_toI hv (by decide))
                        · exact c4 (am_toI hv (by decide))
                        · exact c5 (am_toI hv (by decide))
                        · exact c6 (am_toI hv (by decide))
                        · exact c7 (am_toI hv (by decide))
                        · exact c8 (am_toI hv (by decide))
                        · exact c9 (am_toI hv (by decide))
                      · refine st_iconst (v := (-1)) dX10_count_136 (by decide) ?_
                        exact st_ireturn rfl rfl dX10_count_137 w
set_option maxRecDepth 20000 in
set_option maxHeartbeats 2000000 in
theorem sX11_count_0 {d : Nat} {h : am_H} {Z : Int32 → am_H → Prop} {x1 : Int32} (w : (x1 = 0 → Z (h.2.2 74 72) h) ∧ (¬ x1 = 0 → (x1 = 1 → Z (h.1 73 6) h) ∧ (¬ x1 = 1 → (x1 = 2 → Z (h.1 73 7) h) ∧ (¬ x1 = 2 → (x1 = 3 → am_cl mX11_papersIn d [.ref 73, .int (-1)] h (fun r7 h8 => Z r7 h8)) ∧ (¬ x1 = 3 → (x1 = 4 → am_cl mX11_readSet d [.ref 73] h (fun r5 h6 => Z r5 h6)) ∧ (¬ x1 = 4 → (x1 = 5 → Z (h.1 73 18) h) ∧ (¬ x1 = 5 → (x1 = 6 → Z (h.1 73 9) h) ∧ (¬ x1 = 6 → (x1 = 7 → Z (h.2.2 74 73) h) ∧ (¬ x1 = 7 → (x1 = 8 → am_cl mX11_sumUp d [.ref 73, .int 1] h (fun r3 h4 => Z r3 h4)) ∧ (¬ x1 = 8 → (x1 = 9 → am_cl mX11_sumUp d [.ref 73, .int 0] h (fun r1 h2 => Z r1 h2)) ∧ (¬ x1 = 9 → Z (-1) h))))))))))) : Ru mX11_count none d 0 [.ref 73, .int x1] [] h Z := by
  refine st_iload_n dX11_count_0 rfl ?_
  by_cases c0 : x1 = 0
  · replace w := w.1 c0
    refine st_tableIn (off := 55) (tgt := 56) dX11_count_1 (by rw [c0]; decide) (by rw [c0]; decide) (by rw [c0]; decide) (by decide) ?_
    refine st_aload_n dX11_count_56 rfl ?_
    refine st_getF (q := 74) fl_X11_7 fk_11_0 rfl dX11_count_57 sh_73 ?_
    refine st_bipush (v := 72) dX11_count_60 (by decide) ?_
    refine st_iald dX11_count_62 sh_74 (by unfold vp_in; decide +kernel) ?_
    show Ru mX11_count none d 63 [.ref 73, .int x1] [.int (h.2.2 74 72)] h Z
    exact st_ireturn rfl rfl dX11_count_63 w
  · replace w := w.2 c0
    by_cases c1 : x1 = 1
    · replace w := w.1 c1
      refine st_tableIn (off := 63) (tgt := 64) dX11_count_1 (by rw [c1]; decide) (by rw [c1]; decide) (by rw [c1]; decide) (by decide) ?_
      refine st_aload_n dX11_count_64 rfl ?_
      refine st_getI fl_X11_129 fk_11_6 dX11_count_65 sh_73 ?_
      exact st_ireturn rfl rfl dX11_count_68 w
    · replace w := w.2 c1
      by_cases c2 : x1 = 2
      · replace w := w.1 c2
        refine st_tableIn (off := 68) (tgt := 69) dX11_count_1 (by rw [c2]; decide) (by rw [c2]; decide) (by rw [c2]; decide) (by decide) ?_
        refine st_aload_n dX11_count_69 rfl ?_
        refine st_getI fl_X11_137 fk_11_7 dX11_count_70 sh_73 ?_
        exact st_ireturn rfl rfl dX11_count_73 w
      · replace w := w.2 c2
        by_cases c3 : x1 = 3
        · replace w := w.1 c3
          refine st_tableIn (off := 73) (tgt := 74) dX11_count_1 (by rw [c3]; decide) (by rw [c3]; decide) (by rw [c3]; decide) (by decide) ?_
          refine st_aload_n dX11_count_74 rfl ?_
          refine st_iconst (v := (-1)) dX11_count_75 (by decide) ?_
          refine st_callV (M' := mX11_papersIn) [.int (-1)] [] dX11_count_76 ml_X11_286 mf_X11_papersIn mv_X11_papersIn sh_73 rfl rfl rfl w (fun r7 h8 w => ?_)
          show Ru mX11_count none d 79 [.ref 73, .int x1] [.int r7] h8 Z
          exact st_ireturn rfl rfl dX11_count_79 w
        · replace w := w.2 c3
          by_cases c4 : x1 = 4
          · replace w := w.1 c4
            refine st_tableIn (off := 79) (tgt := 80) dX11_count_1 (by rw [c4]; decide) (by rw [c4]; decide) (by rw [c4]; decide) (by decide) ?_
            refine st_aload_n dX11_count_80 rfl ?_
            refine st_callV (M' := mX11_readSet) [] [] dX11_count_81 ml_X11_336 mf_X11_readSet mv_X11_readSet sh_73 rfl rfl rfl w (fun r5 h6 w => ?_)
            show Ru mX11_count none d 84 [.ref 73, .int x1] [.int r5] h6 Z
            exact st_ireturn rfl rfl dX11_count_84 w
          · replace w := w.2 c4
            by_cases c5 : x1 = 5
            · replace w := w.1 c5
              refine st_tableIn (off := 84) (tgt := 85) dX11_count_1 (by rw [c5]; decide) (by rw [c5]; decide) (by rw [c5]; decide) (by decide) ?_
              refine st_aload_n dX11_count_85 rfl ?_
              refine st_getI fl_X11_256 fk_11_18 dX11_count_86 sh_73 ?_
              exact st_ireturn rfl rfl dX11_count_89 w
            · replace w := w.2 c5
              by_cases c6 : x1 = 6
              · replace w := w.1 c6
                refine st_tableIn (off := 89) (tgt := 90) dX11_count_1 (by rw [c6]; decide) (by rw [c6]; decide) (by rw [c6]; decide) (by decide) ?_
                refine st_aload_n dX11_count_90 rfl ?_
                refine st_getI fl_X11_158 fk_11_9 dX11_count_91 sh_73 ?_
                exact st_ireturn rfl rfl dX11_count_94 w
              · replace w := w.2 c6
                by_cases c7 : x1 = 7
                · replace w := w.1 c7
                  refine st_tableIn (off := 94) (tgt := 95) dX11_count_1 (by rw [c7]; decide) (by rw [c7]; decide) (by rw [c7]; decide) (by decide) ?_
                  refine st_aload_n dX11_count_95 rfl ?_
                  refine st_getF (q := 74) fl_X11_7 fk_11_0 rfl dX11_count_96 sh_73 ?_
                  refine st_bipush (v := 73) dX11_count_99 (by decide) ?_
                  refine st_iald dX11_count_101 sh_74 (by unfold vp_in; decide +kernel) ?_
                  show Ru mX11_count none d 102 [.ref 73, .int x1] [.int (h.2.2 74 73)] h Z
                  exact st_ireturn rfl rfl dX11_count_102 w
                · replace w := w.2 c7
                  by_cases c8 : x1 = 8
                  · replace w := w.1 c8
                    refine st_tableIn (off := 102) (tgt := 103) dX11_count_1 (by rw [c8]; decide) (by rw [c8]; decide) (by rw [c8]; decide) (by decide) ?_
                    refine st_aload_n dX11_count_103 rfl ?_
                    refine st_iconst (v := 1) dX11_count_104 (by decide) ?_
                    refine st_callV (M' := mX11_sumUp) [.int 1] [] dX11_count_105 ml_X11_432 mf_X11_sumUp mv_X11_sumUp sh_73 rfl rfl rfl w (fun r3 h4 w => ?_)
                    show Ru mX11_count none d 108 [.ref 73, .int x1] [.int r3] h4 Z
                    exact st_ireturn rfl rfl dX11_count_108 w
                  · replace w := w.2 c8
                    by_cases c9 : x1 = 9
                    · replace w := w.1 c9
                      refine st_tableIn (off := 108) (tgt := 109) dX11_count_1 (by rw [c9]; decide) (by rw [c9]; decide) (by rw [c9]; decide) (by decide) ?_
                      refine st_aload_n dX11_count_109 rfl ?_
                      refine st_iconst (v := 0) dX11_count_110 (by decide) ?_
                      refine st_callV (M' := mX11_sumUp) [.int 0] [] dX11_count_111 ml_X11_432 mf_X11_sumUp mv_X11_sumUp sh_73 rfl rfl rfl w (fun r1 h2 w => ?_)
                      show Ru mX11_count none d 114 [.ref 73, .int x1] [.int r1] h2 Z
                      exact st_ireturn rfl rfl dX11_count_114 w
                    · replace w := w.2 c9
                      refine st_tableOut (tgt := 115) dX11_count_1 (am_tout (lo := 0) (hi := 9) (fun v hv1 hv2 hv => ?_)) (by decide) ?_
                      · have hq : v = 0 ∨ v = 1 ∨ v = 2 ∨ v = 3 ∨ v = 4 ∨ v = 5 ∨ v = 6 ∨ v = 7 ∨ v = 8 ∨ v = 9 := by omega
                        rcases hq with rfl | rfl | rfl | rfl | rfl | rfl | rfl | rfl | rfl | rfl
                        · exact c0 (am_toI hv (by decide))
                        · exact c1 (am_toI hv (by decide))
                        · exact c2 (am_toI hv (by decide))
                        · exact c3 (am_toI hv (by decide))
                        · exact c4 (am_toI hv (by decide))
                        · exact c5 (am_toI hv (by decide))
                        · exact c6 (am_toI hv (by decide))
                        · exact c7 (am_toI hv (by decide))
                        · exact c8 (am_toI hv (by decide))
                        · exact c9 (am_toI hv (by decide))
                      · refine st_iconst (v := (-1)) dX11_count_115 (by decide) ?_
                        exact st_ireturn rfl rfl dX11_count_116 w
set_option maxRecDepth 20000 in
set_option maxHeartbeats 2000000 in
theorem sX10_seed_0 {d : Nat} {h : am_H} {Z : Int32 → am_H → Prop} {x1 : Int32} (hd : 2 ≤ d) (w : ((0 : Int32) ≤ x1 ∧ x1 ≤ (65535 : Int32) → (am_bu (h.2.1 0 10) ∧ (∀ h2 : am_H, h2 = am_sI h (h.2.1 0 10) 10 x1 → (Z 1 h2)))) ∧ (¬ ((0 : Int32) ≤ x1 ∧ x1 ≤ (65535 : Int32)) → Z 0 h)) : Ru mX10_seed none d 0 [.ref 0, .int x1] [] h Z := by
  refine st_iload_n dX10_seed_0 rfl ?_
  refine st_iconst (v := 0) dX10_seed_1 (by decide) ?_
  refine st_ldcw dX10_seed_2 kc_X10_262 ?_
  refine st_callS (M' := mX10_isFromTo) [.int x1, .int 0, .int 65535] [] dX10_seed_5 ml_X10_135 mf_X10_isFromTo ms_X10_isFromTo rfl rfl rfl (K := fun r h' => (am_b ((0 : Int32) ≤ x1 ∧ x1 ≤ (65535 : Int32))) = r ∧ h = h') ⟨1, by omega, iX10_isFromTo ⟨rfl, rfl⟩⟩ (fun r1 h1 w1 => ?_)
  obtain ⟨rfl, rfl⟩ := w1
  show Ru mX10_seed none d 8 [.ref 0, .int x1] [.int (am_b ((0 : Int32) ≤ x1 ∧ x1 ≤ (65535 : Int32)))] h Z
  refine st_ifb_ne (tgt := 13) dX10_seed_8 (by decide) (fun c => ?_) (fun c => ?_)
  · replace w := w.1 c
    refine st_aload_n dX10_seed_13 rfl ?_
    refine st_getP fl_X10_72 fk_10_10 dX10_seed_14 sh_0 ?_
    have hc1 := w.1
    replace w := w.2
    refine st_iload_n dX10_seed_17 rfl ?_
    refine st_putI flp_X10_263 fk_0_10 dX10_seed_18 (bu_0 hc1) (fun h2 eh2 => ?_)
    replace w := w h2 eh2
    refine st_iconst (v := 1) dX10_seed_21 (by decide) ?_
    exact st_ireturn rfl rfl dX10_seed_22 w
  · replace w := w.2 c
    refine st_iconst (v := 0) dX10_seed_11 (by decide) ?_
    exact st_ireturn rfl rfl dX10_seed_12 w
set_option maxRecDepth 20000 in
set_option maxHeartbeats 2000000 in
theorem sX11_seed_0 {d : Nat} {h : am_H} {Z : Int32 → am_H → Prop} {x1 : Int32} (hd : 2 ≤ d) (w : ((0 : Int32) ≤ x1 ∧ x1 ≤ (65535 : Int32) → (∀ h1 : am_H, h1 = am_sR h 74 (upd (h.2.2 74) 73 x1) → (Z 1 h1))) ∧ (¬ ((0 : Int32) ≤ x1 ∧ x1 ≤ (65535 : Int32)) → Z 0 h)) : Ru mX11_seed none d 0 [.ref 73, .int x1] [] h Z := by
  refine st_iload_n dX11_seed_0 rfl ?_
  refine st_iconst (v := 0) dX11_seed_1 (by decide) ?_
  refine st_ldcw dX11_seed_2 kc_X11_424 ?_
  refine st_callS (M' := mX11_in) [.int x1, .int 0, .int 65535] [] dX11_seed_5 ml_X11_125 mf_X11_in ms_X11_in rfl rfl rfl (K := fun r h' => (am_b ((0 : Int32) ≤ x1 ∧ x1 ≤ (65535 : Int32))) = r ∧ h = h') ⟨1, by omega, iX11_in ⟨rfl, rfl⟩⟩ (fun r1 h1 w1 => ?_)
  obtain ⟨rfl, rfl⟩ := w1
  show Ru mX11_seed none d 8 [.ref 73, .int x1] [.int (am_b ((0 : Int32) ≤ x1 ∧ x1 ≤ (65535 : Int32)))] h Z
  refine st_ifb_ne (tgt := 13) dX11_seed_8 (by decide) (fun c => ?_) (fun c => ?_)
  · replace w := w.1 c
    refine st_aload_n dX11_seed_13 rfl ?_
    refine st_getF (q := 74) fl_X11_7 fk_11_0 rfl dX11_seed_14 sh_73 ?_
    refine st_bipush (v := 73) dX11_seed_17 (by decide) ?_
    refine st_iload_n dX11_seed_19 rfl ?_
    refine st_iast dX11_seed_20 sh_74 (by unfold vp_in; decide +kernel) (fun h1 eh1 => ?_)
    replace w := w h1 eh1
    refine st_iconst (v := 1) dX11_seed_21 (by decide) ?_
    exact st_ireturn rfl rfl dX11_seed_22 w
  · replace w := w.2 c
    refine st_iconst (v := 0) dX11_seed_11 (by decide) ?_
    exact st_ireturn rfl rfl dX11_seed_12 w
def q_bs (f : Nat → Bool) (n : Nat) : Nat := am_fd (fun p a => if f p then a ||| 2 ^ p else a) 0 n 0
theorem q_bs_s (f : Nat → Bool) (n : Nat) : q_bs f (n + 1) = if f n then q_bs f n ||| 2 ^ n else q_bs f n := by
  unfold q_bs; rw [am_fd_end, Nat.zero_add]
theorem q_bs_lt (f : Nat → Bool) (n : Nat) : q_bs f n < 2 ^ n := by
  induction n with
  | zero => exact Nat.lt_succ_self 0
  | succ n ih =>
    rw [q_bs_s]
    have h1 : 2 ^ n < 2 ^ (n + 1) := Nat.pow_lt_pow_right (by decide) (by omega)
    by_cases c : f n = true
    · rw [if_pos c]; exact Nat.or_lt_two_pow (by omega) h1
    · rw [if_neg c]; omega
theorem q_bs_t (f : Nat → Bool) : ∀ (n i : Nat), (q_bs f n).testBit i = (decide (i < n) && f i)
  | 0, i => by simp [q_bs, am_fd]
  | n + 1, i => by
    rw [q_bs_s]
    by_cases c : f n = true
    · rw [if_pos c, fb_bit_set, q_bs_t f n i]
      by_cases ci : i = n
      · subst ci; simp [c]
      · have : decide (i < n + 1) = decide (i < n) := by simp; omega
        rw [this]; simp [ci]
    · rw [if_neg c, q_bs_t f n i]
      by_cases ci : i = n
      · subst ci; simp [c]
      · have : decide (i < n + 1) = decide (i < n) := by simp; omega
        rw [this]
theorem q_bs_eq {f : Nat → Bool} {n S : Nat} (hS : S < 2 ^ n) (h : ∀ i, i < n → S.testBit i = f i) : S = q_bs f n := by
  apply Nat.eq_of_testBit_eq
  intro i
  rw [q_bs_t]
  rcases Nat.lt_or_ge i n with q | q
  · simp [q, h i q]
  · have : ¬ i < n := by omega
    rw [Nat.testBit_lt_two_pow (Nat.lt_of_lt_of_le hS (Nat.pow_le_pow_right (by decide) q))]
    simp [this]
theorem q_bs_cg {f g : Nat → Bool} {n : Nat} (h : ∀ i, i < n → f i = g i) : q_bs f n = q_bs g n := am_fd_cong n 0 0 (fun i _ hi a => by rw [h i (by omega)])
/-- adding a bit, as the machine does -/
theorem q_bs_or {f : Nat → Bool} {k : Nat} (hk : k < 31) : nI (q_bs f k) ||| (1 <<< (nI k &&& 31)) = nI (q_bs f k ||| 2 ^ k) := by rw [am_shl1 (by omega), fa_or]
def q_set (B : am_AB) (k : Nat) : Nat := q_bs (fun p => q_w B p == k) (q_n B)
def q_rds (B : am_AB) : Nat := q_bs (fun p => q_rd B p == 1) (q_n B)
def q_tld (B : am_AB) : Nat := q_bs (fun i => decide (0 < q_r B i)) 12
section
variable {d b : Nat} {h : am_H} {Z : Int32 → am_H → Prop} {B : am_AB}
theorem x_bits {x : Int32} {k : Nat} (hd : 2 ≤ d) (hb : am_bu b) (hI : q_IC h b B) (hB : q_ok B) (hx : ∀ p, p < q_n B → (q_w2 (q_w B p) = x ↔ q_w B p = k)) (z : Z (nI (q_set B k)) h) : ∀ (m j : Nat), j + m = q_n B → Ru mX0_bitsIn none d 4 [.ref b, .int x, .int (nI (q_bs (fun p => q_w B p == k) j)), .int (nI j)] [] h Z
  | 0, j, hj => by
    have e : j = q_n B := by omega
    subst e
    exact sX0_bitsIn_4 hb hd ⟨fun _ => z, fun c => absurd (by rw [hI.1]; exact Int32.le_refl _) c⟩
  | m + 1, j, hj => by
    have hn := hB.1
    have ih := x_bits hd hb hI hB hx z m (j + 1) (by omega)
    rw [q_bs_s] at ih
    refine sX0_bitsIn_4 hb hd ⟨fun c => absurd c (by rw [hI.1]; exact nI_ge (by omega) (by omega)), fun _ => ⟨fun c => absurd ((q_pap hI hB).mpr ⟨j, by omega, rfl⟩) c, fun _ => ⟨vp_in_nI (by omega) (by omega), ?_⟩⟩⟩
    rw [nI_clamp (by omega), (hI.2.2.2.2 j (by omega)).2.2.1, hx j (by omega), am_or0, q_bs_or (by omega), nI_1]
    refine ⟨fun c => ?_, fun c => ?_⟩
    · rw [if_neg (by simp [c])] at ih; exact ih
    · rw [if_pos (by simp [c])] at ih; exact ih
theorem iX0_bitsIn {i : Nat} (hd : 2 ≤ d) (hb : am_bu b) (hI : q_IC h b B) (hB : q_ok B) (hi : i < 12) (z : Z (nI (q_set B i)) h) : Sp mX0_bitsIn d [.ref b, .int (nI i)] h Z :=
  Sp_of mf_X0_bitsIn rfl (Nat.le_of_ble_eq_true rfl) rfl (sX0_bitsIn_0 hb (x_bits hd hb hI hB (fun p hp => q_w2_eq hB hp hi) z (q_n B) 0 (by omega)))
theorem iX0_bitsOut (hd : 3 ≤ d) (hb : am_bu b) (hI : q_IC h b B) (hB : q_ok B) (z : Z (nI (q_set B 12)) h) : Sp mX0_bitsOut d [.ref b] h Z :=
  Sp_of mf_X0_bitsOut rfl (Nat.le_of_ble_eq_true rfl) rfl (sX0_bitsOut_0 hb ⟨2, by omega, Sp_of mf_X0_bitsIn rfl (Nat.le_of_ble_eq_true rfl) rfl (sX0_bitsIn_0 hb (x_bits (by omega) hb hI hB (fun p hp => q_w2_o hB hp) z (q_n B) 0 (by omega)))⟩)
theorem m_bits {x : Int32} {k : Nat} (hN : q_IN h 74 B) (hM : q_IM h B) (hB : q_ok B) (hx : ∀ p, p < q_n B → (q_w1 (q_w B p) = x ↔ q_w B p = k)) (z : Z (nI (q_set B k)) h) : ∀ (m j : Nat), j + m = q_n B → Ru mX11_papersIn none d 4 [.ref 73, .int x, .int (nI (q_bs (fun p => q_w B p == k) j)), .int (nI j)] [] h Z
  | 0, j, hj => by
    have e : j = q_n B := by omega
    subst e
    exact sX11_papersIn_4 ⟨fun _ => z, fun c => absurd (by rw [hM.1]; exact Int32.le_refl _) c⟩
  | m + 1, j, hj => by
    have hn := hB.1
    have ih := m_bits hN hM hB hx z m (j + 1) (by omega)
    rw [q_bs_s] at ih
    refine sX11_papersIn_4 ⟨fun c => absurd c (by rw [hM.1]; exact nI_ge (by omega) (by omega)), fun _ => ⟨vp_in_nI (by omega) (by omega), ?_⟩⟩
    rw [nI_clamp (by omega), (hN.2.2 j (by omega)).1, hx j (by omega), q_bs_or (by omega), nI_1]
    refine ⟨fun c => ?_, fun c => ?_⟩
    · rw [if_neg (by simp [c])] at ih; exact ih
    · rw [if_pos (by simp [c])] at ih; exact ih
theorem iX11_papersIn {i : Nat} (hN : q_IN h 74 B) (hM : q_IM h B) (hB : q_ok B) (hi : i < 12) (z : Z (nI (q_set B i)) h) : Sp mX11_papersIn d [.ref 73, .int (nI i)] h Z :=
  Sp_of mf_X11_papersIn rfl (Nat.le_of_ble_eq_true rfl) rfl (sX11_papersIn_0 (m_bits hN hM hB (fun p hp => q_w1_eq hB hp hi) z (q_n B) 0 (by omega)))
theorem iX11_papersOut (hN : q_IN h 74 B) (hM : q_IM h B) (hB : q_ok B) (z : Z (nI (q_set B 12)) h) : Sp mX11_papersIn d [.ref 73, .int (-1)] h Z :=
  Sp_of mf_X11_papersIn rfl (Nat.le_of_ble_eq_true rfl) rfl (sX11_papersIn_0 (m_bits hN hM hB (fun p hp => q_w1_o hB hp) z (q_n B) 0 (by omega)))
theorem x_brd (hd : 2 ≤ d) (hb : am_bu b) (hI : q_IC h b B) (hB : q_ok B) (z : Z (nI (q_rds B)) h) : ∀ (m j : Nat), j + m = q_n B → Ru mX0_bitsRead none d 4 [.ref b, .int (nI (q_bs (fun p => q_rd B p == 1) j)), .int (nI j)] [] h Z
  | 0, j, hj => by
    have e : j = q_n B := by omega
    subst e
    exact sX0_bitsRead_4 hb hd ⟨fun _ => z, fun c => absurd (by rw [hI.1]; exact Int32.le_refl _) c⟩
  | m + 1, j, hj => by
    have hn := hB.1
    have hr := (hB.2.2.2.2 j (by omega)).2.2.2.1
    have ih := x_brd hd hb hI hB z m (j + 1) (by omega)
    rw [q_bs_s] at ih
    have e0 : nI (q_rd B j) = 0 ↔ q_rd B j = 0 := nI_eq (b := 0) (by omega) (by omega)
    refine sX0_bitsRead_4 hb hd ⟨fun c => absurd c (by rw [hI.1]; exact nI_ge (by omega) (by omega)), fun _ => ⟨fun c => absurd ((q_pap hI hB).mpr ⟨j, by omega, rfl⟩) c, fun _ => ⟨vp_in_nI (by omega) (by omega), ?_⟩⟩⟩
    rw [nI_clamp (by omega), (hI.2.2.2.2 j (by omega)).2.2.2.1, e0, am_or0, q_bs_or (by omega), nI_1]
    refine ⟨fun c => ?_, fun c => ?_⟩
    · rw [if_neg (by simp [c])] at ih; exact ih
    · rw [if_pos (by simp; omega)] at ih; exact ih
theorem iX0_bitsRead (hd : 2 ≤ d) (hb : am_bu b) (hI : q_IC h b B) (hB : q_ok B) (z : Z (nI (q_rds B)) h) : Sp mX0_bitsRead d [.ref b] h Z :=
  Sp_of mf_X0_bitsRead rfl (Nat.le_of_ble_eq_true rfl) rfl (sX0_bitsRead_0 hb (x_brd hd hb hI hB z (q_n B) 0 (by omega)))
theorem m_brd (hN : q_IN h 74 B) (hM : q_IM h B) (hB : q_ok B) (z : Z (nI (q_rds B)) h) : ∀ (m j : Nat), j + m = q_n B → Ru mX11_readSet none d 4 [.ref 73, .int (nI (q_bs (fun p => q_rd B p == 1) j)), .int (nI j)] [] h Z
  | 0, j, hj => by
    have e : j = q_n B := by omega
    subst e
    exact sX11_readSet_4 ⟨fun _ => z, fun c => absurd (by rw [hM.1]; exact Int32.le_refl _) c⟩
  | m + 1, j, hj => by
    have hn := hB.1
    have hr := (hB.2.2.2.2 j (by omega)).2.2.2.1
    have ih := m_brd hN hM hB z m (j + 1) (by omega)
    rw [q_bs_s] at ih
    have e24 : (24 : Int32) + nI j = nI (24 + j) := nI_add 24 j
    refine sX11_readSet_4 ⟨fun c => absurd c (by rw [hM.1]; exact nI_ge (by omega) (by omega)), fun _ => ⟨by rw [e24]; exact vp_in_nI (by omega) (by omega), ?_⟩⟩
    rw [e24, nI_clamp (by omega), (hN.2.2 j (by omega)).2.1, nI_1]
    rcases (show q_rd B j = 0 ∨ q_rd B j = 1 by omega) with e | e
    · rw [e, show nI 0 <<< (nI j &&& 31) = nI (0 * 2 ^ j) from pk_shlN _ j (am_s5 j (by omega)) (by omega), Nat.zero_mul, nI_0, am_or0]
      rw [if_neg (by simp [e])] at ih; exact ih
    · rw [e, show nI 1 = (1 : Int32) from rfl, q_bs_or (by omega)]
      rw [if_pos (by simp [e])] at ih; exact ih
theorem iX11_readSet (hN : q_IN h 74 B) (hM : q_IM h B) (hB : q_ok B) (z : Z (nI (q_rds B)) h) : Sp mX11_readSet d [.ref 73] h Z :=
  Sp_of mf_X11_readSet rfl (Nat.le_of_ble_eq_true rfl) rfl (sX11_readSet_0 (m_brd hN hM hB z (q_n B) 0 (by omega)))
theorem x_tld (hd : 2 ≤ d) (hb : am_bu b) (hI : q_IC h b B) (hB : q_ok B) (z : Z (nI (q_tld B)) h) : ∀ (m j : Nat), j + m = 12 → Ru mX0_bitsTold none d 4 [.ref b, .int (nI (q_bs (fun i => decide (0 < q_r B i)) j)), .int (nI j)] [] h Z
  | 0, j, hj => by
    have e : j = 12 := by omega
    subst e
    exact sX0_bitsTold_4 hb hd ⟨fun _ => z, fun c => absurd (Int32.le_refl _) c⟩
  | m + 1, j, hj => by
    have ih := x_tld hd hb hI hB z m (j + 1) (by omega)
    rw [q_bs_s] at ih
    refine sX0_bitsTold_4 hb hd ⟨fun c => absurd c (nI_ge (b := 12) (by omega) (by omega)), fun _ => ?_⟩
    rw [q_told hI hB (by omega), am_or0, q_bs_or (by omega), nI_1]
    refine ⟨fun c => ?_, fun c => ?_⟩
    · rw [if_neg (by simp; omega)] at ih; exact ih
    · rw [if_pos (by simp; omega)] at ih; exact ih
theorem iX0_bitsTold (hd : 2 ≤ d) (hb : am_bu b) (hI : q_IC h b B) (hB : q_ok B) (z : Z (nI (q_tld B)) h) : Sp mX0_bitsTold d [.ref b] h Z :=
  Sp_of mf_X0_bitsTold rfl (Nat.le_of_ble_eq_true rfl) rfl (sX0_bitsTold_0 hb (x_tld hd hb hI hB z 12 0 (by omega)))
theorem q_dr (hM : q_IM h B) : h.1 73 6 = nI (q_tld B) := by
  obtain ⟨S, hS, e, hb⟩ := hM.2.1
  rw [e]
  congr 1
  refine q_bs_eq hS (fun i hi => ?_)
  have := hb i hi
  by_cases c : 0 < q_r B i
  · simp [c, this.mpr c]
  · have n1 : ¬ S.testBit i = true := fun q => c (this.mp q)
    simp [c]; simpa using n1
theorem x_fa (hb : am_bu b) (hI : q_IC h b B) (z : Z (nI (am_sm (q_F B) 12)) h) : ∀ (m j : Nat), j + m = 12 → Ru mX0_fullOfAll none d 4 [.ref b, .int (nI (am_sm (q_F B) j)), .int (nI j)] [] h Z
  | 0, j, hj => by
    have e : j = 12 := by omega
    subst e
    exact sX0_fullOfAll_4 hb ⟨fun _ => z, fun c => absurd (Int32.le_refl _) c⟩
  | m + 1, j, hj => by
    have ih := x_fa hb hI z m (j + 1) (by omega)
    refine sX0_fullOfAll_4 hb ⟨fun c => absurd c (nI_ge (b := 12) (by omega) (by omega)), fun _ => ⟨vp_in_nI (by omega) (by omega), ?_⟩⟩
    rw [nI_clamp (by omega), (hI.2.2.2.1 j (by omega)).2.1, nI_add, nI_1]; exact ih
theorem x_ra (hb : am_bu b) (hI : q_IC h b B) (z : Z (nI (am_sm (q_r B) 12)) h) : ∀ (m j : Nat), j + m = 12 → Ru mX0_roomOfAll none d 4 [.ref b, .int (nI (am_sm (q_r B) j)), .int (nI j)] [] h Z
  | 0, j, hj => by
    have e : j = 12 := by omega
    subst e
    exact sX0_roomOfAll_4 hb ⟨fun _ => z, fun c => absurd (Int32.le_refl _) c⟩
  | m + 1, j, hj => by
    have ih := x_ra hb hI z m (j + 1) (by omega)
    refine sX0_roomOfAll_4 hb ⟨fun c => absurd c (nI_ge (b := 12) (by omega) (by omega)), fun _ => ⟨vp_in_nI (by omega) (by omega), ?_⟩⟩
    rw [nI_clamp (by omega), (hI.2.2.2.1 j (by omega)).1, nI_add, nI_1]; exact ih
theorem m_sum {x : Int32} (hx : x = 0 ∨ x = 1) (hd : 4 ≤ d) (hN : q_IN h 74 B) (hM : q_IM h B) (hB : q_ok B) (z : Z (nI (am_sm (if x = 0 then q_r B else q_F B) 12)) h) : ∀ (m j : Nat), j + m = 12 → Ru mX11_sumUp none d 4 [.ref 73, .int x, .int (nI (am_sm (if x = 0 then q_r B else q_F B) j)), .int (nI j)] [] h Z
  | 0, j, hj => by
    have e : j = 12 := by omega
    subst e
    exact sX11_sumUp_4 (by omega) ⟨fun _ => z, fun c => absurd (Int32.le_refl _) c⟩
  | m + 1, j, hj => by
    have ih := m_sum hx hd hN hM hB z m (j + 1) (by omega)
    rw [am_sm_s] at ih
    have hr := hB.2.2.2.1 j (by omega)
    refine sX11_sumUp_4 (by omega) ⟨fun c => absurd c (nI_ge (b := 12) (by omega) (by omega)), fun _ => ⟨fun c => ?_, fun c => ⟨fun c2 => ⟨vp_in_nI (by omega) (by omega), ?_⟩, fun c2 => ⟨2, by omega, ?_⟩⟩⟩⟩
    · have r0 : q_r B j = 0 := by
        rcases Nat.eq_zero_or_pos (q_r B j) with g | g
        · exact g
        · exact absurd ((q_mT hM).mpr ⟨j, by omega, rfl, g⟩) c
      have f0 : (if x = 0 then q_r B else q_F B) j = 0 := by by_cases cx : x = 0 <;> simp [cx] <;> omega
      rw [f0, Nat.add_zero] at ih
      rw [nI_1]; exact ih
    · obtain ⟨i, hi, e, g⟩ := (q_mT hM).mp c
      have e2 : j = i := (nI_eq (by omega) (by omega)).mp e
      subst e2
      rw [nI_clamp (by omega), hM.2.2.1 j (by omega) g, nI_add, nI_1]
      simp only [c2, if_true] at ih ⊢; exact ih
    · refine iX11_fullOf hN hM hB (by omega) ?_
      rw [nI_add, nI_1]
      simp only [c2, if_false] at ih ⊢; exact ih
end
theorem pp_count {d : Nat} {h : am_H} {K : Int32 → Int32 → am_H → Prop} {x : Int32} {B : am_AB} (hd : 12 ≤ d) (hb : am_bu (h.2.1 0 10)) (hI : q_IC h (h.2.1 0 10) B) (hN : q_IN h 74 B) (hM : q_IM h B) (hB : q_ok B) (ht : h.1 1 1 = h.1 73 9) (hl : am_la (h.2.1 0 12)) (hr : h.1 (h.2.1 0 12) 7 = h.1 73 18) (z : ∀ r, K r r h) : am_cl mX10_count d [.ref 0, .int x] h (fun r1 h1 => am_cl mX11_count d [.ref 73, .int x] h1 (fun r2 h2 => K r1 r2 h2)) := by
  refine ⟨10, by omega, Sp_of mf_X10_count rfl (Nat.le_of_ble_eq_true rfl) rfl (sX10_count_0 ?_)⟩
  have go : ∀ r (w : Ru mX11_count none 10 0 [.ref 73, .int x] [] h (fun r2 h2 => r2 = r ∧ h2 = h)), am_cl mX11_count d [.ref 73, .int x] h (fun r2 h2 => K r r2 h2) := fun r w => by
    refine ⟨10, by omega, Sp_of mf_X11_count rfl (Nat.le_of_ble_eq_true rfl) rfl (am_ru_mono w (fun r2 h2 q => ?_))⟩
    obtain ⟨rfl, rfl⟩ := q
    exact z _
  refine ⟨fun c => ⟨hb, go _ (sX11_count_0 ?_)⟩, fun c0 => ⟨fun c => ⟨hb, ⟨8, by omega, iX0_bitsTold (by omega) hb hI hB (go _ (sX11_count_0 ?_))⟩⟩, fun c1 => ⟨fun c => ⟨hb, go _ (sX11_count_0 ?_)⟩, fun c2 => ⟨fun c => ⟨hb, ⟨8, by omega, iX0_bitsOut (by omega) hb hI hB (go _ (sX11_count_0 ?_))⟩⟩, fun c3 => ⟨fun c => ⟨hb, ⟨8, by omega, iX0_bitsRead (by omega) hb hI hB (go _ (sX11_count_0 ?_))⟩⟩, fun c4 => ⟨fun c => ⟨hl, go _ (sX11_count_0 ?_)⟩, fun c5 => ⟨fun c => go _ (sX11_count_0 ?_), fun c6 => ⟨fun c => ⟨hb, go _ (sX11_count_0 ?_)⟩, fun c7 => ⟨fun c => ⟨hb, ⟨8, by omega, Sp_of mf_X0_fullOfAll rfl (Nat.le_of_ble_eq_true rfl) rfl (sX0_fullOfAll_0 hb (x_fa hb hI (go _ (sX11_count_0 ?_)) 12 0 (by omega)))⟩⟩, fun c8 => ⟨fun c => ⟨hb, ⟨8, by omega, Sp_of mf_X0_roomOfAll rfl (Nat.le_of_ble_eq_true rfl) rfl (sX0_roomOfAll_0 hb (x_ra hb hI (go _ (sX11_count_0 ?_)) 12 0 (by omega)))⟩⟩, fun c9 => go _ (sX11_count_0 ?_)⟩⟩⟩⟩⟩⟩⟩⟩⟩⟩
  · exact ⟨fun _ => ⟨hN.1.trans hI.2.1.symm, rfl⟩, fun q => absurd c q⟩
  · subst c; exact ⟨fun q => absurd q (by decide), fun _ => ⟨fun _ => ⟨q_dr hM, rfl⟩, fun q => absurd rfl q⟩⟩
  · subst c; exact ⟨fun q => absurd q (by decide), fun _ => ⟨fun q => absurd q (by decide), fun _ => ⟨fun _ => ⟨hM.1.trans hI.1.symm, rfl⟩, fun q => absurd rfl q⟩⟩⟩
  · subst c; exact ⟨fun q => absurd q (by decide), fun _ => ⟨fun q => absurd q (by decide), fun _ => ⟨fun q => absurd q (by decide), fun _ => ⟨fun _ => ⟨8, by omega, iX11_papersOut hN hM hB ⟨rfl, rfl⟩⟩, fun q => absurd rfl q⟩⟩⟩⟩
  · subst c; exact ⟨fun q => absurd q (by decide), fun _ => ⟨fun q => absurd q (by decide), fun _ => ⟨fun q => absurd q (by decide), fun _ => ⟨fun q => absurd q (by decide), fun _ => ⟨fun _ => ⟨8, by omega, iX11_readSet hN hM hB ⟨rfl, rfl⟩⟩, fun q => absurd rfl q⟩⟩⟩⟩⟩
  · subst c; exact ⟨fun q => absurd q (by decide), fun _ => ⟨fun q => absurd q (by decide), fun _ => ⟨fun q => absurd q (by decide), fun _ => ⟨fun q => absurd q (by decide), fun _ => ⟨fun q => absurd q (by decide), fun _ => ⟨fun _ => ⟨hr.symm, rfl⟩, fun q => absurd rfl q⟩⟩⟩⟩⟩⟩
  · subst c; exact ⟨fun q => absurd q (by decide), fun _ => ⟨fun q => absurd q (by decide), fun _ => ⟨fun q => absurd q (by decide), fun _ => ⟨fun q => absurd q (by decide), fun _ => ⟨fun q => absurd q (by decide), fun _ => ⟨fun q => absurd q (by decide), fun _ => ⟨fun _ => ⟨ht.symm, rfl⟩, fun q => absurd rfl q⟩⟩⟩⟩⟩⟩⟩
  · subst c; exact ⟨fun q => absurd q (by decide), fun _ => ⟨fun q => absurd q (by decide), fun _ => ⟨fun q => absurd q (by decide), fun _ => ⟨fun q => absurd q (by decide), fun _ => ⟨fun q => absurd q (by decide), fun _ => ⟨fun q => absurd q (by decide), fun _ => ⟨fun q => absurd q (by decide), fun _ => ⟨fun _ => ⟨hN.2.1.trans hI.2.2.1.symm, rfl⟩, fun q => absurd rfl q⟩⟩⟩⟩⟩⟩⟩⟩
  · subst c; exact ⟨fun q => absurd q (by decide), fun _ => ⟨fun q => absurd q (by decide), fun _ => ⟨fun q => absurd q (by decide), fun _ => ⟨fun q => absurd q (by decide), fun _ => ⟨fun q => absurd q (by decide), fun _ => ⟨fun q => absurd q (by decide), fun _ => ⟨fun q => absurd q (by decide), fun _ => ⟨fun q => absurd q (by decide), fun _ => ⟨fun _ => ⟨8, by omega, Sp_of mf_X11_sumUp rfl (Nat.le_of_ble_eq_true rfl) rfl (sX11_sumUp_0 (m_sum (x := 1) (Or.inr rfl) (by omega) hN hM hB ⟨rfl, rfl⟩ 12 0 (by omega)))⟩, fun q => absurd rfl q⟩⟩⟩⟩⟩⟩⟩⟩⟩
  · subst c; exact ⟨fun q => absurd q (by decide), fun _ => ⟨fun q => absurd q (by decide), fun _ => ⟨fun q => absurd q (by decide), fun _ => ⟨fun q => absurd q (by decide), fun _ => ⟨fun q => absurd q (by decide), fun _ => ⟨fun q => absurd q (by decide), fun _ => ⟨fun q => absurd q (by decide), fun _ => ⟨fun q => absurd q (by decide), fun _ => ⟨fun q => absurd q (by decide), fun _ => ⟨fun _ => ⟨8, by omega, Sp_of mf_X11_sumUp rfl (Nat.le_of_ble_eq_true rfl) rfl (sX11_sumUp_0 (m_sum (x := 0) (Or.inl rfl) (by omega) hN hM hB ⟨rfl, rfl⟩ 12 0 (by omega)))⟩, fun q => absurd rfl q⟩⟩⟩⟩⟩⟩⟩⟩⟩⟩
  · exact ⟨fun q => absurd q c0, fun _ => ⟨fun q => absurd q c1, fun _ => ⟨fun q => absurd q c2, fun _ => ⟨fun q => absurd q c3, fun _ => ⟨fun q => absurd q c4, fun _ => ⟨fun q => absurd q c5, fun _ => ⟨fun q => absurd q c6, fun _ => ⟨fun q => absurd q c7, fun _ => ⟨fun q => absurd q c8, fun _ => ⟨fun q => absurd q c9, fun _ => ⟨rfl, rfl⟩⟩⟩⟩⟩⟩⟩⟩⟩⟩⟩
