-- keep, undo
set_option maxRecDepth 20000 in
set_option maxHeartbeats 2000000 in
theorem sX10_keep_0 {d : Nat} {h : am_H} {Z : Int32 → am_H → Prop}  (w : (am_bu (h.2.1 0 10) ∧ (am_cl mX0_copyFrom d [.ref 29, .ref (h.2.1 0 10)] h (fun r2 h3 => (∀ h4 : am_H, h4 = am_sI h3 0 14 1 → (am_bu (h4.2.1 0 10) ∧ (Z (h4.1 (h4.2.1 0 10) 9) h4))))))) : Ru mX10_keep none d 0 [.ref 0] [] h Z := by
  refine st_aload_n dX10_keep_0 rfl ?_
  refine st_getF (q := 29) fl_X10_69 fk_10_9 rfl dX10_keep_1 sh_0 ?_
  refine st_aload_n dX10_keep_4 rfl ?_
  refine st_getP fl_X10_72 fk_10_10 dX10_keep_5 sh_0 ?_
  have hc1 := w.1
  replace w := w.2
  refine st_callV (M' := mX0_copyFrom) [.ref (h.2.1 0 10)] [] dX10_keep_8 ml_X10_166 mf_X0_copyFrom mv_X0_copyFrom sh_29 rfl rfl rfl w (fun r2 h3 w => ?_)
  show Ru mX10_keep none d 11 [.ref 0] [] h3 Z
  refine st_aload_n dX10_keep_11 rfl ?_
  refine st_iconst (v := 1) dX10_keep_12 (by decide) ?_
  refine st_putZ flp_X10_97 fk_10_14 (by decide) dX10_keep_13 sh_0 (fun h4 eh4 => ?_)
  replace w := w h4 eh4
  refine st_aload_n dX10_keep_16 rfl ?_
  refine st_getP fl_X10_72 fk_10_10 dX10_keep_17 sh_0 ?_
  have hc5 := w.1
  replace w := w.2
  refine st_getI fl_X10_266 fk_0_9 dX10_keep_20 (bu_0 hc5) ?_
  exact st_ireturn rfl rfl dX10_keep_23 w
set_option maxRecDepth 20000 in
set_option maxHeartbeats 2000000 in
theorem sX11_keep_0 {d : Nat} {h : am_H} {Z : Int32 → am_H → Prop}  (w : (∀ h1 : am_H, h1 = am_sI h 73 60 1 → (∀ h2 : am_H, h2 = am_sI h1 73 61 (h1.1 73 7) → (am_cl mX11_copies d [.ref 74, .ref 76] h2 (fun r3 h4 => Z (h4.2.2 74 72) h4))))) : Ru mX11_keep none d 0 [.ref 73] [] h Z := by
  refine st_aload_n dX11_keep_0 rfl ?_
  refine st_iconst (v := 1) dX11_keep_1 (by decide) ?_
  refine st_putZ flp_X11_425 fk_11_60 (by decide) dX11_keep_2 sh_73 (fun h1 eh1 => ?_)
  replace w := w h1 eh1
  refine st_aload_n dX11_keep_5 rfl ?_
  refine st_aload_n dX11_keep_6 rfl ?_
  refine st_getI fl_X11_137 fk_11_7 dX11_keep_7 sh_73 ?_
  refine st_putI flp_X11_429 fk_11_61 dX11_keep_10 sh_73 (fun h2 eh2 => ?_)
  replace w := w h2 eh2
  refine st_aload_n dX11_keep_13 rfl ?_
  refine st_getF (q := 74) fl_X11_7 fk_11_0 rfl dX11_keep_14 sh_73 ?_
  refine st_aload_n dX11_keep_17 rfl ?_
  refine st_getF (q := 76) fl_X11_16 fk_11_2 rfl dX11_keep_18 sh_73 ?_
  refine st_callS (M' := mX11_copies) [.ref 74, .ref 76] [] dX11_keep_21 ml_X11_332 mf_X11_copies ms_X11_copies rfl rfl rfl w (fun r3 h4 w => ?_)
  show Ru mX11_keep none d 24 [.ref 73] [] h4 Z
  refine st_aload_n dX11_keep_24 rfl ?_
  refine st_getF (q := 74) fl_X11_7 fk_11_0 rfl dX11_keep_25 sh_73 ?_
  refine st_bipush (v := 72) dX11_keep_28 (by decide) ?_
  refine st_iald dX11_keep_30 sh_74 (by unfold vp_in; decide +kernel) ?_
  show Ru mX11_keep none d 31 [.ref 73] [.int (h4.2.2 74 72)] h4 Z
  exact st_ireturn rfl rfl dX11_keep_31 w
set_option maxRecDepth 20000 in
set_option maxHeartbeats 2000000 in
theorem sX10_undo_0 {d : Nat} {h : am_H} {Z : Int32 → am_H → Prop}  (w : (¬ (h.1 0 14) = 0 → (am_bu (h.2.1 0 10) ∧ (am_cl mX0_putBack d [.ref (h.2.1 0 10), .ref 29] h (fun r2 h3 => (am_bu (h3.2.1 0 10) ∧ (am_cl mX0_takeTime d [.ref (h3.2.1 0 10), .ref 29] h3 (fun r5 h6 => Z 1 h6))))))) ∧ ((h.1 0 14) = 0 → Z 0 h)) : Ru mX10_undo none d 0 [.ref 0] [] h Z := by
  refine st_aload_n dX10_undo_0 rfl ?_
  refine st_getI fl_X10_97 fk_10_14 dX10_undo_1 sh_0 ?_
  refine st_if_ne (tgt := 9) dX10_undo_4 (by decide) (fun c => ?_) (fun c => ?_)
  · replace w := w.1 c
    refine st_aload_n dX10_undo_9 rfl ?_
    refine st_getP fl_X10_72 fk_10_10 dX10_undo_10 sh_0 ?_
    have hc1 := w.1
    replace w := w.2
    refine st_aload_n dX10_undo_13 rfl ?_
    refine st_getF (q := 29) fl_X10_69 fk_10_9 rfl dX10_undo_14 sh_0 ?_
    refine st_callV (M' := mX0_putBack) [.ref 29] [] dX10_undo_17 ml_X10_269 mf_X0_putBack mv_X0_putBack (bu_0 hc1) rfl rfl rfl w (fun r2 h3 w => ?_)
    show Ru mX10_undo none d 20 [.ref 0] [] h3 Z
    refine st_aload_n dX10_undo_20 rfl ?_
    refine st_getP fl_X10_72 fk_10_10 dX10_undo_21 sh_0 ?_
    have hc4 := w.1
    replace w := w.2
    refine st_aload_n dX10_undo_24 rfl ?_
    refine st_getF (q := 29) fl_X10_69 fk_10_9 rfl dX10_undo_25 sh_0 ?_
    refine st_callV (M' := mX0_takeTime) [.ref 29] [] dX10_undo_28 ml_X10_152 mf_X0_takeTime mv_X0_takeTime (bu_0 hc4) rfl rfl rfl w (fun r5 h6 w => ?_)
    show Ru mX10_undo none d 31 [.ref 0] [] h6 Z
    refine st_iconst (v := 1) dX10_undo_31 (by decide) ?_
    exact st_ireturn rfl rfl dX10_undo_32 w
  · replace w := w.2 c
    refine st_iconst (v := 0) dX10_undo_7 (by decide) ?_
    exact st_ireturn rfl rfl dX10_undo_8 w
set_option maxRecDepth 20000 in
set_option maxHeartbeats 2000000 in
theorem sX11_undo_0 {d : Nat} {h : am_H} {Z : Int32 → am_H → Prop}  (hd : 2 ≤ d) (w : (¬ (h.1 73 60) = 0 → Ru mX11_undo none d 23 [.ref 73, .int (am_min (h.1 73 7) (h.1 73 61)), .int 0, .null] [] h Z) ∧ ((h.1 73 60) = 0 → Z 0 h)) : Ru mX11_undo none d 0 [.ref 73, .null, .null, .null] [] h Z := by
  refine st_aload_n dX11_undo_0 rfl ?_
  refine st_getI fl_X11_425 fk_11_60 dX11_undo_1 sh_73 ?_
  refine st_if_ne (tgt := 9) dX11_undo_4 (by decide) (fun c => ?_) (fun c => ?_)
  · replace w := w.1 c
    refine st_aload_n dX11_undo_9 rfl ?_
    refine st_getI fl_X11_137 fk_11_7 dX11_undo_10 sh_73 ?_
    refine st_aload_n dX11_undo_13 rfl ?_
    refine st_getI fl_X11_429 fk_11_61 dX11_undo_14 sh_73 ?_
    refine st_callS (M' := mX11_min) [.int (h.1 73 7), .int (h.1 73 61)] [] dX11_undo_17 ml_X11_314 mf_X11_min ms_X11_min rfl rfl rfl (K := fun r h' => (am_min (h.1 73 7) (h.1 73 61)) = r ∧ h = h') ⟨1, by omega, iX11_min ⟨rfl, rfl⟩⟩ (fun r1 h1 w1 => ?_)
    obtain ⟨rfl, rfl⟩ := w1
    show Ru mX11_undo none d 20 [.ref 73, .null, .null, .null] [.int (am_min (h.1 73 7) (h.1 73 61))] h Z
    refine st_istore_n (L' := [.ref 73, .int (am_min (h.1 73 7) (h.1 73 61)), .null, .null]) dX11_undo_20 (by decide) rfl ?_
    refine st_iconst (v := 0) dX11_undo_21 (by decide) ?_
    refine st_istore_n (L' := [.ref 73, .int (am_min (h.1 73 7) (h.1 73 61)), .int 0, .null]) dX11_undo_22 (by decide) rfl ?_
    exact w
  · replace w := w.2 c
    refine st_iconst (v := 0) dX11_undo_7 (by decide) ?_
    exact st_ireturn rfl rfl dX11_undo_8 w
set_option maxRecDepth 20000 in
set_option maxHeartbeats 2000000 in
theorem sX11_undo_23 {d : Nat} {h : am_H} {Z : Int32 → am_H → Prop} {x1 : Int32} {x2 : Int32} {u3 : Value} (w : (x1 ≤ x2 → Ru mX11_undo none d 41 [.ref 73, .int x1, .int 0, u3] [] h Z) ∧ (¬ (x1 ≤ x2) → am_cl mX11_takesOut d [.ref 73, .int x2] h (fun r1 h2 => Ru mX11_undo none d 23 [.ref 73, .int x1, .int (x2 + 1), u3] [] h2 Z))) : Ru mX11_undo none d 23 [.ref 73, .int x1, .int x2, u3] [] h Z := by
  refine st_iload_n dX11_undo_23 rfl ?_
  refine st_iload_n dX11_undo_24 rfl ?_
  refine st_icmp_ge (tgt := 39) dX11_undo_25 (by decide) (fun c => ?_) (fun c => ?_)
  · replace w := w.1 c
    refine st_iconst (v := 0) dX11_undo_39 (by decide) ?_
    refine st_istore_n (L' := [.ref 73, .int x1, .int 0, u3]) dX11_undo_40 (by decide) rfl ?_
    exact w
  · replace w := w.2 c
    refine st_aload_n dX11_undo_28 rfl ?_
    refine st_iload_n dX11_undo_29 rfl ?_
    refine st_callV (M' := mX11_takesOut) [.int x2] [] dX11_undo_30 ml_X11_148 mf_X11_takesOut mv_X11_takesOut sh_73 rfl rfl rfl w (fun r1 h2 w => ?_)
    show Ru mX11_undo none d 33 [.ref 73, .int x1, .int x2, u3] [] h2 Z
    refine st_iinc (L' := [.ref 73, .int x1, .int (x2 + 1), u3]) dX11_undo_33 rfl rfl (by decide) rfl ?_
    refine st_goto (tgt := 23) dX11_undo_36 (by decide) ?_
    exact w
set_option maxRecDepth 20000 in
set_option maxHeartbeats 2000000 in
theorem sX11_undo_41 {d : Nat} {h : am_H} {Z : Int32 → am_H → Prop} {x1 : Int32} {x2 : Int32} {u3 : Value} (hd : 3 ≤ d) (w : (x1 ≤ x2 → (∀ h1 : am_H, h1 = am_sR h 74 (upd (h.2.2 74) 72 (h.2.2 76 72)) → (∀ h2 : am_H, h2 = am_sR h1 74 (upd (h1.2.2 74) 73 (h1.2.2 76 73)) → (Z 1 h2)))) ∧ (¬ (x1 ≤ x2) → (vp_in x2 74 ∧ (((h.2.2 76 x2.toNatClampNeg) = (-1) → Ru mX11_undo none d 41 [.ref 73, .int x1, .int (x2 + 1), .int (h.2.2 76 x2.toNatClampNeg)] [] h Z) ∧ (¬ ((h.2.2 76 x2.toNatClampNeg) = (-1)) → (¬ (am_mT h (h.2.2 76 x2.toNatClampNeg)) → Ru mX11_undo none d 41 [.ref 73, .int x1, .int (x2 + 1), .int (h.2.2 76 x2.toNatClampNeg)] [] h Z) ∧ (am_mT h (h.2.2 76 x2.toNatClampNeg) → am_cl mX11_roomLeft d [.ref 73, .int (h.2.2 76 x2.toNatClampNeg)] h (fun r4 h5 => (vp_in x2 24 ∧ (((h5.2.2 79 x2.toNatClampNeg) ≤ r4 → (∀ h7 : am_H, h7 = am_sR h5 74 (upd (h5.2.2 74) x2.toNatClampNeg (h.2.2 76 x2.toNatClampNeg)) → (vp_in (24 + x2) 74 ∧ (∀ h9 : am_H, h9 = am_sR h7 74 (upd (h7.2.2 74) (24 + x2).toNatClampNeg (h7.2.2 76 (24 + x2).toNatClampNeg)) → (vp_in (48 + x2) 74 ∧ (∀ h11 : am_H, h11 = am_sR h9 74 (upd (h9.2.2 74) (48 + x2).toNatClampNeg (h9.2.2 76 (48 + x2).toNatClampNeg)) → (Ru mX11_undo none d 41 [.ref 73, .int x1, .int (x2 + 1), .int (h.2.2 76 x2.toNatClampNeg)] [] h11 Z))))))) ∧ (¬ ((h5.2.2 79 x2.toNatClampNeg) ≤ r4) → Ru mX11_undo none d 41 [.ref 73, .int x1, .int (x2 + 1), .int (h.2.2 76 x2.toNatClampNeg)] [] h5 Z)))))))))) : Ru mX11_undo none d 41 [.ref 73, .int x1, .int x2, u3] [] h Z := by
  refine st_iload_n dX11_undo_41 rfl ?_
  refine st_iload_n dX11_undo_42 rfl ?_
  refine st_icmp_ge (tgt := 136) dX11_undo_43 (by decide) (fun c => ?_) (fun c => ?_)
  · replace w := w.1 c
    refine st_aload_n dX11_undo_136 rfl ?_
    refine st_getF (q := 74) fl_X11_7 fk_11_0 rfl dX11_undo_137 sh_73 ?_
    refine st_bipush (v := 72) dX11_undo_140 (by decide) ?_
    refine st_aload_n dX11_undo_142 rfl ?_
    refine st_getF (q := 76) fl_X11_16 fk_11_2 rfl dX11_undo_143 sh_73 ?_
    refine st_bipush (v := 72) dX11_undo_146 (by decide) ?_
    refine st_iald dX11_undo_148 sh_76 (by unfold vp_in; decide +kernel) ?_
    show Ru mX11_undo none d 149 [.ref 73, .int x1, .int x2, u3] [.int (h.2.2 76 72), .int 72, .ref 74] h Z
    refine st_iast dX11_undo_149 sh_74 (by unfold vp_in; decide +kernel) (fun h1 eh1 => ?_)
    replace w := w h1 eh1
    refine st_aload_n dX11_undo_150 rfl ?_
    refine st_getF (q := 74) fl_X11_7 fk_11_0 rfl dX11_undo_151 sh_73 ?_
    refine st_bipush (v := 73) dX11_undo_154 (by decide) ?_
    refine st_aload_n dX11_undo_156 rfl ?_
    refine st_getF (q := 76) fl_X11_16 fk_11_2 rfl dX11_undo_157 sh_73 ?_
    refine st_bipush (v := 73) dX11_undo_160 (by decide) ?_
    refine st_iald dX11_undo_162 sh_76 (by unfold vp_in; decide +kernel) ?_
    show Ru mX11_undo none d 163 [.ref 73, .int x1, .int x2, u3] [.int (h1.2.2 76 73), .int 73, .ref 74] h1 Z
    refine st_iast dX11_undo_163 sh_74 (by unfold vp_in; decide +kernel) (fun h2 eh2 => ?_)
    replace w := w h2 eh2
    refine st_iconst (v := 1) dX11_undo_164 (by decide) ?_
    exact st_ireturn rfl rfl dX11_undo_165 w
  · replace w := w.2 c
    refine st_aload_n dX11_undo_46 rfl ?_
    refine st_getF (q := 76) fl_X11_16 fk_11_2 rfl dX11_undo_47 sh_73 ?_
    refine st_iconst (v := 0) dX11_undo_50 (by decide) ?_
    refine st_iload_n dX11_undo_51 rfl ?_
    refine st_iadd0 dX11_undo_52 ?_
    have hc3 := w.1
    replace w := w.2
    refine st_iald dX11_undo_53 sh_76 hc3 ?_
    refine st_istore_n (L' := [.ref 73, .int x1, .int x2, .int (h.2.2 76 x2.toNatClampNeg)]) dX11_undo_54 (by decide) rfl ?_
    refine st_iload_n dX11_undo_55 rfl ?_
    refine st_iconst (v := (-1)) dX11_undo_56 (by decide) ?_
    refine st_icmp_eq (tgt := 130) dX11_undo_57 (by decide) (fun c => ?_) (fun c => ?_)
    · replace w := w.1 c
      refine st_iinc (L' := [.ref 73, .int x1, .int (x2 + 1), .int (h.2.2 76 x2.toNatClampNeg)]) dX11_undo_130 rfl rfl (by decide) rfl ?_
      refine st_goto (tgt := 41) dX11_undo_133 (by decide) ?_
      exact w
    · replace w := w.2 c
      refine st_aload_n dX11_undo_60 rfl ?_
      refine st_iload_n dX11_undo_61 rfl ?_
      refine st_callV (M' := mX11_isDrawer) [.int (h.2.2 76 x2.toNatClampNeg)] [] dX11_undo_62 ml_X11_152 mf_X11_isDrawer mv_X11_isDrawer sh_73 rfl rfl rfl (K := fun r h' => (am_b (am_mT h (h.2.2 76 x2.toNatClampNeg))) = r ∧ h = h') ⟨2, by omega, iX11_isDrawer (by omega) ⟨rfl, rfl⟩⟩ (fun r1 h1 w1 => ?_)
      obtain ⟨rfl, rfl⟩ := w1
      show Ru mX11_undo none d 65 [.ref 73, .int x1, .int x2, .int (h.2.2 76 x2.toNatClampNeg)] [.int (am_b (am_mT h (h.2.2 76 x2.toNatClampNeg)))] h Z
      refine st_ifb_eq (tgt := 130) dX11_undo_65 (by decide) (fun c => ?_) (fun c => ?_)
      · replace w := w.1 c
        refine st_iinc (L' := [.ref 73, .int x1, .int (x2 + 1), .int (h.2.2 76 x2.toNatClampNeg)]) dX11_undo_130 rfl rfl (by decide) rfl ?_
        refine st_goto (tgt := 41) dX11_undo_133 (by decide) ?_
        exact w
      · replace w := w.2 c
        refine st_aload_n dX11_undo_68 rfl ?_
        refine st_iload_n dX11_undo_69 rfl ?_
        refine st_callV (M' := mX11_roomLeft) [.int (h.2.2 76 x2.toNatClampNeg)] [] dX11_undo_70 ml_X11_155 mf_X11_roomLeft mv_X11_roomLeft sh_73 rfl rfl rfl w (fun r4 h5 w => ?_)
        show Ru mX11_undo none d 73 [.ref 73, .int x1, .int x2, .int (h.2.2 76 x2.toNatClampNeg)] [.int r4] h5 Z
        refine st_aload_n dX11_undo_73 rfl ?_
        refine st_getF (q := 79) fl_X11_25 fk_11_5 rfl dX11_undo_74 sh_73 ?_
        refine st_iload_n dX11_undo_77 rfl ?_
        have hc6 := w.1
        replace w := w.2
        refine st_iald dX11_undo_78 sh_79 hc6 ?_
        refine st_icmp_ge (tgt := 85) dX11_undo_79 (by decide) (fun c => ?_) (fun c => ?_)
        · replace w := w.1 c
          refine st_aload_n dX11_undo_85 rfl ?_
          refine st_getF (q := 74) fl_X11_7 fk_11_0 rfl dX11_undo_86 sh_73 ?_
          refine st_iconst (v := 0) dX11_undo_89 (by decide) ?_
          refine st_iload_n dX11_undo_90 rfl ?_
          refine st_iadd0 dX11_undo_91 ?_
          refine st_iload_n dX11_undo_92 rfl ?_
          refine st_iast dX11_undo_93 sh_74 hc3 (fun h7 eh7 => ?_)
          replace w := w h7 eh7
          refine st_aload_n dX11_undo_94 rfl ?_
          refine st_getF (q := 74) fl_X11_7 fk_11_0 rfl dX11_undo_95 sh_73 ?_
          refine st_bipush (v := 24) dX11_undo_98 (by decide) ?_
          refine st_iload_n dX11_undo_100 rfl ?_
          refine st_iadd dX11_undo_101 ?_
          refine st_aload_n dX11_undo_102 rfl ?_
          refine st_getF (q := 76) fl_X11_16 fk_11_2 rfl dX11_undo_103 sh_73 ?_
          refine st_bipush (v := 24) dX11_undo_106 (by decide) ?_
          refine st_iload_n dX11_undo_108 rfl ?_
          refine st_iadd dX11_undo_109 ?_
          have hc8 := w.1
          replace w := w.2
          refine st_iald dX11_undo_110 sh_76 hc8 ?_
          refine st_iast dX11_undo_111 sh_74 hc8 (fun h9 eh9 => ?_)
          replace w := w h9 eh9
          refine st_aload_n dX11_undo_112 rfl ?_
          refine st_getF (q := 74) fl_X11_7 fk_11_0 rfl dX11_undo_113 sh_73 ?_
          refine st_bipush (v := 48) dX11_undo_116 (by decide) ?_
          refine st_iload_n dX11_undo_118 rfl ?_
          refine st_iadd dX11_undo_119 ?_
          refine st_aload_n dX11_undo_120 rfl ?_
          refine st_getF (q := 76) fl_X11_16 fk_11_2 rfl dX11_undo_121 sh_73 ?_
          refine st_bipush (v := 48) dX11_undo_124 (by decide) ?_
          refine st_iload_n dX11_undo_126 rfl ?_
          refine st_iadd dX11_undo_127 ?_
          have hc10 := w.1
          replace w := w.2
          refine st_iald dX11_undo_128 sh_76 hc10 ?_
          refine st_iast dX11_undo_129 sh_74 hc10 (fun h11 eh11 => ?_)
          replace w := w h11 eh11
          refine st_iinc (L' := [.ref 73, .int x1, .int (x2 + 1), .int (h.2.2 76 x2.toNatClampNeg)]) dX11_undo_130 rfl rfl (by decide) rfl ?_
          refine st_goto (tgt := 41) dX11_undo_133 (by decide) ?_
          exact w
        · replace w := w.2 c
          refine st_goto (tgt := 130) dX11_undo_82 (by decide) ?_
          refine st_iinc (L' := [.ref 73, .int x1, .int (x2 + 1), .int (h.2.2 76 x2.toNatClampNeg)]) dX11_undo_130 rfl rfl (by decide) rfl ?_
          refine st_goto (tgt := 41) dX11_undo_133 (by decide) ?_
          exact w
set_option maxRecDepth 20000 in
set_option maxHeartbeats 2000000 in
theorem sX11_copies_0 {d : Nat} {h : am_H} {Z : Int32 → am_H → Prop} {a0 n0 : Nat} (hb0 : am_sh a0 = .inl (.int, n0)) {a1 n1 : Nat} (hb1 : am_sh a1 = .inl (.int, n1)) (w : Ru mX11_copies none d 2 [.ref a0, .ref a1, .int 0] [] h Z) : Ru mX11_copies none d 0 [.ref a0, .ref a1, .null] [] h Z := by
  refine st_iconst (v := 0) dX11_copies_0 (by decide) ?_
  refine st_istore_n (L' := [.ref a0, .ref a1, .int 0]) dX11_copies_1 (by decide) rfl ?_
  exact w
set_option maxRecDepth 20000 in
set_option maxHeartbeats 2000000 in
theorem sX11_copies_2 {d : Nat} {h : am_H} {Z : Int32 → am_H → Prop} {a0 n0 : Nat} (hb0 : am_sh a0 = .inl (.int, n0)) {a1 n1 : Nat} (hb1 : am_sh a1 = .inl (.int, n1)) {x2 : Int32} (w : (74 ≤ x2 → Z 0 h) ∧ (¬ (74 ≤ x2) → (vp_in x2 n0 ∧ (vp_in x2 n1 ∧ (∀ h3 : am_H, h3 = am_sR h a1 (upd (h.2.2 a1) x2.toNatClampNeg (h.2.2 a0 x2.toNatClampNeg)) → (Ru mX11_copies none d 2 [.ref a0, .ref a1, .int (x2 + 1)] [] h3 Z)))))) : Ru mX11_copies none d 2 [.ref a0, .ref a1, .int x2] [] h Z := by
  refine st_iload_n dX11_copies_2 rfl ?_
  refine st_bipush (v := 74) dX11_copies_3 (by decide) ?_
  refine st_icmp_ge (tgt := 20) dX11_copies_5 (by decide) (fun c => ?_) (fun c => ?_)
  · replace w := w.1 c
    exact st_return rfl dX11_copies_20 w
  · replace w := w.2 c
    refine st_aload_n dX11_copies_8 rfl ?_
    refine st_iload_n dX11_copies_9 rfl ?_
    refine st_aload_n dX11_copies_10 rfl ?_
    refine st_iload_n dX11_copies_11 rfl ?_
    have hc1 := w.1
    replace w := w.2
    refine st_iald dX11_copies_12 hb0 hc1 ?_
    have hc2 := w.1
    replace w := w.2
    refine st_iast dX11_copies_13 hb1 hc2 (fun h3 eh3 => ?_)
    replace w := w h3 eh3
    refine st_iinc (L' := [.ref a0, .ref a1, .int (x2 + 1)]) dX11_copies_14 rfl rfl (by decide) rfl ?_
    refine st_goto (tgt := 2) dX11_copies_17 (by decide) ?_
    exact w
section
variable {d b a : Nat} {h : am_H} {Z : Int32 → am_H → Prop} {B : am_AB}
theorem iX0_takeTime (hb : am_bu b) (ha : am_bu a) (z : Z 0 (am_sI (am_sI h b 9 (h.1 a 9)) b 10 (h.1 a 10))) : Sp mX0_takeTime d [.ref b, .ref a] h Z := by
  refine Sp_of mf_X0_takeTime rfl (Nat.le_of_ble_eq_true rfl) rfl (sX0_takeTime_0 hb ha (fun h1 e1 h2 e2 => ?_))
  subst e1
  rw [am_gI, if_neg (fun e => by omega)] at e2
  subst e2
  exact z
/-- so many of the arrays are copied -/
def q_cp (b a k : Nat) (h h' : am_H) : Prop := am_fr b h h' ∧ ∀ j, 1 ≤ j → j ≤ k → ∀ i, i < (if j ≤ 3 then 12 else 24) → h'.2.2 (b + j) i = h.2.2 (a + j) i
theorem q_cp_s {k n : Nat} {h1 h2 : am_H} (hd : b + 8 < a ∨ a + 8 < b) (hk : k < 8) (hn : n = if k + 1 ≤ 3 then 12 else 24) (c : q_cp b a k h h1) (e : h2 = am_sR h1 (b + (k + 1)) (va_cpy (h1.2.2 (a + (k + 1))) (h1.2.2 (b + (k + 1))) 0 0 n)) : q_cp b a (k + 1) h h2 := by
  subst e
  refine ⟨am_fr_sR c.1 (by omega), fun j hj1 hj2 i hi => ?_⟩
  rw [am_gRb]
  by_cases q : j = k + 1
  · subst q
    rw [if_pos rfl, va_cpy, if_pos ⟨by omega, by omega⟩, (c.1.1 (a + (k + 1)) (by omega)).2, Nat.zero_add, Nat.sub_zero]
  · rw [if_neg q]; exact c.2 j hj1 (by omega) i hi
theorem iX0_copyFrom (hd : 2 ≤ d) (hb : am_bu b) (ha : am_bu a) (hba : b ≠ a) (hI : q_IC h a B) (hn : q_n B ≤ 24) (z : ∀ h', q_IC h' b B → am_fr b h h' → Z 0 h') : Sp mX0_copyFrom d [.ref b, .ref a] h Z := by
  have hdj : b + 8 < a ∨ a + 8 < b := by rcases hb with rfl | rfl | rfl | rfl <;> rcases ha with rfl | rfl | rfl | rfl <;> omega
  refine Sp_of mf_X0_copyFrom rfl (Nat.le_of_ble_eq_true rfl) rfl (sX0_copyFrom_0 hb ha (by omega) (fun h1 e1 h2 e2 h3 e3 h4 e4 h5 e5 h6 e6 h7 e7 h8 e8 h9 e9 => ⟨1, by omega, iX0_takeTime hb ha ?_⟩))
  have c0 : q_cp b a 0 h h := ⟨am_fr_rf b h, fun j h1 h2 => absurd h1 (by omega)⟩
  have c8 := q_cp_s hdj (by decide) rfl (q_cp_s hdj (by decide) rfl (q_cp_s hdj (by decide) rfl (q_cp_s hdj (by decide) rfl (q_cp_s hdj (by decide) rfl (q_cp_s hdj (by decide) rfl (q_cp_s hdj (by decide) rfl (q_cp_s hdj (by decide) rfl c0 e1) e2) e3) e4) e5) e6) e7) e8
  subst e9
  have i1 := (c8.1.1 a (by omega)).1
  refine z _ ⟨?_, ?_, ?_, fun i hi => ?_, fun p hp => ?_⟩ (am_fr_sI (am_fr_sI (am_fr_sI c8.1)))
  · rw [am_gI, if_neg (fun e => by omega), am_gI, if_neg (fun e => by omega), am_gI, if_pos ⟨rfl, rfl⟩, i1]; exact hI.1
  · rw [am_gI, if_neg (fun e => by omega), am_gI, if_pos ⟨rfl, rfl⟩, am_gI, if_neg (fun e => by omega), i1]; exact hI.2.1
  · rw [am_gI, if_pos ⟨rfl, rfl⟩, am_gI, if_neg (fun e => by omega), i1]; exact hI.2.2.1
  · have q := hI.2.2.2.1 i hi
    rw [am_gI2, am_gI2, am_gI2, c8.2 1 (by decide) (by decide) i hi, c8.2 2 (by decide) (by decide) i hi, c8.2 3 (by decide) (by decide) i hi]; exact q
  · have q := hI.2.2.2.2 p hp
    have hp2 : p < 24 := by omega
    rw [am_gI2, am_gI2, am_gI2, c8.2 4 (by decide) (by decide) p hp2, c8.2 5 (by decide) (by decide) p hp2, c8.2 6 (by decide) (by decide) p hp2, c8.2 7 (by decide) (by decide) p hp2, c8.2 8 (by decide) (by decide) p hp2]; exact q
theorem m_cpy {a c : Nat} (ha : am_sh a = .inl (.int, 74)) (hc : am_sh c = .inl (.int, 74)) (hac : a ≠ c) (z : ∀ f, (∀ i, i < 74 → f i = h.2.2 a i) → Z 0 (am_sR h c f)) : ∀ (m k : Nat) (f : Nat → Int32), k + m = 74 → (∀ i, i < k → f i = h.2.2 a i) → Ru mX11_copies none d 2 [.ref a, .ref c, .int (nI k)] [] (am_sR h c f) Z
  | 0, k, f, hk, hf => by
    have ek : k = 74 := by omega
    subst ek
    exact sX11_copies_2 ha hc ⟨fun _ => z f hf, fun q => absurd (Int32.le_refl _) q⟩
  | m + 1, k, f, hk, hf => by
    refine sX11_copies_2 ha hc ⟨fun q => absurd q (nI_ge (b := 74) (by omega) (by omega)), fun _ => ⟨vp_in_nI (by omega) (by omega), vp_in_nI (by omega) (by omega), fun h3 e3 => ?_⟩⟩
    rw [nI_clamp (by omega), am_gRs, am_sR_2, am_gR, if_neg hac] at e3
    subst e3
    rw [nI_1]
    refine m_cpy ha hc hac z m (k + 1) _ (by omega) (fun i hi => ?_)
    unfold upd
    by_cases q : i = k
    · subst q; rw [if_pos rfl]
    · rw [if_neg q]; exact hf i (by omega)
theorem iX11_copies {a c : Nat} (ha : am_sh a = .inl (.int, 74)) (hc : am_sh c = .inl (.int, 74)) (hac : a ≠ c) (z : ∀ f, (∀ i, i < 74 → f i = h.2.2 a i) → Z 0 (am_sR h c f)) : Sp mX11_copies d [.ref a, .ref c] h Z := by
  have w := m_cpy (d := d) ha hc hac z 74 0 (h.2.2 c) (by omega) (fun i hi => absurd hi (Nat.not_lt_zero i))
  rw [am_sR_self] at w
  exact Sp_of mf_X11_copies rfl (Nat.le_of_ble_eq_true rfl) rfl (sX11_copies_0 ha hc w)
end
section
variable {d : Nat} {h : am_H} {K : Int32 → Int32 → am_H → Prop} {B : am_AB}
theorem pp_keep {b : Nat} (hd : 12 ≤ d) (eb : h.2.1 0 10 = b) (hb : b = 38 ∨ b = 47) (hI : q_IC h b B) (hN : q_IN h 74 B) (hM : q_IM h B) (hB : q_ok B)
    (z : ∀ r h', q_IC h' 29 B → q_IN h' 76 B → h'.1 73 61 = nI (q_n B) → h'.1 0 14 = 1 → h'.1 73 60 = 1 → (∀ a, (a < 29 ∨ 37 < a) → a ≠ 76 → h'.2.2 a = h.2.2 a) → (∀ a k, (a < 29 ∨ 37 < a) → ¬ (a = 0 ∧ k = 14) → ¬ (a = 73 ∧ k = 60) → ¬ (a = 73 ∧ k = 61) → h'.1 a k = h.1 a k) → h'.2.1 = h.2.1 → K r r h') : am_cl mX10_keep d [.ref 0] h (fun r1 h1 => am_cl mX11_keep d [.ref 73] h1 (fun r2 h2 => K r1 r2 h2)) := by
  have hb' : am_bu b := by rcases hb with rfl | rfl <;> simp [am_bu]
  have hb29 : am_bu 29 := by simp [am_bu]
  refine ⟨10, by omega, Sp_of mf_X10_keep rfl (Nat.le_of_ble_eq_true rfl) rfl (sX10_keep_0 ?_)⟩
  rw [eb]
  refine ⟨hb', 8, by omega, iX0_copyFrom (by omega) hb29 hb' (by omega) hI hB.1 (fun h1 hI1 hf1 h2 e2 => ?_)⟩
  have p2 : h2.2.1 = h.2.1 := by rw [e2]; exact hf1.2
  rw [p2, eb]
  refine ⟨hb', ?_⟩
  have r1 : h2.1 b 9 = nI (q_d B) := by rw [e2, am_gI, if_neg (fun e => by omega), (hf1.1 b (by omega)).1]; exact hI.2.1
  rw [r1]
  refine ⟨10, by omega, Sp_of mf_X11_keep rfl (Nat.le_of_ble_eq_true rfl) rfl (sX11_keep_0 (fun h3 e3 h4 e4 => ⟨8, by omega, iX11_copies sh_74 sh_76 (by decide) (fun f hf => ?_)⟩))⟩
  have A : ∀ a, (a < 29 ∨ 37 < a) → h4.2.2 a = h.2.2 a := fun a ha => by rw [e4, e3, e2, am_gI2, am_gI2, am_gI2]; exact (hf1.1 a (by omega)).2
  have r2 : (am_sR h4 76 f).2.2 74 72 = nI (q_d B) := by rw [am_gR, if_neg (by decide), A 74 (by omega)]; exact hN.1
  have I : ∀ a k, (a < 29 ∨ 37 < a) → ¬ (a = 0 ∧ k = 14) → ¬ (a = 73 ∧ k = 60) → ¬ (a = 73 ∧ k = 61) → h4.1 a k = h.1 a k := fun a k ha n1 n2 n3 => by
    rw [e4, am_gI, if_neg n3, e3, am_gI, if_neg n2, e2, am_gI, if_neg n1, (hf1.1 a (by omega)).1]
  rw [r2]
  have hn := hB.1
  have f2 : ∀ i, i < 74 → f i = h.2.2 74 i := fun i hi => by rw [hf i hi, A 74 (by omega)]
  refine z _ _ ?_ ⟨?_, ?_, fun p hp => ?_⟩ ?_ ?_ ?_ (fun a ha n1 => ?_) (fun a k ha n1 n2 n3 => ?_) ?_
  · have e29 : ∀ k, k ≤ 8 → (am_sR h4 76 f).2.2 (29 + k) = h1.2.2 (29 + k) := fun k hk => by rw [am_gR, if_neg (by omega), e4, e3, e2]; rfl
    have i29 : ∀ k, (am_sR h4 76 f).1 29 k = h1.1 29 k := fun k => by rw [am_gRi, e4, am_gI, if_neg (fun e => by omega), e3, am_gI, if_neg (fun e => by omega), e2, am_gI, if_neg (fun e => by omega)]
    unfold q_IC
    simp only [i29, e29 1 (by omega), e29 2 (by omega), e29 3 (by omega), e29 4 (by omega), e29 5 (by omega), e29 6 (by omega), e29 7 (by omega), e29 8 (by omega)]
    exact hI1
  · rw [am_gRs, f2 72 (by omega)]; exact hN.1
  · rw [am_gRs, f2 73 (by omega)]; exact hN.2.1
  · rw [am_gRs, f2 p (by omega), f2 (24 + p) (by omega), f2 (48 + p) (by omega)]; exact hN.2.2 p hp
  · rw [am_gRi, e4, am_gI, if_pos ⟨rfl, rfl⟩, e3, am_gI, if_neg (fun e => by omega), e2, am_gI, if_neg (fun e => by omega), (hf1.1 73 (by omega)).1]; exact hM.1
  · rw [am_gRi, e4, am_gI, if_neg (fun e => by omega), e3, am_gI, if_neg (fun e => by omega), e2, am_gI, if_pos ⟨rfl, rfl⟩]
  · rw [am_gRi, e4, am_gI, if_neg (fun e => by omega), e3, am_gI, if_pos ⟨rfl, rfl⟩]
  · rw [am_gR, if_neg n1]; exact A a ha
  · rw [am_gRi]; exact I a k ha n1 n2 n3
  · rw [am_gR2, e4, e3]; exact p2
end
/-- a paper put back as it was -/
abbrev q_mb (B : am_AB) (p i r a : Nat) : am_AB := (B.1, B.2.1, B.2.2.1, B.2.2.2.1, am_un (q_w B) p i, am_un (q_rd B) p r, am_un (q_ag B) p a)
def q_ub (E : am_AB) (p : Nat) (B : am_AB) : am_AB := if q_w E p < 12 ∧ 0 < q_r B (q_w E p) ∧ q_si B p + q_F B (q_w E p) ≤ q_r B (q_w E p) then q_mb B p (q_w E p) (q_rd E p) (q_ag E p) else B
theorem q_ok_mb {B : am_AB} {p i r a : Nat} (hB : q_ok B) (hp : p < q_n B) (hi : i < 12) (hr : 0 < q_r B i) (hf : q_si B p + q_F B i ≤ q_r B i) (h1 : r ≤ 1) (h2 : a ≤ 9999) : q_ok (q_mb B p i r a) := by
  have m := q_ok_mv hB hp hi hr hf
  refine ⟨m.1, m.2.1, m.2.2.1, m.2.2.2.1, fun q hq => ?_⟩
  have mq := m.2.2.2.2 q hq
  have bq := hB.2.2.2.2 q hq
  refine ⟨mq.1, mq.2.1, mq.2.2.1, ?_, ?_⟩
  · show am_un _ _ _ q ≤ 1
    unfold am_un
    by_cases c : q = p
    · rw [if_pos c]; exact h1
    · rw [if_neg c]; exact bq.2.2.2.1
  · show am_un _ _ _ q ≤ 9999 ∧ (am_un _ _ _ q = 12 → am_un _ _ _ q = 0)
    unfold am_un
    by_cases c : q = p
    · rw [if_pos c, if_pos c]; exact ⟨h2, fun e => by omega⟩
    · rw [if_neg c, if_neg c]; exact bq.2.2.2.2
section
variable {d b : Nat} {h : am_H} {Z : Int32 → am_H → Prop} {E : am_AB}
theorem x_pb2 {n : Nat} (hd : 6 ≤ d) (hb : b = 38 ∨ b = 47) (hE : q_ok E) (hnE : n ≤ q_n E) (hK : q_IC h 29 E) : ∀ (m j : Nat) (B : am_AB) (h1 : am_H), j + m = n → n ≤ q_n B → q_ok B → q_IC h1 b B → am_fr b h h1 → (∀ h' , q_IC h' b (am_fd (q_ub E) j m B) → am_fr b h h' → Z 0 h') → Ru mX0_putBack none d 32 [.ref b, .ref 29, .int (nI n), .int (nI j)] [] h1 Z
  | 0, j, B, h1, hj, hnB, hB, hI, hf, z => by
    have ej : j = n := by omega
    subst ej
    have hb' : am_bu b := by rcases hb with rfl | rfl <;> simp [am_bu]
    exact sX0_putBack_32 hb' (by simp [am_bu]) (by omega) ⟨fun _ => z h1 hI hf, fun q => absurd (Int32.le_refl _) q⟩
  | m + 1, j, B, h1, hj, hnB, hB, hI, hf, z => by
    have hb' : am_bu b := by rcases hb with rfl | rfl <;> simp [am_bu]
    have hn := hB.1
    have hnE2 := hE.1
    have k29 : q_IC h1 29 E := by
      unfold q_IC
      rw [(hf.1 29 (by omega)).1, (hf.1 (29 + 1) (by omega)).2, (hf.1 (29 + 2) (by omega)).2, (hf.1 (29 + 3) (by omega)).2, (hf.1 (29 + 4) (by omega)).2, (hf.1 (29 + 5) (by omega)).2, (hf.1 (29 + 6) (by omega)).2, (hf.1 (29 + 7) (by omega)).2, (hf.1 (29 + 8) (by omega)).2]
      exact hK
    have kp := k29.2.2.2.2 j (by omega)
    have skip : q_ub E j B = B → Ru mX0_putBack none d 32 [.ref b, .ref 29, .int (nI n), .int (nI (j + 1))] [] h1 Z := fun e =>
      x_pb2 hd hb hE hnE hK m (j + 1) B h1 (by omega) hnB hB hI hf (fun h' q1 q2 => z h' (by rw [am_fd_s, e]; exact q1) q2)
    refine sX0_putBack_32 hb' (by simp [am_bu]) (by omega) ⟨fun q => absurd q (nI_ge (by omega) (by omega)), fun _ => ?_⟩
    rw [nI_clamp (by omega), nI_1, q_in k29 hE (by omega), kp.2.2.1]
    refine ⟨fun c => skip (if_neg (fun q => c q.1)), fun c => ⟨vp_in_nI (by omega) (by omega), ?_⟩⟩
    rw [q_w2_in c, q_fit hI hB (by omega) c]
    refine ⟨fun c2 => skip (if_neg (fun q => c2 q.2)), fun c2 => ⟨5, by omega, iX0_move (by omega) hb' hI hB (by omega) c c2.1 c2.2 (fun h3 hI3 hf3 h4 e4 h5 e5 => ?_)⟩⟩
    have fe := hE.2.2.2.2 j (by omega)
    have a7 : h3.2.2 (29 + 7) j = nI (q_rd E j) := by rw [(hf3.1 (29 + 7) (by omega)).2]; exact kp.2.2.2.1
    have a8 : h4.2.2 (29 + 8) j = nI (q_ag E j) := by rw [e4, am_gR, if_neg (by omega), (hf3.1 (29 + 8) (by omega)).2]; exact kp.2.2.2.2
    rw [a7] at e4
    rw [a8] at e5
    have eu : q_ub E j B = q_mb B j (q_w E j) (q_rd E j) (q_ag E j) := if_pos ⟨c, c2.1, c2.2⟩
    subst e4
    subst e5
    refine x_pb2 hd hb hE hnE hK m (j + 1) (q_ub E j B) _ (by omega) (by rw [eu]; exact hnB) (by rw [eu]; exact q_ok_mb hB (by omega) c c2.1 c2.2 fe.2.2.2.1 fe.2.2.2.2.1) ?_ (am_fr_tr hf (am_fr_sR (am_fr_sR hf3 (by decide)) (by decide))) z
    rw [eu]
    refine ⟨hI3.1, hI3.2.1, hI3.2.2.1, fun i hi => ?_, fun p hp => ?_⟩
    · simp only [am_gRb, Nat.reduceEqDiff, reduceIte]; exact hI3.2.2.2.1 i hi
    · simp only [am_gRb, Nat.reduceEqDiff, reduceIte]
      have h9 := hI3.2.2.2.2 p hp
      refine ⟨h9.1, h9.2.1, h9.2.2.1, ?_, ?_⟩
      · show upd _ _ _ p = nI (am_un _ _ _ p)
        unfold upd
        by_cases cq : p = j
        · rw [if_pos cq, cq, am_un_s]
        · rw [if_neg cq, am_un_n _ _ cq]; exact h9.2.2.2.1
      · show upd _ _ _ p = nI (am_un _ _ _ p)
        unfold upd
        by_cases cq : p = j
        · rw [if_pos cq, cq, am_un_s]
        · rw [if_neg cq, am_un_n _ _ cq, h9.2.2.2.2]
          show nI (am_un _ _ _ p) = _
          rw [am_un_n _ _ cq]
theorem x_pb1 {n : Nat} (hd : 6 ≤ d) (hb : b = 38 ∨ b = 47) : ∀ (m j : Nat) (B : am_AB) (h1 : am_H), j + m = n → n ≤ q_n B → q_ok B → q_IC h1 b B → am_fr b h h1 → (∀ h' B', B' = am_fd (fun p B => q_out B p) j m B → n ≤ q_n B' → q_ok B' → q_IC h' b B' → am_fr b h h' → Ru mX0_putBack none d 32 [.ref b, .ref 29, .int (nI n), .int 0] [] h' Z) → Ru mX0_putBack none d 14 [.ref b, .ref 29, .int (nI n), .int (nI j)] [] h1 Z
  | 0, j, B, h1, hj, hnB, hB, hI, hf, z => by
    have ej : j = n := by omega
    subst ej
    have hb' : am_bu b := by rcases hb with rfl | rfl <;> simp [am_bu]
    exact sX0_putBack_14 hb' (by simp [am_bu]) ⟨fun _ => z h1 B rfl hnB hB hI hf, fun q => absurd (Int32.le_refl _) q⟩
  | m + 1, j, B, h1, hj, hnB, hB, hI, hf, z => by
    have hb' : am_bu b := by rcases hb with rfl | rfl <;> simp [am_bu]
    have hn := hB.1
    refine sX0_putBack_14 hb' (by simp [am_bu]) ⟨fun q => absurd q (nI_ge (by omega) (by omega)), fun _ => ⟨5, by omega, iX0_takeOut (by omega) hb' hI hB (by omega) (fun h2 hI2 hf2 => ?_)⟩⟩
    rw [nI_1]
    exact x_pb1 hd hb m (j + 1) (q_out B j) h2 (by omega) hnB (q_ok_out hB (by omega)) hI2 (am_fr_tr hf hf2) z
end
abbrev q_st (B E : am_AB) : am_AB := ((B.1.1, E.1.2.1, E.1.2.2), B.2)
theorem q_min {a b : Nat} (ha : a < 2 ^ 31) (hb : b < 2 ^ 31) : am_min (nI a) (nI b) = nI (min a b) := by
  rw [← am_mn]
  by_cases c : a < b
  · rw [if_pos (nI_lt c hb), Nat.min_eq_left (by omega)]
  · rw [if_neg (fun q => c ((nI_ltI ha hb).mp q)), Nat.min_eq_right (by omega)]
section
variable {d : Nat} {h : am_H} {Z : Int32 → am_H → Prop} {E : am_AB}
theorem m_ud1 {n : Nat} {u : Value} (hd : 6 ≤ d) : ∀ (m j : Nat) (B : am_AB) (f : Nat → Int32), j + m = n → n ≤ q_n B → q_ok B → q_IN (am_sR h 74 f) 74 B → q_IM h B → (∀ f' B', B' = am_fd (fun p B => q_out B p) j m B → n ≤ q_n B' → q_ok B' → q_IN (am_sR h 74 f') 74 B' → q_IM h B' → Ru mX11_undo none d 41 [.ref 73, .int (nI n), .int 0, u] [] (am_sR h 74 f') Z) → Ru mX11_undo none d 23 [.ref 73, .int (nI n), .int (nI j), u] [] (am_sR h 74 f) Z
  | 0, j, B, f, hj, hnB, hB, hN, hM, z => by
    have ej : j = n := by omega
    subst ej
    exact sX11_undo_23 ⟨fun _ => z f B rfl hnB hB hN hM, fun q => absurd (Int32.le_refl _) q⟩
  | m + 1, j, B, f, hj, hnB, hB, hN, hM, z => by
    have hn := hB.1
    refine sX11_undo_23 ⟨fun q => absurd q (nI_ge (by omega) (by omega)), fun _ => ⟨5, by omega, iX11_takesOut hN hB (by omega) (fun f2 hN2 => ?_)⟩⟩
    rw [am_sR_2] at hN2
    rw [am_sR_2, nI_1]
    exact m_ud1 hd m (j + 1) (q_out B j) f2 (by omega) hnB (q_ok_out hB (by omega)) hN2 hM z
theorem m_ud2 {n : Nat} (hd : 6 ≤ d) (hE : q_ok E) (hnE : n ≤ q_n E) (hK : q_IN h 76 E) : ∀ (m j : Nat) (B : am_AB) (f : Nat → Int32) (u : Value), j + m = n → n ≤ q_n B → q_ok B → q_IN (am_sR h 74 f) 74 B → q_IM h B → (∀ f' B', B' = am_fd (q_ub E) j m B → q_ok B' → q_IM h B' → q_IN (am_sR h 74 f') 74 (q_st B' E) → Z 1 (am_sR h 74 f')) → Ru mX11_undo none d 41 [.ref 73, .int (nI n), .int (nI j), u] [] (am_sR h 74 f) Z
  | 0, j, B, f, u, hj, hnB, hB, hN, hM, z => by
    have ej : j = n := by omega
    subst ej
    have hn := hB.1
    refine sX11_undo_41 (by omega) ⟨fun _ => fun h1 e1 h2 e2 => ?_, fun q => absurd (Int32.le_refl _) q⟩
    subst e1
    simp only [am_gRs, am_sR_2, am_gR, Nat.reduceEqDiff, reduceIte] at e2
    subst e2
    refine z _ B rfl hB hM ⟨?_, ?_, fun p hp => ?_⟩
    · rw [am_gRs]; exact hK.1
    · rw [am_gRs]; exact hK.2.1
    · have hp' : p < q_n B := hp
      rw [am_gRs]
      have h9 := hN.2.2 p hp
      rw [am_gRs] at h9
      simp only [upd, show ¬ p = 73 by omega, show ¬ p = 72 by omega, show ¬ 24 + p = 73 by omega, show ¬ 24 + p = 72 by omega, show ¬ 48 + p = 73 by omega, show ¬ 48 + p = 72 by omega, if_false]
      exact h9
  | m + 1, j, B, f, u, hj, hnB, hB, hN, hM, z => by
    have hn := hB.1
    have kp := hK.2.2 j (by omega)
    have fe := hE.2.2.2.2 j (by omega)
    have hM1 : q_IM (am_sR h 74 f) B := q_IM_s74 hM
    have g76 : (am_sR h 74 f).2.2 76 = h.2.2 76 := by rw [am_gR, if_neg (by decide)]
    have g79 : (am_sR h 74 f).2.2 79 = h.2.2 79 := by rw [am_gR, if_neg (by decide)]
    have skip : ∀ u, q_ub E j B = B → Ru mX11_undo none d 41 [.ref 73, .int (nI n), .int (nI (j + 1)), u] [] (am_sR h 74 f) Z := fun u e =>
      m_ud2 hd hE hnE hK m (j + 1) B f u (by omega) hnB hB hN hM (fun f' B' q1 => z f' B' (by rw [am_fd_s, e]; exact q1))
    refine sX11_undo_41 (by omega) ⟨fun q => absurd q (nI_ge (by omega) (by omega)), fun _ => ⟨vp_in_nI (by omega) (by omega), ?_⟩⟩
    rw [nI_clamp (by omega), nI_1, g76, kp.1]
    rcases fe.2.2.1 with c | ⟨c, _⟩
    · rw [c, q_w1_out]
      exact ⟨fun _ => skip _ (if_neg (fun q => by omega)), fun q => absurd rfl q⟩
    · rw [q_w1_in c]
      refine ⟨fun q => absurd (show (-1 : Int32) < 0 by decide) (by rw [← q]; exact nI_pos (by omega)), fun _ => ⟨fun c2 => skip _ (if_neg (fun q => c2 ((q_mT hM1).mpr ⟨_, c, rfl, q.2.1⟩))), fun c2 => ?_⟩⟩
      have hr : 0 < q_r B (q_w E j) := by
        obtain ⟨i, hi, e2, g⟩ := (q_mT hM1).mp c2
        rw [(nI_eq (by omega) (by omega)).mp e2]; exact g
      have hrr := hB.2.2.2.1 (q_w E j) c
      have hs := (hB.2.2.2.2 j (by omega)).1
      refine ⟨5, by omega, iX11_roomLeft (by omega) hN hM1 hB c hr ⟨vp_in_nI (by omega) (by omega), ?_⟩⟩
      rw [g79, (hM.2.2.2 j (by omega)).2, nI_leI (by omega) (by omega)]
      refine ⟨fun c3 h7 e7 => ?_, fun c3 => skip _ (if_neg (fun q => by omega))⟩
      have e24 : (24 : Int32) + nI j = nI (24 + j) := nI_add 24 j
      have e48 : (48 : Int32) + nI j = nI (48 + j) := nI_add 48 j
      rw [e24, e48, nI_clamp (by omega), nI_clamp (by omega)]
      refine ⟨vp_in_nI (by omega) (by omega), fun h9 e9 => ⟨vp_in_nI (by omega) (by omega), fun h11 e11 => ?_⟩⟩
      simp only [am_gRs, am_sR_2] at e7
      subst e7
      simp only [am_gRs, am_sR_2, am_gR, Nat.reduceEqDiff, reduceIte] at e9
      subst e9
      simp only [am_gRs, am_sR_2, am_gR, Nat.reduceEqDiff, reduceIte] at e11
      subst e11
      have c4 : q_si B j + q_F B (q_w E j) ≤ q_r B (q_w E j) := by omega
      have eu : q_ub E j B = q_mb B j (q_w E j) (q_rd E j) (q_ag E j) := if_pos ⟨c, hr, c4⟩
      rw [kp.2.1, kp.2.2]
      refine m_ud2 hd hE hnE hK m (j + 1) (q_ub E j B) _ _ (by omega) (by rw [eu]; exact hnB) (by rw [eu]; exact q_ok_mb hB (by omega) c hr c4 fe.2.2.2.1 fe.2.2.2.2.1) ?_ (by rw [eu]; exact hM) z
      rw [eu]
      have h8 := hN
      unfold q_IN at h8
      rw [am_gRs] at h8
      refine ⟨?_, ?_, fun p hp => ?_⟩
      · rw [am_gRs]
        simp only [upd, show ¬ 72 = j by omega, show ¬ 72 = 24 + j by omega, show ¬ 72 = 48 + j by omega, if_false]
        exact h8.1
      · rw [am_gRs]
        simp only [upd, show ¬ 73 = j by omega, show ¬ 73 = 24 + j by omega, show ¬ 73 = 48 + j by omega, if_false]
        exact h8.2.1
      · have hp' : p < q_n B := hp
        have h9 := h8.2.2 p hp
        rw [am_gRs]
        by_cases cq : p = j
        · subst cq
          refine ⟨?_, ?_, ?_⟩
          · simp only [upd, show ¬ p = 24 + p by omega, show ¬ p = 48 + p by omega, if_false, if_true]
            show _ = q_w1 (am_un _ _ _ p); rw [am_un_s, q_w1_in c]
          · simp only [upd, show ¬ 24 + p = 48 + p by omega, if_false, if_true]
            show _ = nI (am_un _ _ _ p); rw [am_un_s]
          · simp only [upd, if_true]
            show _ = nI (am_un _ _ _ p); rw [am_un_s]
        · refine ⟨?_, ?_, ?_⟩
          · simp only [upd, show ¬ p = 24 + j by omega, show ¬ p = 48 + j by omega, cq, if_false]
            show _ = q_w1 (am_un _ _ _ p); rw [am_un_n _ _ cq]; exact h9.1
          · simp only [upd, show ¬ 24 + p = 48 + j by omega, show ¬ 24 + p = 24 + j by omega, show ¬ 24 + p = j by omega, if_false]
            show _ = nI (am_un _ _ _ p); rw [am_un_n _ _ cq]; exact h9.2.1
          · simp only [upd, show ¬ 48 + p = 48 + j by omega, show ¬ 48 + p = 24 + j by omega, show ¬ 48 + p = j by omega, if_false]
            show _ = nI (am_un _ _ _ p); rw [am_un_n _ _ cq]; exact h9.2.2
end
section
variable {d : Nat} {h : am_H} {K : Int32 → Int32 → am_H → Prop} {B : am_AB}
theorem pp_undo {b : Nat} (hd : 12 ≤ d) (eb : h.2.1 0 10 = b) (hb : b = 38 ∨ b = 47) (hI : q_IC h b B) (hN : q_IN h 74 B) (hM : q_IM h B) (hB : q_ok B) (hk0 : h.1 0 14 = h.1 73 60)
    (hk : ¬ h.1 0 14 = 0 → ∃ E, q_ok E ∧ q_IC h 29 E ∧ q_IN h 76 E ∧ h.1 73 61 = nI (q_n E)) (z0 : ∀ r, K r r h) (z : ∀ r h' B', am_kp (q_eb b) h h' → q_IC h' b B' → q_IN h' 74 B' → q_IM h' B' → q_ok B' → K r r h') : am_cl mX10_undo d [.ref 0] h (fun r1 h1 => am_cl mX11_undo d [.ref 73] h1 (fun r2 h2 => K r1 r2 h2)) := by
  have hb' : am_bu b := by rcases hb with rfl | rfl <;> simp [am_bu]
  have hb29 : am_bu 29 := by simp [am_bu]
  have m0 : ∀ {h0 : am_H} {Z : Int32 → am_H → Prop}, _ → am_cl mX11_undo d [.ref 73] h0 Z := fun {h0 Z} w => ⟨10, by omega, Sp_of mf_X11_undo rfl (Nat.le_of_ble_eq_true rfl) rfl (sX11_undo_0 (by omega) w)⟩
  refine ⟨10, by omega, Sp_of mf_X10_undo rfl (Nat.le_of_ble_eq_true rfl) rfl (sX10_undo_0 ⟨fun c => ?_, fun c => ?_⟩)⟩
  · obtain ⟨E, hE, hIE, hNE, e61⟩ := hk c
    have hn := hB.1
    have hnE := hE.1
    rw [eb]
    refine ⟨hb', 8, by omega, Sp_of mf_X0_putBack rfl (Nat.le_of_ble_eq_true rfl) rfl (sX0_putBack_0 hb' hb29 (by omega) ?_)⟩
    rw [hI.1, hIE.1, q_min (by omega) (by omega)]
    refine x_pb1 (h := h) (by omega) hb (min (q_n B) (q_n E)) 0 B h (by omega) (by omega) hB hI (am_fr_rf b h) (fun h1 B1 e1 n1 k1 i1 f1 => x_pb2 (h := h) (by omega) hb hE (by omega) hIE (min (q_n B) (q_n E)) 0 B1 h1 (by omega) n1 k1 i1 f1 (fun h2 i2 f2 => ?_))
    have k29 : ∀ k, h2.1 29 k = h.1 29 k := fun k => by rw [(f2.1 29 (by omega)).1]
    rw [f2.2, eb]
    refine ⟨hb', 8, by omega, iX0_takeTime hb' hb29 ?_⟩
    rw [k29, k29, hIE.2.1, hIE.2.2.1]
    have f3 : am_fr b h (am_sI (am_sI h2 b 9 (nI (q_d E))) b 10 (nI (q_x E))) := am_fr_sI (am_fr_sI f2)
    have i3 : q_IC (am_sI (am_sI h2 b 9 (nI (q_d E))) b 10 (nI (q_x E))) b (q_st (am_fd (q_ub E) 0 (min (q_n B) (q_n E)) B1) E) := by
      refine ⟨?_, ?_, ?_, i2.2.2.2⟩
      · rw [am_gI, if_neg (fun e => by omega), am_gI, if_neg (fun e => by omega)]; exact i2.1
      · rw [am_gI, if_neg (fun e => by omega), am_gI, if_pos ⟨rfl, rfl⟩]
      · rw [am_gI, if_pos ⟨rfl, rfl⟩]
    generalize am_sI (am_sI h2 b 9 (nI (q_d E))) b 10 (nI (q_x E)) = g at f3 i3 ⊢
    have hN3 : q_IN g 74 B := q_IN_fr (by omega) f3 hN
    have hE3 : q_IN g 76 E := q_IN_fr (by omega) f3 hNE
    have hM3 : q_IM g B := q_IM_fr (by omega) f3 hM
    have j60 : g.1 73 60 = h.1 73 60 := by rw [(f3.1 73 (by omega)).1]
    have j61 : g.1 73 61 = nI (q_n E) := by rw [(f3.1 73 (by omega)).1]; exact e61
    refine m0 ⟨fun _ => ?_, fun q => absurd (by rw [hk0, ← j60]; exact q) c⟩
    rw [hM3.1, j61, q_min (by omega) (by omega)]
    have w := m_ud1 (d := 10) (h := g) (u := .null) (n := min (q_n B) (q_n E)) (Z := fun r2 h2 => K 1 r2 h2) (by omega) (min (q_n B) (q_n E)) 0 B (g.2.2 74) (by omega) (by omega) hB (by rw [am_sR_self]; exact hN3) hM3 (fun f' B' e' n' k' i' m' => m_ud2 (by omega) hE (by omega) hE3 (min (q_n B) (q_n E)) 0 B' f' _ (by omega) n' k' i' m' (fun f'' B'' e'' k'' m'' i'' => ?_))
    · rw [am_sR_self] at w; exact w
    · have eB : am_fd (q_ub E) 0 (min (q_n B) (q_n E)) B1 = B'' := by rw [e'', e', e1]
      rw [eB] at i3
      exact z 1 _ _ (am_kp_fr (by omega) (by omega) f3 f'') (q_IC_s74 (by omega) i3) i'' (q_IM_s74 m'') ⟨k''.1, hE.2.1, hE.2.2.1, k''.2.2.2⟩
  · exact m0 ⟨fun q => absurd (by rw [← hk0]; exact c) q, fun _ => z0 0⟩
end
