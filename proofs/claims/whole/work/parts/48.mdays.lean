-- days of the reference
set_option maxRecDepth 20000 in
set_option maxHeartbeats 2000000 in
theorem sX11_isPeeped_0 {d : Nat} {h : am_H} {Z : Int32 → am_H → Prop} {x1 : Int32} (w : (vp_in x1 74 ∧ (am_cl mX11_draws d [.ref 73] h (fun r2 h3 => am_cl mX11_feelsPaper d [.ref 73, .int x1, .int (h.2.2 74 x1.toNatClampNeg), .int r2] h3 (fun r4 h5 => am_cl mX11_byLaw d [.ref 73, .int 114, .int 10] h5 (fun r6 h7 => (r6 ≤ (h5.2.2 93 9) → Ru mX11_isPeeped none d 67 [.ref 73, .int x1] [] h7 Z) ∧ (¬ (r6 ≤ (h5.2.2 93 9)) → (vp_in (24 + x1) 74 ∧ ((¬ (h7.2.2 74 (24 + x1).toNatClampNeg) = 0 → Ru mX11_isPeeped none d 57 [.ref 73, .int x1] [] h7 Z) ∧ ((h7.2.2 74 (24 + x1).toNatClampNeg) = 0 → (∀ h9 : am_H, h9 = am_sI h7 73 41 ((h7.1 73 41) + 1) → (Ru mX11_isPeeped none d 57 [.ref 73, .int x1] [] h9 Z)))))))))))) : Ru mX11_isPeeped none d 0 [.ref 73, .int x1] [] h Z := by
  refine st_aload_n dX11_isPeeped_0 rfl ?_
  refine st_iload_n dX11_isPeeped_1 rfl ?_
  refine st_aload_n dX11_isPeeped_2 rfl ?_
  refine st_getF (q := 74) fl_X11_7 fk_11_0 rfl dX11_isPeeped_3 sh_73 ?_
  refine st_iconst (v := 0) dX11_isPeeped_6 (by decide) ?_
  refine st_iload_n dX11_isPeeped_7 rfl ?_
  refine st_iadd0 dX11_isPeeped_8 ?_
  have hc1 := w.1
  replace w := w.2
  refine st_iald dX11_isPeeped_9 sh_74 hc1 ?_
  refine st_aload_n dX11_isPeeped_10 rfl ?_
  refine st_callV (M' := mX11_draws) [] [.int (h.2.2 74 x1.toNatClampNeg), .int x1, .ref 73] dX11_isPeeped_11 ml_X11_308 mf_X11_draws mv_X11_draws sh_73 rfl rfl rfl w (fun r2 h3 w => ?_)
  show Ru mX11_isPeeped none d 14 [.ref 73, .int x1] [.int r2, .int (h.2.2 74 x1.toNatClampNeg), .int x1, .ref 73] h3 Z
  refine st_callV (M' := mX11_feelsPaper) [.int x1, .int (h.2.2 74 x1.toNatClampNeg), .int r2] [] dX11_isPeeped_14 ml_X11_298 mf_X11_feelsPaper mv_X11_feelsPaper sh_73 rfl rfl rfl w (fun r4 h5 w => ?_)
  show Ru mX11_isPeeped none d 17 [.ref 73, .int x1] [] h5 Z
  refine st_aload_n dX11_isPeeped_17 rfl ?_
  refine st_getF (q := 93) fl_X11_68 fk_11_31 rfl dX11_isPeeped_18 sh_73 ?_
  refine st_bipush (v := 9) dX11_isPeeped_21 (by decide) ?_
  refine st_iald dX11_isPeeped_23 sh_93 (by unfold vp_in; decide +kernel) ?_
  show Ru mX11_isPeeped none d 24 [.ref 73, .int x1] [.int (h5.2.2 93 9)] h5 Z
  refine st_aload_n dX11_isPeeped_24 rfl ?_
  refine st_bipush (v := 114) dX11_isPeeped_25 (by decide) ?_
  refine st_bipush (v := 10) dX11_isPeeped_27 (by decide) ?_
  refine st_callV (M' := mX11_byLaw) [.int 114, .int 10] [.int (h5.2.2 93 9)] dX11_isPeeped_29 ml_X11_302 mf_X11_byLaw mv_X11_byLaw sh_73 rfl rfl rfl w (fun r6 h7 w => ?_)
  show Ru mX11_isPeeped none d 32 [.ref 73, .int x1] [.int r6, .int (h5.2.2 93 9)] h7 Z
  refine st_icmp_ge (tgt := 67) dX11_isPeeped_32 (by decide) (fun c => ?_) (fun c => ?_)
  · replace w := w.1 c
    exact w
  · replace w := w.2 c
    refine st_aload_n dX11_isPeeped_35 rfl ?_
    refine st_getF (q := 74) fl_X11_7 fk_11_0 rfl dX11_isPeeped_36 sh_73 ?_
    refine st_bipush (v := 24) dX11_isPeeped_39 (by decide) ?_
    refine st_iload_n dX11_isPeeped_41 rfl ?_
    refine st_iadd dX11_isPeeped_42 ?_
    have hc8 := w.1
    replace w := w.2
    refine st_iald dX11_isPeeped_43 sh_74 hc8 ?_
    refine st_if_ne (tgt := 57) dX11_isPeeped_44 (by decide) (fun c => ?_) (fun c => ?_)
    · replace w := w.1 c
      exact w
    · replace w := w.2 c
      refine st_aload_n dX11_isPeeped_47 rfl ?_
      refine st_aload_n dX11_isPeeped_48 rfl ?_
      refine st_getI fl_X11_311 fk_11_41 dX11_isPeeped_49 sh_73 ?_
      refine st_iconst (v := 1) dX11_isPeeped_52 (by decide) ?_
      refine st_iadd dX11_isPeeped_53 ?_
      refine st_putI flp_X11_311 fk_11_41 dX11_isPeeped_54 sh_73 (fun h9 eh9 => ?_)
      replace w := w h9 eh9
      exact w
set_option maxRecDepth 20000 in
set_option maxHeartbeats 2000000 in
theorem sX11_isPeeped_67 {d : Nat} {h : am_H} {Z : Int32 → am_H → Prop} {x1 : Int32} (hd : 2 ≤ d) (w : (vp_in (48 + x1) 74 ∧ (∀ h2 : am_H, h2 = am_sR h 74 (upd (h.2.2 74) (48 + x1).toNatClampNeg (am_min (9999 : Int32) ((h.2.2 74 (48 + x1).toNatClampNeg) + 1))) → (Z 0 h2)))) : Ru mX11_isPeeped none d 67 [.ref 73, .int x1] [] h Z := by
  refine st_aload_n dX11_isPeeped_67 rfl ?_
  refine st_getF (q := 74) fl_X11_7 fk_11_0 rfl dX11_isPeeped_68 sh_73 ?_
  refine st_bipush (v := 48) dX11_isPeeped_71 (by decide) ?_
  refine st_iload_n dX11_isPeeped_73 rfl ?_
  refine st_iadd dX11_isPeeped_74 ?_
  refine st_sipush (v := 9999) dX11_isPeeped_75 (by decide) ?_
  refine st_aload_n dX11_isPeeped_78 rfl ?_
  refine st_getF (q := 74) fl_X11_7 fk_11_0 rfl dX11_isPeeped_79 sh_73 ?_
  refine st_bipush (v := 48) dX11_isPeeped_82 (by decide) ?_
  refine st_iload_n dX11_isPeeped_84 rfl ?_
  refine st_iadd dX11_isPeeped_85 ?_
  have hc1 := w.1
  replace w := w.2
  refine st_iald dX11_isPeeped_86 sh_74 hc1 ?_
  refine st_iconst (v := 1) dX11_isPeeped_87 (by decide) ?_
  refine st_iadd dX11_isPeeped_88 ?_
  refine st_callS (M' := mX11_min) [.int 9999, .int ((h.2.2 74 (48 + x1).toNatClampNeg) + 1)] [.int (48 + x1), .ref 74] dX11_isPeeped_89 ml_X11_314 mf_X11_min ms_X11_min rfl rfl rfl (K := fun r h' => (am_min (9999 : Int32) ((h.2.2 74 (48 + x1).toNatClampNeg) + 1)) = r ∧ h = h') ⟨1, by omega, iX11_min ⟨rfl, rfl⟩⟩ (fun r1 h1 w1 => ?_)
  obtain ⟨rfl, rfl⟩ := w1
  show Ru mX11_isPeeped none d 92 [.ref 73, .int x1] [.int (am_min (9999 : Int32) ((h.2.2 74 (48 + x1).toNatClampNeg) + 1)), .int (48 + x1), .ref 74] h Z
  refine st_iast dX11_isPeeped_92 sh_74 hc1 (fun h2 eh2 => ?_)
  replace w := w h2 eh2
  exact st_return rfl dX11_isPeeped_93 w
set_option maxRecDepth 20000 in
set_option maxHeartbeats 2000000 in
theorem sX11_isPeeped_57 {d : Nat} {h : am_H} {Z : Int32 → am_H → Prop} {x1 : Int32} (w : (vp_in (24 + x1) 74 ∧ (∀ h2 : am_H, h2 = am_sR h 74 (upd (h.2.2 74) (24 + x1).toNatClampNeg 1) → (Ru mX11_isPeeped none d 67 [.ref 73, .int x1] [] h2 Z)))) : Ru mX11_isPeeped none d 57 [.ref 73, .int x1] [] h Z := by
  refine st_aload_n dX11_isPeeped_57 rfl ?_
  refine st_getF (q := 74) fl_X11_7 fk_11_0 rfl dX11_isPeeped_58 sh_73 ?_
  refine st_bipush (v := 24) dX11_isPeeped_61 (by decide) ?_
  refine st_iload_n dX11_isPeeped_63 rfl ?_
  refine st_iadd dX11_isPeeped_64 ?_
  refine st_iconst (v := 1) dX11_isPeeped_65 (by decide) ?_
  have hc1 := w.1
  replace w := w.2
  refine st_iast dX11_isPeeped_66 sh_74 hc1 (fun h2 eh2 => ?_)
  replace w := w h2 eh2
  exact w
set_option maxRecDepth 20000 in
set_option maxHeartbeats 2000000 in
theorem sX11_dayGoes_0 {d : Nat} {h : am_H} {Z : Int32 → am_H → Prop}  (w : (∀ h1 : am_H, h1 = am_sI h 73 42 0 → (Ru mX11_dayGoes none d 7 [.ref 73, .int 0] [] h1 Z))) : Ru mX11_dayGoes none d 0 [.ref 73, .null] [] h Z := by
  refine st_aload_n dX11_dayGoes_0 rfl ?_
  refine st_iconst (v := 0) dX11_dayGoes_1 (by decide) ?_
  refine st_putI flp_X11_295 fk_11_42 dX11_dayGoes_2 sh_73 (fun h1 eh1 => ?_)
  replace w := w h1 eh1
  refine st_iconst (v := 0) dX11_dayGoes_5 (by decide) ?_
  refine st_istore_n (L' := [.ref 73, .int 0]) dX11_dayGoes_6 (by decide) rfl ?_
  exact w
set_option maxRecDepth 20000 in
set_option maxHeartbeats 2000000 in
theorem sX11_dayGoes_7 {d : Nat} {h : am_H} {Z : Int32 → am_H → Prop} {x1 : Int32} (hd : 3 ≤ d) (w : (12 ≤ x1 → Ru mX11_dayGoes none d 62 [.ref 73, .int 0] [] h Z) ∧ (¬ (12 ≤ x1) → (am_mT h x1 → am_cl mX11_draws d [.ref 73] h (fun r1 h2 => am_cl mX11_feelsDrawer d [.ref 73, .int x1, .int r1] h2 (fun r3 h4 => am_cl mX11_holdsAny d [.ref 73, .int 120] h4 (fun r5 h6 => (r5 = 0 → Ru mX11_dayGoes none d 7 [.ref 73, .int (x1 + 1)] [] h6 Z) ∧ (¬ (r5 = 0) → (∀ h7 : am_H, h7 = am_sI h6 73 42 ((h6.1 73 42) ||| (1 <<< (x1 &&& 31))) → (Ru mX11_dayGoes none d 7 [.ref 73, .int (x1 + 1)] [] h7 Z))))))) ∧ (¬ (am_mT h x1) → Ru mX11_dayGoes none d 7 [.ref 73, .int (x1 + 1)] [] h Z))) : Ru mX11_dayGoes none d 7 [.ref 73, .int x1] [] h Z := by
  refine st_iload_n dX11_dayGoes_7 rfl ?_
  refine st_bipush (v := 12) dX11_dayGoes_8 (by decide) ?_
  refine st_icmp_ge (tgt := 60) dX11_dayGoes_10 (by decide) (fun c => ?_) (fun c => ?_)
  · replace w := w.1 c
    refine st_iconst (v := 0) dX11_dayGoes_60 (by decide) ?_
    refine st_istore_n (L' := [.ref 73, .int 0]) dX11_dayGoes_61 (by decide) rfl ?_
    exact w
  · replace w := w.2 c
    refine st_aload_n dX11_dayGoes_13 rfl ?_
    refine st_iload_n dX11_dayGoes_14 rfl ?_
    refine st_callV (M' := mX11_isDrawer) [.int x1] [] dX11_dayGoes_15 ml_X11_152 mf_X11_isDrawer mv_X11_isDrawer sh_73 rfl rfl rfl (K := fun r h' => (am_b (am_mT h x1)) = r ∧ h = h') ⟨2, by omega, iX11_isDrawer (by omega) ⟨rfl, rfl⟩⟩ (fun r1 h1 w1 => ?_)
    obtain ⟨rfl, rfl⟩ := w1
    show Ru mX11_dayGoes none d 18 [.ref 73, .int x1] [.int (am_b (am_mT h x1))] h Z
    refine st_ifb_ne (tgt := 24) dX11_dayGoes_18 (by decide) (fun c => ?_) (fun c => ?_)
    · replace w := w.1 c
      refine st_aload_n dX11_dayGoes_24 rfl ?_
      refine st_iload_n dX11_dayGoes_25 rfl ?_
      refine st_aload_n dX11_dayGoes_26 rfl ?_
      refine st_callV (M' := mX11_draws) [] [.int x1, .ref 73] dX11_dayGoes_27 ml_X11_308 mf_X11_draws mv_X11_draws sh_73 rfl rfl rfl w (fun r1 h2 w => ?_)
      show Ru mX11_dayGoes none d 30 [.ref 73, .int x1] [.int r1, .int x1, .ref 73] h2 Z
      refine st_callV (M' := mX11_feelsDrawer) [.int x1, .int r1] [] dX11_dayGoes_30 ml_X11_292 mf_X11_feelsDrawer mv_X11_feelsDrawer sh_73 rfl rfl rfl w (fun r3 h4 w => ?_)
      show Ru mX11_dayGoes none d 33 [.ref 73, .int x1] [] h4 Z
      refine st_aload_n dX11_dayGoes_33 rfl ?_
      refine st_bipush (v := 120) dX11_dayGoes_34 (by decide) ?_
      refine st_callV (M' := mX11_holdsAny) [.int 120] [] dX11_dayGoes_36 ml_X11_317 mf_X11_holdsAny mv_X11_holdsAny sh_73 rfl rfl rfl w (fun r5 h6 w => ?_)
      show Ru mX11_dayGoes none d 39 [.ref 73, .int x1] [.int r5] h6 Z
      refine st_if_eq (tgt := 54) dX11_dayGoes_39 (by decide) (fun c => ?_) (fun c => ?_)
      · replace w := w.1 c
        refine st_iinc (L' := [.ref 73, .int (x1 + 1)]) dX11_dayGoes_54 rfl rfl (by decide) rfl ?_
        refine st_goto (tgt := 7) dX11_dayGoes_57 (by decide) ?_
        exact w
      · replace w := w.2 c
        refine st_aload_n dX11_dayGoes_42 rfl ?_
        refine st_aload_n dX11_dayGoes_43 rfl ?_
        refine st_getI fl_X11_295 fk_11_42 dX11_dayGoes_44 sh_73 ?_
        refine st_iconst (v := 1) dX11_dayGoes_47 (by decide) ?_
        refine st_iload_n dX11_dayGoes_48 rfl ?_
        refine st_ishl dX11_dayGoes_49 ?_
        refine st_ior dX11_dayGoes_50 ?_
        refine st_putI flp_X11_295 fk_11_42 dX11_dayGoes_51 sh_73 (fun h7 eh7 => ?_)
        replace w := w h7 eh7
        refine st_iinc (L' := [.ref 73, .int (x1 + 1)]) dX11_dayGoes_54 rfl rfl (by decide) rfl ?_
        refine st_goto (tgt := 7) dX11_dayGoes_57 (by decide) ?_
        exact w
    · replace w := w.2 c
      refine st_goto (tgt := 54) dX11_dayGoes_21 (by decide) ?_
      refine st_iinc (L' := [.ref 73, .int (x1 + 1)]) dX11_dayGoes_54 rfl rfl (by decide) rfl ?_
      refine st_goto (tgt := 7) dX11_dayGoes_57 (by decide) ?_
      exact w
set_option maxRecDepth 20000 in
set_option maxHeartbeats 2000000 in
theorem sX11_dayGoes_62 {d : Nat} {h : am_H} {Z : Int32 → am_H → Prop} {x1 : Int32} (w : ((h.1 73 7) ≤ x1 → Ru mX11_dayGoes none d 95 [.ref 73, .int 0] [] h Z) ∧ (¬ ((h.1 73 7) ≤ x1) → (vp_in x1 74 ∧ ((¬ (h.2.2 74 x1.toNatClampNeg) = (-1) → Ru mX11_dayGoes none d 62 [.ref 73, .int (x1 + 1)] [] h Z) ∧ ((h.2.2 74 x1.toNatClampNeg) = (-1) → am_cl mX11_goesIn d [.ref 73, .int x1] h (fun r2 h3 => Ru mX11_dayGoes none d 62 [.ref 73, .int (x1 + 1)] [] h3 Z)))))) : Ru mX11_dayGoes none d 62 [.ref 73, .int x1] [] h Z := by
  refine st_iload_n dX11_dayGoes_62 rfl ?_
  refine st_aload_n dX11_dayGoes_63 rfl ?_
  refine st_getI fl_X11_137 fk_11_7 dX11_dayGoes_64 sh_73 ?_
  refine st_icmp_ge (tgt := 93) dX11_dayGoes_67 (by decide) (fun c => ?_) (fun c => ?_)
  · replace w := w.1 c
    refine st_iconst (v := 0) dX11_dayGoes_93 (by decide) ?_
    refine st_istore_n (L' := [.ref 73, .int 0]) dX11_dayGoes_94 (by decide) rfl ?_
    exact w
  · replace w := w.2 c
    refine st_aload_n dX11_dayGoes_70 rfl ?_
    refine st_getF (q := 74) fl_X11_7 fk_11_0 rfl dX11_dayGoes_71 sh_73 ?_
    refine st_iconst (v := 0) dX11_dayGoes_74 (by decide) ?_
    refine st_iload_n dX11_dayGoes_75 rfl ?_
    refine st_iadd0 dX11_dayGoes_76 ?_
    have hc1 := w.1
    replace w := w.2
    refine st_iald dX11_dayGoes_77 sh_74 hc1 ?_
    refine st_iconst (v := (-1)) dX11_dayGoes_78 (by decide) ?_
    refine st_icmp_ne (tgt := 87) dX11_dayGoes_79 (by decide) (fun c => ?_) (fun c => ?_)
    · replace w := w.1 c
      refine st_iinc (L' := [.ref 73, .int (x1 + 1)]) dX11_dayGoes_87 rfl rfl (by decide) rfl ?_
      refine st_goto (tgt := 62) dX11_dayGoes_90 (by decide) ?_
      exact w
    · replace w := w.2 c
      refine st_aload_n dX11_dayGoes_82 rfl ?_
      refine st_iload_n dX11_dayGoes_83 rfl ?_
      refine st_callV (M' := mX11_goesIn) [.int x1] [] dX11_dayGoes_84 ml_X11_320 mf_X11_goesIn mv_X11_goesIn sh_73 rfl rfl rfl w (fun r2 h3 w => ?_)
      show Ru mX11_dayGoes none d 87 [.ref 73, .int x1] [] h3 Z
      refine st_iinc (L' := [.ref 73, .int (x1 + 1)]) dX11_dayGoes_87 rfl rfl (by decide) rfl ?_
      refine st_goto (tgt := 62) dX11_dayGoes_90 (by decide) ?_
      exact w
set_option maxRecDepth 20000 in
set_option maxHeartbeats 2000000 in
theorem sX11_dayGoes_95 {d : Nat} {h : am_H} {Z : Int32 → am_H → Prop} {x1 : Int32} (w : ((h.1 73 7) ≤ x1 → (∀ h1 : am_H, h1 = am_sR h 74 (upd (h.2.2 74) 72 ((h.2.2 74 72) + 1)) → (Z 0 h1))) ∧ (¬ ((h.1 73 7) ≤ x1) → (vp_in x1 74 ∧ (((h.2.2 74 x1.toNatClampNeg) = (-1) → Ru mX11_dayGoes none d 95 [.ref 73, .int (x1 + 1)] [] h Z) ∧ (¬ ((h.2.2 74 x1.toNatClampNeg) = (-1)) → am_cl mX11_isPeeped d [.ref 73, .int x1] h (fun r3 h4 => Ru mX11_dayGoes none d 95 [.ref 73, .int (x1 + 1)] [] h4 Z)))))) : Ru mX11_dayGoes none d 95 [.ref 73, .int x1] [] h Z := by
  refine st_iload_n dX11_dayGoes_95 rfl ?_
  refine st_aload_n dX11_dayGoes_96 rfl ?_
  refine st_getI fl_X11_137 fk_11_7 dX11_dayGoes_97 sh_73 ?_
  refine st_icmp_ge (tgt := 126) dX11_dayGoes_100 (by decide) (fun c => ?_) (fun c => ?_)
  · replace w := w.1 c
    refine st_aload_n dX11_dayGoes_126 rfl ?_
    refine st_getF (q := 74) fl_X11_7 fk_11_0 rfl dX11_dayGoes_127 sh_73 ?_
    refine st_bipush (v := 72) dX11_dayGoes_130 (by decide) ?_
    refine st_aload_n dX11_dayGoes_132 rfl ?_
    refine st_getF (q := 74) fl_X11_7 fk_11_0 rfl dX11_dayGoes_133 sh_73 ?_
    refine st_bipush (v := 72) dX11_dayGoes_136 (by decide) ?_
    refine st_iald dX11_dayGoes_138 sh_74 (by unfold vp_in; decide +kernel) ?_
    show Ru mX11_dayGoes none d 139 [.ref 73, .int x1] [.int (h.2.2 74 72), .int 72, .ref 74] h Z
    refine st_iconst (v := 1) dX11_dayGoes_139 (by decide) ?_
    refine st_iadd dX11_dayGoes_140 ?_
    refine st_iast dX11_dayGoes_141 sh_74 (by unfold vp_in; decide +kernel) (fun h1 eh1 => ?_)
    replace w := w h1 eh1
    exact st_return rfl dX11_dayGoes_142 w
  · replace w := w.2 c
    refine st_aload_n dX11_dayGoes_103 rfl ?_
    refine st_getF (q := 74) fl_X11_7 fk_11_0 rfl dX11_dayGoes_104 sh_73 ?_
    refine st_iconst (v := 0) dX11_dayGoes_107 (by decide) ?_
    refine st_iload_n dX11_dayGoes_108 rfl ?_
    refine st_iadd0 dX11_dayGoes_109 ?_
    have hc2 := w.1
    replace w := w.2
    refine st_iald dX11_dayGoes_110 sh_74 hc2 ?_
    refine st_iconst (v := (-1)) dX11_dayGoes_111 (by decide) ?_
    refine st_icmp_eq (tgt := 120) dX11_dayGoes_112 (by decide) (fun c => ?_) (fun c => ?_)
    · replace w := w.1 c
      refine st_iinc (L' := [.ref 73, .int (x1 + 1)]) dX11_dayGoes_120 rfl rfl (by decide) rfl ?_
      refine st_goto (tgt := 95) dX11_dayGoes_123 (by decide) ?_
      exact w
    · replace w := w.2 c
      refine st_aload_n dX11_dayGoes_115 rfl ?_
      refine st_iload_n dX11_dayGoes_116 rfl ?_
      refine st_callV (M' := mX11_isPeeped) [.int x1] [] dX11_dayGoes_117 ml_X11_323 mf_X11_isPeeped mv_X11_isPeeped sh_73 rfl rfl rfl w (fun r3 h4 w => ?_)
      show Ru mX11_dayGoes none d 120 [.ref 73, .int x1] [] h4 Z
      refine st_iinc (L' := [.ref 73, .int (x1 + 1)]) dX11_dayGoes_120 rfl rfl (by decide) rfl ?_
      refine st_goto (tgt := 95) dX11_dayGoes_123 (by decide) ?_
      exact w
set_option maxRecDepth 20000 in
set_option maxHeartbeats 2000000 in
theorem sX11_daysGo_0 {d : Nat} {h : am_H} {Z : Int32 → am_H → Prop} {x1 : Int32} (w : (∀ h1 : am_H, h1 = am_sI h 73 40 0 → (∀ h2 : am_H, h2 = am_sI h1 73 41 0 → (Ru mX11_daysGo none d 12 [.ref 73, .int x1, .int 0] [] h2 Z)))) : Ru mX11_daysGo none d 0 [.ref 73, .int x1, .null] [] h Z := by
  refine st_aload_n dX11_daysGo_0 rfl ?_
  refine st_iconst (v := 0) dX11_daysGo_1 (by decide) ?_
  refine st_putI flp_X11_305 fk_11_40 dX11_daysGo_2 sh_73 (fun h1 eh1 => ?_)
  replace w := w h1 eh1
  refine st_aload_n dX11_daysGo_5 rfl ?_
  refine st_iconst (v := 0) dX11_daysGo_6 (by decide) ?_
  refine st_putI flp_X11_311 fk_11_41 dX11_daysGo_7 sh_73 (fun h2 eh2 => ?_)
  replace w := w h2 eh2
  refine st_iconst (v := 0) dX11_daysGo_10 (by decide) ?_
  refine st_istore_n (L' := [.ref 73, .int x1, .int 0]) dX11_daysGo_11 (by decide) rfl ?_
  exact w
set_option maxRecDepth 20000 in
set_option maxHeartbeats 2000000 in
theorem sX11_daysGo_12 {d : Nat} {h : am_H} {Z : Int32 → am_H → Prop} {x1 : Int32} {x2 : Int32} (w : (x1 ≤ x2 → Z 0 h) ∧ (¬ (x1 ≤ x2) → (9999 ≤ (h.2.2 74 72) → Z 0 h) ∧ (¬ (9999 ≤ (h.2.2 74 72)) → am_cl mX11_dayGoes d [.ref 73] h (fun r1 h2 => Ru mX11_daysGo none d 12 [.ref 73, .int x1, .int (x2 + 1)] [] h2 Z)))) : Ru mX11_daysGo none d 12 [.ref 73, .int x1, .int x2] [] h Z := by
  refine st_iload_n dX11_daysGo_12 rfl ?_
  refine st_iload_n dX11_daysGo_13 rfl ?_
  refine st_icmp_ge (tgt := 40) dX11_daysGo_14 (by decide) (fun c => ?_) (fun c => ?_)
  · replace w := w.1 c
    exact st_return rfl dX11_daysGo_40 w
  · replace w := w.2 c
    refine st_aload_n dX11_daysGo_17 rfl ?_
    refine st_getF (q := 74) fl_X11_7 fk_11_0 rfl dX11_daysGo_18 sh_73 ?_
    refine st_bipush (v := 72) dX11_daysGo_21 (by decide) ?_
    refine st_iald dX11_daysGo_23 sh_74 (by unfold vp_in; decide +kernel) ?_
    show Ru mX11_daysGo none d 24 [.ref 73, .int x1, .int x2] [.int (h.2.2 74 72)] h Z
    refine st_sipush (v := 9999) dX11_daysGo_24 (by decide) ?_
    refine st_icmp_ge (tgt := 40) dX11_daysGo_27 (by decide) (fun c => ?_) (fun c => ?_)
    · replace w := w.1 c
      exact st_return rfl dX11_daysGo_40 w
    · replace w := w.2 c
      refine st_aload_n dX11_daysGo_30 rfl ?_
      refine st_callV (M' := mX11_dayGoes) [] [] dX11_daysGo_31 ml_X11_326 mf_X11_dayGoes mv_X11_dayGoes sh_73 rfl rfl rfl w (fun r1 h2 w => ?_)
      show Ru mX11_daysGo none d 34 [.ref 73, .int x1, .int x2] [] h2 Z
      refine st_iinc (L' := [.ref 73, .int x1, .int (x2 + 1)]) dX11_daysGo_34 rfl rfl (by decide) rfl ?_
      refine st_goto (tgt := 12) dX11_daysGo_37 (by decide) ?_
      exact w
/-- what a day of the reference may change -/
def q_fm (h h' : am_H) : Prop := (∀ a, a ≠ 74 → a ≠ 92 → a ≠ 93 → h'.2.2 a = h.2.2 a) ∧ (∀ a k, ¬ (a = 73 ∧ (k = 40 ∨ k = 41 ∨ k = 42)) → h'.1 a k = h.1 a k) ∧ h'.2.1 = h.2.1
theorem q_fm_rf (h : am_H) : q_fm h h := ⟨fun _ _ _ _ => rfl, fun _ _ _ => rfl, rfl⟩
theorem q_fm_tr {h h1 h2 : am_H} (p : q_fm h h1) (q : q_fm h1 h2) : q_fm h h2 := ⟨fun a n1 n2 n3 => (q.1 a n1 n2 n3).trans (p.1 a n1 n2 n3), fun a k n => (q.2.1 a k n).trans (p.2.1 a k n), q.2.2.trans p.2.2⟩
theorem q_fm_sR {h h1 : am_H} {a : Nat} {f : Nat → Int32} (p : q_fm h h1) (ha : a = 74 ∨ a = 92 ∨ a = 93) : q_fm h (am_sR h1 a f) := ⟨fun a' n1 n2 n3 => by rw [am_gR, if_neg (by omega)]; exact p.1 a' n1 n2 n3, p.2.1, p.2.2⟩
theorem q_fm_sI {h h1 : am_H} {k : Nat} {x : Int32} (p : q_fm h h1) (hk : k = 40 ∨ k = 41 ∨ k = 42) : q_fm h (am_sI h1 73 k x) := ⟨p.1, fun a' k' n => by rw [am_gI, if_neg (fun q => n ⟨q.1, by omega⟩)]; exact p.2.1 a' k' n, p.2.2⟩
theorem q_fm_f2 {h h1 : am_H} (p : q_f2 h h1) : q_fm h h1 := ⟨fun a _ n2 n3 => p.1 a n2 n3, fun a k _ => by rw [p.2.1], p.2.2⟩
section
variable {d g : Nat} {h h1 : am_H} {Z : Int32 → am_H → Prop} {B : am_AB} {L : am_AL} {t : Nat → Bool}
theorem q_IM_fm (p : q_fm h h1) (hM : q_IM h B) : q_IM h1 B := by
  unfold q_IM
  rw [p.2.1 73 7 (by omega), p.2.1 73 6 (by omega), p.1 77 (by omega) (by omega) (by omega), p.1 78 (by omega) (by omega) (by omega), p.1 79 (by omega) (by omega) (by omega)]
  exact hM
theorem q_LM_fm (p : q_fm h h1) (hM : q_LM h L) : q_LM h1 L := by
  unfold q_LM
  rw [p.2.1 73 18 (by omega), p.1 87 (by omega) (by omega) (by omega), p.1 88 (by omega) (by omega) (by omega), p.1 89 (by omega) (by omega) (by omega), p.1 90 (by omega) (by omega) (by omega), p.1 91 (by omega) (by omega) (by omega)]
  exact hM
theorem q_LC_fm (hg : am_la g) (p : q_fm h h1) (hL : q_LC h g L) : q_LC h1 g L := by
  have hg2 : g ≤ 64 := by rcases hg with rfl | rfl <;> omega
  unfold q_LC
  rw [p.2.1 g 7 (by omega), p.1 (g + 1) (by omega) (by omega) (by omega), p.1 (g + 2) (by omega) (by omega) (by omega), p.1 (g + 3) (by omega) (by omega) (by omega), p.1 (g + 4) (by omega) (by omega) (by omega), p.1 (g + 5) (by omega) (by omega) (by omega)]
  exact hL
theorem q_IN_rr {a : Nat} {f : Nat → Int32} (ha : 74 ≠ a) (hN : q_IN h 74 B) : q_IN (am_sR h a f) 74 B := by
  unfold q_IN; rw [am_gR, if_neg ha]; exact hN
theorem q_IM_sm {B' : am_AB} (p : q_sm B B') (hM : q_IM h B) : q_IM h B' := by
  obtain ⟨e1, e2, e3, e4⟩ := p
  unfold q_IM
  rw [e1, e2, e3, e4]; exact hM
theorem q_IM_sx {v : Nat} (hM : q_IM h B) : q_IM h (q_sx B v) := hM
theorem q_mTn {k : Nat} (hM : q_IM h B) (hk : k < 12) : am_mT h (nI k) ↔ 0 < q_r B k := by
  rw [q_mT hM]
  constructor
  · rintro ⟨i, hi, e, q⟩
    rw [(nI_eq (by omega) (by omega)).mp e]; exact q
  · intro q; exact ⟨k, hk, rfl, q⟩
theorem q_IN_mv {p i : Nat} (hN : q_IN h 74 B) (hB : q_ok B) (hp : p < q_n B) (hi : i < 12) : q_IN (am_sR h 74 (upd (upd (h.2.2 74) p (nI i)) (48 + p) 0)) 74 (q_mv B p i) := by
  have hn := hB.1
  unfold q_IN
  rw [am_gRs]
  refine ⟨?_, ?_, fun q hq => ?_⟩
  · simp only [upd, show ¬ 72 = p by omega, show ¬ 72 = 48 + p by omega, if_false]; exact hN.1
  · simp only [upd, show ¬ 73 = p by omega, show ¬ 73 = 48 + p by omega, if_false]; exact hN.2.1
  · have hq' : q < q_n B := hq
    have h9 := hN.2.2 q hq
    by_cases c : q = p
    · subst c
      refine ⟨?_, ?_, ?_⟩
      · simp only [upd, show ¬ q = 48 + q by omega, if_false, if_true]
        show _ = q_w1 (am_un _ _ _ q); rw [am_un_s, q_w1_in hi]
      · simp only [upd, show ¬ 24 + q = 48 + q by omega, show ¬ 24 + q = q by omega, if_false]; exact h9.2.1
      · simp only [upd, if_true]
        show _ = nI (am_un _ _ _ q); rw [am_un_s]; rfl
    · refine ⟨?_, ?_, ?_⟩
      · simp only [upd, show ¬ q = 48 + p by omega, c, if_false]
        show _ = q_w1 (am_un _ _ _ q); rw [am_un_n _ _ c]; exact h9.1
      · simp only [upd, show ¬ 24 + q = 48 + p by omega, show ¬ 24 + q = p by omega, if_false]; exact h9.2.1
      · simp only [upd, show ¬ 48 + q = 48 + p by omega, show ¬ 48 + q = p by omega, if_false]
        show _ = nI (am_un _ _ _ q); rw [am_un_n _ _ c]; exact h9.2.2
theorem q_IN_r1 {p : Nat} (hN : q_IN h 74 B) (hB : q_ok B) (hp : p < q_n B) : q_IN (am_sR h 74 (upd (h.2.2 74) (24 + p) 1)) 74 (q_r1 B p) := by
  have hn := hB.1
  unfold q_IN
  rw [am_gRs]
  refine ⟨?_, ?_, fun q hq => ?_⟩
  · simp only [upd, show ¬ 72 = 24 + p by omega, if_false]; exact hN.1
  · simp only [upd, show ¬ 73 = 24 + p by omega, if_false]; exact hN.2.1
  · have hq' : q < q_n B := hq
    have h9 := hN.2.2 q hq
    refine ⟨?_, ?_, ?_⟩
    · simp only [upd, show ¬ q = 24 + p by omega, if_false]; exact h9.1
    · show upd _ _ _ (24 + q) = nI (am_un _ _ _ q)
      unfold upd
      by_cases c : q = p
      · rw [if_pos (by omega), c, am_un_s]; rfl
      · rw [if_neg (by omega), am_un_n _ _ c]; exact h9.2.1
    · simp only [upd, show ¬ 48 + q = 24 + p by omega, if_false]; exact h9.2.2
theorem q_IN_a1 {p : Nat} (hN : q_IN h 74 B) (hB : q_ok B) (hp : p < q_n B) : q_IN (am_sR h 74 (upd (h.2.2 74) (48 + p) (am_min 9999 (h.2.2 74 (48 + p) + 1)))) 74 (q_a1 B p) := by
  have hn := hB.1
  have ha := (hB.2.2.2.2 p hp).2.2.2.2.1
  unfold q_IN
  rw [am_gRs]
  refine ⟨?_, ?_, fun q hq => ?_⟩
  · simp only [upd, show ¬ 72 = 48 + p by omega, if_false]; exact hN.1
  · simp only [upd, show ¬ 73 = 48 + p by omega, if_false]; exact hN.2.1
  · have hq' : q < q_n B := hq
    have h9 := hN.2.2 q hq
    refine ⟨?_, ?_, ?_⟩
    · simp only [upd, show ¬ q = 48 + p by omega, if_false]; exact h9.1
    · simp only [upd, show ¬ 24 + q = 48 + p by omega, if_false]; exact h9.2.1
    · show upd _ _ _ (48 + q) = nI (am_un _ _ _ q)
      unfold upd
      by_cases c : q = p
      · rw [if_pos (by omega), c, am_un_s, (hN.2.2 p hp).2.2, nI_1, show (9999 : Int32) = nI 9999 from rfl, q_min (by omega) (by omega)]
      · rw [if_neg (by omega), am_un_n _ _ c]; exact h9.2.2
theorem q_rw {v dr : Int32} (h0 : 0 ≤ dr) (h9 : dr ≤ 9) : q_cl v 10 ≤ dr ↔ v ≤ dr := by
  unfold q_cl
  by_cases c : 0 ≤ v
  · rw [if_pos c]
    by_cases c2 : v ≤ 10
    · rw [if_pos c2]
    · rw [if_neg c2]
      exact ⟨fun q => absurd (Int32.le_trans q h9) (by decide), fun q => absurd (Int32.le_trans (Int32.le_trans q h9) (by decide)) c2⟩
  · rw [if_neg c]
    exact ⟨fun _ => Int32.le_trans (Int32.le_of_lt (Int32.not_le.mp c)) h0, fun _ => h0⟩
theorem iX11_goesIn {p : Nat} (hd : 10 ≤ d) (hg : am_la g) (hL : q_LC h g L) (hLM : q_LM h L) (hN : q_IN h 74 B) (hM : q_IM h B) (hB : q_ok B) (hp : p < q_n B) (hst : ∀ j, j < 12 → (am_has (h.1 73 42) (nI j) ↔ t j = true)) (z : ∀ h1, q_f2 h h1 → (¬ (am_fd (q_mw L B t p) 0 12 (-1, 0)).1 = -1 → Z 0 (am_sI (am_sR h1 74 (upd (upd (h1.2.2 74) p (am_fd (q_mw L B t p) 0 12 (-1, 0)).1) (48 + p) 0)) 73 40 (h1.1 73 40 + 1))) ∧ ((am_fd (q_mw L B t p) 0 12 (-1, 0)).1 = -1 → Z 0 h1)) : Sp mX11_goesIn d [.ref 73, .int (nI p)] h Z :=
  Sp_of mf_X11_goesIn rfl (Nat.le_of_ble_eq_true rfl) rfl (sX11_goesIn_0 (m_gi hd hg hL hLM hN hM hB hp hst z 12 0 (-1, 0) h .null (by omega) ⟨fun _ _ _ => rfl, rfl, rfl⟩ rfl))
theorem iX11_isPeeped {p : Nat} (hd : 10 ≤ d) (hg : am_la g) (hL : q_LC h g L) (hLM : q_LM h L) (hN : q_IN h 74 B) (hM : q_IM h B) (hB : q_ok B) (hp : p < q_n B) (hw : q_w B p < 12) (z : ∀ h' s, s = q_re L p (B, h.1 73 41) → q_IN h' 74 s.1 → q_fm h h' → h'.1 73 41 = s.2 → h'.1 73 40 = h.1 73 40 → Z 0 h') : Sp mX11_isPeeped d [.ref 73, .int (nI p)] h Z := by
  have hn := hB.1
  have hB1 := q_ok_sx hB (q_dx_lt (q_x B))
  have hr : 0 < q_r B (q_w B p) := by rcases (hB.2.2.2.2 p hp).2.2.1 with q | q; omega; exact q.2
  have e24 : (24 : Int32) + nI p = nI (24 + p) := nI_add 24 p
  have e48 : (48 : Int32) + nI p = nI (48 + p) := nI_add 48 p
  have w0 : h.2.2 74 p = nI (q_w B p) := ((hN.2.2 p hp).1).trans (q_w1_in hw)
  have hp1 : p < q_n (q_sx B (q_dx (q_x B))) := hp
  refine Sp_of mf_X11_isPeeped rfl (Nat.le_of_ble_eq_true rfl) rfl (sX11_isPeeped_0 ⟨vp_in_nI (by omega) (by omega), 9, by omega, iX11_draws hN hB (fun f hN1 => ?_)⟩)
  rw [nI_clamp (by omega), w0]
  refine ⟨9, by omega, iX11_feelsPaper (by omega) hN1 (q_IM_s74 (q_IM_sx hM)) hB1 hp1 hw hr (fun f3 hf3 => ⟨9, by omega, iX11_says (kd := 114) (by omega) hg (by omega) (by omega) (by decide) (q_LC_fm hg (q_fm_sR (q_fm_rf h) (Or.inl rfl)) hL) (q_LM_fm (q_fm_sR (q_fm_rf h) (Or.inl rfl)) hLM) hf3 (fun f4 => ?_)⟩)⟩
  have e9 : (am_sR (am_sR h 74 f) 93 f3).2.2 93 9 = nI (q_dx (q_x B) % 10) := by rw [am_gRs]; exact hf3 9 (by omega)
  have hm10 : q_dx (q_x B) % 10 < 10 := Nat.mod_lt _ (by decide)
  have hI7 : q_IN (am_sR (am_sR (am_sR h 74 f) 93 f3) 92 f4) 74 (q_sx B (q_dx (q_x B))) := q_IN_rr (by decide) (q_IN_rr (by decide) hN1)
  have hf7 : q_fm h (am_sR (am_sR (am_sR h 74 f) 93 f3) 92 f4) := q_fm_sR (q_fm_sR (q_fm_sR (q_fm_rf h) (Or.inl rfl)) (Or.inr (Or.inr rfl))) (Or.inr (Or.inl rfl))
  have k7 : ∀ j, (am_sR (am_sR (am_sR h 74 f) 93 f3) 92 f4).1 73 j = h.1 73 j := fun j => rfl
  rw [e9, q_rw (nI_pos' (by omega)) ((nI_leI (b := 9) (by omega) (by omega)).mpr (by omega)), e24, nI_clamp (by omega)]
  generalize am_sR (am_sR (am_sR h 74 f) 93 f3) 92 f4 = h7 at hI7 hf7 k7 ⊢
  have last : ∀ (B2 : am_AB) (v : Int32) (h8 : am_H), q_re L p (B, h.1 73 41) = (q_a1 B2 p, v) → q_ok B2 → p < q_n B2 → q_IN h8 74 B2 → q_fm h h8 → h8.1 73 41 = v → h8.1 73 40 = h.1 73 40 → Ru mX11_isPeeped none d 67 [.ref 73, .int (nI p)] [] h8 Z := fun B2 v h8 es hB2 hp2 hN8 hf8 e1 e2 => by
    refine sX11_isPeeped_67 (by omega) ?_
    rw [e48]
    refine ⟨vp_in_nI (by omega) (by omega), fun h9 e9 => ?_⟩
    rw [nI_clamp (by omega)] at e9
    subst e9
    exact z _ _ es.symm (q_IN_a1 hN8 hB2 hp2) (q_fm_sR hf8 (Or.inl rfl)) e1 e2
  refine ⟨fun c2 => ?_, fun c2 => ⟨vp_in_nI (by omega) (by omega), ?_⟩⟩
  · have rn : q_rn L p B = false := by unfold q_rn; exact decide_eq_false (Int32.not_lt.mpr c2)
    exact last _ _ h7 (by unfold q_re; rw [if_pos hw]; show (if q_rn L p B = true then _ else _) = _; rw [rn]; rfl) hB1 hp1 hI7 hf7 (k7 41) (k7 40)
  · have rn : q_rn L p B = true := by unfold q_rn; exact decide_eq_true (Int32.not_le.mp c2)
    have h01 := (hB.2.2.2.2 p hp).2.2.2.1
    have es : q_re L p (B, h.1 73 41) = (q_a1 (q_r1 (q_sx B (q_dx (q_x B))) p) p, if q_rd B p = 0 then h.1 73 41 + 1 else h.1 73 41) := by unfold q_re; rw [if_pos hw]; show (if q_rn L p B = true then _ else _) = _; rw [rn]; rfl
    have w7 : h7.2.2 74 (24 + p) = nI (q_rd B p) := (hI7.2.2 p hp1).2.1
    rw [w7]
    refine ⟨fun q => ?_, fun q h9 e9 => ?_⟩
    · refine sX11_isPeeped_57 ?_
      rw [e24]
      refine ⟨vp_in_nI (by omega) (by omega), fun h9 e9 => ?_⟩
      rw [nI_clamp (by omega)] at e9
      subst e9
      refine last _ _ _ es (q_ok_r1 hB1) hp1 (q_IN_r1 hI7 hB1 hp1) (q_fm_sR hf7 (Or.inl rfl)) ?_ (k7 40)
      rw [am_gRi, k7, if_neg (fun e => q (by rw [e]; rfl))]
    · have r0 : q_rd B p = 0 := (nI_eq (b := 0) (by omega) (by omega)).mp q
      subst e9
      refine sX11_isPeeped_57 ?_
      rw [e24]
      refine ⟨vp_in_nI (by omega) (by omega), fun h9 e9 => ?_⟩
      rw [nI_clamp (by omega)] at e9
      subst e9
      refine last _ _ _ es (q_ok_r1 hB1) hp1 (q_IN_r1 (h := am_sI h7 73 41 (h7.1 73 41 + 1)) hI7 hB1 hp1) (q_fm_sR (q_fm_sI hf7 (Or.inr (Or.inl rfl))) (Or.inl rfl)) ?_ ?_
      · rw [am_gRi, am_gI, if_pos ⟨rfl, rfl⟩, k7, if_pos r0]
      · rw [am_gRi, am_gI, if_neg (fun q => by omega)]; exact k7 40
end
section
variable {d g : Nat} {h : am_H} {Z : Int32 → am_H → Prop} {L : am_AL} {x y : Int32}
theorem m_sk (hd : 12 ≤ d) (hg : am_la g) (hL : q_LC h g L) (hLM : q_LM h L) : ∀ (m k : Nat) (s : am_AB × (Nat → Bool)) (S : Nat) (h1 : am_H), k + m = 12 → q_ok s.1 → q_IN h1 74 s.1 → q_IM h1 s.1 → q_fm h h1 → S < 2 ^ k → h1.1 73 42 = nI S → (∀ j, j < k → S.testBit j = s.2 j) → h1.1 73 40 = x → h1.1 73 41 = y → (∀ h' s' S', s' = am_fd (q_sk L) k m s → q_ok s'.1 → q_IN h' 74 s'.1 → q_IM h' s'.1 → q_fm h h' → S' < 2 ^ 12 → h'.1 73 42 = nI S' → (∀ j, j < 12 → S'.testBit j = s'.2 j) → h'.1 73 40 = x → h'.1 73 41 = y → Ru mX11_dayGoes none d 62 [.ref 73, .int 0] [] h' Z) → Ru mX11_dayGoes none d 7 [.ref 73, .int (nI k)] [] h1 Z
  | 0, k, s, S, h1, hk, hB, hN, hM, hf, hS, e42, ht, e1, e2, z => by
    have ek : k = 12 := by omega
    subst ek
    exact sX11_dayGoes_7 (by omega) ⟨fun _ => z h1 s S rfl hB hN hM hf hS e42 ht e1 e2, fun c => absurd (Int32.le_refl _) c⟩
  | m + 1, k, s, S, h1, hk, hB, hN, hM, hf, hS, e42, ht, e1, e2, z => by
    have hB1 := q_ok_sx hB (q_dx_lt (q_x s.1))
    have hS2 : S < 2 ^ (k + 1) := by rw [Nat.pow_succ]; omega
    have hSk : S.testBit k = false := Nat.testBit_lt_two_pow hS
    have hS31 : 2 ^ (k + 1) ≤ 2 ^ 12 := Nat.pow_le_pow_right (by decide) (by omega)
    refine sX11_dayGoes_7 (by omega) ⟨fun c => absurd c (nI_ge (b := 12) (by omega) (by omega)), fun _ => ?_⟩
    rw [q_mTn hM (by omega), nI_1]
    refine ⟨fun c => ⟨11, by omega, iX11_draws hN hB (fun f hN1 => ⟨11, by omega, iX11_feelsDrawer (by omega) hN1 (q_IM_s74 (q_IM_sx hM)) hB1 (by omega) c (fun f3 hf3 => ⟨11, by omega, iX11_sticks (by omega) hg (q_LC_fm hg (q_fm_sR hf (Or.inl rfl)) hL) (q_LM_fm (q_fm_sR hf (Or.inl rfl)) hLM) hf3 (fun f4 => ?_)⟩)⟩)⟩, fun c => ?_⟩
    · have es : q_sk L k s = (q_sx s.1 (q_dx (q_x s.1)), fun j => if j = k then !decide (q_sy L (q_sx s.1 (q_dx (q_x s.1))) 120 24 k (nI (q_dx (q_x s.1) % 10)) = 0) else s.2 j) := if_pos c
      have hN6 : q_IN (am_sR (am_sR (am_sR h1 74 f) 93 f3) 92 f4) 74 (q_sx s.1 (q_dx (q_x s.1))) := q_IN_rr (by decide) (q_IN_rr (by decide) hN1)
      have hf6 : q_fm h1 (am_sR (am_sR (am_sR h1 74 f) 93 f3) 92 f4) := q_fm_sR (q_fm_sR (q_fm_sR (q_fm_rf h1) (Or.inl rfl)) (Or.inr (Or.inr rfl))) (Or.inr (Or.inl rfl))
      have k6 : ∀ j, (am_sR (am_sR (am_sR h1 74 f) 93 f3) 92 f4).1 73 j = h1.1 73 j := fun j => rfl
      generalize am_sR (am_sR (am_sR h1 74 f) 93 f3) 92 f4 = h6 at hN6 hf6 k6 ⊢
      by_cases cs : q_sy L (q_sx s.1 (q_dx (q_x s.1))) 120 24 k (nI (q_dx (q_x s.1) % 10)) = 0
      · rw [if_pos cs]
        refine ⟨fun _ => ?_, fun q => absurd rfl q⟩
        refine m_sk hd hg hL hLM m (k + 1) (q_sk L k s) S h6 (by omega) (by rw [es]; exact hB1) (by rw [es]; exact hN6) (by rw [es]; exact q_IM_fm hf6 (q_IM_sx hM)) (q_fm_tr hf hf6) hS2 (by rw [k6]; exact e42) (fun j hj => ?_) (by rw [k6]; exact e1) (by rw [k6]; exact e2) z
        rw [es]
        show S.testBit j = if j = k then !decide _ else s.2 j
        by_cases cj : j = k
        · rw [if_pos cj, cj, hSk, decide_eq_true cs]; rfl
        · rw [if_neg cj]; exact ht j (by omega)
      · rw [if_neg cs]
        refine ⟨fun q => absurd q (by decide), fun _ h7 e7 => ?_⟩
        rw [k6, e42, am_shl1 (by omega), fa_or] at e7
        subst e7
        have hlt : S ||| 2 ^ k < 2 ^ (k + 1) := Nat.or_lt_two_pow hS2 (Nat.pow_lt_pow_right (by decide) (by omega))
        refine m_sk hd hg hL hLM m (k + 1) (q_sk L k s) (S ||| 2 ^ k) _ (by omega) (by rw [es]; exact hB1) (by rw [es]; exact hN6) (by rw [es]; exact q_IM_fm (q_fm_sI hf6 (Or.inr (Or.inr rfl))) (q_IM_sx hM)) (q_fm_sI (q_fm_tr hf hf6) (Or.inr (Or.inr rfl))) hlt (by rw [am_gI, if_pos ⟨rfl, rfl⟩]) (fun j hj => ?_) (by rw [am_gI, if_neg (fun q => by omega), k6]; exact e1) (by rw [am_gI, if_neg (fun q => by omega), k6]; exact e2) z
        rw [es, fb_bit_set]
        show (S.testBit j || decide (j = k)) = if j = k then !decide _ else s.2 j
        by_cases cj : j = k
        · rw [if_pos cj, decide_eq_true cj, decide_eq_false cs, Bool.or_true]; rfl
        · rw [if_neg cj, decide_eq_false cj, Bool.or_false]; exact ht j (by omega)
    · have es : q_sk L k s = (s.1, fun j => if j = k then false else s.2 j) := if_neg c
      refine m_sk hd hg hL hLM m (k + 1) (q_sk L k s) S h1 (by omega) (by rw [es]; exact hB) (by rw [es]; exact hN) (by rw [es]; exact hM) hf hS2 e42 (fun j hj => ?_) e1 e2 z
      rw [es]
      show S.testBit j = if j = k then false else s.2 j
      by_cases cj : j = k
      · rw [if_pos cj, cj]; exact hSk
      · rw [if_neg cj]; exact ht j (by omega)
theorem m_pn {n S : Nat} {t : Nat → Bool} (hd : 12 ≤ d) (hg : am_la g) (hL : q_LC h g L) (hLM : q_LM h L) (hS : S < 2 ^ 12) (ht : ∀ j, j < 12 → S.testBit j = t j) : ∀ (m k : Nat) (s : am_AB × Int32) (h1 : am_H), k + m = n → q_n s.1 = n → q_ok s.1 → q_IN h1 74 s.1 → q_IM h1 s.1 → q_fm h h1 → h1.1 73 42 = nI S → h1.1 73 40 = s.2 → h1.1 73 41 = y → (∀ h' s', s' = am_fd (q_pu L t) k m s → q_ok s'.1 → q_n s'.1 = n → q_IN h' 74 s'.1 → q_IM h' s'.1 → q_fm h h' → h'.1 73 40 = s'.2 → h'.1 73 41 = y → Ru mX11_dayGoes none d 95 [.ref 73, .int 0] [] h' Z) → Ru mX11_dayGoes none d 62 [.ref 73, .int (nI k)] [] h1 Z
  | 0, k, s, h1, hk, hn, hB, hN, hM, hf, e42, e1, e2, z => by
    refine sX11_dayGoes_62 ⟨fun _ => z h1 s rfl hB hn hN hM hf e1 e2, fun c => absurd ?_ c⟩
    rw [hM.1, hn, show k = n by omega]; exact Int32.le_refl _
  | m + 1, k, s, h1, hk, hn, hB, hN, hM, hf, e42, e1, e2, z => by
    have hn24 := hB.1
    have skip : ∀ (h1 : am_H), q_IN h1 74 s.1 → q_IM h1 s.1 → q_fm h h1 → h1.1 73 42 = nI S → h1.1 73 40 = s.2 → h1.1 73 41 = y → q_pu L t k s = s → Ru mX11_dayGoes none d 62 [.ref 73, .int (nI (k + 1))] [] h1 Z := fun h1 hN hM hf e42 e1 e2 es =>
      m_pn hd hg hL hLM hS ht m (k + 1) s h1 (by omega) hn hB hN hM hf e42 e1 e2 (fun h' s' q => z h' s' (by rw [am_fd_s, es]; exact q))
    refine sX11_dayGoes_62 ⟨fun c => absurd c (by rw [hM.1]; exact nI_ge (by omega) (by omega)), fun _ => ⟨vp_in_nI (by omega) (by omega), ?_⟩⟩
    rw [nI_clamp (by omega), (hN.2.2 k (by omega)).1, q_w1_o hB (by omega), nI_1]
    refine ⟨fun c => ?_, fun c => ⟨11, by omega, iX11_goesIn (t := t) (by omega) hg (q_LC_fm hg hf hL) (q_LM_fm hf hLM) hN hM hB (by omega) (fun j hj => ?_) (fun h2 hf2 => ⟨fun cr => ?_, fun cr => ?_⟩)⟩⟩
    · have hw : q_w s.1 k < 12 := by rcases (hB.2.2.2.2 k (by omega)).2.2.1 with q | q; exact absurd q c; exact q.1
      exact skip h1 hN hM hf e42 e1 e2 (if_pos hw)
    · rw [e42]; exact (am_bit_n (S := S) (i := j) (by omega) (by omega)).trans (by rw [ht j hj])
    · rcases q_mw_r L s.1 t k with e | ⟨i, hi, e, hr, hfit⟩
      · exact absurd e cr
      · have es : q_pu L t k s = (q_mv s.1 k i, s.2 + 1) := by unfold q_pu; rw [if_neg (by omega), if_neg (by rw [e]; exact nI_pos (by omega)), e, nI_clamp (by omega)]
        rw [e]
        have hN2 := q_IN_f2 hf2 hN
        have hf4 : q_fm h1 (am_sI (am_sR h2 74 (upd (upd (h2.2.2 74) k (nI i)) (48 + k) 0)) 73 40 (h2.1 73 40 + 1)) := q_fm_sI (q_fm_sR (q_fm_f2 hf2) (Or.inl rfl)) (Or.inl rfl)
        refine m_pn hd hg hL hLM hS ht m (k + 1) (q_pu L t k s) _ (by omega) (by rw [es]; exact hn) (by rw [es]; exact q_ok_mv hB (by omega) hi hr hfit) (by rw [es]; exact q_IN_mv hN2 hB (by omega) hi) (by rw [es]; exact q_IM_fm hf4 (q_IM_sm ⟨rfl, rfl, rfl, rfl⟩ hM)) (q_fm_tr hf hf4) ?_ ?_ ?_ z
        · rw [am_gI, if_neg (fun q => by omega), am_gRi, hf2.2.1]; exact e42
        · rw [am_gI, if_pos ⟨rfl, rfl⟩, hf2.2.1, e1, es]
        · rw [am_gI, if_neg (fun q => by omega), am_gRi, hf2.2.1]; exact e2
    · exact skip h2 (q_IN_f2 hf2 hN) (q_IM_f2 hf2 hM) (q_fm_tr hf (q_fm_f2 hf2)) (by rw [hf2.2.1]; exact e42) (by rw [hf2.2.1]; exact e1) (by rw [hf2.2.1]; exact e2) (by unfold q_pu; rw [if_neg (by omega), if_pos (by rw [cr]; decide)])
theorem m_pe {n : Nat} (hd : 12 ≤ d) (hg : am_la g) (hL : q_LC h g L) (hLM : q_LM h L) : ∀ (m k : Nat) (s : am_AB × Int32) (h1 : am_H), k + m = n → q_n s.1 = n → q_ok s.1 → q_IN h1 74 s.1 → q_IM h1 s.1 → q_fm h h1 → h1.1 73 41 = s.2 → h1.1 73 40 = x → (∀ h' s', s' = am_fd (q_re L) k m s → q_ok s'.1 → q_n s'.1 = n → q_IN h' 74 s'.1 → q_IM h' s'.1 → q_fm h h' → h'.1 73 41 = s'.2 → h'.1 73 40 = x → Z 0 (am_sR h' 74 (upd (h'.2.2 74) 72 (h'.2.2 74 72 + 1)))) → Ru mX11_dayGoes none d 95 [.ref 73, .int (nI k)] [] h1 Z
  | 0, k, s, h1, hk, hn, hB, hN, hM, hf, e1, e2, z => by
    refine sX11_dayGoes_95 ⟨fun _ h2 e => e ▸ z h1 s rfl hB hn hN hM hf e1 e2, fun c => absurd ?_ c⟩
    rw [hM.1, hn, show k = n by omega]; exact Int32.le_refl _
  | m + 1, k, s, h1, hk, hn, hB, hN, hM, hf, e1, e2, z => by
    have hn24 := hB.1
    refine sX11_dayGoes_95 ⟨fun c => absurd c (by rw [hM.1]; exact nI_ge (by omega) (by omega)), fun _ => ⟨vp_in_nI (by omega) (by omega), ?_⟩⟩
    rw [nI_clamp (by omega), (hN.2.2 k (by omega)).1, q_w1_o hB (by omega), nI_1]
    refine ⟨fun c => ?_, fun c => ?_⟩
    · exact m_pe hd hg hL hLM m (k + 1) s h1 (by omega) hn hB hN hM hf e1 e2 (fun h' s' q => z h' s' (by rw [am_fd_s, show q_re L k s = s from if_neg (by omega)]; exact q))
    · have hw : q_w s.1 k < 12 := by rcases (hB.2.2.2.2 k (by omega)).2.2.1 with q | q; exact absurd q c; exact q.1
      refine ⟨11, by omega, iX11_isPeeped (by omega) hg (q_LC_fm hg hf hL) (q_LM_fm hf hLM) hN hM hB (by omega) hw (fun h2 s2 es hN2 hf2 e21 e22 => ?_)⟩
      rw [e1] at es
      have es' : s2 = q_re L k s := es
      have qi := q_re_i L (p := k) hB
      rw [← es'] at qi
      exact m_pe hd hg hL hLM m (k + 1) s2 h2 (by omega) (qi.2.1.trans hn) qi.1 hN2 (q_IM_fm hf2 (q_IM_sm qi.2 hM)) (q_fm_tr hf hf2) e21 (e22.trans e2) (fun h' s' q => z h' s' (by rw [am_fd_s, ← es']; exact q))
theorem q_fdd1 (L : am_AL) (n : Nat) (s : am_AB × (Nat → Bool)) : q_d (am_fd (q_sk L) 0 n s).1 = q_d s.1 := am_fd_inv (R := fun _ (a : am_AB × (Nat → Bool)) => q_d a.1 = q_d s.1) n 0 s rfl (fun i a _ _ q => by unfold q_sk; split <;> exact q)
theorem q_fdd2 (L : am_AL) (t : Nat → Bool) (n : Nat) (s : am_AB × Int32) : q_d (am_fd (q_pu L t) 0 n s).1 = q_d s.1 := am_fd_inv (R := fun _ (a : am_AB × Int32) => q_d a.1 = q_d s.1) n 0 s rfl (fun i a _ _ q => by unfold q_pu; split; exact q; split <;> exact q)
theorem q_fdd3 (L : am_AL) (n : Nat) (s : am_AB × Int32) : q_d (am_fd (q_re L) 0 n s).1 = q_d s.1 := am_fd_inv (R := fun _ (a : am_AB × Int32) => q_d a.1 = q_d s.1) n 0 s rfl (fun i a _ _ q => by unfold q_re; split; split <;> exact q; exact q)
theorem q_day_d (L : am_AL) (T : am_AB × Int32 × Int32) : q_d (q_s3 L T).1 = q_d T.1 := by
  have a1 : q_d (q_s1 L T.1).1 = q_d T.1 := by
    unfold q_s1
    exact q_fdd1 L 12 (T.1, fun _ => false)
  have a2 : q_d (q_s2 L T).1 = q_d (q_s1 L T.1).1 := by
    unfold q_s2
    generalize q_s1 L T.1 = s1
    exact q_fdd2 L s1.2 (q_n s1.1) (s1.1, T.2.1)
  have a3 : q_d (q_s3 L T).1 = q_d (q_s2 L T).1 := by
    unfold q_s3
    generalize q_s2 L T = s2
    exact q_fdd3 L (q_n s2.1) (s2.1, T.2.2)
  exact a3.trans (a2.trans a1)
theorem iX11_dayGoes {T : am_AB × Int32 × Int32} (hd : 12 ≤ d) (hg : am_la g) (hL : q_LC h g L) (hLM : q_LM h L) (hB : q_ok T.1) (hN : q_IN h 74 T.1) (hM : q_IM h T.1) (h9 : q_d T.1 < 9999) (e1 : h.1 73 40 = T.2.1) (e2 : h.1 73 41 = T.2.2) (z : ∀ h' T', T' = q_day L T → q_ok T'.1 → q_IN h' 74 T'.1 → q_IM h' T'.1 → q_fm h h' → h'.1 73 40 = T'.2.1 → h'.1 73 41 = T'.2.2 → Z 0 h') : Sp mX11_dayGoes d [.ref 73] h Z := by
  refine Sp_of mf_X11_dayGoes rfl (Nat.le_of_ble_eq_true rfl) rfl (sX11_dayGoes_0 (fun h1 e => ?_))
  have hf1 : q_fm h h1 := by rw [e]; exact q_fm_sI (q_fm_rf h) (Or.inr (Or.inr rfl))
  have k1 : h1.1 73 42 = nI 0 := by rw [e, am_gI, if_pos ⟨rfl, rfl⟩]; rfl
  have k2 : h1.1 73 40 = T.2.1 := by rw [e, am_gI, if_neg (fun q => by omega)]; exact e1
  have k3 : h1.1 73 41 = T.2.2 := by rw [e, am_gI, if_neg (fun q => by omega)]; exact e2
  have hN1 : q_IN h1 74 T.1 := by rw [e]; exact hN
  refine m_sk hd hg hL hLM 12 0 (T.1, fun _ => false) 0 h1 (by omega) hB hN1 (q_IM_fm hf1 hM) hf1 (by omega) k1 (fun j hj => absurd hj (Nat.not_lt_zero j)) k2 k3 (fun h2 s1 S es1 hB2 hN2 hM2 hf2 hS e42 ht e21 e22 => ?_)
  have es1' : s1 = q_s1 L T.1 := es1
  refine m_pn (n := q_n s1.1) hd hg hL hLM hS ht (q_n s1.1) 0 (s1.1, T.2.1) h2 (by omega) rfl hB2 hN2 hM2 hf2 e42 e21 e22 (fun h4 s2 es2 hB4 hn4 hN4 hM4 hf4 e41 e43 => ?_)
  have es2' : s2 = q_s2 L T := by rw [es2, es1']; rfl
  refine m_pe (n := q_n s2.1) (x := s2.2) hd hg hL hLM (q_n s2.1) 0 (s2.1, T.2.2) h4 (by omega) rfl hB4 hN4 hM4 hf4 e43 e41 (fun h6 s3 es3 hB6 hn6 hN6 hM6 hf6 e61 e62 => ?_)
  have es3' : s3 = q_s3 L T := by rw [es3, es2']; rfl
  have hd6 : q_d s3.1 = q_d T.1 := by rw [es3']; exact q_day_d L T
  have hn24 := hB6.1
  refine z _ _ rfl ?_ ?_ ?_ (q_fm_sR hf6 (Or.inl rfl)) ?_ ?_
  · unfold q_day; rw [← es3']; exact ⟨hB6.1, by show q_d s3.1 + 1 ≤ 9999; omega, hB6.2.2⟩
  · unfold q_day; rw [← es3']
    unfold q_IN
    rw [am_gRs]
    refine ⟨?_, ?_, fun q hq => ?_⟩
    · show upd _ _ _ 72 = _
      unfold upd
      rw [if_pos rfl, hN6.1, nI_1]
    · show upd _ _ _ 73 = _
      unfold upd
      rw [if_neg (by decide)]; exact hN6.2.1
    · have hq' : q < q_n s3.1 := hq
      have hh := hN6.2.2 q hq
      simp only [upd, show ¬ q = 72 by omega, show ¬ 24 + q = 72 by omega, show ¬ 48 + q = 72 by omega, if_false]
      exact hh
  · unfold q_day; rw [← es3']; exact q_IM_s74 (q_IM_sm ⟨rfl, rfl, rfl, rfl⟩ hM6)
  · unfold q_day; rw [← es2']; exact e62
  · unfold q_day; rw [← es3']; exact e61
theorem m_dgo {n : Nat} (hd : 14 ≤ d) (hn : n ≤ 100) (hg : am_la g) (hL : q_LC h g L) (hLM : q_LM h L) : ∀ (m k : Nat) (T : am_AB × Int32 × Int32) (h1 : am_H), k + m = n → q_ok T.1 → q_IN h1 74 T.1 → q_IM h1 T.1 → q_fm h h1 → h1.1 73 40 = T.2.1 → h1.1 73 41 = T.2.2 → (∀ h' T', T' = q_dys L m T → q_ok T'.1 → q_IN h' 74 T'.1 → q_IM h' T'.1 → q_fm h h' → h'.1 73 40 = T'.2.1 → h'.1 73 41 = T'.2.2 → Z 0 h') → Ru mX11_daysGo none d 12 [.ref 73, .int (nI n), .int (nI k)] [] h1 Z
  | 0, k, T, h1, hk, hB, hN, hM, hf, e1, e2, z => by
    refine sX11_daysGo_12 ⟨fun _ => z h1 T rfl hB hN hM hf e1 e2, fun c => absurd ?_ c⟩
    rw [show k = n by omega]; exact Int32.le_refl _
  | m + 1, k, T, h1, hk, hB, hN, hM, hf, e1, e2, z => by
    have hdd := hB.2.1
    refine sX11_daysGo_12 ⟨fun c => absurd c (nI_ge (by omega) (by omega)), fun _ => ?_⟩
    rw [hN.1, nI_1, show (9999 : Int32) = nI 9999 from rfl, nI_leI (by omega) (by omega)]
    refine ⟨fun c => z h1 T (q_dys_top L _ T c).symm hB hN hM hf e1 e2, fun c => ⟨13, by omega, iX11_dayGoes (by omega) hg (q_LC_fm hg hf hL) (q_LM_fm hf hLM) hB hN hM (by omega) e1 e2 (fun h2 T2 eT hB2 hN2 hM2 hf2 e21 e22 => ?_)⟩⟩
    exact m_dgo hd hn hg hL hLM m (k + 1) T2 h2 (by omega) hB2 hN2 hM2 (q_fm_tr hf hf2) e21 e22 (fun h' T' q => z h' T' (by rw [q, eT]; exact (if_neg c).symm))
theorem iX11_daysGo {n : Nat} {B : am_AB} (hd : 14 ≤ d) (hn : n ≤ 100) (hg : am_la g) (hL : q_LC h g L) (hLM : q_LM h L) (hB : q_ok B) (hN : q_IN h 74 B) (hM : q_IM h B) (z : ∀ h' T', T' = q_dys L n (B, 0, 0) → q_ok T'.1 → q_IN h' 74 T'.1 → q_IM h' T'.1 → q_fm h h' → h'.1 73 40 = T'.2.1 → h'.1 73 41 = T'.2.2 → Z 0 h') : Sp mX11_daysGo d [.ref 73, .int (nI n)] h Z := by
  refine Sp_of mf_X11_daysGo rfl (Nat.le_of_ble_eq_true rfl) rfl (sX11_daysGo_0 (fun h1 e1 h2 e2 => ?_))
  subst e1
  subst e2
  have hf : q_fm h (am_sI (am_sI h 73 40 0) 73 41 0) := q_fm_sI (q_fm_sI (q_fm_rf h) (Or.inl rfl)) (Or.inr (Or.inl rfl))
  exact m_dgo hd hn hg hL hLM n 0 (B, 0, 0) _ (by omega) hB hN (q_IM_fm hf hM) hf (by rw [am_gI, if_neg (fun q => by omega), am_gI, if_pos ⟨rfl, rfl⟩]) (by rw [am_gI, if_pos ⟨rfl, rfl⟩]) z
end
