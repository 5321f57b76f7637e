-- drawerIs, paperIs, oldest, free, ofSubject, seed
set_option maxRecDepth 20000 in
set_option maxHeartbeats 2000000 in
theorem sX10_drawerIs_0 {d : Nat} {h : am_H} {Z : Int32 → am_H → Prop} {x1 : Int32} {x2 : Int32} (hd : 2 ≤ d) (w : (am_bu (h.2.1 0 10) ∧ ((am_told h (h.2.1 0 10) x1 → (x2 = 0 → (vp_in x1 12 ∧ (Z (h.2.2 (h.2.1 0 10 + 1) x1.toNatClampNeg) h))) ∧ (¬ x2 = 0 → (x2 = 1 → (vp_in x1 12 ∧ (Z (h.2.2 (h.2.1 0 10 + 2) x1.toNatClampNeg) h))) ∧ (¬ x2 = 1 → (x2 = 2 → am_cl mX0_bitsIn d [.ref (h.2.1 0 10), .int x1] h (fun r2 h3 => Z r2 h3)) ∧ (¬ x2 = 2 → Z (-1) h)))) ∧ (¬ (am_told h (h.2.1 0 10) x1) → Z (-1) h)))) : Ru mX10_drawerIs none d 0 [.ref 0, .int x1, .int x2] [] h Z := by
  refine st_aload_n dX10_drawerIs_0 rfl ?_
  refine st_getP fl_X10_72 fk_10_10 dX10_drawerIs_1 sh_0 ?_
  have hc1 := w.1
  replace w := w.2
  refine st_iload_n dX10_drawerIs_4 rfl ?_
  refine st_callV (M' := mX0_isTold) [.int x1] [] dX10_drawerIs_5 ml_X10_109 mf_X0_isTold mv_X0_isTold (bu_0 hc1) rfl rfl rfl (K := fun r h' => (am_b (am_told h (h.2.1 0 10) x1)) = r ∧ h = h') ⟨1, by omega, iX0_isTold hc1 ⟨rfl, rfl⟩⟩ (fun r1 h1 w1 => ?_)
  obtain ⟨rfl, rfl⟩ := w1
  show Ru mX10_drawerIs none d 8 [.ref 0, .int x1, .int x2] [.int (am_b (am_told h (h.2.1 0 10) x1))] h Z
  refine st_ifb_ne (tgt := 13) dX10_drawerIs_8 (by decide) (fun c => ?_) (fun c => ?_)
  · replace w := w.1 c
    refine st_iload_n dX10_drawerIs_13 rfl ?_
    by_cases c0 : x2 = 0
    · replace w := w.1 c0
      refine st_tableIn (off := 26) (tgt := 40) dX10_drawerIs_14 (by rw [c0]; decide) (by rw [c0]; decide) (by rw [c0]; decide) (by decide) ?_
      refine st_aload_n dX10_drawerIs_40 rfl ?_
      refine st_getP fl_X10_72 fk_10_10 dX10_drawerIs_41 sh_0 ?_
      refine st_getF (q := h.2.1 0 10 + 1) fl_X10_182 fk_0_0 rfl dX10_drawerIs_44 (bu_0 hc1) ?_
      refine st_iload_n dX10_drawerIs_47 rfl ?_
      have hc5 := w.1
      replace w := w.2
      refine st_iald dX10_drawerIs_48 (bu_1 hc1) hc5 ?_
      exact st_ireturn rfl rfl dX10_drawerIs_49 w
    · replace w := w.2 c0
      by_cases c1 : x2 = 1
      · replace w := w.1 c1
        refine st_tableIn (off := 36) (tgt := 50) dX10_drawerIs_14 (by rw [c1]; decide) (by rw [c1]; decide) (by rw [c1]; decide) (by decide) ?_
        refine st_aload_n dX10_drawerIs_50 rfl ?_
        refine st_getP fl_X10_72 fk_10_10 dX10_drawerIs_51 sh_0 ?_
        refine st_getF (q := h.2.1 0 10 + 2) fl_X10_169 fk_0_1 rfl dX10_drawerIs_54 (bu_0 hc1) ?_
        refine st_iload_n dX10_drawerIs_57 rfl ?_
        have hc4 := w.1
        replace w := w.2
        refine st_iald dX10_drawerIs_58 (bu_2 hc1) hc4 ?_
        exact st_ireturn rfl rfl dX10_drawerIs_59 w
      · replace w := w.2 c1
        by_cases c2 : x2 = 2
        · replace w := w.1 c2
          refine st_tableIn (off := 46) (tgt := 60) dX10_drawerIs_14 (by rw [c2]; decide) (by rw [c2]; decide) (by rw [c2]; decide) (by decide) ?_
          refine st_aload_n dX10_drawerIs_60 rfl ?_
          refine st_getP fl_X10_72 fk_10_10 dX10_drawerIs_61 sh_0 ?_
          refine st_iload_n dX10_drawerIs_64 rfl ?_
          refine st_callV (M' := mX0_bitsIn) [.int x1] [] dX10_drawerIs_65 ml_X10_185 mf_X0_bitsIn mv_X0_bitsIn (bu_0 hc1) rfl rfl rfl w (fun r2 h3 w => ?_)
          show Ru mX10_drawerIs none d 68 [.ref 0, .int x1, .int x2] [.int r2] h3 Z
          exact st_ireturn rfl rfl dX10_drawerIs_68 w
        · replace w := w.2 c2
          refine st_tableOut (tgt := 69) dX10_drawerIs_14 (am_tout (lo := 0) (hi := 2) (fun v hv1 hv2 hv => ?_)) (by decide) ?_
          · have hq : v = 0 ∨ v = 1 ∨ v = 2 := by omega
            rcases hq with rfl | rfl | rfl
            · exact c0 (am_toI hv (by decide))
            · exact c1 (am_toI hv (by decide))
            · exact c2 (am_toI hv (by decide))
          · refine st_iconst (v := (-1)) dX10_drawerIs_69 (by decide) ?_
            exact st_ireturn rfl rfl dX10_drawerIs_70 w
  · replace w := w.2 c
    refine st_iconst (v := (-1)) dX10_drawerIs_11 (by decide) ?_
    exact st_ireturn rfl rfl dX10_drawerIs_12 w
set_option maxRecDepth 20000 in
set_option maxHeartbeats 2000000 in
theorem sX11_drawerIs_0 {d : Nat} {h : am_H} {Z : Int32 → am_H → Prop} {x1 : Int32} {x2 : Int32} (hd : 3 ≤ d) (w : (am_mT h x1 → (x2 = 0 → (vp_in x1 12 ∧ (Z (h.2.2 77 x1.toNatClampNeg) h))) ∧ (¬ x2 = 0 → (x2 = 1 → am_cl mX11_fullOf d [.ref 73, .int x1] h (fun r3 h4 => Z r3 h4)) ∧ (¬ x2 = 1 → (x2 = 2 → am_cl mX11_papersIn d [.ref 73, .int x1] h (fun r1 h2 => Z r1 h2)) ∧ (¬ x2 = 2 → Z (-1) h)))) ∧ (¬ (am_mT h x1) → Z (-1) h)) : Ru mX11_drawerIs none d 0 [.ref 73, .int x1, .int x2] [] h Z := by
  refine st_aload_n dX11_drawerIs_0 rfl ?_
  refine st_iload_n dX11_drawerIs_1 rfl ?_
  refine st_callV (M' := mX11_isDrawer) [.int x1] [] dX11_drawerIs_2 ml_X11_152 mf_X11_isDrawer mv_X11_isDrawer sh_73 rfl rfl rfl (K := fun r h' => (am_b (am_mT h x1)) = r ∧ h = h') ⟨2, by omega, iX11_isDrawer (by omega) ⟨rfl, rfl⟩⟩ (fun r1 h1 w1 => ?_)
  obtain ⟨rfl, rfl⟩ := w1
  show Ru mX11_drawerIs none d 5 [.ref 73, .int x1, .int x2] [.int (am_b (am_mT h x1))] h Z
  refine st_ifb_ne (tgt := 10) dX11_drawerIs_5 (by decide) (fun c => ?_) (fun c => ?_)
  · replace w := w.1 c
    refine st_iload_n dX11_drawerIs_10 rfl ?_
    by_cases c0 : x2 = 0
    · replace w := w.1 c0
      refine st_tableIn (off := 25) (tgt := 36) dX11_drawerIs_11 (by rw [c0]; decide) (by rw [c0]; decide) (by rw [c0]; decide) (by decide) ?_
      refine st_aload_n dX11_drawerIs_36 rfl ?_
      refine st_getF (q := 77) fl_X11_19 fk_11_3 rfl dX11_drawerIs_37 sh_73 ?_
      refine st_iload_n dX11_drawerIs_40 rfl ?_
      have hc5 := w.1
      replace w := w.2
      refine st_iald dX11_drawerIs_41 sh_77 hc5 ?_
      exact st_ireturn rfl rfl dX11_drawerIs_42 w
    · replace w := w.2 c0
      by_cases c1 : x2 = 1
      · replace w := w.1 c1
        refine st_tableIn (off := 32) (tgt := 43) dX11_drawerIs_11 (by rw [c1]; decide) (by rw [c1]; decide) (by rw [c1]; decide) (by decide) ?_
        refine st_aload_n dX11_drawerIs_43 rfl ?_
        refine st_iload_n dX11_drawerIs_44 rfl ?_
        refine st_callV (M' := mX11_fullOf) [.int x1] [] dX11_drawerIs_45 ml_X11_140 mf_X11_fullOf mv_X11_fullOf sh_73 rfl rfl rfl w (fun r3 h4 w => ?_)
        show Ru mX11_drawerIs none d 48 [.ref 73, .int x1, .int x2] [.int r3] h4 Z
        exact st_ireturn rfl rfl dX11_drawerIs_48 w
      · replace w := w.2 c1
        by_cases c2 : x2 = 2
        · replace w := w.1 c2
          refine st_tableIn (off := 38) (tgt := 49) dX11_drawerIs_11 (by rw [c2]; decide) (by rw [c2]; decide) (by rw [c2]; decide) (by decide) ?_
          refine st_aload_n dX11_drawerIs_49 rfl ?_
          refine st_iload_n dX11_drawerIs_50 rfl ?_
          refine st_callV (M' := mX11_papersIn) [.int x1] [] dX11_drawerIs_51 ml_X11_286 mf_X11_papersIn mv_X11_papersIn sh_73 rfl rfl rfl w (fun r1 h2 w => ?_)
          show Ru mX11_drawerIs none d 54 [.ref 73, .int x1, .int x2] [.int r1] h2 Z
          exact st_ireturn rfl rfl dX11_drawerIs_54 w
        · replace w := w.2 c2
          refine st_tableOut (tgt := 55) dX11_drawerIs_11 (am_tout (lo := 0) (hi := 2) (fun v hv1 hv2 hv => ?_)) (by decide) ?_
          · have hq : v = 0 ∨ v = 1 ∨ v = 2 := by omega
            rcases hq with rfl | rfl | rfl
            · exact c0 (am_toI hv (by decide))
            · exact c1 (am_toI hv (by decide))
            · exact c2 (am_toI hv (by decide))
          · refine st_iconst (v := (-1)) dX11_drawerIs_55 (by decide) ?_
            exact st_ireturn rfl rfl dX11_drawerIs_56 w
  · replace w := w.2 c
    refine st_iconst (v := (-1)) dX11_drawerIs_8 (by decide) ?_
    exact st_ireturn rfl rfl dX11_drawerIs_9 w
set_option maxRecDepth 20000 in
set_option maxHeartbeats 2000000 in
theorem sX10_paperIs_0 {d : Nat} {h : am_H} {Z : Int32 → am_H → Prop} {x1 : Int32} {x2 : Int32} (hd : 2 ≤ d) (w : (am_bu (h.2.1 0 10) ∧ ((am_pap h (h.2.1 0 10) x1 → (x2 = 0 → (vp_in x1 24 ∧ (Z (h.2.2 (h.2.1 0 10 + 4) x1.toNatClampNeg) h))) ∧ (¬ x2 = 0 → (x2 = 1 → (vp_in x1 24 ∧ (Z (h.2.2 (h.2.1 0 10 + 5) x1.toNatClampNeg) h))) ∧ (¬ x2 = 1 → (x2 = 2 → (vp_in x1 24 ∧ (Z (h.2.2 (h.2.1 0 10 + 6) x1.toNatClampNeg) h))) ∧ (¬ x2 = 2 → (x2 = 3 → (vp_in x1 24 ∧ (Z (h.2.2 (h.2.1 0 10 + 7) x1.toNatClampNeg) h))) ∧ (¬ x2 = 3 → (x2 = 4 → (vp_in x1 24 ∧ (Z (h.2.2 (h.2.1 0 10 + 8) x1.toNatClampNeg) h))) ∧ (¬ x2 = 4 → Z (-1) h)))))) ∧ (¬ (am_pap h (h.2.1 0 10) x1) → Z (-1) h)))) : Ru mX10_paperIs none d 0 [.ref 0, .int x1, .int x2] [] h Z := by
  refine st_aload_n dX10_paperIs_0 rfl ?_
  refine st_getP fl_X10_72 fk_10_10 dX10_paperIs_1 sh_0 ?_
  have hc1 := w.1
  replace w := w.2
  refine st_iload_n dX10_paperIs_4 rfl ?_
  refine st_callV (M' := mX0_hasPaper) [.int x1] [] dX10_paperIs_5 ml_X10_101 mf_X0_hasPaper mv_X0_hasPaper (bu_0 hc1) rfl rfl rfl (K := fun r h' => (am_b (am_pap h (h.2.1 0 10) x1)) = r ∧ h = h') ⟨1, by omega, iX0_hasPaper hc1 ⟨rfl, rfl⟩⟩ (fun r1 h1 w1 => ?_)
  obtain ⟨rfl, rfl⟩ := w1
  show Ru mX10_paperIs none d 8 [.ref 0, .int x1, .int x2] [.int (am_b (am_pap h (h.2.1 0 10) x1))] h Z
  refine st_ifb_ne (tgt := 13) dX10_paperIs_8 (by decide) (fun c => ?_) (fun c => ?_)
  · replace w := w.1 c
    refine st_iload_n dX10_paperIs_13 rfl ?_
    by_cases c0 : x2 = 0
    · replace w := w.1 c0
      refine st_tableIn (off := 34) (tgt := 48) dX10_paperIs_14 (by rw [c0]; decide) (by rw [c0]; decide) (by rw [c0]; decide) (by decide) ?_
      refine st_aload_n dX10_paperIs_48 rfl ?_
      refine st_getP fl_X10_72 fk_10_10 dX10_paperIs_49 sh_0 ?_
      refine st_getF (q := h.2.1 0 10 + 4) fl_X10_189 fk_0_3 rfl dX10_paperIs_52 (bu_0 hc1) ?_
      refine st_iload_n dX10_paperIs_55 rfl ?_
      have hc6 := w.1
      replace w := w.2
      refine st_iald dX10_paperIs_56 (bu_4 hc1) hc6 ?_
      exact st_ireturn rfl rfl dX10_paperIs_57 w
    · replace w := w.2 c0
      by_cases c1 : x2 = 1
      · replace w := w.1 c1
        refine st_tableIn (off := 44) (tgt := 58) dX10_paperIs_14 (by rw [c1]; decide) (by rw [c1]; decide) (by rw [c1]; decide) (by decide) ?_
        refine st_aload_n dX10_paperIs_58 rfl ?_
        refine st_getP fl_X10_72 fk_10_10 dX10_paperIs_59 sh_0 ?_
        refine st_getF (q := h.2.1 0 10 + 5) fl_X10_192 fk_0_4 rfl dX10_paperIs_62 (bu_0 hc1) ?_
        refine st_iload_n dX10_paperIs_65 rfl ?_
        have hc5 := w.1
        replace w := w.2
        refine st_iald dX10_paperIs_66 (bu_5 hc1) hc5 ?_
        exact st_ireturn rfl rfl dX10_paperIs_67 w
      · replace w := w.2 c1
        by_cases c2 : x2 = 2
        · replace w := w.1 c2
          refine st_tableIn (off := 54) (tgt := 68) dX10_paperIs_14 (by rw [c2]; decide) (by rw [c2]; decide) (by rw [c2]; decide) (by decide) ?_
          refine st_aload_n dX10_paperIs_68 rfl ?_
          refine st_getP fl_X10_72 fk_10_10 dX10_paperIs_69 sh_0 ?_
          refine st_getF (q := h.2.1 0 10 + 6) fl_X10_112 fk_0_5 rfl dX10_paperIs_72 (bu_0 hc1) ?_
          refine st_iload_n dX10_paperIs_75 rfl ?_
          have hc4 := w.1
          replace w := w.2
          refine st_iald dX10_paperIs_76 (bu_6 hc1) hc4 ?_
          exact st_ireturn rfl rfl dX10_paperIs_77 w
        · replace w := w.2 c2
          by_cases c3 : x2 = 3
          · replace w := w.1 c3
            refine st_tableIn (off := 64) (tgt := 78) dX10_paperIs_14 (by rw [c3]; decide) (by rw [c3]; decide) (by rw [c3]; decide) (by decide) ?_
            refine st_aload_n dX10_paperIs_78 rfl ?_
            refine st_getP fl_X10_72 fk_10_10 dX10_paperIs_79 sh_0 ?_
            refine st_getF (q := h.2.1 0 10 + 7) fl_X10_195 fk_0_6 rfl dX10_paperIs_82 (bu_0 hc1) ?_
            refine st_iload_n dX10_paperIs_85 rfl ?_
            have hc3 := w.1
            replace w := w.2
            refine st_iald dX10_paperIs_86 (bu_7 hc1) hc3 ?_
            exact st_ireturn rfl rfl dX10_paperIs_87 w
          · replace w := w.2 c3
            by_cases c4 : x2 = 4
            · replace w := w.1 c4
              refine st_tableIn (off := 74) (tgt := 88) dX10_paperIs_14 (by rw [c4]; decide) (by rw [c4]; decide) (by rw [c4]; decide) (by decide) ?_
              refine st_aload_n dX10_paperIs_88 rfl ?_
              refine st_getP fl_X10_72 fk_10_10 dX10_paperIs_89 sh_0 ?_
              refine st_getF (q := h.2.1 0 10 + 8) fl_X10_197 fk_0_7 rfl dX10_paperIs_92 (bu_0 hc1) ?_
              refine st_iload_n dX10_paperIs_95 rfl ?_
              have hc2 := w.1
              replace w := w.2
              refine st_iald dX10_paperIs_96 (bu_8 hc1) hc2 ?_
              exact st_ireturn rfl rfl dX10_paperIs_97 w
            · replace w := w.2 c4
              refine st_tableOut (tgt := 98) dX10_paperIs_14 (am_tout (lo := 0) (hi := 4) (fun v hv1 hv2 hv => ?_)) (by decide) ?_
              · have hq : v = 0 ∨ v = 1 ∨ v = 2 ∨ v = 3 ∨ v = 4 := by omega
                rcases hq with rfl | rfl | rfl | rfl | rfl
                · exact c0 (am_toI hv (by decide))
                · exact c1 (am_toI hv (by decide))
                · exact c2 (am_toI hv (by decide))
                · exact c3 (am_toI hv (by decide))
                · exact c4 (am_toI hv (by decide))
              · refine st_iconst (v := (-1)) dX10_paperIs_98 (by decide) ?_
                exact st_ireturn rfl rfl dX10_paperIs_99 w
  · replace w := w.2 c
    refine st_iconst (v := (-1)) dX10_paperIs_11 (by decide) ?_
    exact st_ireturn rfl rfl dX10_paperIs_12 w
set_option maxRecDepth 20000 in
set_option maxHeartbeats 2000000 in
theorem sX11_paperIs_0 {d : Nat} {h : am_H} {Z : Int32 → am_H → Prop} {x1 : Int32} {x2 : Int32} (hd : 3 ≤ d) (w : (am_mP h x1 → (x2 = 0 → (vp_in x1 24 ∧ (Z (h.2.2 78 x1.toNatClampNeg) h))) ∧ (¬ x2 = 0 → (x2 = 1 → (vp_in x1 24 ∧ (Z (h.2.2 79 x1.toNatClampNeg) h))) ∧ (¬ x2 = 1 → (x2 = 2 → (vp_in x1 74 ∧ (Z (if (h.2.2 74 x1.toNatClampNeg) = -1 then -2 else (h.2.2 74 x1.toNatClampNeg)) h))) ∧ (¬ x2 = 2 → (x2 = 3 → (vp_in (24 + x1) 74 ∧ (Z (h.2.2 74 (24 + x1).toNatClampNeg) h))) ∧ (¬ x2 = 3 → (x2 = 4 → (vp_in (48 + x1) 74 ∧ (Z (h.2.2 74 (48 + x1).toNatClampNeg) h))) ∧ (¬ x2 = 4 → Z (-1) h)))))) ∧ (¬ (am_mP h x1) → Z (-1) h)) : Ru mX11_paperIs none d 0 [.ref 73, .int x1, .int x2] [] h Z := by
  refine st_aload_n dX11_paperIs_0 rfl ?_
  refine st_iload_n dX11_paperIs_1 rfl ?_
  refine st_callV (M' := mX11_isPaper) [.int x1] [] dX11_paperIs_2 ml_X11_144 mf_X11_isPaper mv_X11_isPaper sh_73 rfl rfl rfl (K := fun r h' => (am_b (am_mP h x1)) = r ∧ h = h') ⟨2, by omega, iX11_isPaper (by omega) ⟨rfl, rfl⟩⟩ (fun r1 h1 w1 => ?_)
  obtain ⟨rfl, rfl⟩ := w1
  show Ru mX11_paperIs none d 5 [.ref 73, .int x1, .int x2] [.int (am_b (am_mP h x1))] h Z
  refine st_ifb_ne (tgt := 10) dX11_paperIs_5 (by decide) (fun c => ?_) (fun c => ?_)
  · replace w := w.1 c
    refine st_iload_n dX11_paperIs_10 rfl ?_
    by_cases c0 : x2 = 0
    · replace w := w.1 c0
      refine st_tableIn (off := 33) (tgt := 44) dX11_paperIs_11 (by rw [c0]; decide) (by rw [c0]; decide) (by rw [c0]; decide) (by decide) ?_
      refine st_aload_n dX11_paperIs_44 rfl ?_
      refine st_getF (q := 78) fl_X11_22 fk_11_4 rfl dX11_paperIs_45 sh_73 ?_
      refine st_iload_n dX11_paperIs_48 rfl ?_
      have hc5 := w.1
      replace w := w.2
      refine st_iald dX11_paperIs_49 sh_78 hc5 ?_
      exact st_ireturn rfl rfl dX11_paperIs_50 w
    · replace w := w.2 c0
      by_cases c1 : x2 = 1
      · replace w := w.1 c1
        refine st_tableIn (off := 40) (tgt := 51) dX11_paperIs_11 (by rw [c1]; decide) (by rw [c1]; decide) (by rw [c1]; decide) (by decide) ?_
        refine st_aload_n dX11_paperIs_51 rfl ?_
        refine st_getF (q := 79) fl_X11_25 fk_11_5 rfl dX11_paperIs_52 sh_73 ?_
        refine st_iload_n dX11_paperIs_55 rfl ?_
        have hc4 := w.1
        replace w := w.2
        refine st_iald dX11_paperIs_56 sh_79 hc4 ?_
        exact st_ireturn rfl rfl dX11_paperIs_57 w
      · replace w := w.2 c1
        by_cases c2 : x2 = 2
        · replace w := w.1 c2
          refine st_tableIn (off := 47) (tgt := 58) dX11_paperIs_11 (by rw [c2]; decide) (by rw [c2]; decide) (by rw [c2]; decide) (by decide) ?_
          refine st_aload_n dX11_paperIs_58 rfl ?_
          refine st_getF (q := 74) fl_X11_7 fk_11_0 rfl dX11_paperIs_59 sh_73 ?_
          refine st_iconst (v := 0) dX11_paperIs_62 (by decide) ?_
          refine st_iload_n dX11_paperIs_63 rfl ?_
          refine st_iadd0 dX11_paperIs_64 ?_
          have hc3 := w.1
          replace w := w.2
          refine st_iald dX11_paperIs_65 sh_74 hc3 ?_
          refine st_callS (M' := mX11_orNone) [.int (h.2.2 74 x1.toNatClampNeg)] [] dX11_paperIs_66 ml_X11_339 mf_X11_orNone ms_X11_orNone rfl rfl rfl (K := fun r h' => (if (h.2.2 74 x1.toNatClampNeg) = -1 then -2 else (h.2.2 74 x1.toNatClampNeg)) = r ∧ h = h') ⟨1, by omega, iX11_orNone ⟨rfl, rfl⟩⟩ (fun r1 h1 w1 => ?_)
          obtain ⟨rfl, rfl⟩ := w1
          show Ru mX11_paperIs none d 69 [.ref 73, .int x1, .int x2] [.int (if (h.2.2 74 x1.toNatClampNeg) = -1 then -2 else (h.2.2 74 x1.toNatClampNeg))] h Z
          exact st_ireturn rfl rfl dX11_paperIs_69 w
        · replace w := w.2 c2
          by_cases c3 : x2 = 3
          · replace w := w.1 c3
            refine st_tableIn (off := 59) (tgt := 70) dX11_paperIs_11 (by rw [c3]; decide) (by rw [c3]; decide) (by rw [c3]; decide) (by decide) ?_
            refine st_aload_n dX11_paperIs_70 rfl ?_
            refine st_getF (q := 74) fl_X11_7 fk_11_0 rfl dX11_paperIs_71 sh_73 ?_
            refine st_bipush (v := 24) dX11_paperIs_74 (by decide) ?_
            refine st_iload_n dX11_paperIs_76 rfl ?_
            refine st_iadd dX11_paperIs_77 ?_
            have hc2 := w.1
            replace w := w.2
            refine st_iald dX11_paperIs_78 sh_74 hc2 ?_
            exact st_ireturn rfl rfl dX11_paperIs_79 w
          · replace w := w.2 c3
            by_cases c4 : x2 = 4
            · replace w := w.1 c4
              refine st_tableIn (off := 69) (tgt := 80) dX11_paperIs_11 (by rw [c4]; decide) (by rw [c4]; decide) (by rw [c4]; decide) (by decide) ?_
              refine st_aload_n dX11_paperIs_80 rfl ?_
              refine st_getF (q := 74) fl_X11_7 fk_11_0 rfl dX11_paperIs_81 sh_73 ?_
              refine st_bipush (v := 48) dX11_paperIs_84 (by decide) ?_
              refine st_iload_n dX11_paperIs_86 rfl ?_
              refine st_iadd dX11_paperIs_87 ?_
              have hc1 := w.1
              replace w := w.2
              refine st_iald dX11_paperIs_88 sh_74 hc1 ?_
              exact st_ireturn rfl rfl dX11_paperIs_89 w
            · replace w := w.2 c4
              refine st_tableOut (tgt := 90) dX11_paperIs_11 (am_tout (lo := 0) (hi := 4) (fun v hv1 hv2 hv => ?_)) (by decide) ?_
              · have hq : v = 0 ∨ v = 1 ∨ v = 2 ∨ v = 3 ∨ v = 4 := by omega
                rcases hq with rfl | rfl | rfl | rfl | rfl
                · exact c0 (am_toI hv (by decide))
                · exact c1 (am_toI hv (by decide))
                · exact c2 (am_toI hv (by decide))
                · exact c3 (am_toI hv (by decide))
                · exact c4 (am_toI hv (by decide))
              · refine st_iconst (v := (-1)) dX11_paperIs_90 (by decide) ?_
                exact st_ireturn rfl rfl dX11_paperIs_91 w
  · replace w := w.2 c
    refine st_iconst (v := (-1)) dX11_paperIs_8 (by decide) ?_
    exact st_ireturn rfl rfl dX11_paperIs_9 w
set_option maxRecDepth 20000 in
set_option maxHeartbeats 2000000 in
theorem sX10_free_0 {d : Nat} {h : am_H} {Z : Int32 → am_H → Prop} {x1 : Int32} (hd : 3 ≤ d) (w : ((0 : Int32) ≤ x1 ∧ x1 ≤ (1 : Int32) → (am_bu (h.2.1 0 10) ∧ (am_cl mX0_freest d [.ref (h.2.1 0 10)] h (fun r2 h3 => (0 ≤ r2 → (¬ x1 = 0 → Z r2 h3) ∧ (x1 = 0 → (am_bu (h3.2.1 0 10) ∧ (Z (if am_told h3 (h3.2.1 0 10) r2 then h3.2.2 ((h3.2.1 0 10) + 1) r2.toNatClampNeg - h3.2.2 ((h3.2.1 0 10) + 2) r2.toNatClampNeg else 0) h3)))) ∧ (¬ (0 ≤ r2) → Z (-2) h3))))) ∧ (¬ ((0 : Int32) ≤ x1 ∧ x1 ≤ (1 : Int32)) → Z (-1) h)) : Ru mX10_free none d 0 [.ref 0, .int x1, .null] [] h Z := by
  refine st_iload_n dX10_free_0 rfl ?_
  refine st_iconst (v := 0) dX10_free_1 (by decide) ?_
  refine st_iconst (v := 1) dX10_free_2 (by decide) ?_
  refine st_callS (M' := mX10_isFromTo) [.int x1, .int 0, .int 1] [] dX10_free_3 ml_X10_135 mf_X10_isFromTo ms_X10_isFromTo rfl rfl rfl (K := fun r h' => (am_b ((0 : Int32) ≤ x1 ∧ x1 ≤ (1 : Int32))) = r ∧ h = h') ⟨1, by omega, iX10_isFromTo ⟨rfl, rfl⟩⟩ (fun r1 h1 w1 => ?_)
  obtain ⟨rfl, rfl⟩ := w1
  show Ru mX10_free none d 6 [.ref 0, .int x1, .null] [.int (am_b ((0 : Int32) ≤ x1 ∧ x1 ≤ (1 : Int32)))] h Z
  refine st_ifb_ne (tgt := 11) dX10_free_6 (by decide) (fun c => ?_) (fun c => ?_)
  · replace w := w.1 c
    refine st_aload_n dX10_free_11 rfl ?_
    refine st_getP fl_X10_72 fk_10_10 dX10_free_12 sh_0 ?_
    have hc1 := w.1
    replace w := w.2
    refine st_callV (M' := mX0_freest) [] [] dX10_free_15 ml_X10_207 mf_X0_freest mv_X0_freest (bu_0 hc1) rfl rfl rfl w (fun r2 h3 w => ?_)
    show Ru mX10_free none d 18 [.ref 0, .int x1, .null] [.int r2] h3 Z
    refine st_istore_n (L' := [.ref 0, .int x1, .int r2]) dX10_free_18 (by decide) rfl ?_
    refine st_iload_n dX10_free_19 rfl ?_
    refine st_if_ge (tgt := 26) dX10_free_20 (by decide) (fun c => ?_) (fun c => ?_)
    · replace w := w.1 c
      refine st_iload_n dX10_free_26 rfl ?_
      refine st_if_ne (tgt := 41) dX10_free_27 (by decide) (fun c => ?_) (fun c => ?_)
      · replace w := w.1 c
        refine st_iload_n dX10_free_41 rfl ?_
        exact st_ireturn rfl rfl dX10_free_42 w
      · replace w := w.2 c
        refine st_aload_n dX10_free_30 rfl ?_
        refine st_getP fl_X10_72 fk_10_10 dX10_free_31 sh_0 ?_
        have hc4 := w.1
        replace w := w.2
        refine st_iload_n dX10_free_34 rfl ?_
        refine st_callV (M' := mX0_space) [.int r2] [] dX10_free_35 ml_X10_210 mf_X0_space mv_X0_space (bu_0 hc4) rfl rfl rfl (K := fun r h' => (if am_told h3 (h3.2.1 0 10) r2 then h3.2.2 ((h3.2.1 0 10) + 1) r2.toNatClampNeg - h3.2.2 ((h3.2.1 0 10) + 2) r2.toNatClampNeg else 0) = r ∧ h3 = h') ⟨2, by omega, iX0_space hc4 (by omega) ⟨rfl, rfl⟩⟩ (fun r1 h1 w1 => ?_)
        obtain ⟨rfl, rfl⟩ := w1
        show Ru mX10_free none d 38 [.ref 0, .int x1, .int r2] [.int (if am_told h3 (h3.2.1 0 10) r2 then h3.2.2 ((h3.2.1 0 10) + 1) r2.toNatClampNeg - h3.2.2 ((h3.2.1 0 10) + 2) r2.toNatClampNeg else 0)] h3 Z
        refine st_goto (tgt := 42) dX10_free_38 (by decide) ?_
        exact st_ireturn rfl rfl dX10_free_42 w
    · replace w := w.2 c
      refine st_bipush (v := (-2)) dX10_free_23 (by decide) ?_
      exact st_ireturn rfl rfl dX10_free_25 w
  · replace w := w.2 c
    refine st_iconst (v := (-1)) dX10_free_9 (by decide) ?_
    exact st_ireturn rfl rfl dX10_free_10 w
set_option maxRecDepth 20000 in
set_option maxHeartbeats 2000000 in
theorem sX11_free_0 {d : Nat} {h : am_H} {Z : Int32 → am_H → Prop} {x1 : Int32} (hd : 2 ≤ d) (w : ((0 : Int32) ≤ x1 ∧ x1 ≤ (1 : Int32) → Ru mX11_free none d 16 [.ref 73, .int x1, .int (-2), .int 0] [] h Z) ∧ (¬ ((0 : Int32) ≤ x1 ∧ x1 ≤ (1 : Int32)) → Z (-1) h)) : Ru mX11_free none d 0 [.ref 73, .int x1, .null, .null] [] h Z := by
  refine st_iload_n dX11_free_0 rfl ?_
  refine st_iconst (v := 0) dX11_free_1 (by decide) ?_
  refine st_iconst (v := 1) dX11_free_2 (by decide) ?_
  refine st_callS (M' := mX11_in) [.int x1, .int 0, .int 1] [] dX11_free_3 ml_X11_125 mf_X11_in ms_X11_in rfl rfl rfl (K := fun r h' => (am_b ((0 : Int32) ≤ x1 ∧ x1 ≤ (1 : Int32))) = r ∧ h = h') ⟨1, by omega, iX11_in ⟨rfl, rfl⟩⟩ (fun r1 h1 w1 => ?_)
  obtain ⟨rfl, rfl⟩ := w1
  show Ru mX11_free none d 6 [.ref 73, .int x1, .null, .null] [.int (am_b ((0 : Int32) ≤ x1 ∧ x1 ≤ (1 : Int32)))] h Z
  refine st_ifb_ne (tgt := 11) dX11_free_6 (by decide) (fun c => ?_) (fun c => ?_)
  · replace w := w.1 c
    refine st_bipush (v := (-2)) dX11_free_11 (by decide) ?_
    refine st_istore_n (L' := [.ref 73, .int x1, .int (-2), .null]) dX11_free_13 (by decide) rfl ?_
    refine st_iconst (v := 0) dX11_free_14 (by decide) ?_
    refine st_istore_n (L' := [.ref 73, .int x1, .int (-2), .int 0]) dX11_free_15 (by decide) rfl ?_
    exact w
  · replace w := w.2 c
    refine st_iconst (v := (-1)) dX11_free_9 (by decide) ?_
    exact st_ireturn rfl rfl dX11_free_10 w
set_option maxRecDepth 20000 in
set_option maxHeartbeats 2000000 in
theorem sX11_free_16 {d : Nat} {h : am_H} {Z : Int32 → am_H → Prop} {x1 : Int32} {x2 : Int32} {x3 : Int32} (hd : 3 ≤ d) (w : (12 ≤ x3 → (x1 = 1 → Z x2 h) ∧ (¬ (x1 = 1) → (¬ x2 = (-2) → am_cl mX11_roomLeft d [.ref 73, .int x2] h (fun r1 h2 => Z r1 h2)) ∧ (x2 = (-2) → Z x2 h))) ∧ (¬ (12 ≤ x3) → (¬ (am_mT h x3) → Ru mX11_free none d 16 [.ref 73, .int x1, .int x2, .int (x3 + 1)] [] h Z) ∧ (am_mT h x3 → (x2 = (-2) → Ru mX11_free none d 16 [.ref 73, .int x1, .int x3, .int (x3 + 1)] [] h Z) ∧ (¬ (x2 = (-2)) → am_cl mX11_roomLeft d [.ref 73, .int x3] h (fun r3 h4 => am_cl mX11_roomLeft d [.ref 73, .int x2] h4 (fun r5 h6 => (r3 ≤ r5 → Ru mX11_free none d 16 [.ref 73, .int x1, .int x2, .int (x3 + 1)] [] h6 Z) ∧ (¬ (r3 ≤ r5) → Ru mX11_free none d 16 [.ref 73, .int x1, .int x3, .int (x3 + 1)] [] h6 Z))))))) : Ru mX11_free none d 16 [.ref 73, .int x1, .int x2, .int x3] [] h Z := by
  refine st_iload_n dX11_free_16 rfl ?_
  refine st_bipush (v := 12) dX11_free_17 (by decide) ?_
  refine st_icmp_ge (tgt := 57) dX11_free_19 (by decide) (fun c => ?_) (fun c => ?_)
  · replace w := w.1 c
    refine st_iload_n dX11_free_57 rfl ?_
    refine st_iconst (v := 1) dX11_free_58 (by decide) ?_
    refine st_icmp_eq (tgt := 68) dX11_free_59 (by decide) (fun c => ?_) (fun c => ?_)
    · replace w := w.1 c
      refine st_iload_n dX11_free_68 rfl ?_
      refine st_goto (tgt := 77) dX11_free_69 (by decide) ?_
      exact st_ireturn rfl rfl dX11_free_77 w
    · replace w := w.2 c
      refine st_iload_n dX11_free_62 rfl ?_
      refine st_bipush (v := (-2)) dX11_free_63 (by decide) ?_
      refine st_icmp_ne (tgt := 72) dX11_free_65 (by decide) (fun c => ?_) (fun c => ?_)
      · replace w := w.1 c
        refine st_aload_n dX11_free_72 rfl ?_
        refine st_iload_n dX11_free_73 rfl ?_
        refine st_callV (M' := mX11_roomLeft) [.int x2] [] dX11_free_74 ml_X11_155 mf_X11_roomLeft mv_X11_roomLeft sh_73 rfl rfl rfl w (fun r1 h2 w => ?_)
        show Ru mX11_free none d 77 [.ref 73, .int x1, .int x2, .int x3] [.int r1] h2 Z
        exact st_ireturn rfl rfl dX11_free_77 w
      · replace w := w.2 c
        refine st_iload_n dX11_free_68 rfl ?_
        refine st_goto (tgt := 77) dX11_free_69 (by decide) ?_
        exact st_ireturn rfl rfl dX11_free_77 w
  · replace w := w.2 c
    refine st_aload_n dX11_free_22 rfl ?_
    refine st_iload_n dX11_free_23 rfl ?_
    refine st_callV (M' := mX11_isDrawer) [.int x3] [] dX11_free_24 ml_X11_152 mf_X11_isDrawer mv_X11_isDrawer sh_73 rfl rfl rfl (K := fun r h' => (am_b (am_mT h x3)) = r ∧ h = h') ⟨2, by omega, iX11_isDrawer (by omega) ⟨rfl, rfl⟩⟩ (fun r1 h1 w1 => ?_)
    obtain ⟨rfl, rfl⟩ := w1
    show Ru mX11_free none d 27 [.ref 73, .int x1, .int x2, .int x3] [.int (am_b (am_mT h x3))] h Z
    refine st_ifb_eq (tgt := 51) dX11_free_27 (by decide) (fun c => ?_) (fun c => ?_)
    · replace w := w.1 c
      refine st_iinc (L' := [.ref 73, .int x1, .int x2, .int (x3 + 1)]) dX11_free_51 rfl rfl (by decide) rfl ?_
      refine st_goto (tgt := 16) dX11_free_54 (by decide) ?_
      exact w
    · replace w := w.2 c
      refine st_iload_n dX11_free_30 rfl ?_
      refine st_bipush (v := (-2)) dX11_free_31 (by decide) ?_
      refine st_icmp_eq (tgt := 49) dX11_free_33 (by decide) (fun c => ?_) (fun c => ?_)
      · replace w := w.1 c
        refine st_iload_n dX11_free_49 rfl ?_
        refine st_istore_n (L' := [.ref 73, .int x1, .int x3, .int x3]) dX11_free_50 (by decide) rfl ?_
        refine st_iinc (L' := [.ref 73, .int x1, .int x3, .int (x3 + 1)]) dX11_free_51 rfl rfl (by decide) rfl ?_
        refine st_goto (tgt := 16) dX11_free_54 (by decide) ?_
        exact w
      · replace w := w.2 c
        refine st_aload_n dX11_free_36 rfl ?_
        refine st_iload_n dX11_free_37 rfl ?_
        refine st_callV (M' := mX11_roomLeft) [.int x3] [] dX11_free_38 ml_X11_155 mf_X11_roomLeft mv_X11_roomLeft sh_73 rfl rfl rfl w (fun r3 h4 w => ?_)
        show Ru mX11_free none d 41 [.ref 73, .int x1, .int x2, .int x3] [.int r3] h4 Z
        refine st_aload_n dX11_free_41 rfl ?_
        refine st_iload_n dX11_free_42 rfl ?_
        refine st_callV (M' := mX11_roomLeft) [.int x2] [.int r3] dX11_free_43 ml_X11_155 mf_X11_roomLeft mv_X11_roomLeft sh_73 rfl rfl rfl w (fun r5 h6 w => ?_)
        show Ru mX11_free none d 46 [.ref 73, .int x1, .int x2, .int x3] [.int r5, .int r3] h6 Z
        refine st_icmp_le (tgt := 51) dX11_free_46 (by decide) (fun c => ?_) (fun c => ?_)
        · replace w := w.1 c
          refine st_iinc (L' := [.ref 73, .int x1, .int x2, .int (x3 + 1)]) dX11_free_51 rfl rfl (by decide) rfl ?_
          refine st_goto (tgt := 16) dX11_free_54 (by decide) ?_
          exact w
        · replace w := w.2 c
          refine st_iload_n dX11_free_49 rfl ?_
          refine st_istore_n (L' := [.ref 73, .int x1, .int x3, .int x3]) dX11_free_50 (by decide) rfl ?_
          refine st_iinc (L' := [.ref 73, .int x1, .int x3, .int (x3 + 1)]) dX11_free_51 rfl rfl (by decide) rfl ?_
          refine st_goto (tgt := 16) dX11_free_54 (by decide) ?_
          exact w
set_option maxRecDepth 20000 in
set_option maxHeartbeats 2000000 in
theorem sX10_oldest_0 {d : Nat} {h : am_H} {Z : Int32 → am_H → Prop}  (w : (am_bu (h.2.1 0 10) ∧ (am_cl mX0_longestIn d [.ref (h.2.1 0 10)] h (fun r2 h3 => Z r2 h3)))) : Ru mX10_oldest none d 0 [.ref 0] [] h Z := by
  refine st_aload_n dX10_oldest_0 rfl ?_
  refine st_getP fl_X10_72 fk_10_10 dX10_oldest_1 sh_0 ?_
  have hc1 := w.1
  replace w := w.2
  refine st_callV (M' := mX0_longestIn) [] [] dX10_oldest_4 ml_X10_219 mf_X0_longestIn mv_X0_longestIn (bu_0 hc1) rfl rfl rfl w (fun r2 h3 w => ?_)
  show Ru mX10_oldest none d 7 [.ref 0] [.int r2] h3 Z
  exact st_ireturn rfl rfl dX10_oldest_7 w
set_option maxRecDepth 20000 in
set_option maxHeartbeats 2000000 in
theorem sX11_oldest_0 {d : Nat} {h : am_H} {Z : Int32 → am_H → Prop}  (w : Ru mX11_oldest none d 5 [.ref 73, .int (-2), .int 0] [] h Z) : Ru mX11_oldest none d 0 [.ref 73, .null, .null] [] h Z := by
  refine st_bipush (v := (-2)) dX11_oldest_0 (by decide) ?_
  refine st_istore_n (L' := [.ref 73, .int (-2), .null]) dX11_oldest_2 (by decide) rfl ?_
  refine st_iconst (v := 0) dX11_oldest_3 (by decide) ?_
  refine st_istore_n (L' := [.ref 73, .int (-2), .int 0]) dX11_oldest_4 (by decide) rfl ?_
  exact w
set_option maxRecDepth 20000 in
set_option maxHeartbeats 2000000 in
theorem sX11_oldest_5 {d : Nat} {h : am_H} {Z : Int32 → am_H → Prop} {x1 : Int32} {x2 : Int32} (w : ((h.1 73 7) ≤ x2 → Z x1 h) ∧ (¬ ((h.1 73 7) ≤ x2) → (vp_in x2 74 ∧ (((h.2.2 74 x2.toNatClampNeg) = (-1) → Ru mX11_oldest none d 5 [.ref 73, .int x1, .int (x2 + 1)] [] h Z) ∧ (¬ ((h.2.2 74 x2.toNatClampNeg) = (-1)) → (x1 = (-2) → Ru mX11_oldest none d 5 [.ref 73, .int x2, .int (x2 + 1)] [] h Z) ∧ (¬ (x1 = (-2)) → (vp_in (48 + x2) 74 ∧ (vp_in (48 + x1) 74 ∧ (((h.2.2 74 (48 + x2).toNatClampNeg) ≤ (h.2.2 74 (48 + x1).toNatClampNeg) → Ru mX11_oldest none d 5 [.ref 73, .int x1, .int (x2 + 1)] [] h Z) ∧ (¬ ((h.2.2 74 (48 + x2).toNatClampNeg) ≤ (h.2.2 74 (48 + x1).toNatClampNeg)) → Ru mX11_oldest none d 5 [.ref 73, .int x2, .int (x2 + 1)] [] h Z)))))))))) : Ru mX11_oldest none d 5 [.ref 73, .int x1, .int x2] [] h Z := by
  refine st_iload_n dX11_oldest_5 rfl ?_
  refine st_aload_n dX11_oldest_6 rfl ?_
  refine st_getI fl_X11_137 fk_11_7 dX11_oldest_7 sh_73 ?_
  refine st_icmp_ge (tgt := 60) dX11_oldest_10 (by decide) (fun c => ?_) (fun c => ?_)
  · replace w := w.1 c
    refine st_iload_n dX11_oldest_60 rfl ?_
    exact st_ireturn rfl rfl dX11_oldest_61 w
  · replace w := w.2 c
    refine st_aload_n dX11_oldest_13 rfl ?_
    refine st_getF (q := 74) fl_X11_7 fk_11_0 rfl dX11_oldest_14 sh_73 ?_
    refine st_iconst (v := 0) dX11_oldest_17 (by decide) ?_
    refine st_iload_n dX11_oldest_18 rfl ?_
    refine st_iadd0 dX11_oldest_19 ?_
    have hc1 := w.1
    replace w := w.2
    refine st_iald dX11_oldest_20 sh_74 hc1 ?_
    refine st_iconst (v := (-1)) dX11_oldest_21 (by decide) ?_
    refine st_icmp_eq (tgt := 54) dX11_oldest_22 (by decide) (fun c => ?_) (fun c => ?_)
    · replace w := w.1 c
      refine st_iinc (L' := [.ref 73, .int x1, .int (x2 + 1)]) dX11_oldest_54 rfl rfl (by decide) rfl ?_
      refine st_goto (tgt := 5) dX11_oldest_57 (by decide) ?_
      exact w
    · replace w := w.2 c
      refine st_iload_n dX11_oldest_25 rfl ?_
      refine st_bipush (v := (-2)) dX11_oldest_26 (by decide) ?_
      refine st_icmp_eq (tgt := 52) dX11_oldest_28 (by decide) (fun c => ?_) (fun c => ?_)
      · replace w := w.1 c
        refine st_iload_n dX11_oldest_52 rfl ?_
        refine st_istore_n (L' := [.ref 73, .int x2, .int x2]) dX11_oldest_53 (by decide) rfl ?_
        refine st_iinc (L' := [.ref 73, .int x2, .int (x2 + 1)]) dX11_oldest_54 rfl rfl (by decide) rfl ?_
        refine st_goto (tgt := 5) dX11_oldest_57 (by decide) ?_
        exact w
      · replace w := w.2 c
        refine st_aload_n dX11_oldest_31 rfl ?_
        refine st_getF (q := 74) fl_X11_7 fk_11_0 rfl dX11_oldest_32 sh_73 ?_
        refine st_bipush (v := 48) dX11_oldest_35 (by decide) ?_
        refine st_iload_n dX11_oldest_37 rfl ?_
        refine st_iadd dX11_oldest_38 ?_
        have hc2 := w.1
        replace w := w.2
        refine st_iald dX11_oldest_39 sh_74 hc2 ?_
        refine st_aload_n dX11_oldest_40 rfl ?_
        refine st_getF (q := 74) fl_X11_7 fk_11_0 rfl dX11_oldest_41 sh_73 ?_
        refine st_bipush (v := 48) dX11_oldest_44 (by decide) ?_
        refine st_iload_n dX11_oldest_46 rfl ?_
        refine st_iadd dX11_oldest_47 ?_
        have hc3 := w.1
        replace w := w.2
        refine st_iald dX11_oldest_48 sh_74 hc3 ?_
        refine st_icmp_le (tgt := 54) dX11_oldest_49 (by decide) (fun c => ?_) (fun c => ?_)
        · replace w := w.1 c
          refine st_iinc (L' := [.ref 73, .int x1, .int (x2 + 1)]) dX11_oldest_54 rfl rfl (by decide) rfl ?_
          refine st_goto (tgt := 5) dX11_oldest_57 (by decide) ?_
          exact w
        · replace w := w.2 c
          refine st_iload_n dX11_oldest_52 rfl ?_
          refine st_istore_n (L' := [.ref 73, .int x2, .int x2]) dX11_oldest_53 (by decide) rfl ?_
          refine st_iinc (L' := [.ref 73, .int x2, .int (x2 + 1)]) dX11_oldest_54 rfl rfl (by decide) rfl ?_
          refine st_goto (tgt := 5) dX11_oldest_57 (by decide) ?_
          exact w
set_option maxRecDepth 20000 in
set_option maxHeartbeats 2000000 in
theorem sX10_ofSubject_0 {d : Nat} {h : am_H} {Z : Int32 → am_H → Prop} {x1 : Int32} {x2 : Int32} (hd : 2 ≤ d) (w : (¬ ((0 : Int32) ≤ x1 ∧ x1 ≤ (15 : Int32)) → Z (-1) h) ∧ ((0 : Int32) ≤ x1 ∧ x1 ≤ (15 : Int32) → ((0 : Int32) ≤ x2 ∧ x2 ≤ (1 : Int32) → (¬ x2 = 0 → (am_bu (h.2.1 0 10) ∧ (am_cl mX0_sizesInOf d [.ref (h.2.1 0 10), .int x1] h (fun r2 h3 => Z r2 h3)))) ∧ (x2 = 0 → (am_bu (h.2.1 0 10) ∧ (am_cl mX0_papersOf d [.ref (h.2.1 0 10), .int x1] h (fun r5 h6 => Z r5 h6))))) ∧ (¬ ((0 : Int32) ≤ x2 ∧ x2 ≤ (1 : Int32)) → Z (-1) h))) : Ru mX10_ofSubject none d 0 [.ref 0, .int x1, .int x2] [] h Z := by
  refine st_iload_n dX10_ofSubject_0 rfl ?_
  refine st_iconst (v := 0) dX10_ofSubject_1 (by decide) ?_
  refine st_bipush (v := 15) dX10_ofSubject_2 (by decide) ?_
  refine st_callS (M' := mX10_isFromTo) [.int x1, .int 0, .int 15] [] dX10_ofSubject_4 ml_X10_135 mf_X10_isFromTo ms_X10_isFromTo rfl rfl rfl (K := fun r h' => (am_b ((0 : Int32) ≤ x1 ∧ x1 ≤ (15 : Int32))) = r ∧ h = h') ⟨1, by omega, iX10_isFromTo ⟨rfl, rfl⟩⟩ (fun r1 h1 w1 => ?_)
  obtain ⟨rfl, rfl⟩ := w1
  show Ru mX10_ofSubject none d 7 [.ref 0, .int x1, .int x2] [.int (am_b ((0 : Int32) ≤ x1 ∧ x1 ≤ (15 : Int32)))] h Z
  refine st_ifb_eq (tgt := 19) dX10_ofSubject_7 (by decide) (fun c => ?_) (fun c => ?_)
  · replace w := w.1 c
    refine st_iconst (v := (-1)) dX10_ofSubject_19 (by decide) ?_
    exact st_ireturn rfl rfl dX10_ofSubject_20 w
  · replace w := w.2 c
    refine st_iload_n dX10_ofSubject_10 rfl ?_
    refine st_iconst (v := 0) dX10_ofSubject_11 (by decide) ?_
    refine st_iconst (v := 1) dX10_ofSubject_12 (by decide) ?_
    refine st_callS (M' := mX10_isFromTo) [.int x2, .int 0, .int 1] [] dX10_ofSubject_13 ml_X10_135 mf_X10_isFromTo ms_X10_isFromTo rfl rfl rfl (K := fun r h' => (am_b ((0 : Int32) ≤ x2 ∧ x2 ≤ (1 : Int32))) = r ∧ h = h') ⟨1, by omega, iX10_isFromTo ⟨rfl, rfl⟩⟩ (fun r1 h1 w1 => ?_)
    obtain ⟨rfl, rfl⟩ := w1
    show Ru mX10_ofSubject none d 16 [.ref 0, .int x1, .int x2] [.int (am_b ((0 : Int32) ≤ x2 ∧ x2 ≤ (1 : Int32)))] h Z
    refine st_ifb_ne (tgt := 21) dX10_ofSubject_16 (by decide) (fun c => ?_) (fun c => ?_)
    · replace w := w.1 c
      refine st_iload_n dX10_ofSubject_21 rfl ?_
      refine st_if_ne (tgt := 36) dX10_ofSubject_22 (by decide) (fun c => ?_) (fun c => ?_)
      · replace w := w.1 c
        refine st_aload_n dX10_ofSubject_36 rfl ?_
        refine st_getP fl_X10_72 fk_10_10 dX10_ofSubject_37 sh_0 ?_
        have hc1 := w.1
        replace w := w.2
        refine st_iload_n dX10_ofSubject_40 rfl ?_
        refine st_callV (M' := mX0_sizesInOf) [.int x1] [] dX10_ofSubject_41 ml_X10_216 mf_X0_sizesInOf mv_X0_sizesInOf (bu_0 hc1) rfl rfl rfl w (fun r2 h3 w => ?_)
        show Ru mX10_ofSubject none d 44 [.ref 0, .int x1, .int x2] [.int r2] h3 Z
        exact st_ireturn rfl rfl dX10_ofSubject_44 w
      · replace w := w.2 c
        refine st_aload_n dX10_ofSubject_25 rfl ?_
        refine st_getP fl_X10_72 fk_10_10 dX10_ofSubject_26 sh_0 ?_
        have hc4 := w.1
        replace w := w.2
        refine st_iload_n dX10_ofSubject_29 rfl ?_
        refine st_callV (M' := mX0_papersOf) [.int x1] [] dX10_ofSubject_30 ml_X10_213 mf_X0_papersOf mv_X0_papersOf (bu_0 hc4) rfl rfl rfl w (fun r5 h6 w => ?_)
        show Ru mX10_ofSubject none d 33 [.ref 0, .int x1, .int x2] [.int r5] h6 Z
        refine st_goto (tgt := 44) dX10_ofSubject_33 (by decide) ?_
        exact st_ireturn rfl rfl dX10_ofSubject_44 w
    · replace w := w.2 c
      refine st_iconst (v := (-1)) dX10_ofSubject_19 (by decide) ?_
      exact st_ireturn rfl rfl dX10_ofSubject_20 w
set_option maxRecDepth 20000 in
set_option maxHeartbeats 2000000 in
theorem sX11_ofSubject_0 {d : Nat} {h : am_H} {Z : Int32 → am_H → Prop} {x1 : Int32} {x2 : Int32} (hd : 2 ≤ d) (w : (¬ ((0 : Int32) ≤ x1 ∧ x1 ≤ (15 : Int32)) → Z (-1) h) ∧ ((0 : Int32) ≤ x1 ∧ x1 ≤ (15 : Int32) → ((0 : Int32) ≤ x2 ∧ x2 ≤ (1 : Int32) → Ru mX11_ofSubject none d 29 [.ref 73, .int x1, .int x2, .int 0, .int 0, .int 0] [] h Z) ∧ (¬ ((0 : Int32) ≤ x2 ∧ x2 ≤ (1 : Int32)) → Z (-1) h))) : Ru mX11_ofSubject none d 0 [.ref 73, .int x1, .int x2, .null, .null, .null] [] h Z := by
  refine st_iload_n dX11_ofSubject_0 rfl ?_
  refine st_iconst (v := 0) dX11_ofSubject_1 (by decide) ?_
  refine st_bipush (v := 15) dX11_ofSubject_2 (by decide) ?_
  refine st_callS (M' := mX11_in) [.int x1, .int 0, .int 15] [] dX11_ofSubject_4 ml_X11_125 mf_X11_in ms_X11_in rfl rfl rfl (K := fun r h' => (am_b ((0 : Int32) ≤ x1 ∧ x1 ≤ (15 : Int32))) = r ∧ h = h') ⟨1, by omega, iX11_in ⟨rfl, rfl⟩⟩ (fun r1 h1 w1 => ?_)
  obtain ⟨rfl, rfl⟩ := w1
  show Ru mX11_ofSubject none d 7 [.ref 73, .int x1, .int x2, .null, .null, .null] [.int (am_b ((0 : Int32) ≤ x1 ∧ x1 ≤ (15 : Int32)))] h Z
  refine st_ifb_eq (tgt := 19) dX11_ofSubject_7 (by decide) (fun c => ?_) (fun c => ?_)
  · replace w := w.1 c
    refine st_iconst (v := (-1)) dX11_ofSubject_19 (by decide) ?_
    exact st_ireturn rfl rfl dX11_ofSubject_20 w
  · replace w := w.2 c
    refine st_iload_n dX11_ofSubject_10 rfl ?_
    refine st_iconst (v := 0) dX11_ofSubject_11 (by decide) ?_
    refine st_iconst (v := 1) dX11_ofSubject_12 (by decide) ?_
    refine st_callS (M' := mX11_in) [.int x2, .int 0, .int 1] [] dX11_ofSubject_13 ml_X11_125 mf_X11_in ms_X11_in rfl rfl rfl (K := fun r h' => (am_b ((0 : Int32) ≤ x2 ∧ x2 ≤ (1 : Int32))) = r ∧ h = h') ⟨1, by omega, iX11_in ⟨rfl, rfl⟩⟩ (fun r1 h1 w1 => ?_)
    obtain ⟨rfl, rfl⟩ := w1
    show Ru mX11_ofSubject none d 16 [.ref 73, .int x1, .int x2, .null, .null, .null] [.int (am_b ((0 : Int32) ≤ x2 ∧ x2 ≤ (1 : Int32)))] h Z
    refine st_ifb_ne (tgt := 21) dX11_ofSubject_16 (by decide) (fun c => ?_) (fun c => ?_)
    · replace w := w.1 c
      refine st_iconst (v := 0) dX11_ofSubject_21 (by decide) ?_
      refine st_istore_n (L' := [.ref 73, .int x1, .int x2, .int 0, .null, .null]) dX11_ofSubject_22 (by decide) rfl ?_
      refine st_iconst (v := 0) dX11_ofSubject_23 (by decide) ?_
      refine st_istore (L' := [.ref 73, .int x1, .int x2, .int 0, .int 0, .null]) dX11_ofSubject_24 (by decide) rfl ?_
      refine st_iconst (v := 0) dX11_ofSubject_26 (by decide) ?_
      refine st_istore (L' := [.ref 73, .int x1, .int x2, .int 0, .int 0, .int 0]) dX11_ofSubject_27 (by decide) rfl ?_
      exact w
    · replace w := w.2 c
      refine st_iconst (v := (-1)) dX11_ofSubject_19 (by decide) ?_
      exact st_ireturn rfl rfl dX11_ofSubject_20 w
set_option maxRecDepth 20000 in
set_option maxHeartbeats 2000000 in
theorem sX11_ofSubject_29 {d : Nat} {h : am_H} {Z : Int32 → am_H → Prop} {x1 : Int32} {x2 : Int32} {x3 : Int32} {x4 : Int32} {x5 : Int32} (w : ((h.1 73 7) ≤ x5 → (¬ x2 = 0 → Z x4 h) ∧ (x2 = 0 → Z x3 h)) ∧ (¬ ((h.1 73 7) ≤ x5) → (vp_in x5 24 ∧ (((h.2.2 78 x5.toNatClampNeg) = x1 → (vp_in x5 74 ∧ (((h.2.2 74 x5.toNatClampNeg) = (-1) → Ru mX11_ofSubject none d 29 [.ref 73, .int x1, .int x2, .int (x3 + 1), .int x4, .int (x5 + 1)] [] h Z) ∧ (¬ ((h.2.2 74 x5.toNatClampNeg) = (-1)) → Ru mX11_ofSubject none d 29 [.ref 73, .int x1, .int x2, .int (x3 + 1), .int (x4 + (h.2.2 79 x5.toNatClampNeg)), .int (x5 + 1)] [] h Z)))) ∧ (¬ ((h.2.2 78 x5.toNatClampNeg) = x1) → Ru mX11_ofSubject none d 29 [.ref 73, .int x1, .int x2, .int x3, .int x4, .int (x5 + 1)] [] h Z))))) : Ru mX11_ofSubject none d 29 [.ref 73, .int x1, .int x2, .int x3, .int x4, .int x5] [] h Z := by
  refine st_iload dX11_ofSubject_29 rfl ?_
  refine st_aload_n dX11_ofSubject_31 rfl ?_
  refine st_getI fl_X11_137 fk_11_7 dX11_ofSubject_32 sh_73 ?_
  refine st_icmp_ge (tgt := 87) dX11_ofSubject_35 (by decide) (fun c => ?_) (fun c => ?_)
  · replace w := w.1 c
    refine st_iload_n dX11_ofSubject_87 rfl ?_
    refine st_if_ne (tgt := 95) dX11_ofSubject_88 (by decide) (fun c => ?_) (fun c => ?_)
    · replace w := w.1 c
      refine st_iload dX11_ofSubject_95 rfl ?_
      exact st_ireturn rfl rfl dX11_ofSubject_97 w
    · replace w := w.2 c
      refine st_iload_n dX11_ofSubject_91 rfl ?_
      refine st_goto (tgt := 97) dX11_ofSubject_92 (by decide) ?_
      exact st_ireturn rfl rfl dX11_ofSubject_97 w
  · replace w := w.2 c
    refine st_aload_n dX11_ofSubject_38 rfl ?_
    refine st_getF (q := 78) fl_X11_22 fk_11_4 rfl dX11_ofSubject_39 sh_73 ?_
    refine st_iload dX11_ofSubject_42 rfl ?_
    have hc1 := w.1
    replace w := w.2
    refine st_iald dX11_ofSubject_44 sh_78 hc1 ?_
    refine st_iload_n dX11_ofSubject_45 rfl ?_
    refine st_icmp_eq (tgt := 52) dX11_ofSubject_46 (by decide) (fun c => ?_) (fun c => ?_)
    · replace w := w.1 c
      refine st_iload_n dX11_ofSubject_52 rfl ?_
      refine st_iconst (v := 1) dX11_ofSubject_53 (by decide) ?_
      refine st_iadd dX11_ofSubject_54 ?_
      refine st_istore_n (L' := [.ref 73, .int x1, .int x2, .int (x3 + 1), .int x4, .int x5]) dX11_ofSubject_55 (by decide) rfl ?_
      refine st_aload_n dX11_ofSubject_56 rfl ?_
      refine st_getF (q := 74) fl_X11_7 fk_11_0 rfl dX11_ofSubject_57 sh_73 ?_
      refine st_iconst (v := 0) dX11_ofSubject_60 (by decide) ?_
      refine st_iload dX11_ofSubject_61 rfl ?_
      refine st_iadd0 dX11_ofSubject_63 ?_
      have hc2 := w.1
      replace w := w.2
      refine st_iald dX11_ofSubject_64 sh_74 hc2 ?_
      refine st_iconst (v := (-1)) dX11_ofSubject_65 (by decide) ?_
      refine st_icmp_eq (tgt := 81) dX11_ofSubject_66 (by decide) (fun c => ?_) (fun c => ?_)
      · replace w := w.1 c
        refine st_iinc (L' := [.ref 73, .int x1, .int x2, .int (x3 + 1), .int x4, .int (x5 + 1)]) dX11_ofSubject_81 rfl rfl (by decide) rfl ?_
        refine st_goto (tgt := 29) dX11_ofSubject_84 (by decide) ?_
        exact w
      · replace w := w.2 c
        refine st_iload dX11_ofSubject_69 rfl ?_
        refine st_aload_n dX11_ofSubject_71 rfl ?_
        refine st_getF (q := 79) fl_X11_25 fk_11_5 rfl dX11_ofSubject_72 sh_73 ?_
        refine st_iload dX11_ofSubject_75 rfl ?_
        refine st_iald dX11_ofSubject_77 sh_79 hc1 ?_
        refine st_iadd dX11_ofSubject_78 ?_
        refine st_istore (L' := [.ref 73, .int x1, .int x2, .int (x3 + 1), .int (x4 + (h.2.2 79 x5.toNatClampNeg)), .int x5]) dX11_ofSubject_79 (by decide) rfl ?_
        refine st_iinc (L' := [.ref 73, .int x1, .int x2, .int (x3 + 1), .int (x4 + (h.2.2 79 x5.toNatClampNeg)), .int (x5 + 1)]) dX11_ofSubject_81 rfl rfl (by decide) rfl ?_
        refine st_goto (tgt := 29) dX11_ofSubject_84 (by decide) ?_
        exact w
    · replace w := w.2 c
      refine st_goto (tgt := 81) dX11_ofSubject_49 (by decide) ?_
      refine st_iinc (L' := [.ref 73, .int x1, .int x2, .int x3, .int x4, .int (x5 + 1)]) dX11_ofSubject_81 rfl rfl (by decide) rfl ?_
      refine st_goto (tgt := 29) dX11_ofSubject_84 (by decide) ?_
      exact w
def q_up (v : Nat → Nat) (k : Nat) (s : Option Nat) : Option Nat := match s with | none => some k | some j => if v k ≤ v j then some j else some k
def q_b1 (el : Nat → Bool) (v : Nat → Nat) (k : Nat) (s : Option Nat) : Option Nat := if el k then q_up v k s else s
theorem q_up_s (v : Nat → Nat) (k j : Nat) : q_up v k (some j) = if v k ≤ v j then some j else some k := rfl
def q_best (el : Nat → Bool) (v : Nat → Nat) (n : Nat) : Option Nat := am_fd (q_b1 el v) 0 n none
def q_e2 (s : Option Nat) : Int32 := match s with | none => -2 | some j => nI j
theorem q_b1_inv {el : Nat → Bool} {v : Nat → Nat} {k j : Nat} {s : Option Nat} (hs : ∀ j, s = some j → j < k ∧ el j = true) : q_b1 el v k s = some j → j < k + 1 ∧ el j = true := by
  unfold q_b1
  by_cases c : el k = true
  · rw [if_pos c]
    cases s with
    | none => intro e; cases e; exact ⟨Nat.lt_succ_self k, c⟩
    | some i =>
      rw [q_up_s]
      by_cases c2 : v k ≤ v i
      · rw [if_pos c2]; intro e; have e2 := Option.some.inj e; rw [← e2]; exact ⟨Nat.lt_succ_of_lt (hs i rfl).1, (hs i rfl).2⟩
      · rw [if_neg c2]; intro e; have e2 := Option.some.inj e; rw [← e2]; exact ⟨Nat.lt_succ_self k, c⟩
  · rw [if_neg c]; intro e; exact ⟨Nat.lt_succ_of_lt (hs j e).1, (hs j e).2⟩
section
variable {d b : Nat} {h : am_H} {Z : Int32 → am_H → Prop} {B : am_AB}
abbrev q_el (B : am_AB) : Nat → Bool := fun p => decide (q_w B p < 12)
theorem x_old (hd : 3 ≤ d) (hb : am_bu b) (hI : q_IC h b B) (hB : q_ok B) : ∀ (m k : Nat) (s : Option Nat), k + m = q_n B → (∀ j, s = some j → j < k ∧ q_el B j = true) → Z (q_e2 (am_fd (q_b1 (q_el B) (q_ag B)) k m s)) h → Ru mX0_longestIn none d 5 [.ref b, .int (q_e2 s), .int (nI k)] [] h Z
  | 0, k, s, hk, hs, z => by
    have e : k = q_n B := by omega
    subst e
    exact sX0_longestIn_5 hb hd ⟨fun _ => z, fun c => absurd (by rw [hI.1]; exact Int32.le_refl _) c⟩
  | m + 1, k, s, hk, hs, z => by
    have hn := hB.1
    have ih := x_old hd hb hI hB m (k + 1) (q_b1 (q_el B) (q_ag B) k s) (by omega) (fun j => q_b1_inv hs) z
    refine sX0_longestIn_5 hb hd ⟨fun c => absurd c (by rw [hI.1]; exact nI_ge (by omega) (by omega)), fun _ => ?_⟩
    rw [q_in hI hB (by omega), nI_1]
    refine ⟨fun c => ?_, fun c => ?_⟩
    · rw [show q_b1 (q_el B) (q_ag B) k s = s from if_neg (by simp; omega)] at ih; exact ih
    · have e1 : q_b1 (q_el B) (q_ag B) k s = q_up (q_ag B) k s := if_pos (by simp; omega)
      rw [e1] at ih
      cases s with
      | none => exact ⟨fun _ => ih, fun q => absurd (show (-2 : Int32) < 0 by decide) q⟩
      | some j =>
        have hj := (hs j rfl).1
        have a1 := (hB.2.2.2.2 k (by omega)).2.2.2.2
        have a2 := (hB.2.2.2.2 j (by omega)).2.2.2.2
        have e2 : h.2.2 (b + 8) (nI k).toNatClampNeg ≤ h.2.2 (b + 8) (nI j).toNatClampNeg ↔ q_ag B k ≤ q_ag B j := by
          rw [nI_clamp (by omega), nI_clamp (by omega), (hI.2.2.2.2 k (by omega)).2.2.2.2, (hI.2.2.2.2 j (by omega)).2.2.2.2]; exact nI_leI (by omega) (by omega)
        refine ⟨fun q => absurd q (nI_pos (by omega)), fun _ => ⟨vp_in_nI (by omega) (by omega), vp_in_nI (by omega) (by omega), ?_⟩⟩
        show (h.2.2 (b + 8) (nI k).toNatClampNeg ≤ h.2.2 (b + 8) (nI j).toNatClampNeg → _) ∧ (¬ (h.2.2 (b + 8) (nI k).toNatClampNeg ≤ h.2.2 (b + 8) (nI j).toNatClampNeg) → _)
        rw [e2]
        refine ⟨fun q => ?_, fun q => ?_⟩
        · rw [q_up_s, if_pos q] at ih; exact ih
        · rw [q_up_s, if_neg q] at ih; exact ih
theorem m_old (hN : q_IN h 74 B) (hM : q_IM h B) (hB : q_ok B) : ∀ (m k : Nat) (s : Option Nat), k + m = q_n B → (∀ j, s = some j → j < k ∧ q_el B j = true) → Z (q_e2 (am_fd (q_b1 (q_el B) (q_ag B)) k m s)) h → Ru mX11_oldest none d 5 [.ref 73, .int (q_e2 s), .int (nI k)] [] h Z
  | 0, k, s, hk, hs, z => by
    have e : k = q_n B := by omega
    subst e
    exact sX11_oldest_5 ⟨fun _ => z, fun c => absurd (by rw [hM.1]; exact Int32.le_refl _) c⟩
  | m + 1, k, s, hk, hs, z => by
    have hn := hB.1
    have ih := m_old hN hM hB m (k + 1) (q_b1 (q_el B) (q_ag B) k s) (by omega) (fun j => q_b1_inv hs) z
    have e48 : ∀ j, (48 : Int32) + nI j = nI (48 + j) := fun j => nI_add 48 j
    have hw := (hB.2.2.2.2 k (by omega)).2.2.1
    refine sX11_oldest_5 ⟨fun c => absurd c (by rw [hM.1]; exact nI_ge (by omega) (by omega)), fun _ => ⟨vp_in_nI (by omega) (by omega), ?_⟩⟩
    rw [nI_clamp (show k < 2 ^ 31 by omega), (hN.2.2 k (by omega)).1, q_w1_o hB (by omega), nI_1]
    refine ⟨fun c => ?_, fun c => ?_⟩
    · rw [show q_b1 (q_el B) (q_ag B) k s = s from if_neg (by simp; omega)] at ih; exact ih
    · have e1 : q_b1 (q_el B) (q_ag B) k s = q_up (q_ag B) k s := if_pos (by simp; omega)
      rw [e1] at ih
      cases s with
      | none => exact ⟨fun _ => ih, fun q => absurd rfl q⟩
      | some j =>
        have hj := (hs j rfl).1
        have a1 := (hB.2.2.2.2 k (by omega)).2.2.2.2
        have a2 := (hB.2.2.2.2 j (by omega)).2.2.2.2
        have e2 : h.2.2 74 ((48 : Int32) + nI k).toNatClampNeg ≤ h.2.2 74 ((48 : Int32) + nI j).toNatClampNeg ↔ q_ag B k ≤ q_ag B j := by
          rw [e48, e48, nI_clamp (by omega), nI_clamp (by omega), (hN.2.2 k (by omega)).2.2, (hN.2.2 j (by omega)).2.2]; exact nI_leI (by omega) (by omega)
        refine ⟨fun q => absurd (show (-2 : Int32) < 0 by decide) (by rw [← q]; exact nI_pos (by omega)), fun _ => ⟨by rw [e48]; exact vp_in_nI (by omega) (by omega), by show vp_in ((48 : Int32) + nI j) 74; rw [e48]; exact vp_in_nI (by omega) (by omega), ?_⟩⟩
        show (h.2.2 74 ((48 : Int32) + nI k).toNatClampNeg ≤ h.2.2 74 ((48 : Int32) + nI j).toNatClampNeg → _) ∧ (¬ (h.2.2 74 ((48 : Int32) + nI k).toNatClampNeg ≤ h.2.2 74 ((48 : Int32) + nI j).toNatClampNeg) → _)
        rw [e2]
        refine ⟨fun q => ?_, fun q => ?_⟩
        · rw [q_up_s, if_pos q] at ih; exact ih
        · rw [q_up_s, if_neg q] at ih; exact ih
abbrev q_et (B : am_AB) : Nat → Bool := fun i => decide (0 < q_r B i)
abbrev q_vf (B : am_AB) : Nat → Nat := fun i => q_r B i - q_F B i
theorem q_spc (hI : q_IC h b B) (hB : q_ok B) {i : Nat} (hi : i < 12) (hr : 0 < q_r B i) : (if am_told h b (nI i) then h.2.2 (b + 1) (nI i).toNatClampNeg - h.2.2 (b + 2) (nI i).toNatClampNeg else 0) = nI (q_vf B i) := by
  rw [if_pos ((q_told hI hB hi).mpr hr), nI_clamp (by omega), (hI.2.2.2.1 i hi).1, (hI.2.2.2.1 i hi).2.1, pk_sub (hB.2.2.2.1 i hi).2]
theorem x_fre (hd : 3 ≤ d) (hb : am_bu b) (hI : q_IC h b B) (hB : q_ok B) : ∀ (m k : Nat) (s : Option Nat), k + m = 12 → (∀ j, s = some j → j < k ∧ q_et B j = true) → Z (q_e2 (am_fd (q_b1 (q_et B) (q_vf B)) k m s)) h → Ru mX0_freest none d 5 [.ref b, .int (q_e2 s), .int (nI k)] [] h Z
  | 0, k, s, hk, hs, z => by
    have e : k = 12 := by omega
    subst e
    exact sX0_freest_5 hb hd ⟨fun _ => z, fun c => absurd (Int32.le_refl _) c⟩
  | m + 1, k, s, hk, hs, z => by
    have ih := x_fre hd hb hI hB m (k + 1) (q_b1 (q_et B) (q_vf B) k s) (by omega) (fun j => q_b1_inv hs) z
    have a1 := (hB.2.2.2.1 k (by omega)).1
    refine sX0_freest_5 hb hd ⟨fun c => absurd c (nI_ge (b := 12) (by omega) (by omega)), fun _ => ⟨fun c => ?_, fun c => ?_⟩⟩
    · rw [q_told hI hB (by omega)] at c
      rw [show q_b1 (q_et B) (q_vf B) k s = s from if_neg (by simp; omega)] at ih
      rw [nI_1]; exact ih
    · rw [q_told hI hB (by omega)] at c
      have e1 : q_b1 (q_et B) (q_vf B) k s = q_up (q_vf B) k s := if_pos (by simp; omega)
      rw [e1] at ih
      cases s with
      | none => exact ⟨fun _ => by rw [nI_1]; exact ih, fun q => absurd (show (-2 : Int32) < 0 by decide) q⟩
      | some j =>
        have hj := hs j rfl
        have hj2 : 0 < q_r B j := by have := hj.2; simpa using this
        have a2 := (hB.2.2.2.1 j (by omega)).1
        refine ⟨fun q => absurd q (nI_pos (by omega)), fun _ => ?_⟩
        show (_ ≤ (if am_told h b (nI j) then h.2.2 (b + 1) (nI j).toNatClampNeg - h.2.2 (b + 2) (nI j).toNatClampNeg else 0) → _) ∧ (¬ (_ ≤ (if am_told h b (nI j) then h.2.2 (b + 1) (nI j).toNatClampNeg - h.2.2 (b + 2) (nI j).toNatClampNeg else 0)) → _)
        rw [q_spc hI hB (by omega) c, q_spc hI hB (by omega) hj2, nI_leI (show q_vf B k < 2 ^ 31 by (show q_r B k - q_F B k < _); omega) (show q_vf B j < 2 ^ 31 by (show q_r B j - q_F B j < _); omega), nI_1]
        refine ⟨fun q => ?_, fun q => ?_⟩
        · rw [q_up_s, if_pos q] at ih; exact ih
        · rw [q_up_s, if_neg q] at ih; exact ih
theorem m_fre {x1 : Int32} (hd : 5 ≤ d) (hN : q_IN h 74 B) (hM : q_IM h B) (hB : q_ok B) (z : ∀ s, s = am_fd (q_b1 (q_et B) (q_vf B)) 0 12 none → Z (if x1 = 1 then q_e2 s else match s with | none => -2 | some j => nI (q_vf B j)) h) : ∀ (m k : Nat) (s : Option Nat), k + m = 12 → (∀ j, s = some j → j < k ∧ q_et B j = true) → am_fd (q_b1 (q_et B) (q_vf B)) k m s = am_fd (q_b1 (q_et B) (q_vf B)) 0 12 none → Ru mX11_free none d 16 [.ref 73, .int x1, .int (q_e2 s), .int (nI k)] [] h Z
  | 0, k, s, hk, hs, e => by
    have ek : k = 12 := by omega
    subst ek
    have z' := z s e
    refine sX11_free_16 (by omega) ⟨fun _ => ⟨fun c => ?_, fun c => ?_⟩, fun c => absurd (Int32.le_refl _) c⟩
    · rw [if_pos c] at z'; exact z'
    · rw [if_neg c] at z'
      cases s with
      | none => exact ⟨fun q => absurd rfl q, fun _ => z'⟩
      | some j =>
        have hj := hs j rfl
        have hj2 : 0 < q_r B j := by have := hj.2; simpa using this
        exact ⟨fun _ => ⟨3, by omega, iX11_roomLeft (by omega) hN hM hB hj.1 hj2 z'⟩, fun q => absurd (show (-2 : Int32) < 0 by decide) (by rw [← q]; exact nI_pos (by omega))⟩
  | m + 1, k, s, hk, hs, e => by
    have ih := m_fre (x1 := x1) hd hN hM hB z m (k + 1) (q_b1 (q_et B) (q_vf B) k s) (by omega) (fun j => q_b1_inv hs) e
    have a1 := (hB.2.2.2.1 k (by omega)).1
    refine sX11_free_16 (by omega) ⟨fun c => absurd c (nI_ge (b := 12) (by omega) (by omega)), fun _ => ⟨fun c => ?_, fun c => ?_⟩⟩
    · have c' : ¬ 0 < q_r B k := fun g => c ((q_mT hM).mpr ⟨k, by omega, rfl, g⟩)
      rw [show q_b1 (q_et B) (q_vf B) k s = s from if_neg (by simp; omega)] at ih
      rw [nI_1]; exact ih
    · have c' : 0 < q_r B k := by
        obtain ⟨i, hi, e2, g⟩ := (q_mT hM).mp c
        rw [(nI_eq (by omega) (by omega)).mp e2]; exact g
      have e1 : q_b1 (q_et B) (q_vf B) k s = q_up (q_vf B) k s := if_pos (by simp; omega)
      rw [e1] at ih
      cases s with
      | none => exact ⟨fun _ => by rw [nI_1]; exact ih, fun q => absurd rfl q⟩
      | some j =>
        have hj := hs j rfl
        have hj2 : 0 < q_r B j := by have := hj.2; simpa using this
        have a2 := (hB.2.2.2.1 j (by omega)).1
        refine ⟨fun q => absurd (show (-2 : Int32) < 0 by decide) (by rw [← q]; exact nI_pos (by omega)), fun _ => ⟨3, by omega, iX11_roomLeft (by omega) hN hM hB (by omega) c' ⟨3, by omega, iX11_roomLeft (by omega) hN hM hB (by omega) hj2 ?_⟩⟩⟩
        rw [nI_leI (by omega) (by omega), nI_1]
        refine ⟨fun q => ?_, fun q => ?_⟩
        · rw [q_up_s, if_pos q] at ih; exact ih
        · rw [q_up_s, if_neg q] at ih; exact ih
end
section
variable {d : Nat} {h : am_H} {K : Int32 → Int32 → am_H → Prop} {B : am_AB}
theorem q_inv12 {s : Option Nat} (e : s = am_fd (q_b1 (q_et B) (q_vf B)) 0 12 none) : ∀ j, s = some j → j < 12 ∧ q_et B j = true := by
  intro j hj
  have := am_fd_inv (fun k (s : Option Nat) => ∀ j, s = some j → j < k ∧ q_et B j = true) (f := q_b1 (q_et B) (q_vf B)) 12 0 none (fun j hj => by cases hj) (fun i a _ _ hr j => q_b1_inv hr)
  exact this j (e ▸ hj)
theorem pp_oldest (hd : 12 ≤ d) (hb : am_bu (h.2.1 0 10)) (hI : q_IC h (h.2.1 0 10) B) (hN : q_IN h 74 B) (hM : q_IM h B) (hB : q_ok B) (z : ∀ r, K r r h) : am_cl mX10_oldest d [.ref 0] h (fun r1 h1 => am_cl mX11_oldest d [.ref 73] h1 (fun r2 h2 => K r1 r2 h2)) := by
  refine ⟨10, by omega, Sp_of mf_X10_oldest rfl (Nat.le_of_ble_eq_true rfl) rfl (sX10_oldest_0 ⟨hb, ⟨8, by omega, Sp_of mf_X0_longestIn rfl (Nat.le_of_ble_eq_true rfl) rfl (sX0_longestIn_0 hb (x_old (by omega) hb hI hB (q_n B) 0 none (by omega) (fun j hj => by cases hj) ?_))⟩⟩)⟩
  exact ⟨10, by omega, Sp_of mf_X11_oldest rfl (Nat.le_of_ble_eq_true rfl) rfl (sX11_oldest_0 (m_old hN hM hB (q_n B) 0 none (by omega) (fun j hj => by cases hj) (z _)))⟩
theorem pp_free {x : Int32} (hd : 12 ≤ d) (hb : am_bu (h.2.1 0 10)) (hI : q_IC h (h.2.1 0 10) B) (hN : q_IN h 74 B) (hM : q_IM h B) (hB : q_ok B) (z : ∀ r, K r r h) : am_cl mX10_free d [.ref 0, .int x] h (fun r1 h1 => am_cl mX11_free d [.ref 73, .int x] h1 (fun r2 h2 => K r1 r2 h2)) := by
  by_cases c1 : (0 : Int32) ≤ x ∧ x ≤ 1
  · have hx : x = 0 ∨ x = 1 := by
      obtain ⟨j, hj, rfl⟩ := am_natle (N := 1) (by omega) c1.1 c1.2
      rcases (show j = 0 ∨ j = 1 by omega) with rfl | rfl
      · exact Or.inl rfl
      · exact Or.inr rfl
    refine ⟨10, by omega, Sp_of mf_X10_free rfl (Nat.le_of_ble_eq_true rfl) rfl (sX10_free_0 (by omega) ⟨fun _ => ⟨hb, ⟨8, by omega, Sp_of mf_X0_freest rfl (Nat.le_of_ble_eq_true rfl) rfl (sX0_freest_0 hb (x_fre (by omega) hb hI hB 12 0 none (by omega) (fun j hj => by cases hj) ?_))⟩⟩, fun c => absurd c1 c⟩)⟩
    generalize es : am_fd (q_b1 (q_et B) (q_vf B)) 0 12 none = s
    have hs := q_inv12 (B := B) es.symm
    have fin : ∀ r, r = (if x = 1 then q_e2 s else match s with | none => -2 | some j => nI (q_vf B j)) → am_cl mX11_free d [.ref 73, .int x] h (fun r2 h2 => K r r2 h2) := fun r hr => by
      refine ⟨10, by omega, Sp_of mf_X11_free rfl (Nat.le_of_ble_eq_true rfl) rfl (sX11_free_0 (by omega) ⟨fun _ => m_fre (by omega) hN hM hB (fun s2 e2 => ?_) 12 0 none (by omega) (fun j hj => by cases hj) rfl, fun c => absurd c1 c⟩)⟩
      rw [e2, es, ← hr]; exact z _
    cases s with
    | none => exact ⟨fun c => absurd c (by decide), fun _ => fin _ (by by_cases c : x = 1 <;> simp [c, q_e2])⟩
    | some j =>
      have hj := hs j rfl
      have hj2 : 0 < q_r B j := by have := hj.2; simpa using this
      refine ⟨fun _ => ⟨fun c => fin _ ?_, fun c => ⟨hb, ?_⟩⟩, fun c => absurd (nI_pos' (by omega)) c⟩
      · rw [if_pos (by rcases hx with e | e; exact absurd e c; exact e)]
      · rw [show q_e2 (some j) = nI j from rfl, q_spc hI hB hj.1 hj2]
        exact fin _ (by rw [if_neg (by rw [c]; decide)])
  · refine ⟨10, by omega, Sp_of mf_X10_free rfl (Nat.le_of_ble_eq_true rfl) rfl (sX10_free_0 (by omega) ⟨fun c => absurd c c1, fun _ => ?_⟩)⟩
    exact ⟨10, by omega, Sp_of mf_X11_free rfl (Nat.le_of_ble_eq_true rfl) rfl (sX11_free_0 (by omega) ⟨fun c => absurd c c1, fun _ => z _⟩)⟩
theorem pp_drawerIs {x y : Int32} (hd : 12 ≤ d) (hb : am_bu (h.2.1 0 10)) (hI : q_IC h (h.2.1 0 10) B) (hN : q_IN h 74 B) (hM : q_IM h B) (hB : q_ok B) (z : ∀ r, K r r h) : am_cl mX10_drawerIs d [.ref 0, .int x, .int y] h (fun r1 h1 => am_cl mX11_drawerIs d [.ref 73, .int x, .int y] h1 (fun r2 h2 => K r1 r2 h2)) := by
  have go : ∀ r (w : Ru mX11_drawerIs none 10 0 [.ref 73, .int x, .int y] [] h (fun r2 h2 => r2 = r ∧ h2 = h)), am_cl mX11_drawerIs d [.ref 73, .int x, .int y] h (fun r2 h2 => K r r2 h2) := fun r w => by
    refine ⟨10, by omega, Sp_of mf_X11_drawerIs rfl (Nat.le_of_ble_eq_true rfl) rfl (am_ru_mono w (fun r2 h2 q => ?_))⟩
    obtain ⟨rfl, rfl⟩ := q
    exact z _
  by_cases c1 : ∃ i, i < 12 ∧ x = nI i ∧ 0 < q_r B i
  · obtain ⟨i, hi, rfl, hr⟩ := c1
    have t1 := (q_told hI hB hi).mpr hr
    have t2 : am_mT h (nI i) := (q_mT hM).mpr ⟨i, hi, rfl, hr⟩
    have v : vp_in (nI i) 12 := vp_in_nI (by omega) (by omega)
    refine ⟨10, by omega, Sp_of mf_X10_drawerIs rfl (Nat.le_of_ble_eq_true rfl) rfl (sX10_drawerIs_0 (by omega) ⟨hb, fun _ => ⟨fun c => ⟨v, go _ (sX11_drawerIs_0 (by omega) ⟨fun _ => ⟨fun _ => ⟨v, ?_⟩, fun q => absurd c q⟩, fun q => absurd t2 q⟩)⟩, fun n0 => ⟨fun c => ⟨v, go _ (sX11_drawerIs_0 (by omega) ⟨fun _ => ⟨fun q => absurd q n0, fun _ => ⟨fun _ => ⟨8, by omega, iX11_fullOf hN hM hB hi ?_⟩, fun q => absurd c q⟩⟩, fun q => absurd t2 q⟩)⟩, fun n1 => ⟨fun c => ⟨8, by omega, iX0_bitsIn (by omega) hb hI hB hi (go _ (sX11_drawerIs_0 (by omega) ⟨fun _ => ⟨fun q => absurd q n0, fun _ => ⟨fun q => absurd q n1, fun _ => ⟨fun _ => ⟨8, by omega, iX11_papersIn hN hM hB hi ⟨rfl, rfl⟩⟩, fun q => absurd c q⟩⟩⟩, fun q => absurd t2 q⟩))⟩, fun n2 => go _ (sX11_drawerIs_0 (by omega) ⟨fun _ => ⟨fun q => absurd q n0, fun _ => ⟨fun q => absurd q n1, fun _ => ⟨fun q => absurd q n2, fun _ => ⟨rfl, rfl⟩⟩⟩⟩, fun q => absurd t2 q⟩)⟩⟩⟩, fun c => absurd t1 c⟩)⟩
    · rw [nI_clamp (by omega), hM.2.2.1 i hi hr, (hI.2.2.2.1 i hi).1]; exact ⟨rfl, rfl⟩
    · rw [nI_clamp (by omega), (hI.2.2.2.1 i hi).2.1]; exact ⟨rfl, rfl⟩
  · have t1 : ¬ am_told h (h.2.1 0 10) x := fun q => by
      obtain ⟨i, hi, rfl⟩ := am_nat (N := 12) (by omega) q.1 q.2.1
      exact c1 ⟨i, hi, rfl, (q_told hI hB hi).mp q⟩
    refine ⟨10, by omega, Sp_of mf_X10_drawerIs rfl (Nat.le_of_ble_eq_true rfl) rfl (sX10_drawerIs_0 (by omega) ⟨hb, fun c => absurd c t1, fun _ => go _ (sX11_drawerIs_0 (by omega) ⟨fun c => absurd ((q_mT hM).mp c) c1, fun _ => ⟨rfl, rfl⟩⟩)⟩)⟩
theorem pp_paperIs {x y : Int32} (hd : 12 ≤ d) (hb : am_bu (h.2.1 0 10)) (hI : q_IC h (h.2.1 0 10) B) (hN : q_IN h 74 B) (hM : q_IM h B) (hB : q_ok B) (z : ∀ r, K r r h) : am_cl mX10_paperIs d [.ref 0, .int x, .int y] h (fun r1 h1 => am_cl mX11_paperIs d [.ref 73, .int x, .int y] h1 (fun r2 h2 => K r1 r2 h2)) := by
  have hn := hB.1
  have go : ∀ r (w : Ru mX11_paperIs none 10 0 [.ref 73, .int x, .int y] [] h (fun r2 h2 => r2 = r ∧ h2 = h)), am_cl mX11_paperIs d [.ref 73, .int x, .int y] h (fun r2 h2 => K r r2 h2) := fun r w => by
    refine ⟨10, by omega, Sp_of mf_X11_paperIs rfl (Nat.le_of_ble_eq_true rfl) rfl (am_ru_mono w (fun r2 h2 q => ?_))⟩
    obtain ⟨rfl, rfl⟩ := q
    exact z _
  by_cases c1 : ∃ p, p < q_n B ∧ x = nI p
  · obtain ⟨p, hp, rfl⟩ := c1
    have t1 := (q_pap hI hB).mpr ⟨p, hp, rfl⟩
    have t2 : am_mP h (nI p) := (q_mP hM hB).mpr ⟨p, hp, rfl⟩
    have v : vp_in (nI p) 24 := vp_in_nI (by omega) (by omega)
    have v7 : vp_in (nI p) 74 := vp_in_nI (by omega) (by omega)
    have e24 : (24 : Int32) + nI p = nI (24 + p) := nI_add 24 p
    have e48 : (48 : Int32) + nI p = nI (48 + p) := nI_add 48 p
    have w24 : vp_in ((24 : Int32) + nI p) 74 := by rw [e24]; exact vp_in_nI (by omega) (by omega)
    have w48 : vp_in ((48 : Int32) + nI p) 74 := by rw [e48]; exact vp_in_nI (by omega) (by omega)
    have hI9 := hI.2.2.2.2 p hp
    have hN9 := hN.2.2 p hp
    have hM9 := hM.2.2.2 p hp
    have cl : (nI p).toNatClampNeg = p := nI_clamp (by omega)
    have cl24 : ((24 : Int32) + nI p).toNatClampNeg = 24 + p := by rw [e24]; exact nI_clamp (by omega)
    have cl48 : ((48 : Int32) + nI p).toNatClampNeg = 48 + p := by rw [e48]; exact nI_clamp (by omega)
    have ew : (if q_w1 (q_w B p) = -1 then (-2 : Int32) else q_w1 (q_w B p)) = q_w2 (q_w B p) := by
      rcases (hB.2.2.2.2 p hp).2.2.1 with e | ⟨e, -⟩
      · rw [e]; decide
      · rw [if_neg (fun q => by have := (q_w1_o hB hp).mp q; omega), q_w1_in e, q_w2_in e]
    refine ⟨10, by omega, Sp_of mf_X10_paperIs rfl (Nat.le_of_ble_eq_true rfl) rfl (sX10_paperIs_0 (by omega) ⟨hb, fun _ => ⟨fun c => ⟨v, go _ (sX11_paperIs_0 (by omega) ⟨fun _ => ⟨fun _ => ⟨v, ?_⟩, fun q => absurd c q⟩, fun q => absurd t2 q⟩)⟩, fun n0 => ⟨fun c => ⟨v, go _ (sX11_paperIs_0 (by omega) ⟨fun _ => ⟨fun q => absurd q n0, fun _ => ⟨fun _ => ⟨v, ?_⟩, fun q => absurd c q⟩⟩, fun q => absurd t2 q⟩)⟩, fun n1 => ⟨fun c => ⟨v, go _ (sX11_paperIs_0 (by omega) ⟨fun _ => ⟨fun q => absurd q n0, fun _ => ⟨fun q => absurd q n1, fun _ => ⟨fun _ => ⟨v7, ?_⟩, fun q => absurd c q⟩⟩⟩, fun q => absurd t2 q⟩)⟩, fun n2 => ⟨fun c => ⟨v, go _ (sX11_paperIs_0 (by omega) ⟨fun _ => ⟨fun q => absurd q n0, fun _ => ⟨fun q => absurd q n1, fun _ => ⟨fun q => absurd q n2, fun _ => ⟨fun _ => ⟨w24, ?_⟩, fun q => absurd c q⟩⟩⟩⟩, fun q => absurd t2 q⟩)⟩, fun n3 => ⟨fun c => ⟨v, go _ (sX11_paperIs_0 (by omega) ⟨fun _ => ⟨fun q => absurd q n0, fun _ => ⟨fun q => absurd q n1, fun _ => ⟨fun q => absurd q n2, fun _ => ⟨fun q => absurd q n3, fun _ => ⟨fun _ => ⟨w48, ?_⟩, fun q => absurd c q⟩⟩⟩⟩⟩, fun q => absurd t2 q⟩)⟩, fun n4 => go _ (sX11_paperIs_0 (by omega) ⟨fun _ => ⟨fun q => absurd q n0, fun _ => ⟨fun q => absurd q n1, fun _ => ⟨fun q => absurd q n2, fun _ => ⟨fun q => absurd q n3, fun _ => ⟨fun q => absurd q n4, fun _ => ⟨rfl, rfl⟩⟩⟩⟩⟩⟩, fun q => absurd t2 q⟩)⟩⟩⟩⟩⟩, fun c => absurd t1 c⟩)⟩
    · rw [cl, hM9.1, hI9.1]; exact ⟨rfl, rfl⟩
    · rw [cl, hM9.2, hI9.2.1]; exact ⟨rfl, rfl⟩
    · rw [cl, hN9.1, hI9.2.2.1, ew]; exact ⟨rfl, rfl⟩
    · rw [cl24, cl, hN9.2.1, hI9.2.2.2.1]; exact ⟨rfl, rfl⟩
    · rw [cl48, cl, hN9.2.2, hI9.2.2.2.2]; exact ⟨rfl, rfl⟩
  · refine ⟨10, by omega, Sp_of mf_X10_paperIs rfl (Nat.le_of_ble_eq_true rfl) rfl (sX10_paperIs_0 (by omega) ⟨hb, fun c => absurd ((q_pap hI hB).mp c) c1, fun _ => go _ (sX11_paperIs_0 (by omega) ⟨fun c => absurd ((q_mP hM hB).mp c) c1, fun _ => ⟨rfl, rfl⟩⟩)⟩)⟩
end
