-- planked
set_option maxRecDepth 20000 in
set_option maxHeartbeats 2000000 in
theorem sX6_layOne_0 {d : Nat} {h : am_H} {Z : Int32 → am_H → Prop} {x1 : Int32} {x2 : Int32} {x3 : Int32} (w : (x3 ≤ (x2 + 1) → Ru mX6_layOne none d 20 [.ref 10, .int x1, .int x2, .int x3, .int (1 <<< (x2 &&& 31)), .null] [.int 0] h Z) ∧ (¬ (x3 ≤ (x2 + 1)) → Ru mX6_layOne none d 20 [.ref 10, .int x1, .int x2, .int x3, .int (1 <<< (x2 &&& 31)), .null] [.int ((1 <<< (x2 &&& 31)) <<< (1 &&& 31))] h Z)) : Ru mX6_layOne none d 0 [.ref 10, .int x1, .int x2, .int x3, .null, .null] [] h Z := by
  refine st_iconst (v := 1) dX6_layOne_0 (by decide) ?_
  refine st_iload_n dX6_layOne_1 rfl ?_
  refine st_ishl dX6_layOne_2 ?_
  refine st_istore (L' := [.ref 10, .int x1, .int x2, .int x3, .int (1 <<< (x2 &&& 31)), .null]) dX6_layOne_3 (by decide) rfl ?_
  refine st_iload_n dX6_layOne_5 rfl ?_
  refine st_iconst (v := 1) dX6_layOne_6 (by decide) ?_
  refine st_iadd dX6_layOne_7 ?_
  refine st_iload_n dX6_layOne_8 rfl ?_
  refine st_icmp_ge (tgt := 19) dX6_layOne_9 (by decide) (fun c => ?_) (fun c => ?_)
  · replace w := w.1 c
    refine st_iconst (v := 0) dX6_layOne_19 (by decide) ?_
    exact w
  · replace w := w.2 c
    refine st_iload dX6_layOne_12 rfl ?_
    refine st_iconst (v := 1) dX6_layOne_14 (by decide) ?_
    refine st_ishl dX6_layOne_15 ?_
    refine st_goto (tgt := 20) dX6_layOne_16 (by decide) ?_
    exact w
set_option maxRecDepth 20000 in
set_option maxHeartbeats 2000000 in
theorem sX6_layOne_20 {d : Nat} {h : am_H} {Z : Int32 → am_H → Prop} {x1 : Int32} {u2 : Value} {u3 : Value} {x4 : Int32} {u5 : Value} {s0 : Int32} (w : ((x1 &&& x4) = 0 → (vp_in (x1 ||| x4) 256 ∧ (vp_in x1 256 ∧ (∀ h3 : am_H, h3 = am_sR h 15 (upd (h.2.2 15) (x1 ||| x4).toNatClampNeg ((h.2.2 15 (x1 ||| x4).toNatClampNeg) + (h.2.2 14 x1.toNatClampNeg))) → ((s0 = 0 → Z 0 h3) ∧ (¬ (s0 = 0) → (¬ (x1 &&& s0) = 0 → Z 0 h3) ∧ ((x1 &&& s0) = 0 → (vp_in (x1 ||| s0) 256 ∧ (∀ h5 : am_H, h5 = am_sR h3 15 (upd (h3.2.2 15) (x1 ||| s0).toNatClampNeg ((h3.2.2 15 (x1 ||| s0).toNatClampNeg) + (h3.2.2 14 x1.toNatClampNeg))) → (Z 0 h5)))))))))) ∧ (¬ ((x1 &&& x4) = 0) → (vp_in (x1 ^^^ x4) 256 ∧ (vp_in x1 256 ∧ (∀ h8 : am_H, h8 = am_sR h 15 (upd (h.2.2 15) (x1 ^^^ x4).toNatClampNeg ((h.2.2 15 (x1 ^^^ x4).toNatClampNeg) + (h.2.2 14 x1.toNatClampNeg))) → (Z 0 h8)))))) : Ru mX6_layOne none d 20 [.ref 10, .int x1, u2, u3, .int x4, u5] [.int s0] h Z := by
  refine st_istore (L' := [.ref 10, .int x1, u2, u3, .int x4, .int s0]) dX6_layOne_20 (by decide) rfl ?_
  refine st_iload_n dX6_layOne_22 rfl ?_
  refine st_iload dX6_layOne_23 rfl ?_
  refine st_iand dX6_layOne_25 ?_
  refine st_if_eq (tgt := 48) dX6_layOne_26 (by decide) (fun c => ?_) (fun c => ?_)
  · replace w := w.1 c
    refine st_aload_n dX6_layOne_48 rfl ?_
    refine st_getF (q := 15) fl_X6_24 fk_6_5 rfl dX6_layOne_49 sh_10 ?_
    refine st_iload_n dX6_layOne_52 rfl ?_
    refine st_iload dX6_layOne_53 rfl ?_
    refine st_ior dX6_layOne_55 ?_
    refine st_dup2 dX6_layOne_56 rfl rfl ?_
    have hc1 := w.1
    replace w := w.2
    refine st_iald dX6_layOne_57 sh_15 hc1 ?_
    refine st_aload_n dX6_layOne_58 rfl ?_
    refine st_getF (q := 14) fl_X6_21 fk_6_4 rfl dX6_layOne_59 sh_10 ?_
    refine st_iload_n dX6_layOne_62 rfl ?_
    have hc2 := w.1
    replace w := w.2
    refine st_iald dX6_layOne_63 sh_14 hc2 ?_
    refine st_iadd dX6_layOne_64 ?_
    refine st_iast dX6_layOne_65 sh_15 hc1 (fun h3 eh3 => ?_)
    replace w := w h3 eh3
    refine st_iload dX6_layOne_66 rfl ?_
    refine st_if_eq (tgt := 96) dX6_layOne_68 (by decide) (fun c => ?_) (fun c => ?_)
    · replace w := w.1 c
      exact st_return rfl dX6_layOne_96 w
    · replace w := w.2 c
      refine st_iload_n dX6_layOne_71 rfl ?_
      refine st_iload dX6_layOne_72 rfl ?_
      refine st_iand dX6_layOne_74 ?_
      refine st_if_ne (tgt := 96) dX6_layOne_75 (by decide) (fun c => ?_) (fun c => ?_)
      · replace w := w.1 c
        exact st_return rfl dX6_layOne_96 w
      · replace w := w.2 c
        refine st_aload_n dX6_layOne_78 rfl ?_
        refine st_getF (q := 15) fl_X6_24 fk_6_5 rfl dX6_layOne_79 sh_10 ?_
        refine st_iload_n dX6_layOne_82 rfl ?_
        refine st_iload dX6_layOne_83 rfl ?_
        refine st_ior dX6_layOne_85 ?_
        refine st_dup2 dX6_layOne_86 rfl rfl ?_
        have hc4 := w.1
        replace w := w.2
        refine st_iald dX6_layOne_87 sh_15 hc4 ?_
        refine st_aload_n dX6_layOne_88 rfl ?_
        refine st_getF (q := 14) fl_X6_21 fk_6_4 rfl dX6_layOne_89 sh_10 ?_
        refine st_iload_n dX6_layOne_92 rfl ?_
        refine st_iald dX6_layOne_93 sh_14 hc2 ?_
        refine st_iadd dX6_layOne_94 ?_
        refine st_iast dX6_layOne_95 sh_15 hc4 (fun h5 eh5 => ?_)
        replace w := w h5 eh5
        exact st_return rfl dX6_layOne_96 w
  · replace w := w.2 c
    refine st_aload_n dX6_layOne_29 rfl ?_
    refine st_getF (q := 15) fl_X6_24 fk_6_5 rfl dX6_layOne_30 sh_10 ?_
    refine st_iload_n dX6_layOne_33 rfl ?_
    refine st_iload dX6_layOne_34 rfl ?_
    refine st_ixor dX6_layOne_36 ?_
    refine st_dup2 dX6_layOne_37 rfl rfl ?_
    have hc6 := w.1
    replace w := w.2
    refine st_iald dX6_layOne_38 sh_15 hc6 ?_
    refine st_aload_n dX6_layOne_39 rfl ?_
    refine st_getF (q := 14) fl_X6_21 fk_6_4 rfl dX6_layOne_40 sh_10 ?_
    refine st_iload_n dX6_layOne_43 rfl ?_
    have hc7 := w.1
    replace w := w.2
    refine st_iald dX6_layOne_44 sh_14 hc7 ?_
    refine st_iadd dX6_layOne_45 ?_
    refine st_iast dX6_layOne_46 sh_15 hc6 (fun h8 eh8 => ?_)
    replace w := w h8 eh8
    exact st_return rfl dX6_layOne_47 w
set_option maxRecDepth 20000 in
set_option maxHeartbeats 2000000 in
theorem sX6_waysToPlank_0 {d : Nat} {h : am_H} {Z : Int32 → am_H → Prop} {x1 : Int32} {x2 : Int32} (hd : 2 ≤ d) (w : (∀ h1 : am_H, h1 = am_sR (am_sR h 14 (am_fill (h.2.2 14) 256 (0 : Int32))) 14 (upd ((am_sR h 14 (am_fill (h.2.2 14) 256 (0 : Int32))).2.2 14) 0 1) → (Ru mX6_waysToPlank none d 22 [.ref 10, .int x1, .int x2, .int (1 <<< (x1 &&& 31)), .int 0, .null] [] h1 Z))) : Ru mX6_waysToPlank none d 0 [.ref 10, .int x1, .int x2, .null, .null, .null] [] h Z := by
  refine st_iconst (v := 1) dX6_waysToPlank_0 (by decide) ?_
  refine st_iload_n dX6_waysToPlank_1 rfl ?_
  refine st_ishl dX6_waysToPlank_2 ?_
  refine st_istore_n (L' := [.ref 10, .int x1, .int x2, .int (1 <<< (x1 &&& 31)), .null, .null]) dX6_waysToPlank_3 (by decide) rfl ?_
  refine st_aload_n dX6_waysToPlank_4 rfl ?_
  refine st_getF (q := 14) fl_X6_21 fk_6_4 rfl dX6_waysToPlank_5 sh_10 ?_
  refine st_iconst (v := 0) dX6_waysToPlank_8 (by decide) ?_
  refine st_callS (M' := mJ7_fill_53178) [.ref 14, .int 0] [] dX6_waysToPlank_9 ml_X6_41 mf_J7_fill_53178 ms_J7_fill_53178 rfl rfl rfl (K := fun r h' => 0 = r ∧ am_sR h 14 (am_fill (h.2.2 14) 256 (0 : Int32)) = h') ⟨1, by omega, iJ7_fill sh_14 (by decide) ⟨rfl, rfl⟩⟩ (fun r1 h1 w1 => ?_)
  obtain ⟨rfl, rfl⟩ := w1
  show Ru mX6_waysToPlank none d 12 [.ref 10, .int x1, .int x2, .int (1 <<< (x1 &&& 31)), .null, .null] [] (am_sR h 14 (am_fill (h.2.2 14) 256 (0 : Int32))) Z
  refine st_aload_n dX6_waysToPlank_12 rfl ?_
  refine st_getF (q := 14) fl_X6_21 fk_6_4 rfl dX6_waysToPlank_13 sh_10 ?_
  refine st_iconst (v := 0) dX6_waysToPlank_16 (by decide) ?_
  refine st_iconst (v := 1) dX6_waysToPlank_17 (by decide) ?_
  refine st_iast dX6_waysToPlank_18 sh_14 (by unfold vp_in; decide +kernel) (fun h1 eh1 => ?_)
  replace w := w h1 eh1
  refine st_iconst (v := 0) dX6_waysToPlank_19 (by decide) ?_
  refine st_istore (L' := [.ref 10, .int x1, .int x2, .int (1 <<< (x1 &&& 31)), .int 0, .null]) dX6_waysToPlank_20 (by decide) rfl ?_
  exact w
set_option maxRecDepth 20000 in
set_option maxHeartbeats 2000000 in
theorem sX6_waysToPlank_22 {d : Nat} {h : am_H} {Z : Int32 → am_H → Prop} {x1 : Int32} {x2 : Int32} {x3 : Int32} {x4 : Int32} {u5 : Value} (hd : 2 ≤ d) (w : ((x1 * x2) ≤ x4 → Z (h.2.2 14 0) h) ∧ (¬ ((x1 * x2) ≤ x4) → Ru mX6_waysToPlank none d 41 [.ref 10, .int x1, .int x2, .int x3, .int x4, .int 0] [] (am_sR h 15 (am_fill (h.2.2 15) 256 (0 : Int32))) Z)) : Ru mX6_waysToPlank none d 22 [.ref 10, .int x1, .int x2, .int x3, .int x4, u5] [] h Z := by
  refine st_iload dX6_waysToPlank_22 rfl ?_
  refine st_iload_n dX6_waysToPlank_24 rfl ?_
  refine st_iload_n dX6_waysToPlank_25 rfl ?_
  refine st_imul dX6_waysToPlank_26 ?_
  refine st_icmp_ge (tgt := 94) dX6_waysToPlank_27 (by decide) (fun c => ?_) (fun c => ?_)
  · replace w := w.1 c
    refine st_aload_n dX6_waysToPlank_94 rfl ?_
    refine st_getF (q := 14) fl_X6_21 fk_6_4 rfl dX6_waysToPlank_95 sh_10 ?_
    refine st_iconst (v := 0) dX6_waysToPlank_98 (by decide) ?_
    refine st_iald dX6_waysToPlank_99 sh_14 (by unfold vp_in; decide +kernel) ?_
    show Ru mX6_waysToPlank none d 100 [.ref 10, .int x1, .int x2, .int x3, .int x4, u5] [.int (h.2.2 14 0)] h Z
    exact st_ireturn rfl rfl dX6_waysToPlank_100 w
  · replace w := w.2 c
    refine st_aload_n dX6_waysToPlank_30 rfl ?_
    refine st_getF (q := 15) fl_X6_24 fk_6_5 rfl dX6_waysToPlank_31 sh_10 ?_
    refine st_iconst (v := 0) dX6_waysToPlank_34 (by decide) ?_
    refine st_callS (M' := mJ7_fill_53178) [.ref 15, .int 0] [] dX6_waysToPlank_35 ml_X6_41 mf_J7_fill_53178 ms_J7_fill_53178 rfl rfl rfl (K := fun r h' => 0 = r ∧ am_sR h 15 (am_fill (h.2.2 15) 256 (0 : Int32)) = h') ⟨1, by omega, iJ7_fill sh_15 (by decide) ⟨rfl, rfl⟩⟩ (fun r1 h1 w1 => ?_)
    obtain ⟨rfl, rfl⟩ := w1
    show Ru mX6_waysToPlank none d 38 [.ref 10, .int x1, .int x2, .int x3, .int x4, u5] [] (am_sR h 15 (am_fill (h.2.2 15) 256 (0 : Int32))) Z
    refine st_iconst (v := 0) dX6_waysToPlank_38 (by decide) ?_
    refine st_istore (L' := [.ref 10, .int x1, .int x2, .int x3, .int x4, .int 0]) dX6_waysToPlank_39 (by decide) rfl ?_
    exact w
set_option maxRecDepth 20000 in
set_option maxHeartbeats 2000000 in
theorem sX6_waysToPlank_41 {d : Nat} {h : am_H} {Z : Int32 → am_H → Prop} {x1 : Int32} {x2 : Int32} {x3 : Int32} {x4 : Int32} {x5 : Int32} (hd : 1 ≤ d) (w : (x3 ≤ x5 → (∀ h1 : am_H, h1 = am_sR h 14 (va_cpy (h.2.2 15) (h.2.2 14) 0 0 256) → (Ru mX6_waysToPlank none d 22 [.ref 10, .int x1, .int x2, .int x3, .int (x4 + 1), .int x5] [] h1 Z))) ∧ (¬ (x3 ≤ x5) → (256 ≤ x5 → (∀ h2 : am_H, h2 = am_sR h 14 (va_cpy (h.2.2 15) (h.2.2 14) 0 0 256) → (Ru mX6_waysToPlank none d 22 [.ref 10, .int x1, .int x2, .int x3, .int (x4 + 1), .int x5] [] h2 Z))) ∧ (¬ (256 ≤ x5) → (¬ x1 = 0 ∧ (am_cl mX6_layOne d [.ref 10, .int x5, .int (am_rem x4 x1), .int x1] h (fun r4 h5 => Ru mX6_waysToPlank none d 41 [.ref 10, .int x1, .int x2, .int x3, .int x4, .int (x5 + 1)] [] h5 Z)))))) : Ru mX6_waysToPlank none d 41 [.ref 10, .int x1, .int x2, .int x3, .int x4, .int x5] [] h Z := by
  refine st_iload dX6_waysToPlank_41 rfl ?_
  refine st_iload_n dX6_waysToPlank_43 rfl ?_
  refine st_icmp_ge (tgt := 72) dX6_waysToPlank_44 (by decide) (fun c => ?_) (fun c => ?_)
  · replace w := w.1 c
    refine st_aload_n dX6_waysToPlank_72 rfl ?_
    refine st_getF (q := 15) fl_X6_24 fk_6_5 rfl dX6_waysToPlank_73 sh_10 ?_
    refine st_iconst (v := 0) dX6_waysToPlank_76 (by decide) ?_
    refine st_aload_n dX6_waysToPlank_77 rfl ?_
    refine st_getF (q := 14) fl_X6_21 fk_6_4 rfl dX6_waysToPlank_78 sh_10 ?_
    refine st_iconst (v := 0) dX6_waysToPlank_81 (by decide) ?_
    refine st_sipush (v := 256) dX6_waysToPlank_82 (by decide) ?_
    refine st_copy (L := [.ref 10, .int x1, .int x2, .int x3, .int x4, .int x5]) dX6_waysToPlank_85 al_X6_87 ac_native ac_static ac_init sh_15 sh_14 (by decide) (by decide) (by decide) (by decide) (by decide) (by omega) rfl (fun h1 eh1 => ?_)
    replace w := w h1 eh1
    refine st_iinc (L' := [.ref 10, .int x1, .int x2, .int x3, .int (x4 + 1), .int x5]) dX6_waysToPlank_88 rfl rfl (by decide) rfl ?_
    refine st_goto (tgt := 22) dX6_waysToPlank_91 (by decide) ?_
    exact w
  · replace w := w.2 c
    refine st_iload dX6_waysToPlank_47 rfl ?_
    refine st_sipush (v := 256) dX6_waysToPlank_49 (by decide) ?_
    refine st_icmp_ge (tgt := 72) dX6_waysToPlank_52 (by decide) (fun c => ?_) (fun c => ?_)
    · replace w := w.1 c
      refine st_aload_n dX6_waysToPlank_72 rfl ?_
      refine st_getF (q := 15) fl_X6_24 fk_6_5 rfl dX6_waysToPlank_73 sh_10 ?_
      refine st_iconst (v := 0) dX6_waysToPlank_76 (by decide) ?_
      refine st_aload_n dX6_waysToPlank_77 rfl ?_
      refine st_getF (q := 14) fl_X6_21 fk_6_4 rfl dX6_waysToPlank_78 sh_10 ?_
      refine st_iconst (v := 0) dX6_waysToPlank_81 (by decide) ?_
      refine st_sipush (v := 256) dX6_waysToPlank_82 (by decide) ?_
      refine st_copy (L := [.ref 10, .int x1, .int x2, .int x3, .int x4, .int x5]) dX6_waysToPlank_85 al_X6_87 ac_native ac_static ac_init sh_15 sh_14 (by decide) (by decide) (by decide) (by decide) (by decide) (by omega) rfl (fun h2 eh2 => ?_)
      replace w := w h2 eh2
      refine st_iinc (L' := [.ref 10, .int x1, .int x2, .int x3, .int (x4 + 1), .int x5]) dX6_waysToPlank_88 rfl rfl (by decide) rfl ?_
      refine st_goto (tgt := 22) dX6_waysToPlank_91 (by decide) ?_
      exact w
    · replace w := w.2 c
      refine st_aload_n dX6_waysToPlank_55 rfl ?_
      refine st_iload dX6_waysToPlank_56 rfl ?_
      refine st_iload dX6_waysToPlank_58 rfl ?_
      refine st_iload_n dX6_waysToPlank_60 rfl ?_
      have hc3 := w.1
      replace w := w.2
      refine st_irem dX6_waysToPlank_61 hc3 ?_
      refine st_iload_n dX6_waysToPlank_62 rfl ?_
      refine st_callV (M' := mX6_layOne) [.int x5, .int (am_rem x4 x1), .int x1] [] dX6_waysToPlank_63 ml_X6_83 mf_X6_layOne mv_X6_layOne sh_10 rfl rfl rfl w (fun r4 h5 w => ?_)
      show Ru mX6_waysToPlank none d 66 [.ref 10, .int x1, .int x2, .int x3, .int x4, .int x5] [] h5 Z
      refine st_iinc (L' := [.ref 10, .int x1, .int x2, .int x3, .int x4, .int (x5 + 1)]) dX6_waysToPlank_66 rfl rfl (by decide) rfl ?_
      refine st_goto (tgt := 41) dX6_waysToPlank_69 (by decide) ?_
      exact w
set_option maxRecDepth 20000 in
set_option maxHeartbeats 2000000 in
theorem sX10_planked_0 {d : Nat} {h : am_H} {Z : Int32 → am_H → Prop} {x1 : Int32} {x2 : Int32} (hd : 2 ≤ d) (w : (¬ ((1 : Int32) ≤ x1 ∧ x1 ≤ (8 : Int32)) → Z (-1) h) ∧ ((1 : Int32) ≤ x1 ∧ x1 ≤ (8 : Int32) → ((1 : Int32) ≤ x2 ∧ x2 ≤ (8 : Int32) → am_cl mX6_waysToPlank d [.ref 10, .int x1, .int x2] h (fun r1 h2 => Z r1 h2)) ∧ (¬ ((1 : Int32) ≤ x2 ∧ x2 ≤ (8 : Int32)) → Z (-1) h))) : Ru mX10_planked none d 0 [.ref 0, .int x1, .int x2] [] h Z := by
  refine st_iload_n dX10_planked_0 rfl ?_
  refine st_iconst (v := 1) dX10_planked_1 (by decide) ?_
  refine st_bipush (v := 8) dX10_planked_2 (by decide) ?_
  refine st_callS (M' := mX10_isFromTo) [.int x1, .int 1, .int 8] [] dX10_planked_4 ml_X10_135 mf_X10_isFromTo ms_X10_isFromTo rfl rfl rfl (K := fun r h' => (am_b ((1 : Int32) ≤ x1 ∧ x1 ≤ (8 : Int32))) = r ∧ h = h') ⟨1, by omega, iX10_isFromTo ⟨rfl, rfl⟩⟩ (fun r1 h1 w1 => ?_)
  obtain ⟨rfl, rfl⟩ := w1
  show Ru mX10_planked none d 7 [.ref 0, .int x1, .int x2] [.int (am_b ((1 : Int32) ≤ x1 ∧ x1 ≤ (8 : Int32)))] h Z
  refine st_ifb_eq (tgt := 20) dX10_planked_7 (by decide) (fun c => ?_) (fun c => ?_)
  · replace w := w.1 c
    refine st_iconst (v := (-1)) dX10_planked_20 (by decide) ?_
    exact st_ireturn rfl rfl dX10_planked_21 w
  · replace w := w.2 c
    refine st_iload_n dX10_planked_10 rfl ?_
    refine st_iconst (v := 1) dX10_planked_11 (by decide) ?_
    refine st_bipush (v := 8) dX10_planked_12 (by decide) ?_
    refine st_callS (M' := mX10_isFromTo) [.int x2, .int 1, .int 8] [] dX10_planked_14 ml_X10_135 mf_X10_isFromTo ms_X10_isFromTo rfl rfl rfl (K := fun r h' => (am_b ((1 : Int32) ≤ x2 ∧ x2 ≤ (8 : Int32))) = r ∧ h = h') ⟨1, by omega, iX10_isFromTo ⟨rfl, rfl⟩⟩ (fun r1 h1 w1 => ?_)
    obtain ⟨rfl, rfl⟩ := w1
    show Ru mX10_planked none d 17 [.ref 0, .int x1, .int x2] [.int (am_b ((1 : Int32) ≤ x2 ∧ x2 ≤ (8 : Int32)))] h Z
    refine st_ifb_ne (tgt := 22) dX10_planked_17 (by decide) (fun c => ?_) (fun c => ?_)
    · replace w := w.1 c
      refine st_aload_n dX10_planked_22 rfl ?_
      refine st_getF (q := 10) fl_X10_51 fk_10_6 rfl dX10_planked_23 sh_0 ?_
      refine st_iload_n dX10_planked_26 rfl ?_
      refine st_iload_n dX10_planked_27 rfl ?_
      refine st_callV (M' := mX6_waysToPlank) [.int x1, .int x2] [] dX10_planked_28 ml_X10_243 mf_X6_waysToPlank mv_X6_waysToPlank sh_10 rfl rfl rfl w (fun r1 h2 w => ?_)
      show Ru mX10_planked none d 31 [.ref 0, .int x1, .int x2] [.int r1] h2 Z
      exact st_ireturn rfl rfl dX10_planked_31 w
    · replace w := w.2 c
      refine st_iconst (v := (-1)) dX10_planked_20 (by decide) ?_
      exact st_ireturn rfl rfl dX10_planked_21 w
set_option maxRecDepth 20000 in
set_option maxHeartbeats 2000000 in
theorem sX11_laysSquare_0 {d : Nat} {h : am_H} {Z : Int32 → am_H → Prop} {x1 : Int32} {x2 : Int32} (w : Ru mX11_laysSquare none d 7 [.ref 73, .int x1, .int x2, .int (1 <<< (x2 &&& 31)), .int 0, .null, .null, .null] [] h Z) : Ru mX11_laysSquare none d 0 [.ref 73, .int x1, .int x2, .null, .null, .null, .null, .null] [] h Z := by
  refine st_iconst (v := 1) dX11_laysSquare_0 (by decide) ?_
  refine st_iload_n dX11_laysSquare_1 rfl ?_
  refine st_ishl dX11_laysSquare_2 ?_
  refine st_istore_n (L' := [.ref 73, .int x1, .int x2, .int (1 <<< (x2 &&& 31)), .null, .null, .null, .null]) dX11_laysSquare_3 (by decide) rfl ?_
  refine st_iconst (v := 0) dX11_laysSquare_4 (by decide) ?_
  refine st_istore (L' := [.ref 73, .int x1, .int x2, .int (1 <<< (x2 &&& 31)), .int 0, .null, .null, .null]) dX11_laysSquare_5 (by decide) rfl ?_
  exact w
set_option maxRecDepth 20000 in
set_option maxHeartbeats 2000000 in
theorem sX11_laysSquare_7 {d : Nat} {h : am_H} {Z : Int32 → am_H → Prop} {x1 : Int32} {x2 : Int32} {x3 : Int32} {x4 : Int32} {u5 : Value} {u6 : Value} {u7 : Value} (w : (x3 ≤ x4 → Ru mX11_laysSquare none d 30 [.ref 73, .int x1, .int x2, .int x3, .int 0, u5, u6, u7] [] h Z) ∧ (¬ (x3 ≤ x4) → (vp_in x4 256 ∧ (∀ h2 : am_H, h2 = am_sR h 109 (upd (h.2.2 109) x4.toNatClampNeg 0) → (Ru mX11_laysSquare none d 7 [.ref 73, .int x1, .int x2, .int x3, .int (x4 + 1), u5, u6, u7] [] h2 Z))))) : Ru mX11_laysSquare none d 7 [.ref 73, .int x1, .int x2, .int x3, .int x4, u5, u6, u7] [] h Z := by
  refine st_iload dX11_laysSquare_7 rfl ?_
  refine st_iload_n dX11_laysSquare_9 rfl ?_
  refine st_icmp_ge (tgt := 27) dX11_laysSquare_10 (by decide) (fun c => ?_) (fun c => ?_)
  · replace w := w.1 c
    refine st_iconst (v := 0) dX11_laysSquare_27 (by decide) ?_
    refine st_istore (L' := [.ref 73, .int x1, .int x2, .int x3, .int 0, u5, u6, u7]) dX11_laysSquare_28 (by decide) rfl ?_
    exact w
  · replace w := w.2 c
    refine st_aload_n dX11_laysSquare_13 rfl ?_
    refine st_getF (q := 109) fl_X11_116 fk_11_57 rfl dX11_laysSquare_14 sh_73 ?_
    refine st_iload dX11_laysSquare_17 rfl ?_
    refine st_iconst (v := 0) dX11_laysSquare_19 (by decide) ?_
    have hc1 := w.1
    replace w := w.2
    refine st_iast dX11_laysSquare_20 sh_109 hc1 (fun h2 eh2 => ?_)
    replace w := w h2 eh2
    refine st_iinc (L' := [.ref 73, .int x1, .int x2, .int x3, .int (x4 + 1), u5, u6, u7]) dX11_laysSquare_21 rfl rfl (by decide) rfl ?_
    refine st_goto (tgt := 7) dX11_laysSquare_24 (by decide) ?_
    exact w
set_option maxRecDepth 20000 in
set_option maxHeartbeats 2000000 in
theorem sX11_laysSquare_30 {d : Nat} {h : am_H} {Z : Int32 → am_H → Prop} {x1 : Int32} {x2 : Int32} {x3 : Int32} {x4 : Int32} {u5 : Value} {u6 : Value} {u7 : Value} (hd : 2 ≤ d) (w : (x3 ≤ x4 → Z 0 h) ∧ (¬ (x3 ≤ x4) → (vp_in x4 256 ∧ ((¬ (am_has x4 x1) → (vp_in (x4 ||| (1 <<< (x1 &&& 31))) 256 ∧ (∀ h3 : am_H, h3 = am_sR h 109 (upd (h.2.2 109) (x4 ||| (1 <<< (x1 &&& 31))).toNatClampNeg ((h.2.2 109 (x4 ||| (1 <<< (x1 &&& 31))).toNatClampNeg) + (h.2.2 108 x4.toNatClampNeg))) → ((x2 ≤ (x1 + 1) → Ru mX11_laysSquare none d 30 [.ref 73, .int x1, .int x2, .int x3, .int (x4 + 1), .int (h.2.2 108 x4.toNatClampNeg), .int (x4 ||| (1 <<< (x1 &&& 31))), .int (x4 &&& ((1 <<< (x1 &&& 31)) ^^^ (-1)))] [] h3 Z) ∧ (¬ (x2 ≤ (x1 + 1)) → (am_has x4 (x1 + 1) → Ru mX11_laysSquare none d 30 [.ref 73, .int x1, .int x2, .int x3, .int (x4 + 1), .int (h.2.2 108 x4.toNatClampNeg), .int (x4 ||| (1 <<< (x1 &&& 31))), .int (x4 &&& ((1 <<< (x1 &&& 31)) ^^^ (-1)))] [] h3 Z) ∧ (¬ (am_has x4 (x1 + 1)) → (vp_in (x4 ||| (1 <<< ((x1 + 1) &&& 31))) 256 ∧ (∀ h5 : am_H, h5 = am_sR h3 109 (upd (h3.2.2 109) (x4 ||| (1 <<< ((x1 + 1) &&& 31))).toNatClampNeg ((h3.2.2 109 (x4 ||| (1 <<< ((x1 + 1) &&& 31))).toNatClampNeg) + (h.2.2 108 x4.toNatClampNeg))) → (Ru mX11_laysSquare none d 30 [.ref 73, .int x1, .int x2, .int x3, .int (x4 + 1), .int (h.2.2 108 x4.toNatClampNeg), .int (x4 ||| (1 <<< (x1 &&& 31))), .int (x4 &&& ((1 <<< (x1 &&& 31)) ^^^ (-1)))] [] h5 Z))))))))) ∧ (am_has x4 x1 → (vp_in (x4 &&& ((1 <<< (x1 &&& 31)) ^^^ (-1))) 256 ∧ (∀ h7 : am_H, h7 = am_sR h 109 (upd (h.2.2 109) (x4 &&& ((1 <<< (x1 &&& 31)) ^^^ (-1))).toNatClampNeg ((h.2.2 109 (x4 &&& ((1 <<< (x1 &&& 31)) ^^^ (-1))).toNatClampNeg) + (h.2.2 108 x4.toNatClampNeg))) → (Ru mX11_laysSquare none d 30 [.ref 73, .int x1, .int x2, .int x3, .int (x4 + 1), .int (h.2.2 108 x4.toNatClampNeg), .int (x4 ||| (1 <<< (x1 &&& 31))), .int (x4 &&& ((1 <<< (x1 &&& 31)) ^^^ (-1)))] [] h7 Z)))))))) : Ru mX11_laysSquare none d 30 [.ref 73, .int x1, .int x2, .int x3, .int x4, u5, u6, u7] [] h Z := by
  refine st_iload dX11_laysSquare_30 rfl ?_
  refine st_iload_n dX11_laysSquare_32 rfl ?_
  refine st_icmp_ge (tgt := 162) dX11_laysSquare_33 (by decide) (fun c => ?_) (fun c => ?_)
  · replace w := w.1 c
    exact st_return rfl dX11_laysSquare_162 w
  · replace w := w.2 c
    refine st_aload_n dX11_laysSquare_36 rfl ?_
    refine st_getF (q := 108) fl_X11_113 fk_11_56 rfl dX11_laysSquare_37 sh_73 ?_
    refine st_iload dX11_laysSquare_40 rfl ?_
    have hc1 := w.1
    replace w := w.2
    refine st_iald dX11_laysSquare_42 sh_108 hc1 ?_
    refine st_istore (L' := [.ref 73, .int x1, .int x2, .int x3, .int x4, .int (h.2.2 108 x4.toNatClampNeg), u6, u7]) dX11_laysSquare_43 (by decide) rfl ?_
    refine st_iload dX11_laysSquare_45 rfl ?_
    refine st_iconst (v := 1) dX11_laysSquare_47 (by decide) ?_
    refine st_iload_n dX11_laysSquare_48 rfl ?_
    refine st_ishl dX11_laysSquare_49 ?_
    refine st_ior dX11_laysSquare_50 ?_
    refine st_istore (L' := [.ref 73, .int x1, .int x2, .int x3, .int x4, .int (h.2.2 108 x4.toNatClampNeg), .int (x4 ||| (1 <<< (x1 &&& 31))), u7]) dX11_laysSquare_51 (by decide) rfl ?_
    refine st_iload dX11_laysSquare_53 rfl ?_
    refine st_iconst (v := 1) dX11_laysSquare_55 (by decide) ?_
    refine st_iload_n dX11_laysSquare_56 rfl ?_
    refine st_ishl dX11_laysSquare_57 ?_
    refine st_iconst (v := (-1)) dX11_laysSquare_58 (by decide) ?_
    refine st_ixor dX11_laysSquare_59 ?_
    refine st_iand dX11_laysSquare_60 ?_
    refine st_istore (L' := [.ref 73, .int x1, .int x2, .int x3, .int x4, .int (h.2.2 108 x4.toNatClampNeg), .int (x4 ||| (1 <<< (x1 &&& 31))), .int (x4 &&& ((1 <<< (x1 &&& 31)) ^^^ (-1)))]) dX11_laysSquare_61 (by decide) rfl ?_
    refine st_iload dX11_laysSquare_63 rfl ?_
    refine st_iload_n dX11_laysSquare_65 rfl ?_
    refine st_callS (M' := mX11_has) [.int x4, .int x1] [] dX11_laysSquare_66 ml_X11_133 mf_X11_has ms_X11_has rfl rfl rfl (K := fun r h' => (am_b (am_has x4 x1)) = r ∧ h = h') ⟨1, by omega, iX11_has ⟨rfl, rfl⟩⟩ (fun r1 h1 w1 => ?_)
    obtain ⟨rfl, rfl⟩ := w1
    show Ru mX11_laysSquare none d 69 [.ref 73, .int x1, .int x2, .int x3, .int x4, .int (h.2.2 108 x4.toNatClampNeg), .int (x4 ||| (1 <<< (x1 &&& 31))), .int (x4 &&& ((1 <<< (x1 &&& 31)) ^^^ (-1)))] [.int (am_b (am_has x4 x1))] h Z
    refine st_ifb_eq (tgt := 92) dX11_laysSquare_69 (by decide) (fun c => ?_) (fun c => ?_)
    · replace w := w.1 c
      refine st_aload_n dX11_laysSquare_92 rfl ?_
      refine st_getF (q := 109) fl_X11_116 fk_11_57 rfl dX11_laysSquare_93 sh_73 ?_
      refine st_iload dX11_laysSquare_96 rfl ?_
      refine st_aload_n dX11_laysSquare_98 rfl ?_
      refine st_getF (q := 109) fl_X11_116 fk_11_57 rfl dX11_laysSquare_99 sh_73 ?_
      refine st_iload dX11_laysSquare_102 rfl ?_
      have hc2 := w.1
      replace w := w.2
      refine st_iald dX11_laysSquare_104 sh_109 hc2 ?_
      refine st_iload dX11_laysSquare_105 rfl ?_
      refine st_iadd dX11_laysSquare_107 ?_
      refine st_iast dX11_laysSquare_108 sh_109 hc2 (fun h3 eh3 => ?_)
      replace w := w h3 eh3
      refine st_iload_n dX11_laysSquare_109 rfl ?_
      refine st_iconst (v := 1) dX11_laysSquare_110 (by decide) ?_
      refine st_iadd dX11_laysSquare_111 ?_
      refine st_iload_n dX11_laysSquare_112 rfl ?_
      refine st_icmp_ge (tgt := 156) dX11_laysSquare_113 (by decide) (fun c => ?_) (fun c => ?_)
      · replace w := w.1 c
        refine st_iinc (L' := [.ref 73, .int x1, .int x2, .int x3, .int (x4 + 1), .int (h.2.2 108 x4.toNatClampNeg), .int (x4 ||| (1 <<< (x1 &&& 31))), .int (x4 &&& ((1 <<< (x1 &&& 31)) ^^^ (-1)))]) dX11_laysSquare_156 rfl rfl (by decide) rfl ?_
        refine st_goto (tgt := 30) dX11_laysSquare_159 (by decide) ?_
        exact w
      · replace w := w.2 c
        refine st_iload dX11_laysSquare_116 rfl ?_
        refine st_iload_n dX11_laysSquare_118 rfl ?_
        refine st_iconst (v := 1) dX11_laysSquare_119 (by decide) ?_
        refine st_iadd dX11_laysSquare_120 ?_
        refine st_callS (M' := mX11_has) [.int x4, .int (x1 + 1)] [] dX11_laysSquare_121 ml_X11_133 mf_X11_has ms_X11_has rfl rfl rfl (K := fun r h' => (am_b (am_has x4 (x1 + 1))) = r ∧ h3 = h') ⟨1, by omega, iX11_has ⟨rfl, rfl⟩⟩ (fun r1 h1 w1 => ?_)
        obtain ⟨rfl, rfl⟩ := w1
        show Ru mX11_laysSquare none d 124 [.ref 73, .int x1, .int x2, .int x3, .int x4, .int (h.2.2 108 x4.toNatClampNeg), .int (x4 ||| (1 <<< (x1 &&& 31))), .int (x4 &&& ((1 <<< (x1 &&& 31)) ^^^ (-1)))] [.int (am_b (am_has x4 (x1 + 1)))] h3 Z
        refine st_ifb_ne (tgt := 156) dX11_laysSquare_124 (by decide) (fun c => ?_) (fun c => ?_)
        · replace w := w.1 c
          refine st_iinc (L' := [.ref 73, .int x1, .int x2, .int x3, .int (x4 + 1), .int (h.2.2 108 x4.toNatClampNeg), .int (x4 ||| (1 <<< (x1 &&& 31))), .int (x4 &&& ((1 <<< (x1 &&& 31)) ^^^ (-1)))]) dX11_laysSquare_156 rfl rfl (by decide) rfl ?_
          refine st_goto (tgt := 30) dX11_laysSquare_159 (by decide) ?_
          exact w
        · replace w := w.2 c
          refine st_aload_n dX11_laysSquare_127 rfl ?_
          refine st_getF (q := 109) fl_X11_116 fk_11_57 rfl dX11_laysSquare_128 sh_73 ?_
          refine st_iload dX11_laysSquare_131 rfl ?_
          refine st_iconst (v := 1) dX11_laysSquare_133 (by decide) ?_
          refine st_iload_n dX11_laysSquare_134 rfl ?_
          refine st_iconst (v := 1) dX11_laysSquare_135 (by decide) ?_
          refine st_iadd dX11_laysSquare_136 ?_
          refine st_ishl dX11_laysSquare_137 ?_
          refine st_ior dX11_laysSquare_138 ?_
          refine st_aload_n dX11_laysSquare_139 rfl ?_
          refine st_getF (q := 109) fl_X11_116 fk_11_57 rfl dX11_laysSquare_140 sh_73 ?_
          refine st_iload dX11_laysSquare_143 rfl ?_
          refine st_iconst (v := 1) dX11_laysSquare_145 (by decide) ?_
          refine st_iload_n dX11_laysSquare_146 rfl ?_
          refine st_iconst (v := 1) dX11_laysSquare_147 (by decide) ?_
          refine st_iadd dX11_laysSquare_148 ?_
          refine st_ishl dX11_laysSquare_149 ?_
          refine st_ior dX11_laysSquare_150 ?_
          have hc4 := w.1
          replace w := w.2
          refine st_iald dX11_laysSquare_151 sh_109 hc4 ?_
          refine st_iload dX11_laysSquare_152 rfl ?_
          refine st_iadd dX11_laysSquare_154 ?_
          refine st_iast dX11_laysSquare_155 sh_109 hc4 (fun h5 eh5 => ?_)
          replace w := w h5 eh5
          refine st_iinc (L' := [.ref 73, .int x1, .int x2, .int x3, .int (x4 + 1), .int (h.2.2 108 x4.toNatClampNeg), .int (x4 ||| (1 <<< (x1 &&& 31))), .int (x4 &&& ((1 <<< (x1 &&& 31)) ^^^ (-1)))]) dX11_laysSquare_156 rfl rfl (by decide) rfl ?_
          refine st_goto (tgt := 30) dX11_laysSquare_159 (by decide) ?_
          exact w
    · replace w := w.2 c
      refine st_aload_n dX11_laysSquare_72 rfl ?_
      refine st_getF (q := 109) fl_X11_116 fk_11_57 rfl dX11_laysSquare_73 sh_73 ?_
      refine st_iload dX11_laysSquare_76 rfl ?_
      refine st_aload_n dX11_laysSquare_78 rfl ?_
      refine st_getF (q := 109) fl_X11_116 fk_11_57 rfl dX11_laysSquare_79 sh_73 ?_
      refine st_iload dX11_laysSquare_82 rfl ?_
      have hc6 := w.1
      replace w := w.2
      refine st_iald dX11_laysSquare_84 sh_109 hc6 ?_
      refine st_iload dX11_laysSquare_85 rfl ?_
      refine st_iadd dX11_laysSquare_87 ?_
      refine st_iast dX11_laysSquare_88 sh_109 hc6 (fun h7 eh7 => ?_)
      replace w := w h7 eh7
      refine st_goto (tgt := 156) dX11_laysSquare_89 (by decide) ?_
      refine st_iinc (L' := [.ref 73, .int x1, .int x2, .int x3, .int (x4 + 1), .int (h.2.2 108 x4.toNatClampNeg), .int (x4 ||| (1 <<< (x1 &&& 31))), .int (x4 &&& ((1 <<< (x1 &&& 31)) ^^^ (-1)))]) dX11_laysSquare_156 rfl rfl (by decide) rfl ?_
      refine st_goto (tgt := 30) dX11_laysSquare_159 (by decide) ?_
      exact w
set_option maxRecDepth 20000 in
set_option maxHeartbeats 2000000 in
theorem sX11_planked_0 {d : Nat} {h : am_H} {Z : Int32 → am_H → Prop} {x1 : Int32} {x2 : Int32} (hd : 2 ≤ d) (w : (¬ ((1 : Int32) ≤ x1 ∧ x1 ≤ (8 : Int32)) → Z (-1) h) ∧ ((1 : Int32) ≤ x1 ∧ x1 ≤ (8 : Int32) → ((1 : Int32) ≤ x2 ∧ x2 ≤ (8 : Int32) → Ru mX11_planked none d 29 [.ref 73, .int x1, .int x2, .int (1 <<< (x1 &&& 31)), .int 0, .null] [] h Z) ∧ (¬ ((1 : Int32) ≤ x2 ∧ x2 ≤ (8 : Int32)) → Z (-1) h))) : Ru mX11_planked none d 0 [.ref 73, .int x1, .int x2, .null, .null, .null] [] h Z := by
  refine st_iload_n dX11_planked_0 rfl ?_
  refine st_iconst (v := 1) dX11_planked_1 (by decide) ?_
  refine st_bipush (v := 8) dX11_planked_2 (by decide) ?_
  refine st_callS (M' := mX11_in) [.int x1, .int 1, .int 8] [] dX11_planked_4 ml_X11_125 mf_X11_in ms_X11_in rfl rfl rfl (K := fun r h' => (am_b ((1 : Int32) ≤ x1 ∧ x1 ≤ (8 : Int32))) = r ∧ h = h') ⟨1, by omega, iX11_in ⟨rfl, rfl⟩⟩ (fun r1 h1 w1 => ?_)
  obtain ⟨rfl, rfl⟩ := w1
  show Ru mX11_planked none d 7 [.ref 73, .int x1, .int x2, .null, .null, .null] [.int (am_b ((1 : Int32) ≤ x1 ∧ x1 ≤ (8 : Int32)))] h Z
  refine st_ifb_eq (tgt := 20) dX11_planked_7 (by decide) (fun c => ?_) (fun c => ?_)
  · replace w := w.1 c
    refine st_iconst (v := (-1)) dX11_planked_20 (by decide) ?_
    exact st_ireturn rfl rfl dX11_planked_21 w
  · replace w := w.2 c
    refine st_iload_n dX11_planked_10 rfl ?_
    refine st_iconst (v := 1) dX11_planked_11 (by decide) ?_
    refine st_bipush (v := 8) dX11_planked_12 (by decide) ?_
    refine st_callS (M' := mX11_in) [.int x2, .int 1, .int 8] [] dX11_planked_14 ml_X11_125 mf_X11_in ms_X11_in rfl rfl rfl (K := fun r h' => (am_b ((1 : Int32) ≤ x2 ∧ x2 ≤ (8 : Int32))) = r ∧ h = h') ⟨1, by omega, iX11_in ⟨rfl, rfl⟩⟩ (fun r1 h1 w1 => ?_)
    obtain ⟨rfl, rfl⟩ := w1
    show Ru mX11_planked none d 17 [.ref 73, .int x1, .int x2, .null, .null, .null] [.int (am_b ((1 : Int32) ≤ x2 ∧ x2 ≤ (8 : Int32)))] h Z
    refine st_ifb_ne (tgt := 22) dX11_planked_17 (by decide) (fun c => ?_) (fun c => ?_)
    · replace w := w.1 c
      refine st_iconst (v := 1) dX11_planked_22 (by decide) ?_
      refine st_iload_n dX11_planked_23 rfl ?_
      refine st_ishl dX11_planked_24 ?_
      refine st_istore_n (L' := [.ref 73, .int x1, .int x2, .int (1 <<< (x1 &&& 31)), .null, .null]) dX11_planked_25 (by decide) rfl ?_
      refine st_iconst (v := 0) dX11_planked_26 (by decide) ?_
      refine st_istore (L' := [.ref 73, .int x1, .int x2, .int (1 <<< (x1 &&& 31)), .int 0, .null]) dX11_planked_27 (by decide) rfl ?_
      exact w
    · replace w := w.2 c
      refine st_iconst (v := (-1)) dX11_planked_20 (by decide) ?_
      exact st_ireturn rfl rfl dX11_planked_21 w
set_option maxRecDepth 20000 in
set_option maxHeartbeats 2000000 in
theorem sX11_planked_29 {d : Nat} {h : am_H} {Z : Int32 → am_H → Prop} {x1 : Int32} {x2 : Int32} {x3 : Int32} {x4 : Int32} {u5 : Value} (w : (x3 ≤ x4 → Ru mX11_planked none d 61 [.ref 73, .int x1, .int x2, .int x3, .int 0, u5] [] h Z) ∧ (¬ (x3 ≤ x4) → (¬ x4 = 0 → (vp_in x4 256 ∧ (∀ h2 : am_H, h2 = am_sR h 108 (upd (h.2.2 108) x4.toNatClampNeg 0) → (Ru mX11_planked none d 29 [.ref 73, .int x1, .int x2, .int x3, .int (x4 + 1), u5] [] h2 Z)))) ∧ (x4 = 0 → (vp_in x4 256 ∧ (∀ h4 : am_H, h4 = am_sR h 108 (upd (h.2.2 108) x4.toNatClampNeg 1) → (Ru mX11_planked none d 29 [.ref 73, .int x1, .int x2, .int x3, .int (x4 + 1), u5] [] h4 Z)))))) : Ru mX11_planked none d 29 [.ref 73, .int x1, .int x2, .int x3, .int x4, u5] [] h Z := by
  refine st_iload dX11_planked_29 rfl ?_
  refine st_iload_n dX11_planked_31 rfl ?_
  refine st_icmp_ge (tgt := 58) dX11_planked_32 (by decide) (fun c => ?_) (fun c => ?_)
  · replace w := w.1 c
    refine st_iconst (v := 0) dX11_planked_58 (by decide) ?_
    refine st_istore (L' := [.ref 73, .int x1, .int x2, .int x3, .int 0, u5]) dX11_planked_59 (by decide) rfl ?_
    exact w
  · replace w := w.2 c
    refine st_aload_n dX11_planked_35 rfl ?_
    refine st_getF (q := 108) fl_X11_113 fk_11_56 rfl dX11_planked_36 sh_73 ?_
    refine st_iload dX11_planked_39 rfl ?_
    refine st_iload dX11_planked_41 rfl ?_
    refine st_if_ne (tgt := 50) dX11_planked_43 (by decide) (fun c => ?_) (fun c => ?_)
    · replace w := w.1 c
      refine st_iconst (v := 0) dX11_planked_50 (by decide) ?_
      have hc1 := w.1
      replace w := w.2
      refine st_iast dX11_planked_51 sh_108 hc1 (fun h2 eh2 => ?_)
      replace w := w h2 eh2
      refine st_iinc (L' := [.ref 73, .int x1, .int x2, .int x3, .int (x4 + 1), u5]) dX11_planked_52 rfl rfl (by decide) rfl ?_
      refine st_goto (tgt := 29) dX11_planked_55 (by decide) ?_
      exact w
    · replace w := w.2 c
      refine st_iconst (v := 1) dX11_planked_46 (by decide) ?_
      refine st_goto (tgt := 51) dX11_planked_47 (by decide) ?_
      have hc3 := w.1
      replace w := w.2
      refine st_iast dX11_planked_51 sh_108 hc3 (fun h4 eh4 => ?_)
      replace w := w h4 eh4
      refine st_iinc (L' := [.ref 73, .int x1, .int x2, .int x3, .int (x4 + 1), u5]) dX11_planked_52 rfl rfl (by decide) rfl ?_
      refine st_goto (tgt := 29) dX11_planked_55 (by decide) ?_
      exact w
set_option maxRecDepth 20000 in
set_option maxHeartbeats 2000000 in
theorem sX11_planked_61 {d : Nat} {h : am_H} {Z : Int32 → am_H → Prop} {x1 : Int32} {x2 : Int32} {x3 : Int32} {x4 : Int32} {u5 : Value} (w : ((x1 * x2) ≤ x4 → Z (h.2.2 108 0) h) ∧ (¬ ((x1 * x2) ≤ x4) → (¬ x1 = 0 ∧ (am_cl mX11_laysSquare d [.ref 73, .int (am_rem x4 x1), .int x1] h (fun r2 h3 => Ru mX11_planked none d 81 [.ref 73, .int x1, .int x2, .int x3, .int x4, .int 0] [] h3 Z))))) : Ru mX11_planked none d 61 [.ref 73, .int x1, .int x2, .int x3, .int x4, u5] [] h Z := by
  refine st_iload dX11_planked_61 rfl ?_
  refine st_iload_n dX11_planked_63 rfl ?_
  refine st_iload_n dX11_planked_64 rfl ?_
  refine st_imul dX11_planked_65 ?_
  refine st_icmp_ge (tgt := 113) dX11_planked_66 (by decide) (fun c => ?_) (fun c => ?_)
  · replace w := w.1 c
    refine st_aload_n dX11_planked_113 rfl ?_
    refine st_getF (q := 108) fl_X11_113 fk_11_56 rfl dX11_planked_114 sh_73 ?_
    refine st_iconst (v := 0) dX11_planked_117 (by decide) ?_
    refine st_iald dX11_planked_118 sh_108 (by unfold vp_in; decide +kernel) ?_
    show Ru mX11_planked none d 119 [.ref 73, .int x1, .int x2, .int x3, .int x4, u5] [.int (h.2.2 108 0)] h Z
    exact st_ireturn rfl rfl dX11_planked_119 w
  · replace w := w.2 c
    refine st_aload_n dX11_planked_69 rfl ?_
    refine st_iload dX11_planked_70 rfl ?_
    refine st_iload_n dX11_planked_72 rfl ?_
    have hc1 := w.1
    replace w := w.2
    refine st_irem dX11_planked_73 hc1 ?_
    refine st_iload_n dX11_planked_74 rfl ?_
    refine st_callV (M' := mX11_laysSquare) [.int (am_rem x4 x1), .int x1] [] dX11_planked_75 ml_X11_403 mf_X11_laysSquare mv_X11_laysSquare sh_73 rfl rfl rfl w (fun r2 h3 w => ?_)
    show Ru mX11_planked none d 78 [.ref 73, .int x1, .int x2, .int x3, .int x4, u5] [] h3 Z
    refine st_iconst (v := 0) dX11_planked_78 (by decide) ?_
    refine st_istore (L' := [.ref 73, .int x1, .int x2, .int x3, .int x4, .int 0]) dX11_planked_79 (by decide) rfl ?_
    exact w
set_option maxRecDepth 20000 in
set_option maxHeartbeats 2000000 in
theorem sX11_planked_81 {d : Nat} {h : am_H} {Z : Int32 → am_H → Prop} {x1 : Int32} {x2 : Int32} {x3 : Int32} {x4 : Int32} {x5 : Int32} (w : (x3 ≤ x5 → Ru mX11_planked none d 61 [.ref 73, .int x1, .int x2, .int x3, .int (x4 + 1), .int x5] [] h Z) ∧ (¬ (x3 ≤ x5) → (vp_in x5 256 ∧ (∀ h2 : am_H, h2 = am_sR h 108 (upd (h.2.2 108) x5.toNatClampNeg (h.2.2 109 x5.toNatClampNeg)) → (Ru mX11_planked none d 81 [.ref 73, .int x1, .int x2, .int x3, .int x4, .int (x5 + 1)] [] h2 Z))))) : Ru mX11_planked none d 81 [.ref 73, .int x1, .int x2, .int x3, .int x4, .int x5] [] h Z := by
  refine st_iload dX11_planked_81 rfl ?_
  refine st_iload_n dX11_planked_83 rfl ?_
  refine st_icmp_ge (tgt := 107) dX11_planked_84 (by decide) (fun c => ?_) (fun c => ?_)
  · replace w := w.1 c
    refine st_iinc (L' := [.ref 73, .int x1, .int x2, .int x3, .int (x4 + 1), .int x5]) dX11_planked_107 rfl rfl (by decide) rfl ?_
    refine st_goto (tgt := 61) dX11_planked_110 (by decide) ?_
    exact w
  · replace w := w.2 c
    refine st_aload_n dX11_planked_87 rfl ?_
    refine st_getF (q := 108) fl_X11_113 fk_11_56 rfl dX11_planked_88 sh_73 ?_
    refine st_iload dX11_planked_91 rfl ?_
    refine st_aload_n dX11_planked_93 rfl ?_
    refine st_getF (q := 109) fl_X11_116 fk_11_57 rfl dX11_planked_94 sh_73 ?_
    refine st_iload dX11_planked_97 rfl ?_
    have hc1 := w.1
    replace w := w.2
    refine st_iald dX11_planked_99 sh_109 hc1 ?_
    refine st_iast dX11_planked_100 sh_108 hc1 (fun h2 eh2 => ?_)
    replace w := w h2 eh2
    refine st_iinc (L' := [.ref 73, .int x1, .int x2, .int x3, .int x4, .int (x5 + 1)]) dX11_planked_101 rfl rfl (by decide) rfl ?_
    refine st_goto (tgt := 81) dX11_planked_104 (by decide) ?_
    exact w
def pl_st (c w : Nat) (f : Nat → Int32) (p : Nat) (g : Nat → Int32) : Nat → Int32 :=
  if p.testBit c then upd g (p ^^^ 2 ^ c) (g (p ^^^ 2 ^ c) + f p)
  else if c + 1 < w ∧ p.testBit (c + 1) = false then upd (upd g (p ||| 2 ^ c) (g (p ||| 2 ^ c) + f p)) (p ||| 2 ^ (c + 1)) (upd g (p ||| 2 ^ c) (g (p ||| 2 ^ c) + f p) (p ||| 2 ^ (c + 1)) + f p)
  else upd g (p ||| 2 ^ c) (g (p ||| 2 ^ c) + f p)
def pl_sq (c w : Nat) (f g : Nat → Int32) : Nat → Int32 := am_fd (pl_st c w f) 0 (2 ^ w) g
theorem pl_w {c w : Nat} (hc : c < w) : 2 ^ c < 2 ^ w := Nat.pow_lt_pow_right (by decide) hc
theorem pl_8 {w : Nat} (hw : w ≤ 8) : 2 ^ w ≤ 256 := Nat.pow_le_pow_right (n := 2) (by decide) hw
theorem pl_or {p c w : Nat} (hp : p < 2 ^ w) (hc : c < w) : p ||| 2 ^ c < 2 ^ w := Nat.or_lt_two_pow hp (pl_w hc)
theorem pl_xor {p c w : Nat} (hp : p < 2 ^ w) (hc : c < w) : p ^^^ 2 ^ c < 2 ^ w := Nat.xor_lt_two_pow hp (pl_w hc)
theorem pl_not : ∀ c, c < 8 → ∀ p, p < 256 → p.testBit c = true → nI p &&& (nI (2 ^ c) ^^^ (-1)) = nI (p ^^^ 2 ^ c) := by decide +kernel
section
variable {d : Nat} {h : am_H} {Z : Int32 → am_H → Prop} {w : Nat}
theorem iX6_layOne {p c : Nat} {f g : Nat → Int32} (hw : w ≤ 8) (hc : c < w) (hp : p < 2 ^ w) (z : Z 0 (am_sR (am_sR h 14 f) 15 (pl_st c w f p g))) : Sp mX6_layOne d [.ref 10, .int (nI p), .int (nI c), .int (nI w)] (am_sR (am_sR h 14 f) 15 g) Z := by
  have h8 := pl_8 hw
  have hp1 := pl_or hp hc
  have hp2 := pl_xor hp hc
  have g14 : ∀ k x, (am_sR (am_sR h 14 f) 15 k).2.2 14 x = f x := fun k x => by rw [am_gR, if_neg (by decide), am_gRs]
  refine Sp_of mf_X6_layOne rfl (Nat.le_of_ble_eq_true rfl) rfl (sX6_layOne_0 ?_)
  have key : ∀ s0 : Int32, (s0 = 0 ∧ ¬ c + 1 < w) ∨ (s0 = nI (2 ^ (c + 1)) ∧ c + 1 < w) → Ru mX6_layOne none d 20 [.ref 10, .int (nI p), .int (nI c), .int (nI w), .int (nI (2 ^ c)), .null] [.int s0] (am_sR (am_sR h 14 f) 15 g) Z := by
    intro s0 hs
    refine sX6_layOne_20 ?_
    simp only [fa_or, fb_xorI, am_and2 (show c < 31 by omega), nI_clamp (show p ||| 2 ^ c < 2 ^ 31 by omega), nI_clamp (show p ^^^ 2 ^ c < 2 ^ 31 by omega), nI_clamp (show p < 2 ^ 31 by omega), am_gRs, g14, am_sR_2]
    unfold pl_st at z
    refine ⟨fun q => ⟨vp_in_nI (by omega) (by omega), vp_in_nI (by omega) (by omega), fun h3 e3 => ?_⟩, fun q => ⟨vp_in_nI (by omega) (by omega), vp_in_nI (by omega) (by omega), fun h8' e8 => ?_⟩⟩
    · subst e3
      rw [if_neg (by rw [q]; decide)] at z
      rcases hs with ⟨rfl, hs⟩ | ⟨rfl, hs⟩
      · refine ⟨fun _ => ?_, fun q2 => absurd rfl q2⟩
        rw [if_neg (fun e => hs e.1)] at z
        exact z
      · have hp3 := pl_or (c := c + 1) hp hs
        have h9 := pl_w hs
        refine ⟨fun q2 => absurd q2 (nI_ne0 (Nat.two_pow_pos _) (by omega)), fun _ => ?_⟩
        rw [fa_or, am_and2 (by omega), nI_clamp (by omega)]
        refine ⟨fun q3 => ?_, fun q3 => ⟨vp_in_nI (by omega) (by omega), fun h5 e5 => ?_⟩⟩
        · rw [if_neg (fun e => q3 e.2)] at z
          exact z
        · rw [if_pos ⟨hs, q3⟩] at z
          rw [am_gRs, g14, am_sR_2] at e5
          rw [e5]
          exact z
    · subst e8
      rw [if_pos (by simpa using q)] at z
      exact z
  rw [am_shl1 (by omega), nI_1]
  refine ⟨fun q => key 0 (Or.inl ⟨rfl, ?_⟩), fun q => key _ (Or.inr ⟨?_, ?_⟩)⟩
  · have := (nI_leI (by omega) (by omega)).mp q; omega
  · have h9 := pl_w hc
    have : nI (2 ^ c) <<< ((1 : Int32) &&& 31) = nI (2 ^ c * 2 ^ 1) := pk_shlN _ 1 (by decide) (by omega)
    rw [this, ← Nat.pow_add]
  · rcases Nat.lt_or_ge (c + 1) w with g | g
    · exact g
    · exact absurd (nI_le g (by omega)) q
theorem pl_xp {f : Nat → Int32} {al sq : Nat} (hd : 3 ≤ d) (hw : w ≤ 8) (hw0 : 0 < w) (hq : sq < 64) : ∀ (m p : Nat) (g : Nat → Int32), p + m = 2 ^ w →
    (∀ u, Ru mX6_waysToPlank none d 22 [.ref 10, .int (nI w), .int (nI al), .int (nI (2 ^ w)), .int (nI (sq + 1)), u] [] (am_sR (am_sR h 14 (va_cpy (am_fd (pl_st (sq % w) w f) p m g) f 0 0 256)) 15 (am_fd (pl_st (sq % w) w f) p m g)) Z) → Ru mX6_waysToPlank none d 41 [.ref 10, .int (nI w), .int (nI al), .int (nI (2 ^ w)), .int (nI sq), .int (nI p)] [] (am_sR (am_sR h 14 f) 15 g) Z
  | 0, p, g, hp, z => by
    have h8 := pl_8 hw
    refine sX6_waysToPlank_41 (by omega) ⟨fun _ h1 e1 => ?_, fun q => absurd (nI_le (by omega) (by omega)) q⟩
    rw [am_gRs, show (am_sR (am_sR h 14 f) 15 g).2.2 14 = f by rw [am_gR, if_neg (by decide), am_gRs], am_sR_cm _ _ _ (show 15 ≠ 14 by decide), am_sR_2] at e1
    subst e1
    rw [nI_1]
    exact z _
  | m + 1, p, g, hp, z => by
    have h8 := pl_8 hw
    refine sX6_waysToPlank_41 (by omega) ⟨fun q => absurd q (nI_ge (by omega) (by omega)), fun _ => ⟨fun q => absurd q (nI_ge (b := 256) (by omega) (by omega)), fun _ => ⟨nI_ne0 hw0 (by omega), ⟨2, by omega, ?_⟩⟩⟩⟩
    rw [am_rem_n (by omega) hw0 (by omega)]
    refine iX6_layOne hw (Nat.mod_lt _ hw0) (by omega) ?_
    rw [nI_1]
    exact pl_xp hd hw hw0 hq m (p + 1) _ (by omega) z
def pl_x (w sq : Nat) (s : (Nat → Int32) × (Nat → Int32)) : (Nat → Int32) × (Nat → Int32) := (va_cpy (pl_sq (sq % w) w s.1 (am_fill s.2 256 0)) s.1 0 0 256, pl_sq (sq % w) w s.1 (am_fill s.2 256 0))
theorem pl_xs {al : Nat} (hd : 3 ≤ d) (hw : w ≤ 8) (hw0 : 0 < w) (ha : al ≤ 8) : ∀ (m sq : Nat) (s : (Nat → Int32) × (Nat → Int32)) (u : Value), sq + m = w * al → (∀ f g, Z ((am_fd (pl_x w) sq m s).1 0) (am_sR (am_sR h 14 f) 15 g)) → Ru mX6_waysToPlank none d 22 [.ref 10, .int (nI w), .int (nI al), .int (nI (2 ^ w)), .int (nI sq), u] [] (am_sR (am_sR h 14 s.1) 15 s.2) Z
  | 0, sq, s, u, hs, z => by
    have b : w * al ≤ 8 * 8 := Nat.mul_le_mul hw ha
    refine sX6_waysToPlank_22 (by omega) ⟨fun _ => ?_, fun q => absurd (by rw [pk_mul]; exact nI_le (by omega) (by omega)) q⟩
    rw [show (am_sR (am_sR h 14 s.1) 15 s.2).2.2 14 = s.1 by rw [am_gR, if_neg (by decide), am_gRs]]
    exact z _ _
  | m + 1, sq, s, u, hs, z => by
    have b : w * al ≤ 8 * 8 := Nat.mul_le_mul hw ha
    refine sX6_waysToPlank_22 (by omega) ⟨fun q => absurd q (by rw [pk_mul]; exact nI_ge (by omega) (by omega)), fun _ => ?_⟩
    rw [am_gRs, am_sR_2]
    exact pl_xp hd hw hw0 (by omega) (2 ^ w) 0 (am_fill s.2 256 0) (by omega) (fun u => pl_xs hd hw hw0 ha m (sq + 1) (pl_x w sq s) u (by omega) z)
-- the reference's
theorem pl_m1 {f : Nat → Int32} {c : Nat} (hw : w ≤ 8) {u5 u6 u7 : Value} : ∀ (m p : Nat) (g : Nat → Int32), p + m = 2 ^ w → Ru mX11_laysSquare none d 30 [.ref 73, .int (nI c), .int (nI w), .int (nI (2 ^ w)), .int 0, u5, u6, u7] [] (am_sR (am_sR h 108 f) 109 (am_fill g (2 ^ w) 0)) Z → Ru mX11_laysSquare none d 7 [.ref 73, .int (nI c), .int (nI w), .int (nI (2 ^ w)), .int (nI p), u5, u6, u7] [] (am_sR (am_sR h 108 f) 109 (am_fill g p 0)) Z
  | 0, p, g, hp, z => by
    have h8 := pl_8 hw
    have e : p = 2 ^ w := by omega
    subst e
    exact sX11_laysSquare_7 ⟨fun _ => z, fun q => absurd (Int32.le_refl _) q⟩
  | m + 1, p, g, hp, z => by
    have h8 := pl_8 hw
    refine sX11_laysSquare_7 ⟨fun q => absurd q (nI_ge (by omega) (by omega)), fun _ => ⟨vp_in_nI (by omega) (by omega), fun h2 e2 => ?_⟩⟩
    rw [nI_clamp (by omega), am_gRs, am_fill_s, am_sR_2] at e2
    subst e2
    rw [nI_1]
    exact pl_m1 hw m (p + 1) g (by omega) z
theorem pl_m2 {f : Nat → Int32} {c : Nat} (hd : 2 ≤ d) (hw : w ≤ 8) (hc : c < w) : ∀ (m p : Nat) (g : Nat → Int32) (u5 u6 u7 : Value), p + m = 2 ^ w → Z 0 (am_sR (am_sR h 108 f) 109 (am_fd (pl_st c w f) p m g)) → Ru mX11_laysSquare none d 30 [.ref 73, .int (nI c), .int (nI w), .int (nI (2 ^ w)), .int (nI p), u5, u6, u7] [] (am_sR (am_sR h 108 f) 109 g) Z
  | 0, p, g, u5, u6, u7, hp, z => by
    have h8 := pl_8 hw
    exact sX11_laysSquare_30 hd ⟨fun _ => z, fun q => absurd (nI_le (by omega) (by omega)) q⟩
  | m + 1, p, g, u5, u6, u7, hp, z => by
    have h8 := pl_8 hw
    have hp1 := pl_or (w := w) (p := p) (by omega) hc
    have hp2 := pl_xor (w := w) (p := p) (by omega) hc
    have g108 : ∀ k x, (am_sR (am_sR h 108 f) 109 k).2.2 108 x = f x := fun k x => by rw [am_gR, if_neg (by decide), am_gRs]
    have ih := fun u5 u6 u7 => pl_m2 hd hw hc m (p + 1) _ u5 u6 u7 (by omega) z
    refine sX11_laysSquare_30 hd ⟨fun q => absurd q (nI_ge (by omega) (by omega)), fun _ => ?_⟩
    simp only [nI_1, am_shl1 (show c < 32 by omega), am_shl1 (show c + 1 < 32 by omega), am_has, am_bit_n (show p < 2 ^ 31 by omega) (show c < 32 by omega), am_bit_n (show p < 2 ^ 31 by omega) (show c + 1 < 32 by omega), fa_or, nI_clamp (show p < 2 ^ 31 by omega), nI_clamp (show p ||| 2 ^ c < 2 ^ 31 by omega), am_gRs, g108, am_sR_2]
    refine ⟨vp_in_nI (by omega) (by omega), fun q => ⟨vp_in_nI (by omega) (by omega), fun h3 e3 => ?_⟩, fun q => ?_⟩
    · subst e3
      refine ⟨fun q2 => ?_, fun q2 => ⟨fun q3 => ?_, fun q3 => ?_⟩⟩
      · have n1 : ¬ c + 1 < w := by have := (nI_leI (by omega) (by omega)).mp q2; omega
        unfold pl_st at ih
        rw [if_neg q, if_neg (fun e => n1 e.1)] at ih
        exact ih _ _ _
      · unfold pl_st at ih
        rw [if_neg q, if_neg (fun e => by rw [q3] at e; cases e.2)] at ih
        exact ih _ _ _
      · have n1 : c + 1 < w := by
          rcases Nat.lt_or_ge (c + 1) w with g | g
          · exact g
          · exact absurd (nI_le g (by omega)) q2
        have hp3 := pl_or (w := w) (p := p) (c := c + 1) (by omega) n1
        refine ⟨vp_in_nI (by omega) (by omega), fun h5 e5 => ?_⟩
        rw [am_gRs, nI_clamp (by omega), am_sR_2] at e5
        subst e5
        unfold pl_st at ih
        rw [if_neg q, if_pos ⟨n1, by simpa using q3⟩] at ih
        exact ih _ _ _
    · rw [pl_not c (by omega) p (by omega) q]
      refine ⟨vp_in_nI (by omega) (by omega), fun h7 e7 => ?_⟩
      rw [nI_clamp (by omega)] at e7
      subst e7
      unfold pl_st at ih
      rw [if_pos q] at ih
      exact ih _ _ _
theorem iX11_laysSquare {f g : Nat → Int32} {c : Nat} (hd : 2 ≤ d) (hw : w ≤ 8) (hc : c < w) (z : Z 0 (am_sR (am_sR h 108 f) 109 (pl_sq c w f (am_fill g (2 ^ w) 0)))) : Sp mX11_laysSquare d [.ref 73, .int (nI c), .int (nI w)] (am_sR (am_sR h 108 f) 109 g) Z := by
  refine Sp_of mf_X11_laysSquare rfl (Nat.le_of_ble_eq_true rfl) rfl (sX11_laysSquare_0 ?_)
  rw [am_shl1 (by omega)]
  have k1 := pl_m1 (d := d) (h := h) (Z := Z) (f := f) (c := c) hw (u5 := .null) (u6 := .null) (u7 := .null) (2 ^ w) 0 g (by omega) (pl_m2 hd hw hc (2 ^ w) 0 _ _ _ _ (by omega) z)
  rw [am_fill_0] at k1
  exact k1
def pl_cp (n : Nat) (G f : Nat → Int32) : Nat → Int32 := fun i => if i < n then G i else f i
theorem pl_m3 {G f : Nat → Int32} {al x4 : Int32} (hw : w ≤ 8) : ∀ (m p : Nat), p + m = 2 ^ w → (∀ u, Ru mX11_planked none d 61 [.ref 73, .int (nI w), .int al, .int (nI (2 ^ w)), .int (x4 + 1), u] [] (am_sR (am_sR h 108 (pl_cp (2 ^ w) G f)) 109 G) Z) → Ru mX11_planked none d 81 [.ref 73, .int (nI w), .int al, .int (nI (2 ^ w)), .int x4, .int (nI p)] [] (am_sR (am_sR h 108 (pl_cp p G f)) 109 G) Z
  | 0, p, hp, z => by
    have h8 := pl_8 hw
    have e : p = 2 ^ w := by omega
    subst e
    exact sX11_planked_81 ⟨fun _ => z _, fun q => absurd (Int32.le_refl _) q⟩
  | m + 1, p, hp, z => by
    have h8 := pl_8 hw
    refine sX11_planked_81 ⟨fun q => absurd q (nI_ge (by omega) (by omega)), fun _ => ⟨vp_in_nI (by omega) (by omega), fun h2 e2 => ?_⟩⟩
    rw [am_gRs, show (am_sR (am_sR h 108 (pl_cp p G f)) 109 G).2.2 108 = pl_cp p G f by rw [am_gR, if_neg (by decide), am_gRs], nI_clamp (by omega), am_sR_cm _ _ _ (show 109 ≠ 108 by decide), am_sR_2] at e2
    have e3 : upd (pl_cp p G f) p (G p) = pl_cp (p + 1) G f := by
      funext j
      unfold upd pl_cp
      by_cases c : j = p
      · subst c; simp
      · by_cases c2 : j < p
        · simp [c, c2, show j < p + 1 by omega]
        · simp [c, c2, show ¬ j < p + 1 by omega]
    rw [e3] at e2
    subst e2
    rw [nI_1]
    exact pl_m3 hw m (p + 1) (by omega) z
def pl_m (w sq : Nat) (s : (Nat → Int32) × (Nat → Int32)) : (Nat → Int32) × (Nat → Int32) := (pl_cp (2 ^ w) (pl_sq (sq % w) w s.1 (am_fill s.2 (2 ^ w) 0)) s.1, pl_sq (sq % w) w s.1 (am_fill s.2 (2 ^ w) 0))
theorem pl_ms {al : Nat} (hd : 4 ≤ d) (hw : w ≤ 8) (hw0 : 0 < w) (ha : al ≤ 8) : ∀ (m sq : Nat) (s : (Nat → Int32) × (Nat → Int32)) (u : Value), sq + m = w * al → (∀ f g, Z ((am_fd (pl_m w) sq m s).1 0) (am_sR (am_sR h 108 f) 109 g)) → Ru mX11_planked none d 61 [.ref 73, .int (nI w), .int (nI al), .int (nI (2 ^ w)), .int (nI sq), u] [] (am_sR (am_sR h 108 s.1) 109 s.2) Z
  | 0, sq, s, u, hs, z => by
    have b : w * al ≤ 8 * 8 := Nat.mul_le_mul hw ha
    refine sX11_planked_61 ⟨fun _ => ?_, fun q => absurd (by rw [pk_mul]; exact nI_le (by omega) (by omega)) q⟩
    rw [show (am_sR (am_sR h 108 s.1) 109 s.2).2.2 108 = s.1 by rw [am_gR, if_neg (by decide), am_gRs]]
    exact z _ _
  | m + 1, sq, s, u, hs, z => by
    have b : w * al ≤ 8 * 8 := Nat.mul_le_mul hw ha
    refine sX11_planked_61 ⟨fun q => absurd q (by rw [pk_mul]; exact nI_ge (by omega) (by omega)), fun _ => ⟨nI_ne0 hw0 (by omega), ⟨3, by omega, ?_⟩⟩⟩
    rw [am_rem_n (by omega) hw0 (by omega)]
    refine iX11_laysSquare (by omega) hw (Nat.mod_lt _ hw0) ?_
    have k := pl_m3 (d := d) (h := h) (Z := Z) (w := w) (G := pl_sq (sq % w) w s.1 (am_fill s.2 (2 ^ w) 0)) (f := s.1) (al := nI al) (x4 := nI sq) hw (2 ^ w) 0 (by omega) (fun u => by rw [nI_1]; exact pl_ms hd hw hw0 ha m (sq + 1) (pl_m w sq s) u (by omega) z)
    exact k
theorem pl_m0 {al : Nat} (hw : w ≤ 8) {f : Nat → Int32} {u5 : Value} : ∀ (m p : Nat) (g : Nat → Int32), p + m = 2 ^ w → (∀ i, i < p → g i = if i = 0 then 1 else 0) → (∀ g', (∀ i, i < 2 ^ w → g' i = if i = 0 then 1 else 0) → Ru mX11_planked none d 61 [.ref 73, .int (nI w), .int (nI al), .int (nI (2 ^ w)), .int 0, u5] [] (am_sR h 108 g') Z) → Ru mX11_planked none d 29 [.ref 73, .int (nI w), .int (nI al), .int (nI (2 ^ w)), .int (nI p), u5] [] (am_sR h 108 g) Z
  | 0, p, g, hp, hg, z => by
    have h8 := pl_8 hw
    have e : p = 2 ^ w := by omega
    subst e
    exact sX11_planked_29 ⟨fun _ => z g hg, fun q => absurd (Int32.le_refl _) q⟩
  | m + 1, p, g, hp, hg, z => by
    have h8 := pl_8 hw
    have hz : nI p = 0 ↔ p = 0 := nI_eq (b := 0) (by omega) (by omega)
    have nx : ∀ v : Int32, v = (if p = 0 then 1 else 0) → ∀ i, i < p + 1 → upd g p v i = if i = 0 then 1 else 0 := fun v hv i hi => by
      unfold upd
      by_cases c : i = p
      · subst c; simp [hv]
      · simp only [c, if_false]; exact hg i (by omega)
    refine sX11_planked_29 ⟨fun q => absurd q (nI_ge (by omega) (by omega)), fun _ => ⟨fun q => ⟨vp_in_nI (by omega) (by omega), fun h2 e2 => ?_⟩, fun q => ⟨vp_in_nI (by omega) (by omega), fun h2 e2 => ?_⟩⟩⟩
    · rw [am_gRs, nI_clamp (by omega), am_sR_2] at e2
      subst e2
      rw [nI_1]
      exact pl_m0 (f := f) hw m (p + 1) _ (by omega) (nx 0 (by rw [if_neg (fun e => q (hz.mpr e))])) z
    · rw [am_gRs, nI_clamp (by omega), am_sR_2] at e2
      subst e2
      rw [nI_1]
      exact pl_m0 (f := f) hw m (p + 1) _ (by omega) (nx 1 (by rw [if_pos (hz.mp q)])) z
end
theorem pl_same {w al : Nat} (hw : w ≤ 8) (hw0 : 0 < w) (s u : (Nat → Int32) × (Nat → Int32)) (h0 : ∀ i, i < 2 ^ w → s.1 i = u.1 i) : (am_fd (pl_x w) 0 (w * al) s).1 0 = (am_fd (pl_m w) 0 (w * al) u).1 0 := by
  have h8 := pl_8 hw
  refine am_fd_rel (fun _ (s u : (Nat → Int32) × (Nat → Int32)) => ∀ i, i < 2 ^ w → s.1 i = u.1 i) (w * al) 0 s u h0 (fun sq s u _ _ hr => ?_) 0 (Nat.two_pow_pos w)
  have hc := Nat.mod_lt sq hw0
  have key : ∀ i, i < 2 ^ w → pl_sq (sq % w) w s.1 (am_fill s.2 256 0) i = pl_sq (sq % w) w u.1 (am_fill u.2 (2 ^ w) 0) i := by
    unfold pl_sq
    refine am_fd_rel (fun _ (a b : Nat → Int32) => ∀ i, i < 2 ^ w → a i = b i) (2 ^ w) 0 _ _ (fun i hi => by simp [am_fill, hi, show i < 256 by omega]) (fun p a b _ hp hab => ?_)
    have hp' : p < 2 ^ w := by omega
    have up : ∀ (a b : Nat → Int32) (k : Nat), k < 2 ^ w → (∀ i, i < 2 ^ w → a i = b i) → ∀ i, i < 2 ^ w → upd a k (a k + s.1 p) i = upd b k (b k + u.1 p) i := fun a b k hk hab i hi => by
      unfold upd
      rw [hab k hk, hr p hp', hab i hi]
    unfold pl_st
    by_cases c1 : p.testBit (sq % w) = true
    · rw [if_pos c1, if_pos c1]; exact up a b _ (pl_xor hp' hc) hab
    · rw [if_neg c1, if_neg c1]
      by_cases c2 : sq % w + 1 < w ∧ p.testBit (sq % w + 1) = false
      · rw [if_pos c2, if_pos c2]; exact up _ _ _ (pl_or hp' c2.1) (up a b _ (pl_or hp' hc) hab)
      · rw [if_neg c2, if_neg c2]; exact up a b _ (pl_or hp' hc) hab
  intro i hi
  show va_cpy _ _ 0 0 256 i = pl_cp _ _ _ i
  rw [pk_cpy_in (Nat.zero_le i) (by omega)]
  unfold pl_cp
  rw [if_pos hi, ← key i hi]
  simp
theorem pp_planked {d : Nat} {h : am_H} {K : Int32 → Int32 → am_H → Prop} {x y : Int32} (hd : 12 ≤ d) (z : ∀ r h', am_step h h' → K r r h') : am_cl mX10_planked d [.ref 0, .int x, .int y] h (fun r1 h1 => am_cl mX11_planked d [.ref 73, .int x, .int y] h1 (fun r2 h2 => K r1 r2 h2)) := by
  by_cases c1 : 1 ≤ x ∧ x ≤ 8
  · by_cases c2 : 1 ≤ y ∧ y ≤ 8
    · obtain ⟨w, hw, rfl⟩ := am_natle (N := 8) (by omega) (Int32.le_trans (by decide) c1.1) c1.2
      have hw0 : 0 < w := (nI_leI (a := 1) (by omega) (by omega)).mp c1.1
      obtain ⟨al, ha, rfl⟩ := am_natle (N := 8) (by omega) (Int32.le_trans (by decide) c2.1) c2.2
      refine ⟨10, by omega, Sp_of mf_X10_planked rfl (Nat.le_of_ble_eq_true rfl) rfl (sX10_planked_0 (by omega) ⟨fun c => absurd c1 c, fun _ => ⟨fun _ => ⟨8, by omega, Sp_of mf_X6_waysToPlank rfl (Nat.le_of_ble_eq_true rfl) rfl (sX6_waysToPlank_0 (by omega) (fun h3 e3 => ?_))⟩, fun c => absurd c2 c⟩⟩)⟩
      rw [am_gRs, am_sR_2] at e3
      have e4 : h3 = am_sR (am_sR h 14 (upd (am_fill (h.2.2 14) 256 0) 0 1)) 15 (h.2.2 15) := by
        rw [e3, am_sR_cm _ _ _ (show 14 ≠ 15 by decide), am_sR_self]
      rw [e4, am_shl1 (by omega)]
      refine pl_xs (by omega) hw hw0 ha (w * al) 0 (upd (am_fill (h.2.2 14) 256 0) 0 1, h.2.2 15) _ (by omega) (fun f g => ?_)
      refine ⟨10, by omega, Sp_of mf_X11_planked rfl (Nat.le_of_ble_eq_true rfl) rfl (sX11_planked_0 (by omega) ⟨fun c => absurd c1 c, fun _ => ⟨fun _ => ?_, fun c => absurd c2 c⟩⟩)⟩
      rw [am_shl1 (by omega)]
      generalize eh : am_sR (am_sR h 14 f) 15 g = h1
      have k := pl_m0 (d := 10) (h := h1) (Z := fun r2 h2 => K ((am_fd (pl_x w) 0 (w * al) (upd (am_fill (h.2.2 14) 256 0) 0 1, h.2.2 15)).1 0) r2 h2) (w := w) (al := al) hw (f := f) (u5 := .null) (2 ^ w) 0 (h1.2.2 108) (by omega) (fun i hi => absurd hi (Nat.not_lt_zero i)) (fun g' hg' => ?_)
      · rw [am_sR_self] at k; exact k
      have e5 : am_sR h1 108 g' = am_sR (am_sR h1 108 g') 109 (h1.2.2 109) := by
        rw [am_sR_cm _ _ _ (show 108 ≠ 109 by decide), am_sR_self]
      rw [e5]
      refine pl_ms (by omega) hw hw0 ha (w * al) 0 (g', h1.2.2 109) _ (by omega) (fun f2 g2 => ?_)
      rw [pl_same hw hw0 (upd (am_fill (h.2.2 14) 256 0) 0 1, h.2.2 15) (g', h1.2.2 109) (fun i hi => by
        have h8 := pl_8 hw
        show upd _ 0 1 i = g' i
        rw [hg' i hi]
        unfold upd
        by_cases c : i = 0
        · simp [c]
        · simp [c, am_fill, show i < 256 by omega])]
      refine z _ _ ?_
      rw [← eh]
      exact ⟨am_keep_sR (am_keep_sR (am_keep_sR (am_keep_sR (am_keep_rf h) (by decide)) (by decide)) (by decide)) (by decide), Or.inl ⟨rfl, rfl⟩⟩
    · refine ⟨10, by omega, Sp_of mf_X10_planked rfl (Nat.le_of_ble_eq_true rfl) rfl (sX10_planked_0 (by omega) ⟨fun c => absurd c1 c, fun _ => ⟨fun c => absurd c c2, fun _ => ?_⟩⟩)⟩
      exact ⟨10, by omega, Sp_of mf_X11_planked rfl (Nat.le_of_ble_eq_true rfl) rfl (sX11_planked_0 (by omega) ⟨fun c => absurd c1 c, fun _ => ⟨fun c => absurd c c2, fun _ => z _ _ (am_step_rf h)⟩⟩)⟩
  · refine ⟨10, by omega, Sp_of mf_X10_planked rfl (Nat.le_of_ble_eq_true rfl) rfl (sX10_planked_0 (by omega) ⟨fun _ => ?_, fun c => absurd c c1⟩)⟩
    exact ⟨10, by omega, Sp_of mf_X11_planked rfl (Nat.le_of_ble_eq_true rfl) rfl (sX11_planked_0 (by omega) ⟨fun _ => z _ _ (am_step_rf h), fun c => absurd c c1⟩)⟩
