-- heirs
set_option maxRecDepth 20000 in
set_option maxHeartbeats 2000000 in
theorem sX6_heirInLine_0 {d : Nat} {h : am_H} {Z : Int32 → am_H → Prop} {x1 : Int32} {x2 : Int32} (w : Ru mX6_heirInLine none d 2 [.ref 10, .int x1, .int x2, .int 1, .null, .null] [] h Z) : Ru mX6_heirInLine none d 0 [.ref 10, .int x1, .int x2, .null, .null, .null] [] h Z := by
  refine st_iconst (v := 1) dX6_heirInLine_0 (by decide) ?_
  refine st_istore_n (L' := [.ref 10, .int x1, .int x2, .int 1, .null, .null]) dX6_heirInLine_1 (by decide) rfl ?_
  exact w
set_option maxRecDepth 20000 in
set_option maxHeartbeats 2000000 in
theorem sX6_heirInLine_2 {d : Nat} {h : am_H} {Z : Int32 → am_H → Prop} {x1 : Int32} {x2 : Int32} {x3 : Int32} {u4 : Value} {u5 : Value} (hd : 2 ≤ d) (w : (x1 ≤ x3 → am_cl mX6_layLine d [.ref 10, .int x1] h (fun r1 h2 => Ru mX6_heirInLine none d 62 [.ref 10, .int x1, .int x2, .int (((am_at h2 (0 : Int32)) <<< (8 &&& 31)) ||| (am_at h2 (1 : Int32))), .int 0, .int 0] [] h2 Z)) ∧ (¬ (x1 ≤ x3) → ((am_at h (x3 + 2)) < x3 → Ru mX6_heirInLine none d 2 [.ref 10, .int x1, .int x2, .int (x3 + 1), u4, u5] [] h Z) ∧ (¬ ((am_at h (x3 + 2)) < x3) → Z (-3) h))) : Ru mX6_heirInLine none d 2 [.ref 10, .int x1, .int x2, .int x3, u4, u5] [] h Z := by
  refine st_iload_n dX6_heirInLine_2 rfl ?_
  refine st_iload_n dX6_heirInLine_3 rfl ?_
  refine st_icmp_ge (tgt := 30) dX6_heirInLine_4 (by decide) (fun c => ?_) (fun c => ?_)
  · replace w := w.1 c
    refine st_aload_n dX6_heirInLine_30 rfl ?_
    refine st_iload_n dX6_heirInLine_31 rfl ?_
    refine st_callV (M' := mX6_layLine) [.int x1] [] dX6_heirInLine_32 ml_X6_96 mf_X6_layLine mv_X6_layLine sh_10 rfl rfl rfl w (fun r1 h2 w => ?_)
    show Ru mX6_heirInLine none d 35 [.ref 10, .int x1, .int x2, .int x3, u4, u5] [] h2 Z
    refine st_aload_n dX6_heirInLine_35 rfl ?_
    refine st_getF (q := 1) fl_X6_27 fk_6_0 rfl dX6_heirInLine_36 sh_10 ?_
    refine st_iconst (v := 0) dX6_heirInLine_39 (by decide) ?_
    refine st_callV (M' := mX9_at) [.int 0] [] dX6_heirInLine_40 ml_X6_74 mf_X9_at mv_X9_at sh_1 rfl rfl rfl (K := fun r h' => (am_at h2 (0 : Int32)) = r ∧ h2 = h') ⟨1, by omega, iX9_at ⟨rfl, rfl⟩⟩ (fun r1 h1 w1 => ?_)
    obtain ⟨rfl, rfl⟩ := w1
    show Ru mX6_heirInLine none d 43 [.ref 10, .int x1, .int x2, .int x3, u4, u5] [.int (am_at h2 (0 : Int32))] h2 Z
    refine st_bipush (v := 8) dX6_heirInLine_43 (by decide) ?_
    refine st_ishl dX6_heirInLine_45 ?_
    refine st_aload_n dX6_heirInLine_46 rfl ?_
    refine st_getF (q := 1) fl_X6_27 fk_6_0 rfl dX6_heirInLine_47 sh_10 ?_
    refine st_iconst (v := 1) dX6_heirInLine_50 (by decide) ?_
    refine st_callV (M' := mX9_at) [.int 1] [.int ((am_at h2 (0 : Int32)) <<< (8 &&& 31))] dX6_heirInLine_51 ml_X6_74 mf_X9_at mv_X9_at sh_1 rfl rfl rfl (K := fun r h' => (am_at h2 (1 : Int32)) = r ∧ h2 = h') ⟨1, by omega, iX9_at ⟨rfl, rfl⟩⟩ (fun r1 h1 w1 => ?_)
    obtain ⟨rfl, rfl⟩ := w1
    show Ru mX6_heirInLine none d 54 [.ref 10, .int x1, .int x2, .int x3, u4, u5] [.int (am_at h2 (1 : Int32)), .int ((am_at h2 (0 : Int32)) <<< (8 &&& 31))] h2 Z
    refine st_ior dX6_heirInLine_54 ?_
    refine st_istore_n (L' := [.ref 10, .int x1, .int x2, .int (((am_at h2 (0 : Int32)) <<< (8 &&& 31)) ||| (am_at h2 (1 : Int32))), u4, u5]) dX6_heirInLine_55 (by decide) rfl ?_
    refine st_iconst (v := 0) dX6_heirInLine_56 (by decide) ?_
    refine st_istore (L' := [.ref 10, .int x1, .int x2, .int (((am_at h2 (0 : Int32)) <<< (8 &&& 31)) ||| (am_at h2 (1 : Int32))), .int 0, u5]) dX6_heirInLine_57 (by decide) rfl ?_
    refine st_iconst (v := 0) dX6_heirInLine_59 (by decide) ?_
    refine st_istore (L' := [.ref 10, .int x1, .int x2, .int (((am_at h2 (0 : Int32)) <<< (8 &&& 31)) ||| (am_at h2 (1 : Int32))), .int 0, .int 0]) dX6_heirInLine_60 (by decide) rfl ?_
    exact w
  · replace w := w.2 c
    refine st_aload_n dX6_heirInLine_7 rfl ?_
    refine st_getF (q := 1) fl_X6_27 fk_6_0 rfl dX6_heirInLine_8 sh_10 ?_
    refine st_iload_n dX6_heirInLine_11 rfl ?_
    refine st_iconst (v := 2) dX6_heirInLine_12 (by decide) ?_
    refine st_iadd dX6_heirInLine_13 ?_
    refine st_callV (M' := mX9_at) [.int (x3 + 2)] [] dX6_heirInLine_14 ml_X6_74 mf_X9_at mv_X9_at sh_1 rfl rfl rfl (K := fun r h' => (am_at h (x3 + 2)) = r ∧ h = h') ⟨1, by omega, iX9_at ⟨rfl, rfl⟩⟩ (fun r1 h1 w1 => ?_)
    obtain ⟨rfl, rfl⟩ := w1
    show Ru mX6_heirInLine none d 17 [.ref 10, .int x1, .int x2, .int x3, u4, u5] [.int (am_at h (x3 + 2))] h Z
    refine st_iload_n dX6_heirInLine_17 rfl ?_
    refine st_icmp_lt (tgt := 24) dX6_heirInLine_18 (by decide) (fun c => ?_) (fun c => ?_)
    · replace w := w.1 c
      refine st_iinc (L' := [.ref 10, .int x1, .int x2, .int (x3 + 1), u4, u5]) dX6_heirInLine_24 rfl rfl (by decide) rfl ?_
      refine st_goto (tgt := 2) dX6_heirInLine_27 (by decide) ?_
      exact w
    · replace w := w.2 c
      refine st_bipush (v := (-3)) dX6_heirInLine_21 (by decide) ?_
      exact st_ireturn rfl rfl dX6_heirInLine_23 w
set_option maxRecDepth 20000 in
set_option maxHeartbeats 2000000 in
theorem sX6_heirInLine_62 {d : Nat} {h : am_H} {Z : Int32 → am_H → Prop} {x1 : Int32} {x2 : Int32} {x3 : Int32} {x4 : Int32} {x5 : Int32} (w : (x1 ≤ x5 → Z (-4) h) ∧ (¬ (x1 ≤ x5) → (vp_in x5 24 ∧ ((¬ ((x3 >>> ((h.2.2 11 x5.toNatClampNeg) &&& 31)) &&& 1) = 0 → Ru mX6_heirInLine none d 62 [.ref 10, .int x1, .int x2, .int x3, .int x4, .int (x5 + 1)] [] h Z) ∧ (((x3 >>> ((h.2.2 11 x5.toNatClampNeg) &&& 31)) &&& 1) = 0 → (¬ x4 = x2 → Ru mX6_heirInLine none d 62 [.ref 10, .int x1, .int x2, .int x3, .int (x4 + 1), .int (x5 + 1)] [] h Z) ∧ (x4 = x2 → Z (h.2.2 11 x5.toNatClampNeg) h)))))) : Ru mX6_heirInLine none d 62 [.ref 10, .int x1, .int x2, .int x3, .int x4, .int x5] [] h Z := by
  refine st_iload dX6_heirInLine_62 rfl ?_
  refine st_iload_n dX6_heirInLine_64 rfl ?_
  refine st_icmp_ge (tgt := 105) dX6_heirInLine_65 (by decide) (fun c => ?_) (fun c => ?_)
  · replace w := w.1 c
    refine st_bipush (v := (-4)) dX6_heirInLine_105 (by decide) ?_
    exact st_ireturn rfl rfl dX6_heirInLine_107 w
  · replace w := w.2 c
    refine st_iload_n dX6_heirInLine_68 rfl ?_
    refine st_aload_n dX6_heirInLine_69 rfl ?_
    refine st_getF (q := 11) fl_X6_11 fk_6_1 rfl dX6_heirInLine_70 sh_10 ?_
    refine st_iload dX6_heirInLine_73 rfl ?_
    have hc1 := w.1
    replace w := w.2
    refine st_iald dX6_heirInLine_75 sh_11 hc1 ?_
    refine st_ishr dX6_heirInLine_76 ?_
    refine st_iconst (v := 1) dX6_heirInLine_77 (by decide) ?_
    refine st_iand dX6_heirInLine_78 ?_
    refine st_if_ne (tgt := 99) dX6_heirInLine_79 (by decide) (fun c => ?_) (fun c => ?_)
    · replace w := w.1 c
      refine st_iinc (L' := [.ref 10, .int x1, .int x2, .int x3, .int x4, .int (x5 + 1)]) dX6_heirInLine_99 rfl rfl (by decide) rfl ?_
      refine st_goto (tgt := 62) dX6_heirInLine_102 (by decide) ?_
      exact w
    · replace w := w.2 c
      refine st_iload dX6_heirInLine_82 rfl ?_
      refine st_iload_n dX6_heirInLine_84 rfl ?_
      refine st_icmp_ne (tgt := 96) dX6_heirInLine_85 (by decide) (fun c => ?_) (fun c => ?_)
      · replace w := w.1 c
        refine st_iinc (L' := [.ref 10, .int x1, .int x2, .int x3, .int (x4 + 1), .int x5]) dX6_heirInLine_96 rfl rfl (by decide) rfl ?_
        refine st_iinc (L' := [.ref 10, .int x1, .int x2, .int x3, .int (x4 + 1), .int (x5 + 1)]) dX6_heirInLine_99 rfl rfl (by decide) rfl ?_
        refine st_goto (tgt := 62) dX6_heirInLine_102 (by decide) ?_
        exact w
      · replace w := w.2 c
        refine st_aload_n dX6_heirInLine_88 rfl ?_
        refine st_getF (q := 11) fl_X6_11 fk_6_1 rfl dX6_heirInLine_89 sh_10 ?_
        refine st_iload dX6_heirInLine_92 rfl ?_
        refine st_iald dX6_heirInLine_94 sh_11 hc1 ?_
        exact st_ireturn rfl rfl dX6_heirInLine_95 w
set_option maxRecDepth 20000 in
set_option maxHeartbeats 2000000 in
theorem sX6_layLine_0 {d : Nat} {h : am_H} {Z : Int32 → am_H → Prop} {x1 : Int32} (w : (∀ h1 : am_H, h1 = am_sR h 12 (upd (h.2.2 12) 0 0) → (Ru mX6_layLine none d 11 [.ref 10, .int x1, .int 1, .int 0, .null, .null] [] h1 Z))) : Ru mX6_layLine none d 0 [.ref 10, .int x1, .null, .null, .null, .null] [] h Z := by
  refine st_iconst (v := 1) dX6_layLine_0 (by decide) ?_
  refine st_istore_n (L' := [.ref 10, .int x1, .int 1, .null, .null, .null]) dX6_layLine_1 (by decide) rfl ?_
  refine st_aload_n dX6_layLine_2 rfl ?_
  refine st_getF (q := 12) fl_X6_15 fk_6_2 rfl dX6_layLine_3 sh_10 ?_
  refine st_iconst (v := 0) dX6_layLine_6 (by decide) ?_
  refine st_iconst (v := 0) dX6_layLine_7 (by decide) ?_
  refine st_iast dX6_layLine_8 sh_12 (by unfold vp_in; decide +kernel) (fun h1 eh1 => ?_)
  replace w := w h1 eh1
  refine st_iconst (v := 0) dX6_layLine_9 (by decide) ?_
  refine st_istore_n (L' := [.ref 10, .int x1, .int 1, .int 0, .null, .null]) dX6_layLine_10 (by decide) rfl ?_
  exact w
set_option maxRecDepth 20000 in
set_option maxHeartbeats 2000000 in
theorem sX6_layLine_11 {d : Nat} {h : am_H} {Z : Int32 → am_H → Prop} {x1 : Int32} {x2 : Int32} {x3 : Int32} {u4 : Value} {u5 : Value} (w : (x1 ≤ x3 → Z 0 h) ∧ (¬ (x1 ≤ x3) → (x2 ≤ 0 → Z 0 h) ∧ (¬ (x2 ≤ 0) → (vp_in (x2 + (-1)) 24 ∧ (vp_in x3 24 ∧ (∀ h3 : am_H, h3 = am_sR h 11 (upd (h.2.2 11) x3.toNatClampNeg (h.2.2 12 (x2 + (-1)).toNatClampNeg)) → (Ru mX6_layLine none d 44 [.ref 10, .int x1, .int (x2 + (-1)), .int x3, .int (h.2.2 12 (x2 + (-1)).toNatClampNeg), .int (x1 - 1)] [] h3 Z))))))) : Ru mX6_layLine none d 11 [.ref 10, .int x1, .int x2, .int x3, u4, u5] [] h Z := by
  refine st_iload_n dX6_layLine_11 rfl ?_
  refine st_iload_n dX6_layLine_12 rfl ?_
  refine st_icmp_ge (tgt := 96) dX6_layLine_13 (by decide) (fun c => ?_) (fun c => ?_)
  · replace w := w.1 c
    exact st_return rfl dX6_layLine_96 w
  · replace w := w.2 c
    refine st_iload_n dX6_layLine_16 rfl ?_
    refine st_if_le (tgt := 96) dX6_layLine_17 (by decide) (fun c => ?_) (fun c => ?_)
    · replace w := w.1 c
      exact st_return rfl dX6_layLine_96 w
    · replace w := w.2 c
      refine st_iinc (L' := [.ref 10, .int x1, .int (x2 + (-1)), .int x3, u4, u5]) dX6_layLine_20 rfl rfl (by decide) rfl ?_
      refine st_aload_n dX6_layLine_23 rfl ?_
      refine st_getF (q := 12) fl_X6_15 fk_6_2 rfl dX6_layLine_24 sh_10 ?_
      refine st_iload_n dX6_layLine_27 rfl ?_
      have hc1 := w.1
      replace w := w.2
      refine st_iald dX6_layLine_28 sh_12 hc1 ?_
      refine st_istore (L' := [.ref 10, .int x1, .int (x2 + (-1)), .int x3, .int (h.2.2 12 (x2 + (-1)).toNatClampNeg), u5]) dX6_layLine_29 (by decide) rfl ?_
      refine st_aload_n dX6_layLine_31 rfl ?_
      refine st_getF (q := 11) fl_X6_11 fk_6_1 rfl dX6_layLine_32 sh_10 ?_
      refine st_iload_n dX6_layLine_35 rfl ?_
      refine st_iload dX6_layLine_36 rfl ?_
      have hc2 := w.1
      replace w := w.2
      refine st_iast dX6_layLine_38 sh_11 hc2 (fun h3 eh3 => ?_)
      replace w := w h3 eh3
      refine st_iload_n dX6_layLine_39 rfl ?_
      refine st_iconst (v := 1) dX6_layLine_40 (by decide) ?_
      refine st_isub dX6_layLine_41 ?_
      refine st_istore (L' := [.ref 10, .int x1, .int (x2 + (-1)), .int x3, .int (h.2.2 12 (x2 + (-1)).toNatClampNeg), .int (x1 - 1)]) dX6_layLine_42 (by decide) rfl ?_
      exact w
set_option maxRecDepth 20000 in
set_option maxHeartbeats 2000000 in
theorem sX6_layLine_44 {d : Nat} {h : am_H} {Z : Int32 → am_H → Prop} {x1 : Int32} {x2 : Int32} {x3 : Int32} {x4 : Int32} {x5 : Int32} (hd : 2 ≤ d) (w : (x5 ≤ x4 → Ru mX6_layLine none d 11 [.ref 10, .int x1, .int x2, .int (x3 + 1), .int x4, .int x5] [] h Z) ∧ (¬ (x5 ≤ x4) → (¬ (am_at h (x5 + 2)) = x4 → Ru mX6_layLine none d 44 [.ref 10, .int x1, .int x2, .int x3, .int x4, .int (x5 + (-1))] [] h Z) ∧ ((am_at h (x5 + 2)) = x4 → (24 ≤ x2 → Ru mX6_layLine none d 44 [.ref 10, .int x1, .int x2, .int x3, .int x4, .int (x5 + (-1))] [] h Z) ∧ (¬ (24 ≤ x2) → (vp_in x2 24 ∧ (∀ h2 : am_H, h2 = am_sR h 12 (upd (h.2.2 12) x2.toNatClampNeg x5) → (Ru mX6_layLine none d 44 [.ref 10, .int x1, .int (x2 + 1), .int x3, .int x4, .int (x5 + (-1))] [] h2 Z))))))) : Ru mX6_layLine none d 44 [.ref 10, .int x1, .int x2, .int x3, .int x4, .int x5] [] h Z := by
  refine st_iload dX6_layLine_44 rfl ?_
  refine st_iload dX6_layLine_46 rfl ?_
  refine st_icmp_le (tgt := 90) dX6_layLine_48 (by decide) (fun c => ?_) (fun c => ?_)
  · replace w := w.1 c
    refine st_iinc (L' := [.ref 10, .int x1, .int x2, .int (x3 + 1), .int x4, .int x5]) dX6_layLine_90 rfl rfl (by decide) rfl ?_
    refine st_goto (tgt := 11) dX6_layLine_93 (by decide) ?_
    exact w
  · replace w := w.2 c
    refine st_aload_n dX6_layLine_51 rfl ?_
    refine st_getF (q := 1) fl_X6_27 fk_6_0 rfl dX6_layLine_52 sh_10 ?_
    refine st_iload dX6_layLine_55 rfl ?_
    refine st_iconst (v := 2) dX6_layLine_57 (by decide) ?_
    refine st_iadd dX6_layLine_58 ?_
    refine st_callV (M' := mX9_at) [.int (x5 + 2)] [] dX6_layLine_59 ml_X6_74 mf_X9_at mv_X9_at sh_1 rfl rfl rfl (K := fun r h' => (am_at h (x5 + 2)) = r ∧ h = h') ⟨1, by omega, iX9_at ⟨rfl, rfl⟩⟩ (fun r1 h1 w1 => ?_)
    obtain ⟨rfl, rfl⟩ := w1
    show Ru mX6_layLine none d 62 [.ref 10, .int x1, .int x2, .int x3, .int x4, .int x5] [.int (am_at h (x5 + 2))] h Z
    refine st_iload dX6_layLine_62 rfl ?_
    refine st_icmp_ne (tgt := 84) dX6_layLine_64 (by decide) (fun c => ?_) (fun c => ?_)
    · replace w := w.1 c
      refine st_iinc (L' := [.ref 10, .int x1, .int x2, .int x3, .int x4, .int (x5 + (-1))]) dX6_layLine_84 rfl rfl (by decide) rfl ?_
      refine st_goto (tgt := 44) dX6_layLine_87 (by decide) ?_
      exact w
    · replace w := w.2 c
      refine st_iload_n dX6_layLine_67 rfl ?_
      refine st_bipush (v := 24) dX6_layLine_68 (by decide) ?_
      refine st_icmp_ge (tgt := 84) dX6_layLine_70 (by decide) (fun c => ?_) (fun c => ?_)
      · replace w := w.1 c
        refine st_iinc (L' := [.ref 10, .int x1, .int x2, .int x3, .int x4, .int (x5 + (-1))]) dX6_layLine_84 rfl rfl (by decide) rfl ?_
        refine st_goto (tgt := 44) dX6_layLine_87 (by decide) ?_
        exact w
      · replace w := w.2 c
        refine st_aload_n dX6_layLine_73 rfl ?_
        refine st_getF (q := 12) fl_X6_15 fk_6_2 rfl dX6_layLine_74 sh_10 ?_
        refine st_iload_n dX6_layLine_77 rfl ?_
        refine st_iload dX6_layLine_78 rfl ?_
        have hc1 := w.1
        replace w := w.2
        refine st_iast dX6_layLine_80 sh_12 hc1 (fun h2 eh2 => ?_)
        replace w := w h2 eh2
        refine st_iinc (L' := [.ref 10, .int x1, .int (x2 + 1), .int x3, .int x4, .int x5]) dX6_layLine_81 rfl rfl (by decide) rfl ?_
        refine st_iinc (L' := [.ref 10, .int x1, .int (x2 + 1), .int x3, .int x4, .int (x5 + (-1))]) dX6_layLine_84 rfl rfl (by decide) rfl ?_
        refine st_goto (tgt := 44) dX6_layLine_87 (by decide) ?_
        exact w
set_option maxRecDepth 20000 in
set_option maxHeartbeats 2000000 in
theorem sX10_heirs_0 {d : Nat} {h : am_H} {Z : Int32 → am_H → Prop} {x1 : Int32} {x2 : Int32} (hd : 2 ≤ d) (w : (¬ ((1 : Int32) ≤ x1 ∧ x1 ≤ (16 : Int32)) → Z (-1) h) ∧ ((1 : Int32) ≤ x1 ∧ x1 ≤ (16 : Int32) → (¬ ((0 : Int32) ≤ x2 ∧ x2 ≤ (15 : Int32)) → Z (-1) h) ∧ ((0 : Int32) ≤ x2 ∧ x2 ≤ (15 : Int32) → ((x1 + 2) ≤ h.1 1 1 → am_cl mX6_heirInLine d [.ref 10, .int x1, .int x2] h (fun r1 h2 => Z r1 (am_sI h2 1 1 0))) ∧ (¬ ((x1 + 2) ≤ h.1 1 1) → Z (-1) h)))) : Ru mX10_heirs none d 0 [.ref 0, .int x1, .int x2, .null] [] h Z := by
  refine st_iload_n dX10_heirs_0 rfl ?_
  refine st_iconst (v := 1) dX10_heirs_1 (by decide) ?_
  refine st_bipush (v := 16) dX10_heirs_2 (by decide) ?_
  refine st_callS (M' := mX10_isFromTo) [.int x1, .int 1, .int 16] [] dX10_heirs_4 ml_X10_135 mf_X10_isFromTo ms_X10_isFromTo rfl rfl rfl (K := fun r h' => (am_b ((1 : Int32) ≤ x1 ∧ x1 ≤ (16 : Int32))) = r ∧ h = h') ⟨1, by omega, iX10_isFromTo ⟨rfl, rfl⟩⟩ (fun r1 h1 w1 => ?_)
  obtain ⟨rfl, rfl⟩ := w1
  show Ru mX10_heirs none d 7 [.ref 0, .int x1, .int x2, .null] [.int (am_b ((1 : Int32) ≤ x1 ∧ x1 ≤ (16 : Int32)))] h Z
  refine st_ifb_eq (tgt := 33) dX10_heirs_7 (by decide) (fun c => ?_) (fun c => ?_)
  · replace w := w.1 c
    refine st_iconst (v := (-1)) dX10_heirs_33 (by decide) ?_
    exact st_ireturn rfl rfl dX10_heirs_34 w
  · replace w := w.2 c
    refine st_iload_n dX10_heirs_10 rfl ?_
    refine st_iconst (v := 0) dX10_heirs_11 (by decide) ?_
    refine st_bipush (v := 15) dX10_heirs_12 (by decide) ?_
    refine st_callS (M' := mX10_isFromTo) [.int x2, .int 0, .int 15] [] dX10_heirs_14 ml_X10_135 mf_X10_isFromTo ms_X10_isFromTo rfl rfl rfl (K := fun r h' => (am_b ((0 : Int32) ≤ x2 ∧ x2 ≤ (15 : Int32))) = r ∧ h = h') ⟨1, by omega, iX10_isFromTo ⟨rfl, rfl⟩⟩ (fun r1 h1 w1 => ?_)
    obtain ⟨rfl, rfl⟩ := w1
    show Ru mX10_heirs none d 17 [.ref 0, .int x1, .int x2, .null] [.int (am_b ((0 : Int32) ≤ x2 ∧ x2 ≤ (15 : Int32)))] h Z
    refine st_ifb_eq (tgt := 33) dX10_heirs_17 (by decide) (fun c => ?_) (fun c => ?_)
    · replace w := w.1 c
      refine st_iconst (v := (-1)) dX10_heirs_33 (by decide) ?_
      exact st_ireturn rfl rfl dX10_heirs_34 w
    · replace w := w.2 c
      refine st_aload_n dX10_heirs_20 rfl ?_
      refine st_getF (q := 1) fl_X10_10 fk_10_0 rfl dX10_heirs_21 sh_0 ?_
      refine st_iload_n dX10_heirs_24 rfl ?_
      refine st_iconst (v := 2) dX10_heirs_25 (by decide) ?_
      refine st_iadd dX10_heirs_26 ?_
      refine st_callV (M' := mX9_holds) [.int (x1 + 2)] [] dX10_heirs_27 ml_X10_139 mf_X9_holds mv_X9_holds sh_1 rfl rfl rfl (K := fun r h' => (am_b ((x1 + 2) ≤ h.1 1 1)) = r ∧ h = h') ⟨1, by omega, iX9_holds ⟨rfl, rfl⟩⟩ (fun r1 h1 w1 => ?_)
      obtain ⟨rfl, rfl⟩ := w1
      show Ru mX10_heirs none d 30 [.ref 0, .int x1, .int x2, .null] [.int (am_b ((x1 + 2) ≤ h.1 1 1))] h Z
      refine st_ifb_ne (tgt := 35) dX10_heirs_30 (by decide) (fun c => ?_) (fun c => ?_)
      · replace w := w.1 c
        refine st_aload_n dX10_heirs_35 rfl ?_
        refine st_getF (q := 10) fl_X10_51 fk_10_6 rfl dX10_heirs_36 sh_0 ?_
        refine st_iload_n dX10_heirs_39 rfl ?_
        refine st_iload_n dX10_heirs_40 rfl ?_
        refine st_callV (M' := mX6_heirInLine) [.int x1, .int x2] [] dX10_heirs_41 ml_X10_250 mf_X6_heirInLine mv_X6_heirInLine sh_10 rfl rfl rfl w (fun r1 h2 w => ?_)
        show Ru mX10_heirs none d 44 [.ref 0, .int x1, .int x2, .null] [.int r1] h2 Z
        refine st_istore_n (L' := [.ref 0, .int x1, .int x2, .int r1]) dX10_heirs_44 (by decide) rfl ?_
        refine st_aload_n dX10_heirs_45 rfl ?_
        refine st_getF (q := 1) fl_X10_10 fk_10_0 rfl dX10_heirs_46 sh_0 ?_
        refine st_callV (M' := mX9_clear) [] [] dX10_heirs_49 ml_X10_146 mf_X9_clear mv_X9_clear sh_1 rfl rfl rfl (K := fun r h' => 0 = r ∧ am_sI h2 1 1 0 = h') ⟨1, by omega, iX9_clear ⟨rfl, rfl⟩⟩ (fun r1 h1 w1 => ?_)
        obtain ⟨rfl, rfl⟩ := w1
        show Ru mX10_heirs none d 52 [.ref 0, .int x1, .int x2, .int r1] [] (am_sI h2 1 1 0) Z
        refine st_iload_n dX10_heirs_52 rfl ?_
        exact st_ireturn rfl rfl dX10_heirs_53 w
      · replace w := w.2 c
        refine st_iconst (v := (-1)) dX10_heirs_33 (by decide) ?_
        exact st_ireturn rfl rfl dX10_heirs_34 w
set_option maxRecDepth 20000 in
set_option maxHeartbeats 2000000 in
theorem sX11_heirs_0 {d : Nat} {h : am_H} {Z : Int32 → am_H → Prop} {x1 : Int32} {x2 : Int32} (hd : 2 ≤ d) (w : (¬ ((1 : Int32) ≤ x1 ∧ x1 ≤ (16 : Int32)) → Z (-1) h) ∧ ((1 : Int32) ≤ x1 ∧ x1 ≤ (16 : Int32) → (¬ ((0 : Int32) ≤ x2 ∧ x2 ≤ (15 : Int32)) → Z (-1) h) ∧ ((0 : Int32) ≤ x2 ∧ x2 ≤ (15 : Int32) → ((x1 + 2) ≤ (h.1 73 9) → (∀ h1 : am_H, h1 = am_sI h 73 9 0 → (Ru mX11_heirs none d 39 [.ref 73, .int x1, .int x2, .int 1, .null, .null] [] h1 Z))) ∧ (¬ ((x1 + 2) ≤ (h.1 73 9)) → Z (-1) h)))) : Ru mX11_heirs none d 0 [.ref 73, .int x1, .int x2, .null, .null, .null] [] h Z := by
  refine st_iload_n dX11_heirs_0 rfl ?_
  refine st_iconst (v := 1) dX11_heirs_1 (by decide) ?_
  refine st_bipush (v := 16) dX11_heirs_2 (by decide) ?_
  refine st_callS (M' := mX11_in) [.int x1, .int 1, .int 16] [] dX11_heirs_4 ml_X11_125 mf_X11_in ms_X11_in rfl rfl rfl (K := fun r h' => (am_b ((1 : Int32) ≤ x1 ∧ x1 ≤ (16 : Int32))) = r ∧ h = h') ⟨1, by omega, iX11_in ⟨rfl, rfl⟩⟩ (fun r1 h1 w1 => ?_)
  obtain ⟨rfl, rfl⟩ := w1
  show Ru mX11_heirs none d 7 [.ref 73, .int x1, .int x2, .null, .null, .null] [.int (am_b ((1 : Int32) ≤ x1 ∧ x1 ≤ (16 : Int32)))] h Z
  refine st_ifb_eq (tgt := 30) dX11_heirs_7 (by decide) (fun c => ?_) (fun c => ?_)
  · replace w := w.1 c
    refine st_iconst (v := (-1)) dX11_heirs_30 (by decide) ?_
    exact st_ireturn rfl rfl dX11_heirs_31 w
  · replace w := w.2 c
    refine st_iload_n dX11_heirs_10 rfl ?_
    refine st_iconst (v := 0) dX11_heirs_11 (by decide) ?_
    refine st_bipush (v := 15) dX11_heirs_12 (by decide) ?_
    refine st_callS (M' := mX11_in) [.int x2, .int 0, .int 15] [] dX11_heirs_14 ml_X11_125 mf_X11_in ms_X11_in rfl rfl rfl (K := fun r h' => (am_b ((0 : Int32) ≤ x2 ∧ x2 ≤ (15 : Int32))) = r ∧ h = h') ⟨1, by omega, iX11_in ⟨rfl, rfl⟩⟩ (fun r1 h1 w1 => ?_)
    obtain ⟨rfl, rfl⟩ := w1
    show Ru mX11_heirs none d 17 [.ref 73, .int x1, .int x2, .null, .null, .null] [.int (am_b ((0 : Int32) ≤ x2 ∧ x2 ≤ (15 : Int32)))] h Z
    refine st_ifb_eq (tgt := 30) dX11_heirs_17 (by decide) (fun c => ?_) (fun c => ?_)
    · replace w := w.1 c
      refine st_iconst (v := (-1)) dX11_heirs_30 (by decide) ?_
      exact st_ireturn rfl rfl dX11_heirs_31 w
    · replace w := w.2 c
      refine st_iload_n dX11_heirs_20 rfl ?_
      refine st_iconst (v := 2) dX11_heirs_21 (by decide) ?_
      refine st_iadd dX11_heirs_22 ?_
      refine st_aload_n dX11_heirs_23 rfl ?_
      refine st_getI fl_X11_158 fk_11_9 dX11_heirs_24 sh_73 ?_
      refine st_icmp_le (tgt := 32) dX11_heirs_27 (by decide) (fun c => ?_) (fun c => ?_)
      · replace w := w.1 c
        refine st_aload_n dX11_heirs_32 rfl ?_
        refine st_iconst (v := 0) dX11_heirs_33 (by decide) ?_
        refine st_putI flp_X11_158 fk_11_9 dX11_heirs_34 sh_73 (fun h1 eh1 => ?_)
        replace w := w h1 eh1
        refine st_iconst (v := 1) dX11_heirs_37 (by decide) ?_
        refine st_istore_n (L' := [.ref 73, .int x1, .int x2, .int 1, .null, .null]) dX11_heirs_38 (by decide) rfl ?_
        exact w
      · replace w := w.2 c
        refine st_iconst (v := (-1)) dX11_heirs_30 (by decide) ?_
        exact st_ireturn rfl rfl dX11_heirs_31 w
set_option maxRecDepth 20000 in
set_option maxHeartbeats 2000000 in
theorem sX11_heirs_39 {d : Nat} {h : am_H} {Z : Int32 → am_H → Prop} {x1 : Int32} {x2 : Int32} {x3 : Int32} {u4 : Value} {u5 : Value} (hd : 2 ≤ d) (w : (x1 ≤ x3 → am_cl mX11_laysLine d [.ref 73, .int x1] h (fun r1 h2 => (vp_in (0 : Int32) 260 ∧ (vp_in (1 : Int32) 260 ∧ (Ru mX11_heirs none d 88 [.ref 73, .int x1, .int x2, .int (((h2.2.2 80 (0 : Int32).toNatClampNeg &&& 255) <<< (8 &&& 31)) ||| (h2.2.2 80 (1 : Int32).toNatClampNeg &&& 255)), .int (-1), .int 0] [] h2 Z))))) ∧ (¬ (x1 ≤ x3) → am_cl mX11_fromWhom d [.ref 73, .int x3] h (fun r5 h6 => (r5 < x3 → Ru mX11_heirs none d 39 [.ref 73, .int x1, .int x2, .int (x3 + 1), u4, u5] [] h6 Z) ∧ (¬ (r5 < x3) → Z (-3) h6)))) : Ru mX11_heirs none d 39 [.ref 73, .int x1, .int x2, .int x3, u4, u5] [] h Z := by
  refine st_iload_n dX11_heirs_39 rfl ?_
  refine st_iload_n dX11_heirs_40 rfl ?_
  refine st_icmp_ge (tgt := 62) dX11_heirs_41 (by decide) (fun c => ?_) (fun c => ?_)
  · replace w := w.1 c
    refine st_aload_n dX11_heirs_62 rfl ?_
    refine st_iload_n dX11_heirs_63 rfl ?_
    refine st_callV (M' := mX11_laysLine) [.int x1] [] dX11_heirs_64 ml_X11_415 mf_X11_laysLine mv_X11_laysLine sh_73 rfl rfl rfl w (fun r1 h2 w => ?_)
    show Ru mX11_heirs none d 67 [.ref 73, .int x1, .int x2, .int x3, u4, u5] [] h2 Z
    refine st_aload_n dX11_heirs_67 rfl ?_
    refine st_iconst (v := 0) dX11_heirs_68 (by decide) ?_
    have hc3 := w.1
    replace w := w.2
    refine st_callV (M' := mX11_octet) [.int 0] [] dX11_heirs_69 ml_X11_388 mf_X11_octet mv_X11_octet sh_73 rfl rfl rfl (K := fun r h' => (h2.2.2 80 (0 : Int32).toNatClampNeg &&& 255) = r ∧ h2 = h') ⟨1, by omega, iX11_octet hc3 ⟨rfl, rfl⟩⟩ (fun r1 h1 w1 => ?_)
    obtain ⟨rfl, rfl⟩ := w1
    show Ru mX11_heirs none d 72 [.ref 73, .int x1, .int x2, .int x3, u4, u5] [.int (h2.2.2 80 (0 : Int32).toNatClampNeg &&& 255)] h2 Z
    refine st_bipush (v := 8) dX11_heirs_72 (by decide) ?_
    refine st_ishl dX11_heirs_74 ?_
    refine st_aload_n dX11_heirs_75 rfl ?_
    refine st_iconst (v := 1) dX11_heirs_76 (by decide) ?_
    have hc4 := w.1
    replace w := w.2
    refine st_callV (M' := mX11_octet) [.int 1] [.int ((h2.2.2 80 (0 : Int32).toNatClampNeg &&& 255) <<< (8 &&& 31))] dX11_heirs_77 ml_X11_388 mf_X11_octet mv_X11_octet sh_73 rfl rfl rfl (K := fun r h' => (h2.2.2 80 (1 : Int32).toNatClampNeg &&& 255) = r ∧ h2 = h') ⟨1, by omega, iX11_octet hc4 ⟨rfl, rfl⟩⟩ (fun r1 h1 w1 => ?_)
    obtain ⟨rfl, rfl⟩ := w1
    show Ru mX11_heirs none d 80 [.ref 73, .int x1, .int x2, .int x3, u4, u5] [.int (h2.2.2 80 (1 : Int32).toNatClampNeg &&& 255), .int ((h2.2.2 80 (0 : Int32).toNatClampNeg &&& 255) <<< (8 &&& 31))] h2 Z
    refine st_ior dX11_heirs_80 ?_
    refine st_istore_n (L' := [.ref 73, .int x1, .int x2, .int (((h2.2.2 80 (0 : Int32).toNatClampNeg &&& 255) <<< (8 &&& 31)) ||| (h2.2.2 80 (1 : Int32).toNatClampNeg &&& 255)), u4, u5]) dX11_heirs_81 (by decide) rfl ?_
    refine st_iconst (v := (-1)) dX11_heirs_82 (by decide) ?_
    refine st_istore (L' := [.ref 73, .int x1, .int x2, .int (((h2.2.2 80 (0 : Int32).toNatClampNeg &&& 255) <<< (8 &&& 31)) ||| (h2.2.2 80 (1 : Int32).toNatClampNeg &&& 255)), .int (-1), u5]) dX11_heirs_83 (by decide) rfl ?_
    refine st_iconst (v := 0) dX11_heirs_85 (by decide) ?_
    refine st_istore (L' := [.ref 73, .int x1, .int x2, .int (((h2.2.2 80 (0 : Int32).toNatClampNeg &&& 255) <<< (8 &&& 31)) ||| (h2.2.2 80 (1 : Int32).toNatClampNeg &&& 255)), .int (-1), .int 0]) dX11_heirs_86 (by decide) rfl ?_
    exact w
  · replace w := w.2 c
    refine st_aload_n dX11_heirs_44 rfl ?_
    refine st_iload_n dX11_heirs_45 rfl ?_
    refine st_callV (M' := mX11_fromWhom) [.int x3] [] dX11_heirs_46 ml_X11_412 mf_X11_fromWhom mv_X11_fromWhom sh_73 rfl rfl rfl w (fun r5 h6 w => ?_)
    show Ru mX11_heirs none d 49 [.ref 73, .int x1, .int x2, .int x3, u4, u5] [.int r5] h6 Z
    refine st_iload_n dX11_heirs_49 rfl ?_
    refine st_icmp_lt (tgt := 56) dX11_heirs_50 (by decide) (fun c => ?_) (fun c => ?_)
    · replace w := w.1 c
      refine st_iinc (L' := [.ref 73, .int x1, .int x2, .int (x3 + 1), u4, u5]) dX11_heirs_56 rfl rfl (by decide) rfl ?_
      refine st_goto (tgt := 39) dX11_heirs_59 (by decide) ?_
      exact w
    · replace w := w.2 c
      refine st_bipush (v := (-3)) dX11_heirs_53 (by decide) ?_
      exact st_ireturn rfl rfl dX11_heirs_55 w
set_option maxRecDepth 20000 in
set_option maxHeartbeats 2000000 in
theorem sX11_heirs_88 {d : Nat} {h : am_H} {Z : Int32 → am_H → Prop} {x1 : Int32} {x2 : Int32} {x3 : Int32} {x4 : Int32} {x5 : Int32} (hd : 2 ≤ d) (w : (x1 ≤ x5 → Z (-4) h) ∧ (¬ (x1 ≤ x5) → (vp_in x5 16 ∧ ((¬ (am_has x3 (h.2.2 111 x5.toNatClampNeg)) → (¬ (x4 + 1) = x2 → Ru mX11_heirs none d 88 [.ref 73, .int x1, .int x2, .int x3, .int (x4 + 1), .int (x5 + 1)] [] h Z) ∧ ((x4 + 1) = x2 → Z (h.2.2 111 x5.toNatClampNeg) h)) ∧ (am_has x3 (h.2.2 111 x5.toNatClampNeg) → Ru mX11_heirs none d 88 [.ref 73, .int x1, .int x2, .int x3, .int x4, .int (x5 + 1)] [] h Z))))) : Ru mX11_heirs none d 88 [.ref 73, .int x1, .int x2, .int x3, .int x4, .int x5] [] h Z := by
  refine st_iload dX11_heirs_88 rfl ?_
  refine st_iload_n dX11_heirs_90 rfl ?_
  refine st_icmp_ge (tgt := 137) dX11_heirs_91 (by decide) (fun c => ?_) (fun c => ?_)
  · replace w := w.1 c
    refine st_bipush (v := (-4)) dX11_heirs_137 (by decide) ?_
    exact st_ireturn rfl rfl dX11_heirs_139 w
  · replace w := w.2 c
    refine st_iload_n dX11_heirs_94 rfl ?_
    refine st_aload_n dX11_heirs_95 rfl ?_
    refine st_getF (q := 111) fl_X11_122 fk_11_59 rfl dX11_heirs_96 sh_73 ?_
    refine st_iload dX11_heirs_99 rfl ?_
    have hc1 := w.1
    replace w := w.2
    refine st_iald dX11_heirs_101 sh_111 hc1 ?_
    refine st_callS (M' := mX11_has) [.int x3, .int (h.2.2 111 x5.toNatClampNeg)] [] dX11_heirs_102 ml_X11_133 mf_X11_has ms_X11_has rfl rfl rfl (K := fun r h' => (am_b (am_has x3 (h.2.2 111 x5.toNatClampNeg))) = r ∧ h = h') ⟨1, by omega, iX11_has ⟨rfl, rfl⟩⟩ (fun r1 h1 w1 => ?_)
    obtain ⟨rfl, rfl⟩ := w1
    show Ru mX11_heirs none d 105 [.ref 73, .int x1, .int x2, .int x3, .int x4, .int x5] [.int (am_b (am_has x3 (h.2.2 111 x5.toNatClampNeg)))] h Z
    refine st_ifb_eq (tgt := 111) dX11_heirs_105 (by decide) (fun c => ?_) (fun c => ?_)
    · replace w := w.1 c
      refine st_iload dX11_heirs_111 rfl ?_
      refine st_iconst (v := 1) dX11_heirs_113 (by decide) ?_
      refine st_iadd dX11_heirs_114 ?_
      refine st_istore (L' := [.ref 73, .int x1, .int x2, .int x3, .int (x4 + 1), .int x5]) dX11_heirs_115 (by decide) rfl ?_
      refine st_iload dX11_heirs_117 rfl ?_
      refine st_iload_n dX11_heirs_119 rfl ?_
      refine st_icmp_ne (tgt := 131) dX11_heirs_120 (by decide) (fun c => ?_) (fun c => ?_)
      · replace w := w.1 c
        refine st_iinc (L' := [.ref 73, .int x1, .int x2, .int x3, .int (x4 + 1), .int (x5 + 1)]) dX11_heirs_131 rfl rfl (by decide) rfl ?_
        refine st_goto (tgt := 88) dX11_heirs_134 (by decide) ?_
        exact w
      · replace w := w.2 c
        refine st_aload_n dX11_heirs_123 rfl ?_
        refine st_getF (q := 111) fl_X11_122 fk_11_59 rfl dX11_heirs_124 sh_73 ?_
        refine st_iload dX11_heirs_127 rfl ?_
        refine st_iald dX11_heirs_129 sh_111 hc1 ?_
        exact st_ireturn rfl rfl dX11_heirs_130 w
    · replace w := w.2 c
      refine st_goto (tgt := 131) dX11_heirs_108 (by decide) ?_
      refine st_iinc (L' := [.ref 73, .int x1, .int x2, .int x3, .int x4, .int (x5 + 1)]) dX11_heirs_131 rfl rfl (by decide) rfl ?_
      refine st_goto (tgt := 88) dX11_heirs_134 (by decide) ?_
      exact w
set_option maxRecDepth 20000 in
set_option maxHeartbeats 2000000 in
theorem sX11_laysLine_0 {d : Nat} {h : am_H} {Z : Int32 → am_H → Prop} {x1 : Int32} (w : (∀ h1 : am_H, h1 = am_sR h 111 (upd (h.2.2 111) 0 0) → (Ru mX11_laysLine none d 11 [.ref 73, .int x1, .int 1, .int 0, .null, .null] [] h1 Z))) : Ru mX11_laysLine none d 0 [.ref 73, .int x1, .null, .null, .null, .null] [] h Z := by
  refine st_aload_n dX11_laysLine_0 rfl ?_
  refine st_getF (q := 111) fl_X11_122 fk_11_59 rfl dX11_laysLine_1 sh_73 ?_
  refine st_iconst (v := 0) dX11_laysLine_4 (by decide) ?_
  refine st_iconst (v := 0) dX11_laysLine_5 (by decide) ?_
  refine st_iast dX11_laysLine_6 sh_111 (by unfold vp_in; decide +kernel) (fun h1 eh1 => ?_)
  replace w := w h1 eh1
  refine st_iconst (v := 1) dX11_laysLine_7 (by decide) ?_
  refine st_istore_n (L' := [.ref 73, .int x1, .int 1, .null, .null, .null]) dX11_laysLine_8 (by decide) rfl ?_
  refine st_iconst (v := 0) dX11_laysLine_9 (by decide) ?_
  refine st_istore_n (L' := [.ref 73, .int x1, .int 1, .int 0, .null, .null]) dX11_laysLine_10 (by decide) rfl ?_
  exact w
set_option maxRecDepth 20000 in
set_option maxHeartbeats 2000000 in
theorem sX11_laysLine_11 {d : Nat} {h : am_H} {Z : Int32 → am_H → Prop} {x1 : Int32} {x2 : Int32} {x3 : Int32} {u4 : Value} {u5 : Value} (w : (x1 ≤ x2 → Z 0 h) ∧ (¬ (x1 ≤ x2) → am_cl mX11_nextHeir d [.ref 73, .int x3, .int (-1), .int x1] h (fun r1 h2 => Ru mX11_laysLine none d 28 [.ref 73, .int x1, .int x2, .int x3, .int r1, .int x3] [] h2 Z))) : Ru mX11_laysLine none d 11 [.ref 73, .int x1, .int x2, .int x3, u4, u5] [] h Z := by
  refine st_iload_n dX11_laysLine_11 rfl ?_
  refine st_iload_n dX11_laysLine_12 rfl ?_
  refine st_icmp_ge (tgt := 77) dX11_laysLine_13 (by decide) (fun c => ?_) (fun c => ?_)
  · replace w := w.1 c
    exact st_return rfl dX11_laysLine_77 w
  · replace w := w.2 c
    refine st_aload_n dX11_laysLine_16 rfl ?_
    refine st_iload_n dX11_laysLine_17 rfl ?_
    refine st_iconst (v := (-1)) dX11_laysLine_18 (by decide) ?_
    refine st_iload_n dX11_laysLine_19 rfl ?_
    refine st_callV (M' := mX11_nextHeir) [.int x3, .int (-1), .int x1] [] dX11_laysLine_20 ml_X11_409 mf_X11_nextHeir mv_X11_nextHeir sh_73 rfl rfl rfl w (fun r1 h2 w => ?_)
    show Ru mX11_laysLine none d 23 [.ref 73, .int x1, .int x2, .int x3, u4, u5] [.int r1] h2 Z
    refine st_istore (L' := [.ref 73, .int x1, .int x2, .int x3, .int r1, u5]) dX11_laysLine_23 (by decide) rfl ?_
    refine st_iload_n dX11_laysLine_25 rfl ?_
    refine st_istore (L' := [.ref 73, .int x1, .int x2, .int x3, .int r1, .int x3]) dX11_laysLine_26 (by decide) rfl ?_
    exact w
set_option maxRecDepth 20000 in
set_option maxHeartbeats 2000000 in
theorem sX11_laysLine_28 {d : Nat} {h : am_H} {Z : Int32 → am_H → Prop} {x1 : Int32} {x2 : Int32} {u3 : Value} {x4 : Int32} {x5 : Int32} (w : (¬ x4 = (-1) → (vp_in x2 16 ∧ (∀ h2 : am_H, h2 = am_sR h 111 (upd (h.2.2 111) x2.toNatClampNeg x4) → (Ru mX11_laysLine none d 11 [.ref 73, .int x1, .int (x2 + 1), .int x4, .int x4, .int x5] [] h2 Z)))) ∧ (x4 = (-1) → am_cl mX11_fromWhom d [.ref 73, .int x5] h (fun r3 h4 => am_cl mX11_nextHeir d [.ref 73, .int r3, .int x5, .int x1] h4 (fun r5 h6 => am_cl mX11_fromWhom d [.ref 73, .int x5] h6 (fun r7 h8 => Ru mX11_laysLine none d 28 [.ref 73, .int x1, .int x2, u3, .int r5, .int r7] [] h8 Z))))) : Ru mX11_laysLine none d 28 [.ref 73, .int x1, .int x2, u3, .int x4, .int x5] [] h Z := by
  refine st_iload dX11_laysLine_28 rfl ?_
  refine st_iconst (v := (-1)) dX11_laysLine_30 (by decide) ?_
  refine st_icmp_ne (tgt := 60) dX11_laysLine_31 (by decide) (fun c => ?_) (fun c => ?_)
  · replace w := w.1 c
    refine st_iload dX11_laysLine_60 rfl ?_
    refine st_istore_n (L' := [.ref 73, .int x1, .int x2, .int x4, .int x4, .int x5]) dX11_laysLine_62 (by decide) rfl ?_
    refine st_aload_n dX11_laysLine_63 rfl ?_
    refine st_getF (q := 111) fl_X11_122 fk_11_59 rfl dX11_laysLine_64 sh_73 ?_
    refine st_iload_n dX11_laysLine_67 rfl ?_
    refine st_iload_n dX11_laysLine_68 rfl ?_
    have hc1 := w.1
    replace w := w.2
    refine st_iast dX11_laysLine_69 sh_111 hc1 (fun h2 eh2 => ?_)
    replace w := w h2 eh2
    refine st_iload_n dX11_laysLine_70 rfl ?_
    refine st_iconst (v := 1) dX11_laysLine_71 (by decide) ?_
    refine st_iadd dX11_laysLine_72 ?_
    refine st_istore_n (L' := [.ref 73, .int x1, .int (x2 + 1), .int x4, .int x4, .int x5]) dX11_laysLine_73 (by decide) rfl ?_
    refine st_goto (tgt := 11) dX11_laysLine_74 (by decide) ?_
    exact w
  · replace w := w.2 c
    refine st_aload_n dX11_laysLine_34 rfl ?_
    refine st_aload_n dX11_laysLine_35 rfl ?_
    refine st_iload dX11_laysLine_36 rfl ?_
    refine st_callV (M' := mX11_fromWhom) [.int x5] [.ref 73] dX11_laysLine_38 ml_X11_412 mf_X11_fromWhom mv_X11_fromWhom sh_73 rfl rfl rfl w (fun r3 h4 w => ?_)
    show Ru mX11_laysLine none d 41 [.ref 73, .int x1, .int x2, u3, .int x4, .int x5] [.int r3, .ref 73] h4 Z
    refine st_iload dX11_laysLine_41 rfl ?_
    refine st_iload_n dX11_laysLine_43 rfl ?_
    refine st_callV (M' := mX11_nextHeir) [.int r3, .int x5, .int x1] [] dX11_laysLine_44 ml_X11_409 mf_X11_nextHeir mv_X11_nextHeir sh_73 rfl rfl rfl w (fun r5 h6 w => ?_)
    show Ru mX11_laysLine none d 47 [.ref 73, .int x1, .int x2, u3, .int x4, .int x5] [.int r5] h6 Z
    refine st_istore (L' := [.ref 73, .int x1, .int x2, u3, .int r5, .int x5]) dX11_laysLine_47 (by decide) rfl ?_
    refine st_aload_n dX11_laysLine_49 rfl ?_
    refine st_iload dX11_laysLine_50 rfl ?_
    refine st_callV (M' := mX11_fromWhom) [.int x5] [] dX11_laysLine_52 ml_X11_412 mf_X11_fromWhom mv_X11_fromWhom sh_73 rfl rfl rfl w (fun r7 h8 w => ?_)
    show Ru mX11_laysLine none d 55 [.ref 73, .int x1, .int x2, u3, .int r5, .int x5] [.int r7] h8 Z
    refine st_istore (L' := [.ref 73, .int x1, .int x2, u3, .int r5, .int r7]) dX11_laysLine_55 (by decide) rfl ?_
    refine st_goto (tgt := 28) dX11_laysLine_57 (by decide) ?_
    exact w
set_option maxRecDepth 20000 in
set_option maxHeartbeats 2000000 in
theorem sX11_nextHeir_0 {d : Nat} {h : am_H} {Z : Int32 → am_H → Prop} {x1 : Int32} {x2 : Int32} {x3 : Int32} (hd : 2 ≤ d) (w : Ru mX11_nextHeir none d 9 [.ref 73, .int x1, .int x2, .int x3, .int ((am_max x2 (0 : Int32)) + 1)] [] h Z) : Ru mX11_nextHeir none d 0 [.ref 73, .int x1, .int x2, .int x3, .null] [] h Z := by
  refine st_iload_n dX11_nextHeir_0 rfl ?_
  refine st_iconst (v := 0) dX11_nextHeir_1 (by decide) ?_
  refine st_callS (M' := mX11_max) [.int x2, .int 0] [] dX11_nextHeir_2 ml_X11_373 mf_X11_max ms_X11_max rfl rfl rfl (K := fun r h' => (am_max x2 (0 : Int32)) = r ∧ h = h') ⟨1, by omega, iX11_max ⟨rfl, rfl⟩⟩ (fun r1 h1 w1 => ?_)
  obtain ⟨rfl, rfl⟩ := w1
  show Ru mX11_nextHeir none d 5 [.ref 73, .int x1, .int x2, .int x3, .null] [.int (am_max x2 (0 : Int32))] h Z
  refine st_iconst (v := 1) dX11_nextHeir_5 (by decide) ?_
  refine st_iadd dX11_nextHeir_6 ?_
  refine st_istore (L' := [.ref 73, .int x1, .int x2, .int x3, .int ((am_max x2 (0 : Int32)) + 1)]) dX11_nextHeir_7 (by decide) rfl ?_
  exact w
set_option maxRecDepth 20000 in
set_option maxHeartbeats 2000000 in
theorem sX11_nextHeir_9 {d : Nat} {h : am_H} {Z : Int32 → am_H → Prop} {x1 : Int32} {u2 : Value} {x3 : Int32} {x4 : Int32} (w : (x3 ≤ x4 → Z (-1) h) ∧ (¬ (x3 ≤ x4) → am_cl mX11_fromWhom d [.ref 73, .int x4] h (fun r1 h2 => (¬ r1 = x1 → Ru mX11_nextHeir none d 9 [.ref 73, .int x1, u2, .int x3, .int (x4 + 1)] [] h2 Z) ∧ (r1 = x1 → Z x4 h2)))) : Ru mX11_nextHeir none d 9 [.ref 73, .int x1, u2, .int x3, .int x4] [] h Z := by
  refine st_iload dX11_nextHeir_9 rfl ?_
  refine st_iload_n dX11_nextHeir_11 rfl ?_
  refine st_icmp_ge (tgt := 34) dX11_nextHeir_12 (by decide) (fun c => ?_) (fun c => ?_)
  · replace w := w.1 c
    refine st_iconst (v := (-1)) dX11_nextHeir_34 (by decide) ?_
    exact st_ireturn rfl rfl dX11_nextHeir_35 w
  · replace w := w.2 c
    refine st_aload_n dX11_nextHeir_15 rfl ?_
    refine st_iload dX11_nextHeir_16 rfl ?_
    refine st_callV (M' := mX11_fromWhom) [.int x4] [] dX11_nextHeir_18 ml_X11_412 mf_X11_fromWhom mv_X11_fromWhom sh_73 rfl rfl rfl w (fun r1 h2 w => ?_)
    show Ru mX11_nextHeir none d 21 [.ref 73, .int x1, u2, .int x3, .int x4] [.int r1] h2 Z
    refine st_iload_n dX11_nextHeir_21 rfl ?_
    refine st_icmp_ne (tgt := 28) dX11_nextHeir_22 (by decide) (fun c => ?_) (fun c => ?_)
    · replace w := w.1 c
      refine st_iinc (L' := [.ref 73, .int x1, u2, .int x3, .int (x4 + 1)]) dX11_nextHeir_28 rfl rfl (by decide) rfl ?_
      refine st_goto (tgt := 9) dX11_nextHeir_31 (by decide) ?_
      exact w
    · replace w := w.2 c
      refine st_iload dX11_nextHeir_25 rfl ?_
      exact st_ireturn rfl rfl dX11_nextHeir_27 w
set_option maxRecDepth 20000 in
set_option maxHeartbeats 2000000 in
theorem sX11_fromWhom_0 {d : Nat} {h : am_H} {Z : Int32 → am_H → Prop} {x1 : Int32} (hd : 2 ≤ d) (w : (vp_in (x1 + 2) 260 ∧ (Z (h.2.2 80 (x1 + 2).toNatClampNeg &&& 255) h))) : Ru mX11_fromWhom none d 0 [.ref 73, .int x1] [] h Z := by
  refine st_aload_n dX11_fromWhom_0 rfl ?_
  refine st_iload_n dX11_fromWhom_1 rfl ?_
  refine st_iconst (v := 2) dX11_fromWhom_2 (by decide) ?_
  refine st_iadd dX11_fromWhom_3 ?_
  have hc1 := w.1
  replace w := w.2
  refine st_callV (M' := mX11_octet) [.int (x1 + 2)] [] dX11_fromWhom_4 ml_X11_388 mf_X11_octet mv_X11_octet sh_73 rfl rfl rfl (K := fun r h' => (h.2.2 80 (x1 + 2).toNatClampNeg &&& 255) = r ∧ h = h') ⟨1, by omega, iX11_octet hc1 ⟨rfl, rfl⟩⟩ (fun r1 h1 w1 => ?_)
  obtain ⟨rfl, rfl⟩ := w1
  show Ru mX11_fromWhom none d 7 [.ref 73, .int x1] [.int (h.2.2 80 (x1 + 2).toNatClampNeg &&& 255)] h Z
  exact st_ireturn rfl rfl dX11_fromWhom_7 w
def hj_ch (f : Nat → Nat) (x : Nat) : Nat → Nat → List Nat
  | 0, _ => []
  | m + 1, j => if f j = x then j :: hj_ch f x m (j + 1) else hj_ch f x m (j + 1)
def hj_R (f : Nat → Nat) (n : Nat) : Nat → Nat → List Nat
  | 0, _ => []
  | m + 1, x => if x = 0 then [] else hj_ch f (f x) (n - 1 - x) (x + 1) ++ hj_R f n m (f x)
def hj_w (f : Nat → Nat) (n : Nat) : Nat → Nat → Nat
  | 0 => fun _ => 1
  | m + 1 => am_un (hj_w f n m) (f (n - 1 - m)) (hj_w f n m (f (n - 1 - m)) + hj_w f n m (n - 1 - m))
def hj_s (w : Nat → Nat) : List Nat → Nat
  | [] => 0
  | x :: l => w x + hj_s w l
def hj_1 (l : List Nat) : Nat := match l with
  | [] => 0
  | y :: _ => y
def hj_hd (l : List Nat) : Int32 := match l with
  | [] => -1
  | y :: _ => nI y
def hj_stk (A : Nat → Int32) : List Nat → Prop
  | [] => True
  | c :: l => A l.length = nI c ∧ hj_stk A l
theorem hj_ch_s (f : Nat → Nat) (x m j : Nat) : hj_ch f x (m + 1) j = if f j = x then j :: hj_ch f x m (j + 1) else hj_ch f x m (j + 1) := rfl
theorem hj_dec (j : Nat) : nI (j + 1) + (-1) = nI j := by
  rw [← nI_1, Int32.add_assoc, show (1 : Int32) + -1 = 0 by decide, Int32.add_zero]
theorem hj_stk_u {A : Nat → Int32} {v : Int32} {k : Nat} : ∀ (l : List Nat), l.length ≤ k → hj_stk A l → hj_stk (upd A k v) l
  | [], _, _ => trivial
  | c :: l, hk, q => by
    have hk' : l.length + 1 ≤ k := hk
    refine ⟨?_, hj_stk_u l (by omega) q.2⟩
    unfold upd
    rw [if_neg (by omega)]; exact q.1
theorem hj_s_app (w : Nat → Nat) : ∀ (a b : List Nat), hj_s w (a ++ b) = hj_s w a + hj_s w b
  | [], b => by show hj_s w b = 0 + hj_s w b; omega
  | x :: a, b => by
    have := hj_s_app w a b
    show w x + hj_s w (a ++ b) = w x + hj_s w a + hj_s w b
    omega
theorem hj_len {w : Nat → Nat} (hw : ∀ x, 1 ≤ w x) : ∀ (l : List Nat), l.length ≤ hj_s w l
  | [] => Nat.le_refl _
  | x :: l => by
    have := hj_len hw l
    have := hw x
    show l.length + 1 ≤ w x + hj_s w l
    omega
theorem hj_lo (P : Nat → Prop) [DecidablePred P] (g : Nat → Nat) {j N : Nat} (hj : j < N) : am_sm (fun c => if j ≤ c ∧ P c then g c else 0) N = am_sm (fun c => if j + 1 ≤ c ∧ P c then g c else 0) N + (if P j then g j else 0) := by
  have a := am_sm_up (fun c => if j + 1 ≤ c ∧ P c then g c else 0) (if P j then g j else 0) hj
  have b : (if j + 1 ≤ j ∧ P j then g j else 0) = 0 := if_neg (fun q => by omega)
  rw [b] at a
  rw [← a]
  show _ = am_sm _ N + 0
  rw [Nat.add_zero]
  refine am_sm_cg N (fun k _ => ?_)
  by_cases c : k = j
  · subst c; simp
  · rw [if_neg c]
    by_cases c2 : j ≤ k
    · simp [c2, show j + 1 ≤ k by omega]
    · simp [c2, show ¬ j + 1 ≤ k by omega]
theorem hj_s_ch (f : Nat → Nat) (x : Nat) (w : Nat → Nat) : ∀ (m j : Nat), hj_s w (hj_ch f x m j) = am_sm (fun c => if j ≤ c ∧ f c = x then w c else 0) (j + m)
  | 0, j => by
    rw [am_sm_cg (g := fun _ => 0) (j + 0) (fun k hk => if_neg (fun q => by omega)), am_sm_c]
    rfl
  | m + 1, j => by
    have e := hj_s_ch f x w m (j + 1)
    rw [hj_lo (fun c => f c = x) w (show j < j + (m + 1) by omega), show j + (m + 1) = j + 1 + m by omega, ← e]
    rw [hj_ch_s]
    by_cases c : f j = x
    · rw [if_pos c, if_pos c]
      show w j + hj_s w _ = _
      omega
    · rw [if_neg c, if_neg c]; exact (Nat.add_zero _).symm
section
variable {f : Nat → Nat} {n : Nat}
theorem hj_w_e (hf : ∀ k, 1 ≤ k → k < n → f k < k) : ∀ (m : Nat), m < n → ∀ x, hj_w f n m x = 1 + am_sm (fun c => if n - m ≤ c ∧ f c = x then hj_w f n m c else 0) n
  | 0, _, x => by
    rw [am_sm_cg (g := fun _ => 0) n (fun k hk => if_neg (fun q => by omega)), am_sm_c]
    rfl
  | m + 1, hm, x => by
    have ih := hj_w_e hf m (by omega)
    have hj := hf (n - 1 - m) (by omega) (by omega)
    have hc : ∀ c, n - 1 - m ≤ c → hj_w f n (m + 1) c = hj_w f n m c := fun c hc => am_un_n _ _ (by omega)
    have e1 : am_sm (fun c => if n - (m + 1) ≤ c ∧ f c = x then hj_w f n (m + 1) c else 0) n = am_sm (fun c => if n - 1 - m ≤ c ∧ f c = x then hj_w f n m c else 0) n := am_sm_cg n (fun c _ => by
      rw [show n - (m + 1) = n - 1 - m by omega]
      by_cases q : n - 1 - m ≤ c ∧ f c = x
      · rw [if_pos q, if_pos q, hc c q.1]
      · rw [if_neg q, if_neg q])
    rw [e1, hj_lo (fun c => f c = x) (hj_w f n m) (show n - 1 - m < n by omega), show n - 1 - m + 1 = n - m by omega]
    have i := ih x
    show am_un (hj_w f n m) (f (n - 1 - m)) _ x = _
    unfold am_un
    by_cases c : f (n - 1 - m) = x
    · rw [if_pos c.symm, if_pos c, c]; omega
    · rw [if_neg (fun q => c q.symm), if_neg c]; omega
theorem hj_w_n (hf : ∀ k, 1 ≤ k → k < n → f k < k) : ∀ (m : Nat), m < n → am_sm (hj_w f n m) (n - m) = n
  | 0, _ => by
    show am_sm (fun _ => 1) n = n
    rw [am_sm_c]; omega
  | m + 1, hm => by
    have ih := hj_w_n hf m (by omega)
    have hj := hf (n - 1 - m) (by omega) (by omega)
    rw [show n - m = (n - (m + 1)) + 1 by omega, am_sm_s, show n - (m + 1) = n - 1 - m by omega] at ih
    rw [show n - (m + 1) = n - 1 - m by omega]
    have a := am_sm_up (hj_w f n m) (hj_w f n m (f (n - 1 - m)) + hj_w f n m (n - 1 - m)) hj
    have b : am_sm (hj_w f n (m + 1)) (n - 1 - m) = am_sm (fun k => if k = f (n - 1 - m) then hj_w f n m (f (n - 1 - m)) + hj_w f n m (n - 1 - m) else hj_w f n m k) (n - 1 - m) := rfl
    omega
theorem hj_R_f (hf : ∀ k, 1 ≤ k → k < n → f k < k) : ∀ (m x : Nat), x ≤ m → x < n → hj_R f n (m + 1) x = hj_R f n m x
  | 0, x, h, _ => by
    have : x = 0 := by omega
    subst this; rfl
  | m + 1, x, h, hn => by
    by_cases c : x = 0
    · subst c; rfl
    · have := hf x (by omega) hn
      show (if x = 0 then [] else _ ++ hj_R f n (m + 1) (f x)) = (if x = 0 then [] else _ ++ hj_R f n m (f x))
      rw [hj_R_f hf m (f x) (by omega) (by omega)]
abbrev hj_C (f : Nat → Nat) (n x : Nat) : List Nat := hj_ch f x (n - 1) 1
abbrev hj_r (f : Nat → Nat) (n x : Nat) : List Nat := hj_R f n 16 x
theorem hj_r_0 (f : Nat → Nat) (n : Nat) : hj_r f n 0 = [] := rfl
theorem hj_r_e (hf : ∀ k, 1 ≤ k → k < n → f k < k) (hn : n ≤ 16) {x : Nat} (h0 : 1 ≤ x) (hx : x < n) : hj_r f n x = hj_ch f (f x) (n - 1 - x) (x + 1) ++ hj_r f n (f x) := by
  have := hf x h0 hx
  show (if x = 0 then [] else _ ++ hj_R f n 15 (f x)) = _
  rw [if_neg (by omega), ← hj_R_f hf 15 (f x) (by omega) (by omega)]
theorem hj_ch_hd {x : Nat} : ∀ (m j y : Nat) (t : List Nat), hj_ch f x m j = y :: t → j ≤ y ∧ y < j + m ∧ f y = x ∧ t = hj_ch f x (j + m - 1 - y) (y + 1)
  | 0, j, y, t, e => by cases e
  | m + 1, j, y, t, e => by
    rw [hj_ch_s] at e
    by_cases c : f j = x
    · rw [if_pos c] at e
      obtain ⟨rfl, rfl⟩ := List.cons.inj e
      exact ⟨by omega, by omega, c, by rw [show j + (m + 1) - 1 - j = m by omega]⟩
    · rw [if_neg c] at e
      have := hj_ch_hd m (j + 1) y t e
      exact ⟨by omega, by omega, this.2.2.1, by rw [this.2.2.2, show j + 1 + m - 1 - y = j + (m + 1) - 1 - y by omega]⟩
theorem hj_R_hd (hf : ∀ k, 1 ≤ k → k < n → f k < k) (hn : n ≤ 16) : ∀ (m x : Nat), x ≤ m → x < n → ∀ y t, hj_r f n x = y :: t → 1 ≤ y ∧ y < n ∧ t = hj_r f n y
  | 0, x, hm, hx, y, t, e => by
    have : x = 0 := by omega
    subst this; cases e
  | m + 1, x, hm, hx, y, t, e => by
    by_cases c : x = 0
    · subst c; cases e
    · have hfx := hf x (by omega) hx
      rw [hj_r_e hf hn (by omega) hx] at e
      cases hc : hj_ch f (f x) (n - 1 - x) (x + 1) with
      | nil => rw [hc] at e; exact hj_R_hd hf hn m (f x) (by omega) (by omega) y t e
      | cons y' s =>
        rw [hc] at e
        obtain ⟨rfl, rfl⟩ := List.cons.inj e
        have q := hj_ch_hd _ _ _ _ hc
        refine ⟨by omega, by omega, ?_⟩
        rw [hj_r_e hf hn (x := y') (by omega) (by omega), q.2.2.1, q.2.2.2, show x + 1 + (n - 1 - x) - 1 - y' = n - 1 - y' by omega]
        rfl
theorem hj_cons (hf : ∀ k, 1 ≤ k → k < n → f k < k) (hn : n ≤ 16) {x y : Nat} {t : List Nat} (hx : x < n) (e : hj_C f n x ++ hj_r f n x = y :: t) : 1 ≤ y ∧ y < n ∧ t = hj_r f n y := by
  cases hc : hj_C f n x with
  | nil => rw [hc] at e; exact hj_R_hd hf hn x x (Nat.le_refl x) hx y t e
  | cons y' s =>
    rw [hc] at e
    obtain ⟨rfl, rfl⟩ := List.cons.inj e
    have q := hj_ch_hd _ _ _ _ hc
    refine ⟨by omega, by omega, ?_⟩
    rw [hj_r_e hf hn (x := y') (by omega) (by omega), q.2.2.1, q.2.2.2, show 1 + (n - 1) - 1 - y' = n - 1 - y' by omega]
    rfl
/-- the line -/
def hj_ln (f : Nat → Nat) (n : Nat) : Nat → Nat
  | 0 => 0
  | k + 1 => hj_1 (hj_C f n (hj_ln f n k) ++ hj_r f n (hj_ln f n k))
theorem hj_ws (hf : ∀ k, 1 ≤ k → k < n → f k < k) (h1 : 1 ≤ n) (x : Nat) : hj_w f n (n - 1) x = 1 + hj_s (hj_w f n (n - 1)) (hj_C f n x) := by
  rw [hj_w_e hf (n - 1) (by omega) x, hj_s_ch, show n - (n - 1) = 1 by omega, show 1 + (n - 1) = n by omega]
theorem hj_ln_ok (hf : ∀ k, 1 ≤ k → k < n → f k < k) (h1 : 1 ≤ n) (hn : n ≤ 16) : ∀ k, k < n → hj_ln f n k < n ∧ k + 1 + hj_s (hj_w f n (n - 1)) (hj_C f n (hj_ln f n k) ++ hj_r f n (hj_ln f n k)) = n
  | 0, hk => by
    refine ⟨hk, ?_⟩
    have a := hj_ws hf h1 0
    have b := hj_w_n hf (n - 1) (by omega)
    rw [show n - (n - 1) = 1 by omega] at b
    have b' : 0 + hj_w f n (n - 1) 0 = n := b
    show 0 + 1 + hj_s _ (hj_C f n 0 ++ hj_r f n 0) = n
    rw [hj_s_app, hj_r_0]
    show 0 + 1 + (_ + 0) = n
    omega
  | k + 1, hk => by
    have ih := hj_ln_ok hf h1 hn k (by omega)
    cases hc : hj_C f n (hj_ln f n k) ++ hj_r f n (hj_ln f n k) with
    | nil =>
      rw [hc] at ih
      have : k + 1 + 0 = n := ih.2
      omega
    | cons y t =>
      have q := hj_cons hf hn ih.1 hc
      have e : hj_ln f n (k + 1) = y := by
        show hj_1 (hj_C f n (hj_ln f n k) ++ hj_r f n (hj_ln f n k)) = y
        rw [hc]; rfl
      rw [hc] at ih
      have i2 : k + 1 + (hj_w f n (n - 1) y + hj_s (hj_w f n (n - 1)) t) = n := ih.2
      rw [hj_ws hf h1 y, q.2.2] at i2
      rw [e, hj_s_app]
      exact ⟨q.2.1, by omega⟩
theorem hj_step (hf : ∀ k, 1 ≤ k → k < n → f k < k) (h1 : 1 ≤ n) (hn : n ≤ 16) {k : Nat} (hk : k + 1 < n) : hj_C f n (hj_ln f n k) ++ hj_r f n (hj_ln f n k) = hj_ln f n (k + 1) :: hj_r f n (hj_ln f n (k + 1)) := by
  have ih := hj_ln_ok hf h1 hn k (by omega)
  cases hc : hj_C f n (hj_ln f n k) ++ hj_r f n (hj_ln f n k) with
  | nil =>
    rw [hc] at ih
    have : k + 1 + 0 = n := ih.2
    omega
  | cons y t =>
    have q := hj_cons hf hn ih.1 hc
    have e : hj_ln f n (k + 1) = y := by
      show hj_1 (hj_C f n (hj_ln f n k) ++ hj_r f n (hj_ln f n k)) = y
      rw [hc]; rfl
    rw [e, q.2.2]
theorem hj_ln_len (hf : ∀ k, 1 ≤ k → k < n → f k < k) (h1 : 1 ≤ n) (hn : n ≤ 16) {k : Nat} (hk : k < n) : (hj_C f n (hj_ln f n k) ++ hj_r f n (hj_ln f n k)).length ≤ 16 := by
  have a := (hj_ln_ok hf h1 hn k hk).2
  have b := hj_len (w := hj_w f n (n - 1)) (fun x => by rw [hj_w_e hf (n - 1) (by omega) x]; omega) (hj_C f n (hj_ln f n k) ++ hj_r f n (hj_ln f n k))
  omega
theorem hj_skip {x : Nat} : ∀ (i m j : Nat), (∀ k, j ≤ k → k < j + i → f k ≠ x) → hj_ch f x (i + m) j = hj_ch f x m (j + i)
  | 0, m, j, _ => by rw [Nat.zero_add, Nat.add_zero]
  | i + 1, m, j, h => by
    rw [show i + 1 + m = (i + m) + 1 by omega, hj_ch_s]
    rw [if_neg (h j (by omega) (by omega)), hj_skip i m (j + 1) (fun k h1 h2 => h k (by omega) (by omega)), show j + 1 + i = j + (i + 1) by omega]
theorem hj_C_e (hf : ∀ k, 1 ≤ k → k < n → f k < k) {y : Nat} (hy : y < n) : hj_C f n y = hj_ch f y (n - 1 - y) (y + 1) := by
  have := hj_skip (f := f) (x := y) y (n - 1 - y) 1 (fun k h1 h2 => by have := hf k h1 (by omega); omega)
  rw [show y + (n - 1 - y) = n - 1 by omega, show 1 + y = y + 1 by omega] at this
  exact this
theorem hj_chl {x : Nat} : ∀ (i m j : Nat), (hj_ch f x m (j + i)).length ≤ (hj_ch f x (i + m) j).length
  | 0, m, j => by rw [Nat.zero_add, Nat.add_zero]; exact Nat.le_refl _
  | i + 1, m, j => by
    have := hj_chl (x := x) i m (j + 1)
    rw [show j + 1 + i = j + (i + 1) by omega] at this
    rw [show i + 1 + m = (i + m) + 1 by omega]
    show _ ≤ (hj_ch f x ((i + m) + 1) j).length
    rw [show hj_ch f x ((i + m) + 1) j = if f j = x then j :: hj_ch f x (i + m) (j + 1) else hj_ch f x (i + m) (j + 1) from rfl]
    split
    · exact Nat.le_succ_of_le this
    · exact this
end
theorem hj_11 (h : am_H) (r r' A : Nat → Int32) : am_sR (am_sR (am_sR h 11 r) 12 A) 11 r' = am_sR (am_sR h 11 r') 12 A := by rw [am_sR_cm _ _ _ (by decide), am_sR_2]
section
variable {d n : Nat} {h : am_H} {Z : Int32 → am_H → Prop} {f : Nat → Nat}
theorem hj_psh {y : Nat} {x3 : Int32} {S : List Nat} {r : Nat → Int32} (hd : 2 ≤ d) (hn : n ≤ 16) (hy : y < n) (hat : ∀ k, 1 ≤ k → k < n → am_at h (nI (k + 2)) = nI (f k)) (fb : ∀ k, f k < 256) (hlen : (hj_C f n y ++ S).length ≤ 16) (z : ∀ A, hj_stk A (hj_ch f y (n - 1 - y) (y + 1) ++ S) → Ru mX6_layLine none d 11 [.ref 10, .int (nI n), .int (nI (hj_ch f y (n - 1 - y) (y + 1) ++ S).length), .int (x3 + 1), .int (nI y), .int (nI y)] [] (am_sR (am_sR h 11 r) 12 A) Z) : ∀ (m j : Nat) (A : Nat → Int32), j = y + m → j < n → hj_stk A (hj_ch f y (n - 1 - j) (j + 1) ++ S) → Ru mX6_layLine none d 44 [.ref 10, .int (nI n), .int (nI (hj_ch f y (n - 1 - j) (j + 1) ++ S).length), .int x3, .int (nI y), .int (nI j)] [] (am_sR (am_sR h 11 r) 12 A) Z
  | 0, j, A, hj, hjn, hs => by
    have : j = y := by omega
    subst this
    exact sX6_layLine_44 hd ⟨fun _ => z A hs, fun c => absurd (Int32.le_refl _) c⟩
  | m + 1, j, A, hj, hjn, hs => by
    obtain ⟨i, rfl⟩ : ∃ i, j = i + 1 := ⟨j - 1, by omega⟩
    have e2 : nI (i + 1) + 2 = nI (i + 1 + 2) := nI_add (i + 1) 2
    have ea : am_at (am_sR (am_sR h 11 r) 12 A) (nI (i + 1 + 2)) = nI (f (i + 1)) := by rw [am_at_sR _ _ _ (by decide), am_at_sR _ _ _ (by decide)]; exact hat (i + 1) (by omega) hjn
    have el : hj_ch f y (n - 1 - i) (i + 1) = if f (i + 1) = y then (i + 1) :: hj_ch f y (n - 1 - (i + 1)) (i + 1 + 1) else hj_ch f y (n - 1 - (i + 1)) (i + 1 + 1) := by
      rw [show n - 1 - i = (n - 1 - (i + 1)) + 1 by omega]; rfl
    have hb := fb (i + 1)
    have lb : (hj_ch f y (n - 1 - (i + 1)) (i + 1 + 1) ++ S).length ≤ 16 := by
      have := hj_chl (f := f) (x := y) (i + 1) (n - 1 - (i + 1)) 1
      rw [show i + 1 + (n - 1 - (i + 1)) = n - 1 by omega, show 1 + (i + 1) = i + 1 + 1 by omega] at this
      have hlen' : (hj_ch f y (n - 1) 1 ++ S).length ≤ 16 := hlen
      rw [List.length_append] at hlen' ⊢
      omega
    refine sX6_layLine_44 hd ⟨fun c => absurd c (nI_ge (by omega) (by omega)), fun _ => ?_⟩
    rw [e2, ea, hj_dec, nI_eq (by omega) (by omega)]
    refine ⟨fun c => ?_, fun c => ⟨fun q => absurd q (nI_ge (b := 24) (by omega) (by omega)), fun _ => ⟨vp_in_nI (by omega) (by omega), fun h2 e2 => ?_⟩⟩⟩
    · rw [if_neg c] at el
      have := hj_psh hd hn hy hat fb hlen z m i A (by omega) (by omega) (by rw [el]; exact hs)
      rw [el] at this; exact this
    · rw [if_pos c] at el
      rw [nI_clamp (by omega), am_gRs, am_sR_2] at e2
      subst e2
      rw [nI_1]
      have := hj_psh hd hn hy hat fb hlen z m i (upd A (hj_ch f y (n - 1 - (i + 1)) (i + 1 + 1) ++ S).length (nI (i + 1))) (by omega) (by omega) (by
        rw [el]
        refine ⟨?_, hj_stk_u _ (Nat.le_refl _) hs⟩
        show upd _ _ _ _ = _
        unfold upd; exact if_pos rfl)
      rw [el] at this; exact this
theorem hj_lay (hd : 2 ≤ d) (h1 : 1 ≤ n) (hn : n ≤ 16) (hf : ∀ k, 1 ≤ k → k < n → f k < k) (hat : ∀ k, 1 ≤ k → k < n → am_at h (nI (k + 2)) = nI (f k)) (fb : ∀ k, f k < 256) (z : ∀ r A, (∀ i, i < n → r i = nI (hj_ln f n i)) → Z 0 (am_sR (am_sR h 11 r) 12 A)) : ∀ (m k : Nat) (l : List Nat) (r A : Nat → Int32) (u4 u5 : Value), k + m = n → (k < n → l = hj_ln f n k :: hj_r f n (hj_ln f n k)) → l.length ≤ 16 → hj_stk A l → (∀ i, i < k → r i = nI (hj_ln f n i)) → Ru mX6_layLine none d 11 [.ref 10, .int (nI n), .int (nI l.length), .int (nI k), u4, u5] [] (am_sR (am_sR h 11 r) 12 A) Z
  | 0, k, l, r, A, u4, u5, hk, hl, hll, hs, hr => by
    have ek : k = n := by omega
    subst ek
    exact sX6_layLine_11 ⟨fun _ => z r A hr, fun c => absurd (Int32.le_refl _) c⟩
  | m + 1, k, l, r, A, u4, u5, hk, hl, hll, hs, hr => by
    have hlk := hl (by omega)
    subst hlk
    have ok := hj_ln_ok hf h1 hn k (by omega)
    have hll' : (hj_r f n (hj_ln f n k)).length + 1 ≤ 16 := hll
    refine sX6_layLine_11 ⟨fun c => absurd c (nI_ge (by omega) (by omega)), fun _ => ⟨fun c => absurd c (nI_ge (a := 0) (show 0 < (hj_r f n (hj_ln f n k)).length + 1 by omega) (by omega)), fun _ => ?_⟩⟩
    have ed : nI (hj_ln f n k :: hj_r f n (hj_ln f n k)).length + (-1) = nI (hj_r f n (hj_ln f n k)).length := hj_dec _
    have ej : nI n - 1 = nI (n - 1) := pk_sub (b := 1) h1
    have ea : A (hj_r f n (hj_ln f n k)).length = nI (hj_ln f n k) := hs.1
    rw [ed, ej]
    refine ⟨vp_in_nI (by omega) (by omega), vp_in_nI (by omega) (by omega), fun h3 e3 => ?_⟩
    rw [nI_clamp (by omega), nI_clamp (by omega), am_gRs, am_gR, if_neg (by decide), am_gRs, ea, hj_11] at e3
    subst e3
    rw [nI_clamp (by omega), am_gRs, ea]
    have w := hj_psh (h := h) (Z := Z) (x3 := nI k) (S := hj_r f n (hj_ln f n k)) (r := upd r k (nI (hj_ln f n k))) hd hn ok.1 hat fb (hj_ln_len hf h1 hn (by omega)) (fun A' hs' => by
      rw [nI_1]
      rw [← hj_C_e hf ok.1] at hs' ⊢
      refine hj_lay hd h1 hn hf hat fb z m (k + 1) _ _ _ _ _ (by omega) (fun hk1 => hj_step hf h1 hn hk1) (hj_ln_len hf h1 hn (by omega)) hs' (fun i hi => ?_)
      unfold upd
      by_cases c : i = k
      · rw [if_pos c, c]
      · rw [if_neg c]; exact hr i (by omega)) (n - 1 - hj_ln f n k) (n - 1) A (by omega) (by omega) (by
        rw [show n - 1 - (n - 1) = 0 by omega]; exact hs.2)
    rw [show n - 1 - (n - 1) = 0 by omega] at w
    exact w
theorem iX6_layLine (hd : 2 ≤ d) (h1 : 1 ≤ n) (hn : n ≤ 16) (hf : ∀ k, 1 ≤ k → k < n → f k < k) (hat : ∀ k, 1 ≤ k → k < n → am_at h (nI (k + 2)) = nI (f k)) (fb : ∀ k, f k < 256) (z : ∀ r A, (∀ i, i < n → r i = nI (hj_ln f n i)) → Z 0 (am_sR (am_sR h 11 r) 12 A)) : Sp mX6_layLine d [.ref 10, .int (nI n)] h Z := by
  refine Sp_of mf_X6_layLine rfl (Nat.le_of_ble_eq_true rfl) rfl (sX6_layLine_0 (fun h2 e2 => ?_))
  have w := hj_lay (d := d) (h := h) (Z := Z) hd h1 hn hf hat fb z n 0 [0] (h.2.2 11) (upd (h.2.2 12) 0 0) .null .null (by omega) (fun _ => by
    show [0] = 0 :: hj_r f n 0
    rw [hj_r_0]) (by show 1 ≤ 16; omega) ⟨by show upd _ 0 _ 0 = _; unfold upd; exact if_pos rfl, trivial⟩ (fun i hi => absurd hi (Nat.not_lt_zero i))
  rw [am_sR_self] at w
  subst e2
  exact w
/-- the as manieth whole one of the line -/
def hj_an (f : Nat → Nat) (n : Nat) (br i : Int32) : Nat → Nat → Int32 → Int32
  | 0, _, _ => -4
  | m + 1, k, wh => if am_has br (nI (hj_ln f n k)) then hj_an f n br i m (k + 1) wh else if wh = i then nI (hj_ln f n k) else hj_an f n br i m (k + 1) (wh + 1)
theorem hj_b01 (x : Int32) : x &&& 1 = 0 ↔ ¬ x &&& 1 = 1 := by
  have ex : ∃ j : Nat, j < 2 ∧ x &&& 1 = nI j := pk_andE x 1 (by decide)
  obtain ⟨j, hj, e'⟩ := ex
  rw [e']
  have : j = 0 ∨ j = 1 := by omega
  rcases this with rfl | rfl <;> decide
theorem x_h62 {br i : Int32} (hn : n ≤ 16) (hr : ∀ k, k < n → h.2.2 11 k = nI (hj_ln f n k)) : ∀ (m k : Nat) (wh : Int32), k + m = n → Z (hj_an f n br i m k wh) h → Ru mX6_heirInLine none d 62 [.ref 10, .int (nI n), .int i, .int br, .int wh, .int (nI k)] [] h Z
  | 0, k, wh, hk, z => by
    have ek : k = n := by omega
    subst ek
    exact sX6_heirInLine_62 ⟨fun _ => z, fun c => absurd (Int32.le_refl _) c⟩
  | m + 1, k, wh, hk, z => by
    refine sX6_heirInLine_62 ⟨fun c => absurd c (nI_ge (by omega) (by omega)), fun _ => ⟨vp_in_nI (by omega) (by omega), ?_⟩⟩
    rw [nI_clamp (by omega), hr k (by omega), nI_1, hj_b01]
    unfold hj_an at z
    refine ⟨fun c => ?_, fun c => ⟨fun c2 => ?_, fun c2 => ?_⟩⟩
    · rw [if_pos (Decidable.not_not.mp c)] at z; exact x_h62 hn hr m (k + 1) wh (by omega) z
    · rw [if_neg c, if_neg c2] at z; exact x_h62 hn hr m (k + 1) (wh + 1) (by omega) z
    · rw [if_neg c, if_pos c2] at z; exact z
theorem m_h88 {br i : Int32} (hd : 2 ≤ d) (hn : n ≤ 16) (hr : ∀ k, k < n → h.2.2 111 k = nI (hj_ln f n k)) : ∀ (m k : Nat) (wh : Int32), k + m = n → Z (hj_an f n br i m k (wh + 1)) h → Ru mX11_heirs none d 88 [.ref 73, .int (nI n), .int i, .int br, .int wh, .int (nI k)] [] h Z
  | 0, k, wh, hk, z => by
    have ek : k = n := by omega
    subst ek
    exact sX11_heirs_88 hd ⟨fun _ => z, fun c => absurd (Int32.le_refl _) c⟩
  | m + 1, k, wh, hk, z => by
    refine sX11_heirs_88 hd ⟨fun c => absurd c (nI_ge (by omega) (by omega)), fun _ => ⟨vp_in_nI (by omega) (by omega), ?_⟩⟩
    rw [nI_clamp (by omega), hr k (by omega), nI_1]
    unfold hj_an at z
    refine ⟨fun c => ⟨fun c2 => ?_, fun c2 => ?_⟩, fun c => ?_⟩
    · rw [if_neg c, if_neg c2] at z; exact m_h88 hd hn hr m (k + 1) (wh + 1) (by omega) z
    · rw [if_neg c, if_pos c2] at z; exact z
    · rw [if_pos c] at z; exact m_h88 hd hn hr m (k + 1) wh (by omega) z
/-- the answer of both -/
def hj_val (f : Nat → Nat) (n : Nat) : Prop := ∀ k, 1 ≤ k → k < n → f k < k
theorem x_h2 {i : Int32} (hd : 4 ≤ d) (h1 : 1 ≤ n) (hn : n ≤ 16) (hat : ∀ k, 1 ≤ k → k < n → am_at h (nI (k + 2)) = nI (f k)) (fb : ∀ k, f k < 256) (z1 : hj_val f n → ∀ r A, Z (hj_an f n (((am_at h (0 : Int32)) <<< (8 &&& 31)) ||| (am_at h (1 : Int32))) i n 0 0) (am_sR (am_sR h 11 r) 12 A)) (z2 : ¬ hj_val f n → Z (-3) h) : ∀ (m k : Nat) (u4 u5 : Value), k + m = n → 1 ≤ k → (∀ j, 1 ≤ j → j < k → f j < j) → Ru mX6_heirInLine none d 2 [.ref 10, .int (nI n), .int i, .int (nI k), u4, u5] [] h Z
  | 0, k, u4, u5, hk, hk1, hv => by
    have ek : k = n := by omega
    subst ek
    refine sX6_heirInLine_2 (by omega) ⟨fun _ => ⟨3, by omega, iX6_layLine (by omega) h1 hn hv hat fb (fun r A hr => ?_)⟩, fun c => absurd (Int32.le_refl _) c⟩
    have ea : ∀ x, am_at (am_sR (am_sR h 11 r) 12 A) x = am_at h x := fun x => by rw [am_at_sR _ _ _ (by decide), am_at_sR _ _ _ (by decide)]
    rw [ea, ea]
    exact x_h62 hn (fun k hk => by rw [am_gR, if_neg (by decide), am_gRs]; exact hr k hk) k 0 0 (by omega) (z1 hv r A)
  | m + 1, k, u4, u5, hk, hk1, hv => by
    have hb := fb k
    have e2 : nI k + 2 = nI (k + 2) := nI_add k 2
    refine sX6_heirInLine_2 (by omega) ⟨fun c => absurd c (nI_ge (by omega) (by omega)), fun _ => ?_⟩
    rw [e2, hat k hk1 (by omega), nI_1, nI_ltI (by omega) (by omega)]
    refine ⟨fun c => ?_, fun c => z2 (fun q => c (q k hk1 (by omega)))⟩
    refine x_h2 hd h1 hn hat fb z1 z2 m (k + 1) _ _ (by omega) (by omega) (fun j hj1 hj2 => ?_)
    by_cases cj : j = k
    · rw [cj]; exact c
    · exact hv j hj1 (by omega)
theorem iX11_fromWhom {k : Nat} (hd : 2 ≤ d) (hk : k < 16) (e : h.2.2 80 (k + 2) &&& 255 = nI (f k)) (z : Z (nI (f k)) h) : Sp mX11_fromWhom d [.ref 73, .int (nI k)] h Z := by
  refine Sp_of mf_X11_fromWhom rfl (Nat.le_of_ble_eq_true rfl) rfl (sX11_fromWhom_0 hd ?_)
  rw [show nI k + 2 = nI (k + 2) from nI_add k 2, nI_clamp (by omega), e]
  exact ⟨vp_in_nI (by omega) (by omega), z⟩
theorem m_nxt {a : Nat} {u2 : Value} (hd : 3 ≤ d) (hn : n ≤ 16) (ha : a < 256) (fb : ∀ k, f k < 256) (he : ∀ k, k < n → h.2.2 80 (k + 2) &&& 255 = nI (f k)) : ∀ (m k : Nat), k + m = n → Z (hj_hd (hj_ch f a m k)) h → Ru mX11_nextHeir none d 9 [.ref 73, .int (nI a), u2, .int (nI n), .int (nI k)] [] h Z
  | 0, k, hk, z => by
    have ek : k = n := by omega
    subst ek
    exact sX11_nextHeir_9 ⟨fun _ => z, fun c => absurd (Int32.le_refl _) c⟩
  | m + 1, k, hk, z => by
    have hb := fb k
    refine sX11_nextHeir_9 ⟨fun c => absurd c (nI_ge (by omega) (by omega)), fun _ => ⟨2, by omega, iX11_fromWhom (by omega) (by omega) (he k (by omega)) ?_⟩⟩
    rw [nI_eq (by omega) (by omega), nI_1]
    rw [hj_ch_s] at z
    refine ⟨fun c => ?_, fun c => ?_⟩
    · rw [if_neg c] at z; exact m_nxt hd hn ha fb he m (k + 1) (by omega) z
    · rw [if_pos c] at z; exact z
theorem iX11_nextHeir {a b : Nat} {x2 : Int32} (hd : 3 ≤ d) (hn : n ≤ 16) (hb : b < n) (hx : am_max x2 0 = nI b) (ha : a < 256) (fb : ∀ k, f k < 256) (he : ∀ k, k < n → h.2.2 80 (k + 2) &&& 255 = nI (f k)) (z : Z (hj_hd (hj_ch f a (n - 1 - b) (b + 1))) h) : Sp mX11_nextHeir d [.ref 73, .int (nI a), .int x2, .int (nI n)] h Z := by
  refine Sp_of mf_X11_nextHeir rfl (Nat.le_of_ble_eq_true rfl) rfl (sX11_nextHeir_0 (by omega) ?_)
  rw [hx, nI_1]
  exact m_nxt hd hn ha fb he (n - 1 - b) (b + 1) (by omega) z
theorem m_up {x2 : Int32} {u3 : Value} {y : Nat} {t : List Nat} (hd : 5 ≤ d) (hn : n ≤ 16) (hf : ∀ k, 1 ≤ k → k < n → f k < k) (fb : ∀ k, f k < 256) (he : ∀ k, k < n → h.2.2 80 (k + 2) &&& 255 = nI (f k)) (z : ∀ u5, Ru mX11_laysLine none d 28 [.ref 73, .int (nI n), .int x2, u3, .int (nI y), .int u5] [] h Z) : ∀ (m v : Nat) (l : List Nat), v ≤ m → v < n → l ++ hj_r f n v = y :: t → Ru mX11_laysLine none d 28 [.ref 73, .int (nI n), .int x2, u3, .int (hj_hd l), .int (nI v)] [] h Z
  | m, v, y' :: s, hm, hv, e => by
    obtain ⟨rfl, _⟩ := List.cons.inj e
    exact z _
  | 0, v, [], hm, hv, e => by
    have : v = 0 := by omega
    subst this
    cases e
  | m + 1, v, [], hm, hv, e => by
    by_cases c : v = 0
    · subst c; cases e
    · have hfv := hf v (by omega) hv
      rw [List.nil_append, hj_r_e hf hn (by omega) hv] at e
      refine sX11_laysLine_28 ⟨fun q => absurd rfl q, fun _ => ⟨4, by omega, iX11_fromWhom (by omega) (by omega) (he v hv) ⟨4, by omega, iX11_nextHeir (b := v) (by omega) hn hv ?_ (fb v) fb he ⟨4, by omega, iX11_fromWhom (by omega) (by omega) (he v hv) ?_⟩⟩⟩⟩
      · exact am_max_of (nI_pos' (by omega))
      · exact m_up hd hn hf fb he z m (f v) _ (by omega) (by omega) e
theorem m_lay (hd : 5 ≤ d) (h1 : 1 ≤ n) (hn : n ≤ 16) (hf : ∀ k, 1 ≤ k → k < n → f k < k) (fb : ∀ k, f k < 256) (he : ∀ k, k < n → h.2.2 80 (k + 2) &&& 255 = nI (f k)) (z : ∀ r, (∀ i, i < n → r i = nI (hj_ln f n i)) → Z 0 (am_sR h 111 r)) : ∀ (m k : Nat) (r : Nat → Int32) (u4 u5 : Value), k + 1 + m = n → (∀ i, i < k + 1 → r i = nI (hj_ln f n i)) → Ru mX11_laysLine none d 11 [.ref 73, .int (nI n), .int (nI (k + 1)), .int (nI (hj_ln f n k)), u4, u5] [] (am_sR h 111 r) Z
  | 0, k, r, u4, u5, hk, hr => by
    have ek : n = k + 1 := by omega
    exact sX11_laysLine_11 ⟨fun _ => z r (fun i hi => hr i (by omega)), fun c => absurd (by rw [ek]; exact Int32.le_refl _) c⟩
  | m + 1, k, r, u4, u5, hk, hr => by
    have ok := hj_ln_ok hf h1 hn k (by omega)
    have he' : ∀ k, k < n → (am_sR h 111 r).2.2 80 (k + 2) &&& 255 = nI (f k) := fun k hk => by rw [am_gR, if_neg (by decide)]; exact he k hk
    refine sX11_laysLine_11 ⟨fun c => absurd c (nI_ge (by omega) (by omega)), fun _ => ⟨4, by omega, iX11_nextHeir (b := 0) (by omega) hn (by omega) (by decide) (by omega) fb he' ?_⟩⟩
    have st := hj_step hf h1 hn (k := k) (by omega)
    refine m_up hd hn hf fb he' (fun u5 => ?_) (hj_ln f n k) (hj_ln f n k) _ (Nat.le_refl _) ok.1 (by rw [show n - 1 - 0 = n - 1 by omega]; exact st)
    have ok2 := hj_ln_ok hf h1 hn (k + 1) (by omega)
    refine sX11_laysLine_28 ⟨fun _ => ⟨vp_in_nI (by omega) (by omega), fun h2 e2 => ?_⟩, fun q => absurd (show (-1 : Int32) < 0 by decide) (by rw [← q]; exact nI_pos (by omega))⟩
    rw [nI_clamp (by omega), am_gRs, am_sR_2] at e2
    subst e2
    rw [nI_1]
    refine m_lay hd h1 hn hf fb he z m (k + 1) _ _ _ (by omega) (fun i hi => ?_)
    unfold upd
    by_cases c : i = k + 1
    · rw [if_pos c, c]
    · rw [if_neg c]; exact hr i (by omega)
theorem iX11_laysLine (hd : 5 ≤ d) (h1 : 1 ≤ n) (hn : n ≤ 16) (hf : ∀ k, 1 ≤ k → k < n → f k < k) (fb : ∀ k, f k < 256) (he : ∀ k, k < n → h.2.2 80 (k + 2) &&& 255 = nI (f k)) (z : ∀ r, (∀ i, i < n → r i = nI (hj_ln f n i)) → Z 0 (am_sR h 111 r)) : Sp mX11_laysLine d [.ref 73, .int (nI n)] h Z := by
  refine Sp_of mf_X11_laysLine rfl (Nat.le_of_ble_eq_true rfl) rfl (sX11_laysLine_0 (fun h2 e2 => ?_))
  subst e2
  exact m_lay hd h1 hn hf fb he z (n - 1) 0 _ _ _ (by omega) (fun i hi => by
    have : i = 0 := by omega
    subst this
    unfold upd; exact if_pos rfl)
theorem m_h39 {i : Int32} (hd : 7 ≤ d) (h1 : 1 ≤ n) (hn : n ≤ 16) (fb : ∀ k, f k < 256) (he : ∀ k, k < n → h.2.2 80 (k + 2) &&& 255 = nI (f k)) (z1 : hj_val f n → ∀ r, Z (hj_an f n (((h.2.2 80 0 &&& 255) <<< (8 &&& 31)) ||| (h.2.2 80 1 &&& 255)) i n 0 0) (am_sR h 111 r)) (z2 : ¬ hj_val f n → Z (-3) h) : ∀ (m k : Nat) (u4 u5 : Value), k + m = n → 1 ≤ k → (∀ j, 1 ≤ j → j < k → f j < j) → Ru mX11_heirs none d 39 [.ref 73, .int (nI n), .int i, .int (nI k), u4, u5] [] h Z
  | 0, k, u4, u5, hk, hk1, hv => by
    have ek : k = n := by omega
    subst ek
    refine sX11_heirs_39 (by omega) ⟨fun _ => ⟨6, by omega, iX11_laysLine (by omega) h1 hn hv fb he (fun r hr => ⟨show vp_in (nI 0) 260 from vp_in_nI (by omega) (by omega), show vp_in (nI 1) 260 from vp_in_nI (by omega) (by omega), ?_⟩)⟩, fun c => absurd (Int32.le_refl _) c⟩
    have ea : (am_sR h 111 r).2.2 80 = h.2.2 80 := by rw [am_gR, if_neg (by decide)]
    rw [ea]
    exact m_h88 (by omega) hn (fun k hk => by rw [am_gRs]; exact hr k hk) k 0 (-1) (by omega) (z1 hv r)
  | m + 1, k, u4, u5, hk, hk1, hv => by
    have hb := fb k
    refine sX11_heirs_39 (by omega) ⟨fun c => absurd c (nI_ge (by omega) (by omega)), fun _ => ⟨6, by omega, iX11_fromWhom (by omega) (by omega) (he k (by omega)) ?_⟩⟩
    rw [nI_1, nI_ltI (by omega) (by omega)]
    refine ⟨fun c => ?_, fun c => z2 (fun q => c (q k hk1 (by omega)))⟩
    refine m_h39 hd h1 hn fb he z1 z2 m (k + 1) _ _ (by omega) (by omega) (fun j hj1 hj2 => ?_)
    by_cases cj : j = k
    · rw [cj]; exact c
    · exact hv j hj1 (by omega)
end
theorem pp_heirs {d : Nat} {h : am_H} {K : Int32 → Int32 → am_H → Prop} {x y : Int32} {N : Nat} (hd : 12 ≤ d) (ht : am_tape h N) (z : ∀ r h', am_step h h' → K r r h') : am_cl mX10_heirs d [.ref 0, .int x, .int y] h (fun r1 h1 => am_cl mX11_heirs d [.ref 73, .int x, .int y] h1 (fun r2 h2 => K r1 r2 h2)) := by
  have hN := ht.1
  have z0 : K (-1) (-1) h := z _ _ (am_step_rf h)
  have m0 : ∀ {h0 : am_H} {Z : Int32 → am_H → Prop}, _ → am_cl mX11_heirs d [.ref 73, .int x, .int y] h0 Z := fun {h0 Z} w => ⟨10, by omega, Sp_of mf_X11_heirs rfl (Nat.le_of_ble_eq_true rfl) rfl (sX11_heirs_0 (by omega) w)⟩
  refine ⟨10, by omega, Sp_of mf_X10_heirs rfl (Nat.le_of_ble_eq_true rfl) rfl (sX10_heirs_0 (by omega) ⟨fun c1 => m0 ⟨fun _ => z0, fun q => absurd q c1⟩, fun c1 => ⟨fun c2 => m0 ⟨fun q => absurd c1 q, fun _ => ⟨fun _ => z0, fun q => absurd q c2⟩⟩, fun c2 => ⟨fun c3 => ?_, fun c3 => m0 ⟨fun q => absurd c1 q, fun _ => ⟨fun q => absurd c2 q, fun _ => ⟨fun q => absurd (by rw [ht.2.1, ← ht.2.2.1]; exact q) c3, fun _ => z0⟩⟩⟩⟩⟩⟩)⟩
  obtain ⟨n, hn, rfl⟩ := am_natle (N := 16) (by omega) (Int32.le_trans (by decide) c1.1) c1.2
  have h1 : 1 ≤ n := (nI_leI (a := 1) (by omega) (by omega)).mp c1.1
  have c4 : n + 2 ≤ N := by
    rw [show nI n + 2 = nI (n + 2) from nI_add n 2, ht.2.1] at c3
    exact (nI_leI (by omega) (by omega)).mp c3
  have a0 : am_at h (0 : Int32) = h.2.2 80 0 &&& 255 := am_at_n ht (i := 0) (by omega)
  have a1 : am_at h (1 : Int32) = h.2.2 80 1 &&& 255 := am_at_n ht (i := 1) (by omega)
  have fin : ∀ r h0, am_keep h h0 → h0.1 73 9 = h.1 73 9 → h0.2.2 80 = h.2.2 80 → h0.1 1 1 = 0 → (hj_val (fun k => am_bt h (k + 2)) n → r = hj_an (fun k => am_bt h (k + 2)) n (((h.2.2 80 0 &&& 255) <<< (8 &&& 31)) ||| (h.2.2 80 1 &&& 255)) y n 0 0) → (¬ hj_val (fun k => am_bt h (k + 2)) n → r = -3) → am_cl mX11_heirs d [.ref 73, .int (nI n), .int y] h0 (fun r2 h2 => K r r2 h2) := by
    intro r h0 hk h9 h80 h11 hr1 hr2
    refine m0 ⟨fun q => absurd c1 q, fun _ => ⟨fun q => absurd c2 q, fun _ => ⟨fun _ h1' e1 => ?_, fun q => absurd (by rw [h9, ht.2.2.1, ← ht.2.1]; exact c3) q⟩⟩⟩
    have st : am_step h h1' := by
      rw [e1]
      refine am_step_x (am_keep_sI hk (by decide)) ?_ ?_
      · rw [am_gI, if_neg (by decide)]; exact h11
      · rw [am_gI, if_pos ⟨rfl, rfl⟩]
    have e80 : h1'.2.2 80 = h.2.2 80 := by rw [e1, am_gI2, h80]
    refine m_h39 (f := fun k => am_bt h (k + 2)) (by omega) h1 hn (fun k => am_bt_lt h (k + 2)) (fun k _ => by rw [e80]; exact am_bt_e h (k + 2)) (fun hv r2 => ?_) (fun hv => ?_) (n - 1) 1 _ _ (by omega) (Nat.le_refl 1) (fun j q1 q2 => by omega)
    · rw [e80, ← hr1 hv]
      exact z _ _ ⟨am_keep_sR st.1 (by decide), st.2⟩
    · rw [hr2 hv]; exact z _ _ st
  refine ⟨8, by omega, Sp_of mf_X6_heirInLine rfl (Nat.le_of_ble_eq_true rfl) rfl (sX6_heirInLine_0 (x_h2 (f := fun k => am_bt h (k + 2)) (by omega) h1 hn (fun k _ hk => am_at_b ht (by omega)) (fun k => am_bt_lt h (k + 2)) (fun hv r A => ?_) (fun hv => ?_) (n - 1) 1 _ _ (by omega) (Nat.le_refl 1) (fun j q1 q2 => by omega)))⟩
  · rw [a0, a1]
    exact fin _ _ (am_keep_sI (am_keep_sR (am_keep_sR (am_keep_rf h) (by decide)) (by decide)) (by decide)) (by rw [am_gI, if_neg (by decide)]; rfl) (by rw [am_gI2, am_gR, if_neg (by decide), am_gR, if_neg (by decide)]) (by rw [am_gI, if_pos ⟨rfl, rfl⟩]) (fun _ => rfl) (fun q => absurd hv q)
  · exact fin _ _ (am_keep_sI (am_keep_rf h) (by decide)) (by rw [am_gI, if_neg (by decide)]) (by rw [am_gI2]) (by rw [am_gI, if_pos ⟨rfl, rfl⟩]) (fun q => absurd q hv) (fun _ => rfl)
