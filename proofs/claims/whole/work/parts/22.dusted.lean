-- dusted
set_option maxRecDepth 20000 in
set_option maxHeartbeats 2000000 in
theorem sX6_longestRising_0 {d : Nat} {h : am_H} {Z : Int32 → am_H → Prop} {x1 : Int32} (w : Ru mX6_longestRising none d 4 [.ref 10, .int x1, .int 0, .int 0, .null] [] h Z) : Ru mX6_longestRising none d 0 [.ref 10, .int x1, .null, .null, .null] [] h Z := by
  refine st_iconst (v := 0) dX6_longestRising_0 (by decide) ?_
  refine st_istore_n (L' := [.ref 10, .int x1, .int 0, .null, .null]) dX6_longestRising_1 (by decide) rfl ?_
  refine st_iconst (v := 0) dX6_longestRising_2 (by decide) ?_
  refine st_istore_n (L' := [.ref 10, .int x1, .int 0, .int 0, .null]) dX6_longestRising_3 (by decide) rfl ?_
  exact w
set_option maxRecDepth 20000 in
set_option maxHeartbeats 2000000 in
theorem sX6_longestRising_4 {d : Nat} {h : am_H} {Z : Int32 → am_H → Prop} {x1 : Int32} {x2 : Int32} {x3 : Int32} {u4 : Value} (w : (x1 ≤ x3 → Z x2 h) ∧ (¬ (x1 ≤ x3) → (vp_in x3 24 ∧ (∀ h2 : am_H, h2 = am_sR h 11 (upd (h.2.2 11) x3.toNatClampNeg 1) → (Ru mX6_longestRising none d 19 [.ref 10, .int x1, .int x2, .int x3, .int 0] [] h2 Z))))) : Ru mX6_longestRising none d 4 [.ref 10, .int x1, .int x2, .int x3, u4] [] h Z := by
  refine st_iload_n dX6_longestRising_4 rfl ?_
  refine st_iload_n dX6_longestRising_5 rfl ?_
  refine st_icmp_ge (tgt := 92) dX6_longestRising_6 (by decide) (fun c => ?_) (fun c => ?_)
  · replace w := w.1 c
    refine st_iload_n dX6_longestRising_92 rfl ?_
    exact st_ireturn rfl rfl dX6_longestRising_93 w
  · replace w := w.2 c
    refine st_aload_n dX6_longestRising_9 rfl ?_
    refine st_getF (q := 11) fl_X6_11 fk_6_1 rfl dX6_longestRising_10 sh_10 ?_
    refine st_iload_n dX6_longestRising_13 rfl ?_
    refine st_iconst (v := 1) dX6_longestRising_14 (by decide) ?_
    have hc1 := w.1
    replace w := w.2
    refine st_iast dX6_longestRising_15 sh_11 hc1 (fun h2 eh2 => ?_)
    replace w := w h2 eh2
    refine st_iconst (v := 0) dX6_longestRising_16 (by decide) ?_
    refine st_istore (L' := [.ref 10, .int x1, .int x2, .int x3, .int 0]) dX6_longestRising_17 (by decide) rfl ?_
    exact w
set_option maxRecDepth 20000 in
set_option maxHeartbeats 2000000 in
theorem sX6_longestRising_19 {d : Nat} {h : am_H} {Z : Int32 → am_H → Prop} {x1 : Int32} {x2 : Int32} {x3 : Int32} {x4 : Int32} (hd : 2 ≤ d) (w : (x3 ≤ x4 → (vp_in x3 24 ∧ (Ru mX6_longestRising none d 4 [.ref 10, .int x1, .int (am_max x2 (h.2.2 11 x3.toNatClampNeg)), .int (x3 + 1), .int x4] [] h Z))) ∧ (¬ (x3 ≤ x4) → ((am_at h x3) < (am_at h x4) → Ru mX6_longestRising none d 19 [.ref 10, .int x1, .int x2, .int x3, .int (x4 + 1)] [] h Z) ∧ (¬ ((am_at h x3) < (am_at h x4)) → (vp_in x3 24 ∧ (vp_in x4 24 ∧ (∀ h4 : am_H, h4 = am_sR h 11 (upd (h.2.2 11) x3.toNatClampNeg (am_max (h.2.2 11 x3.toNatClampNeg) ((h.2.2 11 x4.toNatClampNeg) + 1))) → (Ru mX6_longestRising none d 19 [.ref 10, .int x1, .int x2, .int x3, .int (x4 + 1)] [] h4 Z))))))) : Ru mX6_longestRising none d 19 [.ref 10, .int x1, .int x2, .int x3, .int x4] [] h Z := by
  refine st_iload dX6_longestRising_19 rfl ?_
  refine st_iload_n dX6_longestRising_21 rfl ?_
  refine st_icmp_ge (tgt := 75) dX6_longestRising_22 (by decide) (fun c => ?_) (fun c => ?_)
  · replace w := w.1 c
    refine st_iload_n dX6_longestRising_75 rfl ?_
    refine st_aload_n dX6_longestRising_76 rfl ?_
    refine st_getF (q := 11) fl_X6_11 fk_6_1 rfl dX6_longestRising_77 sh_10 ?_
    refine st_iload_n dX6_longestRising_80 rfl ?_
    have hc1 := w.1
    replace w := w.2
    refine st_iald dX6_longestRising_81 sh_11 hc1 ?_
    refine st_mmax dX6_longestRising_82 mk_max_X6_71 (by omega) rfl ?_
    refine st_istore_n (L' := [.ref 10, .int x1, .int (am_max x2 (h.2.2 11 x3.toNatClampNeg)), .int x3, .int x4]) dX6_longestRising_85 (by decide) rfl ?_
    refine st_iinc (L' := [.ref 10, .int x1, .int (am_max x2 (h.2.2 11 x3.toNatClampNeg)), .int (x3 + 1), .int x4]) dX6_longestRising_86 rfl rfl (by decide) rfl ?_
    refine st_goto (tgt := 4) dX6_longestRising_89 (by decide) ?_
    exact w
  · replace w := w.2 c
    refine st_aload_n dX6_longestRising_25 rfl ?_
    refine st_getF (q := 1) fl_X6_27 fk_6_0 rfl dX6_longestRising_26 sh_10 ?_
    refine st_iload dX6_longestRising_29 rfl ?_
    refine st_callV (M' := mX9_at) [.int x4] [] dX6_longestRising_31 ml_X6_74 mf_X9_at mv_X9_at sh_1 rfl rfl rfl (K := fun r h' => (am_at h x4) = r ∧ h = h') ⟨1, by omega, iX9_at ⟨rfl, rfl⟩⟩ (fun r1 h1 w1 => ?_)
    obtain ⟨rfl, rfl⟩ := w1
    show Ru mX6_longestRising none d 34 [.ref 10, .int x1, .int x2, .int x3, .int x4] [.int (am_at h x4)] h Z
    refine st_aload_n dX6_longestRising_34 rfl ?_
    refine st_getF (q := 1) fl_X6_27 fk_6_0 rfl dX6_longestRising_35 sh_10 ?_
    refine st_iload_n dX6_longestRising_38 rfl ?_
    refine st_callV (M' := mX9_at) [.int x3] [.int (am_at h x4)] dX6_longestRising_39 ml_X6_74 mf_X9_at mv_X9_at sh_1 rfl rfl rfl (K := fun r h' => (am_at h x3) = r ∧ h = h') ⟨1, by omega, iX9_at ⟨rfl, rfl⟩⟩ (fun r1 h1 w1 => ?_)
    obtain ⟨rfl, rfl⟩ := w1
    show Ru mX6_longestRising none d 42 [.ref 10, .int x1, .int x2, .int x3, .int x4] [.int (am_at h x3), .int (am_at h x4)] h Z
    refine st_icmp_gt (tgt := 69) dX6_longestRising_42 (by decide) (fun c => ?_) (fun c => ?_)
    · replace w := w.1 c
      refine st_iinc (L' := [.ref 10, .int x1, .int x2, .int x3, .int (x4 + 1)]) dX6_longestRising_69 rfl rfl (by decide) rfl ?_
      refine st_goto (tgt := 19) dX6_longestRising_72 (by decide) ?_
      exact w
    · replace w := w.2 c
      refine st_aload_n dX6_longestRising_45 rfl ?_
      refine st_getF (q := 11) fl_X6_11 fk_6_1 rfl dX6_longestRising_46 sh_10 ?_
      refine st_iload_n dX6_longestRising_49 rfl ?_
      refine st_aload_n dX6_longestRising_50 rfl ?_
      refine st_getF (q := 11) fl_X6_11 fk_6_1 rfl dX6_longestRising_51 sh_10 ?_
      refine st_iload_n dX6_longestRising_54 rfl ?_
      have hc2 := w.1
      replace w := w.2
      refine st_iald dX6_longestRising_55 sh_11 hc2 ?_
      refine st_aload_n dX6_longestRising_56 rfl ?_
      refine st_getF (q := 11) fl_X6_11 fk_6_1 rfl dX6_longestRising_57 sh_10 ?_
      refine st_iload dX6_longestRising_60 rfl ?_
      have hc3 := w.1
      replace w := w.2
      refine st_iald dX6_longestRising_62 sh_11 hc3 ?_
      refine st_iconst (v := 1) dX6_longestRising_63 (by decide) ?_
      refine st_iadd dX6_longestRising_64 ?_
      refine st_mmax dX6_longestRising_65 mk_max_X6_71 (by omega) rfl ?_
      refine st_iast dX6_longestRising_68 sh_11 hc2 (fun h4 eh4 => ?_)
      replace w := w h4 eh4
      refine st_iinc (L' := [.ref 10, .int x1, .int x2, .int x3, .int (x4 + 1)]) dX6_longestRising_69 rfl rfl (by decide) rfl ?_
      refine st_goto (tgt := 19) dX6_longestRising_72 (by decide) ?_
      exact w
set_option maxRecDepth 20000 in
set_option maxHeartbeats 2000000 in
theorem sX10_dusted_0 {d : Nat} {h : am_H} {Z : Int32 → am_H → Prop} {x1 : Int32} (hd : 2 ≤ d) (w : (¬ ((1 : Int32) ≤ x1 ∧ x1 ≤ (20 : Int32)) → Z (-1) h) ∧ ((1 : Int32) ≤ x1 ∧ x1 ≤ (20 : Int32) → (x1 ≤ h.1 1 1 → am_cl mX6_longestRising d [.ref 10, .int x1] h (fun r1 h2 => Z (x1 - r1) (am_sI h2 1 1 0))) ∧ (¬ (x1 ≤ h.1 1 1) → Z (-1) h))) : Ru mX10_dusted none d 0 [.ref 0, .int x1, .null] [] h Z := by
  refine st_iload_n dX10_dusted_0 rfl ?_
  refine st_iconst (v := 1) dX10_dusted_1 (by decide) ?_
  refine st_bipush (v := 20) dX10_dusted_2 (by decide) ?_
  refine st_callS (M' := mX10_isFromTo) [.int x1, .int 1, .int 20] [] dX10_dusted_4 ml_X10_135 mf_X10_isFromTo ms_X10_isFromTo rfl rfl rfl (K := fun r h' => (am_b ((1 : Int32) ≤ x1 ∧ x1 ≤ (20 : Int32))) = r ∧ h = h') ⟨1, by omega, iX10_isFromTo ⟨rfl, rfl⟩⟩ (fun r1 h1 w1 => ?_)
  obtain ⟨rfl, rfl⟩ := w1
  show Ru mX10_dusted none d 7 [.ref 0, .int x1, .null] [.int (am_b ((1 : Int32) ≤ x1 ∧ x1 ≤ (20 : Int32)))] h Z
  refine st_ifb_eq (tgt := 21) dX10_dusted_7 (by decide) (fun c => ?_) (fun c => ?_)
  · replace w := w.1 c
    refine st_iconst (v := (-1)) dX10_dusted_21 (by decide) ?_
    exact st_ireturn rfl rfl dX10_dusted_22 w
  · replace w := w.2 c
    refine st_aload_n dX10_dusted_10 rfl ?_
    refine st_getF (q := 1) fl_X10_10 fk_10_0 rfl dX10_dusted_11 sh_0 ?_
    refine st_iload_n dX10_dusted_14 rfl ?_
    refine st_callV (M' := mX9_holds) [.int x1] [] dX10_dusted_15 ml_X10_139 mf_X9_holds mv_X9_holds sh_1 rfl rfl rfl (K := fun r h' => (am_b (x1 ≤ h.1 1 1)) = r ∧ h = h') ⟨1, by omega, iX9_holds ⟨rfl, rfl⟩⟩ (fun r1 h1 w1 => ?_)
    obtain ⟨rfl, rfl⟩ := w1
    show Ru mX10_dusted none d 18 [.ref 0, .int x1, .null] [.int (am_b (x1 ≤ h.1 1 1))] h Z
    refine st_ifb_ne (tgt := 23) dX10_dusted_18 (by decide) (fun c => ?_) (fun c => ?_)
    · replace w := w.1 c
      refine st_iload_n dX10_dusted_23 rfl ?_
      refine st_aload_n dX10_dusted_24 rfl ?_
      refine st_getF (q := 10) fl_X10_51 fk_10_6 rfl dX10_dusted_25 sh_0 ?_
      refine st_iload_n dX10_dusted_28 rfl ?_
      refine st_callV (M' := mX6_longestRising) [.int x1] [.int x1] dX10_dusted_29 ml_X10_234 mf_X6_longestRising mv_X6_longestRising sh_10 rfl rfl rfl w (fun r1 h2 w => ?_)
      show Ru mX10_dusted none d 32 [.ref 0, .int x1, .null] [.int r1, .int x1] h2 Z
      refine st_isub dX10_dusted_32 ?_
      refine st_istore_n (L' := [.ref 0, .int x1, .int (x1 - r1)]) dX10_dusted_33 (by decide) rfl ?_
      refine st_aload_n dX10_dusted_34 rfl ?_
      refine st_getF (q := 1) fl_X10_10 fk_10_0 rfl dX10_dusted_35 sh_0 ?_
      refine st_callV (M' := mX9_clear) [] [] dX10_dusted_38 ml_X10_146 mf_X9_clear mv_X9_clear sh_1 rfl rfl rfl (K := fun r h' => 0 = r ∧ am_sI h2 1 1 0 = h') ⟨1, by omega, iX9_clear ⟨rfl, rfl⟩⟩ (fun r1 h1 w1 => ?_)
      obtain ⟨rfl, rfl⟩ := w1
      show Ru mX10_dusted none d 41 [.ref 0, .int x1, .int (x1 - r1)] [] (am_sI h2 1 1 0) Z
      refine st_iload_n dX10_dusted_41 rfl ?_
      exact st_ireturn rfl rfl dX10_dusted_42 w
    · replace w := w.2 c
      refine st_iconst (v := (-1)) dX10_dusted_21 (by decide) ?_
      exact st_ireturn rfl rfl dX10_dusted_22 w
set_option maxRecDepth 20000 in
set_option maxHeartbeats 2000000 in
theorem sX11_dusted_0 {d : Nat} {h : am_H} {Z : Int32 → am_H → Prop} {x1 : Int32} (hd : 2 ≤ d) (w : (¬ ((1 : Int32) ≤ x1 ∧ x1 ≤ (20 : Int32)) → Z (-1) h) ∧ ((1 : Int32) ≤ x1 ∧ x1 ≤ (20 : Int32) → (x1 ≤ (h.1 73 9) → (∀ h1 : am_H, h1 = am_sI h 73 9 0 → (Ru mX11_dusted none d 29 [.ref 73, .int x1, .int 0, .int 0, .null] [] h1 Z))) ∧ (¬ (x1 ≤ (h.1 73 9)) → Z (-1) h))) : Ru mX11_dusted none d 0 [.ref 73, .int x1, .null, .null, .null] [] h Z := by
  refine st_iload_n dX11_dusted_0 rfl ?_
  refine st_iconst (v := 1) dX11_dusted_1 (by decide) ?_
  refine st_bipush (v := 20) dX11_dusted_2 (by decide) ?_
  refine st_callS (M' := mX11_in) [.int x1, .int 1, .int 20] [] dX11_dusted_4 ml_X11_125 mf_X11_in ms_X11_in rfl rfl rfl (K := fun r h' => (am_b ((1 : Int32) ≤ x1 ∧ x1 ≤ (20 : Int32))) = r ∧ h = h') ⟨1, by omega, iX11_in ⟨rfl, rfl⟩⟩ (fun r1 h1 w1 => ?_)
  obtain ⟨rfl, rfl⟩ := w1
  show Ru mX11_dusted none d 7 [.ref 73, .int x1, .null, .null, .null] [.int (am_b ((1 : Int32) ≤ x1 ∧ x1 ≤ (20 : Int32)))] h Z
  refine st_ifb_eq (tgt := 18) dX11_dusted_7 (by decide) (fun c => ?_) (fun c => ?_)
  · replace w := w.1 c
    refine st_iconst (v := (-1)) dX11_dusted_18 (by decide) ?_
    exact st_ireturn rfl rfl dX11_dusted_19 w
  · replace w := w.2 c
    refine st_iload_n dX11_dusted_10 rfl ?_
    refine st_aload_n dX11_dusted_11 rfl ?_
    refine st_getI fl_X11_158 fk_11_9 dX11_dusted_12 sh_73 ?_
    refine st_icmp_le (tgt := 20) dX11_dusted_15 (by decide) (fun c => ?_) (fun c => ?_)
    · replace w := w.1 c
      refine st_aload_n dX11_dusted_20 rfl ?_
      refine st_iconst (v := 0) dX11_dusted_21 (by decide) ?_
      refine st_putI flp_X11_158 fk_11_9 dX11_dusted_22 sh_73 (fun h1 eh1 => ?_)
      replace w := w h1 eh1
      refine st_iconst (v := 0) dX11_dusted_25 (by decide) ?_
      refine st_istore_n (L' := [.ref 73, .int x1, .int 0, .null, .null]) dX11_dusted_26 (by decide) rfl ?_
      refine st_iconst (v := 0) dX11_dusted_27 (by decide) ?_
      refine st_istore_n (L' := [.ref 73, .int x1, .int 0, .int 0, .null]) dX11_dusted_28 (by decide) rfl ?_
      exact w
    · replace w := w.2 c
      refine st_iconst (v := (-1)) dX11_dusted_18 (by decide) ?_
      exact st_ireturn rfl rfl dX11_dusted_19 w
set_option maxRecDepth 20000 in
set_option maxHeartbeats 2000000 in
theorem sX11_dusted_29 {d : Nat} {h : am_H} {Z : Int32 → am_H → Prop} {x1 : Int32} {x2 : Int32} {x3 : Int32} {u4 : Value} (w : (x1 ≤ x3 → Z (x1 - x2) h) ∧ (¬ (x1 ≤ x3) → (vp_in x3 20 ∧ (∀ h2 : am_H, h2 = am_sR h 107 (upd (h.2.2 107) x3.toNatClampNeg 1) → (Ru mX11_dusted none d 44 [.ref 73, .int x1, .int x2, .int x3, .int 0] [] h2 Z))))) : Ru mX11_dusted none d 29 [.ref 73, .int x1, .int x2, .int x3, u4] [] h Z := by
  refine st_iload_n dX11_dusted_29 rfl ?_
  refine st_iload_n dX11_dusted_30 rfl ?_
  refine st_icmp_ge (tgt := 111) dX11_dusted_31 (by decide) (fun c => ?_) (fun c => ?_)
  · replace w := w.1 c
    refine st_iload_n dX11_dusted_111 rfl ?_
    refine st_iload_n dX11_dusted_112 rfl ?_
    refine st_isub dX11_dusted_113 ?_
    exact st_ireturn rfl rfl dX11_dusted_114 w
  · replace w := w.2 c
    refine st_aload_n dX11_dusted_34 rfl ?_
    refine st_getF (q := 107) fl_X11_110 fk_11_55 rfl dX11_dusted_35 sh_73 ?_
    refine st_iload_n dX11_dusted_38 rfl ?_
    refine st_iconst (v := 1) dX11_dusted_39 (by decide) ?_
    have hc1 := w.1
    replace w := w.2
    refine st_iast dX11_dusted_40 sh_107 hc1 (fun h2 eh2 => ?_)
    replace w := w h2 eh2
    refine st_iconst (v := 0) dX11_dusted_41 (by decide) ?_
    refine st_istore (L' := [.ref 73, .int x1, .int x2, .int x3, .int 0]) dX11_dusted_42 (by decide) rfl ?_
    exact w
set_option maxRecDepth 20000 in
set_option maxHeartbeats 2000000 in
theorem sX11_dusted_44 {d : Nat} {h : am_H} {Z : Int32 → am_H → Prop} {x1 : Int32} {x2 : Int32} {x3 : Int32} {x4 : Int32} (hd : 2 ≤ d) (w : (x3 ≤ x4 → (vp_in x3 20 ∧ (Ru mX11_dusted none d 29 [.ref 73, .int x1, .int (am_max x2 (h.2.2 107 x3.toNatClampNeg)), .int (x3 + 1), .int x4] [] h Z))) ∧ (¬ (x3 ≤ x4) → (vp_in x4 260 ∧ (vp_in x3 260 ∧ (((h.2.2 80 x3.toNatClampNeg &&& 255) < (h.2.2 80 x4.toNatClampNeg &&& 255) → Ru mX11_dusted none d 44 [.ref 73, .int x1, .int x2, .int x3, .int (x4 + 1)] [] h Z) ∧ (¬ ((h.2.2 80 x3.toNatClampNeg &&& 255) < (h.2.2 80 x4.toNatClampNeg &&& 255)) → (vp_in x3 20 ∧ (vp_in x4 20 ∧ (∀ h6 : am_H, h6 = am_sR h 107 (upd (h.2.2 107) x3.toNatClampNeg (am_max (h.2.2 107 x3.toNatClampNeg) ((h.2.2 107 x4.toNatClampNeg) + 1))) → (Ru mX11_dusted none d 44 [.ref 73, .int x1, .int x2, .int x3, .int (x4 + 1)] [] h6 Z)))))))))) : Ru mX11_dusted none d 44 [.ref 73, .int x1, .int x2, .int x3, .int x4] [] h Z := by
  refine st_iload dX11_dusted_44 rfl ?_
  refine st_iload_n dX11_dusted_46 rfl ?_
  refine st_icmp_ge (tgt := 94) dX11_dusted_47 (by decide) (fun c => ?_) (fun c => ?_)
  · replace w := w.1 c
    refine st_iload_n dX11_dusted_94 rfl ?_
    refine st_aload_n dX11_dusted_95 rfl ?_
    refine st_getF (q := 107) fl_X11_110 fk_11_55 rfl dX11_dusted_96 sh_73 ?_
    refine st_iload_n dX11_dusted_99 rfl ?_
    have hc1 := w.1
    replace w := w.2
    refine st_iald dX11_dusted_100 sh_107 hc1 ?_
    refine st_callS (M' := mX11_max) [.int x2, .int (h.2.2 107 x3.toNatClampNeg)] [] dX11_dusted_101 ml_X11_373 mf_X11_max ms_X11_max rfl rfl rfl (K := fun r h' => (am_max x2 (h.2.2 107 x3.toNatClampNeg)) = r ∧ h = h') ⟨1, by omega, iX11_max ⟨rfl, rfl⟩⟩ (fun r1 h1 w1 => ?_)
    obtain ⟨rfl, rfl⟩ := w1
    show Ru mX11_dusted none d 104 [.ref 73, .int x1, .int x2, .int x3, .int x4] [.int (am_max x2 (h.2.2 107 x3.toNatClampNeg))] h Z
    refine st_istore_n (L' := [.ref 73, .int x1, .int (am_max x2 (h.2.2 107 x3.toNatClampNeg)), .int x3, .int x4]) dX11_dusted_104 (by decide) rfl ?_
    refine st_iinc (L' := [.ref 73, .int x1, .int (am_max x2 (h.2.2 107 x3.toNatClampNeg)), .int (x3 + 1), .int x4]) dX11_dusted_105 rfl rfl (by decide) rfl ?_
    refine st_goto (tgt := 29) dX11_dusted_108 (by decide) ?_
    exact w
  · replace w := w.2 c
    refine st_aload_n dX11_dusted_50 rfl ?_
    refine st_iload dX11_dusted_51 rfl ?_
    have hc2 := w.1
    replace w := w.2
    refine st_callV (M' := mX11_octet) [.int x4] [] dX11_dusted_53 ml_X11_388 mf_X11_octet mv_X11_octet sh_73 rfl rfl rfl (K := fun r h' => (h.2.2 80 x4.toNatClampNeg &&& 255) = r ∧ h = h') ⟨1, by omega, iX11_octet hc2 ⟨rfl, rfl⟩⟩ (fun r1 h1 w1 => ?_)
    obtain ⟨rfl, rfl⟩ := w1
    show Ru mX11_dusted none d 56 [.ref 73, .int x1, .int x2, .int x3, .int x4] [.int (h.2.2 80 x4.toNatClampNeg &&& 255)] h Z
    refine st_aload_n dX11_dusted_56 rfl ?_
    refine st_iload_n dX11_dusted_57 rfl ?_
    have hc3 := w.1
    replace w := w.2
    refine st_callV (M' := mX11_octet) [.int x3] [.int (h.2.2 80 x4.toNatClampNeg &&& 255)] dX11_dusted_58 ml_X11_388 mf_X11_octet mv_X11_octet sh_73 rfl rfl rfl (K := fun r h' => (h.2.2 80 x3.toNatClampNeg &&& 255) = r ∧ h = h') ⟨1, by omega, iX11_octet hc3 ⟨rfl, rfl⟩⟩ (fun r1 h1 w1 => ?_)
    obtain ⟨rfl, rfl⟩ := w1
    show Ru mX11_dusted none d 61 [.ref 73, .int x1, .int x2, .int x3, .int x4] [.int (h.2.2 80 x3.toNatClampNeg &&& 255), .int (h.2.2 80 x4.toNatClampNeg &&& 255)] h Z
    refine st_icmp_gt (tgt := 88) dX11_dusted_61 (by decide) (fun c => ?_) (fun c => ?_)
    · replace w := w.1 c
      refine st_iinc (L' := [.ref 73, .int x1, .int x2, .int x3, .int (x4 + 1)]) dX11_dusted_88 rfl rfl (by decide) rfl ?_
      refine st_goto (tgt := 44) dX11_dusted_91 (by decide) ?_
      exact w
    · replace w := w.2 c
      refine st_aload_n dX11_dusted_64 rfl ?_
      refine st_getF (q := 107) fl_X11_110 fk_11_55 rfl dX11_dusted_65 sh_73 ?_
      refine st_iload_n dX11_dusted_68 rfl ?_
      refine st_aload_n dX11_dusted_69 rfl ?_
      refine st_getF (q := 107) fl_X11_110 fk_11_55 rfl dX11_dusted_70 sh_73 ?_
      refine st_iload_n dX11_dusted_73 rfl ?_
      have hc4 := w.1
      replace w := w.2
      refine st_iald dX11_dusted_74 sh_107 hc4 ?_
      refine st_aload_n dX11_dusted_75 rfl ?_
      refine st_getF (q := 107) fl_X11_110 fk_11_55 rfl dX11_dusted_76 sh_73 ?_
      refine st_iload dX11_dusted_79 rfl ?_
      have hc5 := w.1
      replace w := w.2
      refine st_iald dX11_dusted_81 sh_107 hc5 ?_
      refine st_iconst (v := 1) dX11_dusted_82 (by decide) ?_
      refine st_iadd dX11_dusted_83 ?_
      refine st_callS (M' := mX11_max) [.int (h.2.2 107 x3.toNatClampNeg), .int ((h.2.2 107 x4.toNatClampNeg) + 1)] [.int x3, .ref 107] dX11_dusted_84 ml_X11_373 mf_X11_max ms_X11_max rfl rfl rfl (K := fun r h' => (am_max (h.2.2 107 x3.toNatClampNeg) ((h.2.2 107 x4.toNatClampNeg) + 1)) = r ∧ h = h') ⟨1, by omega, iX11_max ⟨rfl, rfl⟩⟩ (fun r1 h1 w1 => ?_)
      obtain ⟨rfl, rfl⟩ := w1
      show Ru mX11_dusted none d 87 [.ref 73, .int x1, .int x2, .int x3, .int x4] [.int (am_max (h.2.2 107 x3.toNatClampNeg) ((h.2.2 107 x4.toNatClampNeg) + 1)), .int x3, .ref 107] h Z
      refine st_iast dX11_dusted_87 sh_107 hc4 (fun h6 eh6 => ?_)
      replace w := w h6 eh6
      refine st_iinc (L' := [.ref 73, .int x1, .int x2, .int x3, .int (x4 + 1)]) dX11_dusted_88 rfl rfl (by decide) rfl ?_
      refine st_goto (tgt := 44) dX11_dusted_91 (by decide) ?_
      exact w
def ds_in (T : Nat → Int32) (k e : Nat) (f : Nat → Int32) : Nat → Int32 := if T k < T e then f else upd f k (am_max (f k) (f e + 1))
def ds_k (T : Nat → Int32) (k : Nat) (s : (Nat → Int32) × Int32) : (Nat → Int32) × Int32 := (am_fd (ds_in T k) 0 k (upd s.1 k 1), am_max s.2 (am_fd (ds_in T k) 0 k (upd s.1 k 1) k))
section
variable {d : Nat} {h : am_H} {Z : Int32 → am_H → Prop} {n : Nat} {T : Nat → Int32}
theorem dx_e (hd : 3 ≤ d) (hn : n ≤ 20) (hT : ∀ i, i < n → am_at h (nI i) = T i) {k : Nat} (hk : k < n) {most : Int32} : ∀ (m e : Nat) (f : Nat → Int32), e + m = k →
    (Ru mX6_longestRising none d 4 [.ref 10, .int (nI n), .int (am_max most (am_fd (ds_in T k) e m f k)), .int (nI (k + 1)), .int (nI k)] [] (am_sR h 11 (am_fd (ds_in T k) e m f)) Z) → Ru mX6_longestRising none d 19 [.ref 10, .int (nI n), .int most, .int (nI k), .int (nI e)] [] (am_sR h 11 f) Z
  | 0, e, f, he, z => by
    have ee : e = k := by omega
    subst ee
    refine sX6_longestRising_19 (by omega) ⟨fun _ => ⟨vp_in_nI (by omega) (by omega), ?_⟩, fun c => absurd (Int32.le_refl _) c⟩
    rw [nI_1, am_gRs, nI_clamp (by omega)]
    exact z
  | m + 1, e, f, he, z => by
    refine sX6_longestRising_19 (by omega) ⟨fun c => absurd c (nI_ge (by omega) (by omega)), fun _ => ?_⟩
    have ih := dx_e hd hn hT hk (most := most) m (e + 1) (ds_in T k e f) (by omega) z
    simp only [am_at_sR h f _ (show 11 ≠ 2 by decide), nI_1, hT k hk, hT e (by omega), nI_clamp (show k < 2 ^ 31 by omega), nI_clamp (show e < 2 ^ 31 by omega), am_gRs]
    refine ⟨fun c => ?_, fun c => ⟨vp_in_nI (by omega) (by omega), vp_in_nI (by omega) (by omega), fun h4 e4 => ?_⟩⟩
    · rw [show ds_in T k e f = f from if_pos c] at ih; exact ih
    · rw [am_sR_2] at e4
      subst e4
      rw [show ds_in T k e f = _ from if_neg c] at ih
      exact ih
theorem dx_k (hd : 3 ≤ d) (hn : n ≤ 20) (hT : ∀ i, i < n → am_at h (nI i) = T i) : ∀ (m k : Nat) (s : (Nat → Int32) × Int32) (u : Value), k + m = n →
    (∀ g, Z ((am_fd (ds_k T) k m s).2) (am_sR h 11 g)) → Ru mX6_longestRising none d 4 [.ref 10, .int (nI n), .int s.2, .int (nI k), u] [] (am_sR h 11 s.1) Z
  | 0, k, s, u, hk, z => by
    refine sX6_longestRising_4 ⟨fun _ => z _, fun c => absurd (nI_le (by omega) (by omega)) c⟩
  | m + 1, k, s, u, hk, z => by
    refine sX6_longestRising_4 ⟨fun c => absurd c (nI_ge (by omega) (by omega)), fun _ => ⟨vp_in_nI (by omega) (by omega), fun h2 e2 => ?_⟩⟩
    rw [am_gRs, nI_clamp (by omega), am_sR_2] at e2
    subst e2
    exact dx_e hd hn hT (by omega) k 0 (upd s.1 k 1) (by omega) (dx_k hd hn hT m (k + 1) (ds_k T k s) _ (by omega) z)

theorem dm_e (hd : 3 ≤ d) (hn : n ≤ 20) (hT : ∀ i, i < n → h.2.2 80 i &&& 255 = T i) {k : Nat} (hk : k < n) {most : Int32} : ∀ (m e : Nat) (f : Nat → Int32), e + m = k →
    (Ru mX11_dusted none d 29 [.ref 73, .int (nI n), .int (am_max most (am_fd (ds_in T k) e m f k)), .int (nI (k + 1)), .int (nI k)] [] (am_sR h 107 (am_fd (ds_in T k) e m f)) Z) → Ru mX11_dusted none d 44 [.ref 73, .int (nI n), .int most, .int (nI k), .int (nI e)] [] (am_sR h 107 f) Z
  | 0, e, f, he, z => by
    have ee : e = k := by omega
    subst ee
    refine sX11_dusted_44 (by omega) ⟨fun _ => ⟨vp_in_nI (by omega) (by omega), ?_⟩, fun c => absurd (Int32.le_refl _) c⟩
    rw [nI_1, am_gRs, nI_clamp (by omega)]
    exact z
  | m + 1, e, f, he, z => by
    refine sX11_dusted_44 (by omega) ⟨fun c => absurd c (nI_ge (by omega) (by omega)), fun _ => ?_⟩
    have ih := dm_e hd hn hT hk (most := most) m (e + 1) (ds_in T k e f) (by omega) z
    have g80 : ∀ x, (am_sR h 107 f).2.2 80 x = h.2.2 80 x := fun x => by rw [am_gR, if_neg (by decide)]
    simp only [nI_1, nI_clamp (show k < 2 ^ 31 by omega), nI_clamp (show e < 2 ^ 31 by omega), g80, hT k hk, hT e (by omega), am_gRs]
    refine ⟨vp_in_nI (by omega) (by omega), vp_in_nI (by omega) (by omega), ?_⟩
    refine ⟨fun c => ?_, fun c => ⟨vp_in_nI (by omega) (by omega), vp_in_nI (by omega) (by omega), fun h4 e4 => ?_⟩⟩
    · rw [show ds_in T k e f = f from if_pos c] at ih; exact ih
    · rw [am_sR_2] at e4
      subst e4
      rw [show ds_in T k e f = _ from if_neg c] at ih
      exact ih
theorem dm_k (hd : 3 ≤ d) (hn : n ≤ 20) (hT : ∀ i, i < n → h.2.2 80 i &&& 255 = T i) : ∀ (m k : Nat) (s : (Nat → Int32) × Int32) (u : Value), k + m = n →
    (∀ g, Z (nI n - (am_fd (ds_k T) k m s).2) (am_sR h 107 g)) → Ru mX11_dusted none d 29 [.ref 73, .int (nI n), .int s.2, .int (nI k), u] [] (am_sR h 107 s.1) Z
  | 0, k, s, u, hk, z => by
    refine sX11_dusted_29 ⟨fun _ => z _, fun c => absurd (nI_le (by omega) (by omega)) c⟩
  | m + 1, k, s, u, hk, z => by
    refine sX11_dusted_29 ⟨fun c => absurd c (nI_ge (by omega) (by omega)), fun _ => ⟨vp_in_nI (by omega) (by omega), fun h2 e2 => ?_⟩⟩
    rw [am_gRs, nI_clamp (by omega), am_sR_2] at e2
    subst e2
    exact dm_e hd hn hT (by omega) k 0 (upd s.1 k 1) (by omega) (dm_k hd hn hT m (k + 1) (ds_k T k s) _ (by omega) z)
end
theorem ds_same (T : Nat → Int32) (n : Nat) (f g : Nat → Int32) : (am_fd (ds_k T) 0 n (f, 0)).2 = (am_fd (ds_k T) 0 n (g, 0)).2 := by
  let R : Nat → (Nat → Int32) × Int32 → (Nat → Int32) × Int32 → Prop := fun k s t => (∀ i, i < k → s.1 i = t.1 i) ∧ s.2 = t.2
  have h0 : R 0 (f, 0) (g, 0) := ⟨fun i hi => absurd hi (Nat.not_lt_zero i), rfl⟩
  refine (am_fd_rel R n 0 _ _ h0 (fun k s t _ _ hr => ?_)).2
  obtain ⟨r1, r2⟩ := hr
  have key : ∀ i, i < k + 1 → am_fd (ds_in T k) 0 k (upd s.1 k 1) i = am_fd (ds_in T k) 0 k (upd t.1 k 1) i := by
    refine am_fd_rel (fun _ (p q : Nat → Int32) => ∀ i, i < k + 1 → p i = q i) k 0 _ _ ?_ ?_
    · intro i hi
      unfold upd
      by_cases c : i = k
      · simp [c]
      · simp [c, r1 i (by omega)]
    · intro e p q _ he hpq i hi
      unfold ds_in
      by_cases c : T k < T e
      · rw [if_pos c, if_pos c]; exact hpq i hi
      · rw [if_neg c, if_neg c]
        unfold upd
        rw [hpq k (by omega), hpq e (by omega), hpq i hi]
  exact ⟨key, by show am_max _ _ = am_max _ _; rw [r2, key k (by omega)]⟩
theorem pp_dusted {d : Nat} {h : am_H} {K : Int32 → Int32 → am_H → Prop} {x : Int32} {N : Nat} (hd : 9 ≤ d) (ht : am_tape h N) (z : ∀ r h', am_step h h' → K r r h') : am_cl mX10_dusted d [.ref 0, .int x] h (fun r1 h1 => am_cl mX11_dusted d [.ref 73, .int x] h1 (fun r2 h2 => K r1 r2 h2)) := by
  have hN := ht.1
  by_cases c1 : 1 ≤ x ∧ x ≤ 20
  · obtain ⟨n, hn, rfl⟩ := am_natle (N := 20) (by omega) (Int32.le_trans (by decide) c1.1) c1.2
    by_cases c2 : n ≤ N
    · refine ⟨8, by omega, Sp_of mf_X10_dusted rfl (Nat.le_of_ble_eq_true rfl) rfl (sX10_dusted_0 (by omega) ⟨fun c => absurd c1 c, fun _ => ⟨fun _ => ⟨7, by omega, Sp_of mf_X6_longestRising rfl (Nat.le_of_ble_eq_true rfl) rfl (sX6_longestRising_0 ?_)⟩, fun c => absurd (by rw [ht.2.1]; exact nI_le c2 (by omega)) c⟩⟩)⟩
      have e0 : h = am_sR h 11 (h.2.2 11) := (am_sR_self h 11).symm
      have k1 := dx_k (d := 7) (h := h) (Z := fun r1 h2 => am_cl mX11_dusted d [.ref 73, .int (nI n)] (am_sI h2 1 1 0) (fun r2 h2 => K (nI n - r1) r2 h2)) (T := fun i => h.2.2 80 i &&& 255) (by omega) hn (fun i hi => am_at_n ht (by omega)) n 0 (h.2.2 11, 0) .null (by omega) ?_
      · rw [am_sR_self] at k1; exact k1
      intro g1
      have g9 : (am_sI (am_sR h 11 g1) 1 1 0).1 73 9 = h.1 73 9 := by rw [am_gI, if_neg (by decide), am_gR1]
      refine ⟨8, by omega, Sp_of mf_X11_dusted rfl (Nat.le_of_ble_eq_true rfl) rfl (sX11_dusted_0 (by omega) ⟨fun c => absurd c1 c, fun _ => ⟨fun _ h1 e1 => ?_, fun c => absurd (by rw [g9, ht.2.2.1]; exact nI_le c2 (by omega)) c⟩⟩)⟩
      have k2 := dm_k (d := 8) (h := h1) (Z := fun r2 h2 => K (nI n - (am_fd (ds_k (fun i => h.2.2 80 i &&& 255)) 0 n (h.2.2 11, 0)).2) r2 h2) (T := fun i => h.2.2 80 i &&& 255) (by omega) hn (fun i _ => by rw [e1]; rfl) n 0 (h1.2.2 107, 0) .null (by omega) ?_
      · rw [am_sR_self] at k2; exact k2
      intro g
      rw [ds_same _ n (h1.2.2 107) (h.2.2 11)]
      refine z _ _ ?_
      rw [e1]
      refine ⟨am_keep_sR (am_keep_sI (am_keep_sI (am_keep_sR (am_keep_rf h) (by decide)) (by decide)) (by decide)) (by decide), Or.inr ⟨?_, ?_⟩⟩
      · rw [am_gR1, am_gI, if_neg (by decide), am_gI, if_pos ⟨rfl, rfl⟩]
      · rw [am_gR1, am_gI, if_pos ⟨rfl, rfl⟩]
    · have n1 : ¬ nI n ≤ h.1 1 1 := by rw [ht.2.1]; exact nI_ge (by omega) (by omega)
      have n2 : ¬ nI n ≤ h.1 73 9 := by rw [ht.2.2.1]; exact nI_ge (by omega) (by omega)
      refine ⟨8, by omega, Sp_of mf_X10_dusted rfl (Nat.le_of_ble_eq_true rfl) rfl (sX10_dusted_0 (by omega) ⟨fun c => absurd c1 c, fun _ => ⟨fun c => absurd c n1, fun _ => ?_⟩⟩)⟩
      exact ⟨8, by omega, Sp_of mf_X11_dusted rfl (Nat.le_of_ble_eq_true rfl) rfl (sX11_dusted_0 (by omega) ⟨fun c => absurd c1 c, fun _ => ⟨fun c => absurd c n2, fun _ => z _ _ (am_step_rf h)⟩⟩)⟩
  · refine ⟨8, by omega, Sp_of mf_X10_dusted rfl (Nat.le_of_ble_eq_true rfl) rfl (sX10_dusted_0 (by omega) ⟨fun _ => ?_, fun c => absurd c c1⟩)⟩
    exact ⟨8, by omega, Sp_of mf_X11_dusted rfl (Nat.le_of_ble_eq_true rfl) rfl (sX11_dusted_0 (by omega) ⟨fun _ => z _ _ (am_step_rf h), fun c => absurd c c1⟩)⟩
