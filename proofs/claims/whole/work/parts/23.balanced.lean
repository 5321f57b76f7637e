-- balanced
set_option maxRecDepth 20000 in
set_option maxHeartbeats 2000000 in
theorem sX6_balancePlace_0 {d : Nat} {h : am_H} {Z : Int32 → am_H → Prop} {x1 : Int32} (w : Ru mX6_balancePlace none d 7 [.ref 10, .int x1, .int 0, .int 0, .int 0] [] h Z) : Ru mX6_balancePlace none d 0 [.ref 10, .int x1, .null, .null, .null] [] h Z := by
  refine st_iconst (v := 0) dX6_balancePlace_0 (by decide) ?_
  refine st_istore_n (L' := [.ref 10, .int x1, .int 0, .null, .null]) dX6_balancePlace_1 (by decide) rfl ?_
  refine st_iconst (v := 0) dX6_balancePlace_2 (by decide) ?_
  refine st_istore_n (L' := [.ref 10, .int x1, .int 0, .int 0, .null]) dX6_balancePlace_3 (by decide) rfl ?_
  refine st_iconst (v := 0) dX6_balancePlace_4 (by decide) ?_
  refine st_istore (L' := [.ref 10, .int x1, .int 0, .int 0, .int 0]) dX6_balancePlace_5 (by decide) rfl ?_
  exact w
set_option maxRecDepth 20000 in
set_option maxHeartbeats 2000000 in
theorem sX6_balancePlace_7 {d : Nat} {h : am_H} {Z : Int32 → am_H → Prop} {x1 : Int32} {x2 : Int32} {x3 : Int32} {x4 : Int32} (hd : 2 ≤ d) (w : (x1 ≤ x4 → (¬ x2 = 0 → (¬ x2 = 0 ∧ ((¬ (am_rem x3 x2) = 0 → Z (-2) h) ∧ ((am_rem x3 x2) = 0 → Z (x3 / x2) h)))) ∧ (x2 = 0 → Z 0 h)) ∧ (¬ (x1 ≤ x4) → Ru mX6_balancePlace none d 7 [.ref 10, .int x1, .int (x2 + (am_at h ((2 * x4) + 1))), .int (x3 + ((am_at h (2 * x4)) * (am_at h ((2 * x4) + 1)))), .int (x4 + 1)] [] h Z)) : Ru mX6_balancePlace none d 7 [.ref 10, .int x1, .int x2, .int x3, .int x4] [] h Z := by
  refine st_iload dX6_balancePlace_7 rfl ?_
  refine st_iload_n dX6_balancePlace_9 rfl ?_
  refine st_icmp_ge (tgt := 63) dX6_balancePlace_10 (by decide) (fun c => ?_) (fun c => ?_)
  · replace w := w.1 c
    refine st_iload_n dX6_balancePlace_63 rfl ?_
    refine st_if_ne (tgt := 69) dX6_balancePlace_64 (by decide) (fun c => ?_) (fun c => ?_)
    · replace w := w.1 c
      refine st_iload_n dX6_balancePlace_69 rfl ?_
      refine st_iload_n dX6_balancePlace_70 rfl ?_
      have hc1 := w.1
      replace w := w.2
      refine st_irem dX6_balancePlace_71 hc1 ?_
      refine st_if_ne (tgt := 81) dX6_balancePlace_72 (by decide) (fun c => ?_) (fun c => ?_)
      · replace w := w.1 c
        refine st_bipush (v := (-2)) dX6_balancePlace_81 (by decide) ?_
        exact st_ireturn rfl rfl dX6_balancePlace_83 w
      · replace w := w.2 c
        refine st_iload_n dX6_balancePlace_75 rfl ?_
        refine st_iload_n dX6_balancePlace_76 rfl ?_
        refine st_idiv dX6_balancePlace_77 hc1 ?_
        refine st_goto (tgt := 83) dX6_balancePlace_78 (by decide) ?_
        exact st_ireturn rfl rfl dX6_balancePlace_83 w
    · replace w := w.2 c
      refine st_iconst (v := 0) dX6_balancePlace_67 (by decide) ?_
      exact st_ireturn rfl rfl dX6_balancePlace_68 w
  · replace w := w.2 c
    refine st_iload_n dX6_balancePlace_13 rfl ?_
    refine st_aload_n dX6_balancePlace_14 rfl ?_
    refine st_getF (q := 1) fl_X6_27 fk_6_0 rfl dX6_balancePlace_15 sh_10 ?_
    refine st_iconst (v := 2) dX6_balancePlace_18 (by decide) ?_
    refine st_iload dX6_balancePlace_19 rfl ?_
    refine st_imul dX6_balancePlace_21 ?_
    refine st_iconst (v := 1) dX6_balancePlace_22 (by decide) ?_
    refine st_iadd dX6_balancePlace_23 ?_
    refine st_callV (M' := mX9_at) [.int ((2 * x4) + 1)] [.int x2] dX6_balancePlace_24 ml_X6_74 mf_X9_at mv_X9_at sh_1 rfl rfl rfl (K := fun r h' => (am_at h ((2 * x4) + 1)) = r ∧ h = h') ⟨1, by omega, iX9_at ⟨rfl, rfl⟩⟩ (fun r1 h1 w1 => ?_)
    obtain ⟨rfl, rfl⟩ := w1
    show Ru mX6_balancePlace none d 27 [.ref 10, .int x1, .int x2, .int x3, .int x4] [.int (am_at h ((2 * x4) + 1)), .int x2] h Z
    refine st_iadd dX6_balancePlace_27 ?_
    refine st_istore_n (L' := [.ref 10, .int x1, .int (x2 + (am_at h ((2 * x4) + 1))), .int x3, .int x4]) dX6_balancePlace_28 (by decide) rfl ?_
    refine st_iload_n dX6_balancePlace_29 rfl ?_
    refine st_aload_n dX6_balancePlace_30 rfl ?_
    refine st_getF (q := 1) fl_X6_27 fk_6_0 rfl dX6_balancePlace_31 sh_10 ?_
    refine st_iconst (v := 2) dX6_balancePlace_34 (by decide) ?_
    refine st_iload dX6_balancePlace_35 rfl ?_
    refine st_imul dX6_balancePlace_37 ?_
    refine st_callV (M' := mX9_at) [.int (2 * x4)] [.int x3] dX6_balancePlace_38 ml_X6_74 mf_X9_at mv_X9_at sh_1 rfl rfl rfl (K := fun r h' => (am_at h (2 * x4)) = r ∧ h = h') ⟨1, by omega, iX9_at ⟨rfl, rfl⟩⟩ (fun r1 h1 w1 => ?_)
    obtain ⟨rfl, rfl⟩ := w1
    show Ru mX6_balancePlace none d 41 [.ref 10, .int x1, .int (x2 + (am_at h ((2 * x4) + 1))), .int x3, .int x4] [.int (am_at h (2 * x4)), .int x3] h Z
    refine st_aload_n dX6_balancePlace_41 rfl ?_
    refine st_getF (q := 1) fl_X6_27 fk_6_0 rfl dX6_balancePlace_42 sh_10 ?_
    refine st_iconst (v := 2) dX6_balancePlace_45 (by decide) ?_
    refine st_iload dX6_balancePlace_46 rfl ?_
    refine st_imul dX6_balancePlace_48 ?_
    refine st_iconst (v := 1) dX6_balancePlace_49 (by decide) ?_
    refine st_iadd dX6_balancePlace_50 ?_
    refine st_callV (M' := mX9_at) [.int ((2 * x4) + 1)] [.int (am_at h (2 * x4)), .int x3] dX6_balancePlace_51 ml_X6_74 mf_X9_at mv_X9_at sh_1 rfl rfl rfl (K := fun r h' => (am_at h ((2 * x4) + 1)) = r ∧ h = h') ⟨1, by omega, iX9_at ⟨rfl, rfl⟩⟩ (fun r1 h1 w1 => ?_)
    obtain ⟨rfl, rfl⟩ := w1
    show Ru mX6_balancePlace none d 54 [.ref 10, .int x1, .int (x2 + (am_at h ((2 * x4) + 1))), .int x3, .int x4] [.int (am_at h ((2 * x4) + 1)), .int (am_at h (2 * x4)), .int x3] h Z
    refine st_imul dX6_balancePlace_54 ?_
    refine st_iadd dX6_balancePlace_55 ?_
    refine st_istore_n (L' := [.ref 10, .int x1, .int (x2 + (am_at h ((2 * x4) + 1))), .int (x3 + ((am_at h (2 * x4)) * (am_at h ((2 * x4) + 1)))), .int x4]) dX6_balancePlace_56 (by decide) rfl ?_
    refine st_iinc (L' := [.ref 10, .int x1, .int (x2 + (am_at h ((2 * x4) + 1))), .int (x3 + ((am_at h (2 * x4)) * (am_at h ((2 * x4) + 1)))), .int (x4 + 1)]) dX6_balancePlace_57 rfl rfl (by decide) rfl ?_
    refine st_goto (tgt := 7) dX6_balancePlace_60 (by decide) ?_
    exact w
set_option maxRecDepth 20000 in
set_option maxHeartbeats 2000000 in
theorem sX10_balanced_0 {d : Nat} {h : am_H} {Z : Int32 → am_H → Prop} {x1 : Int32} (hd : 2 ≤ d) (w : (¬ ((1 : Int32) ≤ x1 ∧ x1 ≤ (12 : Int32)) → Z (-1) h) ∧ ((1 : Int32) ≤ x1 ∧ x1 ≤ (12 : Int32) → ((2 * x1) ≤ h.1 1 1 → am_cl mX6_balancePlace d [.ref 10, .int x1] h (fun r1 h2 => Z r1 (am_sI h2 1 1 0))) ∧ (¬ ((2 * x1) ≤ h.1 1 1) → Z (-1) h))) : Ru mX10_balanced none d 0 [.ref 0, .int x1, .null] [] h Z := by
  refine st_iload_n dX10_balanced_0 rfl ?_
  refine st_iconst (v := 1) dX10_balanced_1 (by decide) ?_
  refine st_bipush (v := 12) dX10_balanced_2 (by decide) ?_
  refine st_callS (M' := mX10_isFromTo) [.int x1, .int 1, .int 12] [] dX10_balanced_4 ml_X10_135 mf_X10_isFromTo ms_X10_isFromTo rfl rfl rfl (K := fun r h' => (am_b ((1 : Int32) ≤ x1 ∧ x1 ≤ (12 : Int32))) = r ∧ h = h') ⟨1, by omega, iX10_isFromTo ⟨rfl, rfl⟩⟩ (fun r1 h1 w1 => ?_)
  obtain ⟨rfl, rfl⟩ := w1
  show Ru mX10_balanced none d 7 [.ref 0, .int x1, .null] [.int (am_b ((1 : Int32) ≤ x1 ∧ x1 ≤ (12 : Int32)))] h Z
  refine st_ifb_eq (tgt := 23) dX10_balanced_7 (by decide) (fun c => ?_) (fun c => ?_)
  · replace w := w.1 c
    refine st_iconst (v := (-1)) dX10_balanced_23 (by decide) ?_
    exact st_ireturn rfl rfl dX10_balanced_24 w
  · replace w := w.2 c
    refine st_aload_n dX10_balanced_10 rfl ?_
    refine st_getF (q := 1) fl_X10_10 fk_10_0 rfl dX10_balanced_11 sh_0 ?_
    refine st_iconst (v := 2) dX10_balanced_14 (by decide) ?_
    refine st_iload_n dX10_balanced_15 rfl ?_
    refine st_imul dX10_balanced_16 ?_
    refine st_callV (M' := mX9_holds) [.int (2 * x1)] [] dX10_balanced_17 ml_X10_139 mf_X9_holds mv_X9_holds sh_1 rfl rfl rfl (K := fun r h' => (am_b ((2 * x1) ≤ h.1 1 1)) = r ∧ h = h') ⟨1, by omega, iX9_holds ⟨rfl, rfl⟩⟩ (fun r1 h1 w1 => ?_)
    obtain ⟨rfl, rfl⟩ := w1
    show Ru mX10_balanced none d 20 [.ref 0, .int x1, .null] [.int (am_b ((2 * x1) ≤ h.1 1 1))] h Z
    refine st_ifb_ne (tgt := 25) dX10_balanced_20 (by decide) (fun c => ?_) (fun c => ?_)
    · replace w := w.1 c
      refine st_aload_n dX10_balanced_25 rfl ?_
      refine st_getF (q := 10) fl_X10_51 fk_10_6 rfl dX10_balanced_26 sh_0 ?_
      refine st_iload_n dX10_balanced_29 rfl ?_
      refine st_callV (M' := mX6_balancePlace) [.int x1] [] dX10_balanced_30 ml_X10_237 mf_X6_balancePlace mv_X6_balancePlace sh_10 rfl rfl rfl w (fun r1 h2 w => ?_)
      show Ru mX10_balanced none d 33 [.ref 0, .int x1, .null] [.int r1] h2 Z
      refine st_istore_n (L' := [.ref 0, .int x1, .int r1]) dX10_balanced_33 (by decide) rfl ?_
      refine st_aload_n dX10_balanced_34 rfl ?_
      refine st_getF (q := 1) fl_X10_10 fk_10_0 rfl dX10_balanced_35 sh_0 ?_
      refine st_callV (M' := mX9_clear) [] [] dX10_balanced_38 ml_X10_146 mf_X9_clear mv_X9_clear sh_1 rfl rfl rfl (K := fun r h' => 0 = r ∧ am_sI h2 1 1 0 = h') ⟨1, by omega, iX9_clear ⟨rfl, rfl⟩⟩ (fun r1 h1 w1 => ?_)
      obtain ⟨rfl, rfl⟩ := w1
      show Ru mX10_balanced none d 41 [.ref 0, .int x1, .int r1] [] (am_sI h2 1 1 0) Z
      refine st_iload_n dX10_balanced_41 rfl ?_
      exact st_ireturn rfl rfl dX10_balanced_42 w
    · replace w := w.2 c
      refine st_iconst (v := (-1)) dX10_balanced_23 (by decide) ?_
      exact st_ireturn rfl rfl dX10_balanced_24 w
set_option maxRecDepth 20000 in
set_option maxHeartbeats 2000000 in
theorem sX11_balanced_0 {d : Nat} {h : am_H} {Z : Int32 → am_H → Prop} {x1 : Int32} (hd : 2 ≤ d) (w : (¬ ((1 : Int32) ≤ x1 ∧ x1 ≤ (12 : Int32)) → Z (-1) h) ∧ ((1 : Int32) ≤ x1 ∧ x1 ≤ (12 : Int32) → ((2 * x1) ≤ (h.1 73 9) → (∀ h1 : am_H, h1 = am_sI h 73 9 0 → (Ru mX11_balanced none d 29 [.ref 73, .int x1, .int 0, .null, .null] [] h1 Z))) ∧ (¬ ((2 * x1) ≤ (h.1 73 9)) → Z (-1) h))) : Ru mX11_balanced none d 0 [.ref 73, .int x1, .null, .null, .null] [] h Z := by
  refine st_iload_n dX11_balanced_0 rfl ?_
  refine st_iconst (v := 1) dX11_balanced_1 (by decide) ?_
  refine st_bipush (v := 12) dX11_balanced_2 (by decide) ?_
  refine st_callS (M' := mX11_in) [.int x1, .int 1, .int 12] [] dX11_balanced_4 ml_X11_125 mf_X11_in ms_X11_in rfl rfl rfl (K := fun r h' => (am_b ((1 : Int32) ≤ x1 ∧ x1 ≤ (12 : Int32))) = r ∧ h = h') ⟨1, by omega, iX11_in ⟨rfl, rfl⟩⟩ (fun r1 h1 w1 => ?_)
  obtain ⟨rfl, rfl⟩ := w1
  show Ru mX11_balanced none d 7 [.ref 73, .int x1, .null, .null, .null] [.int (am_b ((1 : Int32) ≤ x1 ∧ x1 ≤ (12 : Int32)))] h Z
  refine st_ifb_eq (tgt := 20) dX11_balanced_7 (by decide) (fun c => ?_) (fun c => ?_)
  · replace w := w.1 c
    refine st_iconst (v := (-1)) dX11_balanced_20 (by decide) ?_
    exact st_ireturn rfl rfl dX11_balanced_21 w
  · replace w := w.2 c
    refine st_iconst (v := 2) dX11_balanced_10 (by decide) ?_
    refine st_iload_n dX11_balanced_11 rfl ?_
    refine st_imul dX11_balanced_12 ?_
    refine st_aload_n dX11_balanced_13 rfl ?_
    refine st_getI fl_X11_158 fk_11_9 dX11_balanced_14 sh_73 ?_
    refine st_icmp_le (tgt := 22) dX11_balanced_17 (by decide) (fun c => ?_) (fun c => ?_)
    · replace w := w.1 c
      refine st_aload_n dX11_balanced_22 rfl ?_
      refine st_iconst (v := 0) dX11_balanced_23 (by decide) ?_
      refine st_putI flp_X11_158 fk_11_9 dX11_balanced_24 sh_73 (fun h1 eh1 => ?_)
      replace w := w h1 eh1
      refine st_iconst (v := 0) dX11_balanced_27 (by decide) ?_
      refine st_istore_n (L' := [.ref 73, .int x1, .int 0, .null, .null]) dX11_balanced_28 (by decide) rfl ?_
      exact w
    · replace w := w.2 c
      refine st_iconst (v := (-1)) dX11_balanced_20 (by decide) ?_
      exact st_ireturn rfl rfl dX11_balanced_21 w
set_option maxRecDepth 20000 in
set_option maxHeartbeats 2000000 in
theorem sX11_balanced_29 {d : Nat} {h : am_H} {Z : Int32 → am_H → Prop} {x1 : Int32} {x2 : Int32} {u3 : Value} {u4 : Value} (w : (256 ≤ x2 → Z (-2) h) ∧ (¬ (256 ≤ x2) → Ru mX11_balanced none d 41 [.ref 73, .int x1, .int x2, .int 0, .int 0] [] h Z)) : Ru mX11_balanced none d 29 [.ref 73, .int x1, .int x2, u3, u4] [] h Z := by
  refine st_iload_n dX11_balanced_29 rfl ?_
  refine st_sipush (v := 256) dX11_balanced_30 (by decide) ?_
  refine st_icmp_ge (tgt := 89) dX11_balanced_33 (by decide) (fun c => ?_) (fun c => ?_)
  · replace w := w.1 c
    refine st_bipush (v := (-2)) dX11_balanced_89 (by decide) ?_
    exact st_ireturn rfl rfl dX11_balanced_91 w
  · replace w := w.2 c
    refine st_iconst (v := 0) dX11_balanced_36 (by decide) ?_
    refine st_istore_n (L' := [.ref 73, .int x1, .int x2, .int 0, u4]) dX11_balanced_37 (by decide) rfl ?_
    refine st_iconst (v := 0) dX11_balanced_38 (by decide) ?_
    refine st_istore (L' := [.ref 73, .int x1, .int x2, .int 0, .int 0]) dX11_balanced_39 (by decide) rfl ?_
    exact w
set_option maxRecDepth 20000 in
set_option maxHeartbeats 2000000 in
theorem sX11_balanced_41 {d : Nat} {h : am_H} {Z : Int32 → am_H → Prop} {x1 : Int32} {x2 : Int32} {x3 : Int32} {x4 : Int32} (hd : 2 ≤ d) (w : (x1 ≤ x4 → (¬ x3 = 0 → Ru mX11_balanced none d 29 [.ref 73, .int x1, .int (x2 + 1), .int x3, .int x4] [] h Z) ∧ (x3 = 0 → Z x2 h)) ∧ (¬ (x1 ≤ x4) → (vp_in (2 * x4) 260 ∧ (vp_in ((2 * x4) + 1) 260 ∧ (Ru mX11_balanced none d 41 [.ref 73, .int x1, .int x2, .int (x3 + (((h.2.2 80 (2 * x4).toNatClampNeg &&& 255) - x2) * (h.2.2 80 ((2 * x4) + 1).toNatClampNeg &&& 255))), .int (x4 + 1)] [] h Z))))) : Ru mX11_balanced none d 41 [.ref 73, .int x1, .int x2, .int x3, .int x4] [] h Z := by
  refine st_iload dX11_balanced_41 rfl ?_
  refine st_iload_n dX11_balanced_43 rfl ?_
  refine st_icmp_ge (tgt := 77) dX11_balanced_44 (by decide) (fun c => ?_) (fun c => ?_)
  · replace w := w.1 c
    refine st_iload_n dX11_balanced_77 rfl ?_
    refine st_if_ne (tgt := 83) dX11_balanced_78 (by decide) (fun c => ?_) (fun c => ?_)
    · replace w := w.1 c
      refine st_iinc (L' := [.ref 73, .int x1, .int (x2 + 1), .int x3, .int x4]) dX11_balanced_83 rfl rfl (by decide) rfl ?_
      refine st_goto (tgt := 29) dX11_balanced_86 (by decide) ?_
      exact w
    · replace w := w.2 c
      refine st_iload_n dX11_balanced_81 rfl ?_
      exact st_ireturn rfl rfl dX11_balanced_82 w
  · replace w := w.2 c
    refine st_iload_n dX11_balanced_47 rfl ?_
    refine st_aload_n dX11_balanced_48 rfl ?_
    refine st_iconst (v := 2) dX11_balanced_49 (by decide) ?_
    refine st_iload dX11_balanced_50 rfl ?_
    refine st_imul dX11_balanced_52 ?_
    have hc1 := w.1
    replace w := w.2
    refine st_callV (M' := mX11_octet) [.int (2 * x4)] [.int x3] dX11_balanced_53 ml_X11_388 mf_X11_octet mv_X11_octet sh_73 rfl rfl rfl (K := fun r h' => (h.2.2 80 (2 * x4).toNatClampNeg &&& 255) = r ∧ h = h') ⟨1, by omega, iX11_octet hc1 ⟨rfl, rfl⟩⟩ (fun r1 h1 w1 => ?_)
    obtain ⟨rfl, rfl⟩ := w1
    show Ru mX11_balanced none d 56 [.ref 73, .int x1, .int x2, .int x3, .int x4] [.int (h.2.2 80 (2 * x4).toNatClampNeg &&& 255), .int x3] h Z
    refine st_iload_n dX11_balanced_56 rfl ?_
    refine st_isub dX11_balanced_57 ?_
    refine st_aload_n dX11_balanced_58 rfl ?_
    refine st_iconst (v := 2) dX11_balanced_59 (by decide) ?_
    refine st_iload dX11_balanced_60 rfl ?_
    refine st_imul dX11_balanced_62 ?_
    refine st_iconst (v := 1) dX11_balanced_63 (by decide) ?_
    refine st_iadd dX11_balanced_64 ?_
    have hc2 := w.1
    replace w := w.2
    refine st_callV (M' := mX11_octet) [.int ((2 * x4) + 1)] [.int ((h.2.2 80 (2 * x4).toNatClampNeg &&& 255) - x2), .int x3] dX11_balanced_65 ml_X11_388 mf_X11_octet mv_X11_octet sh_73 rfl rfl rfl (K := fun r h' => (h.2.2 80 ((2 * x4) + 1).toNatClampNeg &&& 255) = r ∧ h = h') ⟨1, by omega, iX11_octet hc2 ⟨rfl, rfl⟩⟩ (fun r1 h1 w1 => ?_)
    obtain ⟨rfl, rfl⟩ := w1
    show Ru mX11_balanced none d 68 [.ref 73, .int x1, .int x2, .int x3, .int x4] [.int (h.2.2 80 ((2 * x4) + 1).toNatClampNeg &&& 255), .int ((h.2.2 80 (2 * x4).toNatClampNeg &&& 255) - x2), .int x3] h Z
    refine st_imul dX11_balanced_68 ?_
    refine st_iadd dX11_balanced_69 ?_
    refine st_istore_n (L' := [.ref 73, .int x1, .int x2, .int (x3 + (((h.2.2 80 (2 * x4).toNatClampNeg &&& 255) - x2) * (h.2.2 80 ((2 * x4) + 1).toNatClampNeg &&& 255))), .int x4]) dX11_balanced_70 (by decide) rfl ?_
    refine st_iinc (L' := [.ref 73, .int x1, .int x2, .int (x3 + (((h.2.2 80 (2 * x4).toNatClampNeg &&& 255) - x2) * (h.2.2 80 ((2 * x4) + 1).toNatClampNeg &&& 255))), .int (x4 + 1)]) dX11_balanced_71 rfl rfl (by decide) rfl ?_
    refine st_goto (tgt := 41) dX11_balanced_74 (by decide) ?_
    exact w
def bl_v (w mo : Nat) : Int32 := if w = 0 then 0 else if mo % w = 0 then nI (mo / w) else -2
section
variable {d : Nat} {h : am_H} {Z : Int32 → am_H → Prop} {n : Nat} {t : Nat → Nat}
abbrev bl_w (t : Nat → Nat) : Nat → Nat := am_sm (fun k => t (2 * k + 1))
abbrev bl_m (t : Nat → Nat) : Nat → Nat := am_sm (fun k => t (2 * k) * t (2 * k + 1))
theorem bl_wb (ht : ∀ i, t i < 256) (k : Nat) : bl_w t k ≤ 255 * k := by
  have := am_sm_le (f := fun k => t (2 * k + 1)) (g := fun _ => 255) k (fun j _ => by have := ht (2 * j + 1); omega)
  rw [am_sm_c, Nat.mul_comm] at this; exact this
theorem bl_mb (ht : ∀ i, t i < 256) (k : Nat) : bl_m t k ≤ 255 * bl_w t k := by
  have := am_sm_le (f := fun k => t (2 * k) * t (2 * k + 1)) (g := fun k => 255 * t (2 * k + 1)) k (fun j _ => Nat.mul_le_mul_right _ (by have := ht (2 * j); omega))
  rw [am_sm_mul] at this; exact this
theorem bl_x (hd : 3 ≤ d) (hn : n ≤ 12) (ht : ∀ i, t i < 256) (hT : ∀ i, i < 2 * n → am_at h (nI i) = nI (t i)) (z : Z (bl_v (bl_w t n) (bl_m t n)) h) : ∀ (m k : Nat), k + m = n → Ru mX6_balancePlace none d 7 [.ref 10, .int (nI n), .int (nI (bl_w t k)), .int (nI (bl_m t k)), .int (nI k)] [] h Z
  | 0, k, hk => by
    have ee : k = n := by omega
    subst ee
    have b1 := bl_wb ht k
    have b2 := bl_mb ht k
    unfold bl_v at z
    refine sX6_balancePlace_7 (by omega) ⟨fun _ => ⟨fun c => ⟨c, fun c2 => ?_, fun c2 => ?_⟩, fun c => ?_⟩, fun c => absurd (Int32.le_refl _) c⟩
    · have c' : ¬ bl_w t k = 0 := fun e => c (by rw [e]; rfl)
      rw [am_rem_n (by omega) (by omega) (by omega)] at c2
      rw [if_neg c', if_neg (fun e => c2 (by rw [e]; rfl))] at z
      exact z
    · have c' : ¬ bl_w t k = 0 := fun e => c (by rw [e]; rfl)
      have lt : bl_m t k % bl_w t k < bl_w t k := Nat.mod_lt _ (by omega)
      rw [am_rem_n (by omega) (by omega) (by omega)] at c2
      rw [if_neg c', if_pos ((nI_eq (b := 0) (by omega) (by omega)).mp c2)] at z
      rw [pk_div (by omega) (by omega) (by omega)]
      exact z
    · rw [if_pos ((nI_eq (b := 0) (by omega) (by omega)).mp c)] at z
      exact z
  | m + 1, k, hk => by
    refine sX6_balancePlace_7 (by omega) ⟨fun c => absurd c (nI_ge (by omega) (by omega)), fun _ => ?_⟩
    simp only [am_n2, nI_1, hT (2 * k) (by omega), hT (2 * k + 1) (by omega), nI_add, pk_mul]
    exact bl_x hd hn ht hT z m (k + 1) (by omega)
theorem bl_sub {a b : Nat} (ha : a < 2 ^ 30) (hb : b < 2 ^ 30) : nI a - nI b = 0 ↔ a = b := by
  constructor
  · intro e
    have := pk_sub_toInt ha hb
    rw [e] at this
    have e0 : (0 : Int32).toInt = 0 := rfl
    omega
  · intro e; subst e; simp
theorem bl_ring (M W P a b : Int32) : (M - P * W) + (a - P) * b = (M + a * b) - P * (W + b) := by grind
theorem bl_k (hd : 3 ≤ d) (hn : n ≤ 12) (ht : ∀ i, t i < 256) (hT : ∀ i, i < 2 * n → h.2.2 80 i &&& 255 = nI (t i)) {pl : Nat} (hp : pl < 256) (z1 : ¬ bl_m t n = pl * bl_w t n → ∀ u1 u2, Ru mX11_balanced none d 29 [.ref 73, .int (nI n), .int (nI (pl + 1)), u1, u2] [] h Z) (z2 : bl_m t n = pl * bl_w t n → Z (nI pl) h) : ∀ (m k : Nat), k + m = n → Ru mX11_balanced none d 41 [.ref 73, .int (nI n), .int (nI pl), .int (nI (bl_m t k) - nI pl * nI (bl_w t k)), .int (nI k)] [] h Z
  | 0, k, hk => by
    have ee : k = n := by omega
    subst ee
    have b1 := bl_wb ht k
    have b2 := bl_mb ht k
    have b3 : pl * bl_w t k ≤ 255 * bl_w t k := Nat.mul_le_mul_right _ (by omega)
    refine sX11_balanced_41 (by omega) ⟨fun _ => ⟨fun c => ?_, fun c => ?_⟩, fun c => absurd (Int32.le_refl _) c⟩
    · rw [pk_mul, bl_sub (by omega) (by omega)] at c
      rw [nI_1]
      exact z1 c _ _
    · rw [pk_mul, bl_sub (by omega) (by omega)] at c
      exact z2 c
  | m + 1, k, hk => by
    refine sX11_balanced_41 (by omega) ⟨fun c => absurd c (nI_ge (by omega) (by omega)), fun _ => ?_⟩
    simp only [am_n2, nI_1, nI_clamp (show 2 * k < 2 ^ 31 by omega), nI_clamp (show 2 * k + 1 < 2 ^ 31 by omega), hT (2 * k) (by omega), hT (2 * k + 1) (by omega), bl_ring]
    refine ⟨vp_in_nI (by omega) (by omega), vp_in_nI (by omega) (by omega), ?_⟩
    have ih := bl_k hd hn ht hT hp z1 z2 m (k + 1) (by omega)
    simp only [am_sm_s] at ih
    simp only [← nI_add, ← pk_mul] at ih ⊢
    exact ih
theorem bl_p (hd : 3 ≤ d) (hn : n ≤ 12) (ht : ∀ i, t i < 256) (hT : ∀ i, i < 2 * n → h.2.2 80 i &&& 255 = nI (t i)) (z : Z (bl_v (bl_w t n) (bl_m t n)) h) : ∀ (m pl : Nat) (u1 u2 : Value), pl + m = 256 → (∀ q, q < pl → ¬ bl_m t n = q * bl_w t n) → Ru mX11_balanced none d 29 [.ref 73, .int (nI n), .int (nI pl), u1, u2] [] h Z
  | 0, pl, u1, u2, hp, hq => by
    have ee : pl = 256 := by omega
    subst ee
    refine sX11_balanced_29 ⟨fun _ => ?_, fun c => absurd (nI_le (a := 256) (by omega) (by omega)) c⟩
    have b2 := bl_mb ht n
    have w0 : ¬ bl_w t n = 0 := fun e => hq 0 (by omega) (by rw [e] at b2; omega)
    have w1 : ¬ bl_m t n % bl_w t n = 0 := fun e => by
      have e2 := Nat.div_add_mod (bl_m t n) (bl_w t n)
      have l2 : bl_m t n / bl_w t n ≤ 255 := Nat.div_le_of_le_mul (by rw [Nat.mul_comm]; exact b2)
      exact hq (bl_m t n / bl_w t n) (by omega) (by rw [Nat.mul_comm]; omega)
    unfold bl_v at z
    rw [if_neg w0, if_neg w1] at z
    exact z
  | m + 1, pl, u1, u2, hp, hq => by
    refine sX11_balanced_29 ⟨fun c => absurd c (nI_ge (b := 256) (by omega) (by omega)), fun _ => ?_⟩
    have := bl_k (Z := Z) (n := n) hd hn ht hT (pl := pl) (by omega) (fun c u1 u2 => bl_p hd hn ht hT z m (pl + 1) u1 u2 (by omega) (fun q hq2 => by
        rcases Nat.lt_or_ge q pl with g | g
        · exact hq q g
        · have : q = pl := by omega
          subst this; exact c)) (fun c => ?_) n 0 (by omega)
    · have e0 : nI (bl_m t 0) - nI pl * nI (bl_w t 0) = 0 := by
        show nI 0 - nI pl * nI 0 = 0
        rw [pk_mul, Nat.mul_zero]; decide
      rw [e0] at this
      exact this
    · unfold bl_v at z
      by_cases w0 : bl_w t n = 0
      · have p0 : pl = 0 := by
          rcases Nat.eq_zero_or_pos pl with g | g
          · exact g
          · exact absurd (by rw [c, w0]; omega) (hq 0 g)
        rw [if_pos w0] at z
        rw [p0]; exact z
      · rw [if_neg w0, c, Nat.mul_mod_left, if_pos rfl, Nat.mul_div_left _ (by omega)] at z
        exact z
end
theorem pp_balanced {d : Nat} {h : am_H} {K : Int32 → Int32 → am_H → Prop} {x : Int32} {N : Nat} (hd : 9 ≤ d) (ht : am_tape h N) (z : ∀ r h', am_step h h' → K r r h') : am_cl mX10_balanced d [.ref 0, .int x] h (fun r1 h1 => am_cl mX11_balanced d [.ref 73, .int x] h1 (fun r2 h2 => K r1 r2 h2)) := by
  have hN := ht.1
  by_cases c1 : 1 ≤ x ∧ x ≤ 12
  · obtain ⟨n, hn, rfl⟩ := am_natle (N := 12) (by omega) (Int32.le_trans (by decide) c1.1) c1.2
    by_cases c2 : 2 * n ≤ N
    · refine ⟨8, by omega, Sp_of mf_X10_balanced rfl (Nat.le_of_ble_eq_true rfl) rfl (sX10_balanced_0 (by omega) ⟨fun c => absurd c1 c, fun _ => ⟨fun _ => ⟨7, by omega, Sp_of mf_X6_balancePlace rfl (Nat.le_of_ble_eq_true rfl) rfl (sX6_balancePlace_0 (bl_x (t := am_bt h) (by omega) hn (am_bt_lt h) (fun i hi => am_at_b ht (by omega)) ?_ n 0 (by omega)))⟩, fun c => absurd (by rw [am_n2, ht.2.1]; exact nI_le c2 (by omega)) c⟩⟩)⟩
      have g9 : (am_sI h 1 1 0).1 73 9 = h.1 73 9 := by rw [am_gI, if_neg (by decide)]
      refine ⟨8, by omega, Sp_of mf_X11_balanced rfl (Nat.le_of_ble_eq_true rfl) rfl (sX11_balanced_0 (by omega) ⟨fun c => absurd c1 c, fun _ => ⟨fun _ h1 e1 => bl_p (t := am_bt h) (by omega) hn (am_bt_lt h) (fun i _ => by rw [e1]; exact am_bt_e h i) ?_ 256 0 _ _ (by omega) (fun q hq => absurd hq (Nat.not_lt_zero q)), fun c => absurd (by rw [g9, am_n2, ht.2.2.1]; exact nI_le c2 (by omega)) c⟩⟩)⟩
      refine z _ _ ?_
      rw [e1]
      refine am_step_x (am_keep_sI (am_keep_sI (am_keep_rf h) (by decide)) (by decide)) ?_ ?_
      · rw [am_gI, if_neg (by decide), am_gI, if_pos ⟨rfl, rfl⟩]
      · rw [am_gI, if_pos ⟨rfl, rfl⟩]
    · have n1 : ¬ 2 * nI n ≤ h.1 1 1 := by rw [am_n2, ht.2.1]; exact nI_ge (by omega) (by omega)
      have n2 : ¬ 2 * nI n ≤ h.1 73 9 := by rw [am_n2, ht.2.2.1]; exact nI_ge (by omega) (by omega)
      refine ⟨8, by omega, Sp_of mf_X10_balanced rfl (Nat.le_of_ble_eq_true rfl) rfl (sX10_balanced_0 (by omega) ⟨fun c => absurd c1 c, fun _ => ⟨fun c => absurd c n1, fun _ => ?_⟩⟩)⟩
      exact ⟨8, by omega, Sp_of mf_X11_balanced rfl (Nat.le_of_ble_eq_true rfl) rfl (sX11_balanced_0 (by omega) ⟨fun c => absurd c1 c, fun _ => ⟨fun c => absurd c n2, fun _ => z _ _ (am_step_rf h)⟩⟩)⟩
  · refine ⟨8, by omega, Sp_of mf_X10_balanced rfl (Nat.le_of_ble_eq_true rfl) rfl (sX10_balanced_0 (by omega) ⟨fun _ => ?_, fun c => absurd c c1⟩)⟩
    exact ⟨8, by omega, Sp_of mf_X11_balanced rfl (Nat.le_of_ble_eq_true rfl) rfl (sX11_balanced_0 (by omega) ⟨fun _ => z _ _ (am_step_rf h), fun c => absurd c c1⟩)⟩
