-- ofSubject, seed, check, feed
set_option maxRecDepth 20000 in
set_option maxHeartbeats 2000000 in
theorem sX10_firstUnlike_0 {d : Nat} {h : am_H} {Z : Int32 → am_H → Prop} {x1 : Int32} (w : Ru mX10_firstUnlike none d 2 [.ref 0, .int x1, .int 0, .null] [] h Z) : Ru mX10_firstUnlike none d 0 [.ref 0, .int x1, .null, .null] [] h Z := by
  refine st_iconst (v := 0) dX10_firstUnlike_0 (by decide) ?_
  refine st_istore_n (L' := [.ref 0, .int x1, .int 0, .null]) dX10_firstUnlike_1 (by decide) rfl ?_
  exact w
set_option maxRecDepth 20000 in
set_option maxHeartbeats 2000000 in
theorem sX10_firstUnlike_2 {d : Nat} {h : am_H} {Z : Int32 → am_H → Prop} {x1 : Int32} {x2 : Int32} {u3 : Value} (hd : 2 ≤ d) (w : (x1 ≤ x2 → Z (-1) h) ∧ (¬ (x1 ≤ x2) → (am_bu (h.2.1 0 10) ∧ ((¬ (am_told h (h.2.1 0 10) x2) → ((am_at h x2) = 255 → Ru mX10_firstUnlike none d 2 [.ref 0, .int x1, .int (x2 + 1), .int 255] [] h Z) ∧ (¬ ((am_at h x2) = 255) → Z x2 h)) ∧ (am_told h (h.2.1 0 10) x2 → (vp_in x2 12 ∧ (((am_at h x2) = (h.2.2 (h.2.1 0 10 + 2) x2.toNatClampNeg) → Ru mX10_firstUnlike none d 2 [.ref 0, .int x1, .int (x2 + 1), .int (h.2.2 (h.2.1 0 10 + 2) x2.toNatClampNeg)] [] h Z) ∧ (¬ ((am_at h x2) = (h.2.2 (h.2.1 0 10 + 2) x2.toNatClampNeg)) → Z x2 h)))))))) : Ru mX10_firstUnlike none d 2 [.ref 0, .int x1, .int x2, u3] [] h Z := by
  refine st_iload_n dX10_firstUnlike_2 rfl ?_
  refine st_iload_n dX10_firstUnlike_3 rfl ?_
  refine st_icmp_ge (tgt := 54) dX10_firstUnlike_4 (by decide) (fun c => ?_) (fun c => ?_)
  · replace w := w.1 c
    refine st_iconst (v := (-1)) dX10_firstUnlike_54 (by decide) ?_
    exact st_ireturn rfl rfl dX10_firstUnlike_55 w
  · replace w := w.2 c
    refine st_aload_n dX10_firstUnlike_7 rfl ?_
    refine st_getP fl_X10_72 fk_10_10 dX10_firstUnlike_8 sh_0 ?_
    have hc1 := w.1
    replace w := w.2
    refine st_iload_n dX10_firstUnlike_11 rfl ?_
    refine st_callV (M' := mX0_isTold) [.int x2] [] dX10_firstUnlike_12 ml_X10_109 mf_X0_isTold mv_X0_isTold (bu_0 hc1) rfl rfl rfl (K := fun r h' => (am_b (am_told h (h.2.1 0 10) x2)) = r ∧ h = h') ⟨1, by omega, iX0_isTold hc1 ⟨rfl, rfl⟩⟩ (fun r1 h1 w1 => ?_)
    obtain ⟨rfl, rfl⟩ := w1
    show Ru mX10_firstUnlike none d 15 [.ref 0, .int x1, .int x2, u3] [.int (am_b (am_told h (h.2.1 0 10) x2))] h Z
    refine st_ifb_eq (tgt := 30) dX10_firstUnlike_15 (by decide) (fun c => ?_) (fun c => ?_)
    · replace w := w.1 c
      refine st_sipush (v := 255) dX10_firstUnlike_30 (by decide) ?_
      refine st_istore_n (L' := [.ref 0, .int x1, .int x2, .int 255]) dX10_firstUnlike_33 (by decide) rfl ?_
      refine st_aload_n dX10_firstUnlike_34 rfl ?_
      refine st_getF (q := 1) fl_X10_10 fk_10_0 rfl dX10_firstUnlike_35 sh_0 ?_
      refine st_iload_n dX10_firstUnlike_38 rfl ?_
      refine st_callV (M' := mX9_at) [.int x2] [] dX10_firstUnlike_39 ml_X10_275 mf_X9_at mv_X9_at sh_1 rfl rfl rfl (K := fun r h' => (am_at h x2) = r ∧ h = h') ⟨1, by omega, iX9_at ⟨rfl, rfl⟩⟩ (fun r1 h1 w1 => ?_)
      obtain ⟨rfl, rfl⟩ := w1
      show Ru mX10_firstUnlike none d 42 [.ref 0, .int x1, .int x2, .int 255] [.int (am_at h x2)] h Z
      refine st_iload_n dX10_firstUnlike_42 rfl ?_
      refine st_icmp_eq (tgt := 48) dX10_firstUnlike_43 (by decide) (fun c => ?_) (fun c => ?_)
      · replace w := w.1 c
        refine st_iinc (L' := [.ref 0, .int x1, .int (x2 + 1), .int 255]) dX10_firstUnlike_48 rfl rfl (by decide) rfl ?_
        refine st_goto (tgt := 2) dX10_firstUnlike_51 (by decide) ?_
        exact w
      · replace w := w.2 c
        refine st_iload_n dX10_firstUnlike_46 rfl ?_
        exact st_ireturn rfl rfl dX10_firstUnlike_47 w
    · replace w := w.2 c
      refine st_aload_n dX10_firstUnlike_18 rfl ?_
      refine st_getP fl_X10_72 fk_10_10 dX10_firstUnlike_19 sh_0 ?_
      refine st_getF (q := h.2.1 0 10 + 2) fl_X10_169 fk_0_1 rfl dX10_firstUnlike_22 (bu_0 hc1) ?_
      refine st_iload_n dX10_firstUnlike_25 rfl ?_
      have hc2 := w.1
      replace w := w.2
      refine st_iald dX10_firstUnlike_26 (bu_2 hc1) hc2 ?_
      refine st_goto (tgt := 33) dX10_firstUnlike_27 (by decide) ?_
      refine st_istore_n (L' := [.ref 0, .int x1, .int x2, .int (h.2.2 (h.2.1 0 10 + 2) x2.toNatClampNeg)]) dX10_firstUnlike_33 (by decide) rfl ?_
      refine st_aload_n dX10_firstUnlike_34 rfl ?_
      refine st_getF (q := 1) fl_X10_10 fk_10_0 rfl dX10_firstUnlike_35 sh_0 ?_
      refine st_iload_n dX10_firstUnlike_38 rfl ?_
      refine st_callV (M' := mX9_at) [.int x2] [] dX10_firstUnlike_39 ml_X10_275 mf_X9_at mv_X9_at sh_1 rfl rfl rfl (K := fun r h' => (am_at h x2) = r ∧ h = h') ⟨1, by omega, iX9_at ⟨rfl, rfl⟩⟩ (fun r1 h1 w1 => ?_)
      obtain ⟨rfl, rfl⟩ := w1
      show Ru mX10_firstUnlike none d 42 [.ref 0, .int x1, .int x2, .int (h.2.2 (h.2.1 0 10 + 2) x2.toNatClampNeg)] [.int (am_at h x2)] h Z
      refine st_iload_n dX10_firstUnlike_42 rfl ?_
      refine st_icmp_eq (tgt := 48) dX10_firstUnlike_43 (by decide) (fun c => ?_) (fun c => ?_)
      · replace w := w.1 c
        refine st_iinc (L' := [.ref 0, .int x1, .int (x2 + 1), .int (h.2.2 (h.2.1 0 10 + 2) x2.toNatClampNeg)]) dX10_firstUnlike_48 rfl rfl (by decide) rfl ?_
        refine st_goto (tgt := 2) dX10_firstUnlike_51 (by decide) ?_
        exact w
      · replace w := w.2 c
        refine st_iload_n dX10_firstUnlike_46 rfl ?_
        exact st_ireturn rfl rfl dX10_firstUnlike_47 w
set_option maxRecDepth 20000 in
set_option maxHeartbeats 2000000 in
theorem sX10_check_0 {d : Nat} {h : am_H} {Z : Int32 → am_H → Prop} {x1 : Int32} (hd : 2 ≤ d) (w : (¬ ((0 : Int32) ≤ x1 ∧ x1 ≤ (12 : Int32)) → Z (-2) h) ∧ ((0 : Int32) ≤ x1 ∧ x1 ≤ (12 : Int32) → (x1 ≤ h.1 1 1 → am_cl mX10_firstUnlike d [.ref 0, .int x1] h (fun r1 h2 => Z r1 (am_sI h2 1 1 0))) ∧ (¬ (x1 ≤ h.1 1 1) → Z (-2) h))) : Ru mX10_check none d 0 [.ref 0, .int x1, .null] [] h Z := by
  refine st_iload_n dX10_check_0 rfl ?_
  refine st_iconst (v := 0) dX10_check_1 (by decide) ?_
  refine st_bipush (v := 12) dX10_check_2 (by decide) ?_
  refine st_callS (M' := mX10_isFromTo) [.int x1, .int 0, .int 12] [] dX10_check_4 ml_X10_135 mf_X10_isFromTo ms_X10_isFromTo rfl rfl rfl (K := fun r h' => (am_b ((0 : Int32) ≤ x1 ∧ x1 ≤ (12 : Int32))) = r ∧ h = h') ⟨1, by omega, iX10_isFromTo ⟨rfl, rfl⟩⟩ (fun r1 h1 w1 => ?_)
  obtain ⟨rfl, rfl⟩ := w1
  show Ru mX10_check none d 7 [.ref 0, .int x1, .null] [.int (am_b ((0 : Int32) ≤ x1 ∧ x1 ≤ (12 : Int32)))] h Z
  refine st_ifb_eq (tgt := 21) dX10_check_7 (by decide) (fun c => ?_) (fun c => ?_)
  · replace w := w.1 c
    refine st_bipush (v := (-2)) dX10_check_21 (by decide) ?_
    exact st_ireturn rfl rfl dX10_check_23 w
  · replace w := w.2 c
    refine st_aload_n dX10_check_10 rfl ?_
    refine st_getF (q := 1) fl_X10_10 fk_10_0 rfl dX10_check_11 sh_0 ?_
    refine st_iload_n dX10_check_14 rfl ?_
    refine st_callV (M' := mX9_holds) [.int x1] [] dX10_check_15 ml_X10_139 mf_X9_holds mv_X9_holds sh_1 rfl rfl rfl (K := fun r h' => (am_b (x1 ≤ h.1 1 1)) = r ∧ h = h') ⟨1, by omega, iX9_holds ⟨rfl, rfl⟩⟩ (fun r1 h1 w1 => ?_)
    obtain ⟨rfl, rfl⟩ := w1
    show Ru mX10_check none d 18 [.ref 0, .int x1, .null] [.int (am_b (x1 ≤ h.1 1 1))] h Z
    refine st_ifb_ne (tgt := 24) dX10_check_18 (by decide) (fun c => ?_) (fun c => ?_)
    · replace w := w.1 c
      refine st_aload_n dX10_check_24 rfl ?_
      refine st_iload_n dX10_check_25 rfl ?_
      refine st_callV (M' := mX10_firstUnlike) [.int x1] [] dX10_check_26 ml_X10_272 mf_X10_firstUnlike mv_X10_firstUnlike sh_0 rfl rfl rfl w (fun r1 h2 w => ?_)
      show Ru mX10_check none d 29 [.ref 0, .int x1, .null] [.int r1] h2 Z
      refine st_istore_n (L' := [.ref 0, .int x1, .int r1]) dX10_check_29 (by decide) rfl ?_
      refine st_aload_n dX10_check_30 rfl ?_
      refine st_getF (q := 1) fl_X10_10 fk_10_0 rfl dX10_check_31 sh_0 ?_
      refine st_callV (M' := mX9_clear) [] [] dX10_check_34 ml_X10_146 mf_X9_clear mv_X9_clear sh_1 rfl rfl rfl (K := fun r h' => 0 = r ∧ am_sI h2 1 1 0 = h') ⟨1, by omega, iX9_clear ⟨rfl, rfl⟩⟩ (fun r1 h1 w1 => ?_)
      obtain ⟨rfl, rfl⟩ := w1
      show Ru mX10_check none d 37 [.ref 0, .int x1, .int r1] [] (am_sI h2 1 1 0) Z
      refine st_iload_n dX10_check_37 rfl ?_
      exact st_ireturn rfl rfl dX10_check_38 w
    · replace w := w.2 c
      refine st_bipush (v := (-2)) dX10_check_21 (by decide) ?_
      exact st_ireturn rfl rfl dX10_check_23 w
set_option maxRecDepth 20000 in
set_option maxHeartbeats 2000000 in
theorem sX11_check_0 {d : Nat} {h : am_H} {Z : Int32 → am_H → Prop} {x1 : Int32} (hd : 2 ≤ d) (w : (¬ ((0 : Int32) ≤ x1 ∧ x1 ≤ (12 : Int32)) → Z (-2) h) ∧ ((0 : Int32) ≤ x1 ∧ x1 ≤ (12 : Int32) → (x1 ≤ (h.1 73 9) → (∀ h1 : am_H, h1 = am_sI h 73 9 0 → (Ru mX11_check none d 28 [.ref 73, .int x1, .int 0] [] h1 Z))) ∧ (¬ (x1 ≤ (h.1 73 9)) → Z (-2) h))) : Ru mX11_check none d 0 [.ref 73, .int x1, .null] [] h Z := by
  refine st_iload_n dX11_check_0 rfl ?_
  refine st_iconst (v := 0) dX11_check_1 (by decide) ?_
  refine st_bipush (v := 12) dX11_check_2 (by decide) ?_
  refine st_callS (M' := mX11_in) [.int x1, .int 0, .int 12] [] dX11_check_4 ml_X11_125 mf_X11_in ms_X11_in rfl rfl rfl (K := fun r h' => (am_b ((0 : Int32) ≤ x1 ∧ x1 ≤ (12 : Int32))) = r ∧ h = h') ⟨1, by omega, iX11_in ⟨rfl, rfl⟩⟩ (fun r1 h1 w1 => ?_)
  obtain ⟨rfl, rfl⟩ := w1
  show Ru mX11_check none d 7 [.ref 73, .int x1, .null] [.int (am_b ((0 : Int32) ≤ x1 ∧ x1 ≤ (12 : Int32)))] h Z
  refine st_ifb_eq (tgt := 18) dX11_check_7 (by decide) (fun c => ?_) (fun c => ?_)
  · replace w := w.1 c
    refine st_bipush (v := (-2)) dX11_check_18 (by decide) ?_
    exact st_ireturn rfl rfl dX11_check_20 w
  · replace w := w.2 c
    refine st_iload_n dX11_check_10 rfl ?_
    refine st_aload_n dX11_check_11 rfl ?_
    refine st_getI fl_X11_158 fk_11_9 dX11_check_12 sh_73 ?_
    refine st_icmp_le (tgt := 21) dX11_check_15 (by decide) (fun c => ?_) (fun c => ?_)
    · replace w := w.1 c
      refine st_aload_n dX11_check_21 rfl ?_
      refine st_iconst (v := 0) dX11_check_22 (by decide) ?_
      refine st_putI flp_X11_158 fk_11_9 dX11_check_23 sh_73 (fun h1 eh1 => ?_)
      replace w := w h1 eh1
      refine st_iconst (v := 0) dX11_check_26 (by decide) ?_
      refine st_istore_n (L' := [.ref 73, .int x1, .int 0]) dX11_check_27 (by decide) rfl ?_
      exact w
    · replace w := w.2 c
      refine st_bipush (v := (-2)) dX11_check_18 (by decide) ?_
      exact st_ireturn rfl rfl dX11_check_20 w
set_option maxRecDepth 20000 in
set_option maxHeartbeats 2000000 in
theorem sX11_check_28 {d : Nat} {h : am_H} {Z : Int32 → am_H → Prop} {x1 : Int32} {x2 : Int32} (hd : 3 ≤ d) (w : (x1 ≤ x2 → Z (-1) h) ∧ (¬ (x1 ≤ x2) → (vp_in x2 260 ∧ ((¬ (am_mT h x2) → ((h.2.2 80 x2.toNatClampNeg &&& 255) = 255 → Ru mX11_check none d 28 [.ref 73, .int x1, .int (x2 + 1)] [] h Z) ∧ (¬ ((h.2.2 80 x2.toNatClampNeg &&& 255) = 255) → Z x2 h)) ∧ (am_mT h x2 → am_cl mX11_fullOf d [.ref 73, .int x2] h (fun r2 h3 => ((h.2.2 80 x2.toNatClampNeg &&& 255) = r2 → Ru mX11_check none d 28 [.ref 73, .int x1, .int (x2 + 1)] [] h3 Z) ∧ (¬ ((h.2.2 80 x2.toNatClampNeg &&& 255) = r2) → Z x2 h3))))))) : Ru mX11_check none d 28 [.ref 73, .int x1, .int x2] [] h Z := by
  refine st_iload_n dX11_check_28 rfl ?_
  refine st_iload_n dX11_check_29 rfl ?_
  refine st_icmp_ge (tgt := 68) dX11_check_30 (by decide) (fun c => ?_) (fun c => ?_)
  · replace w := w.1 c
    refine st_iconst (v := (-1)) dX11_check_68 (by decide) ?_
    exact st_ireturn rfl rfl dX11_check_69 w
  · replace w := w.2 c
    refine st_aload_n dX11_check_33 rfl ?_
    refine st_iload_n dX11_check_34 rfl ?_
    have hc1 := w.1
    replace w := w.2
    refine st_callV (M' := mX11_octet) [.int x2] [] dX11_check_35 ml_X11_388 mf_X11_octet mv_X11_octet sh_73 rfl rfl rfl (K := fun r h' => (h.2.2 80 x2.toNatClampNeg &&& 255) = r ∧ h = h') ⟨1, by omega, iX11_octet hc1 ⟨rfl, rfl⟩⟩ (fun r1 h1 w1 => ?_)
    obtain ⟨rfl, rfl⟩ := w1
    show Ru mX11_check none d 38 [.ref 73, .int x1, .int x2] [.int (h.2.2 80 x2.toNatClampNeg &&& 255)] h Z
    refine st_aload_n dX11_check_38 rfl ?_
    refine st_iload_n dX11_check_39 rfl ?_
    refine st_callV (M' := mX11_isDrawer) [.int x2] [.int (h.2.2 80 x2.toNatClampNeg &&& 255)] dX11_check_40 ml_X11_152 mf_X11_isDrawer mv_X11_isDrawer sh_73 rfl rfl rfl (K := fun r h' => (am_b (am_mT h x2)) = r ∧ h = h') ⟨2, by omega, iX11_isDrawer (by omega) ⟨rfl, rfl⟩⟩ (fun r1 h1 w1 => ?_)
    obtain ⟨rfl, rfl⟩ := w1
    show Ru mX11_check none d 43 [.ref 73, .int x1, .int x2] [.int (am_b (am_mT h x2)), .int (h.2.2 80 x2.toNatClampNeg &&& 255)] h Z
    refine st_ifb_eq (tgt := 54) dX11_check_43 (by decide) (fun c => ?_) (fun c => ?_)
    · replace w := w.1 c
      refine st_sipush (v := 255) dX11_check_54 (by decide) ?_
      refine st_icmp_eq (tgt := 62) dX11_check_57 (by decide) (fun c => ?_) (fun c => ?_)
      · replace w := w.1 c
        refine st_iinc (L' := [.ref 73, .int x1, .int (x2 + 1)]) dX11_check_62 rfl rfl (by decide) rfl ?_
        refine st_goto (tgt := 28) dX11_check_65 (by decide) ?_
        exact w
      · replace w := w.2 c
        refine st_iload_n dX11_check_60 rfl ?_
        exact st_ireturn rfl rfl dX11_check_61 w
    · replace w := w.2 c
      refine st_aload_n dX11_check_46 rfl ?_
      refine st_iload_n dX11_check_47 rfl ?_
      refine st_callV (M' := mX11_fullOf) [.int x2] [.int (h.2.2 80 x2.toNatClampNeg &&& 255)] dX11_check_48 ml_X11_140 mf_X11_fullOf mv_X11_fullOf sh_73 rfl rfl rfl w (fun r2 h3 w => ?_)
      show Ru mX11_check none d 51 [.ref 73, .int x1, .int x2] [.int r2, .int (h.2.2 80 x2.toNatClampNeg &&& 255)] h3 Z
      refine st_goto (tgt := 57) dX11_check_51 (by decide) ?_
      refine st_icmp_eq (tgt := 62) dX11_check_57 (by decide) (fun c => ?_) (fun c => ?_)
      · replace w := w.1 c
        refine st_iinc (L' := [.ref 73, .int x1, .int (x2 + 1)]) dX11_check_62 rfl rfl (by decide) rfl ?_
        refine st_goto (tgt := 28) dX11_check_65 (by decide) ?_
        exact w
      · replace w := w.2 c
        refine st_iload_n dX11_check_60 rfl ?_
        exact st_ireturn rfl rfl dX11_check_61 w
set_option maxRecDepth 20000 in
set_option maxHeartbeats 2000000 in
theorem sX10_feed_0 {d : Nat} {h : am_H} {Z : Int32 → am_H → Prop} {x1 : Int32} {x2 : Int32} {x3 : Int32} {x4 : Int32} {x5 : Int32} (hd : 2 ≤ d) (w : (h.1 1 1 + 20 ≤ 260 → am_cl mX9_append d [.ref 1, .int x1] h (fun r1 h2 => am_cl mX9_append d [.ref 1, .int x2] h2 (fun r3 h4 => am_cl mX9_append d [.ref 1, .int x3] h4 (fun r5 h6 => am_cl mX9_append d [.ref 1, .int x4] h6 (fun r7 h8 => am_cl mX9_append d [.ref 1, .int x5] h8 (fun r9 h10 => Z (h10.1 1 1) h10)))))) ∧ (¬ (h.1 1 1 + 20 ≤ 260) → Z (-1) h)) : Ru mX10_feed none d 0 [.ref 0, .int x1, .int x2, .int x3, .int x4, .int x5] [] h Z := by
  refine st_aload_n dX10_feed_0 rfl ?_
  refine st_getF (q := 1) fl_X10_10 fk_10_0 rfl dX10_feed_1 sh_0 ?_
  refine st_callV (M' := mX9_hasSpaceForFive) [] [] dX10_feed_4 ml_X10_124 mf_X9_hasSpaceForFive mv_X9_hasSpaceForFive sh_1 rfl rfl rfl (K := fun r h' => (am_b (h.1 1 1 + 20 ≤ 260)) = r ∧ h = h') ⟨1, by omega, iX9_hasSpace ⟨rfl, rfl⟩⟩ (fun r1 h1 w1 => ?_)
  obtain ⟨rfl, rfl⟩ := w1
  show Ru mX10_feed none d 7 [.ref 0, .int x1, .int x2, .int x3, .int x4, .int x5] [.int (am_b (h.1 1 1 + 20 ≤ 260))] h Z
  refine st_ifb_ne (tgt := 12) dX10_feed_7 (by decide) (fun c => ?_) (fun c => ?_)
  · replace w := w.1 c
    refine st_aload_n dX10_feed_12 rfl ?_
    refine st_getF (q := 1) fl_X10_10 fk_10_0 rfl dX10_feed_13 sh_0 ?_
    refine st_iload_n dX10_feed_16 rfl ?_
    refine st_callV (M' := mX9_append) [.int x1] [] dX10_feed_17 ml_X10_128 mf_X9_append mv_X9_append sh_1 rfl rfl rfl w (fun r1 h2 w => ?_)
    show Ru mX10_feed none d 20 [.ref 0, .int x1, .int x2, .int x3, .int x4, .int x5] [] h2 Z
    refine st_aload_n dX10_feed_20 rfl ?_
    refine st_getF (q := 1) fl_X10_10 fk_10_0 rfl dX10_feed_21 sh_0 ?_
    refine st_iload_n dX10_feed_24 rfl ?_
    refine st_callV (M' := mX9_append) [.int x2] [] dX10_feed_25 ml_X10_128 mf_X9_append mv_X9_append sh_1 rfl rfl rfl w (fun r3 h4 w => ?_)
    show Ru mX10_feed none d 28 [.ref 0, .int x1, .int x2, .int x3, .int x4, .int x5] [] h4 Z
    refine st_aload_n dX10_feed_28 rfl ?_
    refine st_getF (q := 1) fl_X10_10 fk_10_0 rfl dX10_feed_29 sh_0 ?_
    refine st_iload_n dX10_feed_32 rfl ?_
    refine st_callV (M' := mX9_append) [.int x3] [] dX10_feed_33 ml_X10_128 mf_X9_append mv_X9_append sh_1 rfl rfl rfl w (fun r5 h6 w => ?_)
    show Ru mX10_feed none d 36 [.ref 0, .int x1, .int x2, .int x3, .int x4, .int x5] [] h6 Z
    refine st_aload_n dX10_feed_36 rfl ?_
    refine st_getF (q := 1) fl_X10_10 fk_10_0 rfl dX10_feed_37 sh_0 ?_
    refine st_iload dX10_feed_40 rfl ?_
    refine st_callV (M' := mX9_append) [.int x4] [] dX10_feed_42 ml_X10_128 mf_X9_append mv_X9_append sh_1 rfl rfl rfl w (fun r7 h8 w => ?_)
    show Ru mX10_feed none d 45 [.ref 0, .int x1, .int x2, .int x3, .int x4, .int x5] [] h8 Z
    refine st_aload_n dX10_feed_45 rfl ?_
    refine st_getF (q := 1) fl_X10_10 fk_10_0 rfl dX10_feed_46 sh_0 ?_
    refine st_iload dX10_feed_49 rfl ?_
    refine st_callV (M' := mX9_append) [.int x5] [] dX10_feed_51 ml_X10_128 mf_X9_append mv_X9_append sh_1 rfl rfl rfl w (fun r9 h10 w => ?_)
    show Ru mX10_feed none d 54 [.ref 0, .int x1, .int x2, .int x3, .int x4, .int x5] [] h10 Z
    refine st_aload_n dX10_feed_54 rfl ?_
    refine st_getF (q := 1) fl_X10_10 fk_10_0 rfl dX10_feed_55 sh_0 ?_
    refine st_getI fl_X10_131 fk_9_1 dX10_feed_58 sh_1 ?_
    exact st_ireturn rfl rfl dX10_feed_61 w
  · replace w := w.2 c
    refine st_iconst (v := (-1)) dX10_feed_10 (by decide) ?_
    exact st_ireturn rfl rfl dX10_feed_11 w
set_option maxRecDepth 20000 in
set_option maxHeartbeats 2000000 in
theorem sX11_feed_0 {d : Nat} {h : am_H} {Z : Int32 → am_H → Prop} {x1 : Int32} {x2 : Int32} {x3 : Int32} {x4 : Int32} {x5 : Int32} (w : (((h.1 73 9) + 20) ≤ 260 → am_cl mX11_types d [.ref 73, .int x1] h (fun r1 h2 => am_cl mX11_types d [.ref 73, .int x2] h2 (fun r3 h4 => am_cl mX11_types d [.ref 73, .int x3] h4 (fun r5 h6 => am_cl mX11_types d [.ref 73, .int x4] h6 (fun r7 h8 => am_cl mX11_types d [.ref 73, .int x5] h8 (fun r9 h10 => Z (h10.1 73 9) h10)))))) ∧ (¬ (((h.1 73 9) + 20) ≤ 260) → Z (-1) h)) : Ru mX11_feed none d 0 [.ref 73, .int x1, .int x2, .int x3, .int x4, .int x5] [] h Z := by
  refine st_aload_n dX11_feed_0 rfl ?_
  refine st_getI fl_X11_158 fk_11_9 dX11_feed_1 sh_73 ?_
  refine st_bipush (v := 20) dX11_feed_4 (by decide) ?_
  refine st_iadd dX11_feed_6 ?_
  refine st_sipush (v := 260) dX11_feed_7 (by decide) ?_
  refine st_icmp_le (tgt := 15) dX11_feed_10 (by decide) (fun c => ?_) (fun c => ?_)
  · replace w := w.1 c
    refine st_aload_n dX11_feed_15 rfl ?_
    refine st_iload_n dX11_feed_16 rfl ?_
    refine st_callV (M' := mX11_types) [.int x1] [] dX11_feed_17 ml_X11_161 mf_X11_types mv_X11_types sh_73 rfl rfl rfl w (fun r1 h2 w => ?_)
    show Ru mX11_feed none d 20 [.ref 73, .int x1, .int x2, .int x3, .int x4, .int x5] [] h2 Z
    refine st_aload_n dX11_feed_20 rfl ?_
    refine st_iload_n dX11_feed_21 rfl ?_
    refine st_callV (M' := mX11_types) [.int x2] [] dX11_feed_22 ml_X11_161 mf_X11_types mv_X11_types sh_73 rfl rfl rfl w (fun r3 h4 w => ?_)
    show Ru mX11_feed none d 25 [.ref 73, .int x1, .int x2, .int x3, .int x4, .int x5] [] h4 Z
    refine st_aload_n dX11_feed_25 rfl ?_
    refine st_iload_n dX11_feed_26 rfl ?_
    refine st_callV (M' := mX11_types) [.int x3] [] dX11_feed_27 ml_X11_161 mf_X11_types mv_X11_types sh_73 rfl rfl rfl w (fun r5 h6 w => ?_)
    show Ru mX11_feed none d 30 [.ref 73, .int x1, .int x2, .int x3, .int x4, .int x5] [] h6 Z
    refine st_aload_n dX11_feed_30 rfl ?_
    refine st_iload dX11_feed_31 rfl ?_
    refine st_callV (M' := mX11_types) [.int x4] [] dX11_feed_33 ml_X11_161 mf_X11_types mv_X11_types sh_73 rfl rfl rfl w (fun r7 h8 w => ?_)
    show Ru mX11_feed none d 36 [.ref 73, .int x1, .int x2, .int x3, .int x4, .int x5] [] h8 Z
    refine st_aload_n dX11_feed_36 rfl ?_
    refine st_iload dX11_feed_37 rfl ?_
    refine st_callV (M' := mX11_types) [.int x5] [] dX11_feed_39 ml_X11_161 mf_X11_types mv_X11_types sh_73 rfl rfl rfl w (fun r9 h10 w => ?_)
    show Ru mX11_feed none d 42 [.ref 73, .int x1, .int x2, .int x3, .int x4, .int x5] [] h10 Z
    refine st_aload_n dX11_feed_42 rfl ?_
    refine st_getI fl_X11_158 fk_11_9 dX11_feed_43 sh_73 ?_
    exact st_ireturn rfl rfl dX11_feed_46 w
  · replace w := w.2 c
    refine st_iconst (v := (-1)) dX11_feed_13 (by decide) ?_
    exact st_ireturn rfl rfl dX11_feed_14 w
set_option maxRecDepth 20000 in
set_option maxHeartbeats 2000000 in
theorem sX11_types_0 {d : Nat} {h : am_H} {Z : Int32 → am_H → Prop} {x1 : Int32} (w : Ru mX11_types none d 2 [.ref 73, .int x1, .int 3] [] h Z) : Ru mX11_types none d 0 [.ref 73, .int x1, .null] [] h Z := by
  refine st_iconst (v := 3) dX11_types_0 (by decide) ?_
  refine st_istore_n (L' := [.ref 73, .int x1, .int 3]) dX11_types_1 (by decide) rfl ?_
  exact w
set_option maxRecDepth 20000 in
set_option maxHeartbeats 2000000 in
theorem sX11_types_2 {d : Nat} {h : am_H} {Z : Int32 → am_H → Prop} {x1 : Int32} {x2 : Int32} (w : (x2 < 0 → Z 0 h) ∧ (¬ (x2 < 0) → (vp_in (h.1 73 9) 260 ∧ (∀ h2 : am_H, h2 = am_sR h 80 (upd (h.2.2 80) (h.1 73 9).toNatClampNeg (vp_nar .byte ((x1 >>> ((8 * x2) &&& 31)).toInt8.toInt32))) → (∀ h3 : am_H, h3 = am_sI h2 73 9 ((h2.1 73 9) + 1) → (Ru mX11_types none d 2 [.ref 73, .int x1, .int (x2 + (-1))] [] h3 Z)))))) : Ru mX11_types none d 2 [.ref 73, .int x1, .int x2] [] h Z := by
  refine st_iload_n dX11_types_2 rfl ?_
  refine st_if_lt (tgt := 38) dX11_types_3 (by decide) (fun c => ?_) (fun c => ?_)
  · replace w := w.1 c
    exact st_return rfl dX11_types_38 w
  · replace w := w.2 c
    refine st_aload_n dX11_types_6 rfl ?_
    refine st_getF (q := 80) fl_X11_28 fk_11_8 rfl dX11_types_7 sh_73 ?_
    refine st_aload_n dX11_types_10 rfl ?_
    refine st_getI fl_X11_158 fk_11_9 dX11_types_11 sh_73 ?_
    refine st_iload_n dX11_types_14 rfl ?_
    refine st_bipush (v := 8) dX11_types_15 (by decide) ?_
    refine st_iload_n dX11_types_17 rfl ?_
    refine st_imul dX11_types_18 ?_
    refine st_ishr dX11_types_19 ?_
    refine st_i2b dX11_types_20 ?_
    have hc1 := w.1
    replace w := w.2
    refine st_bast dX11_types_21 sh_80 hc1 (fun h2 eh2 => ?_)
    replace w := w h2 eh2
    refine st_aload_n dX11_types_22 rfl ?_
    refine st_aload_n dX11_types_23 rfl ?_
    refine st_getI fl_X11_158 fk_11_9 dX11_types_24 sh_73 ?_
    refine st_iconst (v := 1) dX11_types_27 (by decide) ?_
    refine st_iadd dX11_types_28 ?_
    refine st_putI flp_X11_158 fk_11_9 dX11_types_29 sh_73 (fun h3 eh3 => ?_)
    replace w := w h3 eh3
    refine st_iinc (L' := [.ref 73, .int x1, .int (x2 + (-1))]) dX11_types_32 rfl rfl (by decide) rfl ?_
    refine st_goto (tgt := 2) dX11_types_35 (by decide) ?_
    exact w
def q_sc (B : am_AB) (s : Int32) (n : Nat) : Nat := am_sm (fun p => if nI (q_su B p) = s then 1 else 0) n
def q_ss (B : am_AB) (s : Int32) (n : Nat) : Nat := am_sm (fun p => if q_w B p < 12 ∧ nI (q_su B p) = s then q_si B p else 0) n
theorem q_sc_s (B : am_AB) (s : Int32) (n : Nat) : q_sc B s (n + 1) = q_sc B s n + (if nI (q_su B n) = s then 1 else 0) := rfl
theorem q_ss_s (B : am_AB) (s : Int32) (n : Nat) : q_ss B s (n + 1) = q_ss B s n + (if q_w B n < 12 ∧ nI (q_su B n) = s then q_si B n else 0) := rfl
section
variable {d b : Nat} {h : am_H} {Z : Int32 → am_H → Prop} {B : am_AB} {s : Int32}
theorem x_po (hd : 2 ≤ d) (hb : am_bu b) (hI : q_IC h b B) (hB : q_ok B) (z : Z (nI (q_sc B s (q_n B))) h) : ∀ (m j : Nat), j + m = q_n B → Ru mX0_papersOf none d 4 [.ref b, .int s, .int (nI (q_sc B s j)), .int (nI j)] [] h Z
  | 0, j, hj => by
    have e : j = q_n B := by omega
    subst e
    exact sX0_papersOf_4 hb hd ⟨fun _ => z, fun c => absurd (by rw [hI.1]; exact Int32.le_refl _) c⟩
  | m + 1, j, hj => by
    have hn := hB.1
    have ih := x_po hd hb hI hB z m (j + 1) (by omega)
    rw [q_sc_s] at ih
    refine sX0_papersOf_4 hb hd ⟨fun c => absurd c (by rw [hI.1]; exact nI_ge (by omega) (by omega)), fun _ => ⟨fun c => absurd ((q_pap hI hB).mpr ⟨j, by omega, rfl⟩) c, fun _ => ⟨vp_in_nI (by omega) (by omega), ?_⟩⟩⟩
    rw [nI_clamp (by omega), (hI.2.2.2.2 j (by omega)).1, nI_1 j]
    refine ⟨fun c => ?_, fun c => ?_⟩
    · rw [if_neg c] at ih; rw [show (0 : Int32) = nI 0 from rfl, nI_add]; exact ih
    · rw [if_pos c] at ih; rw [nI_1 (q_sc B s j)]; exact ih
theorem x_so (hd : 3 ≤ d) (hb : am_bu b) (hI : q_IC h b B) (hB : q_ok B) (z : Z (nI (q_ss B s (q_n B))) h) : ∀ (m j : Nat), j + m = q_n B → Ru mX0_sizesInOf none d 4 [.ref b, .int s, .int (nI (q_ss B s j)), .int (nI j)] [] h Z
  | 0, j, hj => by
    have e : j = q_n B := by omega
    subst e
    exact sX0_sizesInOf_4 hb hd ⟨fun _ => z, fun c => absurd (by rw [hI.1]; exact Int32.le_refl _) c⟩
  | m + 1, j, hj => by
    have hn := hB.1
    have ih := x_so hd hb hI hB z m (j + 1) (by omega)
    rw [q_ss_s] at ih
    refine sX0_sizesInOf_4 hb hd ⟨fun c => absurd c (by rw [hI.1]; exact nI_ge (by omega) (by omega)), fun _ => ⟨fun c => ?_, fun c => ⟨vp_in_nI (by omega) (by omega), ?_⟩⟩⟩
    · rw [q_in hI hB (by omega)] at c
      rw [if_neg (fun q => c q.1)] at ih
      rw [nI_1 j, show (0 : Int32) = nI 0 from rfl, nI_add]; exact ih
    · rw [q_in hI hB (by omega)] at c
      rw [nI_clamp (by omega), (hI.2.2.2.2 j (by omega)).1, (hI.2.2.2.2 j (by omega)).2.1, nI_1 j]
      refine ⟨fun c2 => ?_, fun c2 => ?_⟩
      · rw [if_neg (fun q => c2 q.2)] at ih; rw [show (0 : Int32) = nI 0 from rfl, nI_add]; exact ih
      · rw [if_pos ⟨c, c2⟩] at ih; rw [nI_add]; exact ih
theorem m_os {x2 : Int32} (hN : q_IN h 74 B) (hM : q_IM h B) (hB : q_ok B) (z1 : ¬ x2 = 0 → Z (nI (q_ss B s (q_n B))) h) (z0 : x2 = 0 → Z (nI (q_sc B s (q_n B))) h) : ∀ (m j : Nat), j + m = q_n B → Ru mX11_ofSubject none d 29 [.ref 73, .int s, .int x2, .int (nI (q_sc B s j)), .int (nI (q_ss B s j)), .int (nI j)] [] h Z
  | 0, j, hj => by
    have e : j = q_n B := by omega
    subst e
    exact sX11_ofSubject_29 ⟨fun _ => ⟨z1, z0⟩, fun c => absurd (by rw [hM.1]; exact Int32.le_refl _) c⟩
  | m + 1, j, hj => by
    have hn := hB.1
    have ih := m_os hN hM hB z1 z0 m (j + 1) (by omega)
    have hw := (hB.2.2.2.2 j (by omega)).2.2.1
    rw [q_ss_s, q_sc_s] at ih
    refine sX11_ofSubject_29 ⟨fun c => absurd c (by rw [hM.1]; exact nI_ge (by omega) (by omega)), fun _ => ⟨vp_in_nI (by omega) (by omega), ?_⟩⟩
    rw [nI_clamp (by omega), (hM.2.2.2 j (by omega)).1, (hM.2.2.2 j (by omega)).2, (hN.2.2 j (by omega)).1, q_w1_o hB (by omega), nI_1 j, nI_1 (q_sc B s j), nI_add (q_ss B s j)]
    refine ⟨fun c => ⟨vp_in_nI (by omega) (by omega), fun c2 => ?_, fun c2 => ?_⟩, fun c => ?_⟩
    · rw [if_pos c, if_neg (fun q => by omega)] at ih; exact ih
    · rw [if_pos c, if_pos ⟨by omega, c⟩] at ih; exact ih
    · rw [if_neg c, if_neg (fun q => c q.2)] at ih; exact ih
end
section
variable {d : Nat} {h : am_H} {K : Int32 → Int32 → am_H → Prop} {B : am_AB}
theorem pp_ofSubject {x y : Int32} (hd : 12 ≤ d) (hb : am_bu (h.2.1 0 10)) (hI : q_IC h (h.2.1 0 10) B) (hN : q_IN h 74 B) (hM : q_IM h B) (hB : q_ok B) (z : ∀ r, K r r h) : am_cl mX10_ofSubject d [.ref 0, .int x, .int y] h (fun r1 h1 => am_cl mX11_ofSubject d [.ref 73, .int x, .int y] h1 (fun r2 h2 => K r1 r2 h2)) := by
  have m0 : ∀ {Z : Int32 → am_H → Prop}, _ → am_cl mX11_ofSubject d [.ref 73, .int x, .int y] h Z := fun {Z} w => ⟨10, by omega, Sp_of mf_X11_ofSubject rfl (Nat.le_of_ble_eq_true rfl) rfl (sX11_ofSubject_0 (by omega) w)⟩
  refine ⟨10, by omega, Sp_of mf_X10_ofSubject rfl (Nat.le_of_ble_eq_true rfl) rfl (sX10_ofSubject_0 (by omega) ⟨fun c1 => ?_, fun c1 => ⟨fun c2 => ⟨fun c3 => ⟨hb, 8, by omega, Sp_of mf_X0_sizesInOf rfl (Nat.le_of_ble_eq_true rfl) rfl (sX0_sizesInOf_0 hb (x_so (by omega) hb hI hB ?_ (q_n B) 0 (by omega)))⟩, fun c3 => ⟨hb, 8, by omega, Sp_of mf_X0_papersOf rfl (Nat.le_of_ble_eq_true rfl) rfl (sX0_papersOf_0 hb (x_po (by omega) hb hI hB ?_ (q_n B) 0 (by omega)))⟩⟩, fun c2 => ?_⟩⟩)⟩
  · exact m0 ⟨fun _ => z _, fun q => absurd q c1⟩
  · exact m0 ⟨fun q => absurd c1 q, fun _ => ⟨fun _ => m_os hN hM hB (fun _ => z _) (fun q => absurd q c3) (q_n B) 0 (by omega), fun q => absurd c2 q⟩⟩
  · exact m0 ⟨fun q => absurd c1 q, fun _ => ⟨fun _ => m_os hN hM hB (fun q => absurd c3 q) (fun _ => z _) (q_n B) 0 (by omega), fun q => absurd c2 q⟩⟩
  · exact m0 ⟨fun q => absurd c1 q, fun _ => ⟨fun q => absurd q c2, fun _ => z _⟩⟩
abbrev q_sx (B : am_AB) (v : Nat) : am_AB := ((B.1.1, B.1.2.1, v), B.2)
theorem pp_seed {x : Int32} {b : Nat} (hd : 12 ≤ d) (eb : h.2.1 0 10 = b) (hb : am_bu b) (hI : q_IC h b B) (hN : q_IN h 74 B) (hM : q_IM h B) (hB : q_ok B)
    (z0 : ∀ r, K r r h) (z : ∀ r h' B', am_kp (q_eb b) h h' → q_IC h' b B' → q_IN h' 74 B' → q_IM h' B' → q_ok B' → K r r h') : am_cl mX10_seed d [.ref 0, .int x] h (fun r1 h1 => am_cl mX11_seed d [.ref 73, .int x] h1 (fun r2 h2 => K r1 r2 h2)) := by
  have hb1 : 20 ≤ b ∧ b ≤ 47 := by rcases hb with rfl | rfl | rfl | rfl <;> omega
  refine ⟨10, by omega, Sp_of mf_X10_seed rfl (Nat.le_of_ble_eq_true rfl) rfl (sX10_seed_0 (by omega) ⟨fun c => ?_, fun c => ?_⟩)⟩
  · rw [eb]
    refine ⟨hb, fun h1 e1 => ?_⟩
    refine ⟨10, by omega, Sp_of mf_X11_seed rfl (Nat.le_of_ble_eq_true rfl) rfl (sX11_seed_0 (by omega) ⟨fun _ => fun h2 e2 => ?_, fun q => absurd c q⟩)⟩
    obtain ⟨v, hv, rfl⟩ := am_natle (N := 65535) (by omega) c.1 c.2
    have hf : am_fr b h h1 := e1 ▸ am_fr_sI (am_fr_rf b h)
    have hn := hB.1
    subst e2
    refine z 1 _ (q_sx B v) (am_kp_fr hb1.1 hb1.2 hf _) (q_IC_s74 hb1.2 ?_) ⟨?_, ?_, fun p hp => ?_⟩ (q_IM_s74 (q_IM_fr hb1.2 hf hM)) ⟨hB.1, hB.2.1, by show v < 65536; omega, hB.2.2.2⟩
    · subst e1
      refine ⟨?_, ?_, ?_, hI.2.2.2⟩
      · rw [am_gI, if_neg (fun e => by omega)]; exact hI.1
      · rw [am_gI, if_neg (fun e => by omega)]; exact hI.2.1
      · rw [am_gI, if_pos ⟨rfl, rfl⟩]
    · rw [am_gRs, (hf.1 74 (by omega)).2]; exact hN.1
    · rw [am_gRs]; rfl
    · have hp' : p < q_n B := hp
      have h9 := hN.2.2 p hp
      rw [am_gRs, (hf.1 74 (by omega)).2]
      simp only [upd, show ¬ p = 73 by omega, show ¬ 24 + p = 73 by omega, show ¬ 48 + p = 73 by omega, if_false]
      exact h9
  · exact ⟨10, by omega, Sp_of mf_X11_seed rfl (Nat.le_of_ble_eq_true rfl) rfl (sX11_seed_0 (by omega) ⟨fun q => absurd q c, fun _ => z0 0⟩)⟩
end
/-- the first place where a test fails -/
def q_ff (f : Nat → Bool) : Nat → Nat → Int32
  | 0, _ => -1
  | m + 1, j => if f j then q_ff f m (j + 1) else nI j
def q_due (h : am_H) (B : am_AB) (j : Nat) : Bool := decide (nI (am_bt h j) = if 0 < q_r B j then nI (q_F B j) else 255)
section
variable {d b : Nat} {h : am_H} {Z : Int32 → am_H → Prop} {B : am_AB}
theorem x_unl {n N : Nat} (hd : 2 ≤ d) (eb : h.2.1 0 10 = b) (hb : am_bu b) (hI : q_IC h b B) (hB : q_ok B) (hn : n ≤ 12) (ht : am_tape h N) (hN : n ≤ N) (z : Z (q_ff (q_due h B) n 0) h) : ∀ (m j : Nat) (u : Value), j + m = n → q_ff (q_due h B) m j = q_ff (q_due h B) n 0 → Ru mX10_firstUnlike none d 2 [.ref 0, .int (nI n), .int (nI j), u] [] h Z
  | 0, j, u, hj, e => by
    have ej : j = n := by omega
    subst ej
    rw [← e] at z
    exact sX10_firstUnlike_2 hd ⟨fun _ => z, fun c => absurd (Int32.le_refl _) c⟩
  | m + 1, j, u, hj, e => by
    refine sX10_firstUnlike_2 hd ⟨fun c => absurd c (nI_ge (by omega) (by omega)), fun _ => ?_⟩
    have hF := hB.2.2.2.1 j (by omega)
    rw [eb, q_told hI hB (by omega), am_at_b ht (by omega), nI_clamp (by omega), (hI.2.2.2.1 j (by omega)).2.1, nI_1]
    have e' : (if q_due h B j = true then q_ff (q_due h B) m (j + 1) else nI j) = q_ff (q_due h B) n 0 := e
    refine ⟨hb, fun c => ⟨fun c2 => ?_, fun c2 => ?_⟩, fun c => ⟨vp_in_nI (by omega) (by omega), fun c2 => ?_, fun c2 => ?_⟩⟩
    · exact x_unl hd eb hb hI hB hn ht hN z m (j + 1) _ (by omega) (by rw [← e', if_pos (by unfold q_due; rw [if_neg c]; exact decide_eq_true c2)])
    · rw [← e', if_neg (by unfold q_due; rw [if_neg c]; simpa using c2)] at z; exact z
    · exact x_unl hd eb hb hI hB hn ht hN z m (j + 1) _ (by omega) (by rw [← e', if_pos (by unfold q_due; rw [if_pos c]; exact decide_eq_true c2)])
    · rw [← e', if_neg (by unfold q_due; rw [if_pos c]; simpa using c2)] at z; exact z
theorem m_unl {n : Nat} (hd : 5 ≤ d) (hN : q_IN h 74 B) (hM : q_IM h B) (hB : q_ok B) (hn : n ≤ 12) (z : Z (q_ff (q_due h B) n 0) h) : ∀ (m j : Nat), j + m = n → q_ff (q_due h B) m j = q_ff (q_due h B) n 0 → Ru mX11_check none d 28 [.ref 73, .int (nI n), .int (nI j)] [] h Z
  | 0, j, hj, e => by
    have ej : j = n := by omega
    subst ej
    rw [← e] at z
    exact sX11_check_28 (by omega) ⟨fun _ => z, fun c => absurd (Int32.le_refl _) c⟩
  | m + 1, j, hj, e => by
    refine sX11_check_28 (by omega) ⟨fun c => absurd c (nI_ge (by omega) (by omega)), fun _ => ⟨vp_in_nI (by omega) (by omega), ?_⟩⟩
    rw [nI_clamp (by omega), am_bt_e]
    have e' : (if q_due h B j = true then q_ff (q_due h B) m (j + 1) else nI j) = q_ff (q_due h B) n 0 := e
    refine ⟨fun c => ?_, fun c => ⟨3, by omega, iX11_fullOf hN hM hB (by omega) ?_⟩⟩
    · have c' : ¬ 0 < q_r B j := fun g => c ((q_mT hM).mpr ⟨j, by omega, rfl, g⟩)
      rw [nI_1]
      refine ⟨fun c2 => ?_, fun c2 => ?_⟩
      · exact m_unl hd hN hM hB hn z m (j + 1) (by omega) (by rw [← e', if_pos (by unfold q_due; rw [if_neg c']; exact decide_eq_true c2)])
      · rw [← e', if_neg (by unfold q_due; rw [if_neg c']; simpa using c2)] at z; exact z
    · have c' : 0 < q_r B j := by
        obtain ⟨i, hi, e2, g⟩ := (q_mT hM).mp c
        rw [(nI_eq (by omega) (by omega)).mp e2]; exact g
      rw [nI_1]
      refine ⟨fun c2 => ?_, fun c2 => ?_⟩
      · exact m_unl hd hN hM hB hn z m (j + 1) (by omega) (by rw [← e', if_pos (by unfold q_due; rw [if_pos c']; exact decide_eq_true c2)])
      · rw [← e', if_neg (by unfold q_due; rw [if_pos c']; simpa using c2)] at z; exact z
end
theorem q_IM_t {h : am_H} {B : am_AB} (hM : q_IM h B) : q_IM (am_sI (am_sI h 1 1 0) 73 9 0) B := by
  unfold q_IM
  rw [am_gI, if_neg (fun e => by omega), am_gI, if_neg (fun e => by omega), am_gI, if_neg (fun e => by omega), am_gI, if_neg (fun e => by omega)]
  exact hM
section
variable {d : Nat} {h : am_H} {K : Int32 → Int32 → am_H → Prop} {B : am_AB}
theorem pp_check {x : Int32} {N b : Nat} (hd : 12 ≤ d) (eb : h.2.1 0 10 = b) (hb : am_bu b) (hI : q_IC h b B) (hN : q_IN h 74 B) (hM : q_IM h B) (hB : q_ok B) (ht : am_tape h N) (z : ∀ r h', am_step h h' → K r r h') : am_cl mX10_check d [.ref 0, .int x] h (fun r1 h1 => am_cl mX11_check d [.ref 73, .int x] h1 (fun r2 h2 => K r1 r2 h2)) := by
  have m0 : ∀ {h0 : am_H} {Z : Int32 → am_H → Prop}, _ → am_cl mX11_check d [.ref 73, .int x] h0 Z := fun {h0 Z} w => ⟨10, by omega, Sp_of mf_X11_check rfl (Nat.le_of_ble_eq_true rfl) rfl (sX11_check_0 (by omega) w)⟩
  have e0 := ht.2.1
  have e1 := ht.2.2.1
  refine ⟨10, by omega, Sp_of mf_X10_check rfl (Nat.le_of_ble_eq_true rfl) rfl (sX10_check_0 (by omega) ⟨fun c => ?_, fun c => ⟨fun c2 => ?_, fun c2 => ?_⟩⟩)⟩
  · exact m0 ⟨fun _ => z _ _ (am_step_rf h), fun q => absurd q c⟩
  · obtain ⟨n, hn, rfl⟩ := am_natle (N := 12) (by omega) c.1 c.2
    have hnN : n ≤ N := by
      have := ht.1
      rw [e0, nI_leI (by omega) (by omega)] at c2; exact c2
    refine ⟨8, by omega, Sp_of mf_X10_firstUnlike rfl (Nat.le_of_ble_eq_true rfl) rfl (sX10_firstUnlike_0 (x_unl (by omega) eb hb hI hB hn ht hnN ?_ n 0 _ (by omega) rfl))⟩
    refine m0 ⟨fun q => absurd c q, fun _ => ⟨fun _ => fun h1 eh => ?_, fun q => absurd (by rw [am_gI, if_neg (fun e => by omega), e1, ← e0]; exact c2) q⟩⟩
    subst eh
    refine m_unl (h := am_sI (am_sI h 1 1 0) 73 9 0) (d := 10) (by omega) hN (q_IM_t hM) hB hn (z _ _ ?_) n 0 (by omega) rfl
    refine am_step_x (am_keep_sI (am_keep_sI (am_keep_rf h) rfl) rfl) ?_ ?_
    · rw [am_gI, if_neg (fun e => by omega), am_gI, if_pos ⟨rfl, rfl⟩]
    · rw [am_gI, if_pos ⟨rfl, rfl⟩]
  · exact m0 ⟨fun q => absurd c q, fun _ => ⟨fun q => absurd (by rw [e0, ← e1]; exact q) c2, fun _ => z _ _ (am_step_rf h)⟩⟩
end
theorem am_fed (x s : Int32) (k : Nat) (hk : k ≤ 24) (hs : (s.toBitVec.smod 32).toNat = k) (t : Int32) (ht : ((t.toUInt32 &&& Int32.toUInt32 31).toBitVec % 32).toNat = k) : (x.toUInt32 >>> (t.toUInt32 &&& Int32.toUInt32 31)).toInt32 &&& 255 = vp_nar .byte ((x >>> s).toInt8.toInt32) &&& 255 := by
  rw [pk_vb]
  apply Int32.toBitVec_inj.mp
  have e1 : (x.toUInt32 >>> (t.toUInt32 &&& Int32.toUInt32 31)).toInt32.toBitVec = x.toBitVec >>> k := by
    rw [← ht]; exact UInt32.toBitVec_shiftRight _ _
  have e2 : (x >>> s).toInt8.toInt32.toBitVec = ((x.toBitVec.sshiftRight k).signExtend 8).signExtend 32 := by
    rw [← hs]; rfl
  rw [Int32.toBitVec_and, Int32.toBitVec_and, e1, e2]
  apply BitVec.eq_of_getLsbD_eq
  intro i hi
  rw [BitVec.getLsbD_and, BitVec.getLsbD_and]
  by_cases c : i < 8
  · congr 1
    rw [BitVec.getLsbD_ushiftRight, BitVec.getLsbD_signExtend, BitVec.getLsbD_signExtend, BitVec.getLsbD_sshiftRight]
    have h1 : i < 32 := by omega
    have h2 : k + i < 32 := by omega
    simp [c, h1, h2]
  · have e : (Int32.toBitVec 255).getLsbD i = false := by
      show (255 : Nat).testBit i = false
      exact Nat.testBit_lt_two_pow (Nat.lt_of_lt_of_le (show 255 < 2 ^ 8 by decide) (Nat.pow_le_pow_right (by decide) (by omega)))
    rw [e, Bool.and_false, Bool.and_false]
def am_wr (a N k : Nat) (g : Nat → Int32) (h h' : am_H) : Prop := h'.2.1 = h.2.1 ∧ (∀ b, b ≠ a → h'.2.2 b = h.2.2 b) ∧ (∀ i, i < N → h'.2.2 a i = h.2.2 a i) ∧ ∀ j, j < k → h'.2.2 a (N + j) = g j
def am_wi (t f : Nat) (v : Int32) (h h' : am_H) : Prop := h'.1 t f = v ∧ ∀ b c, ¬ (b = t ∧ c = f) → h'.1 b c = h.1 b c
def q_cat (g : Nat → Int32) (k : Nat) (g2 : Nat → Int32) (j : Nat) : Int32 := if j < k then g j else g2 (j - k)
theorem am_wr_tr {a N k m : Nat} {g g2 : Nat → Int32} {h h1 h2 : am_H} (p : am_wr a N k g h h1) (q : am_wr a (N + k) m g2 h1 h2) : am_wr a N (k + m) (q_cat g k g2) h h2 := by
  refine ⟨q.1.trans p.1, fun b hb => (q.2.1 b hb).trans (p.2.1 b hb), fun i hi => (q.2.2.1 i (by omega)).trans (p.2.2.1 i hi), fun j hj => ?_⟩
  unfold q_cat
  by_cases c : j < k
  · rw [if_pos c, q.2.2.1 _ (by omega), p.2.2.2 j c]
  · rw [if_neg c, ← q.2.2.2 (j - k) (by omega), show N + k + (j - k) = N + j by omega]
theorem am_wi_tr {t f : Nat} {v w : Int32} {h h1 h2 : am_H} (p : am_wi t f v h h1) (q : am_wi t f w h1 h2) : am_wi t f w h h2 := ⟨q.1, fun b c hbc => (q.2 b c hbc).trans (p.2 b c hbc)⟩
def q_cb (x : Int32) (k : Nat) : Int32 := (x.toUInt32 >>> ((24 - (8 * nI k)).toUInt32 &&& Int32.toUInt32 31)).toInt32 &&& 255
def q_rb (x : Int32) (k : Nat) : Int32 := vp_nar .byte ((x >>> ((8 * (3 - nI k)) &&& 31)).toInt8.toInt32)
theorem q_cr (x : Int32) {k : Nat} (hk : k < 4) : q_cb x k = q_rb x k &&& 255 := by
  have : k = 0 ∨ k = 1 ∨ k = 2 ∨ k = 3 := by omega
  rcases this with rfl | rfl | rfl | rfl
  · exact am_fed x _ 24 (by omega) (by decide) _ (by decide)
  · exact am_fed x _ 16 (by omega) (by decide) _ (by decide)
  · exact am_fed x _ 8 (by omega) (by decide) _ (by decide)
  · exact am_fed x _ 0 (by omega) (by decide) _ (by decide)
theorem q_cat_cr {g g' g2 g2' : Nat → Int32} {k m : Nat} (p : ∀ j, j < k → g j = g' j &&& 255) (q : ∀ j, j < m → g2 j = g2' j &&& 255) : ∀ j, j < k + m → q_cat g k g2 j = q_cat g' k g2' j &&& 255 := fun j hj => by
  unfold q_cat
  by_cases c : j < k
  · rw [if_pos c, if_pos c]; exact p j c
  · rw [if_neg c, if_neg c]; exact q _ (by omega)
section
variable {d N : Nat} {h : am_H} {Z : Int32 → am_H → Prop} {x : Int32}
theorem x_app (hN : N + 4 ≤ 260) (e : h.1 1 1 = nI N) (z : ∀ h', am_wr 2 N 4 (q_cb x) h h' → am_wi 1 1 (nI (N + 4)) h h' → Z 0 h') : ∀ (m k : Nat) (h1 : am_H), k + m = 4 → h1.1 = h.1 → am_wr 2 N k (q_cb x) h h1 → Ru mX9_append none d 22 [.ref 1, .int x, .int (nI k)] [] h1 Z
  | 0, k, h1, hk, e1, hw => by
    have ek : k = 4 := by omega
    subst ek
    refine sX9_append_22 ⟨fun _ => fun h2 e2 => ?_, fun c => absurd (Int32.le_refl _) c⟩
    subst e2
    refine z _ hw ⟨?_, fun b c hbc => ?_⟩
    · rw [am_gI, if_pos ⟨rfl, rfl⟩, e1, e]; exact nI_add N 4
    · rw [am_gI, if_neg hbc, e1]
  | m + 1, k, h1, hk, e1, hw => by
    refine sX9_append_22 ⟨fun c => absurd c (nI_ge (b := 4) (by omega) (by omega)), fun _ => ?_⟩
    rw [e1, e, nI_add, nI_1, nI_clamp (by omega)]
    refine ⟨vp_in_nI (by omega) (by omega), fun h3 e3 => ?_⟩
    subst e3
    refine x_app hN e z m (k + 1) _ (by omega) e1 ⟨hw.1, fun b hb => ?_, fun i hi => ?_, fun j hj => ?_⟩
    · rw [am_gR, if_neg hb]; exact hw.2.1 b hb
    · rw [am_gRs, upd, if_neg (by omega)]; exact hw.2.2.1 i hi
    · rw [am_gRs, upd]
      by_cases c : j = k
      · subst c; rw [if_pos rfl]; rfl
      · rw [if_neg (by omega)]; exact hw.2.2.2 j (by omega)
theorem iX9_append (hN : N + 4 ≤ 260) (e : h.1 1 1 = nI N) (z : ∀ h', am_wr 2 N 4 (q_cb x) h h' → am_wi 1 1 (nI (N + 4)) h h' → Z 0 h') : Sp mX9_append d [.ref 1, .int x] h Z := by
  refine Sp_of mf_X9_append rfl (Nat.le_of_ble_eq_true rfl) rfl (sX9_append_0 ?_)
  rw [e]
  refine ⟨fun c => absurd c (nI_pos (by omega)), fun _ => ⟨fun _ => x_app hN e z 4 0 h (by omega) rfl ⟨rfl, fun _ _ => rfl, fun _ _ => rfl, fun j hj => absurd hj (Nat.not_lt_zero j)⟩, fun c => absurd ?_ c⟩⟩
  rw [show nI N + 4 = nI (N + 4) from nI_add N 4]
  exact (nI_leI (b := 260) (by omega) (by omega)).mpr hN
theorem m_typ (hN : N + 4 ≤ 260) (z : ∀ h', am_wr 80 N 4 (q_rb x) h h' → am_wi 73 9 (nI (N + 4)) h h' → Z 0 h') : ∀ (m k : Nat) (h1 : am_H), k + m = 4 → am_wi 73 9 (nI (N + k)) h h1 → am_wr 80 N k (q_rb x) h h1 → Ru mX11_types none d 2 [.ref 73, .int x, .int (3 - nI k)] [] h1 Z
  | 0, k, h1, hk, e1, hw => by
    have ek : k = 4 := by omega
    subst ek
    exact sX11_types_2 ⟨fun _ => z _ hw e1, fun c => absurd (by decide) c⟩
  | m + 1, k, h1, hk, e1, hw => by
    refine sX11_types_2 ⟨fun c => absurd c ?_, fun _ => ?_⟩
    · have : k = 0 ∨ k = 1 ∨ k = 2 ∨ k = 3 := by omega
      rcases this with rfl | rfl | rfl | rfl <;> decide
    rw [e1.1, nI_clamp (by omega)]
    refine ⟨vp_in_nI (by omega) (by omega), fun h2 e2 h3 e3 => ?_⟩
    rw [show (3 - nI k) + (-1) = 3 - nI (k + 1) by rw [← nI_1]; grind]
    subst e2
    subst e3
    refine m_typ hN z m (k + 1) _ (by omega) ⟨?_, fun b c hbc => ?_⟩ ⟨hw.1, fun b hb => ?_, fun i hi => ?_, fun j hj => ?_⟩
    · rw [am_gI, if_pos ⟨rfl, rfl⟩, am_gRi, e1.1, nI_1]; rfl
    · rw [am_gI, if_neg hbc, am_gRi]; exact e1.2 b c hbc
    · rw [am_gI2, am_gR, if_neg hb]; exact hw.2.1 b hb
    · rw [am_gI2, am_gRs, upd, if_neg (by omega)]; exact hw.2.2.1 i hi
    · rw [am_gI2, am_gRs, upd]
      by_cases c : j = k
      · subst c; rw [if_pos rfl]; rfl
      · rw [if_neg (by omega)]; exact hw.2.2.2 j (by omega)
theorem iX11_types (hN : N + 4 ≤ 260) (e : h.1 73 9 = nI N) (z : ∀ h', am_wr 80 N 4 (q_rb x) h h' → am_wi 73 9 (nI (N + 4)) h h' → Z 0 h') : Sp mX11_types d [.ref 73, .int x] h Z :=
  Sp_of mf_X11_types rfl (Nat.le_of_ble_eq_true rfl) rfl (sX11_types_0 (m_typ hN z 4 0 h (by omega) ⟨e, fun _ _ _ => rfl⟩ ⟨rfl, fun _ _ => rfl, fun _ _ => rfl, fun j hj => absurd hj (Nat.not_lt_zero j)⟩))
end
theorem pp_feed {d : Nat} {h : am_H} {K : Int32 → Int32 → am_H → Prop} {x1 x2 x3 x4 x5 : Int32} {N : Nat} (hd : 12 ≤ d) (ht : am_tape h N) (z0 : ∀ r, K r r h) (z : ∀ r h' N', am_tape h' N' → (∀ a, a ≠ 2 → a ≠ 80 → h'.2.2 a = h.2.2 a) → (∀ a k, ¬ (a = 1 ∧ k = 1) → ¬ (a = 73 ∧ k = 9) → h'.1 a k = h.1 a k) → h'.2.1 = h.2.1 → K r r h') : am_cl mX10_feed d [.ref 0, .int x1, .int x2, .int x3, .int x4, .int x5] h (fun r1 h1 => am_cl mX11_feed d [.ref 73, .int x1, .int x2, .int x3, .int x4, .int x5] h1 (fun r2 h2 => K r1 r2 h2)) := by
  have e0 := ht.2.1
  have e1 := ht.2.2.1
  have hN := ht.1
  have el : nI N + 20 ≤ 260 ↔ N + 20 ≤ 260 := by rw [show nI N + 20 = nI (N + 20) from nI_add N 20]; exact nI_leI (b := 260) (by omega) (by omega)
  have m0 : ∀ {h0 : am_H} {Z : Int32 → am_H → Prop}, _ → am_cl mX11_feed d [.ref 73, .int x1, .int x2, .int x3, .int x4, .int x5] h0 Z := fun {h0 Z} w => ⟨10, by omega, Sp_of mf_X11_feed rfl (Nat.le_of_ble_eq_true rfl) rfl (sX11_feed_0 w)⟩
  refine ⟨10, by omega, Sp_of mf_X10_feed rfl (Nat.le_of_ble_eq_true rfl) rfl (sX10_feed_0 (by omega) ⟨fun c => ?_, fun c => ?_⟩)⟩
  · have c' : N + 20 ≤ 260 := el.mp (by rw [← e0]; exact c)
    refine ⟨8, by omega, iX9_append (N := N) (by omega) e0 (fun h1 w1 i1 => ?_)⟩
    refine ⟨8, by omega, iX9_append (N := N + 4) (by omega) i1.1 (fun h2 w2 i2 => ?_)⟩
    refine ⟨8, by omega, iX9_append (N := N + 4 + 4) (by omega) i2.1 (fun h3 w3 i3 => ?_)⟩
    refine ⟨8, by omega, iX9_append (N := N + 4 + 4 + 4) (by omega) i3.1 (fun h4 w4 i4 => ?_)⟩
    refine ⟨8, by omega, iX9_append (N := N + 4 + 4 + 4 + 4) (by omega) i4.1 (fun h5 w5 i5 => ?_)⟩
    have W := am_wr_tr (k := 16) (m := 4) (am_wr_tr (k := 12) (m := 4) (am_wr_tr (k := 8) (m := 4) (am_wr_tr w1 w2) w3) w4) w5
    have I := am_wi_tr (am_wi_tr (am_wi_tr (am_wi_tr i1 i2) i3) i4) i5
    have f0 : h5.1 73 9 = nI N := (I.2 73 9 (fun e => by omega)).trans e1
    refine m0 ⟨fun _ => ?_, fun q => absurd (by rw [f0, ← e0]; exact c) q⟩
    refine ⟨8, by omega, iX11_types (N := N) (by omega) f0 (fun g1 v1 j1 => ?_)⟩
    refine ⟨8, by omega, iX11_types (N := N + 4) (by omega) j1.1 (fun g2 v2 j2 => ?_)⟩
    refine ⟨8, by omega, iX11_types (N := N + 4 + 4) (by omega) j2.1 (fun g3 v3 j3 => ?_)⟩
    refine ⟨8, by omega, iX11_types (N := N + 4 + 4 + 4) (by omega) j3.1 (fun g4 v4 j4 => ?_)⟩
    refine ⟨8, by omega, iX11_types (N := N + 4 + 4 + 4 + 4) (by omega) j4.1 (fun g5 v5 j5 => ?_)⟩
    have V := am_wr_tr (k := 16) (m := 4) (am_wr_tr (k := 12) (m := 4) (am_wr_tr (k := 8) (m := 4) (am_wr_tr v1 v2) v3) v4) v5
    have J := am_wi_tr (am_wi_tr (am_wi_tr (am_wi_tr j1 j2) j3) j4) j5
    have C := q_cat_cr (k := 16) (m := 4) (q_cat_cr (k := 12) (m := 4) (q_cat_cr (k := 8) (m := 4) (q_cat_cr (k := 4) (m := 4) (fun j hj => q_cr x1 hj) (fun j hj => q_cr x2 hj)) (fun j hj => q_cr x3 hj)) (fun j hj => q_cr x4 hj)) (fun j hj => q_cr x5 hj)
    have r1 : h5.1 1 1 = nI (N + 20) := I.1
    have r2 : g5.1 73 9 = nI (N + 20) := J.1
    have r3 : g5.1 1 1 = nI (N + 20) := (J.2 1 1 (fun e => by omega)).trans r1
    rw [r1, r2]
    refine z _ g5 (N + 20) ⟨by omega, r3, r2, fun i hi => ?_⟩ (fun a h2 h80 => (V.2.1 a h80).trans (W.2.1 a h2)) (fun a k h11 h73 => (J.2 a k h73).trans (I.2 a k h11)) (V.1.trans W.1)
    rw [V.2.1 2 (by omega)]
    rcases Nat.lt_or_ge i N with q | q
    · rw [W.2.2.1 i q, V.2.2.1 i q, W.2.1 80 (by omega)]; exact ht.2.2.2 i q
    · have ei : i = N + (i - N) := by omega
      rw [ei, W.2.2.2 (i - N) (by omega), V.2.2.2 (i - N) (by omega)]
      exact C (i - N) (by omega)
  · exact m0 ⟨fun q => absurd (by rw [e0, ← e1]; exact q) c, fun _ => z0 _⟩
