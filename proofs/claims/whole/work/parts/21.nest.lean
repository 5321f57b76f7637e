-- nest
set_option maxRecDepth 20000 in
set_option maxHeartbeats 2000000 in
theorem sX6_goesUnder_0 {d : Nat} {h : am_H} {Z : Int32 → am_H → Prop} {x1 : Int32} {x2 : Int32} (hd : 2 ≤ d) (w : ((am_at h (2 * x2)) ≤ (am_at h (2 * x1)) → Z 0 h) ∧ (¬ ((am_at h (2 * x2)) ≤ (am_at h (2 * x1))) → ((am_at h ((2 * x2) + 1)) ≤ (am_at h ((2 * x1) + 1)) → Z 0 h) ∧ (¬ ((am_at h ((2 * x2) + 1)) ≤ (am_at h ((2 * x1) + 1))) → Z 1 h))) : Ru mX6_goesUnder none d 0 [.ref 10, .int x1, .int x2] [] h Z := by
  refine st_aload_n dX6_goesUnder_0 rfl ?_
  refine st_getF (q := 1) fl_X6_27 fk_6_0 rfl dX6_goesUnder_1 sh_10 ?_
  refine st_iconst (v := 2) dX6_goesUnder_4 (by decide) ?_
  refine st_iload_n dX6_goesUnder_5 rfl ?_
  refine st_imul dX6_goesUnder_6 ?_
  refine st_callV (M' := mX9_at) [.int (2 * x1)] [] dX6_goesUnder_7 ml_X6_74 mf_X9_at mv_X9_at sh_1 rfl rfl rfl (K := fun r h' => (am_at h (2 * x1)) = r ∧ h = h') ⟨1, by omega, iX9_at ⟨rfl, rfl⟩⟩ (fun r1 h1 w1 => ?_)
  obtain ⟨rfl, rfl⟩ := w1
  show Ru mX6_goesUnder none d 10 [.ref 10, .int x1, .int x2] [.int (am_at h (2 * x1))] h Z
  refine st_aload_n dX6_goesUnder_10 rfl ?_
  refine st_getF (q := 1) fl_X6_27 fk_6_0 rfl dX6_goesUnder_11 sh_10 ?_
  refine st_iconst (v := 2) dX6_goesUnder_14 (by decide) ?_
  refine st_iload_n dX6_goesUnder_15 rfl ?_
  refine st_imul dX6_goesUnder_16 ?_
  refine st_callV (M' := mX9_at) [.int (2 * x2)] [.int (am_at h (2 * x1))] dX6_goesUnder_17 ml_X6_74 mf_X9_at mv_X9_at sh_1 rfl rfl rfl (K := fun r h' => (am_at h (2 * x2)) = r ∧ h = h') ⟨1, by omega, iX9_at ⟨rfl, rfl⟩⟩ (fun r1 h1 w1 => ?_)
  obtain ⟨rfl, rfl⟩ := w1
  show Ru mX6_goesUnder none d 20 [.ref 10, .int x1, .int x2] [.int (am_at h (2 * x2)), .int (am_at h (2 * x1))] h Z
  refine st_icmp_ge (tgt := 54) dX6_goesUnder_20 (by decide) (fun c => ?_) (fun c => ?_)
  · replace w := w.1 c
    refine st_iconst (v := 0) dX6_goesUnder_54 (by decide) ?_
    exact st_ireturn rfl rfl dX6_goesUnder_55 w
  · replace w := w.2 c
    refine st_aload_n dX6_goesUnder_23 rfl ?_
    refine st_getF (q := 1) fl_X6_27 fk_6_0 rfl dX6_goesUnder_24 sh_10 ?_
    refine st_iconst (v := 2) dX6_goesUnder_27 (by decide) ?_
    refine st_iload_n dX6_goesUnder_28 rfl ?_
    refine st_imul dX6_goesUnder_29 ?_
    refine st_iconst (v := 1) dX6_goesUnder_30 (by decide) ?_
    refine st_iadd dX6_goesUnder_31 ?_
    refine st_callV (M' := mX9_at) [.int ((2 * x1) + 1)] [] dX6_goesUnder_32 ml_X6_74 mf_X9_at mv_X9_at sh_1 rfl rfl rfl (K := fun r h' => (am_at h ((2 * x1) + 1)) = r ∧ h = h') ⟨1, by omega, iX9_at ⟨rfl, rfl⟩⟩ (fun r1 h1 w1 => ?_)
    obtain ⟨rfl, rfl⟩ := w1
    show Ru mX6_goesUnder none d 35 [.ref 10, .int x1, .int x2] [.int (am_at h ((2 * x1) + 1))] h Z
    refine st_aload_n dX6_goesUnder_35 rfl ?_
    refine st_getF (q := 1) fl_X6_27 fk_6_0 rfl dX6_goesUnder_36 sh_10 ?_
    refine st_iconst (v := 2) dX6_goesUnder_39 (by decide) ?_
    refine st_iload_n dX6_goesUnder_40 rfl ?_
    refine st_imul dX6_goesUnder_41 ?_
    refine st_iconst (v := 1) dX6_goesUnder_42 (by decide) ?_
    refine st_iadd dX6_goesUnder_43 ?_
    refine st_callV (M' := mX9_at) [.int ((2 * x2) + 1)] [.int (am_at h ((2 * x1) + 1))] dX6_goesUnder_44 ml_X6_74 mf_X9_at mv_X9_at sh_1 rfl rfl rfl (K := fun r h' => (am_at h ((2 * x2) + 1)) = r ∧ h = h') ⟨1, by omega, iX9_at ⟨rfl, rfl⟩⟩ (fun r1 h1 w1 => ?_)
    obtain ⟨rfl, rfl⟩ := w1
    show Ru mX6_goesUnder none d 47 [.ref 10, .int x1, .int x2] [.int (am_at h ((2 * x2) + 1)), .int (am_at h ((2 * x1) + 1))] h Z
    refine st_icmp_ge (tgt := 54) dX6_goesUnder_47 (by decide) (fun c => ?_) (fun c => ?_)
    · replace w := w.1 c
      refine st_iconst (v := 0) dX6_goesUnder_54 (by decide) ?_
      exact st_ireturn rfl rfl dX6_goesUnder_55 w
    · replace w := w.2 c
      refine st_iconst (v := 1) dX6_goesUnder_50 (by decide) ?_
      refine st_goto (tgt := 55) dX6_goesUnder_51 (by decide) ?_
      exact st_ireturn rfl rfl dX6_goesUnder_55 w
set_option maxRecDepth 20000 in
set_option maxHeartbeats 2000000 in
theorem sX11_isLess_0 {d : Nat} {h : am_H} {Z : Int32 → am_H → Prop} {x1 : Int32} {x2 : Int32} (hd : 2 ≤ d) (w : (vp_in (2 * x1) 260 ∧ (vp_in (2 * x2) 260 ∧ (((h.2.2 80 (2 * x2).toNatClampNeg &&& 255) ≤ (h.2.2 80 (2 * x1).toNatClampNeg &&& 255) → Z 0 h) ∧ (¬ ((h.2.2 80 (2 * x2).toNatClampNeg &&& 255) ≤ (h.2.2 80 (2 * x1).toNatClampNeg &&& 255)) → (vp_in ((2 * x1) + 1) 260 ∧ (vp_in ((2 * x2) + 1) 260 ∧ (((h.2.2 80 ((2 * x2) + 1).toNatClampNeg &&& 255) ≤ (h.2.2 80 ((2 * x1) + 1).toNatClampNeg &&& 255) → Z 0 h) ∧ (¬ ((h.2.2 80 ((2 * x2) + 1).toNatClampNeg &&& 255) ≤ (h.2.2 80 ((2 * x1) + 1).toNatClampNeg &&& 255)) → Z 1 h))))))))) : Ru mX11_isLess none d 0 [.ref 73, .int x1, .int x2] [] h Z := by
  refine st_aload_n dX11_isLess_0 rfl ?_
  refine st_iconst (v := 2) dX11_isLess_1 (by decide) ?_
  refine st_iload_n dX11_isLess_2 rfl ?_
  refine st_imul dX11_isLess_3 ?_
  have hc1 := w.1
  replace w := w.2
  refine st_callV (M' := mX11_octet) [.int (2 * x1)] [] dX11_isLess_4 ml_X11_388 mf_X11_octet mv_X11_octet sh_73 rfl rfl rfl (K := fun r h' => (h.2.2 80 (2 * x1).toNatClampNeg &&& 255) = r ∧ h = h') ⟨1, by omega, iX11_octet hc1 ⟨rfl, rfl⟩⟩ (fun r1 h1 w1 => ?_)
  obtain ⟨rfl, rfl⟩ := w1
  show Ru mX11_isLess none d 7 [.ref 73, .int x1, .int x2] [.int (h.2.2 80 (2 * x1).toNatClampNeg &&& 255)] h Z
  refine st_aload_n dX11_isLess_7 rfl ?_
  refine st_iconst (v := 2) dX11_isLess_8 (by decide) ?_
  refine st_iload_n dX11_isLess_9 rfl ?_
  refine st_imul dX11_isLess_10 ?_
  have hc2 := w.1
  replace w := w.2
  refine st_callV (M' := mX11_octet) [.int (2 * x2)] [.int (h.2.2 80 (2 * x1).toNatClampNeg &&& 255)] dX11_isLess_11 ml_X11_388 mf_X11_octet mv_X11_octet sh_73 rfl rfl rfl (K := fun r h' => (h.2.2 80 (2 * x2).toNatClampNeg &&& 255) = r ∧ h = h') ⟨1, by omega, iX11_octet hc2 ⟨rfl, rfl⟩⟩ (fun r1 h1 w1 => ?_)
  obtain ⟨rfl, rfl⟩ := w1
  show Ru mX11_isLess none d 14 [.ref 73, .int x1, .int x2] [.int (h.2.2 80 (2 * x2).toNatClampNeg &&& 255), .int (h.2.2 80 (2 * x1).toNatClampNeg &&& 255)] h Z
  refine st_icmp_ge (tgt := 42) dX11_isLess_14 (by decide) (fun c => ?_) (fun c => ?_)
  · replace w := w.1 c
    refine st_iconst (v := 0) dX11_isLess_42 (by decide) ?_
    exact st_ireturn rfl rfl dX11_isLess_43 w
  · replace w := w.2 c
    refine st_aload_n dX11_isLess_17 rfl ?_
    refine st_iconst (v := 2) dX11_isLess_18 (by decide) ?_
    refine st_iload_n dX11_isLess_19 rfl ?_
    refine st_imul dX11_isLess_20 ?_
    refine st_iconst (v := 1) dX11_isLess_21 (by decide) ?_
    refine st_iadd dX11_isLess_22 ?_
    have hc3 := w.1
    replace w := w.2
    refine st_callV (M' := mX11_octet) [.int ((2 * x1) + 1)] [] dX11_isLess_23 ml_X11_388 mf_X11_octet mv_X11_octet sh_73 rfl rfl rfl (K := fun r h' => (h.2.2 80 ((2 * x1) + 1).toNatClampNeg &&& 255) = r ∧ h = h') ⟨1, by omega, iX11_octet hc3 ⟨rfl, rfl⟩⟩ (fun r1 h1 w1 => ?_)
    obtain ⟨rfl, rfl⟩ := w1
    show Ru mX11_isLess none d 26 [.ref 73, .int x1, .int x2] [.int (h.2.2 80 ((2 * x1) + 1).toNatClampNeg &&& 255)] h Z
    refine st_aload_n dX11_isLess_26 rfl ?_
    refine st_iconst (v := 2) dX11_isLess_27 (by decide) ?_
    refine st_iload_n dX11_isLess_28 rfl ?_
    refine st_imul dX11_isLess_29 ?_
    refine st_iconst (v := 1) dX11_isLess_30 (by decide) ?_
    refine st_iadd dX11_isLess_31 ?_
    have hc4 := w.1
    replace w := w.2
    refine st_callV (M' := mX11_octet) [.int ((2 * x2) + 1)] [.int (h.2.2 80 ((2 * x1) + 1).toNatClampNeg &&& 255)] dX11_isLess_32 ml_X11_388 mf_X11_octet mv_X11_octet sh_73 rfl rfl rfl (K := fun r h' => (h.2.2 80 ((2 * x2) + 1).toNatClampNeg &&& 255) = r ∧ h = h') ⟨1, by omega, iX11_octet hc4 ⟨rfl, rfl⟩⟩ (fun r1 h1 w1 => ?_)
    obtain ⟨rfl, rfl⟩ := w1
    show Ru mX11_isLess none d 35 [.ref 73, .int x1, .int x2] [.int (h.2.2 80 ((2 * x2) + 1).toNatClampNeg &&& 255), .int (h.2.2 80 ((2 * x1) + 1).toNatClampNeg &&& 255)] h Z
    refine st_icmp_ge (tgt := 42) dX11_isLess_35 (by decide) (fun c => ?_) (fun c => ?_)
    · replace w := w.1 c
      refine st_iconst (v := 0) dX11_isLess_42 (by decide) ?_
      exact st_ireturn rfl rfl dX11_isLess_43 w
    · replace w := w.2 c
      refine st_iconst (v := 1) dX11_isLess_38 (by decide) ?_
      refine st_goto (tgt := 43) dX11_isLess_39 (by decide) ?_
      exact st_ireturn rfl rfl dX11_isLess_43 w
theorem iX6_goesUnder {d : Nat} {h : am_H} {Z : Int32 → am_H → Prop} {x1 x2 : Int32} (hd : 2 ≤ d) (z : Z (am_b (am_at h (2 * x1) < am_at h (2 * x2) ∧ am_at h (2 * x1 + 1) < am_at h (2 * x2 + 1))) h) : Sp mX6_goesUnder d [.ref 10, .int x1, .int x2] h Z := by
  refine Sp_of mf_X6_goesUnder rfl (Nat.le_of_ble_eq_true rfl) rfl ?_
  refine sX6_goesUnder_0 hd ⟨fun c => ?_, fun c => ⟨fun c2 => ?_, fun c2 => ?_⟩⟩
  · rwa [am_b0 (fun q => Int32.not_le.mpr q.1 c)] at z
  · rwa [am_b0 (fun q => Int32.not_le.mpr q.2 c2)] at z
  · rwa [am_b1 ⟨Int32.not_le.mp c, Int32.not_le.mp c2⟩] at z

theorem iX11_isLess {d : Nat} {h : am_H} {Z : Int32 → am_H → Prop} {x1 x2 : Int32} (hd : 2 ≤ d) (v1 : vp_in (2 * x1) 260) (v2 : vp_in (2 * x2) 260) (v3 : vp_in (2 * x1 + 1) 260) (v4 : vp_in (2 * x2 + 1) 260) (z : Z (am_b (am_oc h (2 * x1) < am_oc h (2 * x2) ∧ am_oc h (2 * x1 + 1) < am_oc h (2 * x2 + 1))) h) : Sp mX11_isLess d [.ref 73, .int x1, .int x2] h Z := by
  refine Sp_of mf_X11_isLess rfl (Nat.le_of_ble_eq_true rfl) rfl ?_
  refine sX11_isLess_0 hd ⟨v1, v2, fun c => ?_, fun c => ⟨v3, v4, fun c2 => ?_, fun c2 => ?_⟩⟩
  · rwa [am_b0 (fun q => Int32.not_le.mpr q.1 c)] at z
  · rwa [am_b0 (fun q => Int32.not_le.mpr q.2 c2)] at z
  · rwa [am_b1 ⟨Int32.not_le.mp c, Int32.not_le.mp c2⟩] at z
set_option maxRecDepth 20000 in
set_option maxHeartbeats 2000000 in
theorem sX6_mostNested_0 {d : Nat} {h : am_H} {Z : Int32 → am_H → Prop} {x1 : Int32} (hd : 2 ≤ d) (w : Ru mX6_mostNested none d 12 [.ref 10, .int x1, .int 1, .int 0, .null, .null] [] (am_sR h 11 (am_fill (h.2.2 11) 24 (1 : Int32))) Z) : Ru mX6_mostNested none d 0 [.ref 10, .int x1, .null, .null, .null, .null] [] h Z := by
  refine st_aload_n dX6_mostNested_0 rfl ?_
  refine st_getF (q := 11) fl_X6_11 fk_6_1 rfl dX6_mostNested_1 sh_10 ?_
  refine st_iconst (v := 1) dX6_mostNested_4 (by decide) ?_
  refine st_callS (M' := mJ7_fill_53178) [.ref 11, .int 1] [] dX6_mostNested_5 ml_X6_41 mf_J7_fill_53178 ms_J7_fill_53178 rfl rfl rfl (K := fun r h' => 0 = r ∧ am_sR h 11 (am_fill (h.2.2 11) 24 (1 : Int32)) = h') ⟨1, by omega, iJ7_fill sh_11 (by decide) ⟨rfl, rfl⟩⟩ (fun r1 h1 w1 => ?_)
  obtain ⟨rfl, rfl⟩ := w1
  show Ru mX6_mostNested none d 8 [.ref 10, .int x1, .null, .null, .null, .null] [] (am_sR h 11 (am_fill (h.2.2 11) 24 (1 : Int32))) Z
  refine st_iconst (v := 1) dX6_mostNested_8 (by decide) ?_
  refine st_istore_n (L' := [.ref 10, .int x1, .int 1, .null, .null, .null]) dX6_mostNested_9 (by decide) rfl ?_
  refine st_iconst (v := 0) dX6_mostNested_10 (by decide) ?_
  refine st_istore_n (L' := [.ref 10, .int x1, .int 1, .int 0, .null, .null]) dX6_mostNested_11 (by decide) rfl ?_
  exact w
set_option maxRecDepth 20000 in
set_option maxHeartbeats 2000000 in
theorem sX6_mostNested_12 {d : Nat} {h : am_H} {Z : Int32 → am_H → Prop} {x1 : Int32} {x2 : Int32} {x3 : Int32} {u4 : Value} {u5 : Value} (w : (x1 ≤ x3 → Z x2 h) ∧ (¬ (x1 ≤ x3) → Ru mX6_mostNested none d 20 [.ref 10, .int x1, .int x2, .int x3, .int 0, u5] [] h Z)) : Ru mX6_mostNested none d 12 [.ref 10, .int x1, .int x2, .int x3, u4, u5] [] h Z := by
  refine st_iload_n dX6_mostNested_12 rfl ?_
  refine st_iload_n dX6_mostNested_13 rfl ?_
  refine st_icmp_ge (tgt := 102) dX6_mostNested_14 (by decide) (fun c => ?_) (fun c => ?_)
  · replace w := w.1 c
    refine st_iload_n dX6_mostNested_102 rfl ?_
    exact st_ireturn rfl rfl dX6_mostNested_103 w
  · replace w := w.2 c
    refine st_iconst (v := 0) dX6_mostNested_17 (by decide) ?_
    refine st_istore (L' := [.ref 10, .int x1, .int x2, .int x3, .int 0, u5]) dX6_mostNested_18 (by decide) rfl ?_
    exact w
set_option maxRecDepth 20000 in
set_option maxHeartbeats 2000000 in
theorem sX6_mostNested_20 {d : Nat} {h : am_H} {Z : Int32 → am_H → Prop} {x1 : Int32} {x2 : Int32} {x3 : Int32} {x4 : Int32} {u5 : Value} (w : (x1 ≤ x4 → Ru mX6_mostNested none d 12 [.ref 10, .int x1, .int x2, .int (x3 + 1), .int x4, u5] [] h Z) ∧ (¬ (x1 ≤ x4) → Ru mX6_mostNested none d 29 [.ref 10, .int x1, .int x2, .int x3, .int x4, .int 0] [] h Z)) : Ru mX6_mostNested none d 20 [.ref 10, .int x1, .int x2, .int x3, .int x4, u5] [] h Z := by
  refine st_iload dX6_mostNested_20 rfl ?_
  refine st_iload_n dX6_mostNested_22 rfl ?_
  refine st_icmp_ge (tgt := 96) dX6_mostNested_23 (by decide) (fun c => ?_) (fun c => ?_)
  · replace w := w.1 c
    refine st_iinc (L' := [.ref 10, .int x1, .int x2, .int (x3 + 1), .int x4, u5]) dX6_mostNested_96 rfl rfl (by decide) rfl ?_
    refine st_goto (tgt := 12) dX6_mostNested_99 (by decide) ?_
    exact w
  · replace w := w.2 c
    refine st_iconst (v := 0) dX6_mostNested_26 (by decide) ?_
    refine st_istore (L' := [.ref 10, .int x1, .int x2, .int x3, .int x4, .int 0]) dX6_mostNested_27 (by decide) rfl ?_
    exact w
set_option maxRecDepth 20000 in
set_option maxHeartbeats 2000000 in
theorem sX6_mostNested_29 {d : Nat} {h : am_H} {Z : Int32 → am_H → Prop} {x1 : Int32} {x2 : Int32} {x3 : Int32} {x4 : Int32} {x5 : Int32} (hd : 3 ≤ d) (w : (x1 ≤ x5 → Ru mX6_mostNested none d 20 [.ref 10, .int x1, .int x2, .int x3, .int (x4 + 1), .int x5] [] h Z) ∧ (¬ (x1 ≤ x5) → (¬ (am_at h (2 * x5) < am_at h (2 * x4) ∧ am_at h (2 * x5 + 1) < am_at h (2 * x4 + 1)) → Ru mX6_mostNested none d 29 [.ref 10, .int x1, .int x2, .int x3, .int x4, .int (x5 + 1)] [] h Z) ∧ (am_at h (2 * x5) < am_at h (2 * x4) ∧ am_at h (2 * x5 + 1) < am_at h (2 * x4 + 1) → (vp_in x4 24 ∧ (vp_in x5 24 ∧ (∀ h3 : am_H, h3 = am_sR h 11 (upd (h.2.2 11) x4.toNatClampNeg (am_max (h.2.2 11 x4.toNatClampNeg) ((h.2.2 11 x5.toNatClampNeg) + 1))) → (Ru mX6_mostNested none d 29 [.ref 10, .int x1, .int (am_max x2 (h3.2.2 11 x4.toNatClampNeg)), .int x3, .int x4, .int (x5 + 1)] [] h3 Z))))))) : Ru mX6_mostNested none d 29 [.ref 10, .int x1, .int x2, .int x3, .int x4, .int x5] [] h Z := by
  refine st_iload dX6_mostNested_29 rfl ?_
  refine st_iload_n dX6_mostNested_31 rfl ?_
  refine st_icmp_ge (tgt := 90) dX6_mostNested_32 (by decide) (fun c => ?_) (fun c => ?_)
  · replace w := w.1 c
    refine st_iinc (L' := [.ref 10, .int x1, .int x2, .int x3, .int (x4 + 1), .int x5]) dX6_mostNested_90 rfl rfl (by decide) rfl ?_
    refine st_goto (tgt := 20) dX6_mostNested_93 (by decide) ?_
    exact w
  · replace w := w.2 c
    refine st_aload_n dX6_mostNested_35 rfl ?_
    refine st_iload dX6_mostNested_36 rfl ?_
    refine st_iload dX6_mostNested_38 rfl ?_
    refine st_callV (M' := mX6_goesUnder) [.int x5, .int x4] [] dX6_mostNested_40 ml_X6_67 mf_X6_goesUnder mv_X6_goesUnder sh_10 rfl rfl rfl (K := fun r h' => (am_b (am_at h (2 * x5) < am_at h (2 * x4) ∧ am_at h (2 * x5 + 1) < am_at h (2 * x4 + 1))) = r ∧ h = h') ⟨2, by omega, iX6_goesUnder (by omega) ⟨rfl, rfl⟩⟩ (fun r1 h1 w1 => ?_)
    obtain ⟨rfl, rfl⟩ := w1
    show Ru mX6_mostNested none d 43 [.ref 10, .int x1, .int x2, .int x3, .int x4, .int x5] [.int (am_b (am_at h (2 * x5) < am_at h (2 * x4) ∧ am_at h (2 * x5 + 1) < am_at h (2 * x4 + 1)))] h Z
    refine st_ifb_eq (tgt := 84) dX6_mostNested_43 (by decide) (fun c => ?_) (fun c => ?_)
    · replace w := w.1 c
      refine st_iinc (L' := [.ref 10, .int x1, .int x2, .int x3, .int x4, .int (x5 + 1)]) dX6_mostNested_84 rfl rfl (by decide) rfl ?_
      refine st_goto (tgt := 29) dX6_mostNested_87 (by decide) ?_
      exact w
    · replace w := w.2 c
      refine st_aload_n dX6_mostNested_46 rfl ?_
      refine st_getF (q := 11) fl_X6_11 fk_6_1 rfl dX6_mostNested_47 sh_10 ?_
      refine st_iload dX6_mostNested_50 rfl ?_
      refine st_aload_n dX6_mostNested_52 rfl ?_
      refine st_getF (q := 11) fl_X6_11 fk_6_1 rfl dX6_mostNested_53 sh_10 ?_
      refine st_iload dX6_mostNested_56 rfl ?_
      have hc1 := w.1
      replace w := w.2
      refine st_iald dX6_mostNested_58 sh_11 hc1 ?_
      refine st_aload_n dX6_mostNested_59 rfl ?_
      refine st_getF (q := 11) fl_X6_11 fk_6_1 rfl dX6_mostNested_60 sh_10 ?_
      refine st_iload dX6_mostNested_63 rfl ?_
      have hc2 := w.1
      replace w := w.2
      refine st_iald dX6_mostNested_65 sh_11 hc2 ?_
      refine st_iconst (v := 1) dX6_mostNested_66 (by decide) ?_
      refine st_iadd dX6_mostNested_67 ?_
      refine st_mmax dX6_mostNested_68 mk_max_X6_71 (by omega) rfl ?_
      refine st_iast dX6_mostNested_71 sh_11 hc1 (fun h3 eh3 => ?_)
      replace w := w h3 eh3
      refine st_iload_n dX6_mostNested_72 rfl ?_
      refine st_aload_n dX6_mostNested_73 rfl ?_
      refine st_getF (q := 11) fl_X6_11 fk_6_1 rfl dX6_mostNested_74 sh_10 ?_
      refine st_iload dX6_mostNested_77 rfl ?_
      refine st_iald dX6_mostNested_79 sh_11 hc1 ?_
      refine st_mmax dX6_mostNested_80 mk_max_X6_71 (by omega) rfl ?_
      refine st_istore_n (L' := [.ref 10, .int x1, .int (am_max x2 (h3.2.2 11 x4.toNatClampNeg)), .int x3, .int x4, .int x5]) dX6_mostNested_83 (by decide) rfl ?_
      refine st_iinc (L' := [.ref 10, .int x1, .int (am_max x2 (h3.2.2 11 x4.toNatClampNeg)), .int x3, .int x4, .int (x5 + 1)]) dX6_mostNested_84 rfl rfl (by decide) rfl ?_
      refine st_goto (tgt := 29) dX6_mostNested_87 (by decide) ?_
      exact w
set_option maxRecDepth 20000 in
set_option maxHeartbeats 2000000 in
theorem sX10_nest_0 {d : Nat} {h : am_H} {Z : Int32 → am_H → Prop} {x1 : Int32} (hd : 2 ≤ d) (w : (¬ ((1 : Int32) ≤ x1 ∧ x1 ≤ (12 : Int32)) → Z (-1) h) ∧ ((1 : Int32) ≤ x1 ∧ x1 ≤ (12 : Int32) → ((2 * x1) ≤ h.1 1 1 → am_cl mX6_mostNested d [.ref 10, .int x1] h (fun r1 h2 => Z r1 (am_sI h2 1 1 0))) ∧ (¬ ((2 * x1) ≤ h.1 1 1) → Z (-1) h))) : Ru mX10_nest none d 0 [.ref 0, .int x1, .null] [] h Z := by
  refine st_iload_n dX10_nest_0 rfl ?_
  refine st_iconst (v := 1) dX10_nest_1 (by decide) ?_
  refine st_bipush (v := 12) dX10_nest_2 (by decide) ?_
  refine st_callS (M' := mX10_isFromTo) [.int x1, .int 1, .int 12] [] dX10_nest_4 ml_X10_135 mf_X10_isFromTo ms_X10_isFromTo rfl rfl rfl (K := fun r h' => (am_b ((1 : Int32) ≤ x1 ∧ x1 ≤ (12 : Int32))) = r ∧ h = h') ⟨1, by omega, iX10_isFromTo ⟨rfl, rfl⟩⟩ (fun r1 h1 w1 => ?_)
  obtain ⟨rfl, rfl⟩ := w1
  show Ru mX10_nest none d 7 [.ref 0, .int x1, .null] [.int (am_b ((1 : Int32) ≤ x1 ∧ x1 ≤ (12 : Int32)))] h Z
  refine st_ifb_eq (tgt := 23) dX10_nest_7 (by decide) (fun c => ?_) (fun c => ?_)
  · replace w := w.1 c
    refine st_iconst (v := (-1)) dX10_nest_23 (by decide) ?_
    exact st_ireturn rfl rfl dX10_nest_24 w
  · replace w := w.2 c
    refine st_aload_n dX10_nest_10 rfl ?_
    refine st_getF (q := 1) fl_X10_10 fk_10_0 rfl dX10_nest_11 sh_0 ?_
    refine st_iconst (v := 2) dX10_nest_14 (by decide) ?_
    refine st_iload_n dX10_nest_15 rfl ?_
    refine st_imul dX10_nest_16 ?_
    refine st_callV (M' := mX9_holds) [.int (2 * x1)] [] dX10_nest_17 ml_X10_139 mf_X9_holds mv_X9_holds sh_1 rfl rfl rfl (K := fun r h' => (am_b ((2 * x1) ≤ h.1 1 1)) = r ∧ h = h') ⟨1, by omega, iX9_holds ⟨rfl, rfl⟩⟩ (fun r1 h1 w1 => ?_)
    obtain ⟨rfl, rfl⟩ := w1
    show Ru mX10_nest none d 20 [.ref 0, .int x1, .null] [.int (am_b ((2 * x1) ≤ h.1 1 1))] h Z
    refine st_ifb_ne (tgt := 25) dX10_nest_20 (by decide) (fun c => ?_) (fun c => ?_)
    · replace w := w.1 c
      refine st_aload_n dX10_nest_25 rfl ?_
      refine st_getF (q := 10) fl_X10_51 fk_10_6 rfl dX10_nest_26 sh_0 ?_
      refine st_iload_n dX10_nest_29 rfl ?_
      refine st_callV (M' := mX6_mostNested) [.int x1] [] dX10_nest_30 ml_X10_231 mf_X6_mostNested mv_X6_mostNested sh_10 rfl rfl rfl w (fun r1 h2 w => ?_)
      show Ru mX10_nest none d 33 [.ref 0, .int x1, .null] [.int r1] h2 Z
      refine st_istore_n (L' := [.ref 0, .int x1, .int r1]) dX10_nest_33 (by decide) rfl ?_
      refine st_aload_n dX10_nest_34 rfl ?_
      refine st_getF (q := 1) fl_X10_10 fk_10_0 rfl dX10_nest_35 sh_0 ?_
      refine st_callV (M' := mX9_clear) [] [] dX10_nest_38 ml_X10_146 mf_X9_clear mv_X9_clear sh_1 rfl rfl rfl (K := fun r h' => 0 = r ∧ am_sI h2 1 1 0 = h') ⟨1, by omega, iX9_clear ⟨rfl, rfl⟩⟩ (fun r1 h1 w1 => ?_)
      obtain ⟨rfl, rfl⟩ := w1
      show Ru mX10_nest none d 41 [.ref 0, .int x1, .int r1] [] (am_sI h2 1 1 0) Z
      refine st_iload_n dX10_nest_41 rfl ?_
      exact st_ireturn rfl rfl dX10_nest_42 w
    · replace w := w.2 c
      refine st_iconst (v := (-1)) dX10_nest_23 (by decide) ?_
      exact st_ireturn rfl rfl dX10_nest_24 w
set_option maxRecDepth 20000 in
set_option maxHeartbeats 2000000 in
theorem sX11_nest_0 {d : Nat} {h : am_H} {Z : Int32 → am_H → Prop} {x1 : Int32} (hd : 2 ≤ d) (w : (¬ ((1 : Int32) ≤ x1 ∧ x1 ≤ (12 : Int32)) → Z (-1) h) ∧ ((1 : Int32) ≤ x1 ∧ x1 ≤ (12 : Int32) → ((2 * x1) ≤ (h.1 73 9) → (∀ h1 : am_H, h1 = am_sI h 73 9 0 → (Ru mX11_nest none d 31 [.ref 73, .int x1, .int 1, .int 0, .null, .null, .null] [] h1 Z))) ∧ (¬ ((2 * x1) ≤ (h.1 73 9)) → Z (-1) h))) : Ru mX11_nest none d 0 [.ref 73, .int x1, .null, .null, .null, .null, .null] [] h Z := by
  refine st_iload_n dX11_nest_0 rfl ?_
  refine st_iconst (v := 1) dX11_nest_1 (by decide) ?_
  refine st_bipush (v := 12) dX11_nest_2 (by decide) ?_
  refine st_callS (M' := mX11_in) [.int x1, .int 1, .int 12] [] dX11_nest_4 ml_X11_125 mf_X11_in ms_X11_in rfl rfl rfl (K := fun r h' => (am_b ((1 : Int32) ≤ x1 ∧ x1 ≤ (12 : Int32))) = r ∧ h = h') ⟨1, by omega, iX11_in ⟨rfl, rfl⟩⟩ (fun r1 h1 w1 => ?_)
  obtain ⟨rfl, rfl⟩ := w1
  show Ru mX11_nest none d 7 [.ref 73, .int x1, .null, .null, .null, .null, .null] [.int (am_b ((1 : Int32) ≤ x1 ∧ x1 ≤ (12 : Int32)))] h Z
  refine st_ifb_eq (tgt := 20) dX11_nest_7 (by decide) (fun c => ?_) (fun c => ?_)
  · replace w := w.1 c
    refine st_iconst (v := (-1)) dX11_nest_20 (by decide) ?_
    exact st_ireturn rfl rfl dX11_nest_21 w
  · replace w := w.2 c
    refine st_iconst (v := 2) dX11_nest_10 (by decide) ?_
    refine st_iload_n dX11_nest_11 rfl ?_
    refine st_imul dX11_nest_12 ?_
    refine st_aload_n dX11_nest_13 rfl ?_
    refine st_getI fl_X11_158 fk_11_9 dX11_nest_14 sh_73 ?_
    refine st_icmp_le (tgt := 22) dX11_nest_17 (by decide) (fun c => ?_) (fun c => ?_)
    · replace w := w.1 c
      refine st_aload_n dX11_nest_22 rfl ?_
      refine st_iconst (v := 0) dX11_nest_23 (by decide) ?_
      refine st_putI flp_X11_158 fk_11_9 dX11_nest_24 sh_73 (fun h1 eh1 => ?_)
      replace w := w h1 eh1
      refine st_iconst (v := 1) dX11_nest_27 (by decide) ?_
      refine st_istore_n (L' := [.ref 73, .int x1, .int 1, .null, .null, .null, .null]) dX11_nest_28 (by decide) rfl ?_
      refine st_iconst (v := 0) dX11_nest_29 (by decide) ?_
      refine st_istore_n (L' := [.ref 73, .int x1, .int 1, .int 0, .null, .null, .null]) dX11_nest_30 (by decide) rfl ?_
      exact w
    · replace w := w.2 c
      refine st_iconst (v := (-1)) dX11_nest_20 (by decide) ?_
      exact st_ireturn rfl rfl dX11_nest_21 w
set_option maxRecDepth 20000 in
set_option maxHeartbeats 2000000 in
theorem sX11_nest_31 {d : Nat} {h : am_H} {Z : Int32 → am_H → Prop} {x1 : Int32} {x2 : Int32} {x3 : Int32} {u4 : Value} {u5 : Value} {u6 : Value} (w : (x1 ≤ x3 → Ru mX11_nest none d 51 [.ref 73, .int x1, .int x2, .int 0, u4, u5, u6] [] h Z) ∧ (¬ (x1 ≤ x3) → (vp_in x3 20 ∧ (∀ h2 : am_H, h2 = am_sR h 107 (upd (h.2.2 107) x3.toNatClampNeg 1) → (Ru mX11_nest none d 31 [.ref 73, .int x1, .int x2, .int (x3 + 1), u4, u5, u6] [] h2 Z))))) : Ru mX11_nest none d 31 [.ref 73, .int x1, .int x2, .int x3, u4, u5, u6] [] h Z := by
  refine st_iload_n dX11_nest_31 rfl ?_
  refine st_iload_n dX11_nest_32 rfl ?_
  refine st_icmp_ge (tgt := 49) dX11_nest_33 (by decide) (fun c => ?_) (fun c => ?_)
  · replace w := w.1 c
    refine st_iconst (v := 0) dX11_nest_49 (by decide) ?_
    refine st_istore_n (L' := [.ref 73, .int x1, .int x2, .int 0, u4, u5, u6]) dX11_nest_50 (by decide) rfl ?_
    exact w
  · replace w := w.2 c
    refine st_aload_n dX11_nest_36 rfl ?_
    refine st_getF (q := 107) fl_X11_110 fk_11_55 rfl dX11_nest_37 sh_73 ?_
    refine st_iload_n dX11_nest_40 rfl ?_
    refine st_iconst (v := 1) dX11_nest_41 (by decide) ?_
    have hc1 := w.1
    replace w := w.2
    refine st_iast dX11_nest_42 sh_107 hc1 (fun h2 eh2 => ?_)
    replace w := w h2 eh2
    refine st_iinc (L' := [.ref 73, .int x1, .int x2, .int (x3 + 1), u4, u5, u6]) dX11_nest_43 rfl rfl (by decide) rfl ?_
    refine st_goto (tgt := 31) dX11_nest_46 (by decide) ?_
    exact w
set_option maxRecDepth 20000 in
set_option maxHeartbeats 2000000 in
theorem sX11_nest_51 {d : Nat} {h : am_H} {Z : Int32 → am_H → Prop} {x1 : Int32} {x2 : Int32} {x3 : Int32} {u4 : Value} {u5 : Value} {u6 : Value} (w : (x1 ≤ x3 → Z x2 h) ∧ (¬ (x1 ≤ x3) → Ru mX11_nest none d 59 [.ref 73, .int x1, .int x2, .int x3, .int 0, u5, u6] [] h Z)) : Ru mX11_nest none d 51 [.ref 73, .int x1, .int x2, .int x3, u4, u5, u6] [] h Z := by
  refine st_iload_n dX11_nest_51 rfl ?_
  refine st_iload_n dX11_nest_52 rfl ?_
  refine st_icmp_ge (tgt := 140) dX11_nest_53 (by decide) (fun c => ?_) (fun c => ?_)
  · replace w := w.1 c
    refine st_iload_n dX11_nest_140 rfl ?_
    exact st_ireturn rfl rfl dX11_nest_141 w
  · replace w := w.2 c
    refine st_iconst (v := 0) dX11_nest_56 (by decide) ?_
    refine st_istore (L' := [.ref 73, .int x1, .int x2, .int x3, .int 0, u5, u6]) dX11_nest_57 (by decide) rfl ?_
    exact w
set_option maxRecDepth 20000 in
set_option maxHeartbeats 2000000 in
theorem sX11_nest_59 {d : Nat} {h : am_H} {Z : Int32 → am_H → Prop} {x1 : Int32} {x2 : Int32} {x3 : Int32} {x4 : Int32} {u5 : Value} {u6 : Value} (hd : 3 ≤ d) (w : ((x1 * x1) ≤ x4 → Ru mX11_nest none d 51 [.ref 73, .int x1, .int x2, .int (x3 + 1), .int x4, u5, u6] [] h Z) ∧ (¬ ((x1 * x1) ≤ x4) → (¬ x1 = 0 ∧ (vp_in (2 * (am_rem x4 x1)) 260 ∧ (vp_in (2 * (x4 / x1)) 260 ∧ (vp_in (2 * (am_rem x4 x1) + 1) 260 ∧ (vp_in (2 * (x4 / x1) + 1) 260 ∧ ((¬ (am_oc h (2 * (am_rem x4 x1)) < am_oc h (2 * (x4 / x1)) ∧ am_oc h (2 * (am_rem x4 x1) + 1) < am_oc h (2 * (x4 / x1) + 1)) → (vp_in (x4 / x1) 20 ∧ (Ru mX11_nest none d 59 [.ref 73, .int x1, .int (am_max x2 (h.2.2 107 (x4 / x1).toNatClampNeg)), .int x3, .int (x4 + 1), .int (x4 / x1), .int (am_rem x4 x1)] [] h Z))) ∧ (am_oc h (2 * (am_rem x4 x1)) < am_oc h (2 * (x4 / x1)) ∧ am_oc h (2 * (am_rem x4 x1) + 1) < am_oc h (2 * (x4 / x1) + 1) → (vp_in (x4 / x1) 20 ∧ (vp_in (am_rem x4 x1) 20 ∧ (∀ h9 : am_H, h9 = am_sR h 107 (upd (h.2.2 107) (x4 / x1).toNatClampNeg (am_max (h.2.2 107 (x4 / x1).toNatClampNeg) ((h.2.2 107 (am_rem x4 x1).toNatClampNeg) + 1))) → (Ru mX11_nest none d 59 [.ref 73, .int x1, .int (am_max x2 (h9.2.2 107 (x4 / x1).toNatClampNeg)), .int x3, .int (x4 + 1), .int (x4 / x1), .int (am_rem x4 x1)] [] h9 Z))))))))))))) : Ru mX11_nest none d 59 [.ref 73, .int x1, .int x2, .int x3, .int x4, u5, u6] [] h Z := by
  refine st_iload dX11_nest_59 rfl ?_
  refine st_iload_n dX11_nest_61 rfl ?_
  refine st_iload_n dX11_nest_62 rfl ?_
  refine st_imul dX11_nest_63 ?_
  refine st_icmp_ge (tgt := 134) dX11_nest_64 (by decide) (fun c => ?_) (fun c => ?_)
  · replace w := w.1 c
    refine st_iinc (L' := [.ref 73, .int x1, .int x2, .int (x3 + 1), .int x4, u5, u6]) dX11_nest_134 rfl rfl (by decide) rfl ?_
    refine st_goto (tgt := 51) dX11_nest_137 (by decide) ?_
    exact w
  · replace w := w.2 c
    refine st_iload dX11_nest_67 rfl ?_
    refine st_iload_n dX11_nest_69 rfl ?_
    have hc1 := w.1
    replace w := w.2
    refine st_idiv dX11_nest_70 hc1 ?_
    refine st_istore (L' := [.ref 73, .int x1, .int x2, .int x3, .int x4, .int (x4 / x1), u6]) dX11_nest_71 (by decide) rfl ?_
    refine st_iload dX11_nest_73 rfl ?_
    refine st_iload_n dX11_nest_75 rfl ?_
    refine st_irem dX11_nest_76 hc1 ?_
    refine st_istore (L' := [.ref 73, .int x1, .int x2, .int x3, .int x4, .int (x4 / x1), .int (am_rem x4 x1)]) dX11_nest_77 (by decide) rfl ?_
    refine st_aload_n dX11_nest_79 rfl ?_
    refine st_iload dX11_nest_80 rfl ?_
    refine st_iload dX11_nest_82 rfl ?_
    have hc2 := w.1
    replace w := w.2
    have hc3 := w.1
    replace w := w.2
    have hc4 := w.1
    replace w := w.2
    have hc5 := w.1
    replace w := w.2
    refine st_callV (M' := mX11_isLess) [.int (am_rem x4 x1), .int (x4 / x1)] [] dX11_nest_84 ml_X11_397 mf_X11_isLess mv_X11_isLess sh_73 rfl rfl rfl (K := fun r h' => (am_b (am_oc h (2 * (am_rem x4 x1)) < am_oc h (2 * (x4 / x1)) ∧ am_oc h (2 * (am_rem x4 x1) + 1) < am_oc h (2 * (x4 / x1) + 1))) = r ∧ h = h') ⟨2, by omega, iX11_isLess (by omega) hc2 hc3 hc4 hc5 ⟨rfl, rfl⟩⟩ (fun r1 h1 w1 => ?_)
    obtain ⟨rfl, rfl⟩ := w1
    show Ru mX11_nest none d 87 [.ref 73, .int x1, .int x2, .int x3, .int x4, .int (x4 / x1), .int (am_rem x4 x1)] [.int (am_b (am_oc h (2 * (am_rem x4 x1)) < am_oc h (2 * (x4 / x1)) ∧ am_oc h (2 * (am_rem x4 x1) + 1) < am_oc h (2 * (x4 / x1) + 1)))] h Z
    refine st_ifb_eq (tgt := 116) dX11_nest_87 (by decide) (fun c => ?_) (fun c => ?_)
    · replace w := w.1 c
      refine st_iload_n dX11_nest_116 rfl ?_
      refine st_aload_n dX11_nest_117 rfl ?_
      refine st_getF (q := 107) fl_X11_110 fk_11_55 rfl dX11_nest_118 sh_73 ?_
      refine st_iload dX11_nest_121 rfl ?_
      have hc6 := w.1
      replace w := w.2
      refine st_iald dX11_nest_123 sh_107 hc6 ?_
      refine st_callS (M' := mX11_max) [.int x2, .int (h.2.2 107 (x4 / x1).toNatClampNeg)] [] dX11_nest_124 ml_X11_373 mf_X11_max ms_X11_max rfl rfl rfl (K := fun r h' => (am_max x2 (h.2.2 107 (x4 / x1).toNatClampNeg)) = r ∧ h = h') ⟨1, by omega, iX11_max ⟨rfl, rfl⟩⟩ (fun r1 h1 w1 => ?_)
      obtain ⟨rfl, rfl⟩ := w1
      show Ru mX11_nest none d 127 [.ref 73, .int x1, .int x2, .int x3, .int x4, .int (x4 / x1), .int (am_rem x4 x1)] [.int (am_max x2 (h.2.2 107 (x4 / x1).toNatClampNeg))] h Z
      refine st_istore_n (L' := [.ref 73, .int x1, .int (am_max x2 (h.2.2 107 (x4 / x1).toNatClampNeg)), .int x3, .int x4, .int (x4 / x1), .int (am_rem x4 x1)]) dX11_nest_127 (by decide) rfl ?_
      refine st_iinc (L' := [.ref 73, .int x1, .int (am_max x2 (h.2.2 107 (x4 / x1).toNatClampNeg)), .int x3, .int (x4 + 1), .int (x4 / x1), .int (am_rem x4 x1)]) dX11_nest_128 rfl rfl (by decide) rfl ?_
      refine st_goto (tgt := 59) dX11_nest_131 (by decide) ?_
      exact w
    · replace w := w.2 c
      refine st_aload_n dX11_nest_90 rfl ?_
      refine st_getF (q := 107) fl_X11_110 fk_11_55 rfl dX11_nest_91 sh_73 ?_
      refine st_iload dX11_nest_94 rfl ?_
      refine st_aload_n dX11_nest_96 rfl ?_
      refine st_getF (q := 107) fl_X11_110 fk_11_55 rfl dX11_nest_97 sh_73 ?_
      refine st_iload dX11_nest_100 rfl ?_
      have hc7 := w.1
      replace w := w.2
      refine st_iald dX11_nest_102 sh_107 hc7 ?_
      refine st_aload_n dX11_nest_103 rfl ?_
      refine st_getF (q := 107) fl_X11_110 fk_11_55 rfl dX11_nest_104 sh_73 ?_
      refine st_iload dX11_nest_107 rfl ?_
      have hc8 := w.1
      replace w := w.2
      refine st_iald dX11_nest_109 sh_107 hc8 ?_
      refine st_iconst (v := 1) dX11_nest_110 (by decide) ?_
      refine st_iadd dX11_nest_111 ?_
      refine st_callS (M' := mX11_max) [.int (h.2.2 107 (x4 / x1).toNatClampNeg), .int ((h.2.2 107 (am_rem x4 x1).toNatClampNeg) + 1)] [.int (x4 / x1), .ref 107] dX11_nest_112 ml_X11_373 mf_X11_max ms_X11_max rfl rfl rfl (K := fun r h' => (am_max (h.2.2 107 (x4 / x1).toNatClampNeg) ((h.2.2 107 (am_rem x4 x1).toNatClampNeg) + 1)) = r ∧ h = h') ⟨1, by omega, iX11_max ⟨rfl, rfl⟩⟩ (fun r1 h1 w1 => ?_)
      obtain ⟨rfl, rfl⟩ := w1
      show Ru mX11_nest none d 115 [.ref 73, .int x1, .int x2, .int x3, .int x4, .int (x4 / x1), .int (am_rem x4 x1)] [.int (am_max (h.2.2 107 (x4 / x1).toNatClampNeg) ((h.2.2 107 (am_rem x4 x1).toNatClampNeg) + 1)), .int (x4 / x1), .ref 107] h Z
      refine st_iast dX11_nest_115 sh_107 hc7 (fun h9 eh9 => ?_)
      replace w := w h9 eh9
      refine st_iload_n dX11_nest_116 rfl ?_
      refine st_aload_n dX11_nest_117 rfl ?_
      refine st_getF (q := 107) fl_X11_110 fk_11_55 rfl dX11_nest_118 sh_73 ?_
      refine st_iload dX11_nest_121 rfl ?_
      refine st_iald dX11_nest_123 sh_107 hc7 ?_
      refine st_callS (M' := mX11_max) [.int x2, .int (h9.2.2 107 (x4 / x1).toNatClampNeg)] [] dX11_nest_124 ml_X11_373 mf_X11_max ms_X11_max rfl rfl rfl (K := fun r h' => (am_max x2 (h9.2.2 107 (x4 / x1).toNatClampNeg)) = r ∧ h9 = h') ⟨1, by omega, iX11_max ⟨rfl, rfl⟩⟩ (fun r1 h1 w1 => ?_)
      obtain ⟨rfl, rfl⟩ := w1
      show Ru mX11_nest none d 127 [.ref 73, .int x1, .int x2, .int x3, .int x4, .int (x4 / x1), .int (am_rem x4 x1)] [.int (am_max x2 (h9.2.2 107 (x4 / x1).toNatClampNeg))] h9 Z
      refine st_istore_n (L' := [.ref 73, .int x1, .int (am_max x2 (h9.2.2 107 (x4 / x1).toNatClampNeg)), .int x3, .int x4, .int (x4 / x1), .int (am_rem x4 x1)]) dX11_nest_127 (by decide) rfl ?_
      refine st_iinc (L' := [.ref 73, .int x1, .int (am_max x2 (h9.2.2 107 (x4 / x1).toNatClampNeg)), .int x3, .int (x4 + 1), .int (x4 / x1), .int (am_rem x4 x1)]) dX11_nest_128 rfl rfl (by decide) rfl ?_
      refine st_goto (tgt := 59) dX11_nest_131 (by decide) ?_
      exact w
abbrev ns_lt (T : Nat → Int32) (b a : Nat) : Prop := T (2 * b) < T (2 * a) ∧ T (2 * b + 1) < T (2 * a + 1)
def ns_st (T : Nat → Int32) (a b : Nat) (s : (Nat → Int32) × Int32) : (Nat → Int32) × Int32 := if ns_lt T b a then (upd s.1 a (am_max (s.1 a) (s.1 b + 1)), am_max s.2 (am_max (s.1 a) (s.1 b + 1))) else s
section
variable {d : Nat} {h : am_H} {Z : Int32 → am_H → Prop} {n : Nat} {T : Nat → Int32}
theorem ns_b (hd : 3 ≤ d) (hn : n ≤ 12) (hT : ∀ i, i < 2 * n → am_at h (nI i) = T i) {a : Nat} (ha : a < n) {x3 : Int32} : ∀ (m b : Nat) (s : (Nat → Int32) × Int32), b + m = n →
    (∀ u, Ru mX6_mostNested none d 20 [.ref 10, .int (nI n), .int (am_fd (ns_st T a) b m s).2, .int x3, .int (nI (a + 1)), u] [] (am_sR h 11 (am_fd (ns_st T a) b m s).1) Z) → Ru mX6_mostNested none d 29 [.ref 10, .int (nI n), .int s.2, .int x3, .int (nI a), .int (nI b)] [] (am_sR h 11 s.1) Z
  | 0, b, s, hb, z => by
    refine sX6_mostNested_29 (by omega) ⟨fun _ => by rw [nI_1]; exact z _, fun c => absurd (nI_le (by omega) (by omega)) c⟩
  | m + 1, b, s, hb, z => by
    refine sX6_mostNested_29 (by omega) ⟨fun c => absurd c (nI_ge (by omega) (by omega)), fun _ => ?_⟩
    have ih := ns_b hd hn hT ha (x3 := x3) m (b + 1) (ns_st T a b s) (by omega) z
    simp only [am_at_sR h s.1 _ (show 11 ≠ 2 by decide), am_n2, nI_1, hT (2 * b) (by omega), hT (2 * a) (by omega), hT (2 * b + 1) (by omega), hT (2 * a + 1) (by omega), nI_clamp (show a < 2 ^ 31 by omega), nI_clamp (show b < 2 ^ 31 by omega), am_gRs]
    refine ⟨fun c => ?_, fun c => ⟨vp_in_nI (by omega) (by omega), vp_in_nI (by omega) (by omega), fun h5 e5 => ?_⟩⟩
    · rw [show ns_st T a b s = s from if_neg c] at ih; exact ih
    · rw [am_sR_2] at e5
      subst e5
      rw [show ns_st T a b s = _ from if_pos c] at ih
      rw [am_gRs]
      simp only [upd, if_true]
      exact ih
theorem ns_a (hd : 3 ≤ d) (hn : n ≤ 12) (hT : ∀ i, i < 2 * n → am_at h (nI i) = T i) {r : Nat} : ∀ (m a : Nat) (s : (Nat → Int32) × Int32) (u : Value), a + m = n →
    (∀ u1 u2, Ru mX6_mostNested none d 12 [.ref 10, .int (nI n), .int (am_fd (fun a s => am_fd (ns_st T a) 0 n s) a m s).2, .int (nI (r + 1)), u1, u2] [] (am_sR h 11 (am_fd (fun a s => am_fd (ns_st T a) 0 n s) a m s).1) Z) → Ru mX6_mostNested none d 20 [.ref 10, .int (nI n), .int s.2, .int (nI r), .int (nI a), u] [] (am_sR h 11 s.1) Z
  | 0, a, s, u, ha, z => by
    refine sX6_mostNested_20 ⟨fun _ => by rw [nI_1]; exact z _ _, fun c => absurd (nI_le (by omega) (by omega)) c⟩
  | m + 1, a, s, u, ha, z => by
    refine sX6_mostNested_20 ⟨fun c => absurd c (nI_ge (by omega) (by omega)), fun _ => ?_⟩
    exact ns_b hd hn hT (by omega) n 0 s (by omega) (fun u => ns_a hd hn hT m (a + 1) _ u (by omega) z)
theorem ns_r (hd : 3 ≤ d) (hn : n ≤ 12) (hT : ∀ i, i < 2 * n → am_at h (nI i) = T i) : ∀ (m r : Nat) (s : (Nat → Int32) × Int32) (u1 u2 : Value), r + m = n →
    Z (am_fd (fun _ s => am_fd (fun a s => am_fd (ns_st T a) 0 n s) 0 n s) r m s).2 (am_sR h 11 (am_fd (fun _ s => am_fd (fun a s => am_fd (ns_st T a) 0 n s) 0 n s) r m s).1) → Ru mX6_mostNested none d 12 [.ref 10, .int (nI n), .int s.2, .int (nI r), u1, u2] [] (am_sR h 11 s.1) Z
  | 0, r, s, u1, u2, hr, z => by
    refine sX6_mostNested_12 ⟨fun _ => z, fun c => absurd (nI_le (by omega) (by omega)) c⟩
  | m + 1, r, s, u1, u2, hr, z => by
    refine sX6_mostNested_12 ⟨fun c => absurd c (nI_ge (by omega) (by omega)), fun _ => ?_⟩
    exact ns_a hd hn hT n 0 s _ (by omega) (fun u1 u2 => ns_r hd hn hT m (r + 1) _ u1 u2 (by omega) z)
def ns_all (T : Nat → Int32) (n : Nat) (s : (Nat → Int32) × Int32) : (Nat → Int32) × Int32 := am_fd (fun _ s => am_fd (fun a s => am_fd (ns_st T a) 0 n s) 0 n s) 0 n s
theorem iX6_mostNested (hd : 3 ≤ d) (hn : n ≤ 12) (hT : ∀ i, i < 2 * n → am_at h (nI i) = T i) (z : ∀ f, Z (ns_all T n (am_fill (h.2.2 11) 24 1, 1)).2 (am_sR h 11 f)) : Sp mX6_mostNested d [.ref 10, .int (nI n)] h Z := by
  refine Sp_of mf_X6_mostNested rfl (Nat.le_of_ble_eq_true rfl) rfl (sX6_mostNested_0 (by omega) ?_)
  exact ns_r hd hn hT n 0 (am_fill (h.2.2 11) 24 1, 1) _ _ (by omega) (z _)
-- the reference's
def nq_st (T : Nat → Int32) (a b : Nat) (s : (Nat → Int32) × Int32) : (Nat → Int32) × Int32 := if ns_lt T b a then (upd s.1 a (am_max (s.1 a) (s.1 b + 1)), am_max s.2 (am_max (s.1 a) (s.1 b + 1))) else (s.1, am_max s.2 (s.1 a))
theorem nq_c (hd : 3 ≤ d) (hn : n ≤ 12) (hn0 : 0 < n) (hT : ∀ i, i < 2 * n → h.2.2 80 i &&& 255 = T i) {r : Nat} : ∀ (m c : Nat) (s : (Nat → Int32) × Int32) (u5 u6 : Value), c + m = n * n →
    (∀ u1 u2 u3, Ru mX11_nest none d 51 [.ref 73, .int (nI n), .int (am_fd (fun c s => nq_st T (c / n) (c % n) s) c m s).2, .int (nI (r + 1)), u1, u2, u3] [] (am_sR h 107 (am_fd (fun c s => nq_st T (c / n) (c % n) s) c m s).1) Z) → Ru mX11_nest none d 59 [.ref 73, .int (nI n), .int s.2, .int (nI r), .int (nI c), u5, u6] [] (am_sR h 107 s.1) Z
  | 0, c, s, u5, u6, hc, z => by
    have hnn : n * n ≤ 12 * 12 := Nat.mul_le_mul hn hn
    refine sX11_nest_59 (by omega) ⟨fun _ => by rw [nI_1]; exact z _ _ _, fun q => absurd (by rw [pk_mul]; exact nI_le (by omega) (by omega)) q⟩
  | m + 1, c, s, u5, u6, hc, z => by
    have hnn : n * n ≤ 12 * 12 := Nat.mul_le_mul hn hn
    have ih := nq_c hd hn hn0 hT (r := r) m (c + 1) (nq_st T (c / n) (c % n) s)
    have e1 : nI c / nI n = nI (c / n) := pk_div (by omega) hn0 (by omega)
    have e2 : am_rem (nI c) (nI n) = nI (c % n) := am_rem_n (by omega) hn0 (by omega)
    have l1 : c / n < n := Nat.div_lt_of_lt_mul (by omega)
    have l2 : c % n < n := Nat.mod_lt _ hn0
    refine sX11_nest_59 (by omega) ⟨fun q => absurd q (by rw [pk_mul]; exact nI_ge (by omega) (by omega)), fun _ => ⟨nI_ne0 hn0 (by omega), ?_⟩⟩
    have g80 : ∀ x, (am_sR h 107 s.1).2.2 80 x = h.2.2 80 x := fun x => by rw [am_gR, if_neg (by decide)]
    simp only [e1, e2, am_n2, nI_1, am_oc, nI_clamp (show 2 * (c % n) < 2 ^ 31 by omega), nI_clamp (show 2 * (c / n) < 2 ^ 31 by omega), nI_clamp (show 2 * (c % n) + 1 < 2 ^ 31 by omega), nI_clamp (show 2 * (c / n) + 1 < 2 ^ 31 by omega), nI_clamp (show c / n < 2 ^ 31 by omega), nI_clamp (show c % n < 2 ^ 31 by omega), g80, hT (2 * (c % n)) (by omega), hT (2 * (c / n)) (by omega), hT (2 * (c % n) + 1) (by omega), hT (2 * (c / n) + 1) (by omega), am_gRs]
    have hv : ∀ x, x < 24 → vp_in (nI x) 260 := fun x hx => vp_in_nI (by omega) (by omega)
    refine ⟨hv _ (by omega), hv _ (by omega), hv _ (by omega), hv _ (by omega), fun q => ⟨vp_in_nI (by omega) (by omega), ?_⟩, fun q => ⟨vp_in_nI (by omega) (by omega), vp_in_nI (by omega) (by omega), fun h7 e7 => ?_⟩⟩
    · have := ih (.int (nI (c / n))) (.int (nI (c % n))) (by omega) z
      rw [show nq_st T (c / n) (c % n) s = _ from if_neg q] at this
      exact this
    · rw [am_sR_2] at e7
      subst e7
      have := ih (.int (nI (c / n))) (.int (nI (c % n))) (by omega) z
      rw [show nq_st T (c / n) (c % n) s = _ from if_pos q] at this
      rw [am_gRs]
      simp only [upd, if_true]
      exact this
theorem nq_r (hd : 3 ≤ d) (hn : n ≤ 12) (hn0 : 0 < n) (hT : ∀ i, i < 2 * n → h.2.2 80 i &&& 255 = T i) : ∀ (m r : Nat) (s : (Nat → Int32) × Int32) (u1 u2 u3 : Value), r + m = n →
    (∀ f, Z (am_fd (fun _ s => am_fd (fun c s => nq_st T (c / n) (c % n) s) 0 (n * n) s) r m s).2 (am_sR h 107 f)) → Ru mX11_nest none d 51 [.ref 73, .int (nI n), .int s.2, .int (nI r), u1, u2, u3] [] (am_sR h 107 s.1) Z
  | 0, r, s, u1, u2, u3, hr, z => by
    refine sX11_nest_51 ⟨fun _ => z _, fun c => absurd (nI_le (by omega) (by omega)) c⟩
  | m + 1, r, s, u1, u2, u3, hr, z => by
    refine sX11_nest_51 ⟨fun c => absurd c (nI_ge (by omega) (by omega)), fun _ => ?_⟩
    exact nq_c hd hn hn0 hT (n * n) 0 s _ _ (by omega) (fun u1 u2 u3 => nq_r hd hn hn0 hT m (r + 1) _ u1 u2 u3 (by omega) z)
theorem nq_f (hd : 3 ≤ d) (hn : n ≤ 12) (hn0 : 0 < n) {f : Nat → Int32} : ∀ (m k : Nat) (u1 u2 u3 : Value), k + m = n →
    (∀ u1 u2 u3, Ru mX11_nest none d 51 [.ref 73, .int (nI n), .int 1, .int 0, u1, u2, u3] [] (am_sR h 107 (am_fill f n 1)) Z) → Ru mX11_nest none d 31 [.ref 73, .int (nI n), .int 1, .int (nI k), u1, u2, u3] [] (am_sR h 107 (am_fill f k 1)) Z
  | 0, k, u1, u2, u3, hk, z => by
    have e : k = n := by omega
    subst e
    exact sX11_nest_31 ⟨fun _ => z _ _ _, fun c => absurd (Int32.le_refl _) c⟩
  | m + 1, k, u1, u2, u3, hk, z => by
    refine sX11_nest_31 ⟨fun c => absurd c (nI_ge (by omega) (by omega)), fun _ => ⟨vp_in_nI (by omega) (by omega), fun h2 e2 => ?_⟩⟩
    rw [nI_clamp (by omega), am_gRs, am_fill_s, am_sR_2] at e2
    subst e2
    rw [nI_1]
    exact nq_f hd hn hn0 m (k + 1) _ _ _ (by omega) z
end
theorem ns_same (T : Nat → Int32) {n : Nat} (hn0 : 0 < n) (f g : Nat → Int32) (hf : ∀ i, i < n → f i = 1) (hg : ∀ i, i < n → g i = 1) : (ns_all T n (f, 1)).2 = (am_fd (fun _ s => am_fd (fun c s => nq_st T (c / n) (c % n) s) 0 (n * n) s) 0 n (g, 1)).2 := by
  have e : ∀ s, am_fd (fun c s => nq_st T (c / n) (c % n) s) 0 (n * n) s = am_fd (fun i s => am_fd (nq_st T i) 0 n s) 0 n s := fun s => by
    have := am_fd_sq (nq_st T) n hn0 n 0 s
    rwa [Nat.zero_mul] at this
  simp only [e]
  unfold ns_all
  let R : (Nat → Int32) × Int32 → (Nat → Int32) × Int32 → Prop := fun s t => (∀ i, i < n → s.1 i = t.1 i) ∧ s.2 = t.2 ∧ ∀ i, i < n → s.1 i ≤ s.2
  have step : ∀ a b s t, a < n → b < n → R s t → R (ns_st T a b s) (nq_st T a b t) := by
    intro a b s t ha hb ⟨r1, r2, r3⟩
    unfold ns_st nq_st
    by_cases c : ns_lt T b a
    · rw [if_pos c, if_pos c]
      refine ⟨fun i hi => ?_, ?_, fun i hi => ?_⟩
      · show upd _ _ _ _ = upd _ _ _ _
        rw [← r1 a ha, ← r1 b hb]
        unfold upd
        by_cases q : i = a
        · simp [q]
        · simp [q, r1 i hi]
      · show am_max _ _ = am_max _ _
        rw [← r1 a ha, ← r1 b hb, r2]
      · show upd _ _ _ _ ≤ am_max _ _
        unfold upd
        by_cases q : i = a
        · simp only [q, if_true]; exact (am_max_le _ _).2
        · simp only [q, if_false]; exact Int32.le_trans (r3 i hi) (am_max_le _ _).1
    · rw [if_neg c, if_neg c]
      exact ⟨r1, by show s.2 = am_max t.2 (t.1 a); rw [← r1 a ha, ← r2, am_max_of (r3 a ha)], r3⟩
  have h0 : R (f, 1) (g, 1) := ⟨fun i hi => (hf i hi).trans (hg i hi).symm, rfl, fun i hi => by rw [show (f, (1 : Int32)).1 i = 1 from hf i hi]; exact Int32.le_refl _⟩
  exact (am_fd_rel (fun _ s t => R s t) n 0 _ _ h0 (fun _ s t _ _ hr => am_fd_rel (fun _ s t => R s t) n 0 _ _ hr (fun a s t _ ha hr => am_fd_rel (fun _ s t => R s t) n 0 _ _ hr (fun b s t _ hb hr => step a b s t (by omega) (by omega) hr)))).2.1
theorem pp_nest {d : Nat} {h : am_H} {K : Int32 → Int32 → am_H → Prop} {x : Int32} {N : Nat} (hd : 9 ≤ d) (ht : am_tape h N) (z : ∀ r h', am_step h h' → K r r h') : am_cl mX10_nest d [.ref 0, .int x] h (fun r1 h1 => am_cl mX11_nest d [.ref 73, .int x] h1 (fun r2 h2 => K r1 r2 h2)) := by
  have hN := ht.1
  by_cases c1 : 1 ≤ x ∧ x ≤ 12
  · obtain ⟨n, hn, rfl⟩ := am_natle (N := 12) (by omega) (Int32.le_trans (by decide) c1.1) c1.2
    have hn0 : 0 < n := (nI_leI (a := 1) (by omega) (by omega)).mp c1.1
    by_cases c2 : 2 * n ≤ N
    · refine ⟨8, by omega, Sp_of mf_X10_nest rfl (Nat.le_of_ble_eq_true rfl) rfl (sX10_nest_0 (by omega) ⟨fun c => absurd c1 c, fun _ => ⟨fun _ => ⟨7, by omega, iX6_mostNested (T := fun i => h.2.2 80 i &&& 255) (by omega) hn (fun i hi => am_at_n ht (by omega)) ?_⟩, fun c => absurd (by rw [am_n2, ht.2.1]; exact nI_le c2 (by omega)) c⟩⟩)⟩
      intro f1
      have g9 : (am_sI (am_sR h 11 f1) 1 1 0).1 73 9 = h.1 73 9 := by rw [am_gI, if_neg (by decide), am_gR1]
      refine ⟨8, by omega, Sp_of mf_X11_nest rfl (Nat.le_of_ble_eq_true rfl) rfl (sX11_nest_0 (by omega) ⟨fun c => absurd c1 c, fun _ => ⟨fun _ h1 e1 => ?_, fun c => absurd (by rw [g9, am_n2, ht.2.2.1]; exact nI_le c2 (by omega)) c⟩⟩)⟩
      have e2 : h1 = am_sR h1 107 (am_fill (h1.2.2 107) 0 1) := by rw [am_fill_0, am_sR_self]
      rw [e2]
      refine nq_f (by omega) hn hn0 n 0 _ _ _ (by omega) (fun u1 u2 u3 => nq_r (T := fun i => h.2.2 80 i &&& 255) (by omega) hn hn0 (fun i _ => by rw [e1]; rfl) n 0 (am_fill (h1.2.2 107) n 1, 1) u1 u2 u3 (by omega) (fun f => ?_))
      rw [← ns_same (fun i => h.2.2 80 i &&& 255) hn0 (am_fill (h.2.2 11) 24 1) (am_fill (h1.2.2 107) n 1) (fun i hi => by simp [am_fill, show i < 24 by omega]) (fun i hi => by simp [am_fill, hi])]
      refine z _ _ ?_
      rw [e1]
      refine ⟨am_keep_sR (am_keep_sI (am_keep_sI (am_keep_sR (am_keep_rf h) (by decide)) (by decide)) (by decide)) (by decide), Or.inr ⟨?_, ?_⟩⟩
      · rw [am_gR1, am_gI, if_neg (by decide), am_gI, if_pos ⟨rfl, rfl⟩]
      · rw [am_gR1, am_gI, if_pos ⟨rfl, rfl⟩]
    · have n1 : ¬ 2 * nI n ≤ h.1 1 1 := by rw [am_n2, ht.2.1]; exact nI_ge (by omega) (by omega)
      have n2 : ¬ 2 * nI n ≤ h.1 73 9 := by rw [am_n2, ht.2.2.1]; exact nI_ge (by omega) (by omega)
      refine ⟨8, by omega, Sp_of mf_X10_nest rfl (Nat.le_of_ble_eq_true rfl) rfl (sX10_nest_0 (by omega) ⟨fun c => absurd c1 c, fun _ => ⟨fun c => absurd c n1, fun _ => ?_⟩⟩)⟩
      exact ⟨8, by omega, Sp_of mf_X11_nest rfl (Nat.le_of_ble_eq_true rfl) rfl (sX11_nest_0 (by omega) ⟨fun c => absurd c1 c, fun _ => ⟨fun c => absurd c n2, fun _ => z _ _ (am_step_rf h)⟩⟩)⟩
  · refine ⟨8, by omega, Sp_of mf_X10_nest rfl (Nat.le_of_ble_eq_true rfl) rfl (sX10_nest_0 (by omega) ⟨fun _ => ?_, fun c => absurd c c1⟩)⟩
    exact ⟨8, by omega, Sp_of mf_X11_nest rfl (Nat.le_of_ble_eq_true rfl) rfl (sX11_nest_0 (by omega) ⟨fun _ => z _ _ (am_step_rf h), fun c => absurd c c1⟩)⟩
