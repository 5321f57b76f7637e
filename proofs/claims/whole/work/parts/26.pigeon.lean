-- pigeonholes
set_option maxRecDepth 20000 in
set_option maxHeartbeats 2000000 in
theorem sX6_longestRound_0 {d : Nat} {h : am_H} {Z : Int32 → am_H → Prop} {x1 : Int32} (w : Ru mX6_longestRound none d 7 [.ref 10, .int x1, .int 0, .int 0, .int 0] [] h Z) : Ru mX6_longestRound none d 0 [.ref 10, .int x1, .null, .null, .null] [] h Z := by
  refine st_iconst (v := 0) dX6_longestRound_0 (by decide) ?_
  refine st_istore_n (L' := [.ref 10, .int x1, .int 0, .null, .null]) dX6_longestRound_1 (by decide) rfl ?_
  refine st_iconst (v := 0) dX6_longestRound_2 (by decide) ?_
  refine st_istore_n (L' := [.ref 10, .int x1, .int 0, .int 0, .null]) dX6_longestRound_3 (by decide) rfl ?_
  refine st_iconst (v := 0) dX6_longestRound_4 (by decide) ?_
  refine st_istore (L' := [.ref 10, .int x1, .int 0, .int 0, .int 0]) dX6_longestRound_5 (by decide) rfl ?_
  exact w
set_option maxRecDepth 20000 in
set_option maxHeartbeats 2000000 in
theorem sX6_longestRound_7 {d : Nat} {h : am_H} {Z : Int32 → am_H → Prop} {x1 : Int32} {x2 : Int32} {x3 : Int32} {x4 : Int32} (hd : 1 ≤ d) (w : ((2 * x1) ≤ x4 → Z (am_min x2 x1) h) ∧ (¬ ((2 * x1) ≤ x4) → (¬ x1 = 0 ∧ (vp_in (am_rem x4 x1) 24 ∧ (((h.2.2 11 (am_rem x4 x1).toNatClampNeg) = 0 → Ru mX6_longestRound none d 7 [.ref 10, .int x1, .int (am_max x2 0), .int 0, .int (x4 + 1)] [] h Z) ∧ (¬ ((h.2.2 11 (am_rem x4 x1).toNatClampNeg) = 0) → Ru mX6_longestRound none d 7 [.ref 10, .int x1, .int (am_max x2 (x3 + 1)), .int (x3 + 1), .int (x4 + 1)] [] h Z)))))) : Ru mX6_longestRound none d 7 [.ref 10, .int x1, .int x2, .int x3, .int x4] [] h Z := by
  refine st_iload dX6_longestRound_7 rfl ?_
  refine st_iconst (v := 2) dX6_longestRound_9 (by decide) ?_
  refine st_iload_n dX6_longestRound_10 rfl ?_
  refine st_imul dX6_longestRound_11 ?_
  refine st_icmp_ge (tgt := 47) dX6_longestRound_12 (by decide) (fun c => ?_) (fun c => ?_)
  · replace w := w.1 c
    refine st_iload_n dX6_longestRound_47 rfl ?_
    refine st_iload_n dX6_longestRound_48 rfl ?_
    refine st_mmin dX6_longestRound_49 mk_min_X6_54 (by omega) rfl ?_
    exact st_ireturn rfl rfl dX6_longestRound_52 w
  · replace w := w.2 c
    refine st_aload_n dX6_longestRound_15 rfl ?_
    refine st_getF (q := 11) fl_X6_11 fk_6_1 rfl dX6_longestRound_16 sh_10 ?_
    refine st_iload dX6_longestRound_19 rfl ?_
    refine st_iload_n dX6_longestRound_21 rfl ?_
    have hc1 := w.1
    replace w := w.2
    refine st_irem dX6_longestRound_22 hc1 ?_
    have hc2 := w.1
    replace w := w.2
    refine st_iald dX6_longestRound_23 sh_11 hc2 ?_
    refine st_if_eq (tgt := 33) dX6_longestRound_24 (by decide) (fun c => ?_) (fun c => ?_)
    · replace w := w.1 c
      refine st_iconst (v := 0) dX6_longestRound_33 (by decide) ?_
      refine st_istore_n (L' := [.ref 10, .int x1, .int x2, .int 0, .int x4]) dX6_longestRound_34 (by decide) rfl ?_
      refine st_iload_n dX6_longestRound_35 rfl ?_
      refine st_iload_n dX6_longestRound_36 rfl ?_
      refine st_mmax dX6_longestRound_37 mk_max_X6_71 (by omega) rfl ?_
      refine st_istore_n (L' := [.ref 10, .int x1, .int (am_max x2 0), .int 0, .int x4]) dX6_longestRound_40 (by decide) rfl ?_
      refine st_iinc (L' := [.ref 10, .int x1, .int (am_max x2 0), .int 0, .int (x4 + 1)]) dX6_longestRound_41 rfl rfl (by decide) rfl ?_
      refine st_goto (tgt := 7) dX6_longestRound_44 (by decide) ?_
      exact w
    · replace w := w.2 c
      refine st_iload_n dX6_longestRound_27 rfl ?_
      refine st_iconst (v := 1) dX6_longestRound_28 (by decide) ?_
      refine st_iadd dX6_longestRound_29 ?_
      refine st_goto (tgt := 34) dX6_longestRound_30 (by decide) ?_
      refine st_istore_n (L' := [.ref 10, .int x1, .int x2, .int (x3 + 1), .int x4]) dX6_longestRound_34 (by decide) rfl ?_
      refine st_iload_n dX6_longestRound_35 rfl ?_
      refine st_iload_n dX6_longestRound_36 rfl ?_
      refine st_mmax dX6_longestRound_37 mk_max_X6_71 (by omega) rfl ?_
      refine st_istore_n (L' := [.ref 10, .int x1, .int (am_max x2 (x3 + 1)), .int (x3 + 1), .int x4]) dX6_longestRound_40 (by decide) rfl ?_
      refine st_iinc (L' := [.ref 10, .int x1, .int (am_max x2 (x3 + 1)), .int (x3 + 1), .int (x4 + 1)]) dX6_longestRound_41 rfl rfl (by decide) rfl ?_
      refine st_goto (tgt := 7) dX6_longestRound_44 (by decide) ?_
      exact w
set_option maxRecDepth 20000 in
set_option maxHeartbeats 2000000 in
theorem sX6_holesFilled_0 {d : Nat} {h : am_H} {Z : Int32 → am_H → Prop} {x1 : Int32} {x2 : Int32} {x3 : Int32} (hd : 2 ≤ d) (w : (x1 < 1 → Z (-1) h) ∧ (¬ (x1 < 1) → (x1 ≤ 24 → Ru mX6_holesFilled none d 30 [.ref 10, .int x1, .int x2, .int x3, .int 0, .int 0, .int 0, .null] [] (am_sR h 11 (am_fill (h.2.2 11) 24 (0 : Int32))) Z) ∧ (¬ (x1 ≤ 24) → Z (-1) h))) : Ru mX6_holesFilled none d 0 [.ref 10, .int x1, .int x2, .int x3, .null, .null, .null, .null] [] h Z := by
  refine st_iload_n dX6_holesFilled_0 rfl ?_
  refine st_iconst (v := 1) dX6_holesFilled_1 (by decide) ?_
  refine st_icmp_lt (tgt := 11) dX6_holesFilled_2 (by decide) (fun c => ?_) (fun c => ?_)
  · replace w := w.1 c
    refine st_iconst (v := (-1)) dX6_holesFilled_11 (by decide) ?_
    exact st_ireturn rfl rfl dX6_holesFilled_12 w
  · replace w := w.2 c
    refine st_iload_n dX6_holesFilled_5 rfl ?_
    refine st_bipush (v := 24) dX6_holesFilled_6 (by decide) ?_
    refine st_icmp_le (tgt := 13) dX6_holesFilled_8 (by decide) (fun c => ?_) (fun c => ?_)
    · replace w := w.1 c
      refine st_aload_n dX6_holesFilled_13 rfl ?_
      refine st_getF (q := 11) fl_X6_11 fk_6_1 rfl dX6_holesFilled_14 sh_10 ?_
      refine st_iconst (v := 0) dX6_holesFilled_17 (by decide) ?_
      refine st_callS (M' := mJ7_fill_53178) [.ref 11, .int 0] [] dX6_holesFilled_18 ml_X6_41 mf_J7_fill_53178 ms_J7_fill_53178 rfl rfl rfl (K := fun r h' => 0 = r ∧ am_sR h 11 (am_fill (h.2.2 11) 24 (0 : Int32)) = h') ⟨1, by omega, iJ7_fill sh_11 (by decide) ⟨rfl, rfl⟩⟩ (fun r1 h1 w1 => ?_)
      obtain ⟨rfl, rfl⟩ := w1
      show Ru mX6_holesFilled none d 21 [.ref 10, .int x1, .int x2, .int x3, .null, .null, .null, .null] [] (am_sR h 11 (am_fill (h.2.2 11) 24 (0 : Int32))) Z
      refine st_iconst (v := 0) dX6_holesFilled_21 (by decide) ?_
      refine st_istore (L' := [.ref 10, .int x1, .int x2, .int x3, .int 0, .null, .null, .null]) dX6_holesFilled_22 (by decide) rfl ?_
      refine st_iconst (v := 0) dX6_holesFilled_24 (by decide) ?_
      refine st_istore (L' := [.ref 10, .int x1, .int x2, .int x3, .int 0, .int 0, .null, .null]) dX6_holesFilled_25 (by decide) rfl ?_
      refine st_iconst (v := 0) dX6_holesFilled_27 (by decide) ?_
      refine st_istore (L' := [.ref 10, .int x1, .int x2, .int x3, .int 0, .int 0, .int 0, .null]) dX6_holesFilled_28 (by decide) rfl ?_
      exact w
    · replace w := w.2 c
      refine st_iconst (v := (-1)) dX6_holesFilled_11 (by decide) ?_
      exact st_ireturn rfl rfl dX6_holesFilled_12 w
set_option maxRecDepth 20000 in
set_option maxHeartbeats 2000000 in
theorem sX6_holesFilled_30 {d : Nat} {h : am_H} {Z : Int32 → am_H → Prop} {x1 : Int32} {x2 : Int32} {x3 : Int32} {x4 : Int32} {x5 : Int32} {x6 : Int32} {u7 : Value} (hd : 2 ≤ d) (w : (x2 ≤ x6 → (x3 = 0 → Z x4 h) ∧ (¬ x3 = 0 → (x3 = 1 → Z x5 h) ∧ (¬ x3 = 1 → am_cl mX6_longestRound d [.ref 10, .int x1] h (fun r1 h2 => Z r1 h2)))) ∧ (¬ (x2 ≤ x6) → (¬ x1 = 0 ∧ (Ru mX6_holesFilled none d 55 [.ref 10, .int x1, .int x2, .int x3, .int (x4 + 1), .int (am_rem (am_at h x6) x1), .int x6, .int 0] [] h Z)))) : Ru mX6_holesFilled none d 30 [.ref 10, .int x1, .int x2, .int x3, .int x4, .int x5, .int x6, u7] [] h Z := by
  refine st_iload dX6_holesFilled_30 rfl ?_
  refine st_iload_n dX6_holesFilled_32 rfl ?_
  refine st_icmp_ge (tgt := 102) dX6_holesFilled_33 (by decide) (fun c => ?_) (fun c => ?_)
  · replace w := w.1 c
    refine st_iload_n dX6_holesFilled_102 rfl ?_
    by_cases c0 : x3 = 0
    · replace w := w.1 c0
      refine st_lookup (off := 25) (tgt := 128) dX6_holesFilled_103 (by decide +kernel) (by rw [c0]; decide) (by decide) ?_
      refine st_iload dX6_holesFilled_128 rfl ?_
      exact st_ireturn rfl rfl dX6_holesFilled_130 w
    · replace w := w.2 c0
      by_cases c1 : x3 = 1
      · replace w := w.1 c1
        refine st_lookup (off := 28) (tgt := 131) dX6_holesFilled_103 (by decide +kernel) (by rw [c1]; decide) (by decide) ?_
        refine st_iload dX6_holesFilled_131 rfl ?_
        exact st_ireturn rfl rfl dX6_holesFilled_133 w
      · replace w := w.2 c1
        refine st_lookup (off := 31) (tgt := 134) dX6_holesFilled_103 (by decide +kernel) (by rw [lv_osw c0 (by decide)]; rw [lv_osw c1 (by decide)]; rfl) (by decide) ?_
        refine st_aload_n dX6_holesFilled_134 rfl ?_
        refine st_iload_n dX6_holesFilled_135 rfl ?_
        refine st_callV (M' := mX6_longestRound) [.int x1] [] dX6_holesFilled_136 ml_X6_80 mf_X6_longestRound mv_X6_longestRound sh_10 rfl rfl rfl w (fun r1 h2 w => ?_)
        show Ru mX6_holesFilled none d 139 [.ref 10, .int x1, .int x2, .int x3, .int x4, .int x5, .int x6, u7] [.int r1] h2 Z
        exact st_ireturn rfl rfl dX6_holesFilled_139 w
  · replace w := w.2 c
    refine st_aload_n dX6_holesFilled_36 rfl ?_
    refine st_getF (q := 1) fl_X6_27 fk_6_0 rfl dX6_holesFilled_37 sh_10 ?_
    refine st_iload dX6_holesFilled_40 rfl ?_
    refine st_callV (M' := mX9_at) [.int x6] [] dX6_holesFilled_42 ml_X6_74 mf_X9_at mv_X9_at sh_1 rfl rfl rfl (K := fun r h' => (am_at h x6) = r ∧ h = h') ⟨1, by omega, iX9_at ⟨rfl, rfl⟩⟩ (fun r1 h1 w1 => ?_)
    obtain ⟨rfl, rfl⟩ := w1
    show Ru mX6_holesFilled none d 45 [.ref 10, .int x1, .int x2, .int x3, .int x4, .int x5, .int x6, u7] [.int (am_at h x6)] h Z
    refine st_iload_n dX6_holesFilled_45 rfl ?_
    have hc3 := w.1
    replace w := w.2
    refine st_irem dX6_holesFilled_46 hc3 ?_
    refine st_istore (L' := [.ref 10, .int x1, .int x2, .int x3, .int x4, .int (am_rem (am_at h x6) x1), .int x6, u7]) dX6_holesFilled_47 (by decide) rfl ?_
    refine st_iinc (L' := [.ref 10, .int x1, .int x2, .int x3, .int (x4 + 1), .int (am_rem (am_at h x6) x1), .int x6, u7]) dX6_holesFilled_49 rfl rfl (by decide) rfl ?_
    refine st_iconst (v := 0) dX6_holesFilled_52 (by decide) ?_
    refine st_istore (L' := [.ref 10, .int x1, .int x2, .int x3, .int (x4 + 1), .int (am_rem (am_at h x6) x1), .int x6, .int 0]) dX6_holesFilled_53 (by decide) rfl ?_
    exact w
set_option maxRecDepth 20000 in
set_option maxHeartbeats 2000000 in
theorem sX6_holesFilled_55 {d : Nat} {h : am_H} {Z : Int32 → am_H → Prop} {x1 : Int32} {x2 : Int32} {x3 : Int32} {x4 : Int32} {x5 : Int32} {x6 : Int32} {x7 : Int32} (w : (x1 ≤ x7 → (vp_in x5 24 ∧ (∀ h2 : am_H, h2 = am_sR h 11 (upd (h.2.2 11) x5.toNatClampNeg 1) → (Ru mX6_holesFilled none d 30 [.ref 10, .int x1, .int x2, .int x3, .int x4, .int x5, .int (x6 + 1), .int x7] [] h2 Z)))) ∧ (¬ (x1 ≤ x7) → (vp_in x5 24 ∧ (((h.2.2 11 x5.toNatClampNeg) = 0 → (∀ h4 : am_H, h4 = am_sR h 11 (upd (h.2.2 11) x5.toNatClampNeg 1) → (Ru mX6_holesFilled none d 30 [.ref 10, .int x1, .int x2, .int x3, .int x4, .int x5, .int (x6 + 1), .int x7] [] h4 Z))) ∧ (¬ ((h.2.2 11 x5.toNatClampNeg) = 0) → (¬ x1 = 0 ∧ (Ru mX6_holesFilled none d 55 [.ref 10, .int x1, .int x2, .int x3, .int (x4 + 1), .int (am_rem (x5 + 1) x1), .int x6, .int (x7 + 1)] [] h Z))))))) : Ru mX6_holesFilled none d 55 [.ref 10, .int x1, .int x2, .int x3, .int x4, .int x5, .int x6, .int x7] [] h Z := by
  refine st_iload dX6_holesFilled_55 rfl ?_
  refine st_iload_n dX6_holesFilled_57 rfl ?_
  refine st_icmp_ge (tgt := 88) dX6_holesFilled_58 (by decide) (fun c => ?_) (fun c => ?_)
  · replace w := w.1 c
    refine st_aload_n dX6_holesFilled_88 rfl ?_
    refine st_getF (q := 11) fl_X6_11 fk_6_1 rfl dX6_holesFilled_89 sh_10 ?_
    refine st_iload dX6_holesFilled_92 rfl ?_
    refine st_iconst (v := 1) dX6_holesFilled_94 (by decide) ?_
    have hc1 := w.1
    replace w := w.2
    refine st_iast dX6_holesFilled_95 sh_11 hc1 (fun h2 eh2 => ?_)
    replace w := w h2 eh2
    refine st_iinc (L' := [.ref 10, .int x1, .int x2, .int x3, .int x4, .int x5, .int (x6 + 1), .int x7]) dX6_holesFilled_96 rfl rfl (by decide) rfl ?_
    refine st_goto (tgt := 30) dX6_holesFilled_99 (by decide) ?_
    exact w
  · replace w := w.2 c
    refine st_aload_n dX6_holesFilled_61 rfl ?_
    refine st_getF (q := 11) fl_X6_11 fk_6_1 rfl dX6_holesFilled_62 sh_10 ?_
    refine st_iload dX6_holesFilled_65 rfl ?_
    have hc3 := w.1
    replace w := w.2
    refine st_iald dX6_holesFilled_67 sh_11 hc3 ?_
    refine st_if_eq (tgt := 88) dX6_holesFilled_68 (by decide) (fun c => ?_) (fun c => ?_)
    · replace w := w.1 c
      refine st_aload_n dX6_holesFilled_88 rfl ?_
      refine st_getF (q := 11) fl_X6_11 fk_6_1 rfl dX6_holesFilled_89 sh_10 ?_
      refine st_iload dX6_holesFilled_92 rfl ?_
      refine st_iconst (v := 1) dX6_holesFilled_94 (by decide) ?_
      refine st_iast dX6_holesFilled_95 sh_11 hc3 (fun h4 eh4 => ?_)
      replace w := w h4 eh4
      refine st_iinc (L' := [.ref 10, .int x1, .int x2, .int x3, .int x4, .int x5, .int (x6 + 1), .int x7]) dX6_holesFilled_96 rfl rfl (by decide) rfl ?_
      refine st_goto (tgt := 30) dX6_holesFilled_99 (by decide) ?_
      exact w
    · replace w := w.2 c
      refine st_iload dX6_holesFilled_71 rfl ?_
      refine st_iconst (v := 1) dX6_holesFilled_73 (by decide) ?_
      refine st_iadd dX6_holesFilled_74 ?_
      refine st_iload_n dX6_holesFilled_75 rfl ?_
      have hc5 := w.1
      replace w := w.2
      refine st_irem dX6_holesFilled_76 hc5 ?_
      refine st_istore (L' := [.ref 10, .int x1, .int x2, .int x3, .int x4, .int (am_rem (x5 + 1) x1), .int x6, .int x7]) dX6_holesFilled_77 (by decide) rfl ?_
      refine st_iinc (L' := [.ref 10, .int x1, .int x2, .int x3, .int (x4 + 1), .int (am_rem (x5 + 1) x1), .int x6, .int x7]) dX6_holesFilled_79 rfl rfl (by decide) rfl ?_
      refine st_iinc (L' := [.ref 10, .int x1, .int x2, .int x3, .int (x4 + 1), .int (am_rem (x5 + 1) x1), .int x6, .int (x7 + 1)]) dX6_holesFilled_82 rfl rfl (by decide) rfl ?_
      refine st_goto (tgt := 55) dX6_holesFilled_85 (by decide) ?_
      exact w
set_option maxRecDepth 20000 in
set_option maxHeartbeats 2000000 in
theorem sX10_pigeonholes_0 {d : Nat} {h : am_H} {Z : Int32 → am_H → Prop} {x1 : Int32} {x2 : Int32} {x3 : Int32} (hd : 2 ≤ d) (w : (¬ ((2 : Int32) ≤ x1 ∧ x1 ≤ (16 : Int32)) → Ru mX10_pigeonholes none d 32 [.ref 0, .int x1, .int x2, .int x3, .null, .null] [] h Z) ∧ ((2 : Int32) ≤ x1 ∧ x1 ≤ (16 : Int32) → (¬ ((1 : Int32) ≤ x2 ∧ x2 ≤ x1) → Ru mX10_pigeonholes none d 32 [.ref 0, .int x1, .int x2, .int x3, .null, .null] [] h Z) ∧ ((1 : Int32) ≤ x2 ∧ x2 ≤ x1 → (¬ ((0 : Int32) ≤ x3 ∧ x3 ≤ (2 : Int32)) → Ru mX10_pigeonholes none d 32 [.ref 0, .int x1, .int x2, .int x3, .null, .null] [] h Z) ∧ ((0 : Int32) ≤ x3 ∧ x3 ≤ (2 : Int32) → Ru mX10_pigeonholes none d 33 [.ref 0, .int x1, .int x2, .int x3, .null, .null] [.int 1] h Z)))) : Ru mX10_pigeonholes none d 0 [.ref 0, .int x1, .int x2, .int x3, .null, .null] [] h Z := by
  refine st_iload_n dX10_pigeonholes_0 rfl ?_
  refine st_iconst (v := 2) dX10_pigeonholes_1 (by decide) ?_
  refine st_bipush (v := 16) dX10_pigeonholes_2 (by decide) ?_
  refine st_callS (M' := mX10_isFromTo) [.int x1, .int 2, .int 16] [] dX10_pigeonholes_4 ml_X10_135 mf_X10_isFromTo ms_X10_isFromTo rfl rfl rfl (K := fun r h' => (am_b ((2 : Int32) ≤ x1 ∧ x1 ≤ (16 : Int32))) = r ∧ h = h') ⟨1, by omega, iX10_isFromTo ⟨rfl, rfl⟩⟩ (fun r1 h1 w1 => ?_)
  obtain ⟨rfl, rfl⟩ := w1
  show Ru mX10_pigeonholes none d 7 [.ref 0, .int x1, .int x2, .int x3, .null, .null] [.int (am_b ((2 : Int32) ≤ x1 ∧ x1 ≤ (16 : Int32)))] h Z
  refine st_ifb_eq (tgt := 32) dX10_pigeonholes_7 (by decide) (fun c => ?_) (fun c => ?_)
  · replace w := w.1 c
    exact w
  · replace w := w.2 c
    refine st_iload_n dX10_pigeonholes_10 rfl ?_
    refine st_iconst (v := 1) dX10_pigeonholes_11 (by decide) ?_
    refine st_iload_n dX10_pigeonholes_12 rfl ?_
    refine st_callS (M' := mX10_isFromTo) [.int x2, .int 1, .int x1] [] dX10_pigeonholes_13 ml_X10_135 mf_X10_isFromTo ms_X10_isFromTo rfl rfl rfl (K := fun r h' => (am_b ((1 : Int32) ≤ x2 ∧ x2 ≤ x1)) = r ∧ h = h') ⟨1, by omega, iX10_isFromTo ⟨rfl, rfl⟩⟩ (fun r1 h1 w1 => ?_)
    obtain ⟨rfl, rfl⟩ := w1
    show Ru mX10_pigeonholes none d 16 [.ref 0, .int x1, .int x2, .int x3, .null, .null] [.int (am_b ((1 : Int32) ≤ x2 ∧ x2 ≤ x1))] h Z
    refine st_ifb_eq (tgt := 32) dX10_pigeonholes_16 (by decide) (fun c => ?_) (fun c => ?_)
    · replace w := w.1 c
      exact w
    · replace w := w.2 c
      refine st_iload_n dX10_pigeonholes_19 rfl ?_
      refine st_iconst (v := 0) dX10_pigeonholes_20 (by decide) ?_
      refine st_iconst (v := 2) dX10_pigeonholes_21 (by decide) ?_
      refine st_callS (M' := mX10_isFromTo) [.int x3, .int 0, .int 2] [] dX10_pigeonholes_22 ml_X10_135 mf_X10_isFromTo ms_X10_isFromTo rfl rfl rfl (K := fun r h' => (am_b ((0 : Int32) ≤ x3 ∧ x3 ≤ (2 : Int32))) = r ∧ h = h') ⟨1, by omega, iX10_isFromTo ⟨rfl, rfl⟩⟩ (fun r1 h1 w1 => ?_)
      obtain ⟨rfl, rfl⟩ := w1
      show Ru mX10_pigeonholes none d 25 [.ref 0, .int x1, .int x2, .int x3, .null, .null] [.int (am_b ((0 : Int32) ≤ x3 ∧ x3 ≤ (2 : Int32)))] h Z
      refine st_ifb_eq (tgt := 32) dX10_pigeonholes_25 (by decide) (fun c => ?_) (fun c => ?_)
      · replace w := w.1 c
        exact w
      · replace w := w.2 c
        refine st_iconst (v := 1) dX10_pigeonholes_28 (by decide) ?_
        refine st_goto (tgt := 33) dX10_pigeonholes_29 (by decide) ?_
        exact w
set_option maxRecDepth 20000 in
set_option maxHeartbeats 2000000 in
theorem sX10_pigeonholes_32 {d : Nat} {h : am_H} {Z : Int32 → am_H → Prop} {x1 : Int32} {x2 : Int32} {x3 : Int32} {u4 : Value} {u5 : Value} (w : Ru mX10_pigeonholes none d 33 [.ref 0, .int x1, .int x2, .int x3, u4, u5] [.int 0] h Z) : Ru mX10_pigeonholes none d 32 [.ref 0, .int x1, .int x2, .int x3, u4, u5] [] h Z := by
  refine st_iconst (v := 0) dX10_pigeonholes_32 (by decide) ?_
  exact w
set_option maxRecDepth 20000 in
set_option maxHeartbeats 2000000 in
theorem sX10_pigeonholes_33 {d : Nat} {h : am_H} {Z : Int32 → am_H → Prop} {x1 : Int32} {x2 : Int32} {x3 : Int32} {u4 : Value} {u5 : Value} {s0 : Int32} (hd : 2 ≤ d) (w : (s0 = 0 → Z (-1) h) ∧ (¬ (s0 = 0) → (x2 ≤ h.1 1 1 → am_cl mX6_holesFilled d [.ref 10, .int x1, .int x2, .int x3] h (fun r1 h2 => Z r1 (am_sI h2 1 1 0))) ∧ (¬ (x2 ≤ h.1 1 1) → Z (-1) h))) : Ru mX10_pigeonholes none d 33 [.ref 0, .int x1, .int x2, .int x3, u4, u5] [.int s0] h Z := by
  refine st_istore (L' := [.ref 0, .int x1, .int x2, .int x3, .int s0, u5]) dX10_pigeonholes_33 (by decide) rfl ?_
  refine st_iload dX10_pigeonholes_35 rfl ?_
  refine st_if_eq (tgt := 51) dX10_pigeonholes_37 (by decide) (fun c => ?_) (fun c => ?_)
  · replace w := w.1 c
    refine st_iconst (v := (-1)) dX10_pigeonholes_51 (by decide) ?_
    exact st_ireturn rfl rfl dX10_pigeonholes_52 w
  · replace w := w.2 c
    refine st_aload_n dX10_pigeonholes_40 rfl ?_
    refine st_getF (q := 1) fl_X10_10 fk_10_0 rfl dX10_pigeonholes_41 sh_0 ?_
    refine st_iload_n dX10_pigeonholes_44 rfl ?_
    refine st_callV (M' := mX9_holds) [.int x2] [] dX10_pigeonholes_45 ml_X10_139 mf_X9_holds mv_X9_holds sh_1 rfl rfl rfl (K := fun r h' => (am_b (x2 ≤ h.1 1 1)) = r ∧ h = h') ⟨1, by omega, iX9_holds ⟨rfl, rfl⟩⟩ (fun r1 h1 w1 => ?_)
    obtain ⟨rfl, rfl⟩ := w1
    show Ru mX10_pigeonholes none d 48 [.ref 0, .int x1, .int x2, .int x3, .int s0, u5] [.int (am_b (x2 ≤ h.1 1 1))] h Z
    refine st_ifb_ne (tgt := 53) dX10_pigeonholes_48 (by decide) (fun c => ?_) (fun c => ?_)
    · replace w := w.1 c
      refine st_aload_n dX10_pigeonholes_53 rfl ?_
      refine st_getF (q := 10) fl_X10_51 fk_10_6 rfl dX10_pigeonholes_54 sh_0 ?_
      refine st_iload_n dX10_pigeonholes_57 rfl ?_
      refine st_iload_n dX10_pigeonholes_58 rfl ?_
      refine st_iload_n dX10_pigeonholes_59 rfl ?_
      refine st_callV (M' := mX6_holesFilled) [.int x1, .int x2, .int x3] [] dX10_pigeonholes_60 ml_X10_240 mf_X6_holesFilled mv_X6_holesFilled sh_10 rfl rfl rfl w (fun r1 h2 w => ?_)
      show Ru mX10_pigeonholes none d 63 [.ref 0, .int x1, .int x2, .int x3, .int s0, u5] [.int r1] h2 Z
      refine st_istore (L' := [.ref 0, .int x1, .int x2, .int x3, .int s0, .int r1]) dX10_pigeonholes_63 (by decide) rfl ?_
      refine st_aload_n dX10_pigeonholes_65 rfl ?_
      refine st_getF (q := 1) fl_X10_10 fk_10_0 rfl dX10_pigeonholes_66 sh_0 ?_
      refine st_callV (M' := mX9_clear) [] [] dX10_pigeonholes_69 ml_X10_146 mf_X9_clear mv_X9_clear sh_1 rfl rfl rfl (K := fun r h' => 0 = r ∧ am_sI h2 1 1 0 = h') ⟨1, by omega, iX9_clear ⟨rfl, rfl⟩⟩ (fun r1 h1 w1 => ?_)
      obtain ⟨rfl, rfl⟩ := w1
      show Ru mX10_pigeonholes none d 72 [.ref 0, .int x1, .int x2, .int x3, .int s0, .int r1] [] (am_sI h2 1 1 0) Z
      refine st_iload dX10_pigeonholes_72 rfl ?_
      exact st_ireturn rfl rfl dX10_pigeonholes_74 w
    · replace w := w.2 c
      refine st_iconst (v := (-1)) dX10_pigeonholes_51 (by decide) ?_
      exact st_ireturn rfl rfl dX10_pigeonholes_52 w
set_option maxRecDepth 20000 in
set_option maxHeartbeats 2000000 in
theorem sX11_longestRow_0 {d : Nat} {h : am_H} {Z : Int32 → am_H → Prop} {x0 : Int32} {x1 : Int32} (w : Ru mX11_longestRow none d 7 [.int x0, .int x1, .int 0, .int 0, .int 0] [] h Z) : Ru mX11_longestRow none d 0 [.int x0, .int x1, .null, .null, .null] [] h Z := by
  refine st_iconst (v := 0) dX11_longestRow_0 (by decide) ?_
  refine st_istore_n (L' := [.int x0, .int x1, .int 0, .null, .null]) dX11_longestRow_1 (by decide) rfl ?_
  refine st_iconst (v := 0) dX11_longestRow_2 (by decide) ?_
  refine st_istore_n (L' := [.int x0, .int x1, .int 0, .int 0, .null]) dX11_longestRow_3 (by decide) rfl ?_
  refine st_iconst (v := 0) dX11_longestRow_4 (by decide) ?_
  refine st_istore (L' := [.int x0, .int x1, .int 0, .int 0, .int 0]) dX11_longestRow_5 (by decide) rfl ?_
  exact w
set_option maxRecDepth 20000 in
set_option maxHeartbeats 2000000 in
theorem sX11_longestRow_7 {d : Nat} {h : am_H} {Z : Int32 → am_H → Prop} {x0 : Int32} {x1 : Int32} {x2 : Int32} {x3 : Int32} {x4 : Int32} (hd : 2 ≤ d) (w : ((2 * x0) ≤ x4 → Z x2 h) ∧ (¬ ((2 * x0) ≤ x4) → (¬ x0 = 0 ∧ ((¬ (am_has x1 (am_rem x4 x0)) → Ru mX11_longestRow none d 7 [.int x0, .int x1, .int (am_max x2 (0 : Int32)), .int 0, .int (x4 + 1)] [] h Z) ∧ (am_has x1 (am_rem x4 x0) → Ru mX11_longestRow none d 7 [.int x0, .int x1, .int (am_max x2 (am_min x0 (x3 + 1))), .int (am_min x0 (x3 + 1)), .int (x4 + 1)] [] h Z))))) : Ru mX11_longestRow none d 7 [.int x0, .int x1, .int x2, .int x3, .int x4] [] h Z := by
  refine st_iload dX11_longestRow_7 rfl ?_
  refine st_iconst (v := 2) dX11_longestRow_9 (by decide) ?_
  refine st_iload_n dX11_longestRow_10 rfl ?_
  refine st_imul dX11_longestRow_11 ?_
  refine st_icmp_ge (tgt := 50) dX11_longestRow_12 (by decide) (fun c => ?_) (fun c => ?_)
  · replace w := w.1 c
    refine st_iload_n dX11_longestRow_50 rfl ?_
    exact st_ireturn rfl rfl dX11_longestRow_51 w
  · replace w := w.2 c
    refine st_iload_n dX11_longestRow_15 rfl ?_
    refine st_iload dX11_longestRow_16 rfl ?_
    refine st_iload_n dX11_longestRow_18 rfl ?_
    have hc1 := w.1
    replace w := w.2
    refine st_irem dX11_longestRow_19 hc1 ?_
    refine st_callS (M' := mX11_has) [.int x1, .int (am_rem x4 x0)] [] dX11_longestRow_20 ml_X11_133 mf_X11_has ms_X11_has rfl rfl rfl (K := fun r h' => (am_b (am_has x1 (am_rem x4 x0))) = r ∧ h = h') ⟨1, by omega, iX11_has ⟨rfl, rfl⟩⟩ (fun r1 h1 w1 => ?_)
    obtain ⟨rfl, rfl⟩ := w1
    show Ru mX11_longestRow none d 23 [.int x0, .int x1, .int x2, .int x3, .int x4] [.int (am_b (am_has x1 (am_rem x4 x0)))] h Z
    refine st_ifb_eq (tgt := 36) dX11_longestRow_23 (by decide) (fun c => ?_) (fun c => ?_)
    · replace w := w.1 c
      refine st_iconst (v := 0) dX11_longestRow_36 (by decide) ?_
      refine st_istore_n (L' := [.int x0, .int x1, .int x2, .int 0, .int x4]) dX11_longestRow_37 (by decide) rfl ?_
      refine st_iload_n dX11_longestRow_38 rfl ?_
      refine st_iload_n dX11_longestRow_39 rfl ?_
      refine st_callS (M' := mX11_max) [.int x2, .int 0] [] dX11_longestRow_40 ml_X11_373 mf_X11_max ms_X11_max rfl rfl rfl (K := fun r h' => (am_max x2 (0 : Int32)) = r ∧ h = h') ⟨1, by omega, iX11_max ⟨rfl, rfl⟩⟩ (fun r1 h1 w1 => ?_)
      obtain ⟨rfl, rfl⟩ := w1
      show Ru mX11_longestRow none d 43 [.int x0, .int x1, .int x2, .int 0, .int x4] [.int (am_max x2 (0 : Int32))] h Z
      refine st_istore_n (L' := [.int x0, .int x1, .int (am_max x2 (0 : Int32)), .int 0, .int x4]) dX11_longestRow_43 (by decide) rfl ?_
      refine st_iinc (L' := [.int x0, .int x1, .int (am_max x2 (0 : Int32)), .int 0, .int (x4 + 1)]) dX11_longestRow_44 rfl rfl (by decide) rfl ?_
      refine st_goto (tgt := 7) dX11_longestRow_47 (by decide) ?_
      exact w
    · replace w := w.2 c
      refine st_iload_n dX11_longestRow_26 rfl ?_
      refine st_iload_n dX11_longestRow_27 rfl ?_
      refine st_iconst (v := 1) dX11_longestRow_28 (by decide) ?_
      refine st_iadd dX11_longestRow_29 ?_
      refine st_callS (M' := mX11_min) [.int x0, .int (x3 + 1)] [] dX11_longestRow_30 ml_X11_314 mf_X11_min ms_X11_min rfl rfl rfl (K := fun r h' => (am_min x0 (x3 + 1)) = r ∧ h = h') ⟨1, by omega, iX11_min ⟨rfl, rfl⟩⟩ (fun r1 h1 w1 => ?_)
      obtain ⟨rfl, rfl⟩ := w1
      show Ru mX11_longestRow none d 33 [.int x0, .int x1, .int x2, .int x3, .int x4] [.int (am_min x0 (x3 + 1))] h Z
      refine st_goto (tgt := 37) dX11_longestRow_33 (by decide) ?_
      refine st_istore_n (L' := [.int x0, .int x1, .int x2, .int (am_min x0 (x3 + 1)), .int x4]) dX11_longestRow_37 (by decide) rfl ?_
      refine st_iload_n dX11_longestRow_38 rfl ?_
      refine st_iload_n dX11_longestRow_39 rfl ?_
      refine st_callS (M' := mX11_max) [.int x2, .int (am_min x0 (x3 + 1))] [] dX11_longestRow_40 ml_X11_373 mf_X11_max ms_X11_max rfl rfl rfl (K := fun r h' => (am_max x2 (am_min x0 (x3 + 1))) = r ∧ h = h') ⟨1, by omega, iX11_max ⟨rfl, rfl⟩⟩ (fun r1 h1 w1 => ?_)
      obtain ⟨rfl, rfl⟩ := w1
      show Ru mX11_longestRow none d 43 [.int x0, .int x1, .int x2, .int (am_min x0 (x3 + 1)), .int x4] [.int (am_max x2 (am_min x0 (x3 + 1)))] h Z
      refine st_istore_n (L' := [.int x0, .int x1, .int (am_max x2 (am_min x0 (x3 + 1))), .int (am_min x0 (x3 + 1)), .int x4]) dX11_longestRow_43 (by decide) rfl ?_
      refine st_iinc (L' := [.int x0, .int x1, .int (am_max x2 (am_min x0 (x3 + 1))), .int (am_min x0 (x3 + 1)), .int (x4 + 1)]) dX11_longestRow_44 rfl rfl (by decide) rfl ?_
      refine st_goto (tgt := 7) dX11_longestRow_47 (by decide) ?_
      exact w
set_option maxRecDepth 20000 in
set_option maxHeartbeats 2000000 in
theorem sX11_pigeonholes_0 {d : Nat} {h : am_H} {Z : Int32 → am_H → Prop} {x1 : Int32} {x2 : Int32} {x3 : Int32} (hd : 2 ≤ d) (w : (¬ ((2 : Int32) ≤ x1 ∧ x1 ≤ (16 : Int32)) → Z (-1) h) ∧ ((2 : Int32) ≤ x1 ∧ x1 ≤ (16 : Int32) → (¬ ((1 : Int32) ≤ x2 ∧ x2 ≤ x1) → Z (-1) h) ∧ ((1 : Int32) ≤ x2 ∧ x2 ≤ x1 → (¬ ((0 : Int32) ≤ x3 ∧ x3 ≤ (2 : Int32)) → Z (-1) h) ∧ ((0 : Int32) ≤ x3 ∧ x3 ≤ (2 : Int32) → (x2 ≤ (h.1 73 9) → (∀ h1 : am_H, h1 = am_sI h 73 9 0 → (Ru mX11_pigeonholes none d 55 [.ref 73, .int x1, .int x2, .int x3, .int 0, .int 0, .int 0, .int 0] [] h1 Z))) ∧ (¬ (x2 ≤ (h.1 73 9)) → Z (-1) h))))) : Ru mX11_pigeonholes none d 0 [.ref 73, .int x1, .int x2, .int x3, .null, .null, .null, .null] [] h Z := by
  refine st_iload_n dX11_pigeonholes_0 rfl ?_
  refine st_iconst (v := 2) dX11_pigeonholes_1 (by decide) ?_
  refine st_bipush (v := 16) dX11_pigeonholes_2 (by decide) ?_
  refine st_callS (M' := mX11_in) [.int x1, .int 2, .int 16] [] dX11_pigeonholes_4 ml_X11_125 mf_X11_in ms_X11_in rfl rfl rfl (K := fun r h' => (am_b ((2 : Int32) ≤ x1 ∧ x1 ≤ (16 : Int32))) = r ∧ h = h') ⟨1, by omega, iX11_in ⟨rfl, rfl⟩⟩ (fun r1 h1 w1 => ?_)
  obtain ⟨rfl, rfl⟩ := w1
  show Ru mX11_pigeonholes none d 7 [.ref 73, .int x1, .int x2, .int x3, .null, .null, .null, .null] [.int (am_b ((2 : Int32) ≤ x1 ∧ x1 ≤ (16 : Int32)))] h Z
  refine st_ifb_eq (tgt := 36) dX11_pigeonholes_7 (by decide) (fun c => ?_) (fun c => ?_)
  · replace w := w.1 c
    refine st_iconst (v := (-1)) dX11_pigeonholes_36 (by decide) ?_
    exact st_ireturn rfl rfl dX11_pigeonholes_37 w
  · replace w := w.2 c
    refine st_iload_n dX11_pigeonholes_10 rfl ?_
    refine st_iconst (v := 1) dX11_pigeonholes_11 (by decide) ?_
    refine st_iload_n dX11_pigeonholes_12 rfl ?_
    refine st_callS (M' := mX11_in) [.int x2, .int 1, .int x1] [] dX11_pigeonholes_13 ml_X11_125 mf_X11_in ms_X11_in rfl rfl rfl (K := fun r h' => (am_b ((1 : Int32) ≤ x2 ∧ x2 ≤ x1)) = r ∧ h = h') ⟨1, by omega, iX11_in ⟨rfl, rfl⟩⟩ (fun r1 h1 w1 => ?_)
    obtain ⟨rfl, rfl⟩ := w1
    show Ru mX11_pigeonholes none d 16 [.ref 73, .int x1, .int x2, .int x3, .null, .null, .null, .null] [.int (am_b ((1 : Int32) ≤ x2 ∧ x2 ≤ x1))] h Z
    refine st_ifb_eq (tgt := 36) dX11_pigeonholes_16 (by decide) (fun c => ?_) (fun c => ?_)
    · replace w := w.1 c
      refine st_iconst (v := (-1)) dX11_pigeonholes_36 (by decide) ?_
      exact st_ireturn rfl rfl dX11_pigeonholes_37 w
    · replace w := w.2 c
      refine st_iload_n dX11_pigeonholes_19 rfl ?_
      refine st_iconst (v := 0) dX11_pigeonholes_20 (by decide) ?_
      refine st_iconst (v := 2) dX11_pigeonholes_21 (by decide) ?_
      refine st_callS (M' := mX11_in) [.int x3, .int 0, .int 2] [] dX11_pigeonholes_22 ml_X11_125 mf_X11_in ms_X11_in rfl rfl rfl (K := fun r h' => (am_b ((0 : Int32) ≤ x3 ∧ x3 ≤ (2 : Int32))) = r ∧ h = h') ⟨1, by omega, iX11_in ⟨rfl, rfl⟩⟩ (fun r1 h1 w1 => ?_)
      obtain ⟨rfl, rfl⟩ := w1
      show Ru mX11_pigeonholes none d 25 [.ref 73, .int x1, .int x2, .int x3, .null, .null, .null, .null] [.int (am_b ((0 : Int32) ≤ x3 ∧ x3 ≤ (2 : Int32)))] h Z
      refine st_ifb_eq (tgt := 36) dX11_pigeonholes_25 (by decide) (fun c => ?_) (fun c => ?_)
      · replace w := w.1 c
        refine st_iconst (v := (-1)) dX11_pigeonholes_36 (by decide) ?_
        exact st_ireturn rfl rfl dX11_pigeonholes_37 w
      · replace w := w.2 c
        refine st_iload_n dX11_pigeonholes_28 rfl ?_
        refine st_aload_n dX11_pigeonholes_29 rfl ?_
        refine st_getI fl_X11_158 fk_11_9 dX11_pigeonholes_30 sh_73 ?_
        refine st_icmp_le (tgt := 38) dX11_pigeonholes_33 (by decide) (fun c => ?_) (fun c => ?_)
        · replace w := w.1 c
          refine st_aload_n dX11_pigeonholes_38 rfl ?_
          refine st_iconst (v := 0) dX11_pigeonholes_39 (by decide) ?_
          refine st_putI flp_X11_158 fk_11_9 dX11_pigeonholes_40 sh_73 (fun h1 eh1 => ?_)
          replace w := w h1 eh1
          refine st_iconst (v := 0) dX11_pigeonholes_43 (by decide) ?_
          refine st_istore (L' := [.ref 73, .int x1, .int x2, .int x3, .int 0, .null, .null, .null]) dX11_pigeonholes_44 (by decide) rfl ?_
          refine st_iconst (v := 0) dX11_pigeonholes_46 (by decide) ?_
          refine st_istore (L' := [.ref 73, .int x1, .int x2, .int x3, .int 0, .int 0, .null, .null]) dX11_pigeonholes_47 (by decide) rfl ?_
          refine st_iconst (v := 0) dX11_pigeonholes_49 (by decide) ?_
          refine st_istore (L' := [.ref 73, .int x1, .int x2, .int x3, .int 0, .int 0, .int 0, .null]) dX11_pigeonholes_50 (by decide) rfl ?_
          refine st_iconst (v := 0) dX11_pigeonholes_52 (by decide) ?_
          refine st_istore (L' := [.ref 73, .int x1, .int x2, .int x3, .int 0, .int 0, .int 0, .int 0]) dX11_pigeonholes_53 (by decide) rfl ?_
          exact w
        · replace w := w.2 c
          refine st_iconst (v := (-1)) dX11_pigeonholes_36 (by decide) ?_
          exact st_ireturn rfl rfl dX11_pigeonholes_37 w
set_option maxRecDepth 20000 in
set_option maxHeartbeats 2000000 in
theorem sX11_pigeonholes_55 {d : Nat} {h : am_H} {Z : Int32 → am_H → Prop} {x1 : Int32} {x2 : Int32} {x3 : Int32} {x4 : Int32} {x5 : Int32} {x6 : Int32} {x7 : Int32} (hd : 2 ≤ d) (w : (x2 ≤ x7 → (¬ x3 = 0 → (¬ x3 = 1 → am_cl mX11_longestRow d [.int x1, .int x4] h (fun r1 h2 => Z r1 h2)) ∧ (x3 = 1 → Z x6 h)) ∧ (x3 = 0 → Z x5 h)) ∧ (¬ (x2 ≤ x7) → (vp_in x7 260 ∧ (¬ x1 = 0 ∧ (Ru mX11_pigeonholes none d 77 [.ref 73, .int x1, .int x2, .int x3, .int x4, .int (x5 + 1), .int (am_rem (h.2.2 80 x7.toNatClampNeg &&& 255) x1), .int x7] [] h Z))))) : Ru mX11_pigeonholes none d 55 [.ref 73, .int x1, .int x2, .int x3, .int x4, .int x5, .int x6, .int x7] [] h Z := by
  refine st_iload dX11_pigeonholes_55 rfl ?_
  refine st_iload_n dX11_pigeonholes_57 rfl ?_
  refine st_icmp_ge (tgt := 119) dX11_pigeonholes_58 (by decide) (fun c => ?_) (fun c => ?_)
  · replace w := w.1 c
    refine st_iload_n dX11_pigeonholes_119 rfl ?_
    refine st_if_ne (tgt := 128) dX11_pigeonholes_120 (by decide) (fun c => ?_) (fun c => ?_)
    · replace w := w.1 c
      refine st_iload_n dX11_pigeonholes_128 rfl ?_
      refine st_iconst (v := 1) dX11_pigeonholes_129 (by decide) ?_
      refine st_icmp_ne (tgt := 138) dX11_pigeonholes_130 (by decide) (fun c => ?_) (fun c => ?_)
      · replace w := w.1 c
        refine st_iload_n dX11_pigeonholes_138 rfl ?_
        refine st_iload dX11_pigeonholes_139 rfl ?_
        refine st_callS (M' := mX11_longestRow) [.int x1, .int x4] [] dX11_pigeonholes_141 ml_X11_400 mf_X11_longestRow ms_X11_longestRow rfl rfl rfl w (fun r1 h2 w => ?_)
        show Ru mX11_pigeonholes none d 144 [.ref 73, .int x1, .int x2, .int x3, .int x4, .int x5, .int x6, .int x7] [.int r1] h2 Z
        exact st_ireturn rfl rfl dX11_pigeonholes_144 w
      · replace w := w.2 c
        refine st_iload dX11_pigeonholes_133 rfl ?_
        refine st_goto (tgt := 144) dX11_pigeonholes_135 (by decide) ?_
        exact st_ireturn rfl rfl dX11_pigeonholes_144 w
    · replace w := w.2 c
      refine st_iload dX11_pigeonholes_123 rfl ?_
      refine st_goto (tgt := 144) dX11_pigeonholes_125 (by decide) ?_
      exact st_ireturn rfl rfl dX11_pigeonholes_144 w
  · replace w := w.2 c
    refine st_aload_n dX11_pigeonholes_61 rfl ?_
    refine st_iload dX11_pigeonholes_62 rfl ?_
    have hc3 := w.1
    replace w := w.2
    refine st_callV (M' := mX11_octet) [.int x7] [] dX11_pigeonholes_64 ml_X11_388 mf_X11_octet mv_X11_octet sh_73 rfl rfl rfl (K := fun r h' => (h.2.2 80 x7.toNatClampNeg &&& 255) = r ∧ h = h') ⟨1, by omega, iX11_octet hc3 ⟨rfl, rfl⟩⟩ (fun r1 h1 w1 => ?_)
    obtain ⟨rfl, rfl⟩ := w1
    show Ru mX11_pigeonholes none d 67 [.ref 73, .int x1, .int x2, .int x3, .int x4, .int x5, .int x6, .int x7] [.int (h.2.2 80 x7.toNatClampNeg &&& 255)] h Z
    refine st_iload_n dX11_pigeonholes_67 rfl ?_
    have hc4 := w.1
    replace w := w.2
    refine st_irem dX11_pigeonholes_68 hc4 ?_
    refine st_istore (L' := [.ref 73, .int x1, .int x2, .int x3, .int x4, .int x5, .int (am_rem (h.2.2 80 x7.toNatClampNeg &&& 255) x1), .int x7]) dX11_pigeonholes_69 (by decide) rfl ?_
    refine st_iload dX11_pigeonholes_71 rfl ?_
    refine st_iconst (v := 1) dX11_pigeonholes_73 (by decide) ?_
    refine st_iadd dX11_pigeonholes_74 ?_
    refine st_istore (L' := [.ref 73, .int x1, .int x2, .int x3, .int x4, .int (x5 + 1), .int (am_rem (h.2.2 80 x7.toNatClampNeg &&& 255) x1), .int x7]) dX11_pigeonholes_75 (by decide) rfl ?_
    exact w
set_option maxRecDepth 20000 in
set_option maxHeartbeats 2000000 in
theorem sX11_pigeonholes_77 {d : Nat} {h : am_H} {Z : Int32 → am_H → Prop} {x1 : Int32} {x2 : Int32} {x3 : Int32} {x4 : Int32} {x5 : Int32} {x6 : Int32} {x7 : Int32} (hd : 2 ≤ d) (w : (¬ (am_has x4 x6) → Ru mX11_pigeonholes none d 55 [.ref 73, .int x1, .int x2, .int x3, .int (x4 ||| (1 <<< (x6 &&& 31))), .int x5, .int x6, .int (x7 + 1)] [] h Z) ∧ (am_has x4 x6 → (¬ x1 = 0 ∧ (Ru mX11_pigeonholes none d 77 [.ref 73, .int x1, .int x2, .int x3, .int x4, .int (x5 + 1), .int (am_rem (x6 + 1) x1), .int x7] [] h Z)))) : Ru mX11_pigeonholes none d 77 [.ref 73, .int x1, .int x2, .int x3, .int x4, .int x5, .int x6, .int x7] [] h Z := by
  refine st_iload dX11_pigeonholes_77 rfl ?_
  refine st_iload dX11_pigeonholes_79 rfl ?_
  refine st_callS (M' := mX11_has) [.int x4, .int x6] [] dX11_pigeonholes_81 ml_X11_133 mf_X11_has ms_X11_has rfl rfl rfl (K := fun r h' => (am_b (am_has x4 x6)) = r ∧ h = h') ⟨1, by omega, iX11_has ⟨rfl, rfl⟩⟩ (fun r1 h1 w1 => ?_)
  obtain ⟨rfl, rfl⟩ := w1
  show Ru mX11_pigeonholes none d 84 [.ref 73, .int x1, .int x2, .int x3, .int x4, .int x5, .int x6, .int x7] [.int (am_b (am_has x4 x6))] h Z
  refine st_ifb_eq (tgt := 104) dX11_pigeonholes_84 (by decide) (fun c => ?_) (fun c => ?_)
  · replace w := w.1 c
    refine st_iload dX11_pigeonholes_104 rfl ?_
    refine st_iconst (v := 1) dX11_pigeonholes_106 (by decide) ?_
    refine st_iload dX11_pigeonholes_107 rfl ?_
    refine st_ishl dX11_pigeonholes_109 ?_
    refine st_ior dX11_pigeonholes_110 ?_
    refine st_istore (L' := [.ref 73, .int x1, .int x2, .int x3, .int (x4 ||| (1 <<< (x6 &&& 31))), .int x5, .int x6, .int x7]) dX11_pigeonholes_111 (by decide) rfl ?_
    refine st_iinc (L' := [.ref 73, .int x1, .int x2, .int x3, .int (x4 ||| (1 <<< (x6 &&& 31))), .int x5, .int x6, .int (x7 + 1)]) dX11_pigeonholes_113 rfl rfl (by decide) rfl ?_
    refine st_goto (tgt := 55) dX11_pigeonholes_116 (by decide) ?_
    exact w
  · replace w := w.2 c
    refine st_iload dX11_pigeonholes_87 rfl ?_
    refine st_iconst (v := 1) dX11_pigeonholes_89 (by decide) ?_
    refine st_iadd dX11_pigeonholes_90 ?_
    refine st_iload_n dX11_pigeonholes_91 rfl ?_
    have hc1 := w.1
    replace w := w.2
    refine st_irem dX11_pigeonholes_92 hc1 ?_
    refine st_istore (L' := [.ref 73, .int x1, .int x2, .int x3, .int x4, .int x5, .int (am_rem (x6 + 1) x1), .int x7]) dX11_pigeonholes_93 (by decide) rfl ?_
    refine st_iload dX11_pigeonholes_95 rfl ?_
    refine st_iconst (v := 1) dX11_pigeonholes_97 (by decide) ?_
    refine st_iadd dX11_pigeonholes_98 ?_
    refine st_istore (L' := [.ref 73, .int x1, .int x2, .int x3, .int x4, .int (x5 + 1), .int (am_rem (x6 + 1) x1), .int x7]) dX11_pigeonholes_99 (by decide) rfl ?_
    refine st_goto (tgt := 77) dX11_pigeonholes_101 (by decide) ?_
    exact w
def ph_f (occ : Nat → Bool) (m : Nat) : Nat → Nat → Nat × Nat
  | 0, s => (0, s)
  | fu + 1, s => if occ s then ((ph_f occ m fu ((s + 1) % m)).1 + 1, (ph_f occ m fu ((s + 1) % m)).2) else (0, s)
def ph_up (occ : Nat → Bool) (p : Nat) : Nat → Bool := fun i => if i = p then true else occ i
def ph_st (m : Nat) (t : Nat → Nat) (k : Nat) (s : (Nat → Bool) × Nat × Nat) : (Nat → Bool) × Nat × Nat := (ph_up s.1 (ph_f s.1 m m (t k % m)).2, s.2.1 + 1 + (ph_f s.1 m m (t k % m)).1, (ph_f s.1 m m (t k % m)).2)
def ph_rn (occ : Nat → Bool) (m k : Nat) (s : Nat × Nat) : Nat × Nat := (max s.1 (if occ (k % m) then s.2 + 1 else 0), if occ (k % m) then s.2 + 1 else 0)
def ph_l (occ : Nat → Bool) (m : Nat) : Nat := min (am_fd (ph_rn occ m) 0 (2 * m) (0, 0)).1 m
def ph_r (m : Nat) (w : Int32) (s : (Nat → Bool) × Nat × Nat) : Int32 := if w = 0 then nI s.2.1 else if w = 1 then nI s.2.2 else nI (ph_l s.1 m)
theorem ph_f1 (occ : Nat → Bool) (m : Nat) : ∀ fu s, (ph_f occ m fu s).1 ≤ fu
  | 0, s => Nat.le_refl 0
  | fu + 1, s => by
    unfold ph_f
    by_cases c : occ s = true
    · rw [if_pos c]; have := ph_f1 occ m fu ((s + 1) % m); show _ + 1 ≤ _; omega
    · rw [if_neg c]; exact Nat.zero_le _
theorem ph_f2 (occ : Nat → Bool) {m : Nat} (hm : 0 < m) : ∀ fu s, s < m → (ph_f occ m fu s).2 < m
  | 0, s, hs => hs
  | fu + 1, s, hs => by
    unfold ph_f
    by_cases c : occ s = true
    · rw [if_pos c]; exact ph_f2 occ hm fu _ (Nat.mod_lt _ hm)
    · rw [if_neg c]; exact hs
theorem ph_f3 (occ : Nat → Bool) {m : Nat} (hm : 0 < m) : ∀ j fu s, s < m → j < fu → occ ((s + j) % m) = false → occ (ph_f occ m fu s).2 = false
  | j, 0, s, hs, hj, _ => absurd hj (Nat.not_lt_zero j)
  | 0, fu + 1, s, hs, hj, h => by
    rw [Nat.add_zero, Nat.mod_eq_of_lt hs] at h
    unfold ph_f
    rw [if_neg (by rw [h]; decide)]; exact h
  | j + 1, fu + 1, s, hs, hj, h => by
    unfold ph_f
    by_cases c : occ s = true
    · rw [if_pos c]
      refine ph_f3 occ hm j fu ((s + 1) % m) (Nat.mod_lt _ hm) (by omega) ?_
      rw [Nat.mod_add_mod, show s + 1 + j = s + (j + 1) by omega]; exact h
    · rw [if_neg c]; simpa using c
theorem ph_free (occ : Nat → Bool) {m : Nat} (hc : am_sm (fun i => if occ i then 1 else 0) m < m) : ∃ i, i < m ∧ occ i = false := by
  refine Classical.byContradiction fun no => ?_
  have : am_sm (fun _ => 1) m ≤ am_sm (fun i => if occ i then 1 else 0) m := am_sm_le m (fun k hk => by
    have : occ k = true := by
      cases h : occ k with
      | true => rfl
      | false => exact absurd ⟨k, hk, h⟩ no
    simp [this])
  rw [am_sm_c] at this
  omega
theorem ph_cnt (occ : Nat → Bool) (p : Nat) (hp : occ p = false) : ∀ m, am_sm (fun i => if ph_up occ p i then 1 else 0) m = am_sm (fun i => if occ i then 1 else 0) m + (if p < m then 1 else 0)
  | 0 => rfl
  | m + 1 => by
    rw [am_sm_s, am_sm_s, ph_cnt occ p hp m]
    unfold ph_up
    rcases Nat.lt_or_ge p m with q | q
    · simp [show ¬ m = p by omega, q, show p < m + 1 by omega]; omega
    · rcases Nat.eq_or_lt_of_le q with e | e
      · subst e; simp [hp]
      · simp [show ¬ m = p by omega, show ¬ p < m by omega, show ¬ p < m + 1 by omega]
section
variable {d : Nat} {h : am_H} {Z : Int32 → am_H → Prop} {m n : Nat} {t : Nat → Nat} {w : Int32}
theorem ph_xl {f : Nat → Int32} {occ : Nat → Bool} (hd : 1 ≤ d) (hm : m ≤ 16) (hm0 : 0 < m) (hf : ∀ i, i < m → (f i = 0 ↔ occ i = false)) (z : Z (nI (ph_l occ m)) (am_sR h 11 f)) : ∀ (j k : Nat) (s : Nat × Nat), k + j = 2 * m → s.1 ≤ k → s.2 ≤ k → (am_fd (ph_rn occ m) k j s) = am_fd (ph_rn occ m) 0 (2 * m) (0, 0) → Ru mX6_longestRound none d 7 [.ref 10, .int (nI m), .int (nI s.1), .int (nI s.2), .int (nI k)] [] (am_sR h 11 f) Z
  | 0, k, s, hk, h1, h2, e => by
    refine sX6_longestRound_7 hd ⟨fun _ => ?_, fun q => absurd (by rw [am_n2]; exact nI_le (by omega) (by omega)) q⟩
    rw [am_min_n (by omega) (by omega)]
    unfold ph_l at z
    rw [← e] at z
    exact z
  | j + 1, k, s, hk, h1, h2, e => by
    have l := Nat.mod_lt k hm0
    refine sX6_longestRound_7 hd ⟨fun q => absurd q (by rw [am_n2]; exact nI_ge (by omega) (by omega)), fun _ => ?_⟩
    rw [am_rem_n (by omega) hm0 (by omega), am_gRs, nI_clamp (by omega), nI_1, nI_1]
    have ih := ph_xl hd hm hm0 hf z j (k + 1) (ph_rn occ m k s)
    refine ⟨nI_ne0 hm0 (by omega), vp_in_nI (by omega) (by omega), fun c => ?_, fun c => ?_⟩
    · have c' := (hf _ l).mp c
      have := ih (by omega) (by simp [ph_rn, c']; omega) (by simp [ph_rn, c']) e
      simp only [ph_rn, c'] at this
      rw [show (0 : Int32) = nI 0 from rfl, am_max_n (by omega) (by omega)]
      exact this
    · have c' : occ (k % m) = true := by
        cases hh : occ (k % m) with
        | true => rfl
        | false => exact absurd ((hf _ l).mpr hh) c
      have := ih (by omega) (by simp [ph_rn, c']; omega) (by simp [ph_rn, c']; omega) e
      simp only [ph_rn, c', if_true] at this
      rw [am_max_n (by omega) (by omega)]
      exact this
theorem ph_xp {f : Nat → Int32} {occ : Nat → Bool} (hm : m ≤ 16) (hm0 : 0 < m) (hf : ∀ i, i < m → (f i = 0 ↔ occ i = false)) {x2 x3 x6 : Int32} : ∀ (fu j s : Nat) (lk : Int32), j + fu = m → s < m → (∀ u, Ru mX6_holesFilled none d 30 [.ref 10, .int (nI m), .int x2, .int x3, .int (lk + nI (ph_f occ m fu s).1), .int (nI (ph_f occ m fu s).2), .int (x6 + 1), u] [] (am_sR h 11 (upd f (ph_f occ m fu s).2 1)) Z) → Ru mX6_holesFilled none d 55 [.ref 10, .int (nI m), .int x2, .int x3, .int lk, .int (nI s), .int x6, .int (nI j)] [] (am_sR h 11 f) Z
  | 0, j, s, lk, hj, hs, z => by
    refine sX6_holesFilled_55 ⟨fun _ => ⟨vp_in_nI (by omega) (by omega), fun h2 e2 => ?_⟩, fun q => absurd (nI_le (by omega) (by omega)) q⟩
    rw [am_gRs, am_sR_2, nI_clamp (by omega)] at e2
    subst e2
    have := z (.int (nI j))
    rw [show (ph_f occ m 0 s).1 = 0 from rfl, nI_0, Int32.add_zero] at this
    exact this
  | fu + 1, j, s, lk, hj, hs, z => by
    refine sX6_holesFilled_55 ⟨fun q => absurd q (nI_ge (by omega) (by omega)), fun _ => ⟨vp_in_nI (by omega) (by omega), fun c h2 e2 => ?_, fun c => ⟨nI_ne0 hm0 (by omega), ?_⟩⟩⟩
    · rw [am_gRs, nI_clamp (by omega)] at c
      have c' := (hf _ hs).mp c
      rw [am_gRs, am_sR_2, nI_clamp (by omega)] at e2
      subst e2
      have e : ph_f occ m (fu + 1) s = (0, s) := by unfold ph_f; rw [if_neg (by rw [c']; decide)]
      have := z (.int (nI j))
      rw [e, show ((0, s) : Nat × Nat).1 = 0 from rfl, nI_0, Int32.add_zero] at this
      exact this
    · rw [am_gRs, nI_clamp (by omega)] at c
      have c' : occ s = true := by
        cases hh : occ s with
        | true => rfl
        | false => exact absurd ((hf _ hs).mpr hh) c
      have e : ph_f occ m (fu + 1) s = ((ph_f occ m fu ((s + 1) % m)).1 + 1, (ph_f occ m fu ((s + 1) % m)).2) := by rw [ph_f, if_pos c']
      rw [nI_1, nI_1, am_rem_n (by omega) hm0 (by omega)]
      refine ph_xp hm hm0 hf fu (j + 1) ((s + 1) % m) _ (by omega) (Nat.mod_lt _ hm0) (fun u => ?_)
      have := z u
      rw [e] at this
      rw [show lk + 1 + nI (ph_f occ m fu ((s + 1) % m)).1 = lk + nI ((ph_f occ m fu ((s + 1) % m)).1 + 1) by rw [← nI_1]; grind]
      exact this
theorem ph_xk (hd : 3 ≤ d) (hm : m ≤ 16) (hm0 : 0 < m) (hn : n ≤ m) (hT : ∀ i, i < n → am_at h (nI i) = nI (t i)) (hb : ∀ i, t i < 256) : ∀ (j k : Nat) (f : Nat → Int32) (s : (Nat → Bool) × Nat × Nat) (u : Value), k + j = n → (∀ i, i < m → (f i = 0 ↔ s.1 i = false)) → (∀ g, Z (ph_r m w (am_fd (ph_st m t) k j s)) (am_sR h 11 g)) → Ru mX6_holesFilled none d 30 [.ref 10, .int (nI m), .int (nI n), .int w, .int (nI s.2.1), .int (nI s.2.2), .int (nI k), u] [] (am_sR h 11 f) Z
  | 0, k, f, s, u, hk, hf, z => by
    refine sX6_holesFilled_30 (by omega) ⟨fun _ => ⟨fun c => ?_, fun c => ⟨fun c2 => ?_, fun c2 => ⟨2, by omega, Sp_of mf_X6_longestRound rfl (Nat.le_of_ble_eq_true rfl) rfl (sX6_longestRound_0 (ph_xl (occ := s.1) (by omega) hm hm0 hf ?_ (2 * m) 0 (0, 0) (by omega) (Nat.le_refl _) (Nat.le_refl _) rfl))⟩⟩⟩, fun q => absurd (nI_le (by omega) (by omega)) q⟩
    · have := z f; unfold ph_r at this; rw [if_pos c] at this; exact this
    · have := z f; unfold ph_r at this; rw [if_neg c, if_pos c2] at this; exact this
    · have := z f; unfold ph_r at this; rw [if_neg c, if_neg c2] at this; exact this
  | j + 1, k, f, s, u, hk, hf, z => by
    have b := hb k
    have l := Nat.mod_lt (t k) hm0
    refine sX6_holesFilled_30 (by omega) ⟨fun q => absurd q (nI_ge (by omega) (by omega)), fun _ => ⟨nI_ne0 hm0 (by omega), ?_⟩⟩
    rw [am_at_sR h f _ (show 11 ≠ 2 by decide), hT k (by omega), am_rem_n (by omega) hm0 (by omega), nI_1]
    refine ph_xp (occ := s.1) hm hm0 hf m 0 (t k % m) _ (by omega) l (fun u => ?_)
    rw [nI_add, nI_1]
    refine ph_xk hd hm hm0 hn hT hb j (k + 1) _ (ph_st m t k s) u (by omega) (fun i hi => ?_) z
    show upd f _ 1 i = 0 ↔ ph_up s.1 _ i = false
    unfold upd ph_up
    by_cases c : i = (ph_f s.1 m m (t k % m)).2
    · simp [c]
    · simp [c, hf i hi]
theorem iX6_holes (hd : 3 ≤ d) (hm : m ≤ 16) (hm0 : 0 < m) (hn : n ≤ m) (hT : ∀ i, i < n → am_at h (nI i) = nI (t i)) (hb : ∀ i, t i < 256) (z : ∀ g, Z (ph_r m w (am_fd (ph_st m t) 0 n (fun _ => false, 0, 0))) (am_sR h 11 g)) : Sp mX6_holesFilled d [.ref 10, .int (nI m), .int (nI n), .int w] h Z := by
  refine Sp_of mf_X6_holesFilled rfl (Nat.le_of_ble_eq_true rfl) rfl (sX6_holesFilled_0 (by omega) ⟨fun c => absurd c (nI_nlt (b := 1) hm0 (by omega)), fun _ => ⟨fun _ => ?_, fun c => absurd (nI_le (b := 24) (by omega) (by omega)) c⟩⟩)
  exact ph_xk hd hm hm0 hn hT hb n 0 (am_fill (h.2.2 11) 24 0) (fun _ => false, 0, 0) _ (by omega) (fun i hi => by simp [am_fill, show i < 24 by omega]) z
-- the reference's
theorem ph_ml {S : Nat} {occ : Nat → Bool} (hd : 2 ≤ d) (hm : m ≤ 16) (hm0 : 0 < m) (hS : S < 2 ^ 16) (hf : ∀ i, i < m → S.testBit i = occ i) (z : Z (nI (ph_l occ m)) h) : ∀ (j k : Nat) (s : Nat × Nat), k + j = 2 * m → s.1 ≤ k → s.2 ≤ k → (am_fd (ph_rn occ m) k j s) = am_fd (ph_rn occ m) 0 (2 * m) (0, 0) → Ru mX11_longestRow none d 7 [.int (nI m), .int (nI S), .int (nI (min s.1 m)), .int (nI (min m s.2)), .int (nI k)] [] h Z
  | 0, k, s, hk, h1, h2, e => by
    refine sX11_longestRow_7 hd ⟨fun _ => ?_, fun q => absurd (by rw [am_n2]; exact nI_le (by omega) (by omega)) q⟩
    unfold ph_l at z
    rw [← e] at z
    exact z
  | j + 1, k, s, hk, h1, h2, e => by
    have l := Nat.mod_lt k hm0
    refine sX11_longestRow_7 hd ⟨fun q => absurd q (by rw [am_n2]; exact nI_ge (by omega) (by omega)), fun _ => ?_⟩
    rw [am_rem_n (by omega) hm0 (by omega), nI_1, nI_1, am_has, am_bit_n (by omega) (by omega), hf _ l, am_min_n (by omega) (by omega), am_max_n (by omega) (by omega), show (0 : Int32) = nI 0 from rfl, am_max_n (by omega) (by omega)]
    have ih := ph_ml hd hm hm0 hS hf z j (k + 1) (ph_rn occ m k s)
    refine ⟨nI_ne0 hm0 (by omega), fun c => ?_, fun c => ?_⟩
    · have := ih (by omega) (by simp [ph_rn, c]; omega) (by simp [ph_rn, c]) e
      simp only [ph_rn, c] at this
      rw [show max (min s.1 m) 0 = min (max s.1 0) m by omega, show (0 : Nat) = min m 0 by omega] at *
      simpa using this
    · have := ih (by omega) (by simp [ph_rn, c]; omega) (by simp [ph_rn, c]; omega) e
      simp only [ph_rn, c, if_true] at this
      rw [show max (min s.1 m) (min m (min m s.2 + 1)) = min (max s.1 (s.2 + 1)) m by omega, show min m (min m s.2 + 1) = min m (s.2 + 1) by omega]
      exact this
theorem ph_mp {S : Nat} {occ : Nat → Bool} (hd : 3 ≤ d) (hm : m ≤ 16) (hm0 : 0 < m) (hS : S < 2 ^ 16) (hf : ∀ i, i < m → S.testBit i = occ i) {x2 x3 x7 : Int32} : ∀ (fu s : Nat) (lk : Int32), s < m → occ (ph_f occ m fu s).2 = false → Ru mX11_pigeonholes none d 55 [.ref 73, .int (nI m), .int x2, .int x3, .int (nI (S ||| 2 ^ (ph_f occ m fu s).2)), .int (lk + nI (ph_f occ m fu s).1), .int (nI (ph_f occ m fu s).2), .int (x7 + 1)] [] h Z → Ru mX11_pigeonholes none d 77 [.ref 73, .int (nI m), .int x2, .int x3, .int (nI S), .int lk, .int (nI s), .int x7] [] h Z
  | 0, s, lk, hs, ho, z => by
    have e : ph_f occ m 0 s = (0, s) := rfl
    rw [e] at ho z
    refine sX11_pigeonholes_77 (by omega) ⟨fun _ => ?_, fun c => ?_⟩
    · rw [am_shl1 (by omega), fa_or]
      rw [show ((0, s) : Nat × Nat).1 = 0 from rfl, nI_0, Int32.add_zero] at z
      exact z
    · rw [am_has, am_bit_n (by omega) (by omega), hf s hs] at c
      rw [show occ s = false from ho] at c; cases c
  | fu + 1, s, lk, hs, ho, z => by
    refine sX11_pigeonholes_77 (by omega) ⟨fun c => ?_, fun c => ⟨nI_ne0 hm0 (by omega), ?_⟩⟩
    · rw [am_has, am_bit_n (by omega) (by omega), hf s hs] at c
      have e : ph_f occ m (fu + 1) s = (0, s) := by rw [ph_f, if_neg c]
      rw [e] at z
      rw [am_shl1 (by omega), fa_or]
      rw [show ((0, s) : Nat × Nat).1 = 0 from rfl, nI_0, Int32.add_zero] at z
      exact z
    · rw [am_has, am_bit_n (by omega) (by omega), hf s hs] at c
      have e : ph_f occ m (fu + 1) s = ((ph_f occ m fu ((s + 1) % m)).1 + 1, (ph_f occ m fu ((s + 1) % m)).2) := by rw [ph_f, if_pos c]
      rw [e] at z ho
      rw [nI_1, am_rem_n (by omega) hm0 (by omega)]
      refine ph_mp hd hm hm0 hS hf fu ((s + 1) % m) _ (Nat.mod_lt _ hm0) ho ?_
      rw [show lk + 1 + nI (ph_f occ m fu ((s + 1) % m)).1 = lk + nI ((ph_f occ m fu ((s + 1) % m)).1 + 1) by rw [← nI_1]; grind]
      exact z
theorem ph_mk (hd : 5 ≤ d) (hm : m ≤ 16) (hm0 : 0 < m) (hn : n ≤ m) (hT : ∀ i, i < n → h.2.2 80 i &&& 255 = nI (t i)) (hb : ∀ i, t i < 256) : ∀ (j k S : Nat) (s : (Nat → Bool) × Nat × Nat), k + j = n → S < 2 ^ 16 → (∀ i, i < m → S.testBit i = s.1 i) → am_sm (fun i => if s.1 i then 1 else 0) m = k → Z (ph_r m w (am_fd (ph_st m t) k j s)) h → Ru mX11_pigeonholes none d 55 [.ref 73, .int (nI m), .int (nI n), .int w, .int (nI S), .int (nI s.2.1), .int (nI s.2.2), .int (nI k)] [] h Z
  | 0, k, S, s, hk, hS, hf, hc, z => by
    refine sX11_pigeonholes_55 (by omega) ⟨fun _ => ⟨fun c => ⟨fun c2 => ⟨4, by omega, Sp_of mf_X11_longestRow rfl (Nat.le_of_ble_eq_true rfl) rfl (sX11_longestRow_0 ?_)⟩, fun c2 => ?_⟩, fun c => ?_⟩, fun q => absurd (nI_le (by omega) (by omega)) q⟩
    · have := z; unfold ph_r at this; rw [if_neg c, if_neg c2] at this
      have k1 := ph_ml (d := 4) (occ := s.1) (by omega) hm hm0 hS hf this (2 * m) 0 (0, 0) (by omega) (Nat.le_refl _) (Nat.le_refl _) rfl
      simp only [Nat.zero_min, Nat.min_zero] at k1
      exact k1
    · have := z; unfold ph_r at this; rw [if_neg c, if_pos c2] at this; exact this
    · have := z; unfold ph_r at this; rw [if_pos c] at this; exact this
  | j + 1, k, S, s, hk, hS, hf, hc, z => by
    have b := hb k
    have l := Nat.mod_lt (t k) hm0
    refine sX11_pigeonholes_55 (by omega) ⟨fun q => absurd q (nI_ge (by omega) (by omega)), fun _ => ⟨vp_in_nI (by omega) (by omega), nI_ne0 hm0 (by omega), ?_⟩⟩
    rw [nI_clamp (by omega), hT k (by omega), am_rem_n (by omega) hm0 (by omega), nI_1]
    obtain ⟨i, hi, ho⟩ := ph_free s.1 (m := m) (by omega)
    have hfree : s.1 (ph_f s.1 m m (t k % m)).2 = false := by
      rcases Nat.lt_or_ge i (t k % m) with q | q
      · exact ph_f3 s.1 hm0 (i + m - t k % m) m _ l (by omega) (by rw [show t k % m + (i + m - t k % m) = i + m by omega, Nat.add_mod_right, Nat.mod_eq_of_lt hi]; exact ho)
      · exact ph_f3 s.1 hm0 (i - t k % m) m _ l (by omega) (by rw [show t k % m + (i - t k % m) = i by omega, Nat.mod_eq_of_lt hi]; exact ho)
    have hp := ph_f2 s.1 hm0 m (t k % m) l
    refine ph_mp (occ := s.1) (by omega) hm hm0 hS hf m (t k % m) _ l hfree ?_
    rw [nI_add, nI_1]
    refine ph_mk hd hm hm0 hn hT hb j (k + 1) _ (ph_st m t k s) (by omega) (Nat.or_lt_two_pow hS (Nat.pow_lt_pow_right (by decide) (by omega))) (fun i hi => ?_) ?_ z
    · rw [fb_bit_set, hf i hi]
      show _ = ph_up s.1 _ i
      unfold ph_up
      by_cases c : i = (ph_f s.1 m m (t k % m)).2 <;> simp [c]
    · show am_sm (fun i => if ph_up s.1 _ i then 1 else 0) m = k + 1
      rw [ph_cnt s.1 _ hfree m, hc, if_pos hp]
end
theorem pp_pigeonholes {d : Nat} {h : am_H} {K : Int32 → Int32 → am_H → Prop} {x y w : Int32} {N : Nat} (hd : 12 ≤ d) (ht : am_tape h N) (z : ∀ r h', am_step h h' → K r r h') : am_cl mX10_pigeonholes d [.ref 0, .int x, .int y, .int w] h (fun r1 h1 => am_cl mX11_pigeonholes d [.ref 73, .int x, .int y, .int w] h1 (fun r2 h2 => K r1 r2 h2)) := by
  have hN := ht.1
  have z0 : K (-1) (-1) h := z _ _ (am_step_rf h)
  have no : ∀ (a : Ru mX10_pigeonholes none 10 0 [.ref 0, .int x, .int y, .int w, .null, .null] [] h (fun r1 h1 => r1 = -1 ∧ h1 = h)) (v : Ru mX11_pigeonholes none 10 0 [.ref 73, .int x, .int y, .int w, .null, .null, .null, .null] [] h (fun r1 h1 => r1 = -1 ∧ h1 = h)), am_cl mX10_pigeonholes d [.ref 0, .int x, .int y, .int w] h (fun r1 h1 => am_cl mX11_pigeonholes d [.ref 73, .int x, .int y, .int w] h1 (fun r2 h2 => K r1 r2 h2)) := fun a v => by
    refine ⟨10, by omega, Sp_of mf_X10_pigeonholes rfl (Nat.le_of_ble_eq_true rfl) rfl (am_ru_mono a (fun r1 h1 q => ?_))⟩
    obtain ⟨rfl, rfl⟩ := q
    refine ⟨10, by omega, Sp_of mf_X11_pigeonholes rfl (Nat.le_of_ble_eq_true rfl) rfl (am_ru_mono v (fun r1 h1 q => ?_))⟩
    obtain ⟨rfl, rfl⟩ := q
    exact z0
  have f32 : Ru mX10_pigeonholes none 10 32 [.ref 0, .int x, .int y, .int w, .null, .null] [] h (fun r1 h1 => r1 = -1 ∧ h1 = h) := sX10_pigeonholes_32 (sX10_pigeonholes_33 (by omega) ⟨fun _ => ⟨rfl, rfl⟩, fun c => absurd rfl c⟩)
  by_cases c1 : 2 ≤ x ∧ x ≤ 16
  · by_cases c2 : 1 ≤ y ∧ y ≤ x
    · by_cases c3 : 0 ≤ w ∧ w ≤ 2
      · obtain ⟨m, hm, rfl⟩ := am_natle (N := 16) (by omega) (Int32.le_trans (by decide) c1.1) c1.2
        have hm0 : 2 ≤ m := (nI_leI (a := 2) (by omega) (by omega)).mp c1.1
        obtain ⟨n, hn, rfl⟩ := am_natle (N := m) (by omega) (Int32.le_trans (by decide) c2.1) c2.2
        by_cases c4 : n ≤ N
        · have p1 : nI n ≤ h.1 1 1 := by rw [ht.2.1]; exact nI_le c4 (by omega)
          refine ⟨10, by omega, Sp_of mf_X10_pigeonholes rfl (Nat.le_of_ble_eq_true rfl) rfl (sX10_pigeonholes_0 (by omega) ⟨fun c => absurd c1 c, fun _ => ⟨fun c => absurd c2 c, fun _ => ⟨fun c => absurd c3 c, fun _ => sX10_pigeonholes_33 (by omega) ⟨fun c => absurd c (by decide), fun _ => ⟨fun _ => ⟨8, by omega, iX6_holes (t := am_bt h) (by omega) hm (by omega) hn (fun i hi => am_at_b ht (by omega)) (am_bt_lt h) (fun g => ?_)⟩, fun c => absurd p1 c⟩⟩⟩⟩⟩)⟩
          have g9 : (am_sI (am_sR h 11 g) 1 1 0).1 73 9 = h.1 73 9 := by rw [am_gI, if_neg (by decide), am_gR1]
          refine ⟨10, by omega, Sp_of mf_X11_pigeonholes rfl (Nat.le_of_ble_eq_true rfl) rfl (sX11_pigeonholes_0 (by omega) ⟨fun c => absurd c1 c, fun _ => ⟨fun c => absurd c2 c, fun _ => ⟨fun c => absurd c3 c, fun _ => ⟨fun _ h1 e1 => ?_, fun c => absurd (by rw [g9, ht.2.2.1]; exact nI_le c4 (by omega)) c⟩⟩⟩⟩)⟩
          refine ph_mk (t := am_bt h) (by omega) hm (by omega) hn (fun i _ => by rw [e1]; exact am_bt_e h i) (am_bt_lt h) n 0 0 (fun _ => false, 0, 0) (by omega) (by omega) (fun i _ => by simp) ?_ ?_
          · have := am_sm_c 0 m
            simpa using this
          · refine z _ _ ?_
            rw [e1]
            refine am_step_x (am_keep_sI (am_keep_sI (am_keep_sR (am_keep_rf h) (by decide)) (by decide)) (by decide)) ?_ ?_
            · rw [am_gI, if_neg (by decide), am_gI, if_pos ⟨rfl, rfl⟩]
            · rw [am_gI, if_pos ⟨rfl, rfl⟩]
        · have n1 : ¬ nI n ≤ h.1 1 1 := by rw [ht.2.1]; exact nI_ge (by omega) (by omega)
          have n2 : ¬ nI n ≤ h.1 73 9 := by rw [ht.2.2.1]; exact nI_ge (by omega) (by omega)
          exact no (sX10_pigeonholes_0 (by omega) ⟨fun c => absurd c1 c, fun _ => ⟨fun c => absurd c2 c, fun _ => ⟨fun c => absurd c3 c, fun _ => sX10_pigeonholes_33 (by omega) ⟨fun c => absurd c (by decide), fun _ => ⟨fun c => absurd c n1, fun _ => ⟨rfl, rfl⟩⟩⟩⟩⟩⟩) (sX11_pigeonholes_0 (by omega) ⟨fun c => absurd c1 c, fun _ => ⟨fun c => absurd c2 c, fun _ => ⟨fun c => absurd c3 c, fun _ => ⟨fun c => absurd c n2, fun _ => ⟨rfl, rfl⟩⟩⟩⟩⟩)
      · exact no (sX10_pigeonholes_0 (by omega) ⟨fun c => absurd c1 c, fun _ => ⟨fun c => absurd c2 c, fun _ => ⟨fun _ => f32, fun c => absurd c c3⟩⟩⟩) (sX11_pigeonholes_0 (by omega) ⟨fun c => absurd c1 c, fun _ => ⟨fun c => absurd c2 c, fun _ => ⟨fun _ => ⟨rfl, rfl⟩, fun c => absurd c c3⟩⟩⟩)
    · exact no (sX10_pigeonholes_0 (by omega) ⟨fun c => absurd c1 c, fun _ => ⟨fun _ => f32, fun c => absurd c c2⟩⟩) (sX11_pigeonholes_0 (by omega) ⟨fun c => absurd c1 c, fun _ => ⟨fun _ => ⟨rfl, rfl⟩, fun c => absurd c c2⟩⟩)
  · exact no (sX10_pigeonholes_0 (by omega) ⟨fun _ => f32, fun c => absurd c c1⟩) (sX11_pigeonholes_0 (by omega) ⟨fun _ => ⟨rfl, rfl⟩, fun c => absurd c c1⟩)
