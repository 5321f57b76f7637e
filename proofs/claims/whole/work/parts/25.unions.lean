-- unions
set_option maxRecDepth 20000 in
set_option maxHeartbeats 2000000 in
theorem sX6_largestKingdom_0 {d : Nat} {h : am_H} {Z : Int32 → am_H → Prop} {x1 : Int32} (w : Ru mX6_largestKingdom none d 4 [.ref 10, .int x1, .int 0, .int 0, .null, .null] [] h Z) : Ru mX6_largestKingdom none d 0 [.ref 10, .int x1, .null, .null, .null, .null] [] h Z := by
  refine st_iconst (v := 0) dX6_largestKingdom_0 (by decide) ?_
  refine st_istore_n (L' := [.ref 10, .int x1, .int 0, .null, .null, .null]) dX6_largestKingdom_1 (by decide) rfl ?_
  refine st_iconst (v := 0) dX6_largestKingdom_2 (by decide) ?_
  refine st_istore_n (L' := [.ref 10, .int x1, .int 0, .int 0, .null, .null]) dX6_largestKingdom_3 (by decide) rfl ?_
  exact w
set_option maxRecDepth 20000 in
set_option maxHeartbeats 2000000 in
theorem sX6_largestKingdom_4 {d : Nat} {h : am_H} {Z : Int32 → am_H → Prop} {x1 : Int32} {x2 : Int32} {x3 : Int32} {u4 : Value} {u5 : Value} (w : (x1 ≤ x3 → Z x2 h) ∧ (¬ (x1 ≤ x3) → Ru mX6_largestKingdom none d 15 [.ref 10, .int x1, .int x2, .int x3, .int 0, .int 0] [] h Z)) : Ru mX6_largestKingdom none d 4 [.ref 10, .int x1, .int x2, .int x3, u4, u5] [] h Z := by
  refine st_iload_n dX6_largestKingdom_4 rfl ?_
  refine st_iload_n dX6_largestKingdom_5 rfl ?_
  refine st_icmp_ge (tgt := 61) dX6_largestKingdom_6 (by decide) (fun c => ?_) (fun c => ?_)
  · replace w := w.1 c
    refine st_iload_n dX6_largestKingdom_61 rfl ?_
    exact st_ireturn rfl rfl dX6_largestKingdom_62 w
  · replace w := w.2 c
    refine st_iconst (v := 0) dX6_largestKingdom_9 (by decide) ?_
    refine st_istore (L' := [.ref 10, .int x1, .int x2, .int x3, .int 0, u5]) dX6_largestKingdom_10 (by decide) rfl ?_
    refine st_iconst (v := 0) dX6_largestKingdom_12 (by decide) ?_
    refine st_istore (L' := [.ref 10, .int x1, .int x2, .int x3, .int 0, .int 0]) dX6_largestKingdom_13 (by decide) rfl ?_
    exact w
set_option maxRecDepth 20000 in
set_option maxHeartbeats 2000000 in
theorem sX6_largestKingdom_15 {d : Nat} {h : am_H} {Z : Int32 → am_H → Prop} {x1 : Int32} {x2 : Int32} {x3 : Int32} {x4 : Int32} {x5 : Int32} (hd : 1 ≤ d) (w : (x1 ≤ x5 → Ru mX6_largestKingdom none d 4 [.ref 10, .int x1, .int (am_max x2 x4), .int (x3 + 1), .int x4, .int x5] [] h Z) ∧ (¬ (x1 ≤ x5) → (vp_in x5 24 ∧ ((¬ (h.2.2 11 x5.toNatClampNeg) = x3 → Ru mX6_largestKingdom none d 15 [.ref 10, .int x1, .int x2, .int x3, .int (x4 + 0), .int (x5 + 1)] [] h Z) ∧ ((h.2.2 11 x5.toNatClampNeg) = x3 → Ru mX6_largestKingdom none d 15 [.ref 10, .int x1, .int x2, .int x3, .int (x4 + 1), .int (x5 + 1)] [] h Z))))) : Ru mX6_largestKingdom none d 15 [.ref 10, .int x1, .int x2, .int x3, .int x4, .int x5] [] h Z := by
  refine st_iload dX6_largestKingdom_15 rfl ?_
  refine st_iload_n dX6_largestKingdom_17 rfl ?_
  refine st_icmp_ge (tgt := 48) dX6_largestKingdom_18 (by decide) (fun c => ?_) (fun c => ?_)
  · replace w := w.1 c
    refine st_iload_n dX6_largestKingdom_48 rfl ?_
    refine st_iload dX6_largestKingdom_49 rfl ?_
    refine st_mmax dX6_largestKingdom_51 mk_max_X6_71 (by omega) rfl ?_
    refine st_istore_n (L' := [.ref 10, .int x1, .int (am_max x2 x4), .int x3, .int x4, .int x5]) dX6_largestKingdom_54 (by decide) rfl ?_
    refine st_iinc (L' := [.ref 10, .int x1, .int (am_max x2 x4), .int (x3 + 1), .int x4, .int x5]) dX6_largestKingdom_55 rfl rfl (by decide) rfl ?_
    refine st_goto (tgt := 4) dX6_largestKingdom_58 (by decide) ?_
    exact w
  · replace w := w.2 c
    refine st_iload dX6_largestKingdom_21 rfl ?_
    refine st_aload_n dX6_largestKingdom_23 rfl ?_
    refine st_getF (q := 11) fl_X6_11 fk_6_1 rfl dX6_largestKingdom_24 sh_10 ?_
    refine st_iload dX6_largestKingdom_27 rfl ?_
    have hc1 := w.1
    replace w := w.2
    refine st_iald dX6_largestKingdom_29 sh_11 hc1 ?_
    refine st_iload_n dX6_largestKingdom_30 rfl ?_
    refine st_icmp_ne (tgt := 38) dX6_largestKingdom_31 (by decide) (fun c => ?_) (fun c => ?_)
    · replace w := w.1 c
      refine st_iconst (v := 0) dX6_largestKingdom_38 (by decide) ?_
      refine st_iadd dX6_largestKingdom_39 ?_
      refine st_istore (L' := [.ref 10, .int x1, .int x2, .int x3, .int (x4 + 0), .int x5]) dX6_largestKingdom_40 (by decide) rfl ?_
      refine st_iinc (L' := [.ref 10, .int x1, .int x2, .int x3, .int (x4 + 0), .int (x5 + 1)]) dX6_largestKingdom_42 rfl rfl (by decide) rfl ?_
      refine st_goto (tgt := 15) dX6_largestKingdom_45 (by decide) ?_
      exact w
    · replace w := w.2 c
      refine st_iconst (v := 1) dX6_largestKingdom_34 (by decide) ?_
      refine st_goto (tgt := 39) dX6_largestKingdom_35 (by decide) ?_
      refine st_iadd dX6_largestKingdom_39 ?_
      refine st_istore (L' := [.ref 10, .int x1, .int x2, .int x3, .int (x4 + 1), .int x5]) dX6_largestKingdom_40 (by decide) rfl ?_
      refine st_iinc (L' := [.ref 10, .int x1, .int x2, .int x3, .int (x4 + 1), .int (x5 + 1)]) dX6_largestKingdom_42 rfl rfl (by decide) rfl ?_
      refine st_goto (tgt := 15) dX6_largestKingdom_45 (by decide) ?_
      exact w
set_option maxRecDepth 20000 in
set_option maxHeartbeats 2000000 in
theorem sX6_kingdoms_0 {d : Nat} {h : am_H} {Z : Int32 → am_H → Prop} {x1 : Int32} {x2 : Int32} {x3 : Int32} (w : Ru mX6_kingdoms none d 3 [.ref 10, .int x1, .int x2, .int x3, .int 0, .null, .null, .null, .null] [] h Z) : Ru mX6_kingdoms none d 0 [.ref 10, .int x1, .int x2, .int x3, .null, .null, .null, .null, .null] [] h Z := by
  refine st_iconst (v := 0) dX6_kingdoms_0 (by decide) ?_
  refine st_istore (L' := [.ref 10, .int x1, .int x2, .int x3, .int 0, .null, .null, .null, .null]) dX6_kingdoms_1 (by decide) rfl ?_
  exact w
set_option maxRecDepth 20000 in
set_option maxHeartbeats 2000000 in
theorem sX6_kingdoms_3 {d : Nat} {h : am_H} {Z : Int32 → am_H → Prop} {x1 : Int32} {x2 : Int32} {x3 : Int32} {x4 : Int32} {u5 : Value} {u6 : Value} {u7 : Value} {u8 : Value} (hd : 2 ≤ d) (w : ((2 * x2) ≤ x4 → Ru mX6_kingdoms none d 48 [.ref 10, .int x1, .int x2, .int x3, .int 0, u5, u6, u7, u8] [] h Z) ∧ (¬ ((2 * x2) ≤ x4) → ((am_at h x4) < 0 → Z (-3) h) ∧ (¬ ((am_at h x4) < 0) → ((am_at h x4) < x1 → Ru mX6_kingdoms none d 3 [.ref 10, .int x1, .int x2, .int x3, .int (x4 + 1), u5, u6, u7, u8] [] h Z) ∧ (¬ ((am_at h x4) < x1) → Z (-3) h)))) : Ru mX6_kingdoms none d 3 [.ref 10, .int x1, .int x2, .int x3, .int x4, u5, u6, u7, u8] [] h Z := by
  refine st_iload dX6_kingdoms_3 rfl ?_
  refine st_iconst (v := 2) dX6_kingdoms_5 (by decide) ?_
  refine st_iload_n dX6_kingdoms_6 rfl ?_
  refine st_imul dX6_kingdoms_7 ?_
  refine st_icmp_ge (tgt := 45) dX6_kingdoms_8 (by decide) (fun c => ?_) (fun c => ?_)
  · replace w := w.1 c
    refine st_iconst (v := 0) dX6_kingdoms_45 (by decide) ?_
    refine st_istore (L' := [.ref 10, .int x1, .int x2, .int x3, .int 0, u5, u6, u7, u8]) dX6_kingdoms_46 (by decide) rfl ?_
    exact w
  · replace w := w.2 c
    refine st_aload_n dX6_kingdoms_11 rfl ?_
    refine st_getF (q := 1) fl_X6_27 fk_6_0 rfl dX6_kingdoms_12 sh_10 ?_
    refine st_iload dX6_kingdoms_15 rfl ?_
    refine st_callV (M' := mX9_at) [.int x4] [] dX6_kingdoms_17 ml_X6_74 mf_X9_at mv_X9_at sh_1 rfl rfl rfl (K := fun r h' => (am_at h x4) = r ∧ h = h') ⟨1, by omega, iX9_at ⟨rfl, rfl⟩⟩ (fun r1 h1 w1 => ?_)
    obtain ⟨rfl, rfl⟩ := w1
    show Ru mX6_kingdoms none d 20 [.ref 10, .int x1, .int x2, .int x3, .int x4, u5, u6, u7, u8] [.int (am_at h x4)] h Z
    refine st_if_lt (tgt := 36) dX6_kingdoms_20 (by decide) (fun c => ?_) (fun c => ?_)
    · replace w := w.1 c
      refine st_bipush (v := (-3)) dX6_kingdoms_36 (by decide) ?_
      exact st_ireturn rfl rfl dX6_kingdoms_38 w
    · replace w := w.2 c
      refine st_aload_n dX6_kingdoms_23 rfl ?_
      refine st_getF (q := 1) fl_X6_27 fk_6_0 rfl dX6_kingdoms_24 sh_10 ?_
      refine st_iload dX6_kingdoms_27 rfl ?_
      refine st_callV (M' := mX9_at) [.int x4] [] dX6_kingdoms_29 ml_X6_74 mf_X9_at mv_X9_at sh_1 rfl rfl rfl (K := fun r h' => (am_at h x4) = r ∧ h = h') ⟨1, by omega, iX9_at ⟨rfl, rfl⟩⟩ (fun r1 h1 w1 => ?_)
      obtain ⟨rfl, rfl⟩ := w1
      show Ru mX6_kingdoms none d 32 [.ref 10, .int x1, .int x2, .int x3, .int x4, u5, u6, u7, u8] [.int (am_at h x4)] h Z
      refine st_iload_n dX6_kingdoms_32 rfl ?_
      refine st_icmp_lt (tgt := 39) dX6_kingdoms_33 (by decide) (fun c => ?_) (fun c => ?_)
      · replace w := w.1 c
        refine st_iinc (L' := [.ref 10, .int x1, .int x2, .int x3, .int (x4 + 1), u5, u6, u7, u8]) dX6_kingdoms_39 rfl rfl (by decide) rfl ?_
        refine st_goto (tgt := 3) dX6_kingdoms_42 (by decide) ?_
        exact w
      · replace w := w.2 c
        refine st_bipush (v := (-3)) dX6_kingdoms_36 (by decide) ?_
        exact st_ireturn rfl rfl dX6_kingdoms_38 w
set_option maxRecDepth 20000 in
set_option maxHeartbeats 2000000 in
theorem sX6_kingdoms_48 {d : Nat} {h : am_H} {Z : Int32 → am_H → Prop} {x1 : Int32} {x2 : Int32} {x3 : Int32} {x4 : Int32} {u5 : Value} {u6 : Value} {u7 : Value} {u8 : Value} (w : (x1 ≤ x4 → Ru mX6_kingdoms none d 75 [.ref 10, .int x1, .int x2, .int x3, .int 0, .int 0, u6, u7, u8] [] h Z) ∧ (¬ (x1 ≤ x4) → (vp_in x4 24 ∧ (∀ h2 : am_H, h2 = am_sR h 11 (upd (h.2.2 11) x4.toNatClampNeg x4) → (Ru mX6_kingdoms none d 48 [.ref 10, .int x1, .int x2, .int x3, .int (x4 + 1), u5, u6, u7, u8] [] h2 Z))))) : Ru mX6_kingdoms none d 48 [.ref 10, .int x1, .int x2, .int x3, .int x4, u5, u6, u7, u8] [] h Z := by
  refine st_iload dX6_kingdoms_48 rfl ?_
  refine st_iload_n dX6_kingdoms_50 rfl ?_
  refine st_icmp_ge (tgt := 69) dX6_kingdoms_51 (by decide) (fun c => ?_) (fun c => ?_)
  · replace w := w.1 c
    refine st_iconst (v := 0) dX6_kingdoms_69 (by decide) ?_
    refine st_istore (L' := [.ref 10, .int x1, .int x2, .int x3, .int 0, u5, u6, u7, u8]) dX6_kingdoms_70 (by decide) rfl ?_
    refine st_iconst (v := 0) dX6_kingdoms_72 (by decide) ?_
    refine st_istore (L' := [.ref 10, .int x1, .int x2, .int x3, .int 0, .int 0, u6, u7, u8]) dX6_kingdoms_73 (by decide) rfl ?_
    exact w
  · replace w := w.2 c
    refine st_aload_n dX6_kingdoms_54 rfl ?_
    refine st_getF (q := 11) fl_X6_11 fk_6_1 rfl dX6_kingdoms_55 sh_10 ?_
    refine st_iload dX6_kingdoms_58 rfl ?_
    refine st_iload dX6_kingdoms_60 rfl ?_
    have hc1 := w.1
    replace w := w.2
    refine st_iast dX6_kingdoms_62 sh_11 hc1 (fun h2 eh2 => ?_)
    replace w := w h2 eh2
    refine st_iinc (L' := [.ref 10, .int x1, .int x2, .int x3, .int (x4 + 1), u5, u6, u7, u8]) dX6_kingdoms_63 rfl rfl (by decide) rfl ?_
    refine st_goto (tgt := 48) dX6_kingdoms_66 (by decide) ?_
    exact w
set_option maxRecDepth 20000 in
set_option maxHeartbeats 2000000 in
theorem sX6_kingdoms_75 {d : Nat} {h : am_H} {Z : Int32 → am_H → Prop} {x1 : Int32} {x2 : Int32} {x3 : Int32} {x4 : Int32} {x5 : Int32} {u6 : Value} {u7 : Value} {u8 : Value} (hd : 2 ≤ d) (w : (x2 ≤ x5 → (x3 = 0 → Z (x1 - (x2 - x4)) h) ∧ (¬ x3 = 0 → (x3 = 1 → am_cl mX6_largestKingdom d [.ref 10, .int x1] h (fun r1 h2 => Z r1 h2)) ∧ (¬ x3 = 1 → Z x4 h))) ∧ (¬ (x2 ≤ x5) → (vp_in (am_at h (2 * x5)) 24 ∧ (vp_in (am_at h ((2 * x5) + 1)) 24 ∧ ((¬ (h.2.2 11 (am_at h (2 * x5)).toNatClampNeg) = (h.2.2 11 (am_at h ((2 * x5) + 1)).toNatClampNeg) → Ru mX6_kingdoms none d 139 [.ref 10, .int x1, .int x2, .int x3, .int (x4 + 0), .int x5, .int (h.2.2 11 (am_at h (2 * x5)).toNatClampNeg), .int (h.2.2 11 (am_at h ((2 * x5) + 1)).toNatClampNeg), .int 0] [] h Z) ∧ ((h.2.2 11 (am_at h (2 * x5)).toNatClampNeg) = (h.2.2 11 (am_at h ((2 * x5) + 1)).toNatClampNeg) → Ru mX6_kingdoms none d 139 [.ref 10, .int x1, .int x2, .int x3, .int (x4 + 1), .int x5, .int (h.2.2 11 (am_at h (2 * x5)).toNatClampNeg), .int (h.2.2 11 (am_at h ((2 * x5) + 1)).toNatClampNeg), .int 0] [] h Z)))))) : Ru mX6_kingdoms none d 75 [.ref 10, .int x1, .int x2, .int x3, .int x4, .int x5, u6, u7, u8] [] h Z := by
  refine st_iload dX6_kingdoms_75 rfl ?_
  refine st_iload_n dX6_kingdoms_77 rfl ?_
  refine st_icmp_ge (tgt := 188) dX6_kingdoms_78 (by decide) (fun c => ?_) (fun c => ?_)
  · replace w := w.1 c
    refine st_iload_n dX6_kingdoms_188 rfl ?_
    by_cases c0 : x3 = 0
    · replace w := w.1 c0
      refine st_lookup (off := 27) (tgt := 216) dX6_kingdoms_189 (by decide +kernel) (by rw [c0]; decide) (by decide) ?_
      refine st_iload_n dX6_kingdoms_216 rfl ?_
      refine st_iload_n dX6_kingdoms_217 rfl ?_
      refine st_iload dX6_kingdoms_218 rfl ?_
      refine st_isub dX6_kingdoms_220 ?_
      refine st_isub dX6_kingdoms_221 ?_
      exact st_ireturn rfl rfl dX6_kingdoms_222 w
    · replace w := w.2 c0
      by_cases c1 : x3 = 1
      · replace w := w.1 c1
        refine st_lookup (off := 34) (tgt := 223) dX6_kingdoms_189 (by decide +kernel) (by rw [c1]; decide) (by decide) ?_
        refine st_aload_n dX6_kingdoms_223 rfl ?_
        refine st_iload_n dX6_kingdoms_224 rfl ?_
        refine st_callV (M' := mX6_largestKingdom) [.int x1] [] dX6_kingdoms_225 ml_X6_93 mf_X6_largestKingdom mv_X6_largestKingdom sh_10 rfl rfl rfl w (fun r1 h2 w => ?_)
        show Ru mX6_kingdoms none d 228 [.ref 10, .int x1, .int x2, .int x3, .int x4, .int x5, u6, u7, u8] [.int r1] h2 Z
        exact st_ireturn rfl rfl dX6_kingdoms_228 w
      · replace w := w.2 c1
        refine st_lookup (off := 40) (tgt := 229) dX6_kingdoms_189 (by decide +kernel) (by rw [lv_osw c0 (by decide)]; rw [lv_osw c1 (by decide)]; rfl) (by decide) ?_
        refine st_iload dX6_kingdoms_229 rfl ?_
        exact st_ireturn rfl rfl dX6_kingdoms_231 w
  · replace w := w.2 c
    refine st_aload_n dX6_kingdoms_81 rfl ?_
    refine st_getF (q := 11) fl_X6_11 fk_6_1 rfl dX6_kingdoms_82 sh_10 ?_
    refine st_aload_n dX6_kingdoms_85 rfl ?_
    refine st_getF (q := 1) fl_X6_27 fk_6_0 rfl dX6_kingdoms_86 sh_10 ?_
    refine st_iconst (v := 2) dX6_kingdoms_89 (by decide) ?_
    refine st_iload dX6_kingdoms_90 rfl ?_
    refine st_imul dX6_kingdoms_92 ?_
    refine st_callV (M' := mX9_at) [.int (2 * x5)] [.ref 11] dX6_kingdoms_93 ml_X6_74 mf_X9_at mv_X9_at sh_1 rfl rfl rfl (K := fun r h' => (am_at h (2 * x5)) = r ∧ h = h') ⟨1, by omega, iX9_at ⟨rfl, rfl⟩⟩ (fun r1 h1 w1 => ?_)
    obtain ⟨rfl, rfl⟩ := w1
    show Ru mX6_kingdoms none d 96 [.ref 10, .int x1, .int x2, .int x3, .int x4, .int x5, u6, u7, u8] [.int (am_at h (2 * x5)), .ref 11] h Z
    have hc3 := w.1
    replace w := w.2
    refine st_iald dX6_kingdoms_96 sh_11 hc3 ?_
    refine st_istore (L' := [.ref 10, .int x1, .int x2, .int x3, .int x4, .int x5, .int (h.2.2 11 (am_at h (2 * x5)).toNatClampNeg), u7, u8]) dX6_kingdoms_97 (by decide) rfl ?_
    refine st_aload_n dX6_kingdoms_99 rfl ?_
    refine st_getF (q := 11) fl_X6_11 fk_6_1 rfl dX6_kingdoms_100 sh_10 ?_
    refine st_aload_n dX6_kingdoms_103 rfl ?_
    refine st_getF (q := 1) fl_X6_27 fk_6_0 rfl dX6_kingdoms_104 sh_10 ?_
    refine st_iconst (v := 2) dX6_kingdoms_107 (by decide) ?_
    refine st_iload dX6_kingdoms_108 rfl ?_
    refine st_imul dX6_kingdoms_110 ?_
    refine st_iconst (v := 1) dX6_kingdoms_111 (by decide) ?_
    refine st_iadd dX6_kingdoms_112 ?_
    refine st_callV (M' := mX9_at) [.int ((2 * x5) + 1)] [.ref 11] dX6_kingdoms_113 ml_X6_74 mf_X9_at mv_X9_at sh_1 rfl rfl rfl (K := fun r h' => (am_at h ((2 * x5) + 1)) = r ∧ h = h') ⟨1, by omega, iX9_at ⟨rfl, rfl⟩⟩ (fun r1 h1 w1 => ?_)
    obtain ⟨rfl, rfl⟩ := w1
    show Ru mX6_kingdoms none d 116 [.ref 10, .int x1, .int x2, .int x3, .int x4, .int x5, .int (h.2.2 11 (am_at h (2 * x5)).toNatClampNeg), u7, u8] [.int (am_at h ((2 * x5) + 1)), .ref 11] h Z
    have hc4 := w.1
    replace w := w.2
    refine st_iald dX6_kingdoms_116 sh_11 hc4 ?_
    refine st_istore (L' := [.ref 10, .int x1, .int x2, .int x3, .int x4, .int x5, .int (h.2.2 11 (am_at h (2 * x5)).toNatClampNeg), .int (h.2.2 11 (am_at h ((2 * x5) + 1)).toNatClampNeg), u8]) dX6_kingdoms_117 (by decide) rfl ?_
    refine st_iload dX6_kingdoms_119 rfl ?_
    refine st_iload dX6_kingdoms_121 rfl ?_
    refine st_iload dX6_kingdoms_123 rfl ?_
    refine st_icmp_ne (tgt := 132) dX6_kingdoms_125 (by decide) (fun c => ?_) (fun c => ?_)
    · replace w := w.1 c
      refine st_iconst (v := 0) dX6_kingdoms_132 (by decide) ?_
      refine st_iadd dX6_kingdoms_133 ?_
      refine st_istore (L' := [.ref 10, .int x1, .int x2, .int x3, .int (x4 + 0), .int x5, .int (h.2.2 11 (am_at h (2 * x5)).toNatClampNeg), .int (h.2.2 11 (am_at h ((2 * x5) + 1)).toNatClampNeg), u8]) dX6_kingdoms_134 (by decide) rfl ?_
      refine st_iconst (v := 0) dX6_kingdoms_136 (by decide) ?_
      refine st_istore (L' := [.ref 10, .int x1, .int x2, .int x3, .int (x4 + 0), .int x5, .int (h.2.2 11 (am_at h (2 * x5)).toNatClampNeg), .int (h.2.2 11 (am_at h ((2 * x5) + 1)).toNatClampNeg), .int 0]) dX6_kingdoms_137 (by decide) rfl ?_
      exact w
    · replace w := w.2 c
      refine st_iconst (v := 1) dX6_kingdoms_128 (by decide) ?_
      refine st_goto (tgt := 133) dX6_kingdoms_129 (by decide) ?_
      refine st_iadd dX6_kingdoms_133 ?_
      refine st_istore (L' := [.ref 10, .int x1, .int x2, .int x3, .int (x4 + 1), .int x5, .int (h.2.2 11 (am_at h (2 * x5)).toNatClampNeg), .int (h.2.2 11 (am_at h ((2 * x5) + 1)).toNatClampNeg), u8]) dX6_kingdoms_134 (by decide) rfl ?_
      refine st_iconst (v := 0) dX6_kingdoms_136 (by decide) ?_
      refine st_istore (L' := [.ref 10, .int x1, .int x2, .int x3, .int (x4 + 1), .int x5, .int (h.2.2 11 (am_at h (2 * x5)).toNatClampNeg), .int (h.2.2 11 (am_at h ((2 * x5) + 1)).toNatClampNeg), .int 0]) dX6_kingdoms_137 (by decide) rfl ?_
      exact w
set_option maxRecDepth 20000 in
set_option maxHeartbeats 2000000 in
theorem sX6_kingdoms_139 {d : Nat} {h : am_H} {Z : Int32 → am_H → Prop} {x1 : Int32} {x2 : Int32} {x3 : Int32} {x4 : Int32} {x5 : Int32} {x6 : Int32} {x7 : Int32} {x8 : Int32} (w : (x1 ≤ x8 → Ru mX6_kingdoms none d 75 [.ref 10, .int x1, .int x2, .int x3, .int x4, .int (x5 + 1), .int x6, .int x7, .int x8] [] h Z) ∧ (¬ (x1 ≤ x8) → (vp_in x8 24 ∧ ((¬ (h.2.2 11 x8.toNatClampNeg) = x7 → (∀ h2 : am_H, h2 = am_sR h 11 (upd (h.2.2 11) x8.toNatClampNeg (h.2.2 11 x8.toNatClampNeg)) → (Ru mX6_kingdoms none d 139 [.ref 10, .int x1, .int x2, .int x3, .int x4, .int x5, .int x6, .int x7, .int (x8 + 1)] [] h2 Z))) ∧ ((h.2.2 11 x8.toNatClampNeg) = x7 → (∀ h3 : am_H, h3 = am_sR h 11 (upd (h.2.2 11) x8.toNatClampNeg x6) → (Ru mX6_kingdoms none d 139 [.ref 10, .int x1, .int x2, .int x3, .int x4, .int x5, .int x6, .int x7, .int (x8 + 1)] [] h3 Z))))))) : Ru mX6_kingdoms none d 139 [.ref 10, .int x1, .int x2, .int x3, .int x4, .int x5, .int x6, .int x7, .int x8] [] h Z := by
  refine st_iload dX6_kingdoms_139 rfl ?_
  refine st_iload_n dX6_kingdoms_141 rfl ?_
  refine st_icmp_ge (tgt := 182) dX6_kingdoms_142 (by decide) (fun c => ?_) (fun c => ?_)
  · replace w := w.1 c
    refine st_iinc (L' := [.ref 10, .int x1, .int x2, .int x3, .int x4, .int (x5 + 1), .int x6, .int x7, .int x8]) dX6_kingdoms_182 rfl rfl (by decide) rfl ?_
    refine st_goto (tgt := 75) dX6_kingdoms_185 (by decide) ?_
    exact w
  · replace w := w.2 c
    refine st_aload_n dX6_kingdoms_145 rfl ?_
    refine st_getF (q := 11) fl_X6_11 fk_6_1 rfl dX6_kingdoms_146 sh_10 ?_
    refine st_iload dX6_kingdoms_149 rfl ?_
    refine st_aload_n dX6_kingdoms_151 rfl ?_
    refine st_getF (q := 11) fl_X6_11 fk_6_1 rfl dX6_kingdoms_152 sh_10 ?_
    refine st_iload dX6_kingdoms_155 rfl ?_
    have hc1 := w.1
    replace w := w.2
    refine st_iald dX6_kingdoms_157 sh_11 hc1 ?_
    refine st_iload dX6_kingdoms_158 rfl ?_
    refine st_icmp_ne (tgt := 168) dX6_kingdoms_160 (by decide) (fun c => ?_) (fun c => ?_)
    · replace w := w.1 c
      refine st_aload_n dX6_kingdoms_168 rfl ?_
      refine st_getF (q := 11) fl_X6_11 fk_6_1 rfl dX6_kingdoms_169 sh_10 ?_
      refine st_iload dX6_kingdoms_172 rfl ?_
      refine st_iald dX6_kingdoms_174 sh_11 hc1 ?_
      refine st_iast dX6_kingdoms_175 sh_11 hc1 (fun h2 eh2 => ?_)
      replace w := w h2 eh2
      refine st_iinc (L' := [.ref 10, .int x1, .int x2, .int x3, .int x4, .int x5, .int x6, .int x7, .int (x8 + 1)]) dX6_kingdoms_176 rfl rfl (by decide) rfl ?_
      refine st_goto (tgt := 139) dX6_kingdoms_179 (by decide) ?_
      exact w
    · replace w := w.2 c
      refine st_iload dX6_kingdoms_163 rfl ?_
      refine st_goto (tgt := 175) dX6_kingdoms_165 (by decide) ?_
      refine st_iast dX6_kingdoms_175 sh_11 hc1 (fun h3 eh3 => ?_)
      replace w := w h3 eh3
      refine st_iinc (L' := [.ref 10, .int x1, .int x2, .int x3, .int x4, .int x5, .int x6, .int x7, .int (x8 + 1)]) dX6_kingdoms_176 rfl rfl (by decide) rfl ?_
      refine st_goto (tgt := 139) dX6_kingdoms_179 (by decide) ?_
      exact w
set_option maxRecDepth 20000 in
set_option maxHeartbeats 2000000 in
theorem sX10_unions_0 {d : Nat} {h : am_H} {Z : Int32 → am_H → Prop} {x1 : Int32} {x2 : Int32} {x3 : Int32} (hd : 2 ≤ d) (w : (¬ ((2 : Int32) ≤ x1 ∧ x1 ≤ (16 : Int32)) → Ru mX10_unions none d 33 [.ref 0, .int x1, .int x2, .int x3, .null, .null] [] h Z) ∧ ((2 : Int32) ≤ x1 ∧ x1 ≤ (16 : Int32) → (¬ ((1 : Int32) ≤ x2 ∧ x2 ≤ (20 : Int32)) → Ru mX10_unions none d 33 [.ref 0, .int x1, .int x2, .int x3, .null, .null] [] h Z) ∧ ((1 : Int32) ≤ x2 ∧ x2 ≤ (20 : Int32) → (¬ ((0 : Int32) ≤ x3 ∧ x3 ≤ (2 : Int32)) → Ru mX10_unions none d 33 [.ref 0, .int x1, .int x2, .int x3, .null, .null] [] h Z) ∧ ((0 : Int32) ≤ x3 ∧ x3 ≤ (2 : Int32) → Ru mX10_unions none d 34 [.ref 0, .int x1, .int x2, .int x3, .null, .null] [.int 1] h Z)))) : Ru mX10_unions none d 0 [.ref 0, .int x1, .int x2, .int x3, .null, .null] [] h Z := by
  refine st_iload_n dX10_unions_0 rfl ?_
  refine st_iconst (v := 2) dX10_unions_1 (by decide) ?_
  refine st_bipush (v := 16) dX10_unions_2 (by decide) ?_
  refine st_callS (M' := mX10_isFromTo) [.int x1, .int 2, .int 16] [] dX10_unions_4 ml_X10_135 mf_X10_isFromTo ms_X10_isFromTo rfl rfl rfl (K := fun r h' => (am_b ((2 : Int32) ≤ x1 ∧ x1 ≤ (16 : Int32))) = r ∧ h = h') ⟨1, by omega, iX10_isFromTo ⟨rfl, rfl⟩⟩ (fun r1 h1 w1 => ?_)
  obtain ⟨rfl, rfl⟩ := w1
  show Ru mX10_unions none d 7 [.ref 0, .int x1, .int x2, .int x3, .null, .null] [.int (am_b ((2 : Int32) ≤ x1 ∧ x1 ≤ (16 : Int32)))] h Z
  refine st_ifb_eq (tgt := 33) dX10_unions_7 (by decide) (fun c => ?_) (fun c => ?_)
  · replace w := w.1 c
    exact w
  · replace w := w.2 c
    refine st_iload_n dX10_unions_10 rfl ?_
    refine st_iconst (v := 1) dX10_unions_11 (by decide) ?_
    refine st_bipush (v := 20) dX10_unions_12 (by decide) ?_
    refine st_callS (M' := mX10_isFromTo) [.int x2, .int 1, .int 20] [] dX10_unions_14 ml_X10_135 mf_X10_isFromTo ms_X10_isFromTo rfl rfl rfl (K := fun r h' => (am_b ((1 : Int32) ≤ x2 ∧ x2 ≤ (20 : Int32))) = r ∧ h = h') ⟨1, by omega, iX10_isFromTo ⟨rfl, rfl⟩⟩ (fun r1 h1 w1 => ?_)
    obtain ⟨rfl, rfl⟩ := w1
    show Ru mX10_unions none d 17 [.ref 0, .int x1, .int x2, .int x3, .null, .null] [.int (am_b ((1 : Int32) ≤ x2 ∧ x2 ≤ (20 : Int32)))] h Z
    refine st_ifb_eq (tgt := 33) dX10_unions_17 (by decide) (fun c => ?_) (fun c => ?_)
    · replace w := w.1 c
      exact w
    · replace w := w.2 c
      refine st_iload_n dX10_unions_20 rfl ?_
      refine st_iconst (v := 0) dX10_unions_21 (by decide) ?_
      refine st_iconst (v := 2) dX10_unions_22 (by decide) ?_
      refine st_callS (M' := mX10_isFromTo) [.int x3, .int 0, .int 2] [] dX10_unions_23 ml_X10_135 mf_X10_isFromTo ms_X10_isFromTo rfl rfl rfl (K := fun r h' => (am_b ((0 : Int32) ≤ x3 ∧ x3 ≤ (2 : Int32))) = r ∧ h = h') ⟨1, by omega, iX10_isFromTo ⟨rfl, rfl⟩⟩ (fun r1 h1 w1 => ?_)
      obtain ⟨rfl, rfl⟩ := w1
      show Ru mX10_unions none d 26 [.ref 0, .int x1, .int x2, .int x3, .null, .null] [.int (am_b ((0 : Int32) ≤ x3 ∧ x3 ≤ (2 : Int32)))] h Z
      refine st_ifb_eq (tgt := 33) dX10_unions_26 (by decide) (fun c => ?_) (fun c => ?_)
      · replace w := w.1 c
        exact w
      · replace w := w.2 c
        refine st_iconst (v := 1) dX10_unions_29 (by decide) ?_
        refine st_goto (tgt := 34) dX10_unions_30 (by decide) ?_
        exact w
set_option maxRecDepth 20000 in
set_option maxHeartbeats 2000000 in
theorem sX10_unions_33 {d : Nat} {h : am_H} {Z : Int32 → am_H → Prop} {x1 : Int32} {x2 : Int32} {x3 : Int32} {u4 : Value} {u5 : Value} (w : Ru mX10_unions none d 34 [.ref 0, .int x1, .int x2, .int x3, u4, u5] [.int 0] h Z) : Ru mX10_unions none d 33 [.ref 0, .int x1, .int x2, .int x3, u4, u5] [] h Z := by
  refine st_iconst (v := 0) dX10_unions_33 (by decide) ?_
  exact w
set_option maxRecDepth 20000 in
set_option maxHeartbeats 2000000 in
theorem sX10_unions_34 {d : Nat} {h : am_H} {Z : Int32 → am_H → Prop} {x1 : Int32} {x2 : Int32} {x3 : Int32} {u4 : Value} {u5 : Value} {s0 : Int32} (hd : 2 ≤ d) (w : (s0 = 0 → Z (-1) h) ∧ (¬ (s0 = 0) → ((2 * x2) ≤ h.1 1 1 → am_cl mX6_kingdoms d [.ref 10, .int x1, .int x2, .int x3] h (fun r1 h2 => Z r1 (am_sI h2 1 1 0))) ∧ (¬ ((2 * x2) ≤ h.1 1 1) → Z (-1) h))) : Ru mX10_unions none d 34 [.ref 0, .int x1, .int x2, .int x3, u4, u5] [.int s0] h Z := by
  refine st_istore (L' := [.ref 0, .int x1, .int x2, .int x3, .int s0, u5]) dX10_unions_34 (by decide) rfl ?_
  refine st_iload dX10_unions_36 rfl ?_
  refine st_if_eq (tgt := 54) dX10_unions_38 (by decide) (fun c => ?_) (fun c => ?_)
  · replace w := w.1 c
    refine st_iconst (v := (-1)) dX10_unions_54 (by decide) ?_
    exact st_ireturn rfl rfl dX10_unions_55 w
  · replace w := w.2 c
    refine st_aload_n dX10_unions_41 rfl ?_
    refine st_getF (q := 1) fl_X10_10 fk_10_0 rfl dX10_unions_42 sh_0 ?_
    refine st_iconst (v := 2) dX10_unions_45 (by decide) ?_
    refine st_iload_n dX10_unions_46 rfl ?_
    refine st_imul dX10_unions_47 ?_
    refine st_callV (M' := mX9_holds) [.int (2 * x2)] [] dX10_unions_48 ml_X10_139 mf_X9_holds mv_X9_holds sh_1 rfl rfl rfl (K := fun r h' => (am_b ((2 * x2) ≤ h.1 1 1)) = r ∧ h = h') ⟨1, by omega, iX9_holds ⟨rfl, rfl⟩⟩ (fun r1 h1 w1 => ?_)
    obtain ⟨rfl, rfl⟩ := w1
    show Ru mX10_unions none d 51 [.ref 0, .int x1, .int x2, .int x3, .int s0, u5] [.int (am_b ((2 * x2) ≤ h.1 1 1))] h Z
    refine st_ifb_ne (tgt := 56) dX10_unions_51 (by decide) (fun c => ?_) (fun c => ?_)
    · replace w := w.1 c
      refine st_aload_n dX10_unions_56 rfl ?_
      refine st_getF (q := 10) fl_X10_51 fk_10_6 rfl dX10_unions_57 sh_0 ?_
      refine st_iload_n dX10_unions_60 rfl ?_
      refine st_iload_n dX10_unions_61 rfl ?_
      refine st_iload_n dX10_unions_62 rfl ?_
      refine st_callV (M' := mX6_kingdoms) [.int x1, .int x2, .int x3] [] dX10_unions_63 ml_X10_247 mf_X6_kingdoms mv_X6_kingdoms sh_10 rfl rfl rfl w (fun r1 h2 w => ?_)
      show Ru mX10_unions none d 66 [.ref 0, .int x1, .int x2, .int x3, .int s0, u5] [.int r1] h2 Z
      refine st_istore (L' := [.ref 0, .int x1, .int x2, .int x3, .int s0, .int r1]) dX10_unions_66 (by decide) rfl ?_
      refine st_aload_n dX10_unions_68 rfl ?_
      refine st_getF (q := 1) fl_X10_10 fk_10_0 rfl dX10_unions_69 sh_0 ?_
      refine st_callV (M' := mX9_clear) [] [] dX10_unions_72 ml_X10_146 mf_X9_clear mv_X9_clear sh_1 rfl rfl rfl (K := fun r h' => 0 = r ∧ am_sI h2 1 1 0 = h') ⟨1, by omega, iX9_clear ⟨rfl, rfl⟩⟩ (fun r1 h1 w1 => ?_)
      obtain ⟨rfl, rfl⟩ := w1
      show Ru mX10_unions none d 75 [.ref 0, .int x1, .int x2, .int x3, .int s0, .int r1] [] (am_sI h2 1 1 0) Z
      refine st_iload dX10_unions_75 rfl ?_
      exact st_ireturn rfl rfl dX10_unions_77 w
    · replace w := w.2 c
      refine st_iconst (v := (-1)) dX10_unions_54 (by decide) ?_
      exact st_ireturn rfl rfl dX10_unions_55 w
set_option maxRecDepth 20000 in
set_option maxHeartbeats 2000000 in
theorem sX11_piecesOf_0 {d : Nat} {h : am_H} {Z : Int32 → am_H → Prop} {x1 : Int32} {x2 : Int32} (w : Ru mX11_piecesOf none d 5 [.ref 73, .int x1, .int x2, .int 0, .int 0] [] h Z) : Ru mX11_piecesOf none d 0 [.ref 73, .int x1, .int x2, .null, .null] [] h Z := by
  refine st_iconst (v := 0) dX11_piecesOf_0 (by decide) ?_
  refine st_istore_n (L' := [.ref 73, .int x1, .int x2, .int 0, .null]) dX11_piecesOf_1 (by decide) rfl ?_
  refine st_iconst (v := 0) dX11_piecesOf_2 (by decide) ?_
  refine st_istore (L' := [.ref 73, .int x1, .int x2, .int 0, .int 0]) dX11_piecesOf_3 (by decide) rfl ?_
  exact w
set_option maxRecDepth 20000 in
set_option maxHeartbeats 2000000 in
theorem sX11_piecesOf_5 {d : Nat} {h : am_H} {Z : Int32 → am_H → Prop} {x1 : Int32} {x2 : Int32} {x3 : Int32} {x4 : Int32} (w : (x2 ≤ x4 → Z x3 h) ∧ (¬ (x2 ≤ x4) → (vp_in x4 16 ∧ ((¬ (h.2.2 110 x4.toNatClampNeg) = x1 → Ru mX11_piecesOf none d 5 [.ref 73, .int x1, .int x2, .int x3, .int (x4 + 1)] [] h Z) ∧ ((h.2.2 110 x4.toNatClampNeg) = x1 → Ru mX11_piecesOf none d 5 [.ref 73, .int x1, .int x2, .int (x3 + 1), .int (x4 + 1)] [] h Z))))) : Ru mX11_piecesOf none d 5 [.ref 73, .int x1, .int x2, .int x3, .int x4] [] h Z := by
  refine st_iload dX11_piecesOf_5 rfl ?_
  refine st_iload_n dX11_piecesOf_7 rfl ?_
  refine st_icmp_ge (tgt := 32) dX11_piecesOf_8 (by decide) (fun c => ?_) (fun c => ?_)
  · replace w := w.1 c
    refine st_iload_n dX11_piecesOf_32 rfl ?_
    exact st_ireturn rfl rfl dX11_piecesOf_33 w
  · replace w := w.2 c
    refine st_aload_n dX11_piecesOf_11 rfl ?_
    refine st_getF (q := 110) fl_X11_119 fk_11_58 rfl dX11_piecesOf_12 sh_73 ?_
    refine st_iload dX11_piecesOf_15 rfl ?_
    have hc1 := w.1
    replace w := w.2
    refine st_iald dX11_piecesOf_17 sh_110 hc1 ?_
    refine st_iload_n dX11_piecesOf_18 rfl ?_
    refine st_icmp_ne (tgt := 26) dX11_piecesOf_19 (by decide) (fun c => ?_) (fun c => ?_)
    · replace w := w.1 c
      refine st_iinc (L' := [.ref 73, .int x1, .int x2, .int x3, .int (x4 + 1)]) dX11_piecesOf_26 rfl rfl (by decide) rfl ?_
      refine st_goto (tgt := 5) dX11_piecesOf_29 (by decide) ?_
      exact w
    · replace w := w.2 c
      refine st_iload_n dX11_piecesOf_22 rfl ?_
      refine st_iconst (v := 1) dX11_piecesOf_23 (by decide) ?_
      refine st_iadd dX11_piecesOf_24 ?_
      refine st_istore_n (L' := [.ref 73, .int x1, .int x2, .int (x3 + 1), .int x4]) dX11_piecesOf_25 (by decide) rfl ?_
      refine st_iinc (L' := [.ref 73, .int x1, .int x2, .int (x3 + 1), .int (x4 + 1)]) dX11_piecesOf_26 rfl rfl (by decide) rfl ?_
      refine st_goto (tgt := 5) dX11_piecesOf_29 (by decide) ?_
      exact w
set_option maxRecDepth 20000 in
set_option maxHeartbeats 2000000 in
theorem sX11_unions_0 {d : Nat} {h : am_H} {Z : Int32 → am_H → Prop} {x1 : Int32} {x2 : Int32} {x3 : Int32} (hd : 2 ≤ d) (w : (¬ ((2 : Int32) ≤ x1 ∧ x1 ≤ (16 : Int32)) → Z (-1) h) ∧ ((2 : Int32) ≤ x1 ∧ x1 ≤ (16 : Int32) → (¬ ((1 : Int32) ≤ x2 ∧ x2 ≤ (20 : Int32)) → Z (-1) h) ∧ ((1 : Int32) ≤ x2 ∧ x2 ≤ (20 : Int32) → (¬ ((0 : Int32) ≤ x3 ∧ x3 ≤ (2 : Int32)) → Z (-1) h) ∧ ((0 : Int32) ≤ x3 ∧ x3 ≤ (2 : Int32) → ((2 * x2) ≤ (h.1 73 9) → (∀ h1 : am_H, h1 = am_sI h 73 9 0 → (Ru mX11_unions none d 55 [.ref 73, .int x1, .int x2, .int x3, .int x1, .int 0, .int 0, .null, .null, .null] [] h1 Z))) ∧ (¬ ((2 * x2) ≤ (h.1 73 9)) → Z (-1) h))))) : Ru mX11_unions none d 0 [.ref 73, .int x1, .int x2, .int x3, .null, .null, .null, .null, .null, .null] [] h Z := by
  refine st_iload_n dX11_unions_0 rfl ?_
  refine st_iconst (v := 2) dX11_unions_1 (by decide) ?_
  refine st_bipush (v := 16) dX11_unions_2 (by decide) ?_
  refine st_callS (M' := mX11_in) [.int x1, .int 2, .int 16] [] dX11_unions_4 ml_X11_125 mf_X11_in ms_X11_in rfl rfl rfl (K := fun r h' => (am_b ((2 : Int32) ≤ x1 ∧ x1 ≤ (16 : Int32))) = r ∧ h = h') ⟨1, by omega, iX11_in ⟨rfl, rfl⟩⟩ (fun r1 h1 w1 => ?_)
  obtain ⟨rfl, rfl⟩ := w1
  show Ru mX11_unions none d 7 [.ref 73, .int x1, .int x2, .int x3, .null, .null, .null, .null, .null, .null] [.int (am_b ((2 : Int32) ≤ x1 ∧ x1 ≤ (16 : Int32)))] h Z
  refine st_ifb_eq (tgt := 39) dX11_unions_7 (by decide) (fun c => ?_) (fun c => ?_)
  · replace w := w.1 c
    refine st_iconst (v := (-1)) dX11_unions_39 (by decide) ?_
    exact st_ireturn rfl rfl dX11_unions_40 w
  · replace w := w.2 c
    refine st_iload_n dX11_unions_10 rfl ?_
    refine st_iconst (v := 1) dX11_unions_11 (by decide) ?_
    refine st_bipush (v := 20) dX11_unions_12 (by decide) ?_
    refine st_callS (M' := mX11_in) [.int x2, .int 1, .int 20] [] dX11_unions_14 ml_X11_125 mf_X11_in ms_X11_in rfl rfl rfl (K := fun r h' => (am_b ((1 : Int32) ≤ x2 ∧ x2 ≤ (20 : Int32))) = r ∧ h = h') ⟨1, by omega, iX11_in ⟨rfl, rfl⟩⟩ (fun r1 h1 w1 => ?_)
    obtain ⟨rfl, rfl⟩ := w1
    show Ru mX11_unions none d 17 [.ref 73, .int x1, .int x2, .int x3, .null, .null, .null, .null, .null, .null] [.int (am_b ((1 : Int32) ≤ x2 ∧ x2 ≤ (20 : Int32)))] h Z
    refine st_ifb_eq (tgt := 39) dX11_unions_17 (by decide) (fun c => ?_) (fun c => ?_)
    · replace w := w.1 c
      refine st_iconst (v := (-1)) dX11_unions_39 (by decide) ?_
      exact st_ireturn rfl rfl dX11_unions_40 w
    · replace w := w.2 c
      refine st_iload_n dX11_unions_20 rfl ?_
      refine st_iconst (v := 0) dX11_unions_21 (by decide) ?_
      refine st_iconst (v := 2) dX11_unions_22 (by decide) ?_
      refine st_callS (M' := mX11_in) [.int x3, .int 0, .int 2] [] dX11_unions_23 ml_X11_125 mf_X11_in ms_X11_in rfl rfl rfl (K := fun r h' => (am_b ((0 : Int32) ≤ x3 ∧ x3 ≤ (2 : Int32))) = r ∧ h = h') ⟨1, by omega, iX11_in ⟨rfl, rfl⟩⟩ (fun r1 h1 w1 => ?_)
      obtain ⟨rfl, rfl⟩ := w1
      show Ru mX11_unions none d 26 [.ref 73, .int x1, .int x2, .int x3, .null, .null, .null, .null, .null, .null] [.int (am_b ((0 : Int32) ≤ x3 ∧ x3 ≤ (2 : Int32)))] h Z
      refine st_ifb_eq (tgt := 39) dX11_unions_26 (by decide) (fun c => ?_) (fun c => ?_)
      · replace w := w.1 c
        refine st_iconst (v := (-1)) dX11_unions_39 (by decide) ?_
        exact st_ireturn rfl rfl dX11_unions_40 w
      · replace w := w.2 c
        refine st_iconst (v := 2) dX11_unions_29 (by decide) ?_
        refine st_iload_n dX11_unions_30 rfl ?_
        refine st_imul dX11_unions_31 ?_
        refine st_aload_n dX11_unions_32 rfl ?_
        refine st_getI fl_X11_158 fk_11_9 dX11_unions_33 sh_73 ?_
        refine st_icmp_le (tgt := 41) dX11_unions_36 (by decide) (fun c => ?_) (fun c => ?_)
        · replace w := w.1 c
          refine st_aload_n dX11_unions_41 rfl ?_
          refine st_iconst (v := 0) dX11_unions_42 (by decide) ?_
          refine st_putI flp_X11_158 fk_11_9 dX11_unions_43 sh_73 (fun h1 eh1 => ?_)
          replace w := w h1 eh1
          refine st_iload_n dX11_unions_46 rfl ?_
          refine st_istore (L' := [.ref 73, .int x1, .int x2, .int x3, .int x1, .null, .null, .null, .null, .null]) dX11_unions_47 (by decide) rfl ?_
          refine st_iconst (v := 0) dX11_unions_49 (by decide) ?_
          refine st_istore (L' := [.ref 73, .int x1, .int x2, .int x3, .int x1, .int 0, .null, .null, .null, .null]) dX11_unions_50 (by decide) rfl ?_
          refine st_iconst (v := 0) dX11_unions_52 (by decide) ?_
          refine st_istore (L' := [.ref 73, .int x1, .int x2, .int x3, .int x1, .int 0, .int 0, .null, .null, .null]) dX11_unions_53 (by decide) rfl ?_
          exact w
        · replace w := w.2 c
          refine st_iconst (v := (-1)) dX11_unions_39 (by decide) ?_
          exact st_ireturn rfl rfl dX11_unions_40 w
set_option maxRecDepth 20000 in
set_option maxHeartbeats 2000000 in
theorem sX11_unions_55 {d : Nat} {h : am_H} {Z : Int32 → am_H → Prop} {x1 : Int32} {x2 : Int32} {x3 : Int32} {x4 : Int32} {x5 : Int32} {x6 : Int32} {u7 : Value} {u8 : Value} {u9 : Value} (w : (x1 ≤ x6 → Ru mX11_unions none d 79 [.ref 73, .int x1, .int x2, .int x3, .int x4, .int x5, .int 0, u7, u8, u9] [] h Z) ∧ (¬ (x1 ≤ x6) → (vp_in x6 16 ∧ (∀ h2 : am_H, h2 = am_sR h 110 (upd (h.2.2 110) x6.toNatClampNeg x6) → (Ru mX11_unions none d 55 [.ref 73, .int x1, .int x2, .int x3, .int x4, .int x5, .int (x6 + 1), u7, u8, u9] [] h2 Z))))) : Ru mX11_unions none d 55 [.ref 73, .int x1, .int x2, .int x3, .int x4, .int x5, .int x6, u7, u8, u9] [] h Z := by
  refine st_iload dX11_unions_55 rfl ?_
  refine st_iload_n dX11_unions_57 rfl ?_
  refine st_icmp_ge (tgt := 76) dX11_unions_58 (by decide) (fun c => ?_) (fun c => ?_)
  · replace w := w.1 c
    refine st_iconst (v := 0) dX11_unions_76 (by decide) ?_
    refine st_istore (L' := [.ref 73, .int x1, .int x2, .int x3, .int x4, .int x5, .int 0, u7, u8, u9]) dX11_unions_77 (by decide) rfl ?_
    exact w
  · replace w := w.2 c
    refine st_aload_n dX11_unions_61 rfl ?_
    refine st_getF (q := 110) fl_X11_119 fk_11_58 rfl dX11_unions_62 sh_73 ?_
    refine st_iload dX11_unions_65 rfl ?_
    refine st_iload dX11_unions_67 rfl ?_
    have hc1 := w.1
    replace w := w.2
    refine st_iast dX11_unions_69 sh_110 hc1 (fun h2 eh2 => ?_)
    replace w := w h2 eh2
    refine st_iinc (L' := [.ref 73, .int x1, .int x2, .int x3, .int x4, .int x5, .int (x6 + 1), u7, u8, u9]) dX11_unions_70 rfl rfl (by decide) rfl ?_
    refine st_goto (tgt := 55) dX11_unions_73 (by decide) ?_
    exact w
set_option maxRecDepth 20000 in
set_option maxHeartbeats 2000000 in
theorem sX11_unions_79 {d : Nat} {h : am_H} {Z : Int32 → am_H → Prop} {x1 : Int32} {x2 : Int32} {x3 : Int32} {x4 : Int32} {x5 : Int32} {x6 : Int32} {u7 : Value} {u8 : Value} {u9 : Value} (hd : 2 ≤ d) (w : (x2 ≤ x6 → Ru mX11_unions none d 216 [.ref 73, .int x1, .int x2, .int x3, .int x4, .int x5, .int 0, .int 0, u8, u9] [] h Z) ∧ (¬ (x2 ≤ x6) → (vp_in (2 * x6) 260 ∧ ((x1 ≤ (h.2.2 80 (2 * x6).toNatClampNeg &&& 255) → Z (-3) h) ∧ (¬ (x1 ≤ (h.2.2 80 (2 * x6).toNatClampNeg &&& 255)) → (vp_in ((2 * x6) + 1) 260 ∧ (((h.2.2 80 ((2 * x6) + 1).toNatClampNeg &&& 255) < x1 → (vp_in (h.2.2 80 (2 * x6).toNatClampNeg &&& 255) 16 ∧ (vp_in (h.2.2 80 ((2 * x6) + 1).toNatClampNeg &&& 255) 16 ∧ ((¬ (h.2.2 110 (h.2.2 80 (2 * x6).toNatClampNeg &&& 255).toNatClampNeg) = (h.2.2 110 (h.2.2 80 ((2 * x6) + 1).toNatClampNeg &&& 255).toNatClampNeg) → Ru mX11_unions none d 171 [.ref 73, .int x1, .int x2, .int x3, .int (x4 - 1), .int x5, .int x6, .int (h.2.2 110 (h.2.2 80 (2 * x6).toNatClampNeg &&& 255).toNatClampNeg), .int (h.2.2 110 (h.2.2 80 ((2 * x6) + 1).toNatClampNeg &&& 255).toNatClampNeg), .int 0] [] h Z) ∧ ((h.2.2 110 (h.2.2 80 (2 * x6).toNatClampNeg &&& 255).toNatClampNeg) = (h.2.2 110 (h.2.2 80 ((2 * x6) + 1).toNatClampNeg &&& 255).toNatClampNeg) → Ru mX11_unions none d 171 [.ref 73, .int x1, .int x2, .int x3, .int x4, .int (x5 + 1), .int x6, .int (h.2.2 110 (h.2.2 80 (2 * x6).toNatClampNeg &&& 255).toNatClampNeg), .int (h.2.2 110 (h.2.2 80 ((2 * x6) + 1).toNatClampNeg &&& 255).toNatClampNeg), .int 0] [] h Z))))) ∧ (¬ ((h.2.2 80 ((2 * x6) + 1).toNatClampNeg &&& 255) < x1) → Z (-3) h)))))))) : Ru mX11_unions none d 79 [.ref 73, .int x1, .int x2, .int x3, .int x4, .int x5, .int x6, u7, u8, u9] [] h Z := by
  refine st_iload dX11_unions_79 rfl ?_
  refine st_iload_n dX11_unions_81 rfl ?_
  refine st_icmp_ge (tgt := 210) dX11_unions_82 (by decide) (fun c => ?_) (fun c => ?_)
  · replace w := w.1 c
    refine st_iconst (v := 0) dX11_unions_210 (by decide) ?_
    refine st_istore (L' := [.ref 73, .int x1, .int x2, .int x3, .int x4, .int x5, .int 0, u7, u8, u9]) dX11_unions_211 (by decide) rfl ?_
    refine st_iconst (v := 0) dX11_unions_213 (by decide) ?_
    refine st_istore (L' := [.ref 73, .int x1, .int x2, .int x3, .int x4, .int x5, .int 0, .int 0, u8, u9]) dX11_unions_214 (by decide) rfl ?_
    exact w
  · replace w := w.2 c
    refine st_aload_n dX11_unions_85 rfl ?_
    refine st_iconst (v := 2) dX11_unions_86 (by decide) ?_
    refine st_iload dX11_unions_87 rfl ?_
    refine st_imul dX11_unions_89 ?_
    have hc1 := w.1
    replace w := w.2
    refine st_callV (M' := mX11_octet) [.int (2 * x6)] [] dX11_unions_90 ml_X11_388 mf_X11_octet mv_X11_octet sh_73 rfl rfl rfl (K := fun r h' => (h.2.2 80 (2 * x6).toNatClampNeg &&& 255) = r ∧ h = h') ⟨1, by omega, iX11_octet hc1 ⟨rfl, rfl⟩⟩ (fun r1 h1 w1 => ?_)
    obtain ⟨rfl, rfl⟩ := w1
    show Ru mX11_unions none d 93 [.ref 73, .int x1, .int x2, .int x3, .int x4, .int x5, .int x6, u7, u8, u9] [.int (h.2.2 80 (2 * x6).toNatClampNeg &&& 255)] h Z
    refine st_iload_n dX11_unions_93 rfl ?_
    refine st_icmp_ge (tgt := 111) dX11_unions_94 (by decide) (fun c => ?_) (fun c => ?_)
    · replace w := w.1 c
      refine st_bipush (v := (-3)) dX11_unions_111 (by decide) ?_
      exact st_ireturn rfl rfl dX11_unions_113 w
    · replace w := w.2 c
      refine st_aload_n dX11_unions_97 rfl ?_
      refine st_iconst (v := 2) dX11_unions_98 (by decide) ?_
      refine st_iload dX11_unions_99 rfl ?_
      refine st_imul dX11_unions_101 ?_
      refine st_iconst (v := 1) dX11_unions_102 (by decide) ?_
      refine st_iadd dX11_unions_103 ?_
      have hc2 := w.1
      replace w := w.2
      refine st_callV (M' := mX11_octet) [.int ((2 * x6) + 1)] [] dX11_unions_104 ml_X11_388 mf_X11_octet mv_X11_octet sh_73 rfl rfl rfl (K := fun r h' => (h.2.2 80 ((2 * x6) + 1).toNatClampNeg &&& 255) = r ∧ h = h') ⟨1, by omega, iX11_octet hc2 ⟨rfl, rfl⟩⟩ (fun r1 h1 w1 => ?_)
      obtain ⟨rfl, rfl⟩ := w1
      show Ru mX11_unions none d 107 [.ref 73, .int x1, .int x2, .int x3, .int x4, .int x5, .int x6, u7, u8, u9] [.int (h.2.2 80 ((2 * x6) + 1).toNatClampNeg &&& 255)] h Z
      refine st_iload_n dX11_unions_107 rfl ?_
      refine st_icmp_lt (tgt := 114) dX11_unions_108 (by decide) (fun c => ?_) (fun c => ?_)
      · replace w := w.1 c
        refine st_aload_n dX11_unions_114 rfl ?_
        refine st_getF (q := 110) fl_X11_119 fk_11_58 rfl dX11_unions_115 sh_73 ?_
        refine st_aload_n dX11_unions_118 rfl ?_
        refine st_iconst (v := 2) dX11_unions_119 (by decide) ?_
        refine st_iload dX11_unions_120 rfl ?_
        refine st_imul dX11_unions_122 ?_
        refine st_callV (M' := mX11_octet) [.int (2 * x6)] [.ref 110] dX11_unions_123 ml_X11_388 mf_X11_octet mv_X11_octet sh_73 rfl rfl rfl (K := fun r h' => (h.2.2 80 (2 * x6).toNatClampNeg &&& 255) = r ∧ h = h') ⟨1, by omega, iX11_octet hc1 ⟨rfl, rfl⟩⟩ (fun r1 h1 w1 => ?_)
        obtain ⟨rfl, rfl⟩ := w1
        show Ru mX11_unions none d 126 [.ref 73, .int x1, .int x2, .int x3, .int x4, .int x5, .int x6, u7, u8, u9] [.int (h.2.2 80 (2 * x6).toNatClampNeg &&& 255), .ref 110] h Z
        have hc3 := w.1
        replace w := w.2
        refine st_iald dX11_unions_126 sh_110 hc3 ?_
        refine st_istore (L' := [.ref 73, .int x1, .int x2, .int x3, .int x4, .int x5, .int x6, .int (h.2.2 110 (h.2.2 80 (2 * x6).toNatClampNeg &&& 255).toNatClampNeg), u8, u9]) dX11_unions_127 (by decide) rfl ?_
        refine st_aload_n dX11_unions_129 rfl ?_
        refine st_getF (q := 110) fl_X11_119 fk_11_58 rfl dX11_unions_130 sh_73 ?_
        refine st_aload_n dX11_unions_133 rfl ?_
        refine st_iconst (v := 2) dX11_unions_134 (by decide) ?_
        refine st_iload dX11_unions_135 rfl ?_
        refine st_imul dX11_unions_137 ?_
        refine st_iconst (v := 1) dX11_unions_138 (by decide) ?_
        refine st_iadd dX11_unions_139 ?_
        refine st_callV (M' := mX11_octet) [.int ((2 * x6) + 1)] [.ref 110] dX11_unions_140 ml_X11_388 mf_X11_octet mv_X11_octet sh_73 rfl rfl rfl (K := fun r h' => (h.2.2 80 ((2 * x6) + 1).toNatClampNeg &&& 255) = r ∧ h = h') ⟨1, by omega, iX11_octet hc2 ⟨rfl, rfl⟩⟩ (fun r1 h1 w1 => ?_)
        obtain ⟨rfl, rfl⟩ := w1
        show Ru mX11_unions none d 143 [.ref 73, .int x1, .int x2, .int x3, .int x4, .int x5, .int x6, .int (h.2.2 110 (h.2.2 80 (2 * x6).toNatClampNeg &&& 255).toNatClampNeg), u8, u9] [.int (h.2.2 80 ((2 * x6) + 1).toNatClampNeg &&& 255), .ref 110] h Z
        have hc4 := w.1
        replace w := w.2
        refine st_iald dX11_unions_143 sh_110 hc4 ?_
        refine st_istore (L' := [.ref 73, .int x1, .int x2, .int x3, .int x4, .int x5, .int x6, .int (h.2.2 110 (h.2.2 80 (2 * x6).toNatClampNeg &&& 255).toNatClampNeg), .int (h.2.2 110 (h.2.2 80 ((2 * x6) + 1).toNatClampNeg &&& 255).toNatClampNeg), u9]) dX11_unions_144 (by decide) rfl ?_
        refine st_iload dX11_unions_146 rfl ?_
        refine st_iload dX11_unions_148 rfl ?_
        refine st_icmp_ne (tgt := 162) dX11_unions_150 (by decide) (fun c => ?_) (fun c => ?_)
        · replace w := w.1 c
          refine st_iload dX11_unions_162 rfl ?_
          refine st_iconst (v := 1) dX11_unions_164 (by decide) ?_
          refine st_isub dX11_unions_165 ?_
          refine st_istore (L' := [.ref 73, .int x1, .int x2, .int x3, .int (x4 - 1), .int x5, .int x6, .int (h.2.2 110 (h.2.2 80 (2 * x6).toNatClampNeg &&& 255).toNatClampNeg), .int (h.2.2 110 (h.2.2 80 ((2 * x6) + 1).toNatClampNeg &&& 255).toNatClampNeg), u9]) dX11_unions_166 (by decide) rfl ?_
          refine st_iconst (v := 0) dX11_unions_168 (by decide) ?_
          refine st_istore (L' := [.ref 73, .int x1, .int x2, .int x3, .int (x4 - 1), .int x5, .int x6, .int (h.2.2 110 (h.2.2 80 (2 * x6).toNatClampNeg &&& 255).toNatClampNeg), .int (h.2.2 110 (h.2.2 80 ((2 * x6) + 1).toNatClampNeg &&& 255).toNatClampNeg), .int 0]) dX11_unions_169 (by decide) rfl ?_
          exact w
        · replace w := w.2 c
          refine st_iload dX11_unions_153 rfl ?_
          refine st_iconst (v := 1) dX11_unions_155 (by decide) ?_
          refine st_iadd dX11_unions_156 ?_
          refine st_istore (L' := [.ref 73, .int x1, .int x2, .int x3, .int x4, .int (x5 + 1), .int x6, .int (h.2.2 110 (h.2.2 80 (2 * x6).toNatClampNeg &&& 255).toNatClampNeg), .int (h.2.2 110 (h.2.2 80 ((2 * x6) + 1).toNatClampNeg &&& 255).toNatClampNeg), u9]) dX11_unions_157 (by decide) rfl ?_
          refine st_goto (tgt := 168) dX11_unions_159 (by decide) ?_
          refine st_iconst (v := 0) dX11_unions_168 (by decide) ?_
          refine st_istore (L' := [.ref 73, .int x1, .int x2, .int x3, .int x4, .int (x5 + 1), .int x6, .int (h.2.2 110 (h.2.2 80 (2 * x6).toNatClampNeg &&& 255).toNatClampNeg), .int (h.2.2 110 (h.2.2 80 ((2 * x6) + 1).toNatClampNeg &&& 255).toNatClampNeg), .int 0]) dX11_unions_169 (by decide) rfl ?_
          exact w
      · replace w := w.2 c
        refine st_bipush (v := (-3)) dX11_unions_111 (by decide) ?_
        exact st_ireturn rfl rfl dX11_unions_113 w
set_option maxRecDepth 20000 in
set_option maxHeartbeats 2000000 in
theorem sX11_unions_216 {d : Nat} {h : am_H} {Z : Int32 → am_H → Prop} {x1 : Int32} {u2 : Value} {x3 : Int32} {x4 : Int32} {x5 : Int32} {x6 : Int32} {x7 : Int32} {u8 : Value} {u9 : Value} (hd : 2 ≤ d) (w : (x1 ≤ x7 → (¬ x3 = 0 → (¬ x3 = 1 → Z x5 h) ∧ (x3 = 1 → Z x6 h)) ∧ (x3 = 0 → Z x4 h)) ∧ (¬ (x1 ≤ x7) → am_cl mX11_piecesOf d [.ref 73, .int x7, .int x1] h (fun r1 h2 => Ru mX11_unions none d 216 [.ref 73, .int x1, u2, .int x3, .int x4, .int x5, .int (am_max x6 r1), .int (x7 + 1), u8, u9] [] h2 Z))) : Ru mX11_unions none d 216 [.ref 73, .int x1, u2, .int x3, .int x4, .int x5, .int x6, .int x7, u8, u9] [] h Z := by
  refine st_iload dX11_unions_216 rfl ?_
  refine st_iload_n dX11_unions_218 rfl ?_
  refine st_icmp_ge (tgt := 242) dX11_unions_219 (by decide) (fun c => ?_) (fun c => ?_)
  · replace w := w.1 c
    refine st_iload_n dX11_unions_242 rfl ?_
    refine st_if_ne (tgt := 251) dX11_unions_243 (by decide) (fun c => ?_) (fun c => ?_)
    · replace w := w.1 c
      refine st_iload_n dX11_unions_251 rfl ?_
      refine st_iconst (v := 1) dX11_unions_252 (by decide) ?_
      refine st_icmp_ne (tgt := 261) dX11_unions_253 (by decide) (fun c => ?_) (fun c => ?_)
      · replace w := w.1 c
        refine st_iload dX11_unions_261 rfl ?_
        exact st_ireturn rfl rfl dX11_unions_263 w
      · replace w := w.2 c
        refine st_iload dX11_unions_256 rfl ?_
        refine st_goto (tgt := 263) dX11_unions_258 (by decide) ?_
        exact st_ireturn rfl rfl dX11_unions_263 w
    · replace w := w.2 c
      refine st_iload dX11_unions_246 rfl ?_
      refine st_goto (tgt := 263) dX11_unions_248 (by decide) ?_
      exact st_ireturn rfl rfl dX11_unions_263 w
  · replace w := w.2 c
    refine st_iload dX11_unions_222 rfl ?_
    refine st_aload_n dX11_unions_224 rfl ?_
    refine st_iload dX11_unions_225 rfl ?_
    refine st_iload_n dX11_unions_227 rfl ?_
    refine st_callV (M' := mX11_piecesOf) [.int x7, .int x1] [.int x6] dX11_unions_228 ml_X11_406 mf_X11_piecesOf mv_X11_piecesOf sh_73 rfl rfl rfl w (fun r1 h2 w => ?_)
    show Ru mX11_unions none d 231 [.ref 73, .int x1, u2, .int x3, .int x4, .int x5, .int x6, .int x7, u8, u9] [.int r1, .int x6] h2 Z
    refine st_callS (M' := mX11_max) [.int x6, .int r1] [] dX11_unions_231 ml_X11_373 mf_X11_max ms_X11_max rfl rfl rfl (K := fun r h' => (am_max x6 r1) = r ∧ h2 = h') ⟨1, by omega, iX11_max ⟨rfl, rfl⟩⟩ (fun r1 h1 w1 => ?_)
    obtain ⟨rfl, rfl⟩ := w1
    show Ru mX11_unions none d 234 [.ref 73, .int x1, u2, .int x3, .int x4, .int x5, .int x6, .int x7, u8, u9] [.int (am_max x6 r1)] h2 Z
    refine st_istore (L' := [.ref 73, .int x1, u2, .int x3, .int x4, .int x5, .int (am_max x6 r1), .int x7, u8, u9]) dX11_unions_234 (by decide) rfl ?_
    refine st_iinc (L' := [.ref 73, .int x1, u2, .int x3, .int x4, .int x5, .int (am_max x6 r1), .int (x7 + 1), u8, u9]) dX11_unions_236 rfl rfl (by decide) rfl ?_
    refine st_goto (tgt := 216) dX11_unions_239 (by decide) ?_
    exact w
set_option maxRecDepth 20000 in
set_option maxHeartbeats 2000000 in
theorem sX11_unions_171 {d : Nat} {h : am_H} {Z : Int32 → am_H → Prop} {x1 : Int32} {x2 : Int32} {x3 : Int32} {x4 : Int32} {x5 : Int32} {x6 : Int32} {x7 : Int32} {x8 : Int32} {x9 : Int32} (w : (x1 ≤ x9 → Ru mX11_unions none d 79 [.ref 73, .int x1, .int x2, .int x3, .int x4, .int x5, .int (x6 + 1), .int x7, .int x8, .int x9] [] h Z) ∧ (¬ (x1 ≤ x9) → (vp_in x9 16 ∧ ((¬ (h.2.2 110 x9.toNatClampNeg) = x8 → Ru mX11_unions none d 171 [.ref 73, .int x1, .int x2, .int x3, .int x4, .int x5, .int x6, .int x7, .int x8, .int (x9 + 1)] [] h Z) ∧ ((h.2.2 110 x9.toNatClampNeg) = x8 → (∀ h2 : am_H, h2 = am_sR h 110 (upd (h.2.2 110) x9.toNatClampNeg x7) → (Ru mX11_unions none d 171 [.ref 73, .int x1, .int x2, .int x3, .int x4, .int x5, .int x6, .int x7, .int x8, .int (x9 + 1)] [] h2 Z))))))) : Ru mX11_unions none d 171 [.ref 73, .int x1, .int x2, .int x3, .int x4, .int x5, .int x6, .int x7, .int x8, .int x9] [] h Z := by
  refine st_iload dX11_unions_171 rfl ?_
  refine st_iload_n dX11_unions_173 rfl ?_
  refine st_icmp_ge (tgt := 204) dX11_unions_174 (by decide) (fun c => ?_) (fun c => ?_)
  · replace w := w.1 c
    refine st_iinc (L' := [.ref 73, .int x1, .int x2, .int x3, .int x4, .int x5, .int (x6 + 1), .int x7, .int x8, .int x9]) dX11_unions_204 rfl rfl (by decide) rfl ?_
    refine st_goto (tgt := 79) dX11_unions_207 (by decide) ?_
    exact w
  · replace w := w.2 c
    refine st_aload_n dX11_unions_177 rfl ?_
    refine st_getF (q := 110) fl_X11_119 fk_11_58 rfl dX11_unions_178 sh_73 ?_
    refine st_iload dX11_unions_181 rfl ?_
    have hc1 := w.1
    replace w := w.2
    refine st_iald dX11_unions_183 sh_110 hc1 ?_
    refine st_iload dX11_unions_184 rfl ?_
    refine st_icmp_ne (tgt := 198) dX11_unions_186 (by decide) (fun c => ?_) (fun c => ?_)
    · replace w := w.1 c
      refine st_iinc (L' := [.ref 73, .int x1, .int x2, .int x3, .int x4, .int x5, .int x6, .int x7, .int x8, .int (x9 + 1)]) dX11_unions_198 rfl rfl (by decide) rfl ?_
      refine st_goto (tgt := 171) dX11_unions_201 (by decide) ?_
      exact w
    · replace w := w.2 c
      refine st_aload_n dX11_unions_189 rfl ?_
      refine st_getF (q := 110) fl_X11_119 fk_11_58 rfl dX11_unions_190 sh_73 ?_
      refine st_iload dX11_unions_193 rfl ?_
      refine st_iload dX11_unions_195 rfl ?_
      refine st_iast dX11_unions_197 sh_110 hc1 (fun h2 eh2 => ?_)
      replace w := w h2 eh2
      refine st_iinc (L' := [.ref 73, .int x1, .int x2, .int x3, .int x4, .int x5, .int x6, .int x7, .int x8, .int (x9 + 1)]) dX11_unions_198 rfl rfl (by decide) rfl ?_
      refine st_goto (tgt := 171) dX11_unions_201 (by decide) ?_
      exact w
def un_id (n : Nat) (f : Nat → Int32) : Nat → Int32 := am_fd (fun k f => upd f k (nI k)) 0 n f
def un_e (a b : Int32) (p : Nat) (f : Nat → Int32) : Nat → Int32 := if f p = b then upd f p a else f
def un_st (n : Nat) (t : Nat → Nat) (k : Nat) (s : (Nat → Int32) × Int32) : (Nat → Int32) × Int32 := (am_fd (un_e (s.1 (t (2 * k))) (s.1 (t (2 * k + 1)))) 0 n s.1, if s.1 (t (2 * k)) = s.1 (t (2 * k + 1)) then s.2 + 1 else s.2)
def un_c (f : Nat → Int32) (n nm : Nat) : Int32 := am_fd (fun p c => if f p = nI nm then c + 1 else c) 0 n 0
def un_l (f : Nat → Int32) (n : Nat) : Int32 := am_fd (fun nm b => am_max b (un_c f n nm)) 0 n 0
def un_r (n m : Nat) (w : Int32) (s : (Nat → Int32) × Int32) : Int32 := if w = 0 then nI n - (nI m - s.2) else if w = 1 then un_l s.1 n else s.2
theorem un_self (f : Nat → Int32) (p : Nat) : upd f p (f p) = f := by funext j; unfold upd; by_cases c : j = p <;> simp [c]
section
variable {d : Nat} {h : am_H} {Z : Int32 → am_H → Prop} {n mm : Nat} {t : Nat → Nat} {w : Int32} {f : Nat → Int32}
theorem un_xc (hd : 1 ≤ d) (hn : n ≤ 16) {nm : Nat} (hm : nm < n) {b : Int32} (z : ∀ u1 u2, Ru mX6_largestKingdom none d 4 [.ref 10, .int (nI n), .int (am_max b (un_c f n nm)), .int (nI (nm + 1)), u1, u2] [] (am_sR h 11 f) Z) : ∀ (m p : Nat) (c : Int32), p + m = n → am_fd (fun p c => if f p = nI nm then c + 1 else c) p m c = un_c f n nm → Ru mX6_largestKingdom none d 15 [.ref 10, .int (nI n), .int b, .int (nI nm), .int c, .int (nI p)] [] (am_sR h 11 f) Z
  | 0, p, c, hp, e => by
    refine sX6_largestKingdom_15 hd ⟨fun _ => ?_, fun q => absurd (nI_le (by omega) (by omega)) q⟩
    rw [nI_1, show c = un_c f n nm from e]
    exact z _ _
  | m + 1, p, c, hp, e => by
    refine sX6_largestKingdom_15 hd ⟨fun q => absurd q (nI_ge (by omega) (by omega)), fun _ => ?_⟩
    have ih := un_xc hd hn hm z m (p + 1) _ (by omega) e
    rw [am_gRs, nI_clamp (by omega), nI_1, Int32.add_zero]
    refine ⟨vp_in_nI (by omega) (by omega), fun q => ?_, fun q => ?_⟩
    · simp only [q, if_false] at ih; exact ih
    · simp only [q, if_true] at ih; exact ih
theorem un_xl (hd : 1 ≤ d) (hn : n ≤ 16) : ∀ (m nm : Nat) (b : Int32) (u1 u2 : Value), nm + m = n → Z (am_fd (fun nm b => am_max b (un_c f n nm)) nm m b) (am_sR h 11 f) → Ru mX6_largestKingdom none d 4 [.ref 10, .int (nI n), .int b, .int (nI nm), u1, u2] [] (am_sR h 11 f) Z
  | 0, nm, b, u1, u2, hk, z => sX6_largestKingdom_4 ⟨fun _ => z, fun q => absurd (nI_le (by omega) (by omega)) q⟩
  | m + 1, nm, b, u1, u2, hk, z => by
    refine sX6_largestKingdom_4 ⟨fun q => absurd q (nI_ge (by omega) (by omega)), fun _ => ?_⟩
    exact un_xc hd hn (by omega) (fun u1 u2 => un_xl hd hn m (nm + 1) _ u1 u2 (by omega) z) n 0 0 (by omega) rfl
theorem un_xe {x2 x3 x4 x5 a b : Int32} (hn : n ≤ 16) : ∀ (m p : Nat) (g : Nat → Int32), p + m = n → (∀ u6 u7 u8, Ru mX6_kingdoms none d 75 [.ref 10, .int (nI n), .int x2, .int x3, .int x4, .int (x5 + 1), u6, u7, u8] [] (am_sR h 11 (am_fd (un_e a b) p m g)) Z) → Ru mX6_kingdoms none d 139 [.ref 10, .int (nI n), .int x2, .int x3, .int x4, .int x5, .int a, .int b, .int (nI p)] [] (am_sR h 11 g) Z
  | 0, p, g, hp, z => sX6_kingdoms_139 ⟨fun _ => z _ _ _, fun q => absurd (nI_le (by omega) (by omega)) q⟩
  | m + 1, p, g, hp, z => by
    refine sX6_kingdoms_139 ⟨fun q => absurd q (nI_ge (by omega) (by omega)), fun _ => ?_⟩
    have ih := un_xe (x2 := x2) (x3 := x3) (x4 := x4) (x5 := x5) (a := a) (b := b) hn m (p + 1) _ (by omega) z
    rw [am_gRs, nI_clamp (by omega), nI_1]
    refine ⟨vp_in_nI (by omega) (by omega), fun q h2 e2 => ?_, fun q h2 e2 => ?_⟩
    · rw [un_self, am_sR_2] at e2
      subst e2
      rw [show un_e a b p g = g from if_neg q] at ih; exact ih
    · rw [am_sR_2] at e2
      subst e2
      rw [show un_e a b p g = _ from if_pos q] at ih; exact ih
theorem un_xk (hd : 3 ≤ d) (hn : n ≤ 16) (hm : mm ≤ 20) (hw : w = 0 ∨ w = 1 ∨ w = 2) (hT : ∀ i, i < 2 * mm → am_at h (nI i) = nI (t i)) (ht : ∀ i, i < 2 * mm → t i < n) : ∀ (m k : Nat) (s : (Nat → Int32) × Int32) (u6 u7 u8 : Value), k + m = mm → (∀ g, Z (un_r n mm w (am_fd (un_st n t) k m s)) (am_sR h 11 g)) → Ru mX6_kingdoms none d 75 [.ref 10, .int (nI n), .int (nI mm), .int w, .int s.2, .int (nI k), u6, u7, u8] [] (am_sR h 11 s.1) Z
  | 0, k, s, u6, u7, u8, hk, z => by
    refine sX6_kingdoms_75 (by omega) ⟨fun _ => ⟨fun c => ?_, fun c => ⟨fun c2 => ⟨2, by omega, Sp_of mf_X6_largestKingdom rfl (Nat.le_of_ble_eq_true rfl) rfl (sX6_largestKingdom_0 (un_xl (by omega) hn n 0 0 _ _ (by omega) ?_))⟩, fun c2 => ?_⟩⟩, fun q => absurd (nI_le (by omega) (by omega)) q⟩
    · have := z s.1; unfold un_r at this; rw [if_pos c] at this; exact this
    · have := z s.1; unfold un_r at this; rw [if_neg c, if_pos c2] at this; exact this
    · have := z s.1; unfold un_r at this; rw [if_neg c, if_neg c2] at this; exact this
  | m + 1, k, s, u6, u7, u8, hk, z => by
    refine sX6_kingdoms_75 (by omega) ⟨fun q => absurd q (nI_ge (by omega) (by omega)), fun _ => ?_⟩
    have l1 := ht (2 * k) (by omega)
    have l2 := ht (2 * k + 1) (by omega)
    simp only [am_at_sR h s.1 _ (show 11 ≠ 2 by decide), am_n2, nI_1, hT (2 * k) (by omega), hT (2 * k + 1) (by omega), am_gRs, nI_clamp (show t (2 * k) < 2 ^ 31 by omega), nI_clamp (show t (2 * k + 1) < 2 ^ 31 by omega), Int32.add_zero]
    refine ⟨vp_in_nI (by omega) (by omega), vp_in_nI (by omega) (by omega), fun q => ?_, fun q => ?_⟩
    · refine un_xe hn n 0 s.1 (by omega) (fun u6 u7 u8 => ?_)
      have ih := un_xk hd hn hm hw hT ht m (k + 1) (un_st n t k s) u6 u7 u8 (by omega) z
      rw [show (un_st n t k s).2 = s.2 from if_neg q] at ih
      rw [nI_1]; exact ih
    · refine un_xe hn n 0 s.1 (by omega) (fun u6 u7 u8 => ?_)
      have ih := un_xk hd hn hm hw hT ht m (k + 1) (un_st n t k s) u6 u7 u8 (by omega) z
      rw [show (un_st n t k s).2 = s.2 + 1 from if_pos q] at ih
      rw [nI_1]; exact ih
theorem un_xi {x2 x3 : Int32} (hn : n ≤ 16) {u5 u6 u7 u8 : Value} : ∀ (m k : Nat) (g : Nat → Int32), k + m = n → Ru mX6_kingdoms none d 75 [.ref 10, .int (nI n), .int x2, .int x3, .int 0, .int 0, u6, u7, u8] [] (am_sR h 11 (am_fd (fun k f => upd f k (nI k)) k m g)) Z → Ru mX6_kingdoms none d 48 [.ref 10, .int (nI n), .int x2, .int x3, .int (nI k), u5, u6, u7, u8] [] (am_sR h 11 g) Z
  | 0, k, g, hk, z => sX6_kingdoms_48 ⟨fun _ => z, fun q => absurd (nI_le (by omega) (by omega)) q⟩
  | m + 1, k, g, hk, z => by
    refine sX6_kingdoms_48 ⟨fun q => absurd q (nI_ge (by omega) (by omega)), fun _ => ⟨vp_in_nI (by omega) (by omega), fun h2 e2 => ?_⟩⟩
    rw [am_gRs, nI_clamp (by omega), am_sR_2] at e2
    subst e2
    rw [nI_1]
    exact un_xi hn m (k + 1) _ (by omega) z
theorem un_xv (hd : 3 ≤ d) (hn : n ≤ 16) (hm : mm ≤ 20) {x3 : Int32} (hb : ∀ i, t i < 256) (hT : ∀ i, i < 2 * mm → am_at h (nI i) = nI (t i)) {u5 u6 u7 u8 : Value} (z1 : (∀ i, i < 2 * mm → t i < n) → Ru mX6_kingdoms none d 48 [.ref 10, .int (nI n), .int (nI mm), .int x3, .int 0, u5, u6, u7, u8] [] h Z) (z2 : ¬ (∀ i, i < 2 * mm → t i < n) → Z (-3) h) : ∀ (m k : Nat), k + m = 2 * mm → (∀ i, i < k → t i < n) → Ru mX6_kingdoms none d 3 [.ref 10, .int (nI n), .int (nI mm), .int x3, .int (nI k), u5, u6, u7, u8] [] h Z
  | 0, k, hk, hv => by
    refine sX6_kingdoms_3 (by omega) ⟨fun _ => z1 (fun i hi => hv i (by omega)), fun q => absurd (by rw [am_n2]; exact nI_le (by omega) (by omega)) q⟩
  | m + 1, k, hk, hv => by
    refine sX6_kingdoms_3 (by omega) ⟨fun q => absurd q (by rw [am_n2]; exact nI_ge (by omega) (by omega)), fun _ => ?_⟩
    have b := hb k
    rw [hT k (by omega), nI_1]
    refine ⟨fun c => absurd c (nI_pos (by omega)), fun _ => ⟨fun c => ?_, fun c => z2 (fun q => c (nI_lt (q k (by omega)) (by omega)))⟩⟩
    refine un_xv hd hn hm hb hT z1 z2 m (k + 1) (by omega) (fun i hi => ?_)
    rcases Nat.lt_or_ge i k with g | g
    · exact hv i g
    · have : i = k := by omega
      subst this; exact (nI_ltI (by omega) (by omega)).mp c
theorem iX6_kingdoms (hd : 3 ≤ d) (hn : n ≤ 16) (hm : mm ≤ 20) (hw : w = 0 ∨ w = 1 ∨ w = 2) (hb : ∀ i, t i < 256) (hT : ∀ i, i < 2 * mm → am_at h (nI i) = nI (t i)) (z1 : (∀ i, i < 2 * mm → t i < n) → ∀ g, Z (un_r n mm w (am_fd (un_st n t) 0 mm (un_id n (h.2.2 11), 0))) (am_sR h 11 g)) (z2 : ¬ (∀ i, i < 2 * mm → t i < n) → Z (-3) h) : Sp mX6_kingdoms d [.ref 10, .int (nI n), .int (nI mm), .int w] h Z := by
  refine Sp_of mf_X6_kingdoms rfl (Nat.le_of_ble_eq_true rfl) rfl (sX6_kingdoms_0 (un_xv hd hn hm hb hT (fun hv => ?_) z2 (2 * mm) 0 (by omega) (fun i hi => absurd hi (Nat.not_lt_zero i))))
  have := un_xi (x2 := nI mm) (x3 := w) hn (u5 := .null) (u6 := .null) (u7 := .null) (u8 := .null) n 0 (h.2.2 11) (by omega) (un_xk hd hn hm hw hT hv mm 0 (un_id n (h.2.2 11), 0) _ _ _ (by omega) (z1 hv))
  rw [am_sR_self] at this
  exact this
-- the reference's
theorem un_mc (hn : n ≤ 16) {nm : Nat} : ∀ (m p : Nat) (c : Int32), p + m = n → Z (am_fd (fun p c => if f p = nI nm then c + 1 else c) p m c) (am_sR h 110 f) → Ru mX11_piecesOf none d 5 [.ref 73, .int (nI nm), .int (nI n), .int c, .int (nI p)] [] (am_sR h 110 f) Z
  | 0, p, c, hp, z => sX11_piecesOf_5 ⟨fun _ => z, fun q => absurd (nI_le (by omega) (by omega)) q⟩
  | m + 1, p, c, hp, z => by
    refine sX11_piecesOf_5 ⟨fun q => absurd q (nI_ge (by omega) (by omega)), fun _ => ?_⟩
    have ih := un_mc hn m (p + 1) _ (by omega) z
    rw [am_gRs, nI_clamp (by omega), nI_1]
    refine ⟨vp_in_nI (by omega) (by omega), fun q => ?_, fun q => ?_⟩
    · simp only [q, if_false] at ih; exact ih
    · simp only [q, if_true] at ih; exact ih
theorem un_ml (hd : 3 ≤ d) (hn : n ≤ 16) {x4 x5 : Int32} {u2 u8 u9 : Value} (z : ∀ b, b = un_l f n → Z (if w = 0 then x4 else if w = 1 then b else x5) (am_sR h 110 f)) : ∀ (m nm : Nat) (b : Int32), nm + m = n → am_fd (fun nm b => am_max b (un_c f n nm)) nm m b = un_l f n → Ru mX11_unions none d 216 [.ref 73, .int (nI n), u2, .int w, .int x4, .int x5, .int b, .int (nI nm), u8, u9] [] (am_sR h 110 f) Z
  | 0, nm, b, hk, e => by
    have z' := z b e
    refine sX11_unions_216 (by omega) ⟨fun _ => ⟨fun c => ⟨fun c2 => ?_, fun c2 => ?_⟩, fun c => ?_⟩, fun q => absurd (nI_le (by omega) (by omega)) q⟩
    · rw [if_neg c, if_neg c2] at z'; exact z'
    · rw [if_neg c, if_pos c2] at z'; exact z'
    · rw [if_pos c] at z'; exact z'
  | m + 1, nm, b, hk, e => by
    refine sX11_unions_216 (by omega) ⟨fun q => absurd q (nI_ge (by omega) (by omega)), fun _ => ⟨2, by omega, Sp_of mf_X11_piecesOf rfl (Nat.le_of_ble_eq_true rfl) rfl (sX11_piecesOf_0 (un_mc hn n 0 0 (by omega) ?_))⟩⟩
    rw [nI_1]
    exact un_ml hd hn z m (nm + 1) _ (by omega) e
theorem un_me {x2 x3 x4 x5 x6 a b : Int32} (hn : n ≤ 16) : ∀ (m p : Nat) (g : Nat → Int32), p + m = n → (∀ u7 u8 u9, Ru mX11_unions none d 79 [.ref 73, .int (nI n), .int x2, .int x3, .int x4, .int x5, .int (x6 + 1), u7, u8, u9] [] (am_sR h 110 (am_fd (un_e a b) p m g)) Z) → Ru mX11_unions none d 171 [.ref 73, .int (nI n), .int x2, .int x3, .int x4, .int x5, .int x6, .int a, .int b, .int (nI p)] [] (am_sR h 110 g) Z
  | 0, p, g, hp, z => sX11_unions_171 ⟨fun _ => z _ _ _, fun q => absurd (nI_le (by omega) (by omega)) q⟩
  | m + 1, p, g, hp, z => by
    refine sX11_unions_171 ⟨fun q => absurd q (nI_ge (by omega) (by omega)), fun _ => ?_⟩
    have ih := un_me (x2 := x2) (x3 := x3) (x4 := x4) (x5 := x5) (x6 := x6) (a := a) (b := b) hn m (p + 1) _ (by omega) z
    rw [am_gRs, nI_clamp (by omega), nI_1]
    refine ⟨vp_in_nI (by omega) (by omega), fun q => ?_, fun q h2 e2 => ?_⟩
    · rw [show un_e a b p g = g from if_neg q] at ih; exact ih
    · rw [am_sR_2] at e2
      subst e2
      rw [show un_e a b p g = _ from if_pos q] at ih; exact ih
theorem un_kg1 (N k v : Int32) : N - (k - v) - 1 = N - (k + 1 - v) := by grind
theorem un_kg2 (N k v : Int32) : N - (k - v) = N - (k + 1 - (v + 1)) := by grind
theorem un_mk (hd : 4 ≤ d) (hn : n ≤ 16) (hm : mm ≤ 20) (hb : ∀ i, t i < 256) (hT : ∀ i, i < 2 * mm → h.2.2 80 i &&& 255 = nI (t i)) (z2 : ¬ (∀ i, i < 2 * mm → t i < n) → ∀ g, Z (-3) (am_sR h 110 g)) : ∀ (m k : Nat) (s : (Nat → Int32) × Int32) (u7 u8 u9 : Value), k + m = mm → (∀ i, i < 2 * k → t i < n) → ((∀ i, i < 2 * mm → t i < n) → ∀ g, Z (un_r n mm w (am_fd (un_st n t) k m s)) (am_sR h 110 g)) → Ru mX11_unions none d 79 [.ref 73, .int (nI n), .int (nI mm), .int w, .int (nI n - (nI k - s.2)), .int s.2, .int (nI k), u7, u8, u9] [] (am_sR h 110 s.1) Z
  | 0, k, s, u7, u8, u9, hk, hv, z => by
    have ee : k = mm := by omega
    subst ee
    refine sX11_unions_79 (by omega) ⟨fun _ => ?_, fun q => absurd (Int32.le_refl _) q⟩
    exact un_ml (by omega) hn (fun b hb => by rw [hb]; exact z hv s.1) n 0 0 (by omega) rfl
  | m + 1, k, s, u7, u8, u9, hk, hv, z => by
    have b1 := hb (2 * k)
    have b2 := hb (2 * k + 1)
    have g80 : ∀ x, (am_sR h 110 s.1).2.2 80 x = h.2.2 80 x := fun x => by rw [am_gR, if_neg (by decide)]
    refine sX11_unions_79 (by omega) ⟨fun q => absurd q (nI_ge (by omega) (by omega)), fun _ => ?_⟩
    simp only [am_n2, nI_1, nI_clamp (show 2 * k < 2 ^ 31 by omega), nI_clamp (show 2 * k + 1 < 2 ^ 31 by omega), g80, hT (2 * k) (by omega), hT (2 * k + 1) (by omega), am_gRs, nI_clamp (show t (2 * k) < 2 ^ 31 by omega), nI_clamp (show t (2 * k + 1) < 2 ^ 31 by omega)]
    refine ⟨vp_in_nI (by omega) (by omega), fun c => z2 (fun q => ?_) _, fun c => ⟨vp_in_nI (by omega) (by omega), fun c2 => ?_, fun c2 => z2 (fun q => c2 (nI_lt (q _ (by omega)) (by omega))) _⟩⟩
    · exact nI_ge (q (2 * k) (by omega)) (by omega) c
    · have l1 : t (2 * k) < n := (nI_ltI (by omega) (by omega)).mp (Int32.not_le.mp c)
      have l2 : t (2 * k + 1) < n := (nI_ltI (by omega) (by omega)).mp c2
      have hv' : ∀ i, i < 2 * (k + 1) → t i < n := fun i hi => by
        rcases Nat.lt_or_ge i (2 * k) with g | g
        · exact hv i g
        · rcases (show i = 2 * k ∨ i = 2 * k + 1 by omega) with rfl | rfl
          · exact l1
          · exact l2
      refine ⟨vp_in_nI (by omega) (by omega), vp_in_nI (by omega) (by omega), fun q => ?_, fun q => ?_⟩
      · refine un_me hn n 0 s.1 (by omega) (fun u7 u8 u9 => ?_)
        have ih := un_mk hd hn hm hb hT z2 m (k + 1) (un_st n t k s) u7 u8 u9 (by omega) hv' z
        rw [show (un_st n t k s).2 = s.2 from if_neg q] at ih
        rw [un_kg1, nI_1]; exact ih
      · refine un_me hn n 0 s.1 (by omega) (fun u7 u8 u9 => ?_)
        have ih := un_mk hd hn hm hb hT z2 m (k + 1) (un_st n t k s) u7 u8 u9 (by omega) hv' z
        rw [show (un_st n t k s).2 = s.2 + 1 from if_pos q] at ih
        rw [un_kg2, nI_1]; exact ih
theorem un_mi {x2 x3 x4 x5 : Int32} (hn : n ≤ 16) {u7 u8 u9 : Value} : ∀ (m k : Nat) (g : Nat → Int32), k + m = n → Ru mX11_unions none d 79 [.ref 73, .int (nI n), .int x2, .int x3, .int x4, .int x5, .int 0, u7, u8, u9] [] (am_sR h 110 (am_fd (fun k f => upd f k (nI k)) k m g)) Z → Ru mX11_unions none d 55 [.ref 73, .int (nI n), .int x2, .int x3, .int x4, .int x5, .int (nI k), u7, u8, u9] [] (am_sR h 110 g) Z
  | 0, k, g, hk, z => sX11_unions_55 ⟨fun _ => z, fun q => absurd (nI_le (by omega) (by omega)) q⟩
  | m + 1, k, g, hk, z => by
    refine sX11_unions_55 ⟨fun q => absurd q (nI_ge (by omega) (by omega)), fun _ => ⟨vp_in_nI (by omega) (by omega), fun h2 e2 => ?_⟩⟩
    rw [am_gRs, nI_clamp (by omega), am_sR_2] at e2
    subst e2
    rw [nI_1]
    exact un_mi hn m (k + 1) _ (by omega) z
theorem un_mall (hd : 4 ≤ d) (hn : n ≤ 16) (hm : mm ≤ 20) (hb : ∀ i, t i < 256) (hT : ∀ i, i < 2 * mm → h.2.2 80 i &&& 255 = nI (t i)) (z1 : (∀ i, i < 2 * mm → t i < n) → ∀ g, Z (un_r n mm w (am_fd (un_st n t) 0 mm (un_id n (h.2.2 110), 0))) (am_sR h 110 g)) (z2 : ¬ (∀ i, i < 2 * mm → t i < n) → ∀ g, Z (-3) (am_sR h 110 g)) : Ru mX11_unions none d 55 [.ref 73, .int (nI n), .int (nI mm), .int w, .int (nI n), .int 0, .int 0, .null, .null, .null] [] h Z := by
  have k1 := un_mk (w := w) hd hn hm hb hT z2 mm 0 (un_id n (h.2.2 110), 0) .null .null .null (by omega) (fun i hi => absurd hi (Nat.not_lt_zero i)) z1
  have e0 : nI n - (nI 0 - (0 : Int32)) = nI n := by rw [nI_0]; grind
  rw [show ((un_id n (h.2.2 110), (0 : Int32)).2) = 0 from rfl, e0] at k1
  have := un_mi (x2 := nI mm) (x3 := w) (x4 := nI n) (x5 := 0) hn (u7 := .null) (u8 := .null) (u9 := .null) n 0 (h.2.2 110) (by omega) k1
  rw [am_sR_self] at this
  exact this
end
theorem un_same {n mm : Nat} {t : Nat → Nat} {w : Int32} (ht : ∀ i, i < 2 * mm → t i < n) (f g : Nat → Int32) : un_r n mm w (am_fd (un_st n t) 0 mm (un_id n f, 0)) = un_r n mm w (am_fd (un_st n t) 0 mm (un_id n g, 0)) := by
  have hid : ∀ i, i < n → un_id n f i = un_id n g i := by
    unfold un_id
    have := am_fd_rel (fun k (p q : Nat → Int32) => ∀ i, i < k → p i = q i) (f := fun k f => upd f k (nI k)) (g := fun k f => upd f k (nI k)) n 0 f g (fun i hi => absurd hi (Nat.not_lt_zero i)) (fun k p q _ _ hr i hi => by
      unfold upd
      by_cases c : i = k
      · simp [c]
      · simp [c, hr i (by omega)])
    intro i hi; exact this i (by omega)
  have key := am_fd_rel (fun _ (s u : (Nat → Int32) × Int32) => (∀ i, i < n → s.1 i = u.1 i) ∧ s.2 = u.2) (f := un_st n t) (g := un_st n t) mm 0 (un_id n f, 0) (un_id n g, 0) ⟨hid, rfl⟩ (fun k s u _ hk hr => by
    obtain ⟨r1, r2⟩ := hr
    have e1 := r1 (t (2 * k)) (ht _ (by omega))
    have e2 := r1 (t (2 * k + 1)) (ht _ (by omega))
    refine ⟨?_, ?_⟩
    · show ∀ i, i < n → am_fd _ 0 n s.1 i = am_fd _ 0 n u.1 i
      rw [e1, e2]
      exact am_fd_rel (fun _ (p q : Nat → Int32) => ∀ i, i < n → p i = q i) n 0 s.1 u.1 r1 (fun p a b _ hp hab i hi => by
        unfold un_e
        rw [hab p (by omega)]
        by_cases c : b p = u.1 (t (2 * k + 1))
        · rw [if_pos c, if_pos c]; unfold upd; by_cases c2 : i = p
          · simp [c2]
          · simp [c2, hab i hi]
        · rw [if_neg c, if_neg c]; exact hab i hi)
    · show (if _ then _ else _) = (if _ then _ else _)
      rw [e1, e2, r2])
  generalize am_fd (un_st n t) 0 mm (un_id n f, 0) = s at key ⊢
  generalize am_fd (un_st n t) 0 mm (un_id n g, 0) = u at key ⊢
  obtain ⟨r1, r2⟩ := key
  unfold un_r
  rw [r2]
  have el : un_l s.1 n = un_l u.1 n := by
    unfold un_l
    refine am_fd_cong n 0 0 (fun nm _ _ b => ?_)
    have : un_c s.1 n nm = un_c u.1 n nm := by
      unfold un_c
      exact am_fd_cong n 0 0 (fun p _ hp c => by rw [r1 p (by omega)])
    rw [this]
  rw [el]
theorem pp_unions {d : Nat} {h : am_H} {K : Int32 → Int32 → am_H → Prop} {x y w : Int32} {N : Nat} (hd : 12 ≤ d) (ht : am_tape h N) (z : ∀ r h', am_step h h' → K r r h') : am_cl mX10_unions d [.ref 0, .int x, .int y, .int w] h (fun r1 h1 => am_cl mX11_unions d [.ref 73, .int x, .int y, .int w] h1 (fun r2 h2 => K r1 r2 h2)) := by
  have hN := ht.1
  have z0 : K (-1) (-1) h := z _ _ (am_step_rf h)
  have no : ∀ (a : Ru mX10_unions none 10 0 [.ref 0, .int x, .int y, .int w, .null, .null] [] h (fun r1 h1 => r1 = -1 ∧ h1 = h)) (v : Ru mX11_unions none 10 0 [.ref 73, .int x, .int y, .int w, .null, .null, .null, .null, .null, .null] [] h (fun r1 h1 => r1 = -1 ∧ h1 = h)), am_cl mX10_unions d [.ref 0, .int x, .int y, .int w] h (fun r1 h1 => am_cl mX11_unions d [.ref 73, .int x, .int y, .int w] h1 (fun r2 h2 => K r1 r2 h2)) := fun a v => by
    refine ⟨10, by omega, Sp_of mf_X10_unions rfl (Nat.le_of_ble_eq_true rfl) rfl (am_ru_mono a (fun r1 h1 q => ?_))⟩
    obtain ⟨rfl, rfl⟩ := q
    refine ⟨10, by omega, Sp_of mf_X11_unions rfl (Nat.le_of_ble_eq_true rfl) rfl (am_ru_mono v (fun r1 h1 q => ?_))⟩
    obtain ⟨rfl, rfl⟩ := q
    exact z0
  have f33 : Ru mX10_unions none 10 33 [.ref 0, .int x, .int y, .int w, .null, .null] [] h (fun r1 h1 => r1 = -1 ∧ h1 = h) := sX10_unions_33 (sX10_unions_34 (by omega) ⟨fun _ => ⟨rfl, rfl⟩, fun c => absurd rfl c⟩)
  by_cases c1 : 2 ≤ x ∧ x ≤ 16
  · by_cases c2 : 1 ≤ y ∧ y ≤ 20
    · by_cases c3 : 0 ≤ w ∧ w ≤ 2
      · obtain ⟨n, hn, rfl⟩ := am_natle (N := 16) (by omega) (Int32.le_trans (by decide) c1.1) c1.2
        obtain ⟨mm, hm, rfl⟩ := am_natle (N := 20) (by omega) (Int32.le_trans (by decide) c2.1) c2.2
        have hw : w = 0 ∨ w = 1 ∨ w = 2 := by
          obtain ⟨j, hj, rfl⟩ := am_natle (N := 2) (by omega) c3.1 c3.2
          rcases (show j = 0 ∨ j = 1 ∨ j = 2 by omega) with rfl | rfl | rfl
          · exact Or.inl rfl
          · exact Or.inr (Or.inl rfl)
          · exact Or.inr (Or.inr rfl)
        by_cases c4 : 2 * mm ≤ N
        · have p1 : 2 * nI mm ≤ h.1 1 1 := by rw [am_n2, ht.2.1]; exact nI_le c4 (by omega)
          have fin : ∀ r h0, am_keep h h0 → h0.1 73 9 = h.1 73 9 → h0.2.2 80 = h.2.2 80 → h0.1 1 1 = 0 → ((∀ i, i < 2 * mm → am_bt h i < n) → r = un_r n mm w (am_fd (un_st n (am_bt h)) 0 mm (un_id n (h.2.2 11), 0))) → (¬ (∀ i, i < 2 * mm → am_bt h i < n) → r = -3) → am_cl mX11_unions d [.ref 73, .int (nI n), .int (nI mm), .int w] h0 (fun r2 h2 => K r r2 h2) := by
            intro r h0 hk h9 h80 h11 hr1 hr2
            refine ⟨10, by omega, Sp_of mf_X11_unions rfl (Nat.le_of_ble_eq_true rfl) rfl (sX11_unions_0 (by omega) ⟨fun c => absurd c1 c, fun _ => ⟨fun c => absurd c2 c, fun _ => ⟨fun c => absurd c3 c, fun _ => ⟨fun _ h1 e1 => ?_, fun c => absurd (by rw [h9, am_n2, ht.2.2.1]; exact nI_le c4 (by omega)) c⟩⟩⟩⟩)⟩
            have st : ∀ g, am_step h (am_sR h1 110 g) := fun g => by
              rw [e1]
              refine am_step_x (am_keep_sR (am_keep_sI hk (by decide)) (by decide)) ?_ ?_
              · rw [am_gR1, am_gI, if_neg (by decide)]; exact h11
              · rw [am_gR1, am_gI, if_pos ⟨rfl, rfl⟩]
            refine un_mall (t := am_bt h) (by omega) hn hm (am_bt_lt h) (fun i _ => by rw [e1, am_gI2, h80]; exact am_bt_e h i) (fun hv g => ?_) (fun hv g => ?_)
            · rw [un_same hv (h1.2.2 110) (h.2.2 11), ← hr1 hv]; exact z _ _ (st g)
            · rw [hr2 hv]; exact z _ _ (st g)
          refine ⟨10, by omega, Sp_of mf_X10_unions rfl (Nat.le_of_ble_eq_true rfl) rfl (sX10_unions_0 (by omega) ⟨fun c => absurd c1 c, fun _ => ⟨fun c => absurd c2 c, fun _ => ⟨fun c => absurd c3 c, fun _ => sX10_unions_34 (by omega) ⟨fun c => absurd c (by decide), fun _ => ⟨fun _ => ⟨8, by omega, iX6_kingdoms (t := am_bt h) (by omega) hn hm hw (am_bt_lt h) (fun i hi => am_at_b ht (by omega)) (fun hv g => ?_) (fun hv => ?_)⟩, fun c => absurd p1 c⟩⟩⟩⟩⟩)⟩
          · refine fin _ _ (am_keep_sI (am_keep_sR (am_keep_rf h) (by decide)) (by decide)) (by rw [am_gI, if_neg (by decide), am_gR1]) (by rw [am_gI2, am_gR, if_neg (by decide)]) (by rw [am_gI, if_pos ⟨rfl, rfl⟩]) (fun _ => rfl) (fun q => absurd hv q)
          · refine fin _ _ (am_keep_sI (am_keep_rf h) (by decide)) (by rw [am_gI, if_neg (by decide)]) (by rw [am_gI2]) (by rw [am_gI, if_pos ⟨rfl, rfl⟩]) (fun q => absurd q hv) (fun _ => rfl)
        · have n1 : ¬ 2 * nI mm ≤ h.1 1 1 := by rw [am_n2, ht.2.1]; exact nI_ge (by omega) (by omega)
          have n2 : ¬ 2 * nI mm ≤ h.1 73 9 := by rw [am_n2, ht.2.2.1]; exact nI_ge (by omega) (by omega)
          exact no (sX10_unions_0 (by omega) ⟨fun c => absurd c1 c, fun _ => ⟨fun c => absurd c2 c, fun _ => ⟨fun c => absurd c3 c, fun _ => sX10_unions_34 (by omega) ⟨fun c => absurd c (by decide), fun _ => ⟨fun c => absurd c n1, fun _ => ⟨rfl, rfl⟩⟩⟩⟩⟩⟩) (sX11_unions_0 (by omega) ⟨fun c => absurd c1 c, fun _ => ⟨fun c => absurd c2 c, fun _ => ⟨fun c => absurd c3 c, fun _ => ⟨fun c => absurd c n2, fun _ => ⟨rfl, rfl⟩⟩⟩⟩⟩)
      · exact no (sX10_unions_0 (by omega) ⟨fun c => absurd c1 c, fun _ => ⟨fun c => absurd c2 c, fun _ => ⟨fun _ => f33, fun c => absurd c c3⟩⟩⟩) (sX11_unions_0 (by omega) ⟨fun c => absurd c1 c, fun _ => ⟨fun c => absurd c2 c, fun _ => ⟨fun _ => ⟨rfl, rfl⟩, fun c => absurd c c3⟩⟩⟩)
    · exact no (sX10_unions_0 (by omega) ⟨fun c => absurd c1 c, fun _ => ⟨fun _ => f33, fun c => absurd c c2⟩⟩) (sX11_unions_0 (by omega) ⟨fun c => absurd c1 c, fun _ => ⟨fun _ => ⟨rfl, rfl⟩, fun c => absurd c c2⟩⟩)
  · exact no (sX10_unions_0 (by omega) ⟨fun _ => f33, fun c => absurd c c1⟩) (sX11_unions_0 (by omega) ⟨fun _ => ⟨rfl, rfl⟩, fun c => absurd c c1⟩)
