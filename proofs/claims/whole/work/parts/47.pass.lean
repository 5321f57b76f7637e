-- a day of the class: papers put in, papers read; days
set_option maxRecDepth 20000 in
set_option maxHeartbeats 2000000 in
theorem sX2_putPapersIn_0 {d : Nat} {h : am_H} {Z : Int32 → am_H → Prop} {a1 : Nat} (hb1 : am_bu a1) {a2 : Nat} (hb2 : am_la a2) (w : Ru mX2_putPapersIn none d 2 [.ref 8, .ref a1, .ref a2, .int 0, .null] [] h Z) : Ru mX2_putPapersIn none d 0 [.ref 8, .ref a1, .ref a2, .null, .null] [] h Z := by
  refine st_iconst (v := 0) dX2_putPapersIn_0 (by decide) ?_
  refine st_istore_n (L' := [.ref 8, .ref a1, .ref a2, .int 0, .null]) dX2_putPapersIn_1 (by decide) rfl ?_
  exact w
set_option maxRecDepth 20000 in
set_option maxHeartbeats 2000000 in
theorem sX2_putPapersIn_2 {d : Nat} {h : am_H} {Z : Int32 → am_H → Prop} {a1 : Nat} (hb1 : am_bu a1) {a2 : Nat} (hb2 : am_la a2) {x3 : Int32} {u4 : Value} (hd : 3 ≤ d) (w : ((h.1 a1 8) ≤ x3 → Z 0 h) ∧ (¬ ((h.1 a1 8) ≤ x3) → (am_inn h a1 x3 → Ru mX2_putPapersIn none d 2 [.ref 8, .ref a1, .ref a2, .int (x3 + 1), u4] [] h Z) ∧ (¬ (am_inn h a1 x3) → am_cl mX2_mostWished d [.ref 8, .ref a1, .ref a2, .int x3] h (fun r1 h2 => (r1 < 0 → Ru mX2_putPapersIn none d 2 [.ref 8, .ref a1, .ref a2, .int (x3 + 1), .int r1] [] h2 Z) ∧ (¬ (r1 < 0) → am_cl mX0_move d [.ref a1, .int x3, .int r1] h2 (fun r3 h4 => (∀ h5 : am_H, h5 = am_sI h4 8 1 ((h4.1 8 1) + 1) → (Ru mX2_putPapersIn none d 2 [.ref 8, .ref a1, .ref a2, .int (x3 + 1), .int r1] [] h5 Z)))))))) : Ru mX2_putPapersIn none d 2 [.ref 8, .ref a1, .ref a2, .int x3, u4] [] h Z := by
  refine st_iload_n dX2_putPapersIn_2 rfl ?_
  refine st_aload_n dX2_putPapersIn_3 rfl ?_
  refine st_getI fl_X2_51 fk_0_8 dX2_putPapersIn_4 (bu_0 hb1) ?_
  refine st_icmp_ge (tgt := 55) dX2_putPapersIn_7 (by decide) (fun c => ?_) (fun c => ?_)
  · replace w := w.1 c
    exact st_return rfl dX2_putPapersIn_55 w
  · replace w := w.2 c
    refine st_aload_n dX2_putPapersIn_10 rfl ?_
    refine st_iload_n dX2_putPapersIn_11 rfl ?_
    refine st_callV (M' := mX0_isIn) [.int x3] [] dX2_putPapersIn_12 ml_X2_54 mf_X0_isIn mv_X0_isIn (bu_0 hb1) rfl rfl rfl (K := fun r h' => (am_b (am_inn h a1 x3)) = r ∧ h = h') ⟨2, by omega, iX0_isIn hb1 (by omega) ⟨rfl, rfl⟩⟩ (fun r1 h1 w1 => ?_)
    obtain ⟨rfl, rfl⟩ := w1
    show Ru mX2_putPapersIn none d 15 [.ref 8, .ref a1, .ref a2, .int x3, u4] [.int (am_b (am_inn h a1 x3))] h Z
    refine st_ifb_ne (tgt := 49) dX2_putPapersIn_15 (by decide) (fun c => ?_) (fun c => ?_)
    · replace w := w.1 c
      refine st_iinc (L' := [.ref 8, .ref a1, .ref a2, .int (x3 + 1), u4]) dX2_putPapersIn_49 rfl rfl (by decide) rfl ?_
      refine st_goto (tgt := 2) dX2_putPapersIn_52 (by decide) ?_
      exact w
    · replace w := w.2 c
      refine st_aload_n dX2_putPapersIn_18 rfl ?_
      refine st_aload_n dX2_putPapersIn_19 rfl ?_
      refine st_aload_n dX2_putPapersIn_20 rfl ?_
      refine st_iload_n dX2_putPapersIn_21 rfl ?_
      refine st_callV (M' := mX2_mostWished) [.ref a1, .ref a2, .int x3] [] dX2_putPapersIn_22 ml_X2_57 mf_X2_mostWished mv_X2_mostWished sh_8 rfl rfl rfl w (fun r1 h2 w => ?_)
      show Ru mX2_putPapersIn none d 25 [.ref 8, .ref a1, .ref a2, .int x3, u4] [.int r1] h2 Z
      refine st_istore (L' := [.ref 8, .ref a1, .ref a2, .int x3, .int r1]) dX2_putPapersIn_25 (by decide) rfl ?_
      refine st_iload dX2_putPapersIn_27 rfl ?_
      refine st_if_lt (tgt := 49) dX2_putPapersIn_29 (by decide) (fun c => ?_) (fun c => ?_)
      · replace w := w.1 c
        refine st_iinc (L' := [.ref 8, .ref a1, .ref a2, .int (x3 + 1), .int r1]) dX2_putPapersIn_49 rfl rfl (by decide) rfl ?_
        refine st_goto (tgt := 2) dX2_putPapersIn_52 (by decide) ?_
        exact w
      · replace w := w.2 c
        refine st_aload_n dX2_putPapersIn_32 rfl ?_
        refine st_iload_n dX2_putPapersIn_33 rfl ?_
        refine st_iload dX2_putPapersIn_34 rfl ?_
        refine st_callV (M' := mX0_move) [.int x3, .int r1] [] dX2_putPapersIn_36 ml_X2_61 mf_X0_move mv_X0_move (bu_0 hb1) rfl rfl rfl w (fun r3 h4 w => ?_)
        show Ru mX2_putPapersIn none d 39 [.ref 8, .ref a1, .ref a2, .int x3, .int r1] [] h4 Z
        refine st_aload_n dX2_putPapersIn_39 rfl ?_
        refine st_dup dX2_putPapersIn_40 rfl ?_
        refine st_getI fl_X2_15 fk_2_1 dX2_putPapersIn_41 sh_8 ?_
        refine st_iconst (v := 1) dX2_putPapersIn_44 (by decide) ?_
        refine st_iadd dX2_putPapersIn_45 ?_
        refine st_putI flp_X2_15 fk_2_1 dX2_putPapersIn_46 sh_8 (fun h5 eh5 => ?_)
        replace w := w h5 eh5
        refine st_iinc (L' := [.ref 8, .ref a1, .ref a2, .int (x3 + 1), .int r1]) dX2_putPapersIn_49 rfl rfl (by decide) rfl ?_
        refine st_goto (tgt := 2) dX2_putPapersIn_52 (by decide) ?_
        exact w
set_option maxRecDepth 20000 in
set_option maxHeartbeats 2000000 in
theorem sX2_readPapers_0 {d : Nat} {h : am_H} {Z : Int32 → am_H → Prop} {a1 : Nat} (hb1 : am_bu a1) {a2 : Nat} (hb2 : am_la a2) (w : Ru mX2_readPapers none d 2 [.ref 8, .ref a1, .ref a2, .int 0, .null, .null] [] h Z) : Ru mX2_readPapers none d 0 [.ref 8, .ref a1, .ref a2, .null, .null, .null] [] h Z := by
  refine st_iconst (v := 0) dX2_readPapers_0 (by decide) ?_
  refine st_istore_n (L' := [.ref 8, .ref a1, .ref a2, .int 0, .null, .null]) dX2_readPapers_1 (by decide) rfl ?_
  exact w
set_option maxRecDepth 20000 in
set_option maxHeartbeats 2000000 in
theorem sX2_readPapers_2 {d : Nat} {h : am_H} {Z : Int32 → am_H → Prop} {a1 : Nat} (hb1 : am_bu a1) {a2 : Nat} (hb2 : am_la a2) {x3 : Int32} {u4 : Value} {u5 : Value} (hd : 3 ≤ d) (w : ((h.1 a1 8) ≤ x3 → Z 0 h) ∧ (¬ ((h.1 a1 8) ≤ x3) → (¬ (am_inn h a1 x3) → Ru mX2_readPapers none d 2 [.ref 8, .ref a1, .ref a2, .int (x3 + 1), u4, u5] [] h Z) ∧ (am_inn h a1 x3 → am_cl mX0_draw d [.ref a1] h (fun r1 h2 => (vp_in x3 24 ∧ (am_cl mX3_valueOf d [.ref a2, .int 114, .ref a1, .int x3, .int (h2.2.2 (a1 + 6) x3.toNatClampNeg), .int r1] h2 (fun r4 h5 => (r4 ≤ r1 → Ru mX2_readPapers none d 50 [.ref 8, .ref a1, .ref a2, .int x3, .int r1, u5] [.int 0] h5 Z) ∧ (¬ (r4 ≤ r1) → Ru mX2_readPapers none d 50 [.ref 8, .ref a1, .ref a2, .int x3, .int r1, u5] [.int 1] h5 Z)))))))) : Ru mX2_readPapers none d 2 [.ref 8, .ref a1, .ref a2, .int x3, u4, u5] [] h Z := by
  refine st_iload_n dX2_readPapers_2 rfl ?_
  refine st_aload_n dX2_readPapers_3 rfl ?_
  refine st_getI fl_X2_51 fk_0_8 dX2_readPapers_4 (bu_0 hb1) ?_
  refine st_icmp_ge (tgt := 109) dX2_readPapers_7 (by decide) (fun c => ?_) (fun c => ?_)
  · replace w := w.1 c
    exact st_return rfl dX2_readPapers_109 w
  · replace w := w.2 c
    refine st_aload_n dX2_readPapers_10 rfl ?_
    refine st_iload_n dX2_readPapers_11 rfl ?_
    refine st_callV (M' := mX0_isIn) [.int x3] [] dX2_readPapers_12 ml_X2_54 mf_X0_isIn mv_X0_isIn (bu_0 hb1) rfl rfl rfl (K := fun r h' => (am_b (am_inn h a1 x3)) = r ∧ h = h') ⟨2, by omega, iX0_isIn hb1 (by omega) ⟨rfl, rfl⟩⟩ (fun r1 h1 w1 => ?_)
    obtain ⟨rfl, rfl⟩ := w1
    show Ru mX2_readPapers none d 15 [.ref 8, .ref a1, .ref a2, .int x3, u4, u5] [.int (am_b (am_inn h a1 x3))] h Z
    refine st_ifb_eq (tgt := 103) dX2_readPapers_15 (by decide) (fun c => ?_) (fun c => ?_)
    · replace w := w.1 c
      refine st_iinc (L' := [.ref 8, .ref a1, .ref a2, .int (x3 + 1), u4, u5]) dX2_readPapers_103 rfl rfl (by decide) rfl ?_
      refine st_goto (tgt := 2) dX2_readPapers_106 (by decide) ?_
      exact w
    · replace w := w.2 c
      refine st_aload_n dX2_readPapers_18 rfl ?_
      refine st_callV (M' := mX0_draw) [] [] dX2_readPapers_19 ml_X2_41 mf_X0_draw mv_X0_draw (bu_0 hb1) rfl rfl rfl w (fun r1 h2 w => ?_)
      show Ru mX2_readPapers none d 22 [.ref 8, .ref a1, .ref a2, .int x3, u4, u5] [.int r1] h2 Z
      refine st_istore (L' := [.ref 8, .ref a1, .ref a2, .int x3, .int r1, u5]) dX2_readPapers_22 (by decide) rfl ?_
      refine st_iload dX2_readPapers_24 rfl ?_
      refine st_aload_n dX2_readPapers_26 rfl ?_
      refine st_bipush (v := 114) dX2_readPapers_27 (by decide) ?_
      refine st_aload_n dX2_readPapers_29 rfl ?_
      refine st_iload_n dX2_readPapers_30 rfl ?_
      refine st_aload_n dX2_readPapers_31 rfl ?_
      refine st_getF (q := a1 + 6) fl_X2_75 fk_0_5 rfl dX2_readPapers_32 (bu_0 hb1) ?_
      refine st_iload_n dX2_readPapers_35 rfl ?_
      have hc3 := w.1
      replace w := w.2
      refine st_iald dX2_readPapers_36 (bu_6 hb1) hc3 ?_
      refine st_iload dX2_readPapers_37 rfl ?_
      refine st_callV (M' := mX3_valueOf) [.int 114, .ref a1, .int x3, .int (h2.2.2 (a1 + 6) x3.toNatClampNeg), .int r1] [.int r1] dX2_readPapers_39 ml_X2_45 mf_X3_valueOf mv_X3_valueOf (la_0 hb2) rfl rfl rfl w (fun r4 h5 w => ?_)
      show Ru mX2_readPapers none d 42 [.ref 8, .ref a1, .ref a2, .int x3, .int r1, u5] [.int r4, .int r1] h5 Z
      refine st_icmp_ge (tgt := 49) dX2_readPapers_42 (by decide) (fun c => ?_) (fun c => ?_)
      · replace w := w.1 c
        refine st_iconst (v := 0) dX2_readPapers_49 (by decide) ?_
        exact w
      · replace w := w.2 c
        refine st_iconst (v := 1) dX2_readPapers_45 (by decide) ?_
        refine st_goto (tgt := 50) dX2_readPapers_46 (by decide) ?_
        exact w
set_option maxRecDepth 20000 in
set_option maxHeartbeats 2000000 in
theorem sX2_readPapers_50 {d : Nat} {h : am_H} {Z : Int32 → am_H → Prop} {a1 : Nat} (hb1 : am_bu a1) {a2 : Nat} (hb2 : am_la a2) {x3 : Int32} {u4 : Value} {u5 : Value} {s0 : Int32} (w : (s0 = 0 → Ru mX2_readPapers none d 83 [.ref 8, .ref a1, .ref a2, .int x3, u4, .int s0] [] h Z) ∧ (¬ (s0 = 0) → (vp_in x3 24 ∧ ((¬ (h.2.2 (a1 + 7) x3.toNatClampNeg) = 0 → Ru mX2_readPapers none d 83 [.ref 8, .ref a1, .ref a2, .int x3, u4, .int s0] [] h Z) ∧ ((h.2.2 (a1 + 7) x3.toNatClampNeg) = 0 → (∀ h2 : am_H, h2 = am_sR h (a1 + 7) (upd (h.2.2 (a1 + 7)) x3.toNatClampNeg 1) → (∀ h3 : am_H, h3 = am_sI h2 8 2 ((h2.1 8 2) + 1) → (Ru mX2_readPapers none d 83 [.ref 8, .ref a1, .ref a2, .int x3, u4, .int s0] [] h3 Z)))))))) : Ru mX2_readPapers none d 50 [.ref 8, .ref a1, .ref a2, .int x3, u4, u5] [.int s0] h Z := by
  refine st_istore (L' := [.ref 8, .ref a1, .ref a2, .int x3, u4, .int s0]) dX2_readPapers_50 (by decide) rfl ?_
  refine st_iload dX2_readPapers_52 rfl ?_
  refine st_if_eq (tgt := 83) dX2_readPapers_54 (by decide) (fun c => ?_) (fun c => ?_)
  · replace w := w.1 c
    exact w
  · replace w := w.2 c
    refine st_aload_n dX2_readPapers_57 rfl ?_
    refine st_getF (q := a1 + 7) fl_X2_79 fk_0_6 rfl dX2_readPapers_58 (bu_0 hb1) ?_
    refine st_iload_n dX2_readPapers_61 rfl ?_
    have hc1 := w.1
    replace w := w.2
    refine st_iald dX2_readPapers_62 (bu_7 hb1) hc1 ?_
    refine st_if_ne (tgt := 83) dX2_readPapers_63 (by decide) (fun c => ?_) (fun c => ?_)
    · replace w := w.1 c
      exact w
    · replace w := w.2 c
      refine st_aload_n dX2_readPapers_66 rfl ?_
      refine st_getF (q := a1 + 7) fl_X2_79 fk_0_6 rfl dX2_readPapers_67 (bu_0 hb1) ?_
      refine st_iload_n dX2_readPapers_70 rfl ?_
      refine st_iconst (v := 1) dX2_readPapers_71 (by decide) ?_
      refine st_iast dX2_readPapers_72 (bu_7 hb1) hc1 (fun h2 eh2 => ?_)
      replace w := w h2 eh2
      refine st_aload_n dX2_readPapers_73 rfl ?_
      refine st_dup dX2_readPapers_74 rfl ?_
      refine st_getI fl_X2_19 fk_2_2 dX2_readPapers_75 sh_8 ?_
      refine st_iconst (v := 1) dX2_readPapers_78 (by decide) ?_
      refine st_iadd dX2_readPapers_79 ?_
      refine st_putI flp_X2_19 fk_2_2 dX2_readPapers_80 sh_8 (fun h3 eh3 => ?_)
      replace w := w h3 eh3
      exact w
set_option maxRecDepth 20000 in
set_option maxHeartbeats 2000000 in
theorem sX2_readPapers_83 {d : Nat} {h : am_H} {Z : Int32 → am_H → Prop} {a1 : Nat} (hb1 : am_bu a1) {a2 : Nat} (hb2 : am_la a2) {x3 : Int32} {u4 : Value} {u5 : Value} (hd : 1 ≤ d) (w : (vp_in x3 24 ∧ (∀ h2 : am_H, h2 = am_sR h (a1 + 8) (upd (h.2.2 (a1 + 8)) x3.toNatClampNeg (am_min 9999 ((h.2.2 (a1 + 8) x3.toNatClampNeg) + 1))) → (Ru mX2_readPapers none d 2 [.ref 8, .ref a1, .ref a2, .int (x3 + 1), u4, u5] [] h2 Z)))) : Ru mX2_readPapers none d 83 [.ref 8, .ref a1, .ref a2, .int x3, u4, u5] [] h Z := by
  refine st_aload_n dX2_readPapers_83 rfl ?_
  refine st_getF (q := a1 + 8) fl_X2_82 fk_0_7 rfl dX2_readPapers_84 (bu_0 hb1) ?_
  refine st_iload_n dX2_readPapers_87 rfl ?_
  refine st_sipush (v := 9999) dX2_readPapers_88 (by decide) ?_
  refine st_aload_n dX2_readPapers_91 rfl ?_
  refine st_getF (q := a1 + 8) fl_X2_82 fk_0_7 rfl dX2_readPapers_92 (bu_0 hb1) ?_
  refine st_iload_n dX2_readPapers_95 rfl ?_
  have hc1 := w.1
  replace w := w.2
  refine st_iald dX2_readPapers_96 (bu_8 hb1) hc1 ?_
  refine st_iconst (v := 1) dX2_readPapers_97 (by decide) ?_
  refine st_iadd dX2_readPapers_98 ?_
  refine st_mmin dX2_readPapers_99 mk_min_X2_69 (by omega) rfl ?_
  refine st_iast dX2_readPapers_102 (bu_8 hb1) hc1 (fun h2 eh2 => ?_)
  replace w := w h2 eh2
  refine st_iinc (L' := [.ref 8, .ref a1, .ref a2, .int (x3 + 1), u4, u5]) dX2_readPapers_103 rfl rfl (by decide) rfl ?_
  refine st_goto (tgt := 2) dX2_readPapers_106 (by decide) ?_
  exact w
set_option maxRecDepth 20000 in
set_option maxHeartbeats 2000000 in
theorem sX2_pass_0 {d : Nat} {h : am_H} {Z : Int32 → am_H → Prop} {a1 : Nat} (hb1 : am_bu a1) {a2 : Nat} (hb2 : am_la a2) {x3 : Int32} (w : (∀ h1 : am_H, h1 = am_sI h 8 1 0 → (∀ h2 : am_H, h2 = am_sI h1 8 2 0 → (Ru mX2_pass none d 13 [.ref 8, .ref a1, .ref a2, .int x3, .int 0] [] h2 Z)))) : Ru mX2_pass none d 0 [.ref 8, .ref a1, .ref a2, .int x3, .null] [] h Z := by
  refine st_aload_n dX2_pass_0 rfl ?_
  refine st_iconst (v := 0) dX2_pass_1 (by decide) ?_
  refine st_putI flp_X2_15 fk_2_1 dX2_pass_2 sh_8 (fun h1 eh1 => ?_)
  replace w := w h1 eh1
  refine st_aload_n dX2_pass_5 rfl ?_
  refine st_iconst (v := 0) dX2_pass_6 (by decide) ?_
  refine st_putI flp_X2_19 fk_2_2 dX2_pass_7 sh_8 (fun h2 eh2 => ?_)
  replace w := w h2 eh2
  refine st_iconst (v := 0) dX2_pass_10 (by decide) ?_
  refine st_istore (L' := [.ref 8, .ref a1, .ref a2, .int x3, .int 0]) dX2_pass_11 (by decide) rfl ?_
  exact w
set_option maxRecDepth 20000 in
set_option maxHeartbeats 2000000 in
theorem sX2_pass_13 {d : Nat} {h : am_H} {Z : Int32 → am_H → Prop} {a1 : Nat} (hb1 : am_bu a1) {a2 : Nat} (hb2 : am_la a2) {x3 : Int32} {x4 : Int32} (w : (x3 ≤ x4 → Z 0 h) ∧ (¬ (x3 ≤ x4) → (9999 ≤ (h.1 a1 9) → Z 0 h) ∧ (¬ (9999 ≤ (h.1 a1 9)) → am_cl mX2_findStuck d [.ref 8, .ref a1, .ref a2] h (fun r1 h2 => am_cl mX2_putPapersIn d [.ref 8, .ref a1, .ref a2] h2 (fun r3 h4 => am_cl mX2_readPapers d [.ref 8, .ref a1, .ref a2] h4 (fun r5 h6 => (∀ h7 : am_H, h7 = am_sI h6 a1 9 ((h6.1 a1 9) + 1) → (Ru mX2_pass none d 13 [.ref 8, .ref a1, .ref a2, .int x3, .int (x4 + 1)] [] h7 Z)))))))) : Ru mX2_pass none d 13 [.ref 8, .ref a1, .ref a2, .int x3, .int x4] [] h Z := by
  refine st_iload dX2_pass_13 rfl ?_
  refine st_iload_n dX2_pass_15 rfl ?_
  refine st_icmp_ge (tgt := 63) dX2_pass_16 (by decide) (fun c => ?_) (fun c => ?_)
  · replace w := w.1 c
    exact st_return rfl dX2_pass_63 w
  · replace w := w.2 c
    refine st_aload_n dX2_pass_19 rfl ?_
    refine st_getI fl_X2_22 fk_0_9 dX2_pass_20 (bu_0 hb1) ?_
    refine st_sipush (v := 9999) dX2_pass_23 (by decide) ?_
    refine st_icmp_ge (tgt := 63) dX2_pass_26 (by decide) (fun c => ?_) (fun c => ?_)
    · replace w := w.1 c
      exact st_return rfl dX2_pass_63 w
    · replace w := w.2 c
      refine st_aload_n dX2_pass_29 rfl ?_
      refine st_aload_n dX2_pass_30 rfl ?_
      refine st_aload_n dX2_pass_31 rfl ?_
      refine st_callV (M' := mX2_findStuck) [.ref a1, .ref a2] [] dX2_pass_32 ml_X2_27 mf_X2_findStuck mv_X2_findStuck sh_8 rfl rfl rfl w (fun r1 h2 w => ?_)
      show Ru mX2_pass none d 35 [.ref 8, .ref a1, .ref a2, .int x3, .int x4] [] h2 Z
      refine st_aload_n dX2_pass_35 rfl ?_
      refine st_aload_n dX2_pass_36 rfl ?_
      refine st_aload_n dX2_pass_37 rfl ?_
      refine st_callV (M' := mX2_putPapersIn) [.ref a1, .ref a2] [] dX2_pass_38 ml_X2_31 mf_X2_putPapersIn mv_X2_putPapersIn sh_8 rfl rfl rfl w (fun r3 h4 w => ?_)
      show Ru mX2_pass none d 41 [.ref 8, .ref a1, .ref a2, .int x3, .int x4] [] h4 Z
      refine st_aload_n dX2_pass_41 rfl ?_
      refine st_aload_n dX2_pass_42 rfl ?_
      refine st_aload_n dX2_pass_43 rfl ?_
      refine st_callV (M' := mX2_readPapers) [.ref a1, .ref a2] [] dX2_pass_44 ml_X2_34 mf_X2_readPapers mv_X2_readPapers sh_8 rfl rfl rfl w (fun r5 h6 w => ?_)
      show Ru mX2_pass none d 47 [.ref 8, .ref a1, .ref a2, .int x3, .int x4] [] h6 Z
      refine st_aload_n dX2_pass_47 rfl ?_
      refine st_dup dX2_pass_48 rfl ?_
      refine st_getI fl_X2_22 fk_0_9 dX2_pass_49 (bu_0 hb1) ?_
      refine st_iconst (v := 1) dX2_pass_52 (by decide) ?_
      refine st_iadd dX2_pass_53 ?_
      refine st_putI flp_X2_22 fk_0_9 dX2_pass_54 (bu_0 hb1) (fun h7 eh7 => ?_)
      replace w := w h7 eh7
      refine st_iinc (L' := [.ref 8, .ref a1, .ref a2, .int x3, .int (x4 + 1)]) dX2_pass_57 rfl rfl (by decide) rfl ?_
      refine st_goto (tgt := 13) dX2_pass_60 (by decide) ?_
      exact w
theorem q_mw_r (L : am_AL) (B : am_AB) (t : Nat → Bool) (p : Nat) : (am_fd (q_mw L B t p) 0 12 (-1, 0)).1 = -1 ∨ ∃ i, i < 12 ∧ (am_fd (q_mw L B t p) 0 12 (-1, 0)).1 = nI i ∧ 0 < q_r B i ∧ q_si B p + q_F B i ≤ q_r B i := by
  refine am_fd_inv (R := fun _ (s : Int32 × Int32) => s.1 = -1 ∨ ∃ i, i < 12 ∧ s.1 = nI i ∧ 0 < q_r B i ∧ q_si B p + q_F B i ≤ q_r B i) 12 0 (-1, 0) (Or.inl rfl) (fun i a h1 h2 hr => ?_)
  unfold q_mw
  split
  · rename_i c
    exact Or.inr ⟨i, by omega, rfl, c.2.1.1, c.2.1.2⟩
  · exact hr
/-- one paper of (2) -/
def q_pu (L : am_AL) (t : Nat → Bool) (p : Nat) (s : am_AB × Int32) : am_AB × Int32 := if q_w s.1 p < 12 then s else if (am_fd (q_mw L s.1 t p) 0 12 (-1, 0)).1 < 0 then s else (q_mv s.1 p (am_fd (q_mw L s.1 t p) 0 12 (-1, 0)).1.toNatClampNeg, s.2 + 1)
abbrev q_a1 (B : am_AB) (p : Nat) : am_AB := (B.1, B.2.1, B.2.2.1, B.2.2.2.1, B.2.2.2.2.1, B.2.2.2.2.2.1, am_un (q_ag B) p (min 9999 (q_ag B p + 1)))
abbrev q_r1 (B : am_AB) (p : Nat) : am_AB := (B.1, B.2.1, B.2.2.1, B.2.2.2.1, B.2.2.2.2.1, am_un (q_rd B) p 1, B.2.2.2.2.2.2)
/-- is it read now -/
def q_rn (L : am_AL) (p : Nat) (B : am_AB) : Bool := decide (nI (q_dx (q_x B) % 10) < q_sy L (q_sx B (q_dx (q_x B))) 114 p (q_w B p) (nI (q_dx (q_x B) % 10)))
/-- one paper of (3) -/
def q_re (L : am_AL) (p : Nat) (s : am_AB × Int32) : am_AB × Int32 := if q_w s.1 p < 12 then (if q_rn L p s.1 = true then (q_a1 (q_r1 (q_sx s.1 (q_dx (q_x s.1))) p) p, if q_rd s.1 p = 0 then s.2 + 1 else s.2) else (q_a1 (q_sx s.1 (q_dx (q_x s.1))) p, s.2)) else s
abbrev q_sd (B : am_AB) : am_AB := ((B.1.1, B.1.2.1 + 1, B.1.2.2), B.2)
def q_s1 (L : am_AL) (B : am_AB) : am_AB × (Nat → Bool) := am_fd (q_sk L) 0 12 (B, fun _ => false)
def q_s2 (L : am_AL) (T : am_AB × Int32 × Int32) : am_AB × Int32 := am_fd (q_pu L (q_s1 L T.1).2) 0 (q_n (q_s1 L T.1).1) ((q_s1 L T.1).1, T.2.1)
def q_s3 (L : am_AL) (T : am_AB × Int32 × Int32) : am_AB × Int32 := am_fd (q_re L) 0 (q_n (q_s2 L T).1) ((q_s2 L T).1, T.2.2)
def q_day (L : am_AL) (T : am_AB × Int32 × Int32) : am_AB × Int32 × Int32 := (q_sd (q_s3 L T).1, (q_s2 L T).2, (q_s3 L T).2)
def q_dys (L : am_AL) : Nat → am_AB × Int32 × Int32 → am_AB × Int32 × Int32
  | 0, T => T
  | m + 1, T => if 9999 ≤ q_d T.1 then T else q_dys L m (q_day L T)
theorem q_dys_top (L : am_AL) (m : Nat) (T : am_AB × Int32 × Int32) (h : 9999 ≤ q_d T.1) : q_dys L m T = T := by
  cases m with
  | zero => rfl
  | succ m => exact if_pos h
theorem q_ok_a1 {B : am_AB} {p : Nat} (hB : q_ok B) (hw : q_w B p < 12) : q_ok (q_a1 B p) := by
  refine ⟨hB.1, hB.2.1, hB.2.2.1, hB.2.2.2.1, fun q hq => ?_⟩
  have h9 := hB.2.2.2.2 q hq
  refine ⟨h9.1, h9.2.1, h9.2.2.1, h9.2.2.2.1, ?_⟩
  show am_un _ _ _ q ≤ 9999 ∧ (q_w B q = 12 → am_un _ _ _ q = 0)
  unfold am_un
  by_cases c : q = p
  · rw [if_pos c]; exact ⟨Nat.min_le_left _ _, fun e => by rw [c] at e; omega⟩
  · rw [if_neg c]; exact h9.2.2.2.2
theorem q_ok_r1 {B : am_AB} {p : Nat} (hB : q_ok B) : q_ok (q_r1 B p) := by
  refine ⟨hB.1, hB.2.1, hB.2.2.1, hB.2.2.2.1, fun q hq => ?_⟩
  have h9 := hB.2.2.2.2 q hq
  refine ⟨h9.1, h9.2.1, h9.2.2.1, ?_, h9.2.2.2.2⟩
  show am_un _ _ _ q ≤ 1
  unfold am_un
  by_cases c : q = p
  · rw [if_pos c]; omega
  · rw [if_neg c]; exact h9.2.2.2.1
/-- what days never change -/
def q_sm (B B' : am_AB) : Prop := q_n B' = q_n B ∧ q_r B' = q_r B ∧ q_su B' = q_su B ∧ q_si B' = q_si B
theorem q_sm_rf (B : am_AB) : q_sm B B := ⟨rfl, rfl, rfl, rfl⟩
theorem q_sm_tr {A B C : am_AB} (p : q_sm A B) (q : q_sm B C) : q_sm A C := ⟨q.1.trans p.1, q.2.1.trans p.2.1, q.2.2.1.trans p.2.2.1, q.2.2.2.trans p.2.2.2⟩
theorem q_sk_i (L : am_AL) (i : Nat) {s : am_AB × (Nat → Bool)} (hB : q_ok s.1) : q_ok (q_sk L i s).1 ∧ q_sm s.1 (q_sk L i s).1 := by
  unfold q_sk
  split
  · exact ⟨q_ok_sx hB (q_dx_lt _), ⟨rfl, rfl, rfl, rfl⟩⟩
  · exact ⟨hB, q_sm_rf _⟩
theorem q_pu_i (L : am_AL) (t : Nat → Bool) {p : Nat} {s : am_AB × Int32} (hB : q_ok s.1) (hp : p < q_n s.1) : q_ok (q_pu L t p s).1 ∧ q_sm s.1 (q_pu L t p s).1 := by
  unfold q_pu
  split
  · exact ⟨hB, q_sm_rf _⟩
  · split
    · exact ⟨hB, q_sm_rf _⟩
    · rename_i c
      rcases q_mw_r L s.1 t p with e | ⟨i, hi, e, hr, hf⟩
      · rw [e] at c; exact absurd (by decide) c
      · rw [e, nI_clamp (by omega)]
        exact ⟨q_ok_mv hB hp hi hr hf, ⟨rfl, rfl, rfl, rfl⟩⟩
theorem q_re_i (L : am_AL) {p : Nat} {s : am_AB × Int32} (hB : q_ok s.1) : q_ok (q_re L p s).1 ∧ q_sm s.1 (q_re L p s).1 := by
  unfold q_re
  split
  · rename_i c
    have hB1 := q_ok_sx hB (q_dx_lt (q_x s.1))
    split
    · exact ⟨q_ok_a1 (q_ok_r1 hB1) c, ⟨rfl, rfl, rfl, rfl⟩⟩
    · exact ⟨q_ok_a1 hB1 c, ⟨rfl, rfl, rfl, rfl⟩⟩
  · exact ⟨hB, q_sm_rf _⟩
section
variable {d b g p : Nat} {h : am_H} {Z : Int32 → am_H → Prop} {B : am_AB} {L : am_AL} {t : Nat → Bool}
theorem q_fd_rf (b g : Nat) (h : am_H) : q_fd b g h h := ⟨fun _ _ _ _ _ => rfl, fun _ _ _ => rfl, rfl⟩
theorem q_fd_tr {h1 h2 : am_H} (p : q_fd b g h h1) (q : q_fd b g h1 h2) : q_fd b g h h2 := ⟨fun a n1 n2 n3 n4 => (q.1 a n1 n2 n3 n4).trans (p.1 a n1 n2 n3 n4), fun a n1 n2 => (q.2.1 a n1 n2).trans (p.2.1 a n1 n2), q.2.2.trans p.2.2⟩
theorem q_fd_i8 {h1 : am_H} {k : Nat} {x : Int32} (hf : q_fd b g h h1) : q_fd b g h (am_sI h1 8 k x) := ⟨hf.1, fun a n1 n2 => by
  have e : (am_sI h1 8 k x).1 a = h1.1 a := by
    show (if a = 8 then _ else _) = _
    rw [if_neg n2]
  rw [e]; exact hf.2.1 a n1 n2, hf.2.2⟩
theorem q_IC_i {a k : Nat} {x : Int32} (ha : b ≠ a) (hI : q_IC h b B) : q_IC (am_sI h a k x) b B := by
  have e : ∀ j, (am_sI h a k x).1 b j = h.1 b j := fun j => by rw [am_gI, if_neg (fun q => ha q.1)]
  exact ⟨by rw [e]; exact hI.1, by rw [e]; exact hI.2.1, by rw [e]; exact hI.2.2.1, hI.2.2.2⟩
theorem iX2_mostWished (hd : 10 ≤ d) (hb : am_bu b) (hg : am_la g) (hL : q_LC h g L) (hB : q_ok B) (hp : p < q_n B) (hI : q_IC h b B) (ht : ∀ j, j < 12 → (h.2.2 9 j = 0 ↔ t j = false)) (z : ∀ h', q_IC h' b B → q_fd b g h h' → (∀ j, j < 12 → (h'.2.2 9 j = 0 ↔ t j = false)) → h'.1 = h.1 → Z (am_fd (q_mw L B t p) 0 12 (-1, 0)).1 h') : Sp mX2_mostWished d [.ref 8, .ref b, .ref g, .int (nI p)] h Z :=
  Sp_of mf_X2_mostWished rfl (Nat.le_of_ble_eq_true rfl) rfl (sX2_mostWished_0 hb hg (x_mw hd hb hg hL hB hp z 12 0 (-1, 0) h .null (by omega) (Int32.le_refl _) hI (q_fd_rf b g h) ht rfl rfl))
theorem x_pin {n : Nat} {y : Int32} (hd : 12 ≤ d) (hb : am_bu b) (hg : am_la g) (hL : q_LC h g L) : ∀ (m k : Nat) (s : am_AB × Int32) (h1 : am_H) (u4 : Value), k + m = n → q_n s.1 = n → q_ok s.1 → q_IC h1 b s.1 → q_fd b g h h1 → (∀ j, j < 12 → (h1.2.2 9 j = 0 ↔ t j = false)) → h1.1 8 1 = s.2 → h1.1 8 2 = y → (∀ h' s', s' = am_fd (q_pu L t) k m s → q_ok s'.1 → q_n s'.1 = n → q_IC h' b s'.1 → q_fd b g h h' → h'.1 8 1 = s'.2 → h'.1 8 2 = y → Z 0 h') → Ru mX2_putPapersIn none d 2 [.ref 8, .ref b, .ref g, .int (nI k), u4] [] h1 Z
  | 0, k, s, h1, u4, hk, hn, hB, hI, hf, ht, e1, e2, z => by
    refine sX2_putPapersIn_2 hb hg (by omega) ⟨fun _ => z h1 s rfl hB hn hI hf e1 e2, fun c => absurd ?_ c⟩
    rw [hI.1, hn, show k = n by omega]; exact Int32.le_refl _
  | m + 1, k, s, h1, u4, hk, hn, hB, hI, hf, ht, e1, e2, z => by
    have hn24 := hB.1
    have hb9 : 9 < b := by rcases hb with rfl | rfl | rfl | rfl <;> omega
    have skip : ∀ (h1 : am_H) (u4 : Value), q_IC h1 b s.1 → q_fd b g h h1 → (∀ j, j < 12 → (h1.2.2 9 j = 0 ↔ t j = false)) → h1.1 8 1 = s.2 → h1.1 8 2 = y → q_pu L t k s = s → Ru mX2_putPapersIn none d 2 [.ref 8, .ref b, .ref g, .int (nI (k + 1)), u4] [] h1 Z := fun h1 u4 hI hf ht e1 e2 es =>
      x_pin hd hb hg hL m (k + 1) s h1 u4 (by omega) hn hB hI hf ht e1 e2 (fun h' s' q => z h' s' (by rw [am_fd_s, es]; exact q))
    refine sX2_putPapersIn_2 hb hg (by omega) ⟨fun c => absurd c (by rw [hI.1]; exact nI_ge (by omega) (by omega)), fun _ => ?_⟩
    rw [q_in hI hB (by omega), nI_1]
    refine ⟨fun c => skip h1 u4 hI hf ht e1 e2 (if_pos c), fun c => ⟨11, by omega, iX2_mostWished (by omega) hb hg (q_LC_fd hb hg hf hL) hB (by omega) hI ht (fun h2 hI2 hf2 ht2 hi2 => ?_)⟩⟩
    rcases q_mw_r L s.1 t k with e | ⟨i, hi, e, hr, hfit⟩
    · rw [e]
      exact ⟨fun _ => skip h2 _ hI2 (q_fd_tr hf hf2) ht2 (by rw [hi2]; exact e1) (by rw [hi2]; exact e2) (by unfold q_pu; rw [if_neg c, if_pos (by rw [e]; decide)]), fun q => absurd (by decide) q⟩
    · rw [e]
      have es : q_pu L t k s = (q_mv s.1 k i, s.2 + 1) := by unfold q_pu; rw [if_neg c, if_neg (by rw [e]; exact nI_pos (by omega)), e, nI_clamp (by omega)]
      refine ⟨fun q => absurd q (nI_pos (by omega)), fun _ => ⟨11, by omega, iX0_move (by omega) hb hI2 hB (by omega) hi hr hfit (fun h4 hI4 hf4 h5 e5 => ?_)⟩⟩
      subst e5
      have k8 : ∀ j, h4.1 8 j = h1.1 8 j := fun j => by rw [(hf4.1 8 (by omega)).1, hi2]
      refine x_pin hd hb hg hL m (k + 1) (q_pu L t k s) _ _ (by omega) (by rw [es]; exact hn) (by rw [es]; exact q_ok_mv hB (by omega) hi hr hfit) (by rw [es]; exact q_IC_i (by omega) hI4) (q_fd_i8 (q_fd_fr (q_fd_tr hf hf2) hf4)) (fun j hj => ?_) ?_ ?_ z
      · rw [am_gI2, (hf4.1 9 (by omega)).2]; exact ht2 j hj
      · rw [am_gI, if_pos ⟨rfl, rfl⟩, k8, e1, es]
      · rw [am_gI, if_neg (fun q => by omega), k8]; exact e2
theorem q_IC_a1 (hI : q_IC h b B) (hB : q_ok B) (hp : p < q_n B) : q_IC (am_sR h (b + 8) (upd (h.2.2 (b + 8)) p (am_min 9999 (h.2.2 (b + 8) p + 1)))) b (q_a1 B p) := by
  have ha := (hB.2.2.2.2 p hp).2.2.2.2.1
  refine ⟨hI.1, hI.2.1, hI.2.2.1, fun i hi => ?_, fun q hq => ?_⟩
  · simp only [am_gRb, Nat.reduceEqDiff, reduceIte]; exact hI.2.2.2.1 i hi
  · have h9 := hI.2.2.2.2 q hq
    simp only [am_gRb, Nat.reduceEqDiff, reduceIte]
    refine ⟨h9.1, h9.2.1, h9.2.2.1, h9.2.2.2.1, ?_⟩
    show upd _ _ _ q = nI (am_un _ _ _ q)
    unfold upd
    by_cases c : q = p
    · rw [if_pos c, c, am_un_s, (hI.2.2.2.2 p hp).2.2.2.2, nI_1, show (9999 : Int32) = nI 9999 from rfl, q_min (by omega) (by omega)]
    · rw [if_neg c, am_un_n _ _ c]; exact h9.2.2.2.2
theorem q_IC_r1 (hI : q_IC h b B) : q_IC (am_sR h (b + 7) (upd (h.2.2 (b + 7)) p 1)) b (q_r1 B p) := by
  refine ⟨hI.1, hI.2.1, hI.2.2.1, fun i hi => ?_, fun q hq => ?_⟩
  · simp only [am_gRb, Nat.reduceEqDiff, reduceIte]; exact hI.2.2.2.1 i hi
  · have h9 := hI.2.2.2.2 q hq
    simp only [am_gRb, Nat.reduceEqDiff, reduceIte]
    refine ⟨h9.1, h9.2.1, h9.2.2.1, ?_, h9.2.2.2.2⟩
    show upd _ _ _ q = nI (am_un _ _ _ q)
    unfold upd
    by_cases c : q = p
    · rw [if_pos c, c, am_un_s]; rfl
    · rw [if_neg c, am_un_n _ _ c]; exact h9.2.2.2.1
theorem q_r1_id (e : q_rd B p = 1) : q_r1 B p = B := by
  have : am_un (q_rd B) p 1 = q_rd B := by
    funext j; unfold am_un; by_cases c : j = p
    · simp [c, e]
    · simp [c]
  show (B.1, B.2.1, B.2.2.1, B.2.2.2.1, B.2.2.2.2.1, am_un (q_rd B) p 1, _) = B
  rw [this]
theorem x_rdp {n : Nat} {y : Int32} (hd : 12 ≤ d) (hb : am_bu b) (hg : am_la g) (hL : q_LC h g L) : ∀ (m k : Nat) (s : am_AB × Int32) (h1 : am_H) (u4 u5 : Value), k + m = n → q_n s.1 = n → q_ok s.1 → q_IC h1 b s.1 → q_fd b g h h1 → h1.1 8 2 = s.2 → h1.1 8 1 = y → (∀ h' s', s' = am_fd (q_re L) k m s → q_ok s'.1 → q_n s'.1 = n → q_IC h' b s'.1 → q_fd b g h h' → h'.1 8 2 = s'.2 → h'.1 8 1 = y → Z 0 h') → Ru mX2_readPapers none d 2 [.ref 8, .ref b, .ref g, .int (nI k), u4, u5] [] h1 Z
  | 0, k, s, h1, u4, u5, hk, hn, hB, hI, hf, e1, e2, z => by
    refine sX2_readPapers_2 hb hg (by omega) ⟨fun _ => z h1 s rfl hB hn hI hf e1 e2, fun c => absurd ?_ c⟩
    rw [hI.1, hn, show k = n by omega]; exact Int32.le_refl _
  | m + 1, k, s, h1, u4, u5, hk, hn, hB, hI, hf, e1, e2, z => by
    have hn24 := hB.1
    have hbg : b + 8 < g ∧ 9 < b := by rcases hb with rfl | rfl | rfl | rfl <;> rcases hg with rfl | rfl <;> omega
    have hB1 := q_ok_sx hB (q_dx_lt (q_x s.1))
    have go : ∀ (s1 : am_AB × Int32) (h1 : am_H) (u4 u5 : Value), q_re L k s = s1 → q_n s1.1 = n → q_ok s1.1 → q_IC h1 b s1.1 → q_fd b g h h1 → h1.1 8 2 = s1.2 → h1.1 8 1 = y → Ru mX2_readPapers none d 2 [.ref 8, .ref b, .ref g, .int (nI (k + 1)), u4, u5] [] h1 Z := fun s1 h1 u4 u5 es hn hB hI hf e1 e2 =>
      x_rdp hd hb hg hL m (k + 1) s1 h1 u4 u5 (by omega) hn hB hI hf e1 e2 (fun h' s' q => z h' s' (by rw [am_fd_s, es]; exact q))
    refine sX2_readPapers_2 hb hg (by omega) ⟨fun c => absurd c (by rw [hI.1]; exact nI_ge (by omega) (by omega)), fun _ => ?_⟩
    rw [q_in hI hB (by omega), nI_1]
    refine ⟨fun c => go s h1 _ _ (if_neg c) hn hB hI hf e1 e2, fun c => ⟨11, by omega, iX0_draw hb hI hB (fun h3 e3 hI3 hf3 => ⟨vp_in_nI (by omega) (by omega), ?_⟩)⟩⟩
    have hr : 0 < q_r s.1 (q_w s.1 k) := by rcases (hB.2.2.2.2 k (by omega)).2.2.1 with q | q; omega; exact q.2
    have hp3 : k < q_n (q_sx s.1 (q_dx (q_x s.1))) := by show k < q_n s.1; omega
    have hf' := q_fd_fr hf hf3
    have w6 : h3.2.2 (b + 6) k = nI (q_w s.1 k) := ((hI3.2.2.2.2 k hp3).2.2.1).trans (q_w2_in c)
    rw [nI_clamp (by omega), w6]
    refine ⟨11, by omega, iX3_valueOf (kd := 114) (p := k) (i := q_w s.1 k) (by omega) hg hb hI3 hB1 (q_LC_fd hb hg hf' hL) (by omega) (by omega) (Or.inl hp3) c hr (fun f1 f2 => ?_)⟩
    have hI5 : q_IC (am_sR (am_sR h3 (g + 7) f1) (g + 6) f2) b (q_sx s.1 (q_dx (q_x s.1))) := q_IC_r (by omega) (q_IC_r (by omega) hI3)
    have hf5 : q_fd b g h (am_sR (am_sR h3 (g + 7) f1) (g + 6) f2) := q_fd_sR (q_fd_sR hf' (by omega)) (by omega)
    have k5 : ∀ j, (am_sR (am_sR h3 (g + 7) f1) (g + 6) f2).1 8 j = h1.1 8 j := fun j => by rw [am_gRi, am_gRi, (hf3.1 8 (by omega)).1]
    generalize am_sR (am_sR h3 (g + 7) f1) (g + 6) f2 = h5 at hI5 hf5 k5 ⊢
    -- behind the test
    have last : ∀ (B2 : am_AB) (v : Int32) (h6 : am_H) (u4 u5 : Value), q_re L k s = (q_a1 B2 k, v) → q_n B2 = n → q_ok B2 → q_w B2 k < 12 → q_IC h6 b B2 → q_fd b g h h6 → h6.1 8 2 = v → h6.1 8 1 = y → Ru mX2_readPapers none d 83 [.ref 8, .ref b, .ref g, .int (nI k), u4, u5] [] h6 Z := fun B2 v h6 u4 u5 es hn2 hB2 hw2 hI6 hf6 e61 e62 => by
      refine sX2_readPapers_83 hb hg (by omega) ⟨vp_in_nI (by omega) (by omega), fun h7 e7 => ?_⟩
      rw [nI_clamp (by omega)] at e7
      subst e7
      rw [nI_1]
      exact go _ _ _ _ es hn2 (q_ok_a1 hB2 hw2) (q_IC_a1 hI6 hB2 (by omega)) (q_fd_fr hf6 (am_fr_sR (am_fr_rf b h6) (by omega))) e61 e62
    refine ⟨fun c2 => ?_, fun c2 => ?_⟩
    · have rn : q_rn L k s.1 = false := by unfold q_rn; exact decide_eq_false (Int32.not_lt.mpr c2)
      have es : q_re L k s = (q_a1 (q_sx s.1 (q_dx (q_x s.1))) k, s.2) := by unfold q_re; rw [if_pos c, rn]; rfl
      refine sX2_readPapers_50 hb hg ⟨fun _ => ?_, fun q => absurd rfl q⟩
      exact last _ _ h5 _ _ es hn hB1 c hI5 hf5 (by rw [k5]; exact e1) (by rw [k5]; exact e2)
    · have rn : q_rn L k s.1 = true := by unfold q_rn; exact decide_eq_true (Int32.not_le.mp c2)
      have es : q_re L k s = (q_a1 (q_r1 (q_sx s.1 (q_dx (q_x s.1))) k) k, if q_rd s.1 k = 0 then s.2 + 1 else s.2) := by unfold q_re; rw [if_pos c, rn]; rfl
      have h01 := (hB.2.2.2.2 k (by omega)).2.2.2.1
      refine sX2_readPapers_50 hb hg ⟨fun q => absurd q (by decide), fun _ => ⟨vp_in_nI (by omega) (by omega), ?_⟩⟩
      have w7 : h5.2.2 (b + 7) k = nI (q_rd s.1 k) := (hI5.2.2.2.2 k hp3).2.2.2.1
      rw [nI_clamp (by omega), w7]
      refine ⟨fun q => ?_, fun q h6 e6 h7 e7 => ?_⟩
      · have r1 : q_rd s.1 k = 1 := by
          rcases Nat.lt_or_ge 0 (q_rd s.1 k) with x | x
          · omega
          · exact absurd (by rw [show q_rd s.1 k = 0 by omega]; rfl) q
        refine last _ _ h5 _ _ es hn (q_ok_r1 hB1) c ?_ hf5 (by rw [k5, if_neg (by omega)]; exact e1) (by rw [k5]; exact e2)
        have key : ∀ v, q_r1 (q_sx s.1 v) k = q_sx s.1 v := fun v => q_r1_id (B := q_sx s.1 v) r1
        rw [key]; exact hI5
      · have r0 : q_rd s.1 k = 0 := (nI_eq (b := 0) (by omega) (by omega)).mp q
        subst e6
        subst e7
        refine last _ _ _ _ _ es hn (q_ok_r1 hB1) c (q_IC_i (by omega) (q_IC_r1 hI5)) (q_fd_i8 (q_fd_fr hf5 (am_fr_sR (am_fr_rf b h5) (by omega)))) ?_ ?_
        · rw [am_gI, if_pos ⟨rfl, rfl⟩, am_gRi, k5, e1, if_pos r0]
        · rw [am_gI, if_neg (fun q => by omega), am_gRi, k5]; exact e2
end
section
variable {d b g : Nat} {h : am_H} {Z : Int32 → am_H → Prop} {L : am_AL}
theorem x_pas {n : Nat} (hd : 14 ≤ d) (hn : n ≤ 100) (hb : am_bu b) (hg : am_la g) (hL : q_LC h g L) : ∀ (m k : Nat) (T : am_AB × Int32 × Int32) (h1 : am_H), k + m = n → q_ok T.1 → q_IC h1 b T.1 → q_fd b g h h1 → h1.1 8 1 = T.2.1 → h1.1 8 2 = T.2.2 → (∀ h' T', T' = q_dys L m T → q_ok T'.1 → q_IC h' b T'.1 → q_fd b g h h' → h'.1 8 1 = T'.2.1 → h'.1 8 2 = T'.2.2 → Z 0 h') → Ru mX2_pass none d 13 [.ref 8, .ref b, .ref g, .int (nI n), .int (nI k)] [] h1 Z
  | 0, k, T, h1, hk, hB, hI, hf, e1, e2, z => by
    refine sX2_pass_13 hb hg ⟨fun _ => z h1 T rfl hB hI hf e1 e2, fun c => absurd ?_ c⟩
    rw [show k = n by omega]; exact Int32.le_refl _
  | m + 1, k, T, h1, hk, hB, hI, hf, e1, e2, z => by
    have hb9 : 9 < b := by rcases hb with rfl | rfl | rfl | rfl <;> omega
    have hdd := hB.2.1
    refine sX2_pass_13 hb hg ⟨fun c => absurd c (nI_ge (by omega) (by omega)), fun _ => ?_⟩
    rw [hI.2.1, nI_1, show (9999 : Int32) = nI 9999 from rfl, nI_leI (by omega) (by omega)]
    refine ⟨fun c => z h1 T (q_dys_top L _ T c).symm hB hI hf e1 e2, fun c => ⟨13, by omega, ?_⟩⟩
    have ed : q_dys L (m + 1) T = q_dys L m (q_day L T) := if_neg c
    refine Sp_of mf_X2_findStuck rfl (Nat.le_of_ble_eq_true rfl) rfl (sX2_findStuck_0 hb hg (x_stk (d := 13) (by omega) hb hg (q_LC_fd hb hg hf hL) 12 0 (T.1, fun _ => false) h1 (by omega) hB hI (q_fd_rf b g h1) rfl (fun j hj => absurd hj (Nat.not_lt_zero j)) (fun h2 s1 es1 hB2 hI2 hf2 h82 ht2 => ?_)))
    have es1' : s1 = q_s1 L T.1 := es1
    refine ⟨13, by omega, Sp_of mf_X2_putPapersIn rfl (Nat.le_of_ble_eq_true rfl) rfl (sX2_putPapersIn_0 hb hg (x_pin (h := h) (d := 13) (t := s1.2) (n := q_n s1.1) (y := T.2.2) (by omega) hb hg hL (q_n s1.1) 0 (s1.1, T.2.1) h2 _ (by omega) rfl hB2 hI2 (q_fd_tr hf hf2) ht2 (by rw [h82]; exact e1) (by rw [h82]; exact e2) (fun h4 s2 es2 hB4 hn4 hI4 hf4 e41 e42 => ?_)))⟩
    have es2' : s2 = q_s2 L T := by rw [es2, es1']; rfl
    refine ⟨13, by omega, Sp_of mf_X2_readPapers rfl (Nat.le_of_ble_eq_true rfl) rfl (sX2_readPapers_0 hb hg (x_rdp (h := h) (d := 13) (n := q_n s2.1) (y := s2.2) (by omega) hb hg hL (q_n s2.1) 0 (s2.1, T.2.2) h4 _ _ (by omega) rfl hB4 hI4 hf4 e42 e41 (fun h6 s3 es3 hB6 hn6 hI6 hf6 e61 e62 h7 e7 => ?_)))⟩
    have es3' : s3 = q_s3 L T := by rw [es3, es2']; rfl
    subst e7
    have et : q_day L T = (q_sd s3.1, s2.2, s3.2) := by unfold q_day; rw [es2', es3']
    have hd6 : q_d s3.1 = q_d T.1 := by
      have a1 : q_d s1.1 = q_d T.1 := by
        rw [es1]; exact am_fd_inv (R := fun _ (s : am_AB × (Nat → Bool)) => q_d s.1 = q_d T.1) 12 0 (T.1, fun _ => false) rfl (fun i a _ _ q => by unfold q_sk; split <;> exact q)
      have a2 : q_d s2.1 = q_d s1.1 := by
        rw [es2]; exact am_fd_inv (R := fun _ (s : am_AB × Int32) => q_d s.1 = q_d s1.1) (q_n s1.1) 0 (s1.1, T.2.1) rfl (fun i a _ _ q => by unfold q_pu; split; exact q; split <;> exact q)
      have a3 : q_d s3.1 = q_d s2.1 := by
        rw [es3]; exact am_fd_inv (R := fun _ (s : am_AB × Int32) => q_d s.1 = q_d s2.1) (q_n s2.1) 0 (s2.1, T.2.2) rfl (fun i a _ _ q => by unfold q_re; split; split <;> exact q; exact q)
      rw [a3, a2, a1]
    rw [hI6.2.1, nI_1]
    refine x_pas hd hn hb hg hL m (k + 1) (q_day L T) _ (by omega) ?_ ?_ ?_ ?_ ?_ (fun h' T' q => z h' T' (by rw [ed]; exact q))
    · rw [et]; exact ⟨hB6.1, by show q_d s3.1 + 1 ≤ 9999; omega, hB6.2.2⟩
    · rw [et]
      refine ⟨?_, ?_, ?_, hI6.2.2.2⟩
      · rw [am_gI, if_neg (fun q => by omega)]; exact hI6.1
      · rw [am_gI, if_pos ⟨rfl, rfl⟩]
      · rw [am_gI, if_neg (fun q => by omega)]; exact hI6.2.2.1
    · exact q_fd_fr hf6 (am_fr_sI (am_fr_rf b h6))
    · rw [am_gI, if_neg (fun q => by omega), et]; exact e62
    · rw [am_gI, if_neg (fun q => by omega), et]; exact e61
theorem iX2_pass {n : Nat} {B : am_AB} (hd : 14 ≤ d) (hn : n ≤ 100) (hb : am_bu b) (hg : am_la g) (hL : q_LC h g L) (hB : q_ok B) (hI : q_IC h b B) (z : ∀ h' T', T' = q_dys L n (B, 0, 0) → q_ok T'.1 → q_IC h' b T'.1 → q_fd b g h h' → h'.1 8 1 = T'.2.1 → h'.1 8 2 = T'.2.2 → Z 0 h') : Sp mX2_pass d [.ref 8, .ref b, .ref g, .int (nI n)] h Z := by
  have hb9 : 9 < b := by rcases hb with rfl | rfl | rfl | rfl <;> omega
  refine Sp_of mf_X2_pass rfl (Nat.le_of_ble_eq_true rfl) rfl (sX2_pass_0 hb hg (fun h1 e1 h2 e2 => ?_))
  subst e1
  subst e2
  exact x_pas hd hn hb hg hL n 0 (B, 0, 0) _ (by omega) hB (q_IC_i (by omega) (q_IC_i (by omega) hI)) (q_fd_i8 (q_fd_i8 (q_fd_rf b g h))) (by rw [am_gI, if_neg (fun q => by omega), am_gI, if_pos ⟨rfl, rfl⟩]) (by rw [am_gI, if_pos ⟨rfl, rfl⟩]) z
end
