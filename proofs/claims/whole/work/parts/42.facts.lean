-- facts, draws
set_option maxRecDepth 20000 in
set_option maxHeartbeats 2000000 in
theorem sX3_tellFacts_0 {d : Nat} {h : am_H} {Z : Int32 → am_H → Prop} {a0 : Nat} (hb0 : am_la a0) {a1 : Nat} (hb1 : am_bu a1) {x2 : Int32} {x3 : Int32} {x4 : Int32} (hd : 2 ≤ d) (w : (∀ h1 : am_H, h1 = am_sR h (a0 + 7) (upd (h.2.2 (a0 + 7)) 0 x2) → ((¬ (am_pap h a1 x2) → Ru mX3_tellFacts none d 42 [.ref a0, .ref a1, .int x2, .int x3, .int x4, .int (am_b (am_pap h a1 x2)), .int (am_b (am_told h a1 x3))] [.int 16, .int 1, .ref (a0 + 7)] h1 Z) ∧ (am_pap h a1 x2 → (vp_in x2 24 ∧ (Ru mX3_tellFacts none d 42 [.ref a0, .ref a1, .int x2, .int x3, .int x4, .int (am_b (am_pap h a1 x2)), .int (am_b (am_told h a1 x3))] [.int (h1.2.2 (a1 + 4) x2.toNatClampNeg), .int 1, .ref (a0 + 7)] h1 Z)))))) : Ru mX3_tellFacts none d 0 [.ref a0, .ref a1, .int x2, .int x3, .int x4, .null, .null] [] h Z := by
  refine st_aload_n dX3_tellFacts_0 rfl ?_
  refine st_iload_n dX3_tellFacts_1 rfl ?_
  refine st_callV (M' := mX0_hasPaper) [.int x2] [] dX3_tellFacts_2 ml_X3_56 mf_X0_hasPaper mv_X0_hasPaper (bu_0 hb1) rfl rfl rfl (K := fun r h' => (am_b (am_pap h a1 x2)) = r ∧ h = h') ⟨1, by omega, iX0_hasPaper hb1 ⟨rfl, rfl⟩⟩ (fun r1 h1 w1 => ?_)
  obtain ⟨rfl, rfl⟩ := w1
  show Ru mX3_tellFacts none d 5 [.ref a0, .ref a1, .int x2, .int x3, .int x4, .null, .null] [.int (am_b (am_pap h a1 x2))] h Z
  refine st_istore (L' := [.ref a0, .ref a1, .int x2, .int x3, .int x4, .int (am_b (am_pap h a1 x2)), .null]) dX3_tellFacts_5 (by decide) rfl ?_
  refine st_aload_n dX3_tellFacts_7 rfl ?_
  refine st_iload_n dX3_tellFacts_8 rfl ?_
  refine st_callV (M' := mX0_isTold) [.int x3] [] dX3_tellFacts_9 ml_X3_62 mf_X0_isTold mv_X0_isTold (bu_0 hb1) rfl rfl rfl (K := fun r h' => (am_b (am_told h a1 x3)) = r ∧ h = h') ⟨1, by omega, iX0_isTold hb1 ⟨rfl, rfl⟩⟩ (fun r1 h1 w1 => ?_)
  obtain ⟨rfl, rfl⟩ := w1
  show Ru mX3_tellFacts none d 12 [.ref a0, .ref a1, .int x2, .int x3, .int x4, .int (am_b (am_pap h a1 x2)), .null] [.int (am_b (am_told h a1 x3))] h Z
  refine st_istore (L' := [.ref a0, .ref a1, .int x2, .int x3, .int x4, .int (am_b (am_pap h a1 x2)), .int (am_b (am_told h a1 x3))]) dX3_tellFacts_12 (by decide) rfl ?_
  refine st_aload_n dX3_tellFacts_14 rfl ?_
  refine st_getF (q := a0 + 7) fl_X3_30 fk_3_6 rfl dX3_tellFacts_15 (la_0 hb0) ?_
  refine st_iconst (v := 0) dX3_tellFacts_18 (by decide) ?_
  refine st_iload_n dX3_tellFacts_19 rfl ?_
  refine st_iast dX3_tellFacts_20 (la_7 hb0) (by unfold vp_in; decide +kernel) (fun h1 eh1 => ?_)
  replace w := w h1 eh1
  refine st_aload_n dX3_tellFacts_21 rfl ?_
  refine st_getF (q := a0 + 7) fl_X3_30 fk_3_6 rfl dX3_tellFacts_22 (la_0 hb0) ?_
  refine st_iconst (v := 1) dX3_tellFacts_25 (by decide) ?_
  refine st_iload dX3_tellFacts_26 rfl ?_
  refine st_ifb_eq (tgt := 40) dX3_tellFacts_28 (by decide) (fun c => ?_) (fun c => ?_)
  · replace w := w.1 c
    refine st_bipush (v := 16) dX3_tellFacts_40 (by decide) ?_
    exact w
  · replace w := w.2 c
    refine st_aload_n dX3_tellFacts_31 rfl ?_
    refine st_getF (q := a1 + 4) fl_X3_65 fk_0_3 rfl dX3_tellFacts_32 (bu_0 hb1) ?_
    refine st_iload_n dX3_tellFacts_35 rfl ?_
    have hc2 := w.1
    replace w := w.2
    refine st_iald dX3_tellFacts_36 (bu_4 hb1) hc2 ?_
    refine st_goto (tgt := 42) dX3_tellFacts_37 (by decide) ?_
    exact w
set_option maxRecDepth 20000 in
set_option maxHeartbeats 2000000 in
theorem sX3_tellFacts_42 {d : Nat} {h : am_H} {Z : Int32 → am_H → Prop} {a0 : Nat} (hb0 : am_la a0) {a1 : Nat} (hb1 : am_bu a1) {x2 : Int32} {x3 : Int32} {x4 : Int32} {x5 : Int32} {x6 : Int32} {s0 : Int32} {s1 : Int32} {q2 : Nat} (hq2 : am_sh q2 = .inl (.int, 10)) (w : (vp_in s1 10 ∧ (∀ h2 : am_H, h2 = am_sR h q2 (upd (h.2.2 q2) s1.toNatClampNeg s0) → ((x5 = 0 → Ru mX3_tellFacts none d 63 [.ref a0, .ref a1, .int x2, .int x3, .int x4, .int x5, .int x6] [.int 0, .int 2, .ref (a0 + 7)] h2 Z) ∧ (¬ (x5 = 0) → (vp_in x2 24 ∧ (Ru mX3_tellFacts none d 63 [.ref a0, .ref a1, .int x2, .int x3, .int x4, .int x5, .int x6] [.int (h2.2.2 (a1 + 5) x2.toNatClampNeg), .int 2, .ref (a0 + 7)] h2 Z))))))) : Ru mX3_tellFacts none d 42 [.ref a0, .ref a1, .int x2, .int x3, .int x4, .int x5, .int x6] [.int s0, .int s1, .ref q2] h Z := by
  have hc1 := w.1
  replace w := w.2
  refine st_iast dX3_tellFacts_42 hq2 hc1 (fun h2 eh2 => ?_)
  replace w := w h2 eh2
  refine st_aload_n dX3_tellFacts_43 rfl ?_
  refine st_getF (q := a0 + 7) fl_X3_30 fk_3_6 rfl dX3_tellFacts_44 (la_0 hb0) ?_
  refine st_iconst (v := 2) dX3_tellFacts_47 (by decide) ?_
  refine st_iload dX3_tellFacts_48 rfl ?_
  refine st_if_eq (tgt := 62) dX3_tellFacts_50 (by decide) (fun c => ?_) (fun c => ?_)
  · replace w := w.1 c
    refine st_iconst (v := 0) dX3_tellFacts_62 (by decide) ?_
    exact w
  · replace w := w.2 c
    refine st_aload_n dX3_tellFacts_53 rfl ?_
    refine st_getF (q := a1 + 5) fl_X3_68 fk_0_4 rfl dX3_tellFacts_54 (bu_0 hb1) ?_
    refine st_iload_n dX3_tellFacts_57 rfl ?_
    have hc3 := w.1
    replace w := w.2
    refine st_iald dX3_tellFacts_58 (bu_5 hb1) hc3 ?_
    refine st_goto (tgt := 63) dX3_tellFacts_59 (by decide) ?_
    exact w
set_option maxRecDepth 20000 in
set_option maxHeartbeats 2000000 in
theorem sX3_tellFacts_63 {d : Nat} {h : am_H} {Z : Int32 → am_H → Prop} {a0 : Nat} (hb0 : am_la a0) {a1 : Nat} (hb1 : am_bu a1) {x2 : Int32} {x3 : Int32} {x4 : Int32} {x5 : Int32} {x6 : Int32} {s0 : Int32} {s1 : Int32} {q2 : Nat} (hq2 : am_sh q2 = .inl (.int, 10)) (w : (vp_in s1 10 ∧ (∀ h2 : am_H, h2 = am_sR h q2 (upd (h.2.2 q2) s1.toNatClampNeg s0) → (∀ h3 : am_H, h3 = am_sR h2 (a0 + 7) (upd (h2.2.2 (a0 + 7)) 3 x3) → ((x6 = 0 → Ru mX3_tellFacts none d 98 [.ref a0, .ref a1, .int x2, .int x3, .int x4, .int x5, .int x6] [.int 0, .int 4, .ref (a0 + 7)] h3 Z) ∧ (¬ (x6 = 0) → (vp_in x3 12 ∧ (Ru mX3_tellFacts none d 98 [.ref a0, .ref a1, .int x2, .int x3, .int x4, .int x5, .int x6] [.int ((h3.2.2 (a1 + 1) x3.toNatClampNeg) - (h3.2.2 (a1 + 2) x3.toNatClampNeg)), .int 4, .ref (a0 + 7)] h3 Z)))))))) : Ru mX3_tellFacts none d 63 [.ref a0, .ref a1, .int x2, .int x3, .int x4, .int x5, .int x6] [.int s0, .int s1, .ref q2] h Z := by
  have hc1 := w.1
  replace w := w.2
  refine st_iast dX3_tellFacts_63 hq2 hc1 (fun h2 eh2 => ?_)
  replace w := w h2 eh2
  refine st_aload_n dX3_tellFacts_64 rfl ?_
  refine st_getF (q := a0 + 7) fl_X3_30 fk_3_6 rfl dX3_tellFacts_65 (la_0 hb0) ?_
  refine st_iconst (v := 3) dX3_tellFacts_68 (by decide) ?_
  refine st_iload_n dX3_tellFacts_69 rfl ?_
  refine st_iast dX3_tellFacts_70 (la_7 hb0) (by unfold vp_in; decide +kernel) (fun h3 eh3 => ?_)
  replace w := w h3 eh3
  refine st_aload_n dX3_tellFacts_71 rfl ?_
  refine st_getF (q := a0 + 7) fl_X3_30 fk_3_6 rfl dX3_tellFacts_72 (la_0 hb0) ?_
  refine st_iconst (v := 4) dX3_tellFacts_75 (by decide) ?_
  refine st_iload dX3_tellFacts_76 rfl ?_
  refine st_if_eq (tgt := 97) dX3_tellFacts_78 (by decide) (fun c => ?_) (fun c => ?_)
  · replace w := w.1 c
    refine st_iconst (v := 0) dX3_tellFacts_97 (by decide) ?_
    exact w
  · replace w := w.2 c
    refine st_aload_n dX3_tellFacts_81 rfl ?_
    refine st_getF (q := a1 + 1) fl_X3_71 fk_0_0 rfl dX3_tellFacts_82 (bu_0 hb1) ?_
    refine st_iload_n dX3_tellFacts_85 rfl ?_
    have hc4 := w.1
    replace w := w.2
    refine st_iald dX3_tellFacts_86 (bu_1 hb1) hc4 ?_
    refine st_aload_n dX3_tellFacts_87 rfl ?_
    refine st_getF (q := a1 + 2) fl_X3_74 fk_0_1 rfl dX3_tellFacts_88 (bu_0 hb1) ?_
    refine st_iload_n dX3_tellFacts_91 rfl ?_
    refine st_iald dX3_tellFacts_92 (bu_2 hb1) hc4 ?_
    refine st_isub dX3_tellFacts_93 ?_
    refine st_goto (tgt := 98) dX3_tellFacts_94 (by decide) ?_
    exact w
set_option maxRecDepth 20000 in
set_option maxHeartbeats 2000000 in
theorem sX3_tellFacts_98 {d : Nat} {h : am_H} {Z : Int32 → am_H → Prop} {a0 : Nat} (hb0 : am_la a0) {a1 : Nat} (hb1 : am_bu a1) {x2 : Int32} {x3 : Int32} {x4 : Int32} {x5 : Int32} {x6 : Int32} {s0 : Int32} {s1 : Int32} {q2 : Nat} (hq2 : am_sh q2 = .inl (.int, 10)) (w : (vp_in s1 10 ∧ (∀ h2 : am_H, h2 = am_sR h q2 (upd (h.2.2 q2) s1.toNatClampNeg s0) → ((x6 = 0 → Ru mX3_tellFacts none d 119 [.ref a0, .ref a1, .int x2, .int x3, .int x4, .int x5, .int x6] [.int 0, .int 5, .ref (a0 + 7)] h2 Z) ∧ (¬ (x6 = 0) → (vp_in x3 12 ∧ (Ru mX3_tellFacts none d 119 [.ref a0, .ref a1, .int x2, .int x3, .int x4, .int x5, .int x6] [.int (h2.2.2 (a1 + 3) x3.toNatClampNeg), .int 5, .ref (a0 + 7)] h2 Z))))))) : Ru mX3_tellFacts none d 98 [.ref a0, .ref a1, .int x2, .int x3, .int x4, .int x5, .int x6] [.int s0, .int s1, .ref q2] h Z := by
  have hc1 := w.1
  replace w := w.2
  refine st_iast dX3_tellFacts_98 hq2 hc1 (fun h2 eh2 => ?_)
  replace w := w h2 eh2
  refine st_aload_n dX3_tellFacts_99 rfl ?_
  refine st_getF (q := a0 + 7) fl_X3_30 fk_3_6 rfl dX3_tellFacts_100 (la_0 hb0) ?_
  refine st_iconst (v := 5) dX3_tellFacts_103 (by decide) ?_
  refine st_iload dX3_tellFacts_104 rfl ?_
  refine st_if_eq (tgt := 118) dX3_tellFacts_106 (by decide) (fun c => ?_) (fun c => ?_)
  · replace w := w.1 c
    refine st_iconst (v := 0) dX3_tellFacts_118 (by decide) ?_
    exact w
  · replace w := w.2 c
    refine st_aload_n dX3_tellFacts_109 rfl ?_
    refine st_getF (q := a1 + 3) fl_X3_77 fk_0_2 rfl dX3_tellFacts_110 (bu_0 hb1) ?_
    refine st_iload_n dX3_tellFacts_113 rfl ?_
    have hc3 := w.1
    replace w := w.2
    refine st_iald dX3_tellFacts_114 (bu_3 hb1) hc3 ?_
    refine st_goto (tgt := 119) dX3_tellFacts_115 (by decide) ?_
    exact w
set_option maxRecDepth 20000 in
set_option maxHeartbeats 2000000 in
theorem sX3_tellFacts_119 {d : Nat} {h : am_H} {Z : Int32 → am_H → Prop} {a0 : Nat} (hb0 : am_la a0) {a1 : Nat} (hb1 : am_bu a1) {x2 : Int32} {u3 : Value} {x4 : Int32} {x5 : Int32} {u6 : Value} {s0 : Int32} {s1 : Int32} {q2 : Nat} (hq2 : am_sh q2 = .inl (.int, 10)) (w : (vp_in s1 10 ∧ (∀ h2 : am_H, h2 = am_sR h q2 (upd (h.2.2 q2) s1.toNatClampNeg s0) → ((x5 = 0 → Ru mX3_tellFacts none d 141 [.ref a0, .ref a1, .int x2, u3, .int x4, .int x5, u6] [.int 0, .int 6, .ref (a0 + 7)] h2 Z) ∧ (¬ (x5 = 0) → (vp_in x2 24 ∧ (Ru mX3_tellFacts none d 141 [.ref a0, .ref a1, .int x2, u3, .int x4, .int x5, u6] [.int (h2.2.2 (a1 + 8) x2.toNatClampNeg), .int 6, .ref (a0 + 7)] h2 Z))))))) : Ru mX3_tellFacts none d 119 [.ref a0, .ref a1, .int x2, u3, .int x4, .int x5, u6] [.int s0, .int s1, .ref q2] h Z := by
  have hc1 := w.1
  replace w := w.2
  refine st_iast dX3_tellFacts_119 hq2 hc1 (fun h2 eh2 => ?_)
  replace w := w h2 eh2
  refine st_aload_n dX3_tellFacts_120 rfl ?_
  refine st_getF (q := a0 + 7) fl_X3_30 fk_3_6 rfl dX3_tellFacts_121 (la_0 hb0) ?_
  refine st_bipush (v := 6) dX3_tellFacts_124 (by decide) ?_
  refine st_iload dX3_tellFacts_126 rfl ?_
  refine st_if_eq (tgt := 140) dX3_tellFacts_128 (by decide) (fun c => ?_) (fun c => ?_)
  · replace w := w.1 c
    refine st_iconst (v := 0) dX3_tellFacts_140 (by decide) ?_
    exact w
  · replace w := w.2 c
    refine st_aload_n dX3_tellFacts_131 rfl ?_
    refine st_getF (q := a1 + 8) fl_X3_80 fk_0_7 rfl dX3_tellFacts_132 (bu_0 hb1) ?_
    refine st_iload_n dX3_tellFacts_135 rfl ?_
    have hc3 := w.1
    replace w := w.2
    refine st_iald dX3_tellFacts_136 (bu_8 hb1) hc3 ?_
    refine st_goto (tgt := 141) dX3_tellFacts_137 (by decide) ?_
    exact w
set_option maxRecDepth 20000 in
set_option maxHeartbeats 2000000 in
theorem sX3_tellFacts_141 {d : Nat} {h : am_H} {Z : Int32 → am_H → Prop} {a0 : Nat} (hb0 : am_la a0) {a1 : Nat} (hb1 : am_bu a1) {x2 : Int32} {u3 : Value} {x4 : Int32} {x5 : Int32} {u6 : Value} {s0 : Int32} {s1 : Int32} {q2 : Nat} (hq2 : am_sh q2 = .inl (.int, 10)) (w : (vp_in s1 10 ∧ (∀ h2 : am_H, h2 = am_sR h q2 (upd (h.2.2 q2) s1.toNatClampNeg s0) → ((x5 = 0 → Ru mX3_tellFacts none d 163 [.ref a0, .ref a1, .int x2, u3, .int x4, .int x5, u6] [.int 0, .int 7, .ref (a0 + 7)] h2 Z) ∧ (¬ (x5 = 0) → (vp_in x2 24 ∧ (Ru mX3_tellFacts none d 163 [.ref a0, .ref a1, .int x2, u3, .int x4, .int x5, u6] [.int (h2.2.2 (a1 + 7) x2.toNatClampNeg), .int 7, .ref (a0 + 7)] h2 Z))))))) : Ru mX3_tellFacts none d 141 [.ref a0, .ref a1, .int x2, u3, .int x4, .int x5, u6] [.int s0, .int s1, .ref q2] h Z := by
  have hc1 := w.1
  replace w := w.2
  refine st_iast dX3_tellFacts_141 hq2 hc1 (fun h2 eh2 => ?_)
  replace w := w h2 eh2
  refine st_aload_n dX3_tellFacts_142 rfl ?_
  refine st_getF (q := a0 + 7) fl_X3_30 fk_3_6 rfl dX3_tellFacts_143 (la_0 hb0) ?_
  refine st_bipush (v := 7) dX3_tellFacts_146 (by decide) ?_
  refine st_iload dX3_tellFacts_148 rfl ?_
  refine st_if_eq (tgt := 162) dX3_tellFacts_150 (by decide) (fun c => ?_) (fun c => ?_)
  · replace w := w.1 c
    refine st_iconst (v := 0) dX3_tellFacts_162 (by decide) ?_
    exact w
  · replace w := w.2 c
    refine st_aload_n dX3_tellFacts_153 rfl ?_
    refine st_getF (q := a1 + 7) fl_X3_83 fk_0_6 rfl dX3_tellFacts_154 (bu_0 hb1) ?_
    refine st_iload_n dX3_tellFacts_157 rfl ?_
    have hc3 := w.1
    replace w := w.2
    refine st_iald dX3_tellFacts_158 (bu_7 hb1) hc3 ?_
    refine st_goto (tgt := 163) dX3_tellFacts_159 (by decide) ?_
    exact w
set_option maxRecDepth 20000 in
set_option maxHeartbeats 2000000 in
theorem sX3_tellFacts_163 {d : Nat} {h : am_H} {Z : Int32 → am_H → Prop} {a0 : Nat} (hb0 : am_la a0) {a1 : Nat} (hb1 : am_bu a1) {u2 : Value} {u3 : Value} {x4 : Int32} {u5 : Value} {u6 : Value} {s0 : Int32} {s1 : Int32} {q2 : Nat} (hq2 : am_sh q2 = .inl (.int, 10)) (w : (vp_in s1 10 ∧ (∀ h2 : am_H, h2 = am_sR h q2 (upd (h.2.2 q2) s1.toNatClampNeg s0) → (∀ h3 : am_H, h3 = am_sR h2 (a0 + 7) (upd (h2.2.2 (a0 + 7)) 8 (am_rem (h2.1 a1 9) 100)) → (∀ h4 : am_H, h4 = am_sR h3 (a0 + 7) (upd (h3.2.2 (a0 + 7)) 9 x4) → (Z 0 h4)))))) : Ru mX3_tellFacts none d 163 [.ref a0, .ref a1, u2, u3, .int x4, u5, u6] [.int s0, .int s1, .ref q2] h Z := by
  have hc1 := w.1
  replace w := w.2
  refine st_iast dX3_tellFacts_163 hq2 hc1 (fun h2 eh2 => ?_)
  replace w := w h2 eh2
  refine st_aload_n dX3_tellFacts_164 rfl ?_
  refine st_getF (q := a0 + 7) fl_X3_30 fk_3_6 rfl dX3_tellFacts_165 (la_0 hb0) ?_
  refine st_bipush (v := 8) dX3_tellFacts_168 (by decide) ?_
  refine st_aload_n dX3_tellFacts_170 rfl ?_
  refine st_getI fl_X3_86 fk_0_9 dX3_tellFacts_171 (bu_0 hb1) ?_
  refine st_bipush (v := 100) dX3_tellFacts_174 (by decide) ?_
  refine st_irem dX3_tellFacts_176 (by decide) ?_
  refine st_iast dX3_tellFacts_177 (la_7 hb0) (by unfold vp_in; decide +kernel) (fun h3 eh3 => ?_)
  replace w := w h3 eh3
  refine st_aload_n dX3_tellFacts_178 rfl ?_
  refine st_getF (q := a0 + 7) fl_X3_30 fk_3_6 rfl dX3_tellFacts_179 (la_0 hb0) ?_
  refine st_bipush (v := 9) dX3_tellFacts_182 (by decide) ?_
  refine st_iload dX3_tellFacts_184 rfl ?_
  refine st_iast dX3_tellFacts_186 (la_7 hb0) (by unfold vp_in; decide +kernel) (fun h4 eh4 => ?_)
  replace w := w h4 eh4
  exact st_return rfl dX3_tellFacts_187 w
set_option maxRecDepth 20000 in
set_option maxHeartbeats 2000000 in
theorem sX11_draws_0 {d : Nat} {h : am_H} {Z : Int32 → am_H → Prop}  (w : (∀ h1 : am_H, h1 = am_sR h 74 (upd (h.2.2 74) 73 (am_rem ((25173 * (h.2.2 74 73)) + 13849) 65536)) → (Z (am_rem (h1.2.2 74 73) 10) h1))) : Ru mX11_draws none d 0 [.ref 73] [] h Z := by
  refine st_aload_n dX11_draws_0 rfl ?_
  refine st_getF (q := 74) fl_X11_7 fk_11_0 rfl dX11_draws_1 sh_73 ?_
  refine st_bipush (v := 73) dX11_draws_4 (by decide) ?_
  refine st_sipush (v := 25173) dX11_draws_6 (by decide) ?_
  refine st_aload_n dX11_draws_9 rfl ?_
  refine st_getF (q := 74) fl_X11_7 fk_11_0 rfl dX11_draws_10 sh_73 ?_
  refine st_bipush (v := 73) dX11_draws_13 (by decide) ?_
  refine st_iald dX11_draws_15 sh_74 (by unfold vp_in; decide +kernel) ?_
  show Ru mX11_draws none d 16 [.ref 73] [.int (h.2.2 74 73), .int 25173, .int 73, .ref 74] h Z
  refine st_imul dX11_draws_16 ?_
  refine st_sipush (v := 13849) dX11_draws_17 (by decide) ?_
  refine st_iadd dX11_draws_20 ?_
  refine st_ldcw dX11_draws_21 kc_X11_285 ?_
  refine st_irem dX11_draws_24 (by decide) ?_
  refine st_iast dX11_draws_25 sh_74 (by unfold vp_in; decide +kernel) (fun h1 eh1 => ?_)
  replace w := w h1 eh1
  refine st_aload_n dX11_draws_26 rfl ?_
  refine st_getF (q := 74) fl_X11_7 fk_11_0 rfl dX11_draws_27 sh_73 ?_
  refine st_bipush (v := 73) dX11_draws_30 (by decide) ?_
  refine st_iald dX11_draws_32 sh_74 (by unfold vp_in; decide +kernel) ?_
  show Ru mX11_draws none d 33 [.ref 73] [.int (h1.2.2 74 73)] h1 Z
  refine st_bipush (v := 10) dX11_draws_33 (by decide) ?_
  refine st_irem dX11_draws_35 (by decide) ?_
  exact st_ireturn rfl rfl dX11_draws_36 w
set_option maxRecDepth 20000 in
set_option maxHeartbeats 2000000 in
theorem sX11_bits_0 {d : Nat} {h : am_H} {Z : Int32 → am_H → Prop} {x0 : Int32} (w : Ru mX11_bits none d 4 [.int x0, .int 0, .int 0] [] h Z) : Ru mX11_bits none d 0 [.int x0, .null, .null] [] h Z := by
  refine st_iconst (v := 0) dX11_bits_0 (by decide) ?_
  refine st_istore_n (L' := [.int x0, .int 0, .null]) dX11_bits_1 (by decide) rfl ?_
  refine st_iconst (v := 0) dX11_bits_2 (by decide) ?_
  refine st_istore_n (L' := [.int x0, .int 0, .int 0]) dX11_bits_3 (by decide) rfl ?_
  exact w
set_option maxRecDepth 20000 in
set_option maxHeartbeats 2000000 in
theorem sX11_bits_4 {d : Nat} {h : am_H} {Z : Int32 → am_H → Prop} {x0 : Int32} {x1 : Int32} {x2 : Int32} (w : (24 ≤ x2 → Z x1 h) ∧ (¬ (24 ≤ x2) → Ru mX11_bits none d 4 [.int x0, .int (x1 + ((x0 >>> (x2 &&& 31)) &&& 1)), .int (x2 + 1)] [] h Z)) : Ru mX11_bits none d 4 [.int x0, .int x1, .int x2] [] h Z := by
  refine st_iload_n dX11_bits_4 rfl ?_
  refine st_bipush (v := 24) dX11_bits_5 (by decide) ?_
  refine st_icmp_ge (tgt := 24) dX11_bits_7 (by decide) (fun c => ?_) (fun c => ?_)
  · replace w := w.1 c
    refine st_iload_n dX11_bits_24 rfl ?_
    exact st_ireturn rfl rfl dX11_bits_25 w
  · replace w := w.2 c
    refine st_iload_n dX11_bits_10 rfl ?_
    refine st_iload_n dX11_bits_11 rfl ?_
    refine st_iload_n dX11_bits_12 rfl ?_
    refine st_ishr dX11_bits_13 ?_
    refine st_iconst (v := 1) dX11_bits_14 (by decide) ?_
    refine st_iand dX11_bits_15 ?_
    refine st_iadd dX11_bits_16 ?_
    refine st_istore_n (L' := [.int x0, .int (x1 + ((x0 >>> (x2 &&& 31)) &&& 1)), .int x2]) dX11_bits_17 (by decide) rfl ?_
    refine st_iinc (L' := [.int x0, .int (x1 + ((x0 >>> (x2 &&& 31)) &&& 1)), .int (x2 + 1)]) dX11_bits_18 rfl rfl (by decide) rfl ?_
    refine st_goto (tgt := 4) dX11_bits_21 (by decide) ?_
    exact w
set_option maxRecDepth 20000 in
set_option maxHeartbeats 2000000 in
theorem sX11_feelsDrawer_0 {d : Nat} {h : am_H} {Z : Int32 → am_H → Prop} {x1 : Int32} {x2 : Int32} (w : (∀ h1 : am_H, h1 = am_sR h 93 (upd (h.2.2 93) 0 24) → (∀ h2 : am_H, h2 = am_sR h1 93 (upd (h1.2.2 93) 1 16) → (∀ h3 : am_H, h3 = am_sR h2 93 (upd (h2.2.2 93) 2 0) → (∀ h4 : am_H, h4 = am_sR h3 93 (upd (h3.2.2 93) 3 x1) → (am_cl mX11_roomLeft d [.ref 73, .int x1] h4 (fun r5 h6 => (∀ h7 : am_H, h7 = am_sR h6 93 (upd (h6.2.2 93) 4 r5) → (am_cl mX11_papersIn d [.ref 73, .int x1] h7 (fun r8 h9 => am_cl mX11_bits d [.int r8] h9 (fun r10 h11 => (∀ h12 : am_H, h12 = am_sR h11 93 (upd (h11.2.2 93) 5 r10) → (∀ h13 : am_H, h13 = am_sR h12 93 (upd (h12.2.2 93) 6 0) → (∀ h14 : am_H, h14 = am_sR h13 93 (upd (h13.2.2 93) 7 0) → (∀ h15 : am_H, h15 = am_sR h14 93 (upd (h14.2.2 93) 8 (am_rem (h14.2.2 74 72) 100)) → (∀ h16 : am_H, h16 = am_sR h15 93 (upd (h15.2.2 93) 9 x2) → (Z 0 h16))))))))))))))))) : Ru mX11_feelsDrawer none d 0 [.ref 73, .int x1, .int x2] [] h Z := by
  refine st_aload_n dX11_feelsDrawer_0 rfl ?_
  refine st_getF (q := 93) fl_X11_68 fk_11_31 rfl dX11_feelsDrawer_1 sh_73 ?_
  refine st_iconst (v := 0) dX11_feelsDrawer_4 (by decide) ?_
  refine st_bipush (v := 24) dX11_feelsDrawer_5 (by decide) ?_
  refine st_iast dX11_feelsDrawer_7 sh_93 (by unfold vp_in; decide +kernel) (fun h1 eh1 => ?_)
  replace w := w h1 eh1
  refine st_aload_n dX11_feelsDrawer_8 rfl ?_
  refine st_getF (q := 93) fl_X11_68 fk_11_31 rfl dX11_feelsDrawer_9 sh_73 ?_
  refine st_iconst (v := 1) dX11_feelsDrawer_12 (by decide) ?_
  refine st_bipush (v := 16) dX11_feelsDrawer_13 (by decide) ?_
  refine st_iast dX11_feelsDrawer_15 sh_93 (by unfold vp_in; decide +kernel) (fun h2 eh2 => ?_)
  replace w := w h2 eh2
  refine st_aload_n dX11_feelsDrawer_16 rfl ?_
  refine st_getF (q := 93) fl_X11_68 fk_11_31 rfl dX11_feelsDrawer_17 sh_73 ?_
  refine st_iconst (v := 2) dX11_feelsDrawer_20 (by decide) ?_
  refine st_iconst (v := 0) dX11_feelsDrawer_21 (by decide) ?_
  refine st_iast dX11_feelsDrawer_22 sh_93 (by unfold vp_in; decide +kernel) (fun h3 eh3 => ?_)
  replace w := w h3 eh3
  refine st_aload_n dX11_feelsDrawer_23 rfl ?_
  refine st_getF (q := 93) fl_X11_68 fk_11_31 rfl dX11_feelsDrawer_24 sh_73 ?_
  refine st_iconst (v := 3) dX11_feelsDrawer_27 (by decide) ?_
  refine st_iload_n dX11_feelsDrawer_28 rfl ?_
  refine st_iast dX11_feelsDrawer_29 sh_93 (by unfold vp_in; decide +kernel) (fun h4 eh4 => ?_)
  replace w := w h4 eh4
  refine st_aload_n dX11_feelsDrawer_30 rfl ?_
  refine st_getF (q := 93) fl_X11_68 fk_11_31 rfl dX11_feelsDrawer_31 sh_73 ?_
  refine st_iconst (v := 4) dX11_feelsDrawer_34 (by decide) ?_
  refine st_aload_n dX11_feelsDrawer_35 rfl ?_
  refine st_iload_n dX11_feelsDrawer_36 rfl ?_
  refine st_callV (M' := mX11_roomLeft) [.int x1] [.int 4, .ref 93] dX11_feelsDrawer_37 ml_X11_155 mf_X11_roomLeft mv_X11_roomLeft sh_73 rfl rfl rfl w (fun r5 h6 w => ?_)
  show Ru mX11_feelsDrawer none d 40 [.ref 73, .int x1, .int x2] [.int r5, .int 4, .ref 93] h6 Z
  refine st_iast dX11_feelsDrawer_40 sh_93 (by unfold vp_in; decide +kernel) (fun h7 eh7 => ?_)
  replace w := w h7 eh7
  refine st_aload_n dX11_feelsDrawer_41 rfl ?_
  refine st_getF (q := 93) fl_X11_68 fk_11_31 rfl dX11_feelsDrawer_42 sh_73 ?_
  refine st_iconst (v := 5) dX11_feelsDrawer_45 (by decide) ?_
  refine st_aload_n dX11_feelsDrawer_46 rfl ?_
  refine st_iload_n dX11_feelsDrawer_47 rfl ?_
  refine st_callV (M' := mX11_papersIn) [.int x1] [.int 5, .ref 93] dX11_feelsDrawer_48 ml_X11_286 mf_X11_papersIn mv_X11_papersIn sh_73 rfl rfl rfl w (fun r8 h9 w => ?_)
  show Ru mX11_feelsDrawer none d 51 [.ref 73, .int x1, .int x2] [.int r8, .int 5, .ref 93] h9 Z
  refine st_callS (M' := mX11_bits) [.int r8] [.int 5, .ref 93] dX11_feelsDrawer_51 ml_X11_289 mf_X11_bits ms_X11_bits rfl rfl rfl w (fun r10 h11 w => ?_)
  show Ru mX11_feelsDrawer none d 54 [.ref 73, .int x1, .int x2] [.int r10, .int 5, .ref 93] h11 Z
  refine st_iast dX11_feelsDrawer_54 sh_93 (by unfold vp_in; decide +kernel) (fun h12 eh12 => ?_)
  replace w := w h12 eh12
  refine st_aload_n dX11_feelsDrawer_55 rfl ?_
  refine st_getF (q := 93) fl_X11_68 fk_11_31 rfl dX11_feelsDrawer_56 sh_73 ?_
  refine st_bipush (v := 6) dX11_feelsDrawer_59 (by decide) ?_
  refine st_iconst (v := 0) dX11_feelsDrawer_61 (by decide) ?_
  refine st_iast dX11_feelsDrawer_62 sh_93 (by unfold vp_in; decide +kernel) (fun h13 eh13 => ?_)
  replace w := w h13 eh13
  refine st_aload_n dX11_feelsDrawer_63 rfl ?_
  refine st_getF (q := 93) fl_X11_68 fk_11_31 rfl dX11_feelsDrawer_64 sh_73 ?_
  refine st_bipush (v := 7) dX11_feelsDrawer_67 (by decide) ?_
  refine st_iconst (v := 0) dX11_feelsDrawer_69 (by decide) ?_
  refine st_iast dX11_feelsDrawer_70 sh_93 (by unfold vp_in; decide +kernel) (fun h14 eh14 => ?_)
  replace w := w h14 eh14
  refine st_aload_n dX11_feelsDrawer_71 rfl ?_
  refine st_getF (q := 93) fl_X11_68 fk_11_31 rfl dX11_feelsDrawer_72 sh_73 ?_
  refine st_bipush (v := 8) dX11_feelsDrawer_75 (by decide) ?_
  refine st_aload_n dX11_feelsDrawer_77 rfl ?_
  refine st_getF (q := 74) fl_X11_7 fk_11_0 rfl dX11_feelsDrawer_78 sh_73 ?_
  refine st_bipush (v := 72) dX11_feelsDrawer_81 (by decide) ?_
  refine st_iald dX11_feelsDrawer_83 sh_74 (by unfold vp_in; decide +kernel) ?_
  show Ru mX11_feelsDrawer none d 84 [.ref 73, .int x1, .int x2] [.int (h14.2.2 74 72), .int 8, .ref 93] h14 Z
  refine st_bipush (v := 100) dX11_feelsDrawer_84 (by decide) ?_
  refine st_irem dX11_feelsDrawer_86 (by decide) ?_
  refine st_iast dX11_feelsDrawer_87 sh_93 (by unfold vp_in; decide +kernel) (fun h15 eh15 => ?_)
  replace w := w h15 eh15
  refine st_aload_n dX11_feelsDrawer_88 rfl ?_
  refine st_getF (q := 93) fl_X11_68 fk_11_31 rfl dX11_feelsDrawer_89 sh_73 ?_
  refine st_bipush (v := 9) dX11_feelsDrawer_92 (by decide) ?_
  refine st_iload_n dX11_feelsDrawer_94 rfl ?_
  refine st_iast dX11_feelsDrawer_95 sh_93 (by unfold vp_in; decide +kernel) (fun h16 eh16 => ?_)
  replace w := w h16 eh16
  exact st_return rfl dX11_feelsDrawer_96 w
set_option maxRecDepth 20000 in
set_option maxHeartbeats 2000000 in
theorem sX11_feelsPaper_0 {d : Nat} {h : am_H} {Z : Int32 → am_H → Prop} {x1 : Int32} {x2 : Int32} {x3 : Int32} (w : am_cl mX11_feelsDrawer d [.ref 73, .int x2, .int x3] h (fun r1 h2 => (∀ h3 : am_H, h3 = am_sR h2 93 (upd (h2.2.2 93) 0 x1) → (vp_in x1 24 ∧ (∀ h5 : am_H, h5 = am_sR h3 93 (upd (h3.2.2 93) 1 (h3.2.2 78 x1.toNatClampNeg)) → (∀ h6 : am_H, h6 = am_sR h5 93 (upd (h5.2.2 93) 2 (h5.2.2 79 x1.toNatClampNeg)) → (vp_in x1 74 ∧ ((¬ (h6.2.2 74 x1.toNatClampNeg) = (-1) → (vp_in (48 + x1) 74 ∧ (∀ h9 : am_H, h9 = am_sR h6 93 (upd (h6.2.2 93) 6 (h6.2.2 74 (48 + x1).toNatClampNeg)) → (vp_in (24 + x1) 74 ∧ (∀ h11 : am_H, h11 = am_sR h9 93 (upd (h9.2.2 93) 7 (h9.2.2 74 (24 + x1).toNatClampNeg)) → (Z 0 h11)))))) ∧ ((h6.2.2 74 x1.toNatClampNeg) = (-1) → (∀ h12 : am_H, h12 = am_sR h6 93 (upd (h6.2.2 93) 6 0) → (vp_in (24 + x1) 74 ∧ (∀ h14 : am_H, h14 = am_sR h12 93 (upd (h12.2.2 93) 7 (h12.2.2 74 (24 + x1).toNatClampNeg)) → (Z 0 h14))))))))))))) : Ru mX11_feelsPaper none d 0 [.ref 73, .int x1, .int x2, .int x3] [] h Z := by
  refine st_aload_n dX11_feelsPaper_0 rfl ?_
  refine st_iload_n dX11_feelsPaper_1 rfl ?_
  refine st_iload_n dX11_feelsPaper_2 rfl ?_
  refine st_callV (M' := mX11_feelsDrawer) [.int x2, .int x3] [] dX11_feelsPaper_3 ml_X11_292 mf_X11_feelsDrawer mv_X11_feelsDrawer sh_73 rfl rfl rfl w (fun r1 h2 w => ?_)
  show Ru mX11_feelsPaper none d 6 [.ref 73, .int x1, .int x2, .int x3] [] h2 Z
  refine st_aload_n dX11_feelsPaper_6 rfl ?_
  refine st_getF (q := 93) fl_X11_68 fk_11_31 rfl dX11_feelsPaper_7 sh_73 ?_
  refine st_iconst (v := 0) dX11_feelsPaper_10 (by decide) ?_
  refine st_iload_n dX11_feelsPaper_11 rfl ?_
  refine st_iast dX11_feelsPaper_12 sh_93 (by unfold vp_in; decide +kernel) (fun h3 eh3 => ?_)
  replace w := w h3 eh3
  refine st_aload_n dX11_feelsPaper_13 rfl ?_
  refine st_getF (q := 93) fl_X11_68 fk_11_31 rfl dX11_feelsPaper_14 sh_73 ?_
  refine st_iconst (v := 1) dX11_feelsPaper_17 (by decide) ?_
  refine st_aload_n dX11_feelsPaper_18 rfl ?_
  refine st_getF (q := 78) fl_X11_22 fk_11_4 rfl dX11_feelsPaper_19 sh_73 ?_
  refine st_iload_n dX11_feelsPaper_22 rfl ?_
  have hc4 := w.1
  replace w := w.2
  refine st_iald dX11_feelsPaper_23 sh_78 hc4 ?_
  refine st_iast dX11_feelsPaper_24 sh_93 (by unfold vp_in; decide +kernel) (fun h5 eh5 => ?_)
  replace w := w h5 eh5
  refine st_aload_n dX11_feelsPaper_25 rfl ?_
  refine st_getF (q := 93) fl_X11_68 fk_11_31 rfl dX11_feelsPaper_26 sh_73 ?_
  refine st_iconst (v := 2) dX11_feelsPaper_29 (by decide) ?_
  refine st_aload_n dX11_feelsPaper_30 rfl ?_
  refine st_getF (q := 79) fl_X11_25 fk_11_5 rfl dX11_feelsPaper_31 sh_73 ?_
  refine st_iload_n dX11_feelsPaper_34 rfl ?_
  refine st_iald dX11_feelsPaper_35 sh_79 hc4 ?_
  refine st_iast dX11_feelsPaper_36 sh_93 (by unfold vp_in; decide +kernel) (fun h6 eh6 => ?_)
  replace w := w h6 eh6
  refine st_aload_n dX11_feelsPaper_37 rfl ?_
  refine st_getF (q := 93) fl_X11_68 fk_11_31 rfl dX11_feelsPaper_38 sh_73 ?_
  refine st_bipush (v := 6) dX11_feelsPaper_41 (by decide) ?_
  refine st_aload_n dX11_feelsPaper_43 rfl ?_
  refine st_getF (q := 74) fl_X11_7 fk_11_0 rfl dX11_feelsPaper_44 sh_73 ?_
  refine st_iconst (v := 0) dX11_feelsPaper_47 (by decide) ?_
  refine st_iload_n dX11_feelsPaper_48 rfl ?_
  refine st_iadd0 dX11_feelsPaper_49 ?_
  have hc7 := w.1
  replace w := w.2
  refine st_iald dX11_feelsPaper_50 sh_74 hc7 ?_
  refine st_iconst (v := (-1)) dX11_feelsPaper_51 (by decide) ?_
  refine st_icmp_ne (tgt := 59) dX11_feelsPaper_52 (by decide) (fun c => ?_) (fun c => ?_)
  · replace w := w.1 c
    refine st_aload_n dX11_feelsPaper_59 rfl ?_
    refine st_getF (q := 74) fl_X11_7 fk_11_0 rfl dX11_feelsPaper_60 sh_73 ?_
    refine st_bipush (v := 48) dX11_feelsPaper_63 (by decide) ?_
    refine st_iload_n dX11_feelsPaper_65 rfl ?_
    refine st_iadd dX11_feelsPaper_66 ?_
    have hc8 := w.1
    replace w := w.2
    refine st_iald dX11_feelsPaper_67 sh_74 hc8 ?_
    refine st_iast dX11_feelsPaper_68 sh_93 (by unfold vp_in; decide +kernel) (fun h9 eh9 => ?_)
    replace w := w h9 eh9
    refine st_aload_n dX11_feelsPaper_69 rfl ?_
    refine st_getF (q := 93) fl_X11_68 fk_11_31 rfl dX11_feelsPaper_70 sh_73 ?_
    refine st_bipush (v := 7) dX11_feelsPaper_73 (by decide) ?_
    refine st_aload_n dX11_feelsPaper_75 rfl ?_
    refine st_getF (q := 74) fl_X11_7 fk_11_0 rfl dX11_feelsPaper_76 sh_73 ?_
    refine st_bipush (v := 24) dX11_feelsPaper_79 (by decide) ?_
    refine st_iload_n dX11_feelsPaper_81 rfl ?_
    refine st_iadd dX11_feelsPaper_82 ?_
    have hc10 := w.1
    replace w := w.2
    refine st_iald dX11_feelsPaper_83 sh_74 hc10 ?_
    refine st_iast dX11_feelsPaper_84 sh_93 (by unfold vp_in; decide +kernel) (fun h11 eh11 => ?_)
    replace w := w h11 eh11
    exact st_return rfl dX11_feelsPaper_85 w
  · replace w := w.2 c
    refine st_iconst (v := 0) dX11_feelsPaper_55 (by decide) ?_
    refine st_goto (tgt := 68) dX11_feelsPaper_56 (by decide) ?_
    refine st_iast dX11_feelsPaper_68 sh_93 (by unfold vp_in; decide +kernel) (fun h12 eh12 => ?_)
    replace w := w h12 eh12
    refine st_aload_n dX11_feelsPaper_69 rfl ?_
    refine st_getF (q := 93) fl_X11_68 fk_11_31 rfl dX11_feelsPaper_70 sh_73 ?_
    refine st_bipush (v := 7) dX11_feelsPaper_73 (by decide) ?_
    refine st_aload_n dX11_feelsPaper_75 rfl ?_
    refine st_getF (q := 74) fl_X11_7 fk_11_0 rfl dX11_feelsPaper_76 sh_73 ?_
    refine st_bipush (v := 24) dX11_feelsPaper_79 (by decide) ?_
    refine st_iload_n dX11_feelsPaper_81 rfl ?_
    refine st_iadd dX11_feelsPaper_82 ?_
    have hc13 := w.1
    replace w := w.2
    refine st_iald dX11_feelsPaper_83 sh_74 hc13 ?_
    refine st_iast dX11_feelsPaper_84 sh_93 (by unfold vp_in; decide +kernel) (fun h14 eh14 => ?_)
    replace w := w h14 eh14
    exact st_return rfl dX11_feelsPaper_85 w
theorem q_ev_cg {C : Nat → Int32} {pos ty : Nat → Nat} {P : Nat → Nat × Nat} {F G : Nat → Int32} {a to : Nat} (hC : ∀ k, a ≤ k → k < to → q_ins C pos ty P to k) (hF : ∀ i, i < 10 → F i = G i) : ∀ (m k n : Nat) (s : Nat → Int32), a ≤ k → k ≤ to → q_ev P F to m k n s = q_ev P G to m k n s := by
  intro m
  induction m with
  | zero => intro k n s _ _; rfl
  | succ m ih =>
    intro k n s h1 h2
    unfold q_ev
    rcases Nat.lt_or_ge k to with hk | hk
    · have nk : ¬ to ≤ k := by omega
      rw [if_neg nk, if_neg nk]
      rcases (hC k h1 hk).2 with ⟨o, c1, c2, c3, c4, c5⟩ | ⟨o, c0, c1, c2, c3, c4, c5⟩ | ⟨o, c1, c2, c3, c4⟩ | ⟨o, c1, c2, c3, c4, c5, c6, c7⟩ | ⟨o1, o2, c1, c2, c3, c4, c5, c6⟩
      · rw [if_pos o, if_pos o]; exact ih _ _ _ (by omega) (by omega)
      · have n0 : ¬ (P k).1 = 0 := by omega
        rw [if_neg n0, if_pos o, if_neg n0, if_pos o, hF _ c0]; exact ih _ _ _ (by omega) (by omega)
      · have n0 : ¬ (P k).1 = 0 := by omega
        have n1 : ¬ (P k).1 = 1 := by omega
        rw [if_neg n0, if_neg n1, if_pos o, if_neg n0, if_neg n1, if_pos o]; exact ih _ _ _ (by omega) (by omega)
      · have n0 : ¬ (P k).1 = 0 := by rcases o with ⟨o, _⟩ | ⟨o, _⟩ <;> omega
        have n1 : ¬ (P k).1 = 1 := by rcases o with ⟨o, _⟩ | ⟨o, _⟩ <;> omega
        have n10 : ¬ (P k).1 = 10 := by rcases o with ⟨o, _⟩ | ⟨o, _⟩ <;> omega
        rw [if_neg n0, if_neg n1, if_neg n10, if_neg n0, if_neg n1, if_neg n10, ih (P k).2 n s (by omega) c4, ih (k + 1) (n - 1) s (by omega) (by omega)]
        rcases o with ⟨o, _⟩ | ⟨o, _⟩
        · rw [if_pos o, if_pos o]
        · have n11 : ¬ (P k).1 = 11 := by omega
          rw [if_neg n11, if_pos o, if_neg n11, if_pos o]
      · have n0 : ¬ (P k).1 = 0 := by omega
        have n1 : ¬ (P k).1 = 1 := by omega
        have n10 : ¬ (P k).1 = 10 := by omega
        have n11 : ¬ (P k).1 = 11 := by omega
        have n12 : ¬ (P k).1 = 12 := by omega
        rw [if_neg n0, if_neg n1, if_neg n10, if_neg n11, if_neg n12, if_neg n0, if_neg n1, if_neg n10, if_neg n11, if_neg n12, ih (k + 1) (n - 1) _ (by omega) (by omega)]
    · rw [if_pos hk, if_pos hk]
theorem q_pr_cg {C : Nat → Int32} {P : Nat → Nat × Nat} {a b ca cb e : Nat} {F G : Nat → Int32} (hq : q_pg C P a b ca cb e) (hF : ∀ i, i < 10 → F i = G i) : q_pr P F a b = q_pr P G a b := by
  obtain ⟨pos, ty, p1, p2, p3, t1, t2, l1, l2, hC⟩ := hq
  exact q_ev_cg hC hF _ _ _ _ (Nat.le_refl a) l1
theorem q_vl_cg {h : am_H} {g : Nat} {L : am_AL} {F G : Nat → Int32} {kd : Nat} (hL : q_LC h g L) (hF : ∀ i, i < 10 → F i = G i) : ∀ (m q : Nat), q + m = l_n L → q_vl L F kd m q = q_vl L G kd m q
  | 0, q, _ => rfl
  | m + 1, q, hq => by
    obtain ⟨kk, k1, cv, ch, ct, v1, v2, v3, pt, px, pv⟩ := hL.2.2 q (by omega)
    unfold q_vl
    rw [q_pr_cg pt hF, q_vl_cg hL hF m (q + 1) (by omega)]
    by_cases c : l_k L q = kd ∧ q_pr (l_P L) G (l_h L q) (l_t L q) = 1
    · rw [if_pos c, if_pos c]
      by_cases cx : kd = 120
      · rw [if_pos cx, if_pos cx]
      · rw [if_neg cx, if_neg cx]; exact q_pr_cg (pv (by omega)) hF
    · rw [if_neg c, if_neg c]
/-- the next of the draws -/
def q_dx (x : Nat) : Nat := (25173 * x + 13849) % 65536
theorem q_dx_lt (x : Nat) : q_dx x < 65536 := Nat.mod_lt _ (by decide)
theorem q_dx_e {x : Nat} (hx : x < 65536) : am_rem (25173 * nI x + 13849) 65536 = nI (q_dx x) := by
  rw [show (25173 : Int32) * nI x = nI (25173 * x) from pk_mul 25173 x, show nI (25173 * x) + 13849 = nI (25173 * x + 13849) from nI_add _ 13849]
  exact am_rem_n (d := 65536) (by omega) (by omega) (by omega)
theorem q_dx_10 (x : Nat) : am_rem (nI (q_dx x)) 10 = nI (q_dx x % 10) := am_rem_n (d := 10) (by have := q_dx_lt x; omega) (by omega) (by omega)
section
variable {d b : Nat} {h : am_H} {Z : Int32 → am_H → Prop} {B : am_AB}
theorem iX0_draw (hb : am_bu b) (hI : q_IC h b B) (hB : q_ok B) (z : ∀ h', h' = am_sI h b 10 (nI (q_dx (q_x B))) → q_IC h' b (q_sx B (q_dx (q_x B))) → am_fr b h h' → Z (nI (q_dx (q_x B) % 10)) h') : Sp mX0_draw d [.ref b] h Z := by
  refine Sp_of mf_X0_draw rfl (Nat.le_of_ble_eq_true rfl) rfl (sX0_draw_0 hb (fun h1 e1 => ?_))
  rw [hI.2.2.1, q_dx_e hB.2.2.1] at e1
  have e2 : h1.1 b 10 = nI (q_dx (q_x B)) := by rw [e1, am_gI, if_pos ⟨rfl, rfl⟩]
  rw [e2, q_dx_10]
  refine z h1 e1 ?_ (e1 ▸ am_fr_sI (am_fr_rf b h))
  clear z
  generalize q_dx (q_x B) = v at e1 e2 ⊢
  subst e1
  refine ⟨?_, ?_, e2, hI.2.2.2⟩
  · rw [am_gI, if_neg (fun e => by omega)]; exact hI.1
  · rw [am_gI, if_neg (fun e => by omega)]; exact hI.2.1
theorem iX11_draws (hN : q_IN h 74 B) (hB : q_ok B) (z : ∀ f, q_IN (am_sR h 74 f) 74 (q_sx B (q_dx (q_x B))) → Z (nI (q_dx (q_x B) % 10)) (am_sR h 74 f)) : Sp mX11_draws d [.ref 73] h Z := by
  have hn := hB.1
  refine Sp_of mf_X11_draws rfl (Nat.le_of_ble_eq_true rfl) rfl (sX11_draws_0 (fun h1 e1 => ?_))
  rw [hN.2.1, q_dx_e hB.2.2.1] at e1
  have e2 : h1.2.2 74 73 = nI (q_dx (q_x B)) := by rw [e1, am_gRs]; rfl
  rw [e2, q_dx_10, e1]
  refine z _ ⟨?_, ?_, fun p hp => ?_⟩
  · rw [am_gRs]; exact hN.1
  · rw [am_gRs]; rfl
  · have hp' : p < q_n B := hp
    rw [am_gRs]
    simp only [upd, show ¬ p = 73 by omega, show ¬ 24 + p = 73 by omega, show ¬ 48 + p = 73 by omega, if_false]
    exact hN.2.2 p hp
end
/-- the ten facts; p = q_n or more: no paper -/
def q_fx (B : am_AB) (p i : Nat) (dr : Int32) (j : Nat) : Int32 := if j = 0 then nI p else if j = 1 then (if p < q_n B then nI (q_su B p) else 16) else if j = 2 then (if p < q_n B then nI (q_si B p) else 0) else if j = 3 then nI i else if j = 4 then nI (q_r B i - q_F B i) else if j = 5 then nI (q_C B i) else if j = 6 then (if p < q_n B then nI (q_ag B p) else 0) else if j = 7 then (if p < q_n B then nI (q_rd B p) else 0) else if j = 8 then nI (q_d B % 100) else dr
section
variable {d b g : Nat} {h : am_H} {Z : Int32 → am_H → Prop} {B : am_AB}
theorem q_sub {a b : Nat} (h : b ≤ a) : nI a - nI b = nI (a - b) := by
  obtain ⟨c, rfl⟩ : ∃ c, a = b + c := ⟨a - b, by omega⟩
  rw [← nI_add, Nat.add_sub_cancel_left]; grind
theorem iX3_tellFacts {p i : Nat} {dr : Int32} (hd : 2 ≤ d) (hg : am_la g) (hb : am_bu b) (hI : q_IC h b B) (hB : q_ok B) (hp : p ≤ 24) (hp2 : p < q_n B ∨ p = 24) (hi : i < 12) (hr : 0 < q_r B i) (z : ∀ f, (∀ j, j < 10 → f j = q_fx B p i dr j) → Z 0 (am_sR h (g + 7) f)) : Sp mX3_tellFacts d [.ref g, .ref b, .int (nI p), .int (nI i), .int dr] h Z := by
  have hbg : b + 8 < g := by rcases hb with rfl | rfl | rfl | rfl <;> rcases hg with rfl | rfl <;> omega
  have hn := hB.1
  have rb : ∀ (f : Nat → Int32) (j : Nat), j ≤ 8 → (am_sR h (g + 7) f).2.2 (b + j) = h.2.2 (b + j) := fun f j hj => by rw [am_gR, if_neg (by omega)]
  have b1 : am_b (am_told h b (nI i)) = 1 := am_b1 ((q_told hI hB hi).mpr hr)
  have hR := hI.2.2.2.1 i hi
  have hrr := hB.2.2.2.1 i hi
  have e8 : am_rem (nI (q_d B)) 100 = nI (q_d B % 100) := am_rem_n (d := 100) (by have := hB.2.1; omega) (by omega) (by omega)
  have vi : vp_in (nI i) 12 := vp_in_nI (by omega) (by omega)
  have v1 : ∀ x : Nat, x < 10 → vp_in (nI x) 10 := fun x hx => vp_in_nI hx (by omega)
  refine Sp_of mf_X3_tellFacts rfl (Nat.le_of_ble_eq_true rfl) rfl (sX3_tellFacts_0 hg hb hd (fun h1 e1 => ?_))
  subst e1
  by_cases c : p < q_n B
  · have hq := hI.2.2.2.2 p c
    have vp : vp_in (nI p) 24 := vp_in_nI (by omega) (by omega)
    have bp : am_pap h b (nI p) := (q_pap hI hB).mpr ⟨p, c, rfl⟩
    refine ⟨fun q => absurd bp q, fun _ => ⟨vp, sX3_tellFacts_42 hg hb (la_7 hg) ⟨v1 1 (by omega), fun h2 e2 => ?_⟩⟩⟩
    rw [am_b1 bp, b1]
    rw [nI_clamp (by omega), rb _ 4 (by omega), hq.1, am_gRs, am_sR_2] at e2
    subst e2
    refine ⟨fun q => absurd q (by decide), fun _ => ⟨vp, sX3_tellFacts_63 hg hb (la_7 hg) ⟨v1 2 (by omega), fun h3 e3 h4 e4 => ?_⟩⟩⟩
    rw [nI_clamp (by omega), rb _ 5 (by omega), hq.2.1, am_gRs, am_sR_2] at e3
    subst e3
    rw [am_gRs, am_sR_2] at e4
    subst e4
    refine ⟨fun q => absurd q (by decide), fun _ => ⟨vi, sX3_tellFacts_98 hg hb (la_7 hg) ⟨v1 4 (by omega), fun h5 e5 => ?_⟩⟩⟩
    rw [nI_clamp (by omega), rb _ 1 (by omega), rb _ 2 (by omega), hR.1, hR.2.1, q_sub hrr.2, am_gRs, am_sR_2] at e5
    subst e5
    refine ⟨fun q => absurd q (by decide), fun _ => ⟨vi, sX3_tellFacts_119 hg hb (la_7 hg) ⟨v1 5 (by omega), fun h6 e6 => ?_⟩⟩⟩
    rw [nI_clamp (by omega), rb _ 3 (by omega), hR.2.2, am_gRs, am_sR_2] at e6
    subst e6
    refine ⟨fun q => absurd q (by decide), fun _ => ⟨vp, sX3_tellFacts_141 hg hb (la_7 hg) ⟨v1 6 (by omega), fun h7 e7 => ?_⟩⟩⟩
    rw [nI_clamp (by omega), rb _ 8 (by omega), hq.2.2.2.2, am_gRs, am_sR_2] at e7
    subst e7
    refine ⟨fun q => absurd q (by decide), fun _ => ⟨vp, sX3_tellFacts_163 hg hb (la_7 hg) ⟨v1 7 (by omega), fun h8 e8' h9 e9 h10 e10 => ?_⟩⟩⟩
    rw [nI_clamp (by omega), rb _ 7 (by omega), hq.2.2.2.1, am_gRs, am_sR_2] at e8'
    subst e8'
    rw [am_gRi, hI.2.1, e8, am_gRs, am_sR_2] at e9
    subst e9
    rw [am_gRs, am_sR_2] at e10
    subst e10
    refine z _ (fun j hj => ?_)
    have : j = 0 ∨ j = 1 ∨ j = 2 ∨ j = 3 ∨ j = 4 ∨ j = 5 ∨ j = 6 ∨ j = 7 ∨ j = 8 ∨ j = 9 := by omega
    rcases this with rfl | rfl | rfl | rfl | rfl | rfl | rfl | rfl | rfl | rfl <;> simp only [q_fx, c, if_true, Nat.reduceEqDiff, reduceIte] <;> rfl
  · have ep : p = 24 := by omega
    have bp : ¬ am_pap h b (nI p) := fun q => by
      obtain ⟨p', h1, h2⟩ := (q_pap hI hB).mp q
      exact c (by rw [(nI_eq (by omega) (by omega)).mp h2]; exact h1)
    refine ⟨fun _ => sX3_tellFacts_42 hg hb (la_7 hg) ⟨v1 1 (by omega), fun h2 e2 => ?_⟩, fun q => absurd q bp⟩
    rw [am_b0 bp, b1]
    rw [am_gRs, am_sR_2] at e2
    subst e2
    refine ⟨fun _ => sX3_tellFacts_63 hg hb (la_7 hg) ⟨v1 2 (by omega), fun h3 e3 h4 e4 => ?_⟩, fun q => absurd rfl q⟩
    rw [am_gRs, am_sR_2] at e3
    subst e3
    rw [am_gRs, am_sR_2] at e4
    subst e4
    refine ⟨fun q => absurd q (by decide), fun _ => ⟨vi, sX3_tellFacts_98 hg hb (la_7 hg) ⟨v1 4 (by omega), fun h5 e5 => ?_⟩⟩⟩
    rw [nI_clamp (by omega), rb _ 1 (by omega), rb _ 2 (by omega), hR.1, hR.2.1, q_sub hrr.2, am_gRs, am_sR_2] at e5
    subst e5
    refine ⟨fun q => absurd q (by decide), fun _ => ⟨vi, sX3_tellFacts_119 hg hb (la_7 hg) ⟨v1 5 (by omega), fun h6 e6 => ?_⟩⟩⟩
    rw [nI_clamp (by omega), rb _ 3 (by omega), hR.2.2, am_gRs, am_sR_2] at e6
    subst e6
    refine ⟨fun _ => sX3_tellFacts_141 hg hb (la_7 hg) ⟨v1 6 (by omega), fun h7 e7 => ?_⟩, fun q => absurd rfl q⟩
    rw [am_gRs, am_sR_2] at e7
    subst e7
    refine ⟨fun _ => sX3_tellFacts_163 hg hb (la_7 hg) ⟨v1 7 (by omega), fun h8 e8' h9 e9 h10 e10 => ?_⟩, fun q => absurd rfl q⟩
    rw [am_gRs, am_sR_2] at e8'
    subst e8'
    rw [am_gRi, hI.2.1, e8, am_gRs, am_sR_2] at e9
    subst e9
    rw [am_gRs, am_sR_2] at e10
    subst e10
    refine z _ (fun j hj => ?_)
    have : j = 0 ∨ j = 1 ∨ j = 2 ∨ j = 3 ∨ j = 4 ∨ j = 5 ∨ j = 6 ∨ j = 7 ∨ j = 8 ∨ j = 9 := by omega
    rcases this with rfl | rfl | rfl | rfl | rfl | rfl | rfl | rfl | rfl | rfl <;> simp only [q_fx, c, if_false, Nat.reduceEqDiff, reduceIte] <;> rfl
end
theorem am_sm_z {f : Nat → Nat} {n : Nat} : ∀ (m : Nat), (∀ k, n ≤ k → k < n + m → f k = 0) → am_sm f (n + m) = am_sm f n
  | 0, _ => rfl
  | m + 1, h => by
    rw [show n + (m + 1) = n + m + 1 by omega, am_sm_s, am_sm_z m (fun k h1 h2 => h k h1 (by omega)), h (n + m) (by omega) (by omega)]; rfl
section
variable {d : Nat} {h : am_H} {Z : Int32 → am_H → Prop} {B : am_AB}
theorem q_cnt (hB : q_ok B) (i : Nat) : am_sm (fun k => q_set B i / 2 ^ k % 2) 24 = q_C B i := by
  have hn := hB.1
  have key : ∀ k, q_set B i / 2 ^ k % 2 = if k < q_n B ∧ q_w B k = i then 1 else 0 := fun k => by
    have t : (q_set B i).testBit k = (decide (k < q_n B) && (q_w B k == i)) := q_bs_t _ _ _
    rw [Nat.testBit_eq_decide_div_mod_eq] at t
    by_cases c : k < q_n B ∧ q_w B k = i
    · rw [if_pos c]
      rw [c.2] at t
      simp [c.1] at t; exact t
    · rw [if_neg c]
      have f : (decide (k < q_n B) && (q_w B k == i)) = false := by
        by_cases c1 : k < q_n B
        · have : ¬ q_w B k = i := fun q => c ⟨c1, q⟩
          simp [this]
        · simp [c1]
      rw [f] at t
      have := of_decide_eq_false t
      omega
  rw [show 24 = q_n B + (24 - q_n B) by omega, am_sm_z (24 - q_n B) (fun k h1 _ => by rw [key, if_neg (fun q => by omega)])]
  unfold q_C
  refine am_sm_cg _ (fun k hk => ?_)
  rw [key]
  by_cases c : q_w B k = i
  · rw [if_pos ⟨hk, c⟩, if_pos c]
  · rw [if_neg (fun q => c q.2), if_neg c]
theorem m_bit {S : Nat} (hS : S < 2 ^ 31) (z : Z (nI (am_sm (fun k => S / 2 ^ k % 2) 24)) h) : ∀ (m j : Nat), j + m = 24 → Ru mX11_bits none d 4 [.int (nI S), .int (nI (am_sm (fun k => S / 2 ^ k % 2) j)), .int (nI j)] [] h Z
  | 0, j, hj => by
    have e : j = 24 := by omega
    subst e
    exact sX11_bits_4 ⟨fun _ => z, fun c => absurd (Int32.le_refl _) c⟩
  | m + 1, j, hj => by
    have ih := m_bit hS z m (j + 1) (by omega)
    rw [am_sm_s] at ih
    refine sX11_bits_4 ⟨fun c => absurd c (nI_ge (b := 24) (by omega) (by omega)), fun _ => ?_⟩
    have l : S / 2 ^ j ≤ S := Nat.div_le_self _ _
    rw [pk_shrN hS _ j (am_s5 j (by omega)), pk_andN (by omega) 1 (by decide), nI_add, nI_1]
    exact ih
theorem iX11_bits {i : Nat} (hB : q_ok B) (z : Z (nI (q_C B i)) h) : Sp mX11_bits d [.int (nI (q_set B i))] h Z := by
  have l : q_set B i < 2 ^ 31 := Nat.lt_of_lt_of_le (q_bs_lt _ _) (Nat.pow_le_pow_right (by decide) (by have := hB.1; omega))
  rw [← q_cnt hB i] at z
  exact Sp_of mf_X11_bits rfl (Nat.le_of_ble_eq_true rfl) rfl (sX11_bits_0 (m_bit l z 24 0 (by omega)))
theorem iX11_feelsDrawer {i : Nat} {dr : Int32} (hd : 5 ≤ d) (hN : q_IN h 74 B) (hM : q_IM h B) (hB : q_ok B) (hi : i < 12) (hr : 0 < q_r B i) (z : ∀ f, (∀ j, j < 10 → f j = q_fx B 24 i dr j) → Z 0 (am_sR h 93 f)) : Sp mX11_feelsDrawer d [.ref 73, .int (nI i), .int dr] h Z := by
  have hn := hB.1
  have hN' : ∀ f, q_IN (am_sR h 93 f) 74 B := fun f => hN
  have hM' : ∀ f, q_IM (am_sR h 93 f) B := fun f => hM
  have e8 : am_rem (nI (q_d B)) 100 = nI (q_d B % 100) := am_rem_n (d := 100) (by have := hB.2.1; omega) (by omega) (by omega)
  have g74 : ∀ f, (am_sR h 93 f).2.2 74 72 = nI (q_d B) := fun f => hN.1
  refine Sp_of mf_X11_feelsDrawer rfl (Nat.le_of_ble_eq_true rfl) rfl (sX11_feelsDrawer_0 (fun h1 e1 h2 e2 h3 e3 h4 e4 => ?_))
  subst e1
  rw [am_gRs, am_sR_2] at e2
  subst e2
  rw [am_gRs, am_sR_2] at e3
  subst e3
  rw [am_gRs, am_sR_2] at e4
  subst e4
  refine ⟨3, by omega, iX11_roomLeft (by omega) (hN' _) (hM' _) hB hi hr (fun h7 e7 => ?_)⟩
  rw [am_gRs, am_sR_2] at e7
  subst e7
  refine ⟨3, by omega, iX11_papersIn (hN' _) (hM' _) hB hi ⟨3, by omega, iX11_bits hB (fun h12 e12 h13 e13 h14 e14 h15 e15 h16 e16 => ?_)⟩⟩
  rw [am_gRs, am_sR_2] at e12
  subst e12
  rw [am_gRs, am_sR_2] at e13
  subst e13
  rw [am_gRs, am_sR_2] at e14
  subst e14
  rw [g74, e8, am_gRs, am_sR_2] at e15
  subst e15
  rw [am_gRs, am_sR_2] at e16
  subst e16
  refine z _ (fun j hj => ?_)
  have c : ¬ 24 < q_n B := by omega
  have : j = 0 ∨ j = 1 ∨ j = 2 ∨ j = 3 ∨ j = 4 ∨ j = 5 ∨ j = 6 ∨ j = 7 ∨ j = 8 ∨ j = 9 := by omega
  rcases this with rfl | rfl | rfl | rfl | rfl | rfl | rfl | rfl | rfl | rfl <;> simp only [q_fx, c, if_false, Nat.reduceEqDiff, reduceIte] <;> rfl
theorem iX11_feelsPaper {p i : Nat} {dr : Int32} (hd : 7 ≤ d) (hN : q_IN h 74 B) (hM : q_IM h B) (hB : q_ok B) (hp : p < q_n B) (hi : i < 12) (hr : 0 < q_r B i) (z : ∀ f, (∀ j, j < 10 → f j = q_fx B p i dr j) → Z 0 (am_sR h 93 f)) : Sp mX11_feelsPaper d [.ref 73, .int (nI p), .int (nI i), .int dr] h Z := by
  have hn := hB.1
  have a78 : ∀ f, (am_sR h 93 f).2.2 78 p = nI (q_su B p) := fun f => (hM.2.2.2 p hp).1
  have a79 : ∀ f, (am_sR h 93 f).2.2 79 p = nI (q_si B p) := fun f => (hM.2.2.2 p hp).2
  have hq := hN.2.2 p hp
  have a74 : ∀ f, (am_sR h 93 f).2.2 74 p = q_w1 (q_w B p) := fun f => hq.1
  have a48 : ∀ f, (am_sR h 93 f).2.2 74 (48 + p) = nI (q_ag B p) := fun f => hq.2.2
  have a24 : ∀ f, (am_sR h 93 f).2.2 74 (24 + p) = nI (q_rd B p) := fun f => hq.2.1
  have e24 : (24 : Int32) + nI p = nI (24 + p) := nI_add 24 p
  have e48 : (48 : Int32) + nI p = nI (48 + p) := nI_add 48 p
  refine Sp_of mf_X11_feelsPaper rfl (Nat.le_of_ble_eq_true rfl) rfl (sX11_feelsPaper_0 ⟨6, by omega, iX11_feelsDrawer (by omega) hN hM hB hi hr (fun f hf h3 e3 => ⟨vp_in_nI (by omega) (by omega), fun h5 e5 h6 e6 => ⟨vp_in_nI (by omega) (by omega), ?_⟩⟩)⟩)
  rw [am_gRs, am_sR_2] at e3
  subst e3
  rw [nI_clamp (by omega), a78, am_gRs, am_sR_2] at e5
  subst e5
  rw [nI_clamp (by omega), a79, am_gRs, am_sR_2] at e6
  subst e6
  rw [nI_clamp (by omega), a74, q_w1_o hB hp, e24, e48, nI_clamp (by omega), nI_clamp (by omega)]
  have fin : ∀ G : Nat → Int32, G = upd (upd (upd (upd (upd f 0 (nI p)) 1 (nI (q_su B p))) 2 (nI (q_si B p))) 6 (nI (q_ag B p))) 7 (nI (q_rd B p)) → ∀ j, j < 10 → G j = q_fx B p i dr j := fun G eG j hj => by
    subst eG
    have hf' := hf j hj
    have c : ¬ 24 < q_n B := by omega
    have : j = 0 ∨ j = 1 ∨ j = 2 ∨ j = 3 ∨ j = 4 ∨ j = 5 ∨ j = 6 ∨ j = 7 ∨ j = 8 ∨ j = 9 := by omega
    rcases this with rfl | rfl | rfl | rfl | rfl | rfl | rfl | rfl | rfl | rfl <;> simp only [q_fx, hp, c, if_true, if_false, Nat.reduceEqDiff, reduceIte] at hf' ⊢ <;> first | rfl | exact hf'
  refine ⟨fun c => ⟨vp_in_nI (by omega) (by omega), fun h9 e9 => ⟨vp_in_nI (by omega) (by omega), fun h11 e11 => ?_⟩⟩, fun c h12 e12 => ⟨vp_in_nI (by omega) (by omega), fun h14 e14 => ?_⟩⟩
  · rw [a48, am_gRs, am_sR_2] at e9
    subst e9
    rw [a24, am_gRs, am_sR_2] at e11
    subst e11
    exact z _ (fin _ rfl)
  · rw [am_gRs, am_sR_2] at e12
    subst e12
    rw [a24, am_gRs, am_sR_2] at e14
    subst e14
    refine z _ (fin _ ?_)
    rw [(hB.2.2.2.2 p hp).2.2.2.2.2 c]; rfl
end
