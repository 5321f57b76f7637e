-- the law's text: the reference reads it whole
set_option maxRecDepth 20000 in
set_option maxHeartbeats 2000000 in
theorem sX11_law_0 {d : Nat} {h : am_H} {Z : Int32 → am_H → Prop} {x1 : Int32} (hd : 2 ≤ d) (w : (¬ ((1 : Int32) ≤ x1 ∧ x1 ≤ (240 : Int32)) → Z (-1) h) ∧ ((1 : Int32) ≤ x1 ∧ x1 ≤ (240 : Int32) → (x1 ≤ (h.1 73 9) → am_cl mX11_beginsText d [.ref 73, .int x1] h (fun r1 h2 => am_cl mX11_readsRule d [.ref 73] h2 (fun r3 h4 => Ru mX11_law none d 31 [.ref 73, .int x1, .int r3, .null] [] h4 Z))) ∧ (¬ (x1 ≤ (h.1 73 9)) → Z (-1) h))) : Ru mX11_law none d 0 [.ref 73, .int x1, .null, .null] [] h Z := by
  refine st_iload_n dX11_law_0 rfl ?_
  refine st_iconst (v := 1) dX11_law_1 (by decide) ?_
  refine st_sipush (v := 240) dX11_law_2 (by decide) ?_
  refine st_callS (M' := mX11_in) [.int x1, .int 1, .int 240] [] dX11_law_5 ml_X11_125 mf_X11_in ms_X11_in rfl rfl rfl (K := fun r h' => (am_b ((1 : Int32) ≤ x1 ∧ x1 ≤ (240 : Int32))) = r ∧ h = h') ⟨1, by omega, iX11_in ⟨rfl, rfl⟩⟩ (fun r1 h1 w1 => ?_)
  obtain ⟨rfl, rfl⟩ := w1
  show Ru mX11_law none d 8 [.ref 73, .int x1, .null, .null] [.int (am_b ((1 : Int32) ≤ x1 ∧ x1 ≤ (240 : Int32)))] h Z
  refine st_ifb_eq (tgt := 19) dX11_law_8 (by decide) (fun c => ?_) (fun c => ?_)
  · replace w := w.1 c
    refine st_iconst (v := (-1)) dX11_law_19 (by decide) ?_
    exact st_ireturn rfl rfl dX11_law_20 w
  · replace w := w.2 c
    refine st_iload_n dX11_law_11 rfl ?_
    refine st_aload_n dX11_law_12 rfl ?_
    refine st_getI fl_X11_158 fk_11_9 dX11_law_13 sh_73 ?_
    refine st_icmp_le (tgt := 21) dX11_law_16 (by decide) (fun c => ?_) (fun c => ?_)
    · replace w := w.1 c
      refine st_aload_n dX11_law_21 rfl ?_
      refine st_iload_n dX11_law_22 rfl ?_
      refine st_callV (M' := mX11_beginsText) [.int x1] [] dX11_law_23 ml_X11_247 mf_X11_beginsText mv_X11_beginsText sh_73 rfl rfl rfl w (fun r1 h2 w => ?_)
      show Ru mX11_law none d 26 [.ref 73, .int x1, .null, .null] [] h2 Z
      refine st_aload_n dX11_law_26 rfl ?_
      refine st_callV (M' := mX11_readsRule) [] [] dX11_law_27 ml_X11_250 mf_X11_readsRule mv_X11_readsRule sh_73 rfl rfl rfl w (fun r3 h4 w => ?_)
      show Ru mX11_law none d 30 [.ref 73, .int x1, .null, .null] [.int r3] h4 Z
      refine st_istore_n (L' := [.ref 73, .int x1, .int r3, .null]) dX11_law_30 (by decide) rfl ?_
      exact w
    · replace w := w.2 c
      refine st_iconst (v := (-1)) dX11_law_19 (by decide) ?_
      exact st_ireturn rfl rfl dX11_law_20 w
set_option maxRecDepth 20000 in
set_option maxHeartbeats 2000000 in
theorem sX11_law_31 {d : Nat} {h : am_H} {Z : Int32 → am_H → Prop} {u1 : Value} {x2 : Int32} {u3 : Value} (w : (x2 = 0 → Ru mX11_law none d 71 [.ref 73, u1, .int x2, u3] [] h Z) ∧ (¬ (x2 = 0) → ((h.1 73 11) ≤ (h.1 73 10) → Ru mX11_law none d 71 [.ref 73, u1, .int x2, u3] [] h Z) ∧ (¬ ((h.1 73 11) ≤ (h.1 73 10)) → am_cl mX11_takes d [.ref 73, .int 59] h (fun r1 h2 => (r1 = 0 → Ru mX11_law none d 31 [.ref 73, u1, .int 0, u3] [] h2 Z) ∧ (¬ (r1 = 0) → am_cl mX11_readsRule d [.ref 73] h2 (fun r3 h4 => (r3 = 0 → Ru mX11_law none d 31 [.ref 73, u1, .int 0, u3] [] h4 Z) ∧ (¬ (r3 = 0) → Ru mX11_law none d 31 [.ref 73, u1, .int 1, u3] [] h4 Z))))))) : Ru mX11_law none d 31 [.ref 73, u1, .int x2, u3] [] h Z := by
  refine st_iload_n dX11_law_31 rfl ?_
  refine st_if_eq (tgt := 71) dX11_law_32 (by decide) (fun c => ?_) (fun c => ?_)
  · replace w := w.1 c
    exact w
  · replace w := w.2 c
    refine st_aload_n dX11_law_35 rfl ?_
    refine st_getI fl_X11_164 fk_11_10 dX11_law_36 sh_73 ?_
    refine st_aload_n dX11_law_39 rfl ?_
    refine st_getI fl_X11_167 fk_11_11 dX11_law_40 sh_73 ?_
    refine st_icmp_ge (tgt := 71) dX11_law_43 (by decide) (fun c => ?_) (fun c => ?_)
    · replace w := w.1 c
      exact w
    · replace w := w.2 c
      refine st_aload_n dX11_law_46 rfl ?_
      refine st_bipush (v := 59) dX11_law_47 (by decide) ?_
      refine st_callV (M' := mX11_takes) [.int 59] [] dX11_law_49 ml_X11_253 mf_X11_takes mv_X11_takes sh_73 rfl rfl rfl w (fun r1 h2 w => ?_)
      show Ru mX11_law none d 52 [.ref 73, u1, .int x2, u3] [.int r1] h2 Z
      refine st_if_eq (tgt := 66) dX11_law_52 (by decide) (fun c => ?_) (fun c => ?_)
      · replace w := w.1 c
        refine st_iconst (v := 0) dX11_law_66 (by decide) ?_
        refine st_istore_n (L' := [.ref 73, u1, .int 0, u3]) dX11_law_67 (by decide) rfl ?_
        refine st_goto (tgt := 31) dX11_law_68 (by decide) ?_
        exact w
      · replace w := w.2 c
        refine st_aload_n dX11_law_55 rfl ?_
        refine st_callV (M' := mX11_readsRule) [] [] dX11_law_56 ml_X11_250 mf_X11_readsRule mv_X11_readsRule sh_73 rfl rfl rfl w (fun r3 h4 w => ?_)
        show Ru mX11_law none d 59 [.ref 73, u1, .int x2, u3] [.int r3] h4 Z
        refine st_if_eq (tgt := 66) dX11_law_59 (by decide) (fun c => ?_) (fun c => ?_)
        · replace w := w.1 c
          refine st_iconst (v := 0) dX11_law_66 (by decide) ?_
          refine st_istore_n (L' := [.ref 73, u1, .int 0, u3]) dX11_law_67 (by decide) rfl ?_
          refine st_goto (tgt := 31) dX11_law_68 (by decide) ?_
          exact w
        · replace w := w.2 c
          refine st_iconst (v := 1) dX11_law_62 (by decide) ?_
          refine st_goto (tgt := 67) dX11_law_63 (by decide) ?_
          refine st_istore_n (L' := [.ref 73, u1, .int 1, u3]) dX11_law_67 (by decide) rfl ?_
          refine st_goto (tgt := 31) dX11_law_68 (by decide) ?_
          exact w
set_option maxRecDepth 20000 in
set_option maxHeartbeats 2000000 in
theorem sX11_law_71 {d : Nat} {h : am_H} {Z : Int32 → am_H → Prop} {u1 : Value} {x2 : Int32} {u3 : Value} (w : (∀ h1 : am_H, h1 = am_sI h 73 9 0 → ((¬ x2 = 0 → (∀ h2 : am_H, h2 = am_sI h1 73 18 (h1.1 73 17) → (Ru mX11_law none d 95 [.ref 73, u1, .int x2, .int 0] [] h2 Z))) ∧ (x2 = 0 → Z (h1.1 73 12) h1)))) : Ru mX11_law none d 71 [.ref 73, u1, .int x2, u3] [] h Z := by
  refine st_aload_n dX11_law_71 rfl ?_
  refine st_iconst (v := 0) dX11_law_72 (by decide) ?_
  refine st_putI flp_X11_158 fk_11_9 dX11_law_73 sh_73 (fun h1 eh1 => ?_)
  replace w := w h1 eh1
  refine st_iload_n dX11_law_76 rfl ?_
  refine st_if_ne (tgt := 85) dX11_law_77 (by decide) (fun c => ?_) (fun c => ?_)
  · replace w := w.1 c
    refine st_aload_n dX11_law_85 rfl ?_
    refine st_aload_n dX11_law_86 rfl ?_
    refine st_getI fl_X11_241 fk_11_17 dX11_law_87 sh_73 ?_
    refine st_putI flp_X11_256 fk_11_18 dX11_law_90 sh_73 (fun h2 eh2 => ?_)
    replace w := w h2 eh2
    refine st_iconst (v := 0) dX11_law_93 (by decide) ?_
    refine st_istore_n (L' := [.ref 73, u1, .int x2, .int 0]) dX11_law_94 (by decide) rfl ?_
    exact w
  · replace w := w.2 c
    refine st_aload_n dX11_law_80 rfl ?_
    refine st_getI fl_X11_174 fk_11_12 dX11_law_81 sh_73 ?_
    exact st_ireturn rfl rfl dX11_law_84 w
set_option maxRecDepth 20000 in
set_option maxHeartbeats 2000000 in
theorem sX11_law_95 {d : Nat} {h : am_H} {Z : Int32 → am_H → Prop} {u1 : Value} {u2 : Value} {x3 : Int32} (w : ((h.1 73 15) ≤ x3 → Ru mX11_law none d 123 [.ref 73, u1, u2, .int 0] [] h Z) ∧ (¬ ((h.1 73 15) ≤ x3) → (vp_in x3 260 ∧ (∀ h2 : am_H, h2 = am_sR h 87 (upd (h.2.2 87) x3.toNatClampNeg (h.2.2 81 x3.toNatClampNeg)) → (Ru mX11_law none d 95 [.ref 73, u1, u2, .int (x3 + 1)] [] h2 Z))))) : Ru mX11_law none d 95 [.ref 73, u1, u2, .int x3] [] h Z := by
  refine st_iload_n dX11_law_95 rfl ?_
  refine st_aload_n dX11_law_96 rfl ?_
  refine st_getI fl_X11_187 fk_11_15 dX11_law_97 sh_73 ?_
  refine st_icmp_ge (tgt := 121) dX11_law_100 (by decide) (fun c => ?_) (fun c => ?_)
  · replace w := w.1 c
    refine st_iconst (v := 0) dX11_law_121 (by decide) ?_
    refine st_istore_n (L' := [.ref 73, u1, u2, .int 0]) dX11_law_122 (by decide) rfl ?_
    exact w
  · replace w := w.2 c
    refine st_aload_n dX11_law_103 rfl ?_
    refine st_getF (q := 87) fl_X11_50 fk_11_25 rfl dX11_law_104 sh_73 ?_
    refine st_iload_n dX11_law_107 rfl ?_
    refine st_aload_n dX11_law_108 rfl ?_
    refine st_getF (q := 81) fl_X11_32 fk_11_19 rfl dX11_law_109 sh_73 ?_
    refine st_iload_n dX11_law_112 rfl ?_
    have hc1 := w.1
    replace w := w.2
    refine st_iald dX11_law_113 sh_81 hc1 ?_
    refine st_iast dX11_law_114 sh_87 hc1 (fun h2 eh2 => ?_)
    replace w := w h2 eh2
    refine st_iinc (L' := [.ref 73, u1, u2, .int (x3 + 1)]) dX11_law_115 rfl rfl (by decide) rfl ?_
    refine st_goto (tgt := 95) dX11_law_118 (by decide) ?_
    exact w
set_option maxRecDepth 20000 in
set_option maxHeartbeats 2000000 in
theorem sX11_law_123 {d : Nat} {h : am_H} {Z : Int32 → am_H → Prop} {u1 : Value} {u2 : Value} {x3 : Int32} (w : ((h.1 73 17) ≤ x3 → Z (h.1 73 17) h) ∧ (¬ ((h.1 73 17) ≤ x3) → (vp_in x3 16 ∧ (∀ h2 : am_H, h2 = am_sR h 88 (upd (h.2.2 88) x3.toNatClampNeg (h.2.2 83 x3.toNatClampNeg)) → (∀ h3 : am_H, h3 = am_sR h2 89 (upd (h2.2.2 89) x3.toNatClampNeg (h2.2.2 84 x3.toNatClampNeg)) → (∀ h4 : am_H, h4 = am_sR h3 90 (upd (h3.2.2 90) x3.toNatClampNeg (h3.2.2 85 x3.toNatClampNeg)) → (∀ h5 : am_H, h5 = am_sR h4 91 (upd (h4.2.2 91) x3.toNatClampNeg (h4.2.2 86 x3.toNatClampNeg)) → (Ru mX11_law none d 123 [.ref 73, u1, u2, .int (x3 + 1)] [] h5 Z)))))))) : Ru mX11_law none d 123 [.ref 73, u1, u2, .int x3] [] h Z := by
  refine st_iload_n dX11_law_123 rfl ?_
  refine st_aload_n dX11_law_124 rfl ?_
  refine st_getI fl_X11_241 fk_11_17 dX11_law_125 sh_73 ?_
  refine st_icmp_ge (tgt := 185) dX11_law_128 (by decide) (fun c => ?_) (fun c => ?_)
  · replace w := w.1 c
    refine st_aload_n dX11_law_185 rfl ?_
    refine st_getI fl_X11_241 fk_11_17 dX11_law_186 sh_73 ?_
    exact st_ireturn rfl rfl dX11_law_189 w
  · replace w := w.2 c
    refine st_aload_n dX11_law_131 rfl ?_
    refine st_getF (q := 88) fl_X11_53 fk_11_26 rfl dX11_law_132 sh_73 ?_
    refine st_iload_n dX11_law_135 rfl ?_
    refine st_aload_n dX11_law_136 rfl ?_
    refine st_getF (q := 83) fl_X11_38 fk_11_21 rfl dX11_law_137 sh_73 ?_
    refine st_iload_n dX11_law_140 rfl ?_
    have hc1 := w.1
    replace w := w.2
    refine st_iald dX11_law_141 sh_83 hc1 ?_
    refine st_iast dX11_law_142 sh_88 hc1 (fun h2 eh2 => ?_)
    replace w := w h2 eh2
    refine st_aload_n dX11_law_143 rfl ?_
    refine st_getF (q := 89) fl_X11_56 fk_11_27 rfl dX11_law_144 sh_73 ?_
    refine st_iload_n dX11_law_147 rfl ?_
    refine st_aload_n dX11_law_148 rfl ?_
    refine st_getF (q := 84) fl_X11_41 fk_11_22 rfl dX11_law_149 sh_73 ?_
    refine st_iload_n dX11_law_152 rfl ?_
    refine st_iald dX11_law_153 sh_84 hc1 ?_
    refine st_iast dX11_law_154 sh_89 hc1 (fun h3 eh3 => ?_)
    replace w := w h3 eh3
    refine st_aload_n dX11_law_155 rfl ?_
    refine st_getF (q := 90) fl_X11_59 fk_11_28 rfl dX11_law_156 sh_73 ?_
    refine st_iload_n dX11_law_159 rfl ?_
    refine st_aload_n dX11_law_160 rfl ?_
    refine st_getF (q := 85) fl_X11_44 fk_11_23 rfl dX11_law_161 sh_73 ?_
    refine st_iload_n dX11_law_164 rfl ?_
    refine st_iald dX11_law_165 sh_85 hc1 ?_
    refine st_iast dX11_law_166 sh_90 hc1 (fun h4 eh4 => ?_)
    replace w := w h4 eh4
    refine st_aload_n dX11_law_167 rfl ?_
    refine st_getF (q := 91) fl_X11_62 fk_11_29 rfl dX11_law_168 sh_73 ?_
    refine st_iload_n dX11_law_171 rfl ?_
    refine st_aload_n dX11_law_172 rfl ?_
    refine st_getF (q := 86) fl_X11_47 fk_11_24 rfl dX11_law_173 sh_73 ?_
    refine st_iload_n dX11_law_176 rfl ?_
    refine st_iald dX11_law_177 sh_86 hc1 ?_
    refine st_iast dX11_law_178 sh_91 hc1 (fun h5 eh5 => ?_)
    replace w := w h5 eh5
    refine st_iinc (L' := [.ref 73, u1, u2, .int (x3 + 1)]) dX11_law_179 rfl rfl (by decide) rfl ?_
    refine st_goto (tgt := 123) dX11_law_182 (by decide) ?_
    exact w
def lr_ln : List lp_R → Nat
  | [] => 0
  | r :: R => r.2.1.length + r.2.2.length + lr_ln R
section
variable {d n : Nat} {h : am_H} {Z : Int32 → am_H → Prop} {t : Nat → Nat} {u1 u3 : Value}
theorem m_lr (hd : 17 ≤ d) (hn : n ≤ 240) : ∀ (f q k m : Nat) (h : am_H), q + f = 17 → q ≤ 16 → am_ms t n k h → h.1 73 15 = nI m → h.1 73 17 = nI q → m ≤ k →
    (∀ h', ¬ (lp_lw t n f q k).1 = 0 → lr_f2 h h' → h'.1 73 12 = (lp_lw t n f q k).1 → Ru mX11_law none d 71 [.ref 73, u1, .int 0, u3] [] h' Z) →
    (∀ h', (lp_lw t n f q k).1 = 0 → lr_f2 h h' → h'.1 73 17 = nI (q + (lp_lw t n f q k).2.length) → h'.1 73 15 = nI (m + lr_ln (lp_lw t n f q k).2) → m + lr_ln (lp_lw t n f q k).2 ≤ n → (∀ j, j < m → h'.2.2 81 j = h.2.2 81 j) → (∀ i, 83 ≤ i → i ≤ 86 → ∀ j, j < q → h'.2.2 i j = h.2.2 i j) → lr_rs (h'.2.2 83) (h'.2.2 84) (h'.2.2 85) (h'.2.2 86) (h'.2.2 81) (lp_lw t n f q k).2 q m → Ru mX11_law none d 71 [.ref 73, u1, .int 1, u3] [] h' Z) →
    Sp mX11_readsRule 15 [.ref 73] h (fun r h4 => (r = 0 ∨ r = 1) ∧ Ru mX11_law none d 31 [.ref 73, u1, .int r, u3] [] h4 Z)
  | 0, q, _, _, _, hq, hq2, _, _, _, _, _, _ => absurd hq (by omega)
  | f + 1, q, k, m, h, hq, hq2, hms, h15, h17, hm, zf, zs => by
    have hk := hms.2.2.1
    have tb := hms.2.2.2.2.1
    refine iX11_readsRule (by omega) hn hq2 hms h15 h17 hm (fun h2 nz f2 e2 => ⟨Or.inl rfl, ?_⟩) (fun h2 e0 ru => ⟨Or.inr rfl, ?_⟩)
    · rw [lp_lw_f nz] at zf
      exact sX11_law_31 ⟨fun _ => zf h2 nz f2 e2, fun w => absurd rfl w⟩
    · rw [lp_lw_s e0] at zf zs
      obtain ⟨g1, g2, g3, g4, g5, g6, g7, g8⟩ := lp_rg hn hk e0
      unfold lr_ru at ru
      clear g5 g7 g8
      generalize (lp_q t n (lp_v t n k).2.1).2.2 = X2 at *
      generalize (lp_v t n k).2.2 = X1 at *
      generalize (lp_q t n (lp_v t n k).2.1).2.1 = K at *
      obtain ⟨r1, r2, r3, r4, r5, r6, r7, r8, r9, r10, r11⟩ := ru
      refine sX11_law_31 ⟨fun w => absurd w (by decide), fun _ => ?_⟩
      rw [r2.1, r2.2.1, nI_leI (by omega) (by omega)]
      refine ⟨fun c => ?_, fun c => ?_⟩
      · have en : lp_nx t n f q K = (0, []) := by unfold lp_nx; rw [if_neg (by omega)]
        rw [en] at zs
        have el : lr_ln ((t k, X1, X2) :: ((0 : Int32), ([] : List lp_R)).2) = X1.length + X2.length := Nat.add_zero _
        rw [el] at zs
        refine zs h2 rfl r1 r4 (by rw [r3, Nat.add_assoc]) (by omega) r5 (fun i i1 i2 j hj => ?_) ⟨?_, ?_, ?_, ?_, r6, r7, trivial⟩
        · rcases (by omega : i = 83 ∨ i = 84 ∨ i = 85 ∨ i = 86) with rfl | rfl | rfl | rfl
          · rw [r8]; exact if_neg (by omega)
          · rw [r9]; exact if_neg (by omega)
          · rw [r10]; exact if_neg (by omega)
          · rw [r11]; exact if_neg (by omega)
        · rw [r8]; exact if_pos rfl
        · rw [r9]; exact if_pos rfl
        · rw [r10]; exact if_pos rfl
        · rw [r11]; exact if_pos rfl
      · have hK : K < n := by omega
        refine ⟨16, by omega, iX11_takes (x := 59) (by omega) (by omega) r2 (fun _ c59 => ⟨fun w => absurd w (by decide), fun _ => ?_⟩) (fun c59 => ⟨fun _ => ?_, fun w => absurd rfl w⟩)⟩
        · have en : lp_nx t n f q K = lp_lw t n f (q + 1) (K + 1) := by unfold lp_nx; rw [if_pos hK, if_pos c59]
          rw [en] at zf zs
          have f3 : lr_f2 h (am_sI h2 73 10 (h2.1 73 10 + 1)) := lr_f2_tr r1 (lr_f2_I (by omega))
          have m3 := am_ms_nx r2 hK
          have i15 : (am_sI h2 73 10 (h2.1 73 10 + 1)).1 73 15 = nI (m + X1.length + X2.length) := by rw [am_gI, if_neg (by decide)]; exact r3
          have i17 : (am_sI h2 73 10 (h2.1 73 10 + 1)).1 73 17 = nI (q + 1) := by rw [am_gI, if_neg (by decide)]; exact r4
          have a3 : (am_sI h2 73 10 (h2.1 73 10 + 1)).2.2 = h2.2.2 := rfl
          generalize am_sI h2 73 10 (h2.1 73 10 + 1) = h3 at f3 m3 i15 i17 a3 ⊢
          refine ⟨15, by omega, am_sp_mono (m_lr hd hn f (q + 1) (K + 1) (m + X1.length + X2.length) h3 (by omega) (by omega) m3 i15 i17 (by omega) (fun h' w1 w2 w3 => zf h' w1 (lr_f2_tr f3 w2) w3) (fun h' w1 w2 w3 w3b w3c w4 w5 w6 => ?_)) (fun r h4 w => ?_)⟩
          · rw [a3] at w4 w5
            have el : q + 1 + (lp_lw t n f (q + 1) (K + 1)).2.length = q + ((t k, X1, X2) :: (lp_lw t n f (q + 1) (K + 1)).2).length := by rw [List.length_cons]; omega
            have ed : m + X1.length + X2.length + lr_ln (lp_lw t n f (q + 1) (K + 1)).2 = m + lr_ln ((t k, X1, X2) :: (lp_lw t n f (q + 1) (K + 1)).2) := by
              show _ = m + (X1.length + X2.length + lr_ln (lp_lw t n f (q + 1) (K + 1)).2)
              omega
            rw [el] at w3
            rw [ed] at w3b w3c
            have rowj : ∀ i, 83 ≤ i → i ≤ 86 → ∀ j, j < q → h2.2.2 i j = h.2.2 i j := fun i i1 i2 j hj => by
              rcases (by omega : i = 83 ∨ i = 84 ∨ i = 85 ∨ i = 86) with rfl | rfl | rfl | rfl
              · rw [r8]; exact if_neg (by omega)
              · rw [r9]; exact if_neg (by omega)
              · rw [r10]; exact if_neg (by omega)
              · rw [r11]; exact if_neg (by omega)
            refine zs h' w1 (lr_f2_tr f3 w2) w3 w3b w3c (fun j hj => (w4 j (by omega)).trans (r5 j hj)) (fun i i1 i2 j hj => (w5 i i1 i2 j (by omega)).trans (rowj i i1 i2 j hj)) ⟨?_, ?_, ?_, ?_, ?_, ?_, w6⟩
            · rw [w5 83 (by omega) (by omega) q (by omega), r8]; exact if_pos rfl
            · rw [w5 84 (by omega) (by omega) q (by omega), r9]; exact if_pos rfl
            · rw [w5 85 (by omega) (by omega) q (by omega), r10]; exact if_pos rfl
            · rw [w5 86 (by omega) (by omega) q (by omega), r11]; exact if_pos rfl
            · exact lr_en_cg (fun j h1 h2 => w4 j (Nat.lt_of_lt_of_le h2 (Nat.le_add_right _ _))) r6
            · exact lr_en_cg (fun j h1 h2 => w4 j h2) r7
          · rcases w.1 with e | e
            · subst e; exact ⟨fun _ => w.2, fun y => absurd rfl y⟩
            · subst e; exact ⟨fun y => absurd y (by decide), fun _ => w.2⟩
        · have en : lp_nx t n f q K = (am_ft 1 K, []) := by unfold lp_nx; rw [if_pos hK, if_neg (fun w => c59 ⟨hK, w⟩)]
          rw [en] at zf
          have nz := (am_ft_n (x := 1) (k := K) (by omega) (by omega) (by omega)).2
          exact sX11_law_31 ⟨fun _ => zf _ nz (lr_f2_tr r1 (lr_f2_I (by omega))) (by rw [am_gI, if_pos ⟨rfl, rfl⟩]), fun w => absurd rfl w⟩
theorem m_l95 {u2 : Value} {m : Nat} (hm : m ≤ 240) (h15 : h.1 73 15 = nI m) (z : ∀ f, (∀ i, i < m → f i = h.2.2 81 i) → Ru mX11_law none d 123 [.ref 73, u1, u2, .int 0] [] (am_sR h 87 f) Z) : ∀ (r j : Nat) (f : Nat → Int32), j + r = m → (∀ i, i < j → f i = h.2.2 81 i) → Ru mX11_law none d 95 [.ref 73, u1, u2, .int (nI j)] [] (am_sR h 87 f) Z
  | 0, j, f, hj, hf => by
    have ej : j = m := by omega
    subst ej
    exact sX11_law_95 ⟨fun _ => z f hf, fun c => absurd (by show h.1 73 15 ≤ _; rw [h15]; exact Int32.le_refl _) c⟩
  | r + 1, j, f, hj, hf => by
    refine sX11_law_95 ⟨fun c => absurd c (by show ¬ h.1 73 15 ≤ _; rw [h15]; exact nI_ge (by omega) (by omega)), fun _ => ⟨vp_in_nI (by omega) (by omega), fun h2 e2 => ?_⟩⟩
    rw [nI_clamp (by omega), am_gRs, am_sR_2, am_gR, if_neg (by decide)] at e2
    subst e2
    rw [nI_1]
    refine m_l95 hm h15 z r (j + 1) _ (by omega) (fun i hi => ?_)
    unfold upd
    by_cases c : i = j
    · rw [if_pos c, c]
    · rw [if_neg c]; exact hf i (by omega)
def lr_f5 (h h' : am_H) : Prop := (∀ a, ¬ (88 ≤ a ∧ a ≤ 91) → h'.2.2 a = h.2.2 a) ∧ h'.1 = h.1 ∧ h'.2.1 = h.2.1
theorem lr_f5_R {h1 : am_H} {a : Nat} {f : Nat → Int32} (p : lr_f5 h h1) (ha : 88 ≤ a ∧ a ≤ 91) : lr_f5 h (am_sR h1 a f) := ⟨fun a' n1 => by rw [am_gR, if_neg (by omega)]; exact p.1 a' n1, p.2.1, p.2.2⟩
theorem m_l123 {u2 : Value} {m : Nat} (hm : m ≤ 16) (h17 : h.1 73 17 = nI m) (z : ∀ h', lr_f5 h h' → (∀ i, i < m → h'.2.2 88 i = h.2.2 83 i ∧ h'.2.2 89 i = h.2.2 84 i ∧ h'.2.2 90 i = h.2.2 85 i ∧ h'.2.2 91 i = h.2.2 86 i) → Z (nI m) h') : ∀ (r j : Nat) (h1 : am_H), j + r = m → lr_f5 h h1 → (∀ i, i < j → h1.2.2 88 i = h.2.2 83 i ∧ h1.2.2 89 i = h.2.2 84 i ∧ h1.2.2 90 i = h.2.2 85 i ∧ h1.2.2 91 i = h.2.2 86 i) → Ru mX11_law none d 123 [.ref 73, u1, u2, .int (nI j)] [] h1 Z
  | 0, j, h1, hj, f1, hf => by
    have ej : j = m := by omega
    subst ej
    refine sX11_law_123 ?_
    rw [f1.2.1, h17]
    exact ⟨fun _ => z h1 f1 hf, fun c => absurd (Int32.le_refl _) c⟩
  | r + 1, j, h1, hj, f1, hf => by
    refine sX11_law_123 ⟨fun c => absurd c (by rw [f1.2.1, h17]; exact nI_ge (by omega) (by omega)), fun _ => ⟨vp_in_nI (by omega) (by omega), fun h2 e2 h3 e3 h4 e4 h5 e5 => ?_⟩⟩
    rw [nI_clamp (by omega)] at e2 e3 e4 e5
    rw [nI_1]
    have b83 := f1.1 83 (by omega)
    have b84 := f1.1 84 (by omega)
    have b85 := f1.1 85 (by omega)
    have b86 := f1.1 86 (by omega)
    have x2 : h2.2.2 84 j = h.2.2 84 j := by rw [e2, am_gR, if_neg (by decide), b84]
    have x3 : h3.2.2 85 j = h.2.2 85 j := by rw [e3, am_gR, if_neg (by decide), e2, am_gR, if_neg (by decide), b85]
    have x4 : h4.2.2 86 j = h.2.2 86 j := by rw [e4, am_gR, if_neg (by decide), e3, am_gR, if_neg (by decide), e2, am_gR, if_neg (by decide), b86]
    rw [b83] at e2
    rw [x2] at e3
    rw [x3] at e4
    rw [x4] at e5
    have k88 : h5.2.2 88 = upd (h1.2.2 88) j (h.2.2 83 j) := by rw [e5, am_gR, if_neg (by decide), e4, am_gR, if_neg (by decide), e3, am_gR, if_neg (by decide), e2, am_gRs]
    have k89 : h5.2.2 89 = upd (h1.2.2 89) j (h.2.2 84 j) := by rw [e5, am_gR, if_neg (by decide), e4, am_gR, if_neg (by decide), e3, am_gRs, e2, am_gR, if_neg (by decide)]
    have k90 : h5.2.2 90 = upd (h1.2.2 90) j (h.2.2 85 j) := by rw [e5, am_gR, if_neg (by decide), e4, am_gRs, e3, am_gR, if_neg (by decide), e2, am_gR, if_neg (by decide)]
    have k91 : h5.2.2 91 = upd (h1.2.2 91) j (h.2.2 86 j) := by rw [e5, am_gRs, e4, am_gR, if_neg (by decide), e3, am_gR, if_neg (by decide), e2, am_gR, if_neg (by decide)]
    refine m_l123 hm h17 z r (j + 1) h5 (by omega) (by rw [e5, e4, e3, e2]; exact lr_f5_R (lr_f5_R (lr_f5_R (lr_f5_R f1 (by omega)) (by omega)) (by omega)) (by omega)) (fun i hi => ?_)
    rw [k88, k89, k90, k91]
    unfold upd
    by_cases c : i = j
    · subst c; rw [if_pos rfl, if_pos rfl, if_pos rfl, if_pos rfl]; exact ⟨rfl, rfl, rfl, rfl⟩
    · rw [if_neg c, if_neg c, if_neg c, if_neg c]; exact hf i (by omega)
end
