-- the law's text: a rule, read by the reference
set_option maxRecDepth 20000 in
set_option maxHeartbeats 2000000 in
theorem sX11_readsRule_0 {d : Nat} {h : am_H} {Z : Int32 → am_H → Prop}  (hd : 2 ≤ d) (w : (am_hok h ∧ (((am_hr h) = 101 → Ru mX11_readsRule none d 33 [.ref 73, .int (am_hr h)] [] h Z) ∧ (¬ ((am_hr h) = 101) → ((am_hr h) = 114 → Ru mX11_readsRule none d 33 [.ref 73, .int (am_hr h)] [] h Z) ∧ (¬ ((am_hr h) = 114) → ((am_hr h) = 120 → Ru mX11_readsRule none d 33 [.ref 73, .int (am_hr h)] [] h Z) ∧ (¬ ((am_hr h) = 120) → (((0 : Int32) = 0 ∨ (0 : Int32) = 1) ∧ (Z (0 : Int32) (am_sI h 73 12 ((-1000) * (1 : Int32) - (h.1 73 10))))))))))) : Ru mX11_readsRule none d 0 [.ref 73, .null] [] h Z := by
  refine st_aload_n dX11_readsRule_0 rfl ?_
  have hc1 := w.1
  replace w := w.2
  refine st_callV (M' := mX11_here) [] [] dX11_readsRule_1 ml_X11_170 mf_X11_here mv_X11_here sh_73 rfl rfl rfl (K := fun r h' => (am_hr h) = r ∧ h = h') ⟨1, by omega, iX11_here hc1 ⟨rfl, rfl⟩⟩ (fun r1 h1 w1 => ?_)
  obtain ⟨rfl, rfl⟩ := w1
  show Ru mX11_readsRule none d 4 [.ref 73, .null] [.int (am_hr h)] h Z
  refine st_istore_n (L' := [.ref 73, .int (am_hr h)]) dX11_readsRule_4 (by decide) rfl ?_
  refine st_iload_n dX11_readsRule_5 rfl ?_
  refine st_bipush (v := 101) dX11_readsRule_6 (by decide) ?_
  refine st_icmp_eq (tgt := 33) dX11_readsRule_8 (by decide) (fun c => ?_) (fun c => ?_)
  · replace w := w.1 c
    exact w
  · replace w := w.2 c
    refine st_iload_n dX11_readsRule_11 rfl ?_
    refine st_bipush (v := 114) dX11_readsRule_12 (by decide) ?_
    refine st_icmp_eq (tgt := 33) dX11_readsRule_14 (by decide) (fun c => ?_) (fun c => ?_)
    · replace w := w.1 c
      exact w
    · replace w := w.2 c
      refine st_iload_n dX11_readsRule_17 rfl ?_
      refine st_bipush (v := 120) dX11_readsRule_18 (by decide) ?_
      refine st_icmp_eq (tgt := 33) dX11_readsRule_20 (by decide) (fun c => ?_) (fun c => ?_)
      · replace w := w.1 c
        exact w
      · replace w := w.2 c
        refine st_aload_n dX11_readsRule_23 rfl ?_
        refine st_iconst (v := 1) dX11_readsRule_24 (by decide) ?_
        refine st_aload_n dX11_readsRule_25 rfl ?_
        refine st_getI fl_X11_164 fk_11_10 dX11_readsRule_26 sh_73 ?_
        refine st_callV (M' := mX11_wrongAt) [.int 1, .int (h.1 73 10)] [] dX11_readsRule_29 ml_X11_177 mf_X11_wrongAt mv_X11_wrongAt sh_73 rfl rfl rfl (K := fun r h' => (0 : Int32) = r ∧ am_sI h 73 12 ((-1000) * (1 : Int32) - (h.1 73 10)) = h') ⟨1, by omega, iX11_wrongAt ⟨rfl, rfl⟩⟩ (fun r1 h1 w1 => ?_)
        obtain ⟨rfl, rfl⟩ := w1
        show Ru mX11_readsRule none d 32 [.ref 73, .int (am_hr h)] [.int (0 : Int32)] (am_sI h 73 12 ((-1000) * (1 : Int32) - (h.1 73 10))) Z
        have hc2 := w.1
        replace w := w.2
        exact st_ireturn rfl (am_nb hc2) dX11_readsRule_32 w
set_option maxRecDepth 20000 in
set_option maxHeartbeats 2000000 in
theorem sX11_readsRule_33 {d : Nat} {h : am_H} {Z : Int32 → am_H → Prop} {x1 : Int32} (hd : 2 ≤ d) (w : (¬ (h.1 73 17) = 16 → (vp_in (h.1 73 17) 16 ∧ (∀ h2 : am_H, h2 = am_sR h 83 (upd (h.2.2 83) (h.1 73 17).toNatClampNeg x1) → (∀ h3 : am_H, h3 = am_sI h2 73 10 ((h2.1 73 10) + 1) → (vp_in (h3.1 73 17) 16 ∧ (∀ h5 : am_H, h5 = am_sR h3 84 (upd (h3.2.2 84) (h3.1 73 17).toNatClampNeg (h3.1 73 15)) → (∀ h6 : am_H, h6 = am_sI h5 73 14 0 → (∀ h7 : am_H, h7 = am_sI h6 73 16 0 → ((x1 = 120 → Ru mX11_readsRule none d 110 [.ref 73, .int x1] [] h7 Z) ∧ (¬ (x1 = 120) → am_cl mX11_readsSum d [.ref 73] h7 (fun r8 h9 => (¬ r8 = 0 → Ru mX11_readsRule none d 110 [.ref 73, .int x1] [] h9 Z) ∧ (r8 = 0 → Z 0 h9)))))))))))) ∧ ((h.1 73 17) = 16 → (((0 : Int32) = 0 ∨ (0 : Int32) = 1) ∧ (Z (0 : Int32) (am_sI h 73 12 ((-1000) * (4 : Int32) - (h.1 73 10))))))) : Ru mX11_readsRule none d 33 [.ref 73, .int x1] [] h Z := by
  refine st_aload_n dX11_readsRule_33 rfl ?_
  refine st_getI fl_X11_241 fk_11_17 dX11_readsRule_34 sh_73 ?_
  refine st_bipush (v := 16) dX11_readsRule_37 (by decide) ?_
  refine st_icmp_ne (tgt := 52) dX11_readsRule_39 (by decide) (fun c => ?_) (fun c => ?_)
  · replace w := w.1 c
    refine st_aload_n dX11_readsRule_52 rfl ?_
    refine st_getF (q := 83) fl_X11_38 fk_11_21 rfl dX11_readsRule_53 sh_73 ?_
    refine st_aload_n dX11_readsRule_56 rfl ?_
    refine st_getI fl_X11_241 fk_11_17 dX11_readsRule_57 sh_73 ?_
    refine st_iload_n dX11_readsRule_60 rfl ?_
    have hc1 := w.1
    replace w := w.2
    refine st_iast dX11_readsRule_61 sh_83 hc1 (fun h2 eh2 => ?_)
    replace w := w h2 eh2
    refine st_aload_n dX11_readsRule_62 rfl ?_
    refine st_aload_n dX11_readsRule_63 rfl ?_
    refine st_getI fl_X11_164 fk_11_10 dX11_readsRule_64 sh_73 ?_
    refine st_iconst (v := 1) dX11_readsRule_67 (by decide) ?_
    refine st_iadd dX11_readsRule_68 ?_
    refine st_putI flp_X11_164 fk_11_10 dX11_readsRule_69 sh_73 (fun h3 eh3 => ?_)
    replace w := w h3 eh3
    refine st_aload_n dX11_readsRule_72 rfl ?_
    refine st_getF (q := 84) fl_X11_41 fk_11_22 rfl dX11_readsRule_73 sh_73 ?_
    refine st_aload_n dX11_readsRule_76 rfl ?_
    refine st_getI fl_X11_241 fk_11_17 dX11_readsRule_77 sh_73 ?_
    refine st_aload_n dX11_readsRule_80 rfl ?_
    refine st_getI fl_X11_187 fk_11_15 dX11_readsRule_81 sh_73 ?_
    have hc4 := w.1
    replace w := w.2
    refine st_iast dX11_readsRule_84 sh_84 hc4 (fun h5 eh5 => ?_)
    replace w := w h5 eh5
    refine st_aload_n dX11_readsRule_85 rfl ?_
    refine st_iconst (v := 0) dX11_readsRule_86 (by decide) ?_
    refine st_putI flp_X11_191 fk_11_14 dX11_readsRule_87 sh_73 (fun h6 eh6 => ?_)
    replace w := w h6 eh6
    refine st_aload_n dX11_readsRule_90 rfl ?_
    refine st_iconst (v := 0) dX11_readsRule_91 (by decide) ?_
    refine st_putI flp_X11_194 fk_11_16 dX11_readsRule_92 sh_73 (fun h7 eh7 => ?_)
    replace w := w h7 eh7
    refine st_iload_n dX11_readsRule_95 rfl ?_
    refine st_bipush (v := 120) dX11_readsRule_96 (by decide) ?_
    refine st_icmp_eq (tgt := 110) dX11_readsRule_98 (by decide) (fun c => ?_) (fun c => ?_)
    · replace w := w.1 c
      exact w
    · replace w := w.2 c
      refine st_aload_n dX11_readsRule_101 rfl ?_
      refine st_callV (M' := mX11_readsSum) [] [] dX11_readsRule_102 ml_X11_226 mf_X11_readsSum mv_X11_readsSum sh_73 rfl rfl rfl w (fun r8 h9 w => ?_)
      show Ru mX11_readsRule none d 105 [.ref 73, .int x1] [.int r8] h9 Z
      refine st_if_ne (tgt := 110) dX11_readsRule_105 (by decide) (fun c => ?_) (fun c => ?_)
      · replace w := w.1 c
        exact w
      · replace w := w.2 c
        refine st_iconst (v := 0) dX11_readsRule_108 (by decide) ?_
        exact st_ireturn rfl rfl dX11_readsRule_109 w
  · replace w := w.2 c
    refine st_aload_n dX11_readsRule_42 rfl ?_
    refine st_iconst (v := 4) dX11_readsRule_43 (by decide) ?_
    refine st_aload_n dX11_readsRule_44 rfl ?_
    refine st_getI fl_X11_164 fk_11_10 dX11_readsRule_45 sh_73 ?_
    refine st_callV (M' := mX11_wrongAt) [.int 4, .int (h.1 73 10)] [] dX11_readsRule_48 ml_X11_177 mf_X11_wrongAt mv_X11_wrongAt sh_73 rfl rfl rfl (K := fun r h' => (0 : Int32) = r ∧ am_sI h 73 12 ((-1000) * (4 : Int32) - (h.1 73 10)) = h') ⟨1, by omega, iX11_wrongAt ⟨rfl, rfl⟩⟩ (fun r1 h1 w1 => ?_)
    obtain ⟨rfl, rfl⟩ := w1
    show Ru mX11_readsRule none d 51 [.ref 73, .int x1] [.int (0 : Int32)] (am_sI h 73 12 ((-1000) * (4 : Int32) - (h.1 73 10))) Z
    have hc10 := w.1
    replace w := w.2
    exact st_ireturn rfl (am_nb hc10) dX11_readsRule_51 w
set_option maxRecDepth 20000 in
set_option maxHeartbeats 2000000 in
theorem sX11_readsRule_110 {d : Nat} {h : am_H} {Z : Int32 → am_H → Prop} {u1 : Value} (w : (vp_in (h.1 73 17) 16 ∧ (∀ h2 : am_H, h2 = am_sR h 85 (upd (h.2.2 85) (h.1 73 17).toNatClampNeg (h.1 73 15)) → (am_cl mX11_readsCondition d [.ref 73] h2 (fun r3 h4 => (¬ r3 = 0 → (vp_in (h4.1 73 17) 16 ∧ (∀ h6 : am_H, h6 = am_sR h4 86 (upd (h4.2.2 86) (h4.1 73 17).toNatClampNeg (h4.1 73 15)) → (∀ h7 : am_H, h7 = am_sI h6 73 17 ((h6.1 73 17) + 1) → (Z 1 h7))))) ∧ (r3 = 0 → Z 0 h4)))))) : Ru mX11_readsRule none d 110 [.ref 73, u1] [] h Z := by
  refine st_aload_n dX11_readsRule_110 rfl ?_
  refine st_getF (q := 85) fl_X11_44 fk_11_23 rfl dX11_readsRule_111 sh_73 ?_
  refine st_aload_n dX11_readsRule_114 rfl ?_
  refine st_getI fl_X11_241 fk_11_17 dX11_readsRule_115 sh_73 ?_
  refine st_aload_n dX11_readsRule_118 rfl ?_
  refine st_getI fl_X11_187 fk_11_15 dX11_readsRule_119 sh_73 ?_
  have hc1 := w.1
  replace w := w.2
  refine st_iast dX11_readsRule_122 sh_85 hc1 (fun h2 eh2 => ?_)
  replace w := w h2 eh2
  refine st_aload_n dX11_readsRule_123 rfl ?_
  refine st_callV (M' := mX11_readsCondition) [] [] dX11_readsRule_124 ml_X11_244 mf_X11_readsCondition mv_X11_readsCondition sh_73 rfl rfl rfl w (fun r3 h4 w => ?_)
  show Ru mX11_readsRule none d 127 [.ref 73, u1] [.int r3] h4 Z
  refine st_if_ne (tgt := 132) dX11_readsRule_127 (by decide) (fun c => ?_) (fun c => ?_)
  · replace w := w.1 c
    refine st_aload_n dX11_readsRule_132 rfl ?_
    refine st_getF (q := 86) fl_X11_47 fk_11_24 rfl dX11_readsRule_133 sh_73 ?_
    refine st_aload_n dX11_readsRule_136 rfl ?_
    refine st_getI fl_X11_241 fk_11_17 dX11_readsRule_137 sh_73 ?_
    refine st_aload_n dX11_readsRule_140 rfl ?_
    refine st_getI fl_X11_187 fk_11_15 dX11_readsRule_141 sh_73 ?_
    have hc5 := w.1
    replace w := w.2
    refine st_iast dX11_readsRule_144 sh_86 hc5 (fun h6 eh6 => ?_)
    replace w := w h6 eh6
    refine st_aload_n dX11_readsRule_145 rfl ?_
    refine st_aload_n dX11_readsRule_146 rfl ?_
    refine st_getI fl_X11_241 fk_11_17 dX11_readsRule_147 sh_73 ?_
    refine st_iconst (v := 1) dX11_readsRule_150 (by decide) ?_
    refine st_iadd dX11_readsRule_151 ?_
    refine st_putI flp_X11_241 fk_11_17 dX11_readsRule_152 sh_73 (fun h7 eh7 => ?_)
    replace w := w h7 eh7
    refine st_iconst (v := 1) dX11_readsRule_155 (by decide) ?_
    exact st_ireturn rfl rfl dX11_readsRule_156 w
  · replace w := w.2 c
    refine st_iconst (v := 0) dX11_readsRule_130 (by decide) ?_
    exact st_ireturn rfl rfl dX11_readsRule_131 w
def lr_f2 (h h' : am_H) : Prop := (∀ a, ¬ (81 ≤ a ∧ a ≤ 86) → h'.2.2 a = h.2.2 a) ∧ (∀ a k, ¬ (a = 73 ∧ 10 ≤ k ∧ k ≤ 17 ∧ k ≠ 11) → h'.1 a k = h.1 a k) ∧ h'.2.1 = h.2.1
theorem lr_f2_of {h h' : am_H} (p : lr_fr h h') : lr_f2 h h' := ⟨fun a n1 => p.1 a (by omega) (by omega), fun a k n1 => p.2.1 a k (by omega), p.2.2⟩
theorem lr_f2_tr {h h1 h2 : am_H} (p : lr_f2 h h1) (q : lr_f2 h1 h2) : lr_f2 h h2 := ⟨fun a n1 => (q.1 a n1).trans (p.1 a n1), fun a k n1 => (q.2.1 a k n1).trans (p.2.1 a k n1), q.2.2.trans p.2.2⟩
theorem lr_f2_I {h : am_H} {j : Nat} {x : Int32} (hj : 10 ≤ j ∧ j ≤ 17 ∧ j ≠ 11) : lr_f2 h (am_sI h 73 j x) := ⟨fun _ _ => rfl, fun a k n1 => by rw [am_gI, if_neg (fun e => n1 ⟨e.1, by omega⟩)], rfl⟩
theorem lr_f2_R {h : am_H} {a : Nat} {f : Nat → Int32} (ha : 81 ≤ a ∧ a ≤ 86) : lr_f2 h (am_sR h a f) := ⟨fun a' n1 => by rw [am_gR, if_neg (fun e => n1 (by omega))], fun _ _ _ => rfl, rfl⟩
def lr_ru (t : Nat → Nat) (n q m k : Nat) (X Y : List (Nat × Nat)) (h h' : am_H) : Prop := lr_f2 h h' ∧ am_ms t n (lp_q t n (lp_v t n k).2.1).2.1 h' ∧ h'.1 73 15 = nI (m + X.length + Y.length) ∧ h'.1 73 17 = nI (q + 1) ∧ (∀ j, j < m → h'.2.2 81 j = h.2.2 81 j) ∧ lr_en (h'.2.2 81) X m ∧ lr_en (h'.2.2 81) Y (m + X.length) ∧ h'.2.2 83 = upd (h.2.2 83) q (nI (t k)) ∧ h'.2.2 84 = upd (h.2.2 84) q (nI m) ∧ h'.2.2 85 = upd (h.2.2 85) q (nI (m + X.length)) ∧ h'.2.2 86 = upd (h.2.2 86) q (nI (m + X.length + Y.length))
section
variable {d n k m q : Nat} {h : am_H} {Z : Int32 → am_H → Prop} {t : Nat → Nat}
/-- from its value on -/
theorem x_rr (hd : 14 ≤ d) (hn : n ≤ 240) (hq : q < 16) {h1 : am_H} {k1 w o : Nat} {X : List (Nat × Nat)} {S A : Nat → Int32} {u1 : Value} (ev : (lp_v t n k).2.1 = k1) (eX : (lp_v t n k).2.2 = X) (eF : lp_rf t n q k = (lp_q t n k1).1) (H : lr_H t n h1 h1 k1 (m + X.length) w o S A) (f1 : lr_f2 h h1) (h17 : h1.1 73 17 = nI q) (hm : m + X.length ≤ k1) (hs : ∀ j, j < m → S j = h.2.2 81 j) (he : lr_en S X m) (a83 : h1.2.2 83 = upd (h.2.2 83) q (nI (t k))) (a84 : h1.2.2 84 = upd (h.2.2 84) q (nI m)) (a85 : h1.2.2 85 = h.2.2 85) (a86 : h1.2.2 86 = h.2.2 86) (zf : ∀ h', ¬ lp_rf t n q k = 0 → lr_f2 h h' → h'.1 73 12 = lp_rf t n q k → Z 0 h') (zs : ∀ h', lp_rf t n q k = 0 → lr_ru t n q m k (lp_v t n k).2.2 (lp_q t n (lp_v t n k).2.1).2.2 h h' → Z 1 h') : Ru mX11_readsRule none d 110 [.ref 73, u1] [] h1 Z := by
  refine sX11_readsRule_110 ?_
  rw [h17, H.2.2.1]
  refine ⟨vp_in_nI hq (by omega), fun h2 e2 => ?_⟩
  rw [nI_clamp (by omega), a85] at e2
  have H2 : lr_H t n h2 h2 k1 (m + X.length) w o S A := by
    obtain ⟨b1, b2, b3, b4, b5, b6, b7⟩ := H
    rw [e2]
    exact ⟨am_ms_sR b1 (by decide), b2, b3, b4, by rw [am_gR, if_neg (by decide)]; exact b5, by rw [am_gR, if_neg (by decide)]; exact b6, lr_fr_rf _⟩
  have f2 : lr_f2 h h2 := lr_f2_tr f1 (by rw [e2]; exact lr_f2_R (by omega))
  have g2 : h2.1 73 17 = nI q := by rw [e2]; exact h17
  refine ⟨13, by omega, iX11_readsCondition (by omega) hn H2 hm (fun h4 nz f4 e4 => ⟨fun y => absurd rfl y, fun _ => zf h4 (by rw [eF]; exact nz) (lr_f2_tr f2 (lr_f2_of f4)) (by rw [eF]; exact e4)⟩) (fun k' Y h4 S4 A4 eq H4 s4 n4 => ⟨fun _ => ?_, fun y => absurd y (by decide)⟩)⟩
  have f4 := H4.2.2.2.2.2.2
  have g4 : h4.1 73 17 = nI q := by rw [f4.2.1 73 17 (by omega)]; exact g2
  rw [g4, H4.2.2.1]
  refine ⟨vp_in_nI hq (by omega), fun h6 e6 h7 e7 => zs h7 (by rw [eF, eq]) ?_⟩
  rw [nI_clamp (by omega)] at e6
  have g6 : h6.1 73 17 = nI q := by rw [e6]; exact g4
  rw [g6, nI_1] at e7
  have r7 : h7.2.2 = h6.2.2 := by rw [e7]; rfl
  have r81 : h7.2.2 81 = S4 := by rw [r7, e6, am_gR, if_neg (by decide)]; exact H4.2.2.2.2.1
  have f6 : lr_f2 h4 h6 := by rw [e6]; exact lr_f2_R (by omega)
  have f7 : lr_f2 h6 h7 := by rw [e7]; exact lr_f2_I (by omega)
  unfold lr_ru
  rw [ev, eX, eq]
  refine ⟨lr_f2_tr f2 (lr_f2_tr (lr_f2_of f4) (lr_f2_tr f6 f7)), ?_, ?_, ?_, fun j hj => ?_, ?_, ?_, ?_, ?_, ?_, ?_⟩
  · rw [e7]; exact am_ms_sI (by rw [e6]; exact am_ms_sR H4.1 (by decide)) (by decide) (by decide)
  · rw [e7, am_gI, if_neg (by decide), e6]; exact H4.2.2.1
  · rw [e7, am_gI, if_pos ⟨rfl, rfl⟩]
  · rw [r81, s4 j (by omega)]; exact hs j hj
  · rw [r81]; exact lr_en_cg (fun j h1 h2 => s4 j h2) he
  · rw [r81]; exact n4
  · rw [r7, e6, am_gR, if_neg (by decide), f4.1 83 (by decide) (by decide), e2, am_gR, if_neg (by decide)]; exact a83
  · rw [r7, e6, am_gR, if_neg (by decide), f4.1 84 (by decide) (by decide), e2, am_gR, if_neg (by decide)]; exact a84
  · rw [r7, e6, am_gR, if_neg (by decide), f4.1 85 (by decide) (by decide), e2, am_gRs]
  · rw [r7, e6, am_gRs, f4.1 86 (by decide) (by decide), e2, am_gR, if_neg (by decide), a86]
theorem iX11_readsRule (hd : 15 ≤ d) (hn : n ≤ 240) (hq : q ≤ 16) (hms : am_ms t n k h) (h15 : h.1 73 15 = nI m) (h17 : h.1 73 17 = nI q) (hm : m ≤ k) (zf : ∀ h', ¬ lp_rf t n q k = 0 → lr_f2 h h' → h'.1 73 12 = lp_rf t n q k → Z 0 h') (zs : ∀ h', lp_rf t n q k = 0 → lr_ru t n q m k (lp_v t n k).2.2 (lp_q t n (lp_v t n k).2.1).2.2 h h' → Z 1 h') : Sp mX11_readsRule d [.ref 73] h Z := by
  have tb := hms.2.2.2.2.1
  have hk : k ≤ n := hms.2.2.1
  have e101 : am_rd t n k = 101 ↔ (k < n ∧ t k = 101) := am_rd_eq (x := 101) (by omega) tb
  have e114 : am_rd t n k = 114 ↔ (k < n ∧ t k = 114) := am_rd_eq (x := 114) (by omega) tb
  have e120 : am_rd t n k = 120 ↔ (k < n ∧ t k = 120) := am_rd_eq (x := 120) (by omega) tb
  have fail : ∀ x, 1 ≤ x → x ≤ 8 → lp_rf t n q k = am_ft x k → Z 0 (am_sI h 73 12 ((-1000) * nI x - h.1 73 10)) := fun x h1 h2 e => by
    have nz := (am_ft_n (x := x) (k := k) h1 h2 (by omega)).2
    refine zf _ (by rw [e]; exact nz) (lr_f2_I (by omega)) ?_
    rw [am_gI, if_pos ⟨rfl, rfl⟩, hms.2.1, e]; rfl
  have go : lp_lt t n k → Ru mX11_readsRule none d 33 [.ref 73, .int (am_rd t n k)] [] h Z := fun lt => by
    have tk := tb k
    rw [show am_rd t n k = nI (t k) from if_pos lt.1]
    refine sX11_readsRule_33 (by omega) ?_
    rw [h17]
    refine ⟨fun c => ?_, fun c => ⟨Or.inl rfl, fail 4 (by omega) (by omega) ?_⟩⟩
    · have q16 : q < 16 := by
        rcases Nat.lt_or_ge q 16 with w | w
        · exact w
        · exact absurd (by rw [show q = 16 by omega]; rfl) c
      refine ⟨vp_in_nI q16 (by omega), fun h2 e2 h3 e3 => ?_⟩
      rw [nI_clamp (by omega)] at e2
      have h3i : h3.1 73 17 = nI q := by rw [e3, am_gI, if_neg (by decide), e2]; exact h17
      have h3m : h3.1 73 15 = nI m := by rw [e3, am_gI, if_neg (by decide), e2]; exact h15
      rw [h3i, h3m]
      refine ⟨vp_in_nI q16 (by omega), fun h5 e5 h6 e6 h7 e7 => ?_⟩
      rw [nI_clamp (by omega)] at e5
      have m2 : am_ms t n k h2 := by rw [e2]; exact am_ms_sR hms (by decide)
      have m3 : am_ms t n (k + 1) h3 := by rw [e3]; exact am_ms_nx m2 lt.1
      have m5 : am_ms t n (k + 1) h5 := by rw [e5]; exact am_ms_sR m3 (by decide)
      have m6 : am_ms t n (k + 1) h6 := by rw [e6]; exact am_ms_sI m5 (by decide) (by decide)
      have m7 : am_ms t n (k + 1) h7 := by rw [e7]; exact am_ms_sI m6 (by decide) (by decide)
      have r7 : h7.2.2 = h5.2.2 := by rw [e7, e6]; rfl
      have r3 : h3.2.2 = h2.2.2 := by rw [e3]; rfl
      have ra : ∀ a, a ≠ 83 → a ≠ 84 → h7.2.2 a = h.2.2 a := fun a n1 n2 => by rw [r7, e5, am_gR, if_neg n2, r3, e2, am_gR, if_neg n1]
      have b83 : h7.2.2 83 = upd (h.2.2 83) q (nI (t k)) := by rw [r7, e5, am_gR, if_neg (by decide), r3, e2, am_gRs]
      have b84 : h7.2.2 84 = upd (h.2.2 84) q (nI m) := by rw [r7, e5, am_gRs, r3, e2, am_gR, if_neg (by decide)]
      have i17 : h7.1 73 17 = nI q := by rw [e7, am_gI, if_neg (by decide), e6, am_gI, if_neg (by decide), e5]; exact h3i
      have i15 : h7.1 73 15 = nI m := by rw [e7, am_gI, if_neg (by decide), e6, am_gI, if_neg (by decide), e5]; exact h3m
      have i14 : h7.1 73 14 = nI 0 := by rw [e7, am_gI, if_neg (by decide), e6, am_gI, if_pos ⟨rfl, rfl⟩]; rfl
      have i16 : h7.1 73 16 = nI 0 := by rw [e7, am_gI, if_pos ⟨rfl, rfl⟩]; rfl
      have f2 : lr_f2 h h2 := by rw [e2]; exact lr_f2_R (by omega)
      have f3 : lr_f2 h2 h3 := by rw [e3]; exact lr_f2_I (by omega)
      have f5 : lr_f2 h3 h5 := by rw [e5]; exact lr_f2_R (by omega)
      have f6 : lr_f2 h5 h6 := by rw [e6]; exact lr_f2_I (by omega)
      have f7 : lr_f2 h6 h7 := by rw [e7]; exact lr_f2_I (by omega)
      have f : lr_f2 h h7 := lr_f2_tr f2 (lr_f2_tr f3 (lr_f2_tr f5 (lr_f2_tr f6 f7)))
      have H7 : lr_H t n h7 h7 (k + 1) m 0 0 (h.2.2 81) (h.2.2 82) := ⟨m7, i14, i15, i16, ra 81 (by decide) (by decide), ra 82 (by decide) (by decide), lr_fr_rf _⟩
      have eF : lp_rf t n q k = if ¬ (lp_v t n k).1 = 0 then (lp_v t n k).1 else (lp_q t n (lp_v t n k).2.1).1 := by
        unfold lp_rf; rw [if_neg (fun w => w lt), if_neg (by omega)]
      refine ⟨fun c2 => ?_, fun c2 => ?_⟩
      · have c2' : t k = 120 := (nI_eq (b := 120) (by omega) (by omega)).mp c2
        have ev : lp_v t n k = (0, k + 1, []) := if_pos c2'
        exact x_rr (X := []) (k1 := k + 1) (m := m) (by omega) hn q16 (by rw [ev]) (by rw [ev]) (by rw [eF, ev, if_neg (fun w => w rfl)]) H7 f i17 (by show m + 0 ≤ k + 1; omega) (fun _ _ => rfl) trivial b83 b84 (ra 85 (by decide) (by decide)) (ra 86 (by decide) (by decide)) zf zs
      · have c2' : ¬ t k = 120 := fun e => c2 (by rw [e]; rfl)
        have ev : lp_v t n k = lp_sum t n 6 (k + 1) := if_neg c2'
        have gk := lp_sum_g (t := t) (n := n) (c := 6) (a := 0) (by omega) (by omega) (k + 1) lt.1
        refine ⟨9, by omega, iX11_readsSum (c := 6) (by omega) hn (by omega) H7 (Or.inl rfl) (by omega) (fun h9 oc => ?_)⟩
        rw [← ev] at oc gk ⊢
        rcases oc with ⟨a1, S', A', H9, s9, n9, _⟩ | ⟨nz, f9, e9⟩
        · obtain ⟨g1, g2, g3, g4, _⟩ := gk.1 a1
          rw [show lr_r (lp_v t n k) = 1 from if_pos a1]
          have f9 := H9.2.2.2.2.2.2
          refine ⟨fun _ => ?_, fun w => absurd w (by decide)⟩
          exact x_rr (X := (lp_v t n k).2.2) (by omega) hn q16 rfl rfl (by rw [eF, if_neg (fun w => w a1)]) ⟨H9.1, H9.2.1, H9.2.2.1, H9.2.2.2.1, H9.2.2.2.2.1, H9.2.2.2.2.2.1, lr_fr_rf _⟩ (lr_f2_tr f (lr_f2_of f9)) (by rw [f9.2.1 73 17 (by omega)]; exact i17) (by omega) s9 n9 (by rw [f9.1 83 (by decide) (by decide)]; exact b83) (by rw [f9.1 84 (by decide) (by decide)]; exact b84) (by rw [f9.1 85 (by decide) (by decide)]; exact ra 85 (by decide) (by decide)) (by rw [f9.1 86 (by decide) (by decide)]; exact ra 86 (by decide) (by decide)) zf zs
        · rw [show lr_r (lp_v t n k) = 0 from if_neg nz]
          have eG : lp_rf t n q k = (lp_v t n k).1 := by rw [eF, if_pos nz]
          exact ⟨fun w => absurd rfl w, fun _ => zf h9 (by rw [eG]; exact nz) (lr_f2_tr f (lr_f2_of f9)) (by rw [eG]; exact e9)⟩
    · have q16 : q = 16 := (nI_eq (b := 16) (by omega) (by omega)).mp c
      unfold lp_rf; rw [if_neg (fun w => w lt), if_pos (by omega)]
  refine Sp_of mf_X11_readsRule rfl (Nat.le_of_ble_eq_true rfl) rfl (sX11_readsRule_0 (by omega) ⟨am_ms_ok hms, ?_⟩)
  rw [am_ms_hr hms]
  refine ⟨fun c => go ⟨(e101.mp c).1, Or.inl (e101.mp c).2⟩, fun c => ⟨fun c2 => go ⟨(e114.mp c2).1, Or.inr (Or.inl (e114.mp c2).2)⟩, fun c2 => ⟨fun c3 => go ⟨(e120.mp c3).1, Or.inr (Or.inr (e120.mp c3).2)⟩, fun c3 => ⟨Or.inl rfl, fail 1 (by omega) (by omega) ?_⟩⟩⟩⟩
  unfold lp_rf
  rw [if_pos (fun w => ?_)]
  rcases w.2 with y | y | y
  · exact c (e101.mpr ⟨w.1, y⟩)
  · exact c2 (e114.mpr ⟨w.1, y⟩)
  · exact c3 (e120.mpr ⟨w.1, y⟩)
end
