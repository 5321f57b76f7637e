-- the law's text: the reference reads a sum
set_option maxRecDepth 20000 in
set_option maxHeartbeats 2000000 in
theorem sX11_readsFactor_0 {d : Nat} {h : am_H} {Z : Int32 → am_H → Prop}  (w : Ru mX11_readsFactor none d 0 [.ref 73, .null] [] h Z) : Ru mX11_readsFactor none d 0 [.ref 73, .null] [] h Z := by
  exact w
set_option maxRecDepth 20000 in
set_option maxHeartbeats 2000000 in
theorem sX11_readsFactor_0c {d : Nat} {h : am_H} {Z : Int32 → am_H → Prop} {u1 : Value} (hd : 3 ≤ d) (w : (am_hok h ∧ ((¬ (am_hr h) = 91 → (¬ (48 ≤ am_hr h ∧ am_hr h ≤ 57) → am_cl mX11_factOf d [.int (am_hr h)] h (fun r2 h3 => (¬ r2 = (-1) → am_cl mX11_notes d [.ref 73, .int 1, .int r2] h3 (fun r4 h5 => (∀ h6 : am_H, h6 = am_sI h5 73 10 ((h5.1 73 10) + 1) → (Z 1 h6)))) ∧ (r2 = (-1) → (((0 : Int32) = 0 ∨ (0 : Int32) = 1) ∧ (Z (0 : Int32) (am_sI h3 73 12 ((-1000) * (1 : Int32) - (h3.1 73 10)))))))) ∧ (48 ≤ am_hr h ∧ am_hr h ≤ 57 → am_cl mX11_readsNumber d [.ref 73] h (fun r8 h9 => (¬ r8 = 0 → am_cl mX11_notes d [.ref 73, .int 0, .int (h9.1 73 13)] h9 (fun r10 h11 => Z 1 h11)) ∧ (r8 = 0 → Z 0 h9)))) ∧ ((am_hr h) = 91 → am_cl mX11_opens d [.ref 73, .int 14] h (fun r12 h13 => (¬ r12 = 0 → Ru mX11_readsFactor none d 0 [.ref 73, u1] [] h13 Z) ∧ (r12 = 0 → Z 0 h13)))))) : Ru mX11_readsFactor none d 0 [.ref 73, u1] [] h Z := by
  refine st_aload_n dX11_readsFactor_0 rfl ?_
  have hc1 := w.1
  replace w := w.2
  refine st_callV (M' := mX11_here) [] [] dX11_readsFactor_1 ml_X11_170 mf_X11_here mv_X11_here sh_73 rfl rfl rfl (K := fun r h' => (am_hr h) = r ∧ h = h') ⟨1, by omega, iX11_here hc1 ⟨rfl, rfl⟩⟩ (fun r1 h1 w1 => ?_)
  obtain ⟨rfl, rfl⟩ := w1
  show Ru mX11_readsFactor none d 4 [.ref 73, u1] [.int (am_hr h)] h Z
  refine st_bipush (v := 91) dX11_readsFactor_4 (by decide) ?_
  refine st_icmp_ne (tgt := 20) dX11_readsFactor_6 (by decide) (fun c => ?_) (fun c => ?_)
  · replace w := w.1 c
    refine st_aload_n dX11_readsFactor_20 rfl ?_
    refine st_callV (M' := mX11_isDigit) [] [] dX11_readsFactor_21 ml_X11_183 mf_X11_isDigit mv_X11_isDigit sh_73 rfl rfl rfl (K := fun r h' => (am_b (48 ≤ am_hr h ∧ am_hr h ≤ 57)) = r ∧ h = h') ⟨2, by omega, iX11_isDigit (by omega) hc1 ⟨rfl, rfl⟩⟩ (fun r1 h1 w1 => ?_)
    obtain ⟨rfl, rfl⟩ := w1
    show Ru mX11_readsFactor none d 24 [.ref 73, u1] [.int (am_b (48 ≤ am_hr h ∧ am_hr h ≤ 57))] h Z
    refine st_ifb_eq (tgt := 47) dX11_readsFactor_24 (by decide) (fun c => ?_) (fun c => ?_)
    · replace w := w.1 c
      refine st_aload_n dX11_readsFactor_47 rfl ?_
      refine st_callV (M' := mX11_here) [] [] dX11_readsFactor_48 ml_X11_170 mf_X11_here mv_X11_here sh_73 rfl rfl rfl (K := fun r h' => (am_hr h) = r ∧ h = h') ⟨1, by omega, iX11_here hc1 ⟨rfl, rfl⟩⟩ (fun r1 h1 w1 => ?_)
      obtain ⟨rfl, rfl⟩ := w1
      show Ru mX11_readsFactor none d 51 [.ref 73, u1] [.int (am_hr h)] h Z
      refine st_callS (M' := mX11_factOf) [.int (am_hr h)] [] dX11_readsFactor_51 ml_X11_210 mf_X11_factOf ms_X11_factOf rfl rfl rfl w (fun r2 h3 w => ?_)
      show Ru mX11_readsFactor none d 54 [.ref 73, u1] [.int r2] h3 Z
      refine st_istore_n (L' := [.ref 73, .int r2]) dX11_readsFactor_54 (by decide) rfl ?_
      refine st_iload_n dX11_readsFactor_55 rfl ?_
      refine st_iconst (v := (-1)) dX11_readsFactor_56 (by decide) ?_
      refine st_icmp_ne (tgt := 70) dX11_readsFactor_57 (by decide) (fun c => ?_) (fun c => ?_)
      · replace w := w.1 c
        refine st_aload_n dX11_readsFactor_70 rfl ?_
        refine st_iconst (v := 1) dX11_readsFactor_71 (by decide) ?_
        refine st_iload_n dX11_readsFactor_72 rfl ?_
        refine st_callV (M' := mX11_notes) [.int 1, .int r2] [] dX11_readsFactor_73 ml_X11_200 mf_X11_notes mv_X11_notes sh_73 rfl rfl rfl w (fun r4 h5 w => ?_)
        show Ru mX11_readsFactor none d 76 [.ref 73, .int r2] [] h5 Z
        refine st_aload_n dX11_readsFactor_76 rfl ?_
        refine st_aload_n dX11_readsFactor_77 rfl ?_
        refine st_getI fl_X11_164 fk_11_10 dX11_readsFactor_78 sh_73 ?_
        refine st_iconst (v := 1) dX11_readsFactor_81 (by decide) ?_
        refine st_iadd dX11_readsFactor_82 ?_
        refine st_putI flp_X11_164 fk_11_10 dX11_readsFactor_83 sh_73 (fun h6 eh6 => ?_)
        replace w := w h6 eh6
        refine st_iconst (v := 1) dX11_readsFactor_86 (by decide) ?_
        exact st_ireturn rfl rfl dX11_readsFactor_87 w
      · replace w := w.2 c
        refine st_aload_n dX11_readsFactor_60 rfl ?_
        refine st_iconst (v := 1) dX11_readsFactor_61 (by decide) ?_
        refine st_aload_n dX11_readsFactor_62 rfl ?_
        refine st_getI fl_X11_164 fk_11_10 dX11_readsFactor_63 sh_73 ?_
        refine st_callV (M' := mX11_wrongAt) [.int 1, .int (h3.1 73 10)] [] dX11_readsFactor_66 ml_X11_177 mf_X11_wrongAt mv_X11_wrongAt sh_73 rfl rfl rfl (K := fun r h' => (0 : Int32) = r ∧ am_sI h3 73 12 ((-1000) * (1 : Int32) - (h3.1 73 10)) = h') ⟨1, by omega, iX11_wrongAt ⟨rfl, rfl⟩⟩ (fun r1 h1 w1 => ?_)
        obtain ⟨rfl, rfl⟩ := w1
        show Ru mX11_readsFactor none d 69 [.ref 73, .int r2] [.int (0 : Int32)] (am_sI h3 73 12 ((-1000) * (1 : Int32) - (h3.1 73 10))) Z
        have hc7 := w.1
        replace w := w.2
        exact st_ireturn rfl (am_nb hc7) dX11_readsFactor_69 w
    · replace w := w.2 c
      refine st_aload_n dX11_readsFactor_27 rfl ?_
      refine st_callV (M' := mX11_readsNumber) [] [] dX11_readsFactor_28 ml_X11_207 mf_X11_readsNumber mv_X11_readsNumber sh_73 rfl rfl rfl w (fun r8 h9 w => ?_)
      show Ru mX11_readsFactor none d 31 [.ref 73, u1] [.int r8] h9 Z
      refine st_if_ne (tgt := 36) dX11_readsFactor_31 (by decide) (fun c => ?_) (fun c => ?_)
      · replace w := w.1 c
        refine st_aload_n dX11_readsFactor_36 rfl ?_
        refine st_iconst (v := 0) dX11_readsFactor_37 (by decide) ?_
        refine st_aload_n dX11_readsFactor_38 rfl ?_
        refine st_getI fl_X11_180 fk_11_13 dX11_readsFactor_39 sh_73 ?_
        refine st_callV (M' := mX11_notes) [.int 0, .int (h9.1 73 13)] [] dX11_readsFactor_42 ml_X11_200 mf_X11_notes mv_X11_notes sh_73 rfl rfl rfl w (fun r10 h11 w => ?_)
        show Ru mX11_readsFactor none d 45 [.ref 73, u1] [] h11 Z
        refine st_iconst (v := 1) dX11_readsFactor_45 (by decide) ?_
        exact st_ireturn rfl rfl dX11_readsFactor_46 w
      · replace w := w.2 c
        refine st_iconst (v := 0) dX11_readsFactor_34 (by decide) ?_
        exact st_ireturn rfl rfl dX11_readsFactor_35 w
  · replace w := w.2 c
    refine st_aload_n dX11_readsFactor_9 rfl ?_
    refine st_bipush (v := 14) dX11_readsFactor_10 (by decide) ?_
    refine st_callV (M' := mX11_opens) [.int 14] [] dX11_readsFactor_12 ml_X11_204 mf_X11_opens mv_X11_opens sh_73 rfl rfl rfl w (fun r12 h13 w => ?_)
    show Ru mX11_readsFactor none d 15 [.ref 73, u1] [.int r12] h13 Z
    refine st_if_ne (tgt := 0) dX11_readsFactor_15 (by decide) (fun c => ?_) (fun c => ?_)
    · replace w := w.1 c
      exact w
    · replace w := w.2 c
      refine st_iconst (v := 0) dX11_readsFactor_18 (by decide) ?_
      exact st_ireturn rfl rfl dX11_readsFactor_19 w
set_option maxRecDepth 20000 in
set_option maxHeartbeats 2000000 in
theorem sX11_readsSum_0 {d : Nat} {h : am_H} {Z : Int32 → am_H → Prop}  (w : am_cl mX11_readsFactor d [.ref 73] h (fun r1 h2 => (¬ r1 = 0 → Ru mX11_readsSum none d 14 [.ref 73, .int (h.1 73 16), .null] [] h2 Z) ∧ (r1 = 0 → Z 0 h2))) : Ru mX11_readsSum none d 0 [.ref 73, .null, .null] [] h Z := by
  refine st_aload_n dX11_readsSum_0 rfl ?_
  refine st_getI fl_X11_194 fk_11_16 dX11_readsSum_1 sh_73 ?_
  refine st_istore_n (L' := [.ref 73, .int (h.1 73 16), .null]) dX11_readsSum_4 (by decide) rfl ?_
  refine st_aload_n dX11_readsSum_5 rfl ?_
  refine st_callV (M' := mX11_readsFactor) [] [] dX11_readsSum_6 ml_X11_213 mf_X11_readsFactor mv_X11_readsFactor sh_73 rfl rfl rfl w (fun r1 h2 w => ?_)
  show Ru mX11_readsSum none d 9 [.ref 73, .int (h.1 73 16), .null] [.int r1] h2 Z
  refine st_if_ne (tgt := 14) dX11_readsSum_9 (by decide) (fun c => ?_) (fun c => ?_)
  · replace w := w.1 c
    exact w
  · replace w := w.2 c
    refine st_iconst (v := 0) dX11_readsSum_12 (by decide) ?_
    exact st_ireturn rfl rfl dX11_readsSum_13 w
set_option maxRecDepth 20000 in
set_option maxHeartbeats 2000000 in
theorem sX11_readsSum_14 {d : Nat} {h : am_H} {Z : Int32 → am_H → Prop} {x1 : Int32} {u2 : Value} (hd : 2 ≤ d) (w : (am_hok h ∧ (am_cl mX11_sumSign d [.int (am_hr h)] h (fun r2 h3 => (r2 = (-1) → (am_hok h3 ∧ ((¬ (am_hr h3) = 93 → Ru mX11_readsSum none d 138 [.ref 73, .int x1, .int r2] [] h3 Z) ∧ ((am_hr h3) = 93 → am_cl mX11_hasOpenSum d [.ref 73, .int x1] h3 (fun r5 h6 => (r5 = 0 → Ru mX11_readsSum none d 138 [.ref 73, .int x1, .int r2] [] h6 Z) ∧ (¬ (r5 = 0) → am_cl mX11_closesSums d [.ref 73, .int 1] h6 (fun r7 h8 => (∀ h9 : am_H, h9 = am_sI h8 73 16 ((h8.1 73 16) - 1) → (∀ h10 : am_H, h10 = am_sI h9 73 14 ((h9.1 73 14) - 1) → (∀ h11 : am_H, h11 = am_sI h10 73 10 ((h10.1 73 10) + 1) → (Ru mX11_readsSum none d 14 [.ref 73, .int x1, .int r2] [] h11 Z))))))))))) ∧ (¬ (r2 = (-1)) → (4 ≤ r2 → Ru mX11_readsSum none d 38 [.ref 73, .int x1, .int r2] [.int 0, .ref 73] h3 Z) ∧ (¬ (4 ≤ r2) → Ru mX11_readsSum none d 38 [.ref 73, .int x1, .int r2] [.int 1, .ref 73] h3 Z)))))) : Ru mX11_readsSum none d 14 [.ref 73, .int x1, u2] [] h Z := by
  refine st_aload_n dX11_readsSum_14 rfl ?_
  have hc1 := w.1
  replace w := w.2
  refine st_callV (M' := mX11_here) [] [] dX11_readsSum_15 ml_X11_170 mf_X11_here mv_X11_here sh_73 rfl rfl rfl (K := fun r h' => (am_hr h) = r ∧ h = h') ⟨1, by omega, iX11_here hc1 ⟨rfl, rfl⟩⟩ (fun r1 h1 w1 => ?_)
  obtain ⟨rfl, rfl⟩ := w1
  show Ru mX11_readsSum none d 18 [.ref 73, .int x1, u2] [.int (am_hr h)] h Z
  refine st_callS (M' := mX11_sumSign) [.int (am_hr h)] [] dX11_readsSum_18 ml_X11_216 mf_X11_sumSign ms_X11_sumSign rfl rfl rfl w (fun r2 h3 w => ?_)
  show Ru mX11_readsSum none d 21 [.ref 73, .int x1, u2] [.int r2] h3 Z
  refine st_istore_n (L' := [.ref 73, .int x1, .int r2]) dX11_readsSum_21 (by decide) rfl ?_
  refine st_iload_n dX11_readsSum_22 rfl ?_
  refine st_iconst (v := (-1)) dX11_readsSum_23 (by decide) ?_
  refine st_icmp_eq (tgt := 83) dX11_readsSum_24 (by decide) (fun c => ?_) (fun c => ?_)
  · replace w := w.1 c
    refine st_aload_n dX11_readsSum_83 rfl ?_
    have hc4 := w.1
    replace w := w.2
    refine st_callV (M' := mX11_here) [] [] dX11_readsSum_84 ml_X11_170 mf_X11_here mv_X11_here sh_73 rfl rfl rfl (K := fun r h' => (am_hr h3) = r ∧ h3 = h') ⟨1, by omega, iX11_here hc4 ⟨rfl, rfl⟩⟩ (fun r1 h1 w1 => ?_)
    obtain ⟨rfl, rfl⟩ := w1
    show Ru mX11_readsSum none d 87 [.ref 73, .int x1, .int r2] [.int (am_hr h3)] h3 Z
    refine st_bipush (v := 93) dX11_readsSum_87 (by decide) ?_
    refine st_icmp_ne (tgt := 138) dX11_readsSum_89 (by decide) (fun c => ?_) (fun c => ?_)
    · replace w := w.1 c
      exact w
    · replace w := w.2 c
      refine st_aload_n dX11_readsSum_92 rfl ?_
      refine st_iload_n dX11_readsSum_93 rfl ?_
      refine st_callV (M' := mX11_hasOpenSum) [.int x1] [] dX11_readsSum_94 ml_X11_223 mf_X11_hasOpenSum mv_X11_hasOpenSum sh_73 rfl rfl rfl w (fun r5 h6 w => ?_)
      show Ru mX11_readsSum none d 97 [.ref 73, .int x1, .int r2] [.int r5] h6 Z
      refine st_if_eq (tgt := 138) dX11_readsSum_97 (by decide) (fun c => ?_) (fun c => ?_)
      · replace w := w.1 c
        exact w
      · replace w := w.2 c
        refine st_aload_n dX11_readsSum_100 rfl ?_
        refine st_iconst (v := 1) dX11_readsSum_101 (by decide) ?_
        refine st_callV (M' := mX11_closesSums) [.int 1] [] dX11_readsSum_102 ml_X11_219 mf_X11_closesSums mv_X11_closesSums sh_73 rfl rfl rfl w (fun r7 h8 w => ?_)
        show Ru mX11_readsSum none d 105 [.ref 73, .int x1, .int r2] [] h8 Z
        refine st_aload_n dX11_readsSum_105 rfl ?_
        refine st_aload_n dX11_readsSum_106 rfl ?_
        refine st_getI fl_X11_194 fk_11_16 dX11_readsSum_107 sh_73 ?_
        refine st_iconst (v := 1) dX11_readsSum_110 (by decide) ?_
        refine st_isub dX11_readsSum_111 ?_
        refine st_putI flp_X11_194 fk_11_16 dX11_readsSum_112 sh_73 (fun h9 eh9 => ?_)
        replace w := w h9 eh9
        refine st_aload_n dX11_readsSum_115 rfl ?_
        refine st_aload_n dX11_readsSum_116 rfl ?_
        refine st_getI fl_X11_191 fk_11_14 dX11_readsSum_117 sh_73 ?_
        refine st_iconst (v := 1) dX11_readsSum_120 (by decide) ?_
        refine st_isub dX11_readsSum_121 ?_
        refine st_putI flp_X11_191 fk_11_14 dX11_readsSum_122 sh_73 (fun h10 eh10 => ?_)
        replace w := w h10 eh10
        refine st_aload_n dX11_readsSum_125 rfl ?_
        refine st_aload_n dX11_readsSum_126 rfl ?_
        refine st_getI fl_X11_164 fk_11_10 dX11_readsSum_127 sh_73 ?_
        refine st_iconst (v := 1) dX11_readsSum_130 (by decide) ?_
        refine st_iadd dX11_readsSum_131 ?_
        refine st_putI flp_X11_164 fk_11_10 dX11_readsSum_132 sh_73 (fun h11 eh11 => ?_)
        replace w := w h11 eh11
        refine st_goto (tgt := 163) dX11_readsSum_135 (by decide) ?_
        refine st_goto (tgt := 14) dX11_readsSum_163 (by decide) ?_
        exact w
  · replace w := w.2 c
    refine st_aload_n dX11_readsSum_27 rfl ?_
    refine st_iload_n dX11_readsSum_28 rfl ?_
    refine st_iconst (v := 4) dX11_readsSum_29 (by decide) ?_
    refine st_icmp_ge (tgt := 37) dX11_readsSum_30 (by decide) (fun c => ?_) (fun c => ?_)
    · replace w := w.1 c
      refine st_iconst (v := 0) dX11_readsSum_37 (by decide) ?_
      exact w
    · replace w := w.2 c
      refine st_iconst (v := 1) dX11_readsSum_33 (by decide) ?_
      refine st_goto (tgt := 38) dX11_readsSum_34 (by decide) ?_
      exact w
set_option maxRecDepth 20000 in
set_option maxHeartbeats 2000000 in
theorem sX11_readsSum_138 {d : Nat} {h : am_H} {Z : Int32 → am_H → Prop} {x1 : Int32} {u2 : Value} (hd : 2 ≤ d) (w : am_cl mX11_hasOpenSum d [.ref 73, .int x1] h (fun r1 h2 => (r1 = 0 → am_cl mX11_closesSums d [.ref 73, .int 1] h2 (fun r3 h4 => Z 1 h4)) ∧ (¬ (r1 = 0) → (((0 : Int32) = 0 ∨ (0 : Int32) = 1) ∧ (Z (0 : Int32) (am_sI h2 73 12 ((-1000) * (1 : Int32) - (h2.1 73 10)))))))) : Ru mX11_readsSum none d 138 [.ref 73, .int x1, u2] [] h Z := by
  refine st_aload_n dX11_readsSum_138 rfl ?_
  refine st_iload_n dX11_readsSum_139 rfl ?_
  refine st_callV (M' := mX11_hasOpenSum) [.int x1] [] dX11_readsSum_140 ml_X11_223 mf_X11_hasOpenSum mv_X11_hasOpenSum sh_73 rfl rfl rfl w (fun r1 h2 w => ?_)
  show Ru mX11_readsSum none d 143 [.ref 73, .int x1, u2] [.int r1] h2 Z
  refine st_if_eq (tgt := 156) dX11_readsSum_143 (by decide) (fun c => ?_) (fun c => ?_)
  · replace w := w.1 c
    refine st_aload_n dX11_readsSum_156 rfl ?_
    refine st_iconst (v := 1) dX11_readsSum_157 (by decide) ?_
    refine st_callV (M' := mX11_closesSums) [.int 1] [] dX11_readsSum_158 ml_X11_219 mf_X11_closesSums mv_X11_closesSums sh_73 rfl rfl rfl w (fun r3 h4 w => ?_)
    show Ru mX11_readsSum none d 161 [.ref 73, .int x1, u2] [] h4 Z
    refine st_iconst (v := 1) dX11_readsSum_161 (by decide) ?_
    exact st_ireturn rfl rfl dX11_readsSum_162 w
  · replace w := w.2 c
    refine st_aload_n dX11_readsSum_146 rfl ?_
    refine st_iconst (v := 1) dX11_readsSum_147 (by decide) ?_
    refine st_aload_n dX11_readsSum_148 rfl ?_
    refine st_getI fl_X11_164 fk_11_10 dX11_readsSum_149 sh_73 ?_
    refine st_callV (M' := mX11_wrongAt) [.int 1, .int (h2.1 73 10)] [] dX11_readsSum_152 ml_X11_177 mf_X11_wrongAt mv_X11_wrongAt sh_73 rfl rfl rfl (K := fun r h' => (0 : Int32) = r ∧ am_sI h2 73 12 ((-1000) * (1 : Int32) - (h2.1 73 10)) = h') ⟨1, by omega, iX11_wrongAt ⟨rfl, rfl⟩⟩ (fun r1 h1 w1 => ?_)
    obtain ⟨rfl, rfl⟩ := w1
    show Ru mX11_readsSum none d 155 [.ref 73, .int x1, u2] [.int (0 : Int32)] (am_sI h2 73 12 ((-1000) * (1 : Int32) - (h2.1 73 10))) Z
    have hc5 := w.1
    replace w := w.2
    exact st_ireturn rfl (am_nb hc5) dX11_readsSum_155 w
set_option maxRecDepth 20000 in
set_option maxHeartbeats 2000000 in
theorem sX11_readsSum_38 {d : Nat} {h : am_H} {Z : Int32 → am_H → Prop} {x1 : Int32} {x2 : Int32} {s0 : Int32} (w : am_cl mX11_closesSums d [.ref 73, .int s0] h (fun r1 h2 => (vp_in (h2.1 73 16) 260 ∧ (∀ h4 : am_H, h4 = am_sR h2 82 (upd (h2.2.2 82) (h2.1 73 16).toNatClampNeg (1048576 * x2)) → (∀ h5 : am_H, h5 = am_sI h4 73 16 ((h4.1 73 16) + 1) → (∀ h6 : am_H, h6 = am_sI h5 73 10 ((h5.1 73 10) + 1) → (am_cl mX11_readsFactor d [.ref 73] h6 (fun r7 h8 => (¬ r7 = 0 → Ru mX11_readsSum none d 14 [.ref 73, .int x1, .int x2] [] h8 Z) ∧ (r7 = 0 → Z 0 h8))))))))) : Ru mX11_readsSum none d 38 [.ref 73, .int x1, .int x2] [.int s0, .ref 73] h Z := by
  refine st_callV (M' := mX11_closesSums) [.int s0] [] dX11_readsSum_38 ml_X11_219 mf_X11_closesSums mv_X11_closesSums sh_73 rfl rfl rfl w (fun r1 h2 w => ?_)
  show Ru mX11_readsSum none d 41 [.ref 73, .int x1, .int x2] [] h2 Z
  refine st_aload_n dX11_readsSum_41 rfl ?_
  refine st_getF (q := 82) fl_X11_35 fk_11_20 rfl dX11_readsSum_42 sh_73 ?_
  refine st_aload_n dX11_readsSum_45 rfl ?_
  refine st_getI fl_X11_194 fk_11_16 dX11_readsSum_46 sh_73 ?_
  refine st_ldc dX11_readsSum_49 kc_X11_190 ?_
  refine st_iload_n dX11_readsSum_51 rfl ?_
  refine st_imul dX11_readsSum_52 ?_
  have hc3 := w.1
  replace w := w.2
  refine st_iast dX11_readsSum_53 sh_82 hc3 (fun h4 eh4 => ?_)
  replace w := w h4 eh4
  refine st_aload_n dX11_readsSum_54 rfl ?_
  refine st_aload_n dX11_readsSum_55 rfl ?_
  refine st_getI fl_X11_194 fk_11_16 dX11_readsSum_56 sh_73 ?_
  refine st_iconst (v := 1) dX11_readsSum_59 (by decide) ?_
  refine st_iadd dX11_readsSum_60 ?_
  refine st_putI flp_X11_194 fk_11_16 dX11_readsSum_61 sh_73 (fun h5 eh5 => ?_)
  replace w := w h5 eh5
  refine st_aload_n dX11_readsSum_64 rfl ?_
  refine st_aload_n dX11_readsSum_65 rfl ?_
  refine st_getI fl_X11_164 fk_11_10 dX11_readsSum_66 sh_73 ?_
  refine st_iconst (v := 1) dX11_readsSum_69 (by decide) ?_
  refine st_iadd dX11_readsSum_70 ?_
  refine st_putI flp_X11_164 fk_11_10 dX11_readsSum_71 sh_73 (fun h6 eh6 => ?_)
  replace w := w h6 eh6
  refine st_aload_n dX11_readsSum_74 rfl ?_
  refine st_callV (M' := mX11_readsFactor) [] [] dX11_readsSum_75 ml_X11_213 mf_X11_readsFactor mv_X11_readsFactor sh_73 rfl rfl rfl w (fun r7 h8 w => ?_)
  show Ru mX11_readsSum none d 78 [.ref 73, .int x1, .int x2] [.int r7] h8 Z
  refine st_if_ne (tgt := 163) dX11_readsSum_78 (by decide) (fun c => ?_) (fun c => ?_)
  · replace w := w.1 c
    refine st_goto (tgt := 14) dX11_readsSum_163 (by decide) ?_
    exact w
  · replace w := w.2 c
    refine st_iconst (v := 0) dX11_readsSum_81 (by decide) ?_
    exact st_ireturn rfl rfl dX11_readsSum_82 w
def lr_en (S : Nat → Int32) : List (Nat × Nat) → Nat → Prop
  | [], _ => True
  | o :: X, m => S m = nI (o.1 * 2 ^ 20 + (if o.1 = 11 ∨ o.1 = 12 then m + 1 + o.2 else o.2)) ∧ lr_en S X (m + 1)
theorem lr_en_app {S : Nat → Int32} : ∀ {X Y : List (Nat × Nat)} {m : Nat}, lr_en S X m → lr_en S Y (m + X.length) → lr_en S (X ++ Y) m
  | [], Y, m, _, hy => hy
  | o :: X, Y, m, hx, hy => ⟨hx.1, lr_en_app hx.2 (by rw [show m + 1 + X.length = m + (o :: X).length by rw [List.length_cons]; omega]; exact hy)⟩
theorem lr_en_cg {S T : Nat → Int32} : ∀ {X : List (Nat × Nat)} {m : Nat}, (∀ j, m ≤ j → j < m + X.length → T j = S j) → lr_en S X m → lr_en T X m
  | [], m, _, _ => trivial
  | o :: X, m, hc, hx => by
    rw [List.length_cons] at hc
    exact ⟨(hc m (by omega) (by omega)).trans hx.1, lr_en_cg (fun j h1 h2 => hc j (by omega) (by omega)) hx.2⟩
theorem lr_en_e {S : Nat → Int32} {x m : Nat} (hx : x ≤ 10) (h : x ≠ 0 → S m = nI (x * 2 ^ 20)) : lr_en S (lp_e x) m := by
  by_cases c : x = 0
  · rw [c]; exact trivial
  · rw [lp_e_1 c]
    refine ⟨?_, trivial⟩
    rw [h c, if_neg (by show ¬ (x = 11 ∨ x = 12); omega)]
    show nI (x * 2 ^ 20) = nI (x * 2 ^ 20 + 0)
    rw [Nat.add_zero]
theorem lp_e_l (x : Nat) : (lp_e x).length = lr_e x := by
  unfold lp_e lr_e; split <;> rfl
def lr_oc (t : Nat → Nat) (n : Nat) (h0 : am_H) (m w o : Nat) (S A : Nat → Int32) (h' : am_H) (r : lp_O) : Prop := (r.1 = 0 ∧ ∃ S' A', lr_H t n h0 h' r.2.1 (m + r.2.2.length) w o S' A' ∧ (∀ j, j < m → S' j = S j) ∧ lr_en S' r.2.2 m ∧ ∀ j, j < w → A' j = A j) ∨ (¬ r.1 = 0 ∧ lr_fr h0 h' ∧ h'.1 73 12 = r.1)
def lr_r (r : lp_O) : Int32 := if r.1 = 0 then 1 else 0
def lr_tl (A : Nat → Int32) (base : Nat) : List (Nat × Nat) → Nat → Prop
  | [], w0 => w0 = base
  | f :: fs, w0 => ∃ w1 w', lr_tl A base fs w1 ∧ lr_f A w1 f.1 f.2 w' ∧ lr_ok f.1 f.2 ∧ A w' = nI (14 * 2 ^ 20) ∧ w0 = w' + 1
section
variable {d n k m w o base w0 c a b : Nat} {h h0 : am_H} {Z : Int32 → am_H → Prop} {t : Nat → Nat} {S A : Nat → Int32} {fs : List (Nat × Nat)}
theorem lr_f_cg {A' : Nat → Int32} (hA : ∀ j, j < w → A' j = A j) (hf : lr_f A w0 a b w) : lr_f A' w0 a b w := by
  obtain ⟨f1, f2, f3⟩ := hf
  refine ⟨fun q => ?_, fun q => ?_, f3⟩
  · rw [lr_e_1 q] at f3
    rw [hA _ (by omega)]; exact f1 q
  · have e := lr_e_1 q
    rw [hA _ (by omega)]; exact f2 q
theorem lr_tl_cg {A' : Nat → Int32} : ∀ {fs : List (Nat × Nat)} {w0 : Nat}, (∀ j, j < w0 → A' j = A j) → lr_tl A base fs w0 → lr_tl A' base fs w0
  | [], w0, _, q => q
  | f :: fs, w0, hA, q => by
    obtain ⟨w1, w', q1, q2, q3, q4, q5⟩ := q
    have l := q2.2.2
    exact ⟨w1, w', lr_tl_cg (fun j hj => hA j (by omega)) q1, lr_f_cg (fun j hj => hA j (by omega)) q2, q3, by rw [hA w' (by omega)]; exact q4, q5⟩
theorem lr_tl_le : ∀ {fs : List (Nat × Nat)} {w0 : Nat}, lr_tl A base fs w0 → base ≤ w0
  | [], w0, q => Nat.le_of_eq q.symm
  | f :: fs, w0, q => by
    obtain ⟨w1, w', q1, q2, q3, q4, q5⟩ := q
    have l := q2.2.2
    have := lr_tl_le q1
    omega
theorem lr_tl_bt (hb : lr_bt A base) (q : lr_tl A base fs w0) : lr_bt A w0 := by
  cases fs with
  | nil => have e : w0 = base := q; rw [e]; exact hb
  | cons f fs =>
    obtain ⟨w1, w', q1, q2, q3, q4, q5⟩ := q
    refine Or.inr ⟨14, 0, by omega, by omega, by omega, ?_⟩
    rw [q5, Nat.add_sub_cancel, Nat.add_zero]; exact q4
theorem lr_pre {X : List (Nat × Nat)} {S1 A1 : Nat → Int32} {h' : am_H} {f : Nat → lp_O} (q : lr_oc t n h0 (m + X.length) w o S1 A1 h' (f k)) (hS : ∀ j, j < m → S1 j = S j) (hE : lr_en S1 X m) (hA : ∀ j, j < w → A1 j = A j) : lr_oc t n h0 m w o S A h' (lp_b (0, k, X) f) := by
  rw [lp_b_0 rfl]
  rcases q with ⟨q1, S', A', q2, q3, q4, q5⟩ | q
  · refine Or.inl ⟨q1, S', A', ?_, fun j hj => (q3 j (by omega)).trans (hS j hj), lr_en_app (lr_en_cg (fun j h1 h2 => q3 j h2) hE) q4, fun j hj => (q5 j hj).trans (hA j hj)⟩
    show lr_H t n h0 h' (f k).2.1 (m + (X ++ (f k).2.2).length) w o S' A'
    rw [List.length_append, ← Nat.add_assoc]; exact q2
  · exact Or.inr q
theorem lr_w_lt {x j : Nat} (hj : j < m) : lr_w S m x j = S j := by
  unfold lr_w
  split
  · rfl
  · unfold upd; rw [if_neg (by omega)]
theorem lr_w_at {x : Nat} (hx : x ≠ 0) : lr_w S m x m = nI (x * 2 ^ 20) := by
  rw [lr_w_1 hx]; unfold upd; rw [if_pos rfl]
/-- hasOpenSum -/
theorem x_ho (hw : w ≤ 260) (H : lr_H t n h0 h k m w o S A) {u1 : Value} : ∀ (r j : Nat), j + r = w → ((∃ i, j ≤ i ∧ i < w ∧ A i = nI (14 * 2 ^ 20)) → Z 1 h) → ((∀ i, j ≤ i → i < w → ¬ A i / 1048576 = 14) → Z 0 h) → ((∃ i, j ≤ i ∧ i < w ∧ A i = nI (14 * 2 ^ 20)) ∨ (∀ i, j ≤ i → i < w → ¬ A i / 1048576 = 14)) → Ru mX11_hasOpenSum none d 2 [.ref 73, u1, .int (nI j)] [] h Z
  | 0, j, hj, z1, z0, q => by
    refine sX11_hasOpenSum_2 ?_
    rw [H.2.2.2.1]
    exact ⟨fun _ => z0 (fun i h1 h2 => by omega), fun c => absurd (nI_le (by omega) (by omega)) c⟩
  | r + 1, j, hj, z1, z0, q => by
    refine sX11_hasOpenSum_2 ?_
    rw [H.2.2.2.1, H.2.2.2.2.2.1, nI_clamp (by omega), nI_1]
    refine ⟨fun c => absurd c (nI_ge (by omega) (by omega)), fun _ => ⟨vp_in_nI (by omega) (by omega), fun c => ?_, fun c => ?_⟩⟩
    · have e14 : nI (14 * 2 ^ 20) / 1048576 = 14 := by decide
      refine x_ho hw H r (j + 1) (by omega) (fun ⟨i, h1, h2, h3⟩ => z1 ⟨i, by omega, h2, h3⟩) (fun g => z0 (fun i h1 h2 => ?_)) ?_
      · rcases Nat.lt_or_ge j i with l | l
        · exact g i l h2
        · rw [show i = j by omega]; exact c
      · rcases q with ⟨i, h1, h2, h3⟩ | q
        · rcases Nat.lt_or_ge j i with l | l
          · exact Or.inl ⟨i, l, h2, h3⟩
          · have : i = j := by omega
            subst this
            rw [h3] at c
            exact absurd e14 c
        · exact Or.inr (fun i h1 h2 => q i (by omega) h2)
    · rcases q with q | q
      · exact z1 q
      · exact absurd c (q j (by omega) (by omega))
theorem iX11_hasOpenSum (hw : w ≤ 260) (H : lr_H t n h0 h k m w o S A) (hf : lr_f A w0 a b w) (hk : lr_ok a b) (ht : lr_tl A base fs w0) (z1 : fs ≠ [] → Z 1 h) (z0 : fs = [] → Z 0 h) : Sp mX11_hasOpenSum d [.ref 73, .int (nI base)] h Z := by
  refine Sp_of mf_X11_hasOpenSum rfl (Nat.le_of_ble_eq_true rfl) rfl (sX11_hasOpenSum_0 ?_)
  have le := lr_tl_le ht
  have l3 := hf.2.2
  cases fs with
  | nil =>
    have e : w0 = base := ht
    have no : ∀ i, base ≤ i → i < w → ¬ A i / 1048576 = 14 := fun i h1 h2 q => by
      have ea : lr_e a ≤ 1 := by unfold lr_e; split <;> omega
      have eb : lr_e b ≤ 1 := by unfold lr_e; split <;> omega
      have val : ∀ x, x < 14 → A i = nI (x * 2 ^ 20) → False := fun x hx e => by
        have dv := lr_dv (x := x) (v := 0) (by omega) (by omega)
        rw [Nat.add_zero, ← e, q] at dv
        have := (nI_eq (a := 14) (b := x) (by omega) (by omega)).mp dv
        omega
      have k1 := hk.1
      have k2 := hk.2
      by_cases ca : a = 0
      · rw [ca, lr_e_0] at l3
        have cb : b ≠ 0 := fun z => by rw [z, lr_e_0] at l3; omega
        have fb := hf.2.1 cb
        rw [ca, lr_e_0] at fb
        rw [lr_e_1 cb] at l3
        exact val b (by omega) (by rw [show i = w0 + 0 by omega]; exact fb)
      · have fa := hf.1 ca
        rw [lr_e_1 ca] at l3
        by_cases ci : i = w0
        · exact val a (by omega) (by rw [ci]; exact fa)
        · have cb : b ≠ 0 := fun z => by rw [z, lr_e_0] at l3; omega
          have fb := hf.2.1 cb
          rw [lr_e_1 ca] at fb
          exact val b (by omega) (by rw [show i = w0 + 1 by omega]; exact fb)
    exact x_ho hw H (w - base) base (by omega) (fun ⟨i, h1, h2, h3⟩ => absurd (by rw [h3]; decide) (no i h1 h2)) (fun _ => z0 rfl) (Or.inr no)
  | cons f fs =>
    obtain ⟨w1, w', q1, q2, q3, q4, q5⟩ := ht
    have l := q2.2.2
    have l2 := lr_tl_le q1
    have ex : ∃ i, base ≤ i ∧ i < w ∧ A i = nI (14 * 2 ^ 20) := ⟨w', by omega, by omega, q4⟩
    refine x_ho hw H (w - base) base (by omega) (fun _ => z1 (by simp)) (fun g => ?_) (Or.inl ex)
    obtain ⟨i, h1, h2, h3⟩ := ex
    exact absurd (by rw [h3]; decide) (g i h1 h2)
end
