-- the cabinet's text: the reference
def am_hr (h : am_H) : Int32 := if h.1 73 11 ≤ h.1 73 10 then -1 else h.2.2 80 (h.1 73 10).toNatClampNeg &&& 255
def am_hok (h : am_H) : Prop := ¬ h.1 73 11 ≤ h.1 73 10 → vp_in (h.1 73 10) 260
theorem iX11_here {d : Nat} {h : am_H} {Z : Int32 → am_H → Prop} (hs : am_hok h) (z : Z (am_hr h) h) : Sp mX11_here d [.ref 73] h Z := by
  refine Sp_of mf_X11_here rfl (Nat.le_of_ble_eq_true rfl) rfl ?_
  unfold am_hr at z
  refine sX11_here_0 ⟨fun c => ?_, fun c => ⟨hs c, ?_⟩⟩
  · rwa [if_pos c] at z
  · rwa [if_neg c] at z
set_option maxRecDepth 20000 in
set_option maxHeartbeats 2000000 in
theorem sX11_isDigit_0 {d : Nat} {h : am_H} {Z : Int32 → am_H → Prop}  (hd : 2 ≤ d) (w : (am_hok h ∧ (((am_hr h) < 48 → Z 0 h) ∧ (¬ ((am_hr h) < 48) → (57 < (am_hr h) → Z 0 h) ∧ (¬ (57 < (am_hr h)) → Z 1 h))))) : Ru mX11_isDigit none d 0 [.ref 73] [] h Z := by
  refine st_aload_n dX11_isDigit_0 rfl ?_
  have hc1 := w.1
  replace w := w.2
  refine st_callV (M' := mX11_here) [] [] dX11_isDigit_1 ml_X11_170 mf_X11_here mv_X11_here sh_73 rfl rfl rfl (K := fun r h' => (am_hr h) = r ∧ h = h') ⟨1, by omega, iX11_here hc1 ⟨rfl, rfl⟩⟩ (fun r1 h1 w1 => ?_)
  obtain ⟨rfl, rfl⟩ := w1
  show Ru mX11_isDigit none d 4 [.ref 73] [.int (am_hr h)] h Z
  refine st_bipush (v := 48) dX11_isDigit_4 (by decide) ?_
  refine st_icmp_lt (tgt := 22) dX11_isDigit_6 (by decide) (fun c => ?_) (fun c => ?_)
  · replace w := w.1 c
    refine st_iconst (v := 0) dX11_isDigit_22 (by decide) ?_
    exact st_ireturn rfl rfl dX11_isDigit_23 w
  · replace w := w.2 c
    refine st_aload_n dX11_isDigit_9 rfl ?_
    refine st_callV (M' := mX11_here) [] [] dX11_isDigit_10 ml_X11_170 mf_X11_here mv_X11_here sh_73 rfl rfl rfl (K := fun r h' => (am_hr h) = r ∧ h = h') ⟨1, by omega, iX11_here hc1 ⟨rfl, rfl⟩⟩ (fun r1 h1 w1 => ?_)
    obtain ⟨rfl, rfl⟩ := w1
    show Ru mX11_isDigit none d 13 [.ref 73] [.int (am_hr h)] h Z
    refine st_bipush (v := 57) dX11_isDigit_13 (by decide) ?_
    refine st_icmp_gt (tgt := 22) dX11_isDigit_15 (by decide) (fun c => ?_) (fun c => ?_)
    · replace w := w.1 c
      refine st_iconst (v := 0) dX11_isDigit_22 (by decide) ?_
      exact st_ireturn rfl rfl dX11_isDigit_23 w
    · replace w := w.2 c
      refine st_iconst (v := 1) dX11_isDigit_18 (by decide) ?_
      refine st_goto (tgt := 23) dX11_isDigit_19 (by decide) ?_
      exact st_ireturn rfl rfl dX11_isDigit_23 w
set_option maxRecDepth 20000 in
set_option maxHeartbeats 2000000 in
theorem sX11_wrongAt_0 {d : Nat} {h : am_H} {Z : Int32 → am_H → Prop} {x1 : Int32} {x2 : Int32} (w : (∀ h1 : am_H, h1 = am_sI h 73 12 (((-1000) * x1) - x2) → (Z 0 h1))) : Ru mX11_wrongAt none d 0 [.ref 73, .int x1, .int x2] [] h Z := by
  refine st_aload_n dX11_wrongAt_0 rfl ?_
  refine st_sipush (v := (-1000)) dX11_wrongAt_1 (by decide) ?_
  refine st_iload_n dX11_wrongAt_4 rfl ?_
  refine st_imul dX11_wrongAt_5 ?_
  refine st_iload_n dX11_wrongAt_6 rfl ?_
  refine st_isub dX11_wrongAt_7 ?_
  refine st_putI flp_X11_174 fk_11_12 dX11_wrongAt_8 sh_73 (fun h1 eh1 => ?_)
  replace w := w h1 eh1
  refine st_iconst (v := 0) dX11_wrongAt_11 (by decide) ?_
  exact st_ireturn rfl rfl dX11_wrongAt_12 w
theorem iX11_isDigit {d : Nat} {h : am_H} {Z : Int32 → am_H → Prop} (hd : 2 ≤ d) (hs : am_hok h) (z : Z (am_b (48 ≤ am_hr h ∧ am_hr h ≤ 57)) h) : Sp mX11_isDigit d [.ref 73] h Z := by
  refine Sp_of mf_X11_isDigit rfl (Nat.le_of_ble_eq_true rfl) rfl ?_
  refine sX11_isDigit_0 (by omega) ⟨hs, fun c => ?_, fun c => ⟨fun c2 => ?_, fun c2 => ?_⟩⟩
  · rwa [am_b0 (fun q => Int32.not_le.mpr c q.1)] at z
  · rwa [am_b0 (fun q => Int32.not_le.mpr c2 q.2)] at z
  · rwa [am_b1 ⟨Int32.not_lt.mp c, Int32.not_lt.mp c2⟩] at z
theorem iX11_wrongAt {d : Nat} {h : am_H} {Z : Int32 → am_H → Prop} {x y : Int32} (z : Z 0 (am_sI h 73 12 ((-1000) * x - y))) : Sp mX11_wrongAt d [.ref 73, .int x, .int y] h Z := by
  refine Sp_of mf_X11_wrongAt rfl (Nat.le_of_ble_eq_true rfl) rfl ?_
  exact sX11_wrongAt_0 (fun h1 e => e ▸ z)
set_option maxRecDepth 20000 in
set_option maxHeartbeats 2000000 in
theorem sX11_takes_0 {d : Nat} {h : am_H} {Z : Int32 → am_H → Prop} {x1 : Int32} (hd : 2 ≤ d) (w : (am_hok h ∧ (((am_hr h) = x1 → (∀ h2 : am_H, h2 = am_sI h 73 10 ((h.1 73 10) + 1) → (Z 1 h2))) ∧ (¬ ((am_hr h) = x1) → (((0 : Int32) = 0 ∨ (0 : Int32) = 1) ∧ (Z (0 : Int32) (am_sI h 73 12 ((-1000) * (1 : Int32) - (h.1 73 10))))))))) : Ru mX11_takes none d 0 [.ref 73, .int x1] [] h Z := by
  refine st_aload_n dX11_takes_0 rfl ?_
  have hc1 := w.1
  replace w := w.2
  refine st_callV (M' := mX11_here) [] [] dX11_takes_1 ml_X11_170 mf_X11_here mv_X11_here sh_73 rfl rfl rfl (K := fun r h' => (am_hr h) = r ∧ h = h') ⟨1, by omega, iX11_here hc1 ⟨rfl, rfl⟩⟩ (fun r1 h1 w1 => ?_)
  obtain ⟨rfl, rfl⟩ := w1
  show Ru mX11_takes none d 4 [.ref 73, .int x1] [.int (am_hr h)] h Z
  refine st_iload_n dX11_takes_4 rfl ?_
  refine st_icmp_eq (tgt := 18) dX11_takes_5 (by decide) (fun c => ?_) (fun c => ?_)
  · replace w := w.1 c
    refine st_aload_n dX11_takes_18 rfl ?_
    refine st_aload_n dX11_takes_19 rfl ?_
    refine st_getI fl_X11_164 fk_11_10 dX11_takes_20 sh_73 ?_
    refine st_iconst (v := 1) dX11_takes_23 (by decide) ?_
    refine st_iadd dX11_takes_24 ?_
    refine st_putI flp_X11_164 fk_11_10 dX11_takes_25 sh_73 (fun h2 eh2 => ?_)
    replace w := w h2 eh2
    refine st_iconst (v := 1) dX11_takes_28 (by decide) ?_
    exact st_ireturn rfl rfl dX11_takes_29 w
  · replace w := w.2 c
    refine st_aload_n dX11_takes_8 rfl ?_
    refine st_iconst (v := 1) dX11_takes_9 (by decide) ?_
    refine st_aload_n dX11_takes_10 rfl ?_
    refine st_getI fl_X11_164 fk_11_10 dX11_takes_11 sh_73 ?_
    refine st_callV (M' := mX11_wrongAt) [.int 1, .int (h.1 73 10)] [] dX11_takes_14 ml_X11_177 mf_X11_wrongAt mv_X11_wrongAt sh_73 rfl rfl rfl (K := fun r h' => (0 : Int32) = r ∧ am_sI h 73 12 ((-1000) * (1 : Int32) - (h.1 73 10)) = h') ⟨1, by omega, iX11_wrongAt ⟨rfl, rfl⟩⟩ (fun r1 h1 w1 => ?_)
    obtain ⟨rfl, rfl⟩ := w1
    show Ru mX11_takes none d 17 [.ref 73, .int x1] [.int (0 : Int32)] (am_sI h 73 12 ((-1000) * (1 : Int32) - (h.1 73 10))) Z
    have hc3 := w.1
    replace w := w.2
    exact st_ireturn rfl (am_nb hc3) dX11_takes_17 w
set_option maxRecDepth 20000 in
set_option maxHeartbeats 2000000 in
theorem sX11_beginsText_0 {d : Nat} {h : am_H} {Z : Int32 → am_H → Prop} {x1 : Int32} (w : (∀ h1 : am_H, h1 = am_sI h 73 10 0 → (∀ h2 : am_H, h2 = am_sI h1 73 11 x1 → (∀ h3 : am_H, h3 = am_sI h2 73 15 0 → (∀ h4 : am_H, h4 = am_sI h3 73 17 0 → (Z 0 h4)))))) : Ru mX11_beginsText none d 0 [.ref 73, .int x1] [] h Z := by
  refine st_aload_n dX11_beginsText_0 rfl ?_
  refine st_iconst (v := 0) dX11_beginsText_1 (by decide) ?_
  refine st_putI flp_X11_164 fk_11_10 dX11_beginsText_2 sh_73 (fun h1 eh1 => ?_)
  replace w := w h1 eh1
  refine st_aload_n dX11_beginsText_5 rfl ?_
  refine st_iload_n dX11_beginsText_6 rfl ?_
  refine st_putI flp_X11_167 fk_11_11 dX11_beginsText_7 sh_73 (fun h2 eh2 => ?_)
  replace w := w h2 eh2
  refine st_aload_n dX11_beginsText_10 rfl ?_
  refine st_iconst (v := 0) dX11_beginsText_11 (by decide) ?_
  refine st_putI flp_X11_187 fk_11_15 dX11_beginsText_12 sh_73 (fun h3 eh3 => ?_)
  replace w := w h3 eh3
  refine st_aload_n dX11_beginsText_15 rfl ?_
  refine st_iconst (v := 0) dX11_beginsText_16 (by decide) ?_
  refine st_putI flp_X11_241 fk_11_17 dX11_beginsText_17 sh_73 (fun h4 eh4 => ?_)
  replace w := w h4 eh4
  exact st_return rfl dX11_beginsText_20 w
set_option maxRecDepth 20000 in
set_option maxHeartbeats 2000000 in
theorem sX11_readsRoom_0 {d : Nat} {h : am_H} {Z : Int32 → am_H → Prop} {x1 : Int32} (hd : 3 ≤ d) (w : (am_hok h ∧ ((48 ≤ am_hr h ∧ am_hr h ≤ 57 → (∀ h2 : am_H, h2 = am_sI h 73 13 0 → (Ru mX11_readsRoom none d 27 [.ref 73, .int x1, .int (h.1 73 10)] [] h2 Z))) ∧ (¬ (48 ≤ am_hr h ∧ am_hr h ≤ 57) → (((0 : Int32) = 0 ∨ (0 : Int32) = 1) ∧ (Z (0 : Int32) (am_sI h 73 12 ((-1000) * (1 : Int32) - (h.1 73 10))))))))) : Ru mX11_readsRoom none d 0 [.ref 73, .int x1, .null] [] h Z := by
  refine st_aload_n dX11_readsRoom_0 rfl ?_
  refine st_getI fl_X11_164 fk_11_10 dX11_readsRoom_1 sh_73 ?_
  refine st_istore_n (L' := [.ref 73, .int x1, .int (h.1 73 10)]) dX11_readsRoom_4 (by decide) rfl ?_
  refine st_aload_n dX11_readsRoom_5 rfl ?_
  have hc1 := w.1
  replace w := w.2
  refine st_callV (M' := mX11_isDigit) [] [] dX11_readsRoom_6 ml_X11_183 mf_X11_isDigit mv_X11_isDigit sh_73 rfl rfl rfl (K := fun r h' => (am_b (48 ≤ am_hr h ∧ am_hr h ≤ 57)) = r ∧ h = h') ⟨2, by omega, iX11_isDigit (by omega) hc1 ⟨rfl, rfl⟩⟩ (fun r1 h1 w1 => ?_)
  obtain ⟨rfl, rfl⟩ := w1
  show Ru mX11_readsRoom none d 9 [.ref 73, .int x1, .int (h.1 73 10)] [.int (am_b (48 ≤ am_hr h ∧ am_hr h ≤ 57))] h Z
  refine st_ifb_ne (tgt := 22) dX11_readsRoom_9 (by decide) (fun c => ?_) (fun c => ?_)
  · replace w := w.1 c
    refine st_aload_n dX11_readsRoom_22 rfl ?_
    refine st_iconst (v := 0) dX11_readsRoom_23 (by decide) ?_
    refine st_putI flp_X11_180 fk_11_13 dX11_readsRoom_24 sh_73 (fun h2 eh2 => ?_)
    replace w := w h2 eh2
    exact w
  · replace w := w.2 c
    refine st_aload_n dX11_readsRoom_12 rfl ?_
    refine st_iconst (v := 1) dX11_readsRoom_13 (by decide) ?_
    refine st_aload_n dX11_readsRoom_14 rfl ?_
    refine st_getI fl_X11_164 fk_11_10 dX11_readsRoom_15 sh_73 ?_
    refine st_callV (M' := mX11_wrongAt) [.int 1, .int (h.1 73 10)] [] dX11_readsRoom_18 ml_X11_177 mf_X11_wrongAt mv_X11_wrongAt sh_73 rfl rfl rfl (K := fun r h' => (0 : Int32) = r ∧ am_sI h 73 12 ((-1000) * (1 : Int32) - (h.1 73 10)) = h') ⟨1, by omega, iX11_wrongAt ⟨rfl, rfl⟩⟩ (fun r1 h1 w1 => ?_)
    obtain ⟨rfl, rfl⟩ := w1
    show Ru mX11_readsRoom none d 21 [.ref 73, .int x1, .int (h.1 73 10)] [.int (0 : Int32)] (am_sI h 73 12 ((-1000) * (1 : Int32) - (h.1 73 10))) Z
    have hc3 := w.1
    replace w := w.2
    exact st_ireturn rfl (am_nb hc3) dX11_readsRoom_21 w
set_option maxRecDepth 20000 in
set_option maxHeartbeats 2000000 in
theorem sX11_readsRoom_27 {d : Nat} {h : am_H} {Z : Int32 → am_H → Prop} {x1 : Int32} {x2 : Int32} (hd : 3 ≤ d) (w : (am_hok h ∧ ((¬ (48 ≤ am_hr h ∧ am_hr h ≤ 57) → (¬ (h.1 73 13) = 0 → (vp_in x1 12 ∧ (∀ h3 : am_H, h3 = am_sR h 94 (upd (h.2.2 94) x1.toNatClampNeg (h.1 73 13)) → (∀ h4 : am_H, h4 = am_sR h3 95 (upd (h3.2.2 95) x1.toNatClampNeg 0) → (∀ h5 : am_H, h5 = am_sI h4 73 37 ((h4.1 73 37) ||| (1 <<< (x1 &&& 31))) → (Z 1 h5)))))) ∧ ((h.1 73 13) = 0 → (((0 : Int32) = 0 ∨ (0 : Int32) = 1) ∧ (Z (0 : Int32) (am_sI h 73 12 ((-1000) * (3 : Int32) - x2)))))) ∧ (48 ≤ am_hr h ∧ am_hr h ≤ 57 → (¬ (h.1 73 10) = (x2 + 2) → (∀ h7 : am_H, h7 = am_sI h 73 13 (((10 * (h.1 73 13)) + (am_hr h)) - 48) → (∀ h8 : am_H, h8 = am_sI h7 73 10 ((h7.1 73 10) + 1) → (Ru mX11_readsRoom none d 27 [.ref 73, .int x1, .int x2] [] h8 Z)))) ∧ ((h.1 73 10) = (x2 + 2) → (((0 : Int32) = 0 ∨ (0 : Int32) = 1) ∧ (Z (0 : Int32) (am_sI h 73 12 ((-1000) * (2 : Int32) - (h.1 73 10)))))))))) : Ru mX11_readsRoom none d 27 [.ref 73, .int x1, .int x2] [] h Z := by
  refine st_aload_n dX11_readsRoom_27 rfl ?_
  have hc1 := w.1
  replace w := w.2
  refine st_callV (M' := mX11_isDigit) [] [] dX11_readsRoom_28 ml_X11_183 mf_X11_isDigit mv_X11_isDigit sh_73 rfl rfl rfl (K := fun r h' => (am_b (48 ≤ am_hr h ∧ am_hr h ≤ 57)) = r ∧ h = h') ⟨2, by omega, iX11_isDigit (by omega) hc1 ⟨rfl, rfl⟩⟩ (fun r1 h1 w1 => ?_)
  obtain ⟨rfl, rfl⟩ := w1
  show Ru mX11_readsRoom none d 31 [.ref 73, .int x1, .int x2] [.int (am_b (48 ≤ am_hr h ∧ am_hr h ≤ 57))] h Z
  refine st_ifb_eq (tgt := 86) dX11_readsRoom_31 (by decide) (fun c => ?_) (fun c => ?_)
  · replace w := w.1 c
    refine st_aload_n dX11_readsRoom_86 rfl ?_
    refine st_getI fl_X11_180 fk_11_13 dX11_readsRoom_87 sh_73 ?_
    refine st_if_ne (tgt := 100) dX11_readsRoom_90 (by decide) (fun c => ?_) (fun c => ?_)
    · replace w := w.1 c
      refine st_aload_n dX11_readsRoom_100 rfl ?_
      refine st_getF (q := 94) fl_X11_71 fk_11_32 rfl dX11_readsRoom_101 sh_73 ?_
      refine st_iload_n dX11_readsRoom_104 rfl ?_
      refine st_aload_n dX11_readsRoom_105 rfl ?_
      refine st_getI fl_X11_180 fk_11_13 dX11_readsRoom_106 sh_73 ?_
      have hc2 := w.1
      replace w := w.2
      refine st_iast dX11_readsRoom_109 sh_94 hc2 (fun h3 eh3 => ?_)
      replace w := w h3 eh3
      refine st_aload_n dX11_readsRoom_110 rfl ?_
      refine st_getF (q := 95) fl_X11_74 fk_11_33 rfl dX11_readsRoom_111 sh_73 ?_
      refine st_iload_n dX11_readsRoom_114 rfl ?_
      refine st_iconst (v := 0) dX11_readsRoom_115 (by decide) ?_
      refine st_iast dX11_readsRoom_116 sh_95 hc2 (fun h4 eh4 => ?_)
      replace w := w h4 eh4
      refine st_aload_n dX11_readsRoom_117 rfl ?_
      refine st_aload_n dX11_readsRoom_118 rfl ?_
      refine st_getI fl_X11_267 fk_11_37 dX11_readsRoom_119 sh_73 ?_
      refine st_iconst (v := 1) dX11_readsRoom_122 (by decide) ?_
      refine st_iload_n dX11_readsRoom_123 rfl ?_
      refine st_ishl dX11_readsRoom_124 ?_
      refine st_ior dX11_readsRoom_125 ?_
      refine st_putI flp_X11_267 fk_11_37 dX11_readsRoom_126 sh_73 (fun h5 eh5 => ?_)
      replace w := w h5 eh5
      refine st_iconst (v := 1) dX11_readsRoom_129 (by decide) ?_
      exact st_ireturn rfl rfl dX11_readsRoom_130 w
    · replace w := w.2 c
      refine st_aload_n dX11_readsRoom_93 rfl ?_
      refine st_iconst (v := 3) dX11_readsRoom_94 (by decide) ?_
      refine st_iload_n dX11_readsRoom_95 rfl ?_
      refine st_callV (M' := mX11_wrongAt) [.int 3, .int x2] [] dX11_readsRoom_96 ml_X11_177 mf_X11_wrongAt mv_X11_wrongAt sh_73 rfl rfl rfl (K := fun r h' => (0 : Int32) = r ∧ am_sI h 73 12 ((-1000) * (3 : Int32) - x2) = h') ⟨1, by omega, iX11_wrongAt ⟨rfl, rfl⟩⟩ (fun r1 h1 w1 => ?_)
      obtain ⟨rfl, rfl⟩ := w1
      show Ru mX11_readsRoom none d 99 [.ref 73, .int x1, .int x2] [.int (0 : Int32)] (am_sI h 73 12 ((-1000) * (3 : Int32) - x2)) Z
      have hc6 := w.1
      replace w := w.2
      exact st_ireturn rfl (am_nb hc6) dX11_readsRoom_99 w
  · replace w := w.2 c
    refine st_aload_n dX11_readsRoom_34 rfl ?_
    refine st_getI fl_X11_164 fk_11_10 dX11_readsRoom_35 sh_73 ?_
    refine st_iload_n dX11_readsRoom_38 rfl ?_
    refine st_iconst (v := 2) dX11_readsRoom_39 (by decide) ?_
    refine st_iadd dX11_readsRoom_40 ?_
    refine st_icmp_ne (tgt := 54) dX11_readsRoom_41 (by decide) (fun c => ?_) (fun c => ?_)
    · replace w := w.1 c
      refine st_aload_n dX11_readsRoom_54 rfl ?_
      refine st_bipush (v := 10) dX11_readsRoom_55 (by decide) ?_
      refine st_aload_n dX11_readsRoom_57 rfl ?_
      refine st_getI fl_X11_180 fk_11_13 dX11_readsRoom_58 sh_73 ?_
      refine st_imul dX11_readsRoom_61 ?_
      refine st_aload_n dX11_readsRoom_62 rfl ?_
      refine st_callV (M' := mX11_here) [] [.int (10 * (h.1 73 13)), .ref 73] dX11_readsRoom_63 ml_X11_170 mf_X11_here mv_X11_here sh_73 rfl rfl rfl (K := fun r h' => (am_hr h) = r ∧ h = h') ⟨1, by omega, iX11_here hc1 ⟨rfl, rfl⟩⟩ (fun r1 h1 w1 => ?_)
      obtain ⟨rfl, rfl⟩ := w1
      show Ru mX11_readsRoom none d 66 [.ref 73, .int x1, .int x2] [.int (am_hr h), .int (10 * (h.1 73 13)), .ref 73] h Z
      refine st_iadd dX11_readsRoom_66 ?_
      refine st_bipush (v := 48) dX11_readsRoom_67 (by decide) ?_
      refine st_isub dX11_readsRoom_69 ?_
      refine st_putI flp_X11_180 fk_11_13 dX11_readsRoom_70 sh_73 (fun h7 eh7 => ?_)
      replace w := w h7 eh7
      refine st_aload_n dX11_readsRoom_73 rfl ?_
      refine st_aload_n dX11_readsRoom_74 rfl ?_
      refine st_getI fl_X11_164 fk_11_10 dX11_readsRoom_75 sh_73 ?_
      refine st_iconst (v := 1) dX11_readsRoom_78 (by decide) ?_
      refine st_iadd dX11_readsRoom_79 ?_
      refine st_putI flp_X11_164 fk_11_10 dX11_readsRoom_80 sh_73 (fun h8 eh8 => ?_)
      replace w := w h8 eh8
      refine st_goto (tgt := 27) dX11_readsRoom_83 (by decide) ?_
      exact w
    · replace w := w.2 c
      refine st_aload_n dX11_readsRoom_44 rfl ?_
      refine st_iconst (v := 2) dX11_readsRoom_45 (by decide) ?_
      refine st_aload_n dX11_readsRoom_46 rfl ?_
      refine st_getI fl_X11_164 fk_11_10 dX11_readsRoom_47 sh_73 ?_
      refine st_callV (M' := mX11_wrongAt) [.int 2, .int (h.1 73 10)] [] dX11_readsRoom_50 ml_X11_177 mf_X11_wrongAt mv_X11_wrongAt sh_73 rfl rfl rfl (K := fun r h' => (0 : Int32) = r ∧ am_sI h 73 12 ((-1000) * (2 : Int32) - (h.1 73 10)) = h') ⟨1, by omega, iX11_wrongAt ⟨rfl, rfl⟩⟩ (fun r1 h1 w1 => ?_)
      obtain ⟨rfl, rfl⟩ := w1
      show Ru mX11_readsRoom none d 53 [.ref 73, .int x1, .int x2] [.int (0 : Int32)] (am_sI h 73 12 ((-1000) * (2 : Int32) - (h.1 73 10))) Z
      have hc9 := w.1
      replace w := w.2
      exact st_ireturn rfl (am_nb hc9) dX11_readsRoom_53 w
set_option maxRecDepth 20000 in
set_option maxHeartbeats 2000000 in
theorem sX11_readsPaper_0 {d : Nat} {h : am_H} {Z : Int32 → am_H → Prop}  (hd : 2 ≤ d) (w : (am_hok h ∧ (vp_in (h.1 73 38) 24 ∧ (∀ h3 : am_H, h3 = am_sR h 96 (upd (h.2.2 96) (h.1 73 38).toNatClampNeg ((am_hr h) - 65)) → (∀ h4 : am_H, h4 = am_sI h3 73 10 ((h3.1 73 10) + 1) → (am_hok h4 ∧ (((49 : Int32) ≤ (am_hr h4) ∧ (am_hr h4) ≤ (57 : Int32) → (vp_in (h4.1 73 38) 24 ∧ (∀ h7 : am_H, h7 = am_sR h4 97 (upd (h4.2.2 97) (h4.1 73 38).toNatClampNeg ((am_hr h4) - 48)) → (vp_in (h7.1 73 38) 24 ∧ (∀ h9 : am_H, h9 = am_sR h7 98 (upd (h7.2.2 98) (h7.1 73 38).toNatClampNeg (-1)) → (∀ h10 : am_H, h10 = am_sI h9 73 10 ((h9.1 73 10) + 1) → (am_hok h10 ∧ ((¬ (am_hr h10) = 62 → (∀ h12 : am_H, h12 = am_sI h10 73 38 ((h10.1 73 38) + 1) → (Z 1 h12))) ∧ ((am_hr h10) = 62 → (∀ h13 : am_H, h13 = am_sI h10 73 10 ((h10.1 73 10) + 1) → (am_hok h13 ∧ (((0 : Int32) ≤ ((am_hr h13) - 97) ∧ ((am_hr h13) - 97) ≤ (11 : Int32) → (am_has (h13.1 73 37) ((am_hr h13) - 97) → (vp_in ((am_hr h13) - 97) 12 ∧ ((((h13.2.2 95 ((am_hr h13) - 97).toNatClampNeg) + ((am_hr h4) - 48)) ≤ (h13.2.2 94 ((am_hr h13) - 97).toNatClampNeg) → (∀ h16 : am_H, h16 = am_sR h13 95 (upd (h13.2.2 95) ((am_hr h13) - 97).toNatClampNeg ((h13.2.2 95 ((am_hr h13) - 97).toNatClampNeg) + ((am_hr h4) - 48))) → (vp_in (h16.1 73 38) 24 ∧ (∀ h18 : am_H, h18 = am_sR h16 98 (upd (h16.2.2 98) (h16.1 73 38).toNatClampNeg ((am_hr h13) - 97)) → (∀ h19 : am_H, h19 = am_sI h18 73 10 ((h18.1 73 10) + 1) → (∀ h20 : am_H, h20 = am_sI h19 73 38 ((h19.1 73 38) + 1) → (Z 1 h20))))))) ∧ (¬ (((h13.2.2 95 ((am_hr h13) - 97).toNatClampNeg) + ((am_hr h4) - 48)) ≤ (h13.2.2 94 ((am_hr h13) - 97).toNatClampNeg)) → (((0 : Int32) = 0 ∨ (0 : Int32) = 1) ∧ (Z (0 : Int32) (am_sI h13 73 12 ((-1000) * (8 : Int32) - (h13.1 73 10))))))))) ∧ (¬ (am_has (h13.1 73 37) ((am_hr h13) - 97)) → (((0 : Int32) = 0 ∨ (0 : Int32) = 1) ∧ (Z (0 : Int32) (am_sI h13 73 12 ((-1000) * (7 : Int32) - (h13.1 73 10))))))) ∧ (¬ ((0 : Int32) ≤ ((am_hr h13) - 97) ∧ ((am_hr h13) - 97) ≤ (11 : Int32)) → (((0 : Int32) = 0 ∨ (0 : Int32) = 1) ∧ (Z (0 : Int32) (am_sI h13 73 12 ((-1000) * (1 : Int32) - (h13.1 73 10)))))))))))))))))) ∧ (¬ ((49 : Int32) ≤ (am_hr h4) ∧ (am_hr h4) ≤ (57 : Int32)) → (((0 : Int32) = 0 ∨ (0 : Int32) = 1) ∧ (Z (0 : Int32) (am_sI h4 73 12 ((-1000) * (1 : Int32) - (h4.1 73 10))))))))))))) : Ru mX11_readsPaper none d 0 [.ref 73, .null, .null] [] h Z := by
  refine st_aload_n dX11_readsPaper_0 rfl ?_
  refine st_getF (q := 96) fl_X11_77 fk_11_34 rfl dX11_readsPaper_1 sh_73 ?_
  refine st_aload_n dX11_readsPaper_4 rfl ?_
  refine st_getI fl_X11_270 fk_11_38 dX11_readsPaper_5 sh_73 ?_
  refine st_aload_n dX11_readsPaper_8 rfl ?_
  have hc1 := w.1
  replace w := w.2
  refine st_callV (M' := mX11_here) [] [.int (h.1 73 38), .ref 96] dX11_readsPaper_9 ml_X11_170 mf_X11_here mv_X11_here sh_73 rfl rfl rfl (K := fun r h' => (am_hr h) = r ∧ h = h') ⟨1, by omega, iX11_here hc1 ⟨rfl, rfl⟩⟩ (fun r1 h1 w1 => ?_)
  obtain ⟨rfl, rfl⟩ := w1
  show Ru mX11_readsPaper none d 12 [.ref 73, .null, .null] [.int (am_hr h), .int (h.1 73 38), .ref 96] h Z
  refine st_bipush (v := 65) dX11_readsPaper_12 (by decide) ?_
  refine st_isub dX11_readsPaper_14 ?_
  have hc2 := w.1
  replace w := w.2
  refine st_iast dX11_readsPaper_15 sh_96 hc2 (fun h3 eh3 => ?_)
  replace w := w h3 eh3
  refine st_aload_n dX11_readsPaper_16 rfl ?_
  refine st_aload_n dX11_readsPaper_17 rfl ?_
  refine st_getI fl_X11_164 fk_11_10 dX11_readsPaper_18 sh_73 ?_
  refine st_iconst (v := 1) dX11_readsPaper_21 (by decide) ?_
  refine st_iadd dX11_readsPaper_22 ?_
  refine st_putI flp_X11_164 fk_11_10 dX11_readsPaper_23 sh_73 (fun h4 eh4 => ?_)
  replace w := w h4 eh4
  refine st_aload_n dX11_readsPaper_26 rfl ?_
  have hc5 := w.1
  replace w := w.2
  refine st_callV (M' := mX11_here) [] [] dX11_readsPaper_27 ml_X11_170 mf_X11_here mv_X11_here sh_73 rfl rfl rfl (K := fun r h' => (am_hr h4) = r ∧ h4 = h') ⟨1, by omega, iX11_here hc5 ⟨rfl, rfl⟩⟩ (fun r1 h1 w1 => ?_)
  obtain ⟨rfl, rfl⟩ := w1
  show Ru mX11_readsPaper none d 30 [.ref 73, .null, .null] [.int (am_hr h4)] h4 Z
  refine st_bipush (v := 49) dX11_readsPaper_30 (by decide) ?_
  refine st_bipush (v := 57) dX11_readsPaper_32 (by decide) ?_
  refine st_callS (M' := mX11_in) [.int (am_hr h4), .int 49, .int 57] [] dX11_readsPaper_34 ml_X11_125 mf_X11_in ms_X11_in rfl rfl rfl (K := fun r h' => (am_b ((49 : Int32) ≤ (am_hr h4) ∧ (am_hr h4) ≤ (57 : Int32))) = r ∧ h4 = h') ⟨1, by omega, iX11_in ⟨rfl, rfl⟩⟩ (fun r1 h1 w1 => ?_)
  obtain ⟨rfl, rfl⟩ := w1
  show Ru mX11_readsPaper none d 37 [.ref 73, .null, .null] [.int (am_b ((49 : Int32) ≤ (am_hr h4) ∧ (am_hr h4) ≤ (57 : Int32)))] h4 Z
  refine st_ifb_ne (tgt := 50) dX11_readsPaper_37 (by decide) (fun c => ?_) (fun c => ?_)
  · replace w := w.1 c
    refine st_aload_n dX11_readsPaper_50 rfl ?_
    refine st_callV (M' := mX11_here) [] [] dX11_readsPaper_51 ml_X11_170 mf_X11_here mv_X11_here sh_73 rfl rfl rfl (K := fun r h' => (am_hr h4) = r ∧ h4 = h') ⟨1, by omega, iX11_here hc5 ⟨rfl, rfl⟩⟩ (fun r1 h1 w1 => ?_)
    obtain ⟨rfl, rfl⟩ := w1
    show Ru mX11_readsPaper none d 54 [.ref 73, .null, .null] [.int (am_hr h4)] h4 Z
    refine st_bipush (v := 48) dX11_readsPaper_54 (by decide) ?_
    refine st_isub dX11_readsPaper_56 ?_
    refine st_istore_n (L' := [.ref 73, .int ((am_hr h4) - 48), .null]) dX11_readsPaper_57 (by decide) rfl ?_
    refine st_aload_n dX11_readsPaper_58 rfl ?_
    refine st_getF (q := 97) fl_X11_80 fk_11_35 rfl dX11_readsPaper_59 sh_73 ?_
    refine st_aload_n dX11_readsPaper_62 rfl ?_
    refine st_getI fl_X11_270 fk_11_38 dX11_readsPaper_63 sh_73 ?_
    refine st_iload_n dX11_readsPaper_66 rfl ?_
    have hc6 := w.1
    replace w := w.2
    refine st_iast dX11_readsPaper_67 sh_97 hc6 (fun h7 eh7 => ?_)
    replace w := w h7 eh7
    refine st_aload_n dX11_readsPaper_68 rfl ?_
    refine st_getF (q := 98) fl_X11_83 fk_11_36 rfl dX11_readsPaper_69 sh_73 ?_
    refine st_aload_n dX11_readsPaper_72 rfl ?_
    refine st_getI fl_X11_270 fk_11_38 dX11_readsPaper_73 sh_73 ?_
    refine st_iconst (v := (-1)) dX11_readsPaper_76 (by decide) ?_
    have hc8 := w.1
    replace w := w.2
    refine st_iast dX11_readsPaper_77 sh_98 hc8 (fun h9 eh9 => ?_)
    replace w := w h9 eh9
    refine st_aload_n dX11_readsPaper_78 rfl ?_
    refine st_aload_n dX11_readsPaper_79 rfl ?_
    refine st_getI fl_X11_164 fk_11_10 dX11_readsPaper_80 sh_73 ?_
    refine st_iconst (v := 1) dX11_readsPaper_83 (by decide) ?_
    refine st_iadd dX11_readsPaper_84 ?_
    refine st_putI flp_X11_164 fk_11_10 dX11_readsPaper_85 sh_73 (fun h10 eh10 => ?_)
    replace w := w h10 eh10
    refine st_aload_n dX11_readsPaper_88 rfl ?_
    have hc11 := w.1
    replace w := w.2
    refine st_callV (M' := mX11_here) [] [] dX11_readsPaper_89 ml_X11_170 mf_X11_here mv_X11_here sh_73 rfl rfl rfl (K := fun r h' => (am_hr h10) = r ∧ h10 = h') ⟨1, by omega, iX11_here hc11 ⟨rfl, rfl⟩⟩ (fun r1 h1 w1 => ?_)
    obtain ⟨rfl, rfl⟩ := w1
    show Ru mX11_readsPaper none d 92 [.ref 73, .int ((am_hr h4) - 48), .null] [.int (am_hr h10)] h10 Z
    refine st_bipush (v := 62) dX11_readsPaper_92 (by decide) ?_
    refine st_icmp_ne (tgt := 219) dX11_readsPaper_94 (by decide) (fun c => ?_) (fun c => ?_)
    · replace w := w.1 c
      refine st_aload_n dX11_readsPaper_219 rfl ?_
      refine st_aload_n dX11_readsPaper_220 rfl ?_
      refine st_getI fl_X11_270 fk_11_38 dX11_readsPaper_221 sh_73 ?_
      refine st_iconst (v := 1) dX11_readsPaper_224 (by decide) ?_
      refine st_iadd dX11_readsPaper_225 ?_
      refine st_putI flp_X11_270 fk_11_38 dX11_readsPaper_226 sh_73 (fun h12 eh12 => ?_)
      replace w := w h12 eh12
      refine st_iconst (v := 1) dX11_readsPaper_229 (by decide) ?_
      exact st_ireturn rfl rfl dX11_readsPaper_230 w
    · replace w := w.2 c
      refine st_aload_n dX11_readsPaper_97 rfl ?_
      refine st_aload_n dX11_readsPaper_98 rfl ?_
      refine st_getI fl_X11_164 fk_11_10 dX11_readsPaper_99 sh_73 ?_
      refine st_iconst (v := 1) dX11_readsPaper_102 (by decide) ?_
      refine st_iadd dX11_readsPaper_103 ?_
      refine st_putI flp_X11_164 fk_11_10 dX11_readsPaper_104 sh_73 (fun h13 eh13 => ?_)
      replace w := w h13 eh13
      refine st_aload_n dX11_readsPaper_107 rfl ?_
      have hc14 := w.1
      replace w := w.2
      refine st_callV (M' := mX11_here) [] [] dX11_readsPaper_108 ml_X11_170 mf_X11_here mv_X11_here sh_73 rfl rfl rfl (K := fun r h' => (am_hr h13) = r ∧ h13 = h') ⟨1, by omega, iX11_here hc14 ⟨rfl, rfl⟩⟩ (fun r1 h1 w1 => ?_)
      obtain ⟨rfl, rfl⟩ := w1
      show Ru mX11_readsPaper none d 111 [.ref 73, .int ((am_hr h4) - 48), .null] [.int (am_hr h13)] h13 Z
      refine st_bipush (v := 97) dX11_readsPaper_111 (by decide) ?_
      refine st_isub dX11_readsPaper_113 ?_
      refine st_istore_n (L' := [.ref 73, .int ((am_hr h4) - 48), .int ((am_hr h13) - 97)]) dX11_readsPaper_114 (by decide) rfl ?_
      refine st_iload_n dX11_readsPaper_115 rfl ?_
      refine st_iconst (v := 0) dX11_readsPaper_116 (by decide) ?_
      refine st_bipush (v := 11) dX11_readsPaper_117 (by decide) ?_
      refine st_callS (M' := mX11_in) [.int ((am_hr h13) - 97), .int 0, .int 11] [] dX11_readsPaper_119 ml_X11_125 mf_X11_in ms_X11_in rfl rfl rfl (K := fun r h' => (am_b ((0 : Int32) ≤ ((am_hr h13) - 97) ∧ ((am_hr h13) - 97) ≤ (11 : Int32))) = r ∧ h13 = h') ⟨1, by omega, iX11_in ⟨rfl, rfl⟩⟩ (fun r1 h1 w1 => ?_)
      obtain ⟨rfl, rfl⟩ := w1
      show Ru mX11_readsPaper none d 122 [.ref 73, .int ((am_hr h4) - 48), .int ((am_hr h13) - 97)] [.int (am_b ((0 : Int32) ≤ ((am_hr h13) - 97) ∧ ((am_hr h13) - 97) ≤ (11 : Int32)))] h13 Z
      refine st_ifb_ne (tgt := 135) dX11_readsPaper_122 (by decide) (fun c => ?_) (fun c => ?_)
      · replace w := w.1 c
        refine st_aload_n dX11_readsPaper_135 rfl ?_
        refine st_getI fl_X11_267 fk_11_37 dX11_readsPaper_136 sh_73 ?_
        refine st_iload_n dX11_readsPaper_139 rfl ?_
        refine st_callS (M' := mX11_has) [.int (h13.1 73 37), .int ((am_hr h13) - 97)] [] dX11_readsPaper_140 ml_X11_133 mf_X11_has ms_X11_has rfl rfl rfl (K := fun r h' => (am_b (am_has (h13.1 73 37) ((am_hr h13) - 97))) = r ∧ h13 = h') ⟨1, by omega, iX11_has ⟨rfl, rfl⟩⟩ (fun r1 h1 w1 => ?_)
        obtain ⟨rfl, rfl⟩ := w1
        show Ru mX11_readsPaper none d 143 [.ref 73, .int ((am_hr h4) - 48), .int ((am_hr h13) - 97)] [.int (am_b (am_has (h13.1 73 37) ((am_hr h13) - 97)))] h13 Z
        refine st_ifb_ne (tgt := 157) dX11_readsPaper_143 (by decide) (fun c => ?_) (fun c => ?_)
        · replace w := w.1 c
          refine st_aload_n dX11_readsPaper_157 rfl ?_
          refine st_getF (q := 95) fl_X11_74 fk_11_33 rfl dX11_readsPaper_158 sh_73 ?_
          refine st_iload_n dX11_readsPaper_161 rfl ?_
          have hc15 := w.1
          replace w := w.2
          refine st_iald dX11_readsPaper_162 sh_95 hc15 ?_
          refine st_iload_n dX11_readsPaper_163 rfl ?_
          refine st_iadd dX11_readsPaper_164 ?_
          refine st_aload_n dX11_readsPaper_165 rfl ?_
          refine st_getF (q := 94) fl_X11_71 fk_11_32 rfl dX11_readsPaper_166 sh_73 ?_
          refine st_iload_n dX11_readsPaper_169 rfl ?_
          refine st_iald dX11_readsPaper_170 sh_94 hc15 ?_
          refine st_icmp_le (tgt := 185) dX11_readsPaper_171 (by decide) (fun c => ?_) (fun c => ?_)
          · replace w := w.1 c
            refine st_aload_n dX11_readsPaper_185 rfl ?_
            refine st_getF (q := 95) fl_X11_74 fk_11_33 rfl dX11_readsPaper_186 sh_73 ?_
            refine st_iload_n dX11_readsPaper_189 rfl ?_
            refine st_aload_n dX11_readsPaper_190 rfl ?_
            refine st_getF (q := 95) fl_X11_74 fk_11_33 rfl dX11_readsPaper_191 sh_73 ?_
            refine st_iload_n dX11_readsPaper_194 rfl ?_
            refine st_iald dX11_readsPaper_195 sh_95 hc15 ?_
            refine st_iload_n dX11_readsPaper_196 rfl ?_
            refine st_iadd dX11_readsPaper_197 ?_
            refine st_iast dX11_readsPaper_198 sh_95 hc15 (fun h16 eh16 => ?_)
            replace w := w h16 eh16
            refine st_aload_n dX11_readsPaper_199 rfl ?_
            refine st_getF (q := 98) fl_X11_83 fk_11_36 rfl dX11_readsPaper_200 sh_73 ?_
            refine st_aload_n dX11_readsPaper_203 rfl ?_
            refine st_getI fl_X11_270 fk_11_38 dX11_readsPaper_204 sh_73 ?_
            refine st_iload_n dX11_readsPaper_207 rfl ?_
            have hc17 := w.1
            replace w := w.2
            refine st_iast dX11_readsPaper_208 sh_98 hc17 (fun h18 eh18 => ?_)
            replace w := w h18 eh18
            refine st_aload_n dX11_readsPaper_209 rfl ?_
            refine st_aload_n dX11_readsPaper_210 rfl ?_
            refine st_getI fl_X11_164 fk_11_10 dX11_readsPaper_211 sh_73 ?_
            refine st_iconst (v := 1) dX11_readsPaper_214 (by decide) ?_
            refine st_iadd dX11_readsPaper_215 ?_
            refine st_putI flp_X11_164 fk_11_10 dX11_readsPaper_216 sh_73 (fun h19 eh19 => ?_)
            replace w := w h19 eh19
            refine st_aload_n dX11_readsPaper_219 rfl ?_
            refine st_aload_n dX11_readsPaper_220 rfl ?_
            refine st_getI fl_X11_270 fk_11_38 dX11_readsPaper_221 sh_73 ?_
            refine st_iconst (v := 1) dX11_readsPaper_224 (by decide) ?_
            refine st_iadd dX11_readsPaper_225 ?_
            refine st_putI flp_X11_270 fk_11_38 dX11_readsPaper_226 sh_73 (fun h20 eh20 => ?_)
            replace w := w h20 eh20
            refine st_iconst (v := 1) dX11_readsPaper_229 (by decide) ?_
            exact st_ireturn rfl rfl dX11_readsPaper_230 w
          · replace w := w.2 c
            refine st_aload_n dX11_readsPaper_174 rfl ?_
            refine st_bipush (v := 8) dX11_readsPaper_175 (by decide) ?_
            refine st_aload_n dX11_readsPaper_177 rfl ?_
            refine st_getI fl_X11_164 fk_11_10 dX11_readsPaper_178 sh_73 ?_
            refine st_callV (M' := mX11_wrongAt) [.int 8, .int (h13.1 73 10)] [] dX11_readsPaper_181 ml_X11_177 mf_X11_wrongAt mv_X11_wrongAt sh_73 rfl rfl rfl (K := fun r h' => (0 : Int32) = r ∧ am_sI h13 73 12 ((-1000) * (8 : Int32) - (h13.1 73 10)) = h') ⟨1, by omega, iX11_wrongAt ⟨rfl, rfl⟩⟩ (fun r1 h1 w1 => ?_)
            obtain ⟨rfl, rfl⟩ := w1
            show Ru mX11_readsPaper none d 184 [.ref 73, .int ((am_hr h4) - 48), .int ((am_hr h13) - 97)] [.int (0 : Int32)] (am_sI h13 73 12 ((-1000) * (8 : Int32) - (h13.1 73 10))) Z
            have hc21 := w.1
            replace w := w.2
            exact st_ireturn rfl (am_nb hc21) dX11_readsPaper_184 w
        · replace w := w.2 c
          refine st_aload_n dX11_readsPaper_146 rfl ?_
          refine st_bipush (v := 7) dX11_readsPaper_147 (by decide) ?_
          refine st_aload_n dX11_readsPaper_149 rfl ?_
          refine st_getI fl_X11_164 fk_11_10 dX11_readsPaper_150 sh_73 ?_
          refine st_callV (M' := mX11_wrongAt) [.int 7, .int (h13.1 73 10)] [] dX11_readsPaper_153 ml_X11_177 mf_X11_wrongAt mv_X11_wrongAt sh_73 rfl rfl rfl (K := fun r h' => (0 : Int32) = r ∧ am_sI h13 73 12 ((-1000) * (7 : Int32) - (h13.1 73 10)) = h') ⟨1, by omega, iX11_wrongAt ⟨rfl, rfl⟩⟩ (fun r1 h1 w1 => ?_)
          obtain ⟨rfl, rfl⟩ := w1
          show Ru mX11_readsPaper none d 156 [.ref 73, .int ((am_hr h4) - 48), .int ((am_hr h13) - 97)] [.int (0 : Int32)] (am_sI h13 73 12 ((-1000) * (7 : Int32) - (h13.1 73 10))) Z
          have hc22 := w.1
          replace w := w.2
          exact st_ireturn rfl (am_nb hc22) dX11_readsPaper_156 w
      · replace w := w.2 c
        refine st_aload_n dX11_readsPaper_125 rfl ?_
        refine st_iconst (v := 1) dX11_readsPaper_126 (by decide) ?_
        refine st_aload_n dX11_readsPaper_127 rfl ?_
        refine st_getI fl_X11_164 fk_11_10 dX11_readsPaper_128 sh_73 ?_
        refine st_callV (M' := mX11_wrongAt) [.int 1, .int (h13.1 73 10)] [] dX11_readsPaper_131 ml_X11_177 mf_X11_wrongAt mv_X11_wrongAt sh_73 rfl rfl rfl (K := fun r h' => (0 : Int32) = r ∧ am_sI h13 73 12 ((-1000) * (1 : Int32) - (h13.1 73 10)) = h') ⟨1, by omega, iX11_wrongAt ⟨rfl, rfl⟩⟩ (fun r1 h1 w1 => ?_)
        obtain ⟨rfl, rfl⟩ := w1
        show Ru mX11_readsPaper none d 134 [.ref 73, .int ((am_hr h4) - 48), .int ((am_hr h13) - 97)] [.int (0 : Int32)] (am_sI h13 73 12 ((-1000) * (1 : Int32) - (h13.1 73 10))) Z
        have hc23 := w.1
        replace w := w.2
        exact st_ireturn rfl (am_nb hc23) dX11_readsPaper_134 w
  · replace w := w.2 c
    refine st_aload_n dX11_readsPaper_40 rfl ?_
    refine st_iconst (v := 1) dX11_readsPaper_41 (by decide) ?_
    refine st_aload_n dX11_readsPaper_42 rfl ?_
    refine st_getI fl_X11_164 fk_11_10 dX11_readsPaper_43 sh_73 ?_
    refine st_callV (M' := mX11_wrongAt) [.int 1, .int (h4.1 73 10)] [] dX11_readsPaper_46 ml_X11_177 mf_X11_wrongAt mv_X11_wrongAt sh_73 rfl rfl rfl (K := fun r h' => (0 : Int32) = r ∧ am_sI h4 73 12 ((-1000) * (1 : Int32) - (h4.1 73 10)) = h') ⟨1, by omega, iX11_wrongAt ⟨rfl, rfl⟩⟩ (fun r1 h1 w1 => ?_)
    obtain ⟨rfl, rfl⟩ := w1
    show Ru mX11_readsPaper none d 49 [.ref 73, .null, .null] [.int (0 : Int32)] (am_sI h4 73 12 ((-1000) * (1 : Int32) - (h4.1 73 10))) Z
    have hc24 := w.1
    replace w := w.2
    exact st_ireturn rfl (am_nb hc24) dX11_readsPaper_49 w
set_option maxRecDepth 20000 in
set_option maxHeartbeats 2000000 in
theorem sX11_readsLine_0 {d : Nat} {h : am_H} {Z : Int32 → am_H → Prop}  (hd : 2 ≤ d) (w : (am_hok h ∧ (((0 : Int32) ≤ ((am_hr h) - 97) ∧ ((am_hr h) - 97) ≤ (11 : Int32) → Ru mX11_readsLine none d 44 [.ref 73, .int (am_b ((0 : Int32) ≤ ((am_hr h) - 97) ∧ ((am_hr h) - 97) ≤ (11 : Int32))), .null] [] h Z) ∧ (¬ ((0 : Int32) ≤ ((am_hr h) - 97) ∧ ((am_hr h) - 97) ≤ (11 : Int32)) → ((0 : Int32) ≤ ((am_hr h) - 65) ∧ ((am_hr h) - 65) ≤ (15 : Int32) → Ru mX11_readsLine none d 44 [.ref 73, .int (am_b ((0 : Int32) ≤ ((am_hr h) - 97) ∧ ((am_hr h) - 97) ≤ (11 : Int32))), .null] [] h Z) ∧ (¬ ((0 : Int32) ≤ ((am_hr h) - 65) ∧ ((am_hr h) - 65) ≤ (15 : Int32)) → (((0 : Int32) = 0 ∨ (0 : Int32) = 1) ∧ (Z (0 : Int32) (am_sI h 73 12 ((-1000) * (1 : Int32) - (h.1 73 10)))))))))) : Ru mX11_readsLine none d 0 [.ref 73, .null, .null] [] h Z := by
  refine st_aload_n dX11_readsLine_0 rfl ?_
  have hc1 := w.1
  replace w := w.2
  refine st_callV (M' := mX11_here) [] [] dX11_readsLine_1 ml_X11_170 mf_X11_here mv_X11_here sh_73 rfl rfl rfl (K := fun r h' => (am_hr h) = r ∧ h = h') ⟨1, by omega, iX11_here hc1 ⟨rfl, rfl⟩⟩ (fun r1 h1 w1 => ?_)
  obtain ⟨rfl, rfl⟩ := w1
  show Ru mX11_readsLine none d 4 [.ref 73, .null, .null] [.int (am_hr h)] h Z
  refine st_bipush (v := 97) dX11_readsLine_4 (by decide) ?_
  refine st_isub dX11_readsLine_6 ?_
  refine st_iconst (v := 0) dX11_readsLine_7 (by decide) ?_
  refine st_bipush (v := 11) dX11_readsLine_8 (by decide) ?_
  refine st_callS (M' := mX11_in) [.int ((am_hr h) - 97), .int 0, .int 11] [] dX11_readsLine_10 ml_X11_125 mf_X11_in ms_X11_in rfl rfl rfl (K := fun r h' => (am_b ((0 : Int32) ≤ ((am_hr h) - 97) ∧ ((am_hr h) - 97) ≤ (11 : Int32))) = r ∧ h = h') ⟨1, by omega, iX11_in ⟨rfl, rfl⟩⟩ (fun r1 h1 w1 => ?_)
  obtain ⟨rfl, rfl⟩ := w1
  show Ru mX11_readsLine none d 13 [.ref 73, .null, .null] [.int (am_b ((0 : Int32) ≤ ((am_hr h) - 97) ∧ ((am_hr h) - 97) ≤ (11 : Int32)))] h Z
  refine st_istore_n (L' := [.ref 73, .int (am_b ((0 : Int32) ≤ ((am_hr h) - 97) ∧ ((am_hr h) - 97) ≤ (11 : Int32))), .null]) dX11_readsLine_13 (by decide) rfl ?_
  refine st_iload_n dX11_readsLine_14 rfl ?_
  refine st_ifb_ne (tgt := 44) dX11_readsLine_15 (by decide) (fun c => ?_) (fun c => ?_)
  · replace w := w.1 c
    exact w
  · replace w := w.2 c
    refine st_aload_n dX11_readsLine_18 rfl ?_
    refine st_callV (M' := mX11_here) [] [] dX11_readsLine_19 ml_X11_170 mf_X11_here mv_X11_here sh_73 rfl rfl rfl (K := fun r h' => (am_hr h) = r ∧ h = h') ⟨1, by omega, iX11_here hc1 ⟨rfl, rfl⟩⟩ (fun r1 h1 w1 => ?_)
    obtain ⟨rfl, rfl⟩ := w1
    show Ru mX11_readsLine none d 22 [.ref 73, .int (am_b ((0 : Int32) ≤ ((am_hr h) - 97) ∧ ((am_hr h) - 97) ≤ (11 : Int32))), .null] [.int (am_hr h)] h Z
    refine st_bipush (v := 65) dX11_readsLine_22 (by decide) ?_
    refine st_isub dX11_readsLine_24 ?_
    refine st_iconst (v := 0) dX11_readsLine_25 (by decide) ?_
    refine st_bipush (v := 15) dX11_readsLine_26 (by decide) ?_
    refine st_callS (M' := mX11_in) [.int ((am_hr h) - 65), .int 0, .int 15] [] dX11_readsLine_28 ml_X11_125 mf_X11_in ms_X11_in rfl rfl rfl (K := fun r h' => (am_b ((0 : Int32) ≤ ((am_hr h) - 65) ∧ ((am_hr h) - 65) ≤ (15 : Int32))) = r ∧ h = h') ⟨1, by omega, iX11_in ⟨rfl, rfl⟩⟩ (fun r1 h1 w1 => ?_)
    obtain ⟨rfl, rfl⟩ := w1
    show Ru mX11_readsLine none d 31 [.ref 73, .int (am_b ((0 : Int32) ≤ ((am_hr h) - 97) ∧ ((am_hr h) - 97) ≤ (11 : Int32))), .null] [.int (am_b ((0 : Int32) ≤ ((am_hr h) - 65) ∧ ((am_hr h) - 65) ≤ (15 : Int32)))] h Z
    refine st_ifb_ne (tgt := 44) dX11_readsLine_31 (by decide) (fun c => ?_) (fun c => ?_)
    · replace w := w.1 c
      exact w
    · replace w := w.2 c
      refine st_aload_n dX11_readsLine_34 rfl ?_
      refine st_iconst (v := 1) dX11_readsLine_35 (by decide) ?_
      refine st_aload_n dX11_readsLine_36 rfl ?_
      refine st_getI fl_X11_164 fk_11_10 dX11_readsLine_37 sh_73 ?_
      refine st_callV (M' := mX11_wrongAt) [.int 1, .int (h.1 73 10)] [] dX11_readsLine_40 ml_X11_177 mf_X11_wrongAt mv_X11_wrongAt sh_73 rfl rfl rfl (K := fun r h' => (0 : Int32) = r ∧ am_sI h 73 12 ((-1000) * (1 : Int32) - (h.1 73 10)) = h') ⟨1, by omega, iX11_wrongAt ⟨rfl, rfl⟩⟩ (fun r1 h1 w1 => ?_)
      obtain ⟨rfl, rfl⟩ := w1
      show Ru mX11_readsLine none d 43 [.ref 73, .int (am_b ((0 : Int32) ≤ ((am_hr h) - 97) ∧ ((am_hr h) - 97) ≤ (11 : Int32))), .null] [.int (0 : Int32)] (am_sI h 73 12 ((-1000) * (1 : Int32) - (h.1 73 10))) Z
      have hc2 := w.1
      replace w := w.2
      exact st_ireturn rfl (am_nb hc2) dX11_readsLine_43 w
set_option maxRecDepth 20000 in
set_option maxHeartbeats 2000000 in
theorem sX11_readsLine_44 {d : Nat} {h : am_H} {Z : Int32 → am_H → Prop} {x1 : Int32} {u2 : Value} (hd : 2 ≤ d) (w : ((h.1 73 39) = 36 → (((0 : Int32) = 0 ∨ (0 : Int32) = 1) ∧ (Z (0 : Int32) (am_sI h 73 12 ((-1000) * (4 : Int32) - (h.1 73 10)))))) ∧ (¬ ((h.1 73 39) = 36) → (¬ x1 = 0 → Ru mX11_readsLine none d 76 [.ref 73, .int x1, u2] [] h Z) ∧ (x1 = 0 → (¬ (h.1 73 38) = 24 → Ru mX11_readsLine none d 76 [.ref 73, .int x1, u2] [] h Z) ∧ ((h.1 73 38) = 24 → (((0 : Int32) = 0 ∨ (0 : Int32) = 1) ∧ (Z (0 : Int32) (am_sI h 73 12 ((-1000) * (4 : Int32) - (h.1 73 10))))))))) : Ru mX11_readsLine none d 44 [.ref 73, .int x1, u2] [] h Z := by
  refine st_aload_n dX11_readsLine_44 rfl ?_
  refine st_getI fl_X11_273 fk_11_39 dX11_readsLine_45 sh_73 ?_
  refine st_bipush (v := 36) dX11_readsLine_48 (by decide) ?_
  refine st_icmp_eq (tgt := 66) dX11_readsLine_50 (by decide) (fun c => ?_) (fun c => ?_)
  · replace w := w.1 c
    refine st_aload_n dX11_readsLine_66 rfl ?_
    refine st_iconst (v := 4) dX11_readsLine_67 (by decide) ?_
    refine st_aload_n dX11_readsLine_68 rfl ?_
    refine st_getI fl_X11_164 fk_11_10 dX11_readsLine_69 sh_73 ?_
    refine st_callV (M' := mX11_wrongAt) [.int 4, .int (h.1 73 10)] [] dX11_readsLine_72 ml_X11_177 mf_X11_wrongAt mv_X11_wrongAt sh_73 rfl rfl rfl (K := fun r h' => (0 : Int32) = r ∧ am_sI h 73 12 ((-1000) * (4 : Int32) - (h.1 73 10)) = h') ⟨1, by omega, iX11_wrongAt ⟨rfl, rfl⟩⟩ (fun r1 h1 w1 => ?_)
    obtain ⟨rfl, rfl⟩ := w1
    show Ru mX11_readsLine none d 75 [.ref 73, .int x1, u2] [.int (0 : Int32)] (am_sI h 73 12 ((-1000) * (4 : Int32) - (h.1 73 10))) Z
    have hc1 := w.1
    replace w := w.2
    exact st_ireturn rfl (am_nb hc1) dX11_readsLine_75 w
  · replace w := w.2 c
    refine st_iload_n dX11_readsLine_53 rfl ?_
    refine st_if_ne (tgt := 76) dX11_readsLine_54 (by decide) (fun c => ?_) (fun c => ?_)
    · replace w := w.1 c
      exact w
    · replace w := w.2 c
      refine st_aload_n dX11_readsLine_57 rfl ?_
      refine st_getI fl_X11_270 fk_11_38 dX11_readsLine_58 sh_73 ?_
      refine st_bipush (v := 24) dX11_readsLine_61 (by decide) ?_
      refine st_icmp_ne (tgt := 76) dX11_readsLine_63 (by decide) (fun c => ?_) (fun c => ?_)
      · replace w := w.1 c
        exact w
      · replace w := w.2 c
        refine st_aload_n dX11_readsLine_66 rfl ?_
        refine st_iconst (v := 4) dX11_readsLine_67 (by decide) ?_
        refine st_aload_n dX11_readsLine_68 rfl ?_
        refine st_getI fl_X11_164 fk_11_10 dX11_readsLine_69 sh_73 ?_
        refine st_callV (M' := mX11_wrongAt) [.int 4, .int (h.1 73 10)] [] dX11_readsLine_72 ml_X11_177 mf_X11_wrongAt mv_X11_wrongAt sh_73 rfl rfl rfl (K := fun r h' => (0 : Int32) = r ∧ am_sI h 73 12 ((-1000) * (4 : Int32) - (h.1 73 10)) = h') ⟨1, by omega, iX11_wrongAt ⟨rfl, rfl⟩⟩ (fun r1 h1 w1 => ?_)
        obtain ⟨rfl, rfl⟩ := w1
        show Ru mX11_readsLine none d 75 [.ref 73, .int x1, u2] [.int (0 : Int32)] (am_sI h 73 12 ((-1000) * (4 : Int32) - (h.1 73 10))) Z
        have hc2 := w.1
        replace w := w.2
        exact st_ireturn rfl (am_nb hc2) dX11_readsLine_75 w
set_option maxRecDepth 20000 in
set_option maxHeartbeats 2000000 in
theorem sX11_readsLine_76 {d : Nat} {h : am_H} {Z : Int32 → am_H → Prop} {x1 : Int32} {u2 : Value} (hd : 2 ≤ d) (w : (∀ h1 : am_H, h1 = am_sI h 73 39 ((h.1 73 39) + 1) → ((¬ x1 = 0 → (am_hok h1 ∧ ((¬ (am_has (h1.1 73 37) ((am_hr h1) - 97)) → (∀ h3 : am_H, h3 = am_sI h1 73 10 ((h1.1 73 10) + 1) → (am_cl mX11_readsRoom d [.ref 73, .int ((am_hr h1) - 97)] h3 (fun r4 h5 => ((r4 = 0 ∨ r4 = 1) ∧ (Z r4 h5)))))) ∧ (am_has (h1.1 73 37) ((am_hr h1) - 97) → (((0 : Int32) = 0 ∨ (0 : Int32) = 1) ∧ (Z (0 : Int32) (am_sI h1 73 12 ((-1000) * (6 : Int32) - (h1.1 73 10))))))))) ∧ (x1 = 0 → am_cl mX11_readsPaper d [.ref 73] h1 (fun r8 h9 => ((r8 = 0 ∨ r8 = 1) ∧ (Z r8 h9))))))) : Ru mX11_readsLine none d 76 [.ref 73, .int x1, u2] [] h Z := by
  refine st_aload_n dX11_readsLine_76 rfl ?_
  refine st_aload_n dX11_readsLine_77 rfl ?_
  refine st_getI fl_X11_273 fk_11_39 dX11_readsLine_78 sh_73 ?_
  refine st_iconst (v := 1) dX11_readsLine_81 (by decide) ?_
  refine st_iadd dX11_readsLine_82 ?_
  refine st_putI flp_X11_273 fk_11_39 dX11_readsLine_83 sh_73 (fun h1 eh1 => ?_)
  replace w := w h1 eh1
  refine st_iload_n dX11_readsLine_86 rfl ?_
  refine st_if_ne (tgt := 95) dX11_readsLine_87 (by decide) (fun c => ?_) (fun c => ?_)
  · replace w := w.1 c
    refine st_aload_n dX11_readsLine_95 rfl ?_
    have hc2 := w.1
    replace w := w.2
    refine st_callV (M' := mX11_here) [] [] dX11_readsLine_96 ml_X11_170 mf_X11_here mv_X11_here sh_73 rfl rfl rfl (K := fun r h' => (am_hr h1) = r ∧ h1 = h') ⟨1, by omega, iX11_here hc2 ⟨rfl, rfl⟩⟩ (fun r1 h1 w1 => ?_)
    obtain ⟨rfl, rfl⟩ := w1
    show Ru mX11_readsLine none d 99 [.ref 73, .int x1, u2] [.int (am_hr h1)] h1 Z
    refine st_bipush (v := 97) dX11_readsLine_99 (by decide) ?_
    refine st_isub dX11_readsLine_101 ?_
    refine st_istore_n (L' := [.ref 73, .int x1, .int ((am_hr h1) - 97)]) dX11_readsLine_102 (by decide) rfl ?_
    refine st_aload_n dX11_readsLine_103 rfl ?_
    refine st_getI fl_X11_267 fk_11_37 dX11_readsLine_104 sh_73 ?_
    refine st_iload_n dX11_readsLine_107 rfl ?_
    refine st_callS (M' := mX11_has) [.int (h1.1 73 37), .int ((am_hr h1) - 97)] [] dX11_readsLine_108 ml_X11_133 mf_X11_has ms_X11_has rfl rfl rfl (K := fun r h' => (am_b (am_has (h1.1 73 37) ((am_hr h1) - 97))) = r ∧ h1 = h') ⟨1, by omega, iX11_has ⟨rfl, rfl⟩⟩ (fun r1 h1 w1 => ?_)
    obtain ⟨rfl, rfl⟩ := w1
    show Ru mX11_readsLine none d 111 [.ref 73, .int x1, .int ((am_hr h1) - 97)] [.int (am_b (am_has (h1.1 73 37) ((am_hr h1) - 97)))] h1 Z
    refine st_ifb_eq (tgt := 125) dX11_readsLine_111 (by decide) (fun c => ?_) (fun c => ?_)
    · replace w := w.1 c
      refine st_aload_n dX11_readsLine_125 rfl ?_
      refine st_aload_n dX11_readsLine_126 rfl ?_
      refine st_getI fl_X11_164 fk_11_10 dX11_readsLine_127 sh_73 ?_
      refine st_iconst (v := 1) dX11_readsLine_130 (by decide) ?_
      refine st_iadd dX11_readsLine_131 ?_
      refine st_putI flp_X11_164 fk_11_10 dX11_readsLine_132 sh_73 (fun h3 eh3 => ?_)
      replace w := w h3 eh3
      refine st_aload_n dX11_readsLine_135 rfl ?_
      refine st_iload_n dX11_readsLine_136 rfl ?_
      refine st_callV (M' := mX11_readsRoom) [.int ((am_hr h1) - 97)] [] dX11_readsLine_137 ml_X11_279 mf_X11_readsRoom mv_X11_readsRoom sh_73 rfl rfl rfl w (fun r4 h5 w => ?_)
      show Ru mX11_readsLine none d 140 [.ref 73, .int x1, .int ((am_hr h1) - 97)] [.int r4] h5 Z
      have hc6 := w.1
      replace w := w.2
      exact st_ireturn rfl (am_nb hc6) dX11_readsLine_140 w
    · replace w := w.2 c
      refine st_aload_n dX11_readsLine_114 rfl ?_
      refine st_bipush (v := 6) dX11_readsLine_115 (by decide) ?_
      refine st_aload_n dX11_readsLine_117 rfl ?_
      refine st_getI fl_X11_164 fk_11_10 dX11_readsLine_118 sh_73 ?_
      refine st_callV (M' := mX11_wrongAt) [.int 6, .int (h1.1 73 10)] [] dX11_readsLine_121 ml_X11_177 mf_X11_wrongAt mv_X11_wrongAt sh_73 rfl rfl rfl (K := fun r h' => (0 : Int32) = r ∧ am_sI h1 73 12 ((-1000) * (6 : Int32) - (h1.1 73 10)) = h') ⟨1, by omega, iX11_wrongAt ⟨rfl, rfl⟩⟩ (fun r1 h1 w1 => ?_)
      obtain ⟨rfl, rfl⟩ := w1
      show Ru mX11_readsLine none d 124 [.ref 73, .int x1, .int ((am_hr h1) - 97)] [.int (0 : Int32)] (am_sI h1 73 12 ((-1000) * (6 : Int32) - (h1.1 73 10))) Z
      have hc7 := w.1
      replace w := w.2
      exact st_ireturn rfl (am_nb hc7) dX11_readsLine_124 w
  · replace w := w.2 c
    refine st_aload_n dX11_readsLine_90 rfl ?_
    refine st_callV (M' := mX11_readsPaper) [] [] dX11_readsLine_91 ml_X11_276 mf_X11_readsPaper mv_X11_readsPaper sh_73 rfl rfl rfl w (fun r8 h9 w => ?_)
    show Ru mX11_readsLine none d 94 [.ref 73, .int x1, u2] [.int r8] h9 Z
    have hc10 := w.1
    replace w := w.2
    exact st_ireturn rfl (am_nb hc10) dX11_readsLine_94 w
set_option maxRecDepth 20000 in
set_option maxHeartbeats 2000000 in
theorem sX11_cabinet_0 {d : Nat} {h : am_H} {Z : Int32 → am_H → Prop} {x1 : Int32} (hd : 2 ≤ d) (w : (¬ ((1 : Int32) ≤ x1 ∧ x1 ≤ (160 : Int32)) → Z (-1) h) ∧ ((1 : Int32) ≤ x1 ∧ x1 ≤ (160 : Int32) → (x1 ≤ (h.1 73 9) → am_cl mX11_beginsText d [.ref 73, .int x1] h (fun r1 h2 => (∀ h3 : am_H, h3 = am_sI h2 73 37 0 → (∀ h4 : am_H, h4 = am_sI h3 73 38 0 → (∀ h5 : am_H, h5 = am_sI h4 73 39 0 → (am_cl mX11_readsLine d [.ref 73] h5 (fun r6 h7 => Ru mX11_cabinet none d 46 [.ref 73, .int x1, .int r6, .null] [] h7 Z))))))) ∧ (¬ (x1 ≤ (h.1 73 9)) → Z (-1) h))) : Ru mX11_cabinet none d 0 [.ref 73, .int x1, .null, .null] [] h Z := by
  refine st_iload_n dX11_cabinet_0 rfl ?_
  refine st_iconst (v := 1) dX11_cabinet_1 (by decide) ?_
  refine st_sipush (v := 160) dX11_cabinet_2 (by decide) ?_
  refine st_callS (M' := mX11_in) [.int x1, .int 1, .int 160] [] dX11_cabinet_5 ml_X11_125 mf_X11_in ms_X11_in rfl rfl rfl (K := fun r h' => (am_b ((1 : Int32) ≤ x1 ∧ x1 ≤ (160 : Int32))) = r ∧ h = h') ⟨1, by omega, iX11_in ⟨rfl, rfl⟩⟩ (fun r1 h1 w1 => ?_)
  obtain ⟨rfl, rfl⟩ := w1
  show Ru mX11_cabinet none d 8 [.ref 73, .int x1, .null, .null] [.int (am_b ((1 : Int32) ≤ x1 ∧ x1 ≤ (160 : Int32)))] h Z
  refine st_ifb_eq (tgt := 19) dX11_cabinet_8 (by decide) (fun c => ?_) (fun c => ?_)
  · replace w := w.1 c
    refine st_iconst (v := (-1)) dX11_cabinet_19 (by decide) ?_
    exact st_ireturn rfl rfl dX11_cabinet_20 w
  · replace w := w.2 c
    refine st_iload_n dX11_cabinet_11 rfl ?_
    refine st_aload_n dX11_cabinet_12 rfl ?_
    refine st_getI fl_X11_158 fk_11_9 dX11_cabinet_13 sh_73 ?_
    refine st_icmp_le (tgt := 21) dX11_cabinet_16 (by decide) (fun c => ?_) (fun c => ?_)
    · replace w := w.1 c
      refine st_aload_n dX11_cabinet_21 rfl ?_
      refine st_iload_n dX11_cabinet_22 rfl ?_
      refine st_callV (M' := mX11_beginsText) [.int x1] [] dX11_cabinet_23 ml_X11_247 mf_X11_beginsText mv_X11_beginsText sh_73 rfl rfl rfl w (fun r1 h2 w => ?_)
      show Ru mX11_cabinet none d 26 [.ref 73, .int x1, .null, .null] [] h2 Z
      refine st_aload_n dX11_cabinet_26 rfl ?_
      refine st_iconst (v := 0) dX11_cabinet_27 (by decide) ?_
      refine st_putI flp_X11_267 fk_11_37 dX11_cabinet_28 sh_73 (fun h3 eh3 => ?_)
      replace w := w h3 eh3
      refine st_aload_n dX11_cabinet_31 rfl ?_
      refine st_iconst (v := 0) dX11_cabinet_32 (by decide) ?_
      refine st_putI flp_X11_270 fk_11_38 dX11_cabinet_33 sh_73 (fun h4 eh4 => ?_)
      replace w := w h4 eh4
      refine st_aload_n dX11_cabinet_36 rfl ?_
      refine st_iconst (v := 0) dX11_cabinet_37 (by decide) ?_
      refine st_putI flp_X11_273 fk_11_39 dX11_cabinet_38 sh_73 (fun h5 eh5 => ?_)
      replace w := w h5 eh5
      refine st_aload_n dX11_cabinet_41 rfl ?_
      refine st_callV (M' := mX11_readsLine) [] [] dX11_cabinet_42 ml_X11_282 mf_X11_readsLine mv_X11_readsLine sh_73 rfl rfl rfl w (fun r6 h7 w => ?_)
      show Ru mX11_cabinet none d 45 [.ref 73, .int x1, .null, .null] [.int r6] h7 Z
      refine st_istore_n (L' := [.ref 73, .int x1, .int r6, .null]) dX11_cabinet_45 (by decide) rfl ?_
      exact w
    · replace w := w.2 c
      refine st_iconst (v := (-1)) dX11_cabinet_19 (by decide) ?_
      exact st_ireturn rfl rfl dX11_cabinet_20 w
set_option maxRecDepth 20000 in
set_option maxHeartbeats 2000000 in
theorem sX11_cabinet_46 {d : Nat} {h : am_H} {Z : Int32 → am_H → Prop} {u1 : Value} {x2 : Int32} {u3 : Value} (w : (x2 = 0 → Ru mX11_cabinet none d 86 [.ref 73, u1, .int x2, u3] [] h Z) ∧ (¬ (x2 = 0) → ((h.1 73 11) ≤ (h.1 73 10) → Ru mX11_cabinet none d 86 [.ref 73, u1, .int x2, u3] [] h Z) ∧ (¬ ((h.1 73 11) ≤ (h.1 73 10)) → am_cl mX11_takes d [.ref 73, .int 59] h (fun r1 h2 => (r1 = 0 → Ru mX11_cabinet none d 46 [.ref 73, u1, .int 0, u3] [] h2 Z) ∧ (¬ (r1 = 0) → am_cl mX11_readsLine d [.ref 73] h2 (fun r3 h4 => (r3 = 0 → Ru mX11_cabinet none d 46 [.ref 73, u1, .int 0, u3] [] h4 Z) ∧ (¬ (r3 = 0) → Ru mX11_cabinet none d 46 [.ref 73, u1, .int 1, u3] [] h4 Z))))))) : Ru mX11_cabinet none d 46 [.ref 73, u1, .int x2, u3] [] h Z := by
  refine st_iload_n dX11_cabinet_46 rfl ?_
  refine st_if_eq (tgt := 86) dX11_cabinet_47 (by decide) (fun c => ?_) (fun c => ?_)
  · replace w := w.1 c
    exact w
  · replace w := w.2 c
    refine st_aload_n dX11_cabinet_50 rfl ?_
    refine st_getI fl_X11_164 fk_11_10 dX11_cabinet_51 sh_73 ?_
    refine st_aload_n dX11_cabinet_54 rfl ?_
    refine st_getI fl_X11_167 fk_11_11 dX11_cabinet_55 sh_73 ?_
    refine st_icmp_ge (tgt := 86) dX11_cabinet_58 (by decide) (fun c => ?_) (fun c => ?_)
    · replace w := w.1 c
      exact w
    · replace w := w.2 c
      refine st_aload_n dX11_cabinet_61 rfl ?_
      refine st_bipush (v := 59) dX11_cabinet_62 (by decide) ?_
      refine st_callV (M' := mX11_takes) [.int 59] [] dX11_cabinet_64 ml_X11_253 mf_X11_takes mv_X11_takes sh_73 rfl rfl rfl w (fun r1 h2 w => ?_)
      show Ru mX11_cabinet none d 67 [.ref 73, u1, .int x2, u3] [.int r1] h2 Z
      refine st_if_eq (tgt := 81) dX11_cabinet_67 (by decide) (fun c => ?_) (fun c => ?_)
      · replace w := w.1 c
        refine st_iconst (v := 0) dX11_cabinet_81 (by decide) ?_
        refine st_istore_n (L' := [.ref 73, u1, .int 0, u3]) dX11_cabinet_82 (by decide) rfl ?_
        refine st_goto (tgt := 46) dX11_cabinet_83 (by decide) ?_
        exact w
      · replace w := w.2 c
        refine st_aload_n dX11_cabinet_70 rfl ?_
        refine st_callV (M' := mX11_readsLine) [] [] dX11_cabinet_71 ml_X11_282 mf_X11_readsLine mv_X11_readsLine sh_73 rfl rfl rfl w (fun r3 h4 w => ?_)
        show Ru mX11_cabinet none d 74 [.ref 73, u1, .int x2, u3] [.int r3] h4 Z
        refine st_if_eq (tgt := 81) dX11_cabinet_74 (by decide) (fun c => ?_) (fun c => ?_)
        · replace w := w.1 c
          refine st_iconst (v := 0) dX11_cabinet_81 (by decide) ?_
          refine st_istore_n (L' := [.ref 73, u1, .int 0, u3]) dX11_cabinet_82 (by decide) rfl ?_
          refine st_goto (tgt := 46) dX11_cabinet_83 (by decide) ?_
          exact w
        · replace w := w.2 c
          refine st_iconst (v := 1) dX11_cabinet_77 (by decide) ?_
          refine st_goto (tgt := 82) dX11_cabinet_78 (by decide) ?_
          refine st_istore_n (L' := [.ref 73, u1, .int 1, u3]) dX11_cabinet_82 (by decide) rfl ?_
          refine st_goto (tgt := 46) dX11_cabinet_83 (by decide) ?_
          exact w
set_option maxRecDepth 20000 in
set_option maxHeartbeats 2000000 in
theorem sX11_cabinet_86 {d : Nat} {h : am_H} {Z : Int32 → am_H → Prop} {u1 : Value} {x2 : Int32} {u3 : Value} (w : (∀ h1 : am_H, h1 = am_sI h 73 9 0 → ((¬ x2 = 0 → (∀ h2 : am_H, h2 = am_sI h1 73 6 (h1.1 73 37) → (∀ h3 : am_H, h3 = am_sI h2 73 7 (h2.1 73 38) → (Ru mX11_cabinet none d 118 [.ref 73, u1, .int x2, .int 0] [] h3 Z)))) ∧ (x2 = 0 → Z (h1.1 73 12) h1)))) : Ru mX11_cabinet none d 86 [.ref 73, u1, .int x2, u3] [] h Z := by
  refine st_aload_n dX11_cabinet_86 rfl ?_
  refine st_iconst (v := 0) dX11_cabinet_87 (by decide) ?_
  refine st_putI flp_X11_158 fk_11_9 dX11_cabinet_88 sh_73 (fun h1 eh1 => ?_)
  replace w := w h1 eh1
  refine st_iload_n dX11_cabinet_91 rfl ?_
  refine st_if_ne (tgt := 100) dX11_cabinet_92 (by decide) (fun c => ?_) (fun c => ?_)
  · replace w := w.1 c
    refine st_aload_n dX11_cabinet_100 rfl ?_
    refine st_aload_n dX11_cabinet_101 rfl ?_
    refine st_getI fl_X11_267 fk_11_37 dX11_cabinet_102 sh_73 ?_
    refine st_putI flp_X11_129 fk_11_6 dX11_cabinet_105 sh_73 (fun h2 eh2 => ?_)
    replace w := w h2 eh2
    refine st_aload_n dX11_cabinet_108 rfl ?_
    refine st_aload_n dX11_cabinet_109 rfl ?_
    refine st_getI fl_X11_270 fk_11_38 dX11_cabinet_110 sh_73 ?_
    refine st_putI flp_X11_137 fk_11_7 dX11_cabinet_113 sh_73 (fun h3 eh3 => ?_)
    replace w := w h3 eh3
    refine st_iconst (v := 0) dX11_cabinet_116 (by decide) ?_
    refine st_istore_n (L' := [.ref 73, u1, .int x2, .int 0]) dX11_cabinet_117 (by decide) rfl ?_
    exact w
  · replace w := w.2 c
    refine st_aload_n dX11_cabinet_95 rfl ?_
    refine st_getI fl_X11_174 fk_11_12 dX11_cabinet_96 sh_73 ?_
    exact st_ireturn rfl rfl dX11_cabinet_99 w
set_option maxRecDepth 20000 in
set_option maxHeartbeats 2000000 in
theorem sX11_cabinet_118 {d : Nat} {h : am_H} {Z : Int32 → am_H → Prop} {u1 : Value} {u2 : Value} {x3 : Int32} (w : (12 ≤ x3 → Ru mX11_cabinet none d 144 [.ref 73, u1, u2, .int 0] [] h Z) ∧ (¬ (12 ≤ x3) → (vp_in x3 12 ∧ (∀ h2 : am_H, h2 = am_sR h 77 (upd (h.2.2 77) x3.toNatClampNeg (h.2.2 94 x3.toNatClampNeg)) → (Ru mX11_cabinet none d 118 [.ref 73, u1, u2, .int (x3 + 1)] [] h2 Z))))) : Ru mX11_cabinet none d 118 [.ref 73, u1, u2, .int x3] [] h Z := by
  refine st_iload_n dX11_cabinet_118 rfl ?_
  refine st_bipush (v := 12) dX11_cabinet_119 (by decide) ?_
  refine st_icmp_ge (tgt := 142) dX11_cabinet_121 (by decide) (fun c => ?_) (fun c => ?_)
  · replace w := w.1 c
    refine st_iconst (v := 0) dX11_cabinet_142 (by decide) ?_
    refine st_istore_n (L' := [.ref 73, u1, u2, .int 0]) dX11_cabinet_143 (by decide) rfl ?_
    exact w
  · replace w := w.2 c
    refine st_aload_n dX11_cabinet_124 rfl ?_
    refine st_getF (q := 77) fl_X11_19 fk_11_3 rfl dX11_cabinet_125 sh_73 ?_
    refine st_iload_n dX11_cabinet_128 rfl ?_
    refine st_aload_n dX11_cabinet_129 rfl ?_
    refine st_getF (q := 94) fl_X11_71 fk_11_32 rfl dX11_cabinet_130 sh_73 ?_
    refine st_iload_n dX11_cabinet_133 rfl ?_
    have hc1 := w.1
    replace w := w.2
    refine st_iald dX11_cabinet_134 sh_94 hc1 ?_
    refine st_iast dX11_cabinet_135 sh_77 hc1 (fun h2 eh2 => ?_)
    replace w := w h2 eh2
    refine st_iinc (L' := [.ref 73, u1, u2, .int (x3 + 1)]) dX11_cabinet_136 rfl rfl (by decide) rfl ?_
    refine st_goto (tgt := 118) dX11_cabinet_139 (by decide) ?_
    exact w
set_option maxRecDepth 20000 in
set_option maxHeartbeats 2000000 in
theorem sX11_cabinet_144 {d : Nat} {h : am_H} {Z : Int32 → am_H → Prop} {u1 : Value} {u2 : Value} {x3 : Int32} (w : ((h.1 73 7) ≤ x3 → Z (h.1 73 39) h) ∧ (¬ ((h.1 73 7) ≤ x3) → (vp_in x3 24 ∧ (∀ h2 : am_H, h2 = am_sR h 78 (upd (h.2.2 78) x3.toNatClampNeg (h.2.2 96 x3.toNatClampNeg)) → (∀ h3 : am_H, h3 = am_sR h2 79 (upd (h2.2.2 79) x3.toNatClampNeg (h2.2.2 97 x3.toNatClampNeg)) → (am_cl mX11_takesOut d [.ref 73, .int x3] h3 (fun r4 h5 => (vp_in x3 74 ∧ (∀ h7 : am_H, h7 = am_sR h5 74 (upd (h5.2.2 74) x3.toNatClampNeg (h5.2.2 98 x3.toNatClampNeg)) → (Ru mX11_cabinet none d 144 [.ref 73, u1, u2, .int (x3 + 1)] [] h7 Z)))))))))) : Ru mX11_cabinet none d 144 [.ref 73, u1, u2, .int x3] [] h Z := by
  refine st_iload_n dX11_cabinet_144 rfl ?_
  refine st_aload_n dX11_cabinet_145 rfl ?_
  refine st_getI fl_X11_137 fk_11_7 dX11_cabinet_146 sh_73 ?_
  refine st_icmp_ge (tgt := 201) dX11_cabinet_149 (by decide) (fun c => ?_) (fun c => ?_)
  · replace w := w.1 c
    refine st_aload_n dX11_cabinet_201 rfl ?_
    refine st_getI fl_X11_273 fk_11_39 dX11_cabinet_202 sh_73 ?_
    exact st_ireturn rfl rfl dX11_cabinet_205 w
  · replace w := w.2 c
    refine st_aload_n dX11_cabinet_152 rfl ?_
    refine st_getF (q := 78) fl_X11_22 fk_11_4 rfl dX11_cabinet_153 sh_73 ?_
    refine st_iload_n dX11_cabinet_156 rfl ?_
    refine st_aload_n dX11_cabinet_157 rfl ?_
    refine st_getF (q := 96) fl_X11_77 fk_11_34 rfl dX11_cabinet_158 sh_73 ?_
    refine st_iload_n dX11_cabinet_161 rfl ?_
    have hc1 := w.1
    replace w := w.2
    refine st_iald dX11_cabinet_162 sh_96 hc1 ?_
    refine st_iast dX11_cabinet_163 sh_78 hc1 (fun h2 eh2 => ?_)
    replace w := w h2 eh2
    refine st_aload_n dX11_cabinet_164 rfl ?_
    refine st_getF (q := 79) fl_X11_25 fk_11_5 rfl dX11_cabinet_165 sh_73 ?_
    refine st_iload_n dX11_cabinet_168 rfl ?_
    refine st_aload_n dX11_cabinet_169 rfl ?_
    refine st_getF (q := 97) fl_X11_80 fk_11_35 rfl dX11_cabinet_170 sh_73 ?_
    refine st_iload_n dX11_cabinet_173 rfl ?_
    refine st_iald dX11_cabinet_174 sh_97 hc1 ?_
    refine st_iast dX11_cabinet_175 sh_79 hc1 (fun h3 eh3 => ?_)
    replace w := w h3 eh3
    refine st_aload_n dX11_cabinet_176 rfl ?_
    refine st_iload_n dX11_cabinet_177 rfl ?_
    refine st_callV (M' := mX11_takesOut) [.int x3] [] dX11_cabinet_178 ml_X11_148 mf_X11_takesOut mv_X11_takesOut sh_73 rfl rfl rfl w (fun r4 h5 w => ?_)
    show Ru mX11_cabinet none d 181 [.ref 73, u1, u2, .int x3] [] h5 Z
    refine st_aload_n dX11_cabinet_181 rfl ?_
    refine st_getF (q := 74) fl_X11_7 fk_11_0 rfl dX11_cabinet_182 sh_73 ?_
    refine st_iconst (v := 0) dX11_cabinet_185 (by decide) ?_
    refine st_iload_n dX11_cabinet_186 rfl ?_
    refine st_iadd0 dX11_cabinet_187 ?_
    refine st_aload_n dX11_cabinet_188 rfl ?_
    refine st_getF (q := 98) fl_X11_83 fk_11_36 rfl dX11_cabinet_189 sh_73 ?_
    refine st_iload_n dX11_cabinet_192 rfl ?_
    refine st_iald dX11_cabinet_193 sh_98 hc1 ?_
    have hc6 := w.1
    replace w := w.2
    refine st_iast dX11_cabinet_194 sh_74 hc6 (fun h7 eh7 => ?_)
    replace w := w h7 eh7
    refine st_iinc (L' := [.ref 73, u1, u2, .int (x3 + 1)]) dX11_cabinet_195 rfl rfl (by decide) rfl ?_
    refine st_goto (tgt := 144) dX11_cabinet_198 (by decide) ?_
    exact w
