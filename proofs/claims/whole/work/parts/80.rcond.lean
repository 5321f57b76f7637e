-- the law's text: the reference's condition, small steps
set_option maxRecDepth 20000 in
set_option maxHeartbeats 2000000 in
theorem sX11_endsPiece_0 {d : Nat} {h : am_H} {Z : Int32 → am_H → Prop}  (w : Ru mX11_endsPiece none d 0 [.ref 73] [] h Z) : Ru mX11_endsPiece none d 0 [.ref 73] [] h Z := by
  exact w
set_option maxRecDepth 20000 in
set_option maxHeartbeats 2000000 in
theorem sX11_endsPiece_0c {d : Nat} {h : am_H} {Z : Int32 → am_H → Prop}  (hd : 2 ≤ d) (w : (am_wok h ∧ ((¬ (am_wt h) = 10 → Z 0 h) ∧ ((am_wt h) = 10 → am_cl mX11_notes d [.ref 73, .int 10, .int 0] h (fun r2 h3 => (∀ h4 : am_H, h4 = am_sI h3 73 16 ((h3.1 73 16) - 1) → (∀ h5 : am_H, h5 = am_sI h4 73 14 ((h4.1 73 14) - 1) → (Ru mX11_endsPiece none d 0 [.ref 73] [] h5 Z)))))))) : Ru mX11_endsPiece none d 0 [.ref 73] [] h Z := by
  refine st_aload_n dX11_endsPiece_0 rfl ?_
  have hc1 := w.1
  replace w := w.2
  refine st_callV (M' := mX11_waitTop) [] [] dX11_endsPiece_1 ml_X11_197 mf_X11_waitTop mv_X11_waitTop sh_73 rfl rfl rfl (K := fun r h' => (am_wt h) = r ∧ h = h') ⟨1, by omega, iX11_waitTop hc1 ⟨rfl, rfl⟩⟩ (fun r1 h1 w1 => ?_)
  obtain ⟨rfl, rfl⟩ := w1
  show Ru mX11_endsPiece none d 4 [.ref 73] [.int (am_wt h)] h Z
  refine st_bipush (v := 10) dX11_endsPiece_4 (by decide) ?_
  refine st_icmp_ne (tgt := 39) dX11_endsPiece_6 (by decide) (fun c => ?_) (fun c => ?_)
  · replace w := w.1 c
    exact st_return rfl dX11_endsPiece_39 w
  · replace w := w.2 c
    refine st_aload_n dX11_endsPiece_9 rfl ?_
    refine st_bipush (v := 10) dX11_endsPiece_10 (by decide) ?_
    refine st_iconst (v := 0) dX11_endsPiece_12 (by decide) ?_
    refine st_callV (M' := mX11_notes) [.int 10, .int 0] [] dX11_endsPiece_13 ml_X11_200 mf_X11_notes mv_X11_notes sh_73 rfl rfl rfl w (fun r2 h3 w => ?_)
    show Ru mX11_endsPiece none d 16 [.ref 73] [] h3 Z
    refine st_aload_n dX11_endsPiece_16 rfl ?_
    refine st_aload_n dX11_endsPiece_17 rfl ?_
    refine st_getI fl_X11_194 fk_11_16 dX11_endsPiece_18 sh_73 ?_
    refine st_iconst (v := 1) dX11_endsPiece_21 (by decide) ?_
    refine st_isub dX11_endsPiece_22 ?_
    refine st_putI flp_X11_194 fk_11_16 dX11_endsPiece_23 sh_73 (fun h4 eh4 => ?_)
    replace w := w h4 eh4
    refine st_aload_n dX11_endsPiece_26 rfl ?_
    refine st_aload_n dX11_endsPiece_27 rfl ?_
    refine st_getI fl_X11_191 fk_11_14 dX11_endsPiece_28 sh_73 ?_
    refine st_iconst (v := 1) dX11_endsPiece_31 (by decide) ?_
    refine st_isub dX11_endsPiece_32 ?_
    refine st_putI flp_X11_191 fk_11_14 dX11_endsPiece_33 sh_73 (fun h5 eh5 => ?_)
    replace w := w h5 eh5
    refine st_goto (tgt := 0) dX11_endsPiece_36 (by decide) ?_
    exact w
set_option maxRecDepth 20000 in
set_option maxHeartbeats 2000000 in
theorem sX11_lands_0 {d : Nat} {h : am_H} {Z : Int32 → am_H → Prop} {x1 : Int32} (w : Ru mX11_lands none d 0 [.ref 73, .int x1, .null] [] h Z) : Ru mX11_lands none d 0 [.ref 73, .int x1, .null] [] h Z := by
  exact w
set_option maxRecDepth 20000 in
set_option maxHeartbeats 2000000 in
theorem sX11_lands_0c {d : Nat} {h : am_H} {Z : Int32 → am_H → Prop} {x1 : Int32} {u2 : Value} (hd : 2 ≤ d) (w : (am_wok h ∧ (((am_wt h) = 11 → Ru mX11_lands none d 22 [.ref 73, .int x1, u2] [] h Z) ∧ (¬ ((am_wt h) = 11) → (x1 = 0 → Z 0 h) ∧ (¬ (x1 = 0) → (¬ (am_wt h) = 12 → Z 0 h) ∧ ((am_wt h) = 12 → Ru mX11_lands none d 22 [.ref 73, .int x1, u2] [] h Z)))))) : Ru mX11_lands none d 0 [.ref 73, .int x1, u2] [] h Z := by
  refine st_aload_n dX11_lands_0 rfl ?_
  have hc1 := w.1
  replace w := w.2
  refine st_callV (M' := mX11_waitTop) [] [] dX11_lands_1 ml_X11_197 mf_X11_waitTop mv_X11_waitTop sh_73 rfl rfl rfl (K := fun r h' => (am_wt h) = r ∧ h = h') ⟨1, by omega, iX11_waitTop hc1 ⟨rfl, rfl⟩⟩ (fun r1 h1 w1 => ?_)
  obtain ⟨rfl, rfl⟩ := w1
  show Ru mX11_lands none d 4 [.ref 73, .int x1, u2] [.int (am_wt h)] h Z
  refine st_bipush (v := 11) dX11_lands_4 (by decide) ?_
  refine st_icmp_eq (tgt := 22) dX11_lands_6 (by decide) (fun c => ?_) (fun c => ?_)
  · replace w := w.1 c
    exact w
  · replace w := w.2 c
    refine st_iload_n dX11_lands_9 rfl ?_
    refine st_if_eq (tgt := 73) dX11_lands_10 (by decide) (fun c => ?_) (fun c => ?_)
    · replace w := w.1 c
      exact st_return rfl dX11_lands_73 w
    · replace w := w.2 c
      refine st_aload_n dX11_lands_13 rfl ?_
      refine st_callV (M' := mX11_waitTop) [] [] dX11_lands_14 ml_X11_197 mf_X11_waitTop mv_X11_waitTop sh_73 rfl rfl rfl (K := fun r h' => (am_wt h) = r ∧ h = h') ⟨1, by omega, iX11_waitTop hc1 ⟨rfl, rfl⟩⟩ (fun r1 h1 w1 => ?_)
      obtain ⟨rfl, rfl⟩ := w1
      show Ru mX11_lands none d 17 [.ref 73, .int x1, u2] [.int (am_wt h)] h Z
      refine st_bipush (v := 12) dX11_lands_17 (by decide) ?_
      refine st_icmp_ne (tgt := 73) dX11_lands_19 (by decide) (fun c => ?_) (fun c => ?_)
      · replace w := w.1 c
        exact st_return rfl dX11_lands_73 w
      · replace w := w.2 c
        exact w
set_option maxRecDepth 20000 in
set_option maxHeartbeats 2000000 in
theorem sX11_lands_22 {d : Nat} {h : am_H} {Z : Int32 → am_H → Prop} {x1 : Int32} {u2 : Value} (w : (vp_in ((h.1 73 16) - 1) 260 ∧ (vp_in (am_rem (h.2.2 82 ((h.1 73 16) - 1).toNatClampNeg) 1048576) 260 ∧ (∀ h3 : am_H, h3 = am_sR h 81 (upd (h.2.2 81) (am_rem (h.2.2 82 ((h.1 73 16) - 1).toNatClampNeg) 1048576).toNatClampNeg ((1048576 * ((h.2.2 81 (am_rem (h.2.2 82 ((h.1 73 16) - 1).toNatClampNeg) 1048576).toNatClampNeg) / 1048576)) + (h.1 73 15))) → (∀ h4 : am_H, h4 = am_sI h3 73 16 ((h3.1 73 16) - 1) → (Ru mX11_lands none d 0 [.ref 73, .int x1, .int (am_rem (h.2.2 82 ((h.1 73 16) - 1).toNatClampNeg) 1048576)] [] h4 Z)))))) : Ru mX11_lands none d 22 [.ref 73, .int x1, u2] [] h Z := by
  refine st_aload_n dX11_lands_22 rfl ?_
  refine st_getF (q := 82) fl_X11_35 fk_11_20 rfl dX11_lands_23 sh_73 ?_
  refine st_aload_n dX11_lands_26 rfl ?_
  refine st_getI fl_X11_194 fk_11_16 dX11_lands_27 sh_73 ?_
  refine st_iconst (v := 1) dX11_lands_30 (by decide) ?_
  refine st_isub dX11_lands_31 ?_
  have hc1 := w.1
  replace w := w.2
  refine st_iald dX11_lands_32 sh_82 hc1 ?_
  refine st_ldc dX11_lands_33 kc_X11_190 ?_
  refine st_irem dX11_lands_35 (by decide) ?_
  refine st_istore_n (L' := [.ref 73, .int x1, .int (am_rem (h.2.2 82 ((h.1 73 16) - 1).toNatClampNeg) 1048576)]) dX11_lands_36 (by decide) rfl ?_
  refine st_aload_n dX11_lands_37 rfl ?_
  refine st_getF (q := 81) fl_X11_32 fk_11_19 rfl dX11_lands_38 sh_73 ?_
  refine st_iload_n dX11_lands_41 rfl ?_
  refine st_ldc dX11_lands_42 kc_X11_190 ?_
  refine st_aload_n dX11_lands_44 rfl ?_
  refine st_getF (q := 81) fl_X11_32 fk_11_19 rfl dX11_lands_45 sh_73 ?_
  refine st_iload_n dX11_lands_48 rfl ?_
  have hc2 := w.1
  replace w := w.2
  refine st_iald dX11_lands_49 sh_81 hc2 ?_
  refine st_ldc dX11_lands_50 kc_X11_190 ?_
  refine st_idiv dX11_lands_52 (by decide) ?_
  refine st_imul dX11_lands_53 ?_
  refine st_aload_n dX11_lands_54 rfl ?_
  refine st_getI fl_X11_187 fk_11_15 dX11_lands_55 sh_73 ?_
  refine st_iadd dX11_lands_58 ?_
  refine st_iast dX11_lands_59 sh_81 hc2 (fun h3 eh3 => ?_)
  replace w := w h3 eh3
  refine st_aload_n dX11_lands_60 rfl ?_
  refine st_aload_n dX11_lands_61 rfl ?_
  refine st_getI fl_X11_194 fk_11_16 dX11_lands_62 sh_73 ?_
  refine st_iconst (v := 1) dX11_lands_65 (by decide) ?_
  refine st_isub dX11_lands_66 ?_
  refine st_putI flp_X11_194 fk_11_16 dX11_lands_67 sh_73 (fun h4 eh4 => ?_)
  replace w := w h4 eh4
  refine st_goto (tgt := 0) dX11_lands_70 (by decide) ?_
  exact w
set_option maxRecDepth 20000 in
set_option maxHeartbeats 2000000 in
theorem sX11_jumps_0 {d : Nat} {h : am_H} {Z : Int32 → am_H → Prop} {x1 : Int32} (w : (vp_in (h.1 73 16) 260 ∧ (∀ h2 : am_H, h2 = am_sR h 82 (upd (h.2.2 82) (h.1 73 16).toNatClampNeg ((1048576 * x1) + (h.1 73 15))) → (∀ h3 : am_H, h3 = am_sI h2 73 16 ((h2.1 73 16) + 1) → (am_cl mX11_notes d [.ref 73, .int x1, .int 0] h3 (fun r4 h5 => (∀ h6 : am_H, h6 = am_sI h5 73 10 ((h5.1 73 10) + 1) → (Z 0 h6)))))))) : Ru mX11_jumps none d 0 [.ref 73, .int x1] [] h Z := by
  refine st_aload_n dX11_jumps_0 rfl ?_
  refine st_getF (q := 82) fl_X11_35 fk_11_20 rfl dX11_jumps_1 sh_73 ?_
  refine st_aload_n dX11_jumps_4 rfl ?_
  refine st_getI fl_X11_194 fk_11_16 dX11_jumps_5 sh_73 ?_
  refine st_ldc dX11_jumps_8 kc_X11_190 ?_
  refine st_iload_n dX11_jumps_10 rfl ?_
  refine st_imul dX11_jumps_11 ?_
  refine st_aload_n dX11_jumps_12 rfl ?_
  refine st_getI fl_X11_187 fk_11_15 dX11_jumps_13 sh_73 ?_
  refine st_iadd dX11_jumps_16 ?_
  have hc1 := w.1
  replace w := w.2
  refine st_iast dX11_jumps_17 sh_82 hc1 (fun h2 eh2 => ?_)
  replace w := w h2 eh2
  refine st_aload_n dX11_jumps_18 rfl ?_
  refine st_aload_n dX11_jumps_19 rfl ?_
  refine st_getI fl_X11_194 fk_11_16 dX11_jumps_20 sh_73 ?_
  refine st_iconst (v := 1) dX11_jumps_23 (by decide) ?_
  refine st_iadd dX11_jumps_24 ?_
  refine st_putI flp_X11_194 fk_11_16 dX11_jumps_25 sh_73 (fun h3 eh3 => ?_)
  replace w := w h3 eh3
  refine st_aload_n dX11_jumps_28 rfl ?_
  refine st_iload_n dX11_jumps_29 rfl ?_
  refine st_iconst (v := 0) dX11_jumps_30 (by decide) ?_
  refine st_callV (M' := mX11_notes) [.int x1, .int 0] [] dX11_jumps_31 ml_X11_200 mf_X11_notes mv_X11_notes sh_73 rfl rfl rfl w (fun r4 h5 w => ?_)
  show Ru mX11_jumps none d 34 [.ref 73, .int x1] [] h5 Z
  refine st_aload_n dX11_jumps_34 rfl ?_
  refine st_aload_n dX11_jumps_35 rfl ?_
  refine st_getI fl_X11_164 fk_11_10 dX11_jumps_36 sh_73 ?_
  refine st_iconst (v := 1) dX11_jumps_39 (by decide) ?_
  refine st_iadd dX11_jumps_40 ?_
  refine st_putI flp_X11_164 fk_11_10 dX11_jumps_41 sh_73 (fun h6 eh6 => ?_)
  replace w := w h6 eh6
  exact st_return rfl dX11_jumps_44 w
set_option maxRecDepth 20000 in
set_option maxHeartbeats 2000000 in
theorem sX11_readsCompared_0 {d : Nat} {h : am_H} {Z : Int32 → am_H → Prop}  (hd : 2 ≤ d) (w : am_cl mX11_readsSum d [.ref 73] h (fun r1 h2 => (¬ r1 = 0 → (am_hok h2 ∧ ((¬ (am_hr h2) = 60 → (¬ (am_hr h2) = 62 → (¬ (am_hr h2) = 61 → Ru mX11_readsCompared none d 52 [.ref 73, .null] [.int (-1)] h2 Z) ∧ ((am_hr h2) = 61 → Ru mX11_readsCompared none d 52 [.ref 73, .null] [.int 9] h2 Z)) ∧ ((am_hr h2) = 62 → Ru mX11_readsCompared none d 52 [.ref 73, .null] [.int 8] h2 Z)) ∧ ((am_hr h2) = 60 → Ru mX11_readsCompared none d 52 [.ref 73, .null] [.int 7] h2 Z)))) ∧ (r1 = 0 → Z 0 h2))) : Ru mX11_readsCompared none d 0 [.ref 73, .null] [] h Z := by
  refine st_aload_n dX11_readsCompared_0 rfl ?_
  refine st_callV (M' := mX11_readsSum) [] [] dX11_readsCompared_1 ml_X11_226 mf_X11_readsSum mv_X11_readsSum sh_73 rfl rfl rfl w (fun r1 h2 w => ?_)
  show Ru mX11_readsCompared none d 4 [.ref 73, .null] [.int r1] h2 Z
  refine st_if_ne (tgt := 9) dX11_readsCompared_4 (by decide) (fun c => ?_) (fun c => ?_)
  · replace w := w.1 c
    refine st_aload_n dX11_readsCompared_9 rfl ?_
    have hc3 := w.1
    replace w := w.2
    refine st_callV (M' := mX11_here) [] [] dX11_readsCompared_10 ml_X11_170 mf_X11_here mv_X11_here sh_73 rfl rfl rfl (K := fun r h' => (am_hr h2) = r ∧ h2 = h') ⟨1, by omega, iX11_here hc3 ⟨rfl, rfl⟩⟩ (fun r1 h1 w1 => ?_)
    obtain ⟨rfl, rfl⟩ := w1
    show Ru mX11_readsCompared none d 13 [.ref 73, .null] [.int (am_hr h2)] h2 Z
    refine st_bipush (v := 60) dX11_readsCompared_13 (by decide) ?_
    refine st_icmp_ne (tgt := 23) dX11_readsCompared_15 (by decide) (fun c => ?_) (fun c => ?_)
    · replace w := w.1 c
      refine st_aload_n dX11_readsCompared_23 rfl ?_
      refine st_callV (M' := mX11_here) [] [] dX11_readsCompared_24 ml_X11_170 mf_X11_here mv_X11_here sh_73 rfl rfl rfl (K := fun r h' => (am_hr h2) = r ∧ h2 = h') ⟨1, by omega, iX11_here hc3 ⟨rfl, rfl⟩⟩ (fun r1 h1 w1 => ?_)
      obtain ⟨rfl, rfl⟩ := w1
      show Ru mX11_readsCompared none d 27 [.ref 73, .null] [.int (am_hr h2)] h2 Z
      refine st_bipush (v := 62) dX11_readsCompared_27 (by decide) ?_
      refine st_icmp_ne (tgt := 37) dX11_readsCompared_29 (by decide) (fun c => ?_) (fun c => ?_)
      · replace w := w.1 c
        refine st_aload_n dX11_readsCompared_37 rfl ?_
        refine st_callV (M' := mX11_here) [] [] dX11_readsCompared_38 ml_X11_170 mf_X11_here mv_X11_here sh_73 rfl rfl rfl (K := fun r h' => (am_hr h2) = r ∧ h2 = h') ⟨1, by omega, iX11_here hc3 ⟨rfl, rfl⟩⟩ (fun r1 h1 w1 => ?_)
        obtain ⟨rfl, rfl⟩ := w1
        show Ru mX11_readsCompared none d 41 [.ref 73, .null] [.int (am_hr h2)] h2 Z
        refine st_bipush (v := 61) dX11_readsCompared_41 (by decide) ?_
        refine st_icmp_ne (tgt := 51) dX11_readsCompared_43 (by decide) (fun c => ?_) (fun c => ?_)
        · replace w := w.1 c
          refine st_iconst (v := (-1)) dX11_readsCompared_51 (by decide) ?_
          exact w
        · replace w := w.2 c
          refine st_bipush (v := 9) dX11_readsCompared_46 (by decide) ?_
          refine st_goto (tgt := 52) dX11_readsCompared_48 (by decide) ?_
          exact w
      · replace w := w.2 c
        refine st_bipush (v := 8) dX11_readsCompared_32 (by decide) ?_
        refine st_goto (tgt := 52) dX11_readsCompared_34 (by decide) ?_
        exact w
    · replace w := w.2 c
      refine st_bipush (v := 7) dX11_readsCompared_18 (by decide) ?_
      refine st_goto (tgt := 52) dX11_readsCompared_20 (by decide) ?_
      exact w
  · replace w := w.2 c
    refine st_iconst (v := 0) dX11_readsCompared_7 (by decide) ?_
    exact st_ireturn rfl rfl dX11_readsCompared_8 w
set_option maxRecDepth 20000 in
set_option maxHeartbeats 2000000 in
theorem sX11_readsCompared_52 {d : Nat} {h : am_H} {Z : Int32 → am_H → Prop} {u1 : Value} {s0 : Int32} (hd : 2 ≤ d) (w : (¬ s0 = (-1) → (∀ h1 : am_H, h1 = am_sI h 73 10 ((h.1 73 10) + 1) → (am_cl mX11_readsSum d [.ref 73] h1 (fun r2 h3 => (¬ r2 = 0 → am_cl mX11_notes d [.ref 73, .int s0, .int 0] h3 (fun r4 h5 => am_cl mX11_endsPiece d [.ref 73] h5 (fun r6 h7 => Z 1 h7))) ∧ (r2 = 0 → Z 0 h3))))) ∧ (s0 = (-1) → (((0 : Int32) = 0 ∨ (0 : Int32) = 1) ∧ (Z (0 : Int32) (am_sI h 73 12 ((-1000) * (1 : Int32) - (h.1 73 10))))))) : Ru mX11_readsCompared none d 52 [.ref 73, u1] [.int s0] h Z := by
  refine st_istore_n (L' := [.ref 73, .int s0]) dX11_readsCompared_52 (by decide) rfl ?_
  refine st_iload_n dX11_readsCompared_53 rfl ?_
  refine st_iconst (v := (-1)) dX11_readsCompared_54 (by decide) ?_
  refine st_icmp_ne (tgt := 68) dX11_readsCompared_55 (by decide) (fun c => ?_) (fun c => ?_)
  · replace w := w.1 c
    refine st_aload_n dX11_readsCompared_68 rfl ?_
    refine st_aload_n dX11_readsCompared_69 rfl ?_
    refine st_getI fl_X11_164 fk_11_10 dX11_readsCompared_70 sh_73 ?_
    refine st_iconst (v := 1) dX11_readsCompared_73 (by decide) ?_
    refine st_iadd dX11_readsCompared_74 ?_
    refine st_putI flp_X11_164 fk_11_10 dX11_readsCompared_75 sh_73 (fun h1 eh1 => ?_)
    replace w := w h1 eh1
    refine st_aload_n dX11_readsCompared_78 rfl ?_
    refine st_callV (M' := mX11_readsSum) [] [] dX11_readsCompared_79 ml_X11_226 mf_X11_readsSum mv_X11_readsSum sh_73 rfl rfl rfl w (fun r2 h3 w => ?_)
    show Ru mX11_readsCompared none d 82 [.ref 73, .int s0] [.int r2] h3 Z
    refine st_if_ne (tgt := 87) dX11_readsCompared_82 (by decide) (fun c => ?_) (fun c => ?_)
    · replace w := w.1 c
      refine st_aload_n dX11_readsCompared_87 rfl ?_
      refine st_iload_n dX11_readsCompared_88 rfl ?_
      refine st_iconst (v := 0) dX11_readsCompared_89 (by decide) ?_
      refine st_callV (M' := mX11_notes) [.int s0, .int 0] [] dX11_readsCompared_90 ml_X11_200 mf_X11_notes mv_X11_notes sh_73 rfl rfl rfl w (fun r4 h5 w => ?_)
      show Ru mX11_readsCompared none d 93 [.ref 73, .int s0] [] h5 Z
      refine st_aload_n dX11_readsCompared_93 rfl ?_
      refine st_callV (M' := mX11_endsPiece) [] [] dX11_readsCompared_94 ml_X11_229 mf_X11_endsPiece mv_X11_endsPiece sh_73 rfl rfl rfl w (fun r6 h7 w => ?_)
      show Ru mX11_readsCompared none d 97 [.ref 73, .int s0] [] h7 Z
      refine st_iconst (v := 1) dX11_readsCompared_97 (by decide) ?_
      exact st_ireturn rfl rfl dX11_readsCompared_98 w
    · replace w := w.2 c
      refine st_iconst (v := 0) dX11_readsCompared_85 (by decide) ?_
      exact st_ireturn rfl rfl dX11_readsCompared_86 w
  · replace w := w.2 c
    refine st_aload_n dX11_readsCompared_58 rfl ?_
    refine st_iconst (v := 1) dX11_readsCompared_59 (by decide) ?_
    refine st_aload_n dX11_readsCompared_60 rfl ?_
    refine st_getI fl_X11_164 fk_11_10 dX11_readsCompared_61 sh_73 ?_
    refine st_callV (M' := mX11_wrongAt) [.int 1, .int (h.1 73 10)] [] dX11_readsCompared_64 ml_X11_177 mf_X11_wrongAt mv_X11_wrongAt sh_73 rfl rfl rfl (K := fun r h' => (0 : Int32) = r ∧ am_sI h 73 12 ((-1000) * (1 : Int32) - (h.1 73 10)) = h') ⟨1, by omega, iX11_wrongAt ⟨rfl, rfl⟩⟩ (fun r1 h1 w1 => ?_)
    obtain ⟨rfl, rfl⟩ := w1
    show Ru mX11_readsCompared none d 67 [.ref 73, .int s0] [.int (0 : Int32)] (am_sI h 73 12 ((-1000) * (1 : Int32) - (h.1 73 10))) Z
    have hc8 := w.1
    replace w := w.2
    exact st_ireturn rfl (am_nb hc8) dX11_readsCompared_67 w
set_option maxRecDepth 20000 in
set_option maxHeartbeats 2000000 in
theorem sX11_readsCondition_0 {d : Nat} {h : am_H} {Z : Int32 → am_H → Prop}  (hd : 2 ≤ d) (w : (am_hok h ∧ (((am_hr h) = 40 → (∀ h2 : am_H, h2 = am_sI h 73 14 0 → (∀ h3 : am_H, h3 = am_sI h2 73 16 0 → (am_cl mX11_opens d [.ref 73, .int 13] h3 (fun r4 h5 => (¬ r4 = 0 → Ru mX11_readsCondition none d 40 [.ref 73] [] h5 Z) ∧ (r4 = 0 → Z 0 h5)))))) ∧ (¬ ((am_hr h) = 40) → (((0 : Int32) = 0 ∨ (0 : Int32) = 1) ∧ (Z (0 : Int32) (am_sI h 73 12 ((-1000) * (1 : Int32) - (h.1 73 10))))))))) : Ru mX11_readsCondition none d 0 [.ref 73] [] h Z := by
  refine st_aload_n dX11_readsCondition_0 rfl ?_
  have hc1 := w.1
  replace w := w.2
  refine st_callV (M' := mX11_here) [] [] dX11_readsCondition_1 ml_X11_170 mf_X11_here mv_X11_here sh_73 rfl rfl rfl (K := fun r h' => (am_hr h) = r ∧ h = h') ⟨1, by omega, iX11_here hc1 ⟨rfl, rfl⟩⟩ (fun r1 h1 w1 => ?_)
  obtain ⟨rfl, rfl⟩ := w1
  show Ru mX11_readsCondition none d 4 [.ref 73] [.int (am_hr h)] h Z
  refine st_bipush (v := 40) dX11_readsCondition_4 (by decide) ?_
  refine st_icmp_eq (tgt := 19) dX11_readsCondition_6 (by decide) (fun c => ?_) (fun c => ?_)
  · replace w := w.1 c
    refine st_aload_n dX11_readsCondition_19 rfl ?_
    refine st_iconst (v := 0) dX11_readsCondition_20 (by decide) ?_
    refine st_putI flp_X11_191 fk_11_14 dX11_readsCondition_21 sh_73 (fun h2 eh2 => ?_)
    replace w := w h2 eh2
    refine st_aload_n dX11_readsCondition_24 rfl ?_
    refine st_iconst (v := 0) dX11_readsCondition_25 (by decide) ?_
    refine st_putI flp_X11_194 fk_11_16 dX11_readsCondition_26 sh_73 (fun h3 eh3 => ?_)
    replace w := w h3 eh3
    refine st_aload_n dX11_readsCondition_29 rfl ?_
    refine st_bipush (v := 13) dX11_readsCondition_30 (by decide) ?_
    refine st_callV (M' := mX11_opens) [.int 13] [] dX11_readsCondition_32 ml_X11_204 mf_X11_opens mv_X11_opens sh_73 rfl rfl rfl w (fun r4 h5 w => ?_)
    show Ru mX11_readsCondition none d 35 [.ref 73] [.int r4] h5 Z
    refine st_if_ne (tgt := 40) dX11_readsCondition_35 (by decide) (fun c => ?_) (fun c => ?_)
    · replace w := w.1 c
      exact w
    · replace w := w.2 c
      refine st_iconst (v := 0) dX11_readsCondition_38 (by decide) ?_
      exact st_ireturn rfl rfl dX11_readsCondition_39 w
  · replace w := w.2 c
    refine st_aload_n dX11_readsCondition_9 rfl ?_
    refine st_iconst (v := 1) dX11_readsCondition_10 (by decide) ?_
    refine st_aload_n dX11_readsCondition_11 rfl ?_
    refine st_getI fl_X11_164 fk_11_10 dX11_readsCondition_12 sh_73 ?_
    refine st_callV (M' := mX11_wrongAt) [.int 1, .int (h.1 73 10)] [] dX11_readsCondition_15 ml_X11_177 mf_X11_wrongAt mv_X11_wrongAt sh_73 rfl rfl rfl (K := fun r h' => (0 : Int32) = r ∧ am_sI h 73 12 ((-1000) * (1 : Int32) - (h.1 73 10)) = h') ⟨1, by omega, iX11_wrongAt ⟨rfl, rfl⟩⟩ (fun r1 h1 w1 => ?_)
    obtain ⟨rfl, rfl⟩ := w1
    show Ru mX11_readsCondition none d 18 [.ref 73] [.int (0 : Int32)] (am_sI h 73 12 ((-1000) * (1 : Int32) - (h.1 73 10))) Z
    have hc6 := w.1
    replace w := w.2
    exact st_ireturn rfl (am_nb hc6) dX11_readsCondition_18 w
set_option maxRecDepth 20000 in
set_option maxHeartbeats 2000000 in
theorem sX11_readsCondition_40 {d : Nat} {h : am_H} {Z : Int32 → am_H → Prop}  (hd : 2 ≤ d) (w : (am_hok h ∧ (((am_hr h) = 33 → Ru mX11_readsCondition none d 58 [.ref 73] [] h Z) ∧ (¬ ((am_hr h) = 33) → (¬ (am_hr h) = 40 → am_cl mX11_readsCompared d [.ref 73] h (fun r2 h3 => (¬ r2 = 0 → Ru mX11_readsCondition none d 92 [.ref 73] [] h3 Z) ∧ (r2 = 0 → Z 0 h3))) ∧ ((am_hr h) = 40 → Ru mX11_readsCondition none d 58 [.ref 73] [] h Z))))) : Ru mX11_readsCondition none d 40 [.ref 73] [] h Z := by
  refine st_aload_n dX11_readsCondition_40 rfl ?_
  have hc1 := w.1
  replace w := w.2
  refine st_callV (M' := mX11_here) [] [] dX11_readsCondition_41 ml_X11_170 mf_X11_here mv_X11_here sh_73 rfl rfl rfl (K := fun r h' => (am_hr h) = r ∧ h = h') ⟨1, by omega, iX11_here hc1 ⟨rfl, rfl⟩⟩ (fun r1 h1 w1 => ?_)
  obtain ⟨rfl, rfl⟩ := w1
  show Ru mX11_readsCondition none d 44 [.ref 73] [.int (am_hr h)] h Z
  refine st_bipush (v := 33) dX11_readsCondition_44 (by decide) ?_
  refine st_icmp_eq (tgt := 58) dX11_readsCondition_46 (by decide) (fun c => ?_) (fun c => ?_)
  · replace w := w.1 c
    exact w
  · replace w := w.2 c
    refine st_aload_n dX11_readsCondition_49 rfl ?_
    refine st_callV (M' := mX11_here) [] [] dX11_readsCondition_50 ml_X11_170 mf_X11_here mv_X11_here sh_73 rfl rfl rfl (K := fun r h' => (am_hr h) = r ∧ h = h') ⟨1, by omega, iX11_here hc1 ⟨rfl, rfl⟩⟩ (fun r1 h1 w1 => ?_)
    obtain ⟨rfl, rfl⟩ := w1
    show Ru mX11_readsCondition none d 53 [.ref 73] [.int (am_hr h)] h Z
    refine st_bipush (v := 40) dX11_readsCondition_53 (by decide) ?_
    refine st_icmp_ne (tgt := 83) dX11_readsCondition_55 (by decide) (fun c => ?_) (fun c => ?_)
    · replace w := w.1 c
      refine st_aload_n dX11_readsCondition_83 rfl ?_
      refine st_callV (M' := mX11_readsCompared) [] [] dX11_readsCondition_84 ml_X11_232 mf_X11_readsCompared mv_X11_readsCompared sh_73 rfl rfl rfl w (fun r2 h3 w => ?_)
      show Ru mX11_readsCondition none d 87 [.ref 73] [.int r2] h3 Z
      refine st_if_ne (tgt := 92) dX11_readsCondition_87 (by decide) (fun c => ?_) (fun c => ?_)
      · replace w := w.1 c
        exact w
      · replace w := w.2 c
        refine st_iconst (v := 0) dX11_readsCondition_90 (by decide) ?_
        exact st_ireturn rfl rfl dX11_readsCondition_91 w
    · replace w := w.2 c
      exact w
set_option maxRecDepth 20000 in
set_option maxHeartbeats 2000000 in
theorem sX11_readsCondition_58 {d : Nat} {h : am_H} {Z : Int32 → am_H → Prop}  (hd : 2 ≤ d) (w : (am_hok h ∧ ((¬ (am_hr h) = 33 → am_cl mX11_opens d [.ref 73, .int 13] h (fun r2 h3 => (¬ r2 = 0 → Ru mX11_readsCondition none d 40 [.ref 73] [] h3 Z) ∧ (r2 = 0 → Z 0 h3))) ∧ ((am_hr h) = 33 → am_cl mX11_opens d [.ref 73, .int 10] h (fun r4 h5 => (¬ r4 = 0 → Ru mX11_readsCondition none d 40 [.ref 73] [] h5 Z) ∧ (r4 = 0 → Z 0 h5)))))) : Ru mX11_readsCondition none d 58 [.ref 73] [] h Z := by
  refine st_aload_n dX11_readsCondition_58 rfl ?_
  refine st_aload_n dX11_readsCondition_59 rfl ?_
  have hc1 := w.1
  replace w := w.2
  refine st_callV (M' := mX11_here) [] [.ref 73] dX11_readsCondition_60 ml_X11_170 mf_X11_here mv_X11_here sh_73 rfl rfl rfl (K := fun r h' => (am_hr h) = r ∧ h = h') ⟨1, by omega, iX11_here hc1 ⟨rfl, rfl⟩⟩ (fun r1 h1 w1 => ?_)
  obtain ⟨rfl, rfl⟩ := w1
  show Ru mX11_readsCondition none d 63 [.ref 73] [.int (am_hr h), .ref 73] h Z
  refine st_bipush (v := 33) dX11_readsCondition_63 (by decide) ?_
  refine st_icmp_ne (tgt := 73) dX11_readsCondition_65 (by decide) (fun c => ?_) (fun c => ?_)
  · replace w := w.1 c
    refine st_bipush (v := 13) dX11_readsCondition_73 (by decide) ?_
    refine st_callV (M' := mX11_opens) [.int 13] [] dX11_readsCondition_75 ml_X11_204 mf_X11_opens mv_X11_opens sh_73 rfl rfl rfl w (fun r2 h3 w => ?_)
    show Ru mX11_readsCondition none d 78 [.ref 73] [.int r2] h3 Z
    refine st_if_ne (tgt := 40) dX11_readsCondition_78 (by decide) (fun c => ?_) (fun c => ?_)
    · replace w := w.1 c
      exact w
    · replace w := w.2 c
      refine st_iconst (v := 0) dX11_readsCondition_81 (by decide) ?_
      exact st_ireturn rfl rfl dX11_readsCondition_82 w
  · replace w := w.2 c
    refine st_bipush (v := 10) dX11_readsCondition_68 (by decide) ?_
    refine st_goto (tgt := 75) dX11_readsCondition_70 (by decide) ?_
    refine st_callV (M' := mX11_opens) [.int 10] [] dX11_readsCondition_75 ml_X11_204 mf_X11_opens mv_X11_opens sh_73 rfl rfl rfl w (fun r4 h5 w => ?_)
    show Ru mX11_readsCondition none d 78 [.ref 73] [.int r4] h5 Z
    refine st_if_ne (tgt := 40) dX11_readsCondition_78 (by decide) (fun c => ?_) (fun c => ?_)
    · replace w := w.1 c
      exact w
    · replace w := w.2 c
      refine st_iconst (v := 0) dX11_readsCondition_81 (by decide) ?_
      exact st_ireturn rfl rfl dX11_readsCondition_82 w
set_option maxRecDepth 20000 in
set_option maxHeartbeats 2000000 in
theorem sX11_readsCondition_92 {d : Nat} {h : am_H} {Z : Int32 → am_H → Prop}  (hd : 2 ≤ d) (w : (am_hok h ∧ ((¬ (am_hr h) = 41 → ((am_hr h) = 38 → Ru mX11_readsCondition none d 180 [.ref 73] [] h Z) ∧ (¬ ((am_hr h) = 38) → ((am_hr h) = 124 → Ru mX11_readsCondition none d 180 [.ref 73] [] h Z) ∧ (¬ ((am_hr h) = 124) → (((0 : Int32) = 0 ∨ (0 : Int32) = 1) ∧ (Z (0 : Int32) (am_sI h 73 12 ((-1000) * (1 : Int32) - (h.1 73 10)))))))) ∧ ((am_hr h) = 41 → am_cl mX11_lands d [.ref 73, .int 1] h (fun r3 h4 => (∀ h5 : am_H, h5 = am_sI h4 73 16 ((h4.1 73 16) - 1) → (∀ h6 : am_H, h6 = am_sI h5 73 14 ((h5.1 73 14) - 1) → (∀ h7 : am_H, h7 = am_sI h6 73 10 ((h6.1 73 10) + 1) → ((¬ (h7.1 73 16) = 0 → am_cl mX11_endsPiece d [.ref 73] h7 (fun r8 h9 => Ru mX11_readsCondition none d 92 [.ref 73] [] h9 Z)) ∧ ((h7.1 73 16) = 0 → Z 1 h7)))))))))) : Ru mX11_readsCondition none d 92 [.ref 73] [] h Z := by
  refine st_aload_n dX11_readsCondition_92 rfl ?_
  have hc1 := w.1
  replace w := w.2
  refine st_callV (M' := mX11_here) [] [] dX11_readsCondition_93 ml_X11_170 mf_X11_here mv_X11_here sh_73 rfl rfl rfl (K := fun r h' => (am_hr h) = r ∧ h = h') ⟨1, by omega, iX11_here hc1 ⟨rfl, rfl⟩⟩ (fun r1 h1 w1 => ?_)
  obtain ⟨rfl, rfl⟩ := w1
  show Ru mX11_readsCondition none d 96 [.ref 73] [.int (am_hr h)] h Z
  refine st_bipush (v := 41) dX11_readsCondition_96 (by decide) ?_
  refine st_icmp_ne (tgt := 152) dX11_readsCondition_98 (by decide) (fun c => ?_) (fun c => ?_)
  · replace w := w.1 c
    refine st_aload_n dX11_readsCondition_152 rfl ?_
    refine st_callV (M' := mX11_here) [] [] dX11_readsCondition_153 ml_X11_170 mf_X11_here mv_X11_here sh_73 rfl rfl rfl (K := fun r h' => (am_hr h) = r ∧ h = h') ⟨1, by omega, iX11_here hc1 ⟨rfl, rfl⟩⟩ (fun r1 h1 w1 => ?_)
    obtain ⟨rfl, rfl⟩ := w1
    show Ru mX11_readsCondition none d 156 [.ref 73] [.int (am_hr h)] h Z
    refine st_bipush (v := 38) dX11_readsCondition_156 (by decide) ?_
    refine st_icmp_eq (tgt := 180) dX11_readsCondition_158 (by decide) (fun c => ?_) (fun c => ?_)
    · replace w := w.1 c
      exact w
    · replace w := w.2 c
      refine st_aload_n dX11_readsCondition_161 rfl ?_
      refine st_callV (M' := mX11_here) [] [] dX11_readsCondition_162 ml_X11_170 mf_X11_here mv_X11_here sh_73 rfl rfl rfl (K := fun r h' => (am_hr h) = r ∧ h = h') ⟨1, by omega, iX11_here hc1 ⟨rfl, rfl⟩⟩ (fun r1 h1 w1 => ?_)
      obtain ⟨rfl, rfl⟩ := w1
      show Ru mX11_readsCondition none d 165 [.ref 73] [.int (am_hr h)] h Z
      refine st_bipush (v := 124) dX11_readsCondition_165 (by decide) ?_
      refine st_icmp_eq (tgt := 180) dX11_readsCondition_167 (by decide) (fun c => ?_) (fun c => ?_)
      · replace w := w.1 c
        exact w
      · replace w := w.2 c
        refine st_aload_n dX11_readsCondition_170 rfl ?_
        refine st_iconst (v := 1) dX11_readsCondition_171 (by decide) ?_
        refine st_aload_n dX11_readsCondition_172 rfl ?_
        refine st_getI fl_X11_164 fk_11_10 dX11_readsCondition_173 sh_73 ?_
        refine st_callV (M' := mX11_wrongAt) [.int 1, .int (h.1 73 10)] [] dX11_readsCondition_176 ml_X11_177 mf_X11_wrongAt mv_X11_wrongAt sh_73 rfl rfl rfl (K := fun r h' => (0 : Int32) = r ∧ am_sI h 73 12 ((-1000) * (1 : Int32) - (h.1 73 10)) = h') ⟨1, by omega, iX11_wrongAt ⟨rfl, rfl⟩⟩ (fun r1 h1 w1 => ?_)
        obtain ⟨rfl, rfl⟩ := w1
        show Ru mX11_readsCondition none d 179 [.ref 73] [.int (0 : Int32)] (am_sI h 73 12 ((-1000) * (1 : Int32) - (h.1 73 10))) Z
        have hc2 := w.1
        replace w := w.2
        exact st_ireturn rfl (am_nb hc2) dX11_readsCondition_179 w
  · replace w := w.2 c
    refine st_aload_n dX11_readsCondition_101 rfl ?_
    refine st_iconst (v := 1) dX11_readsCondition_102 (by decide) ?_
    refine st_callV (M' := mX11_lands) [.int 1] [] dX11_readsCondition_103 ml_X11_235 mf_X11_lands mv_X11_lands sh_73 rfl rfl rfl w (fun r3 h4 w => ?_)
    show Ru mX11_readsCondition none d 106 [.ref 73] [] h4 Z
    refine st_aload_n dX11_readsCondition_106 rfl ?_
    refine st_aload_n dX11_readsCondition_107 rfl ?_
    refine st_getI fl_X11_194 fk_11_16 dX11_readsCondition_108 sh_73 ?_
    refine st_iconst (v := 1) dX11_readsCondition_111 (by decide) ?_
    refine st_isub dX11_readsCondition_112 ?_
    refine st_putI flp_X11_194 fk_11_16 dX11_readsCondition_113 sh_73 (fun h5 eh5 => ?_)
    replace w := w h5 eh5
    refine st_aload_n dX11_readsCondition_116 rfl ?_
    refine st_aload_n dX11_readsCondition_117 rfl ?_
    refine st_getI fl_X11_191 fk_11_14 dX11_readsCondition_118 sh_73 ?_
    refine st_iconst (v := 1) dX11_readsCondition_121 (by decide) ?_
    refine st_isub dX11_readsCondition_122 ?_
    refine st_putI flp_X11_191 fk_11_14 dX11_readsCondition_123 sh_73 (fun h6 eh6 => ?_)
    replace w := w h6 eh6
    refine st_aload_n dX11_readsCondition_126 rfl ?_
    refine st_aload_n dX11_readsCondition_127 rfl ?_
    refine st_getI fl_X11_164 fk_11_10 dX11_readsCondition_128 sh_73 ?_
    refine st_iconst (v := 1) dX11_readsCondition_131 (by decide) ?_
    refine st_iadd dX11_readsCondition_132 ?_
    refine st_putI flp_X11_164 fk_11_10 dX11_readsCondition_133 sh_73 (fun h7 eh7 => ?_)
    replace w := w h7 eh7
    refine st_aload_n dX11_readsCondition_136 rfl ?_
    refine st_getI fl_X11_194 fk_11_16 dX11_readsCondition_137 sh_73 ?_
    refine st_if_ne (tgt := 145) dX11_readsCondition_140 (by decide) (fun c => ?_) (fun c => ?_)
    · replace w := w.1 c
      refine st_aload_n dX11_readsCondition_145 rfl ?_
      refine st_callV (M' := mX11_endsPiece) [] [] dX11_readsCondition_146 ml_X11_229 mf_X11_endsPiece mv_X11_endsPiece sh_73 rfl rfl rfl w (fun r8 h9 w => ?_)
      show Ru mX11_readsCondition none d 149 [.ref 73] [] h9 Z
      refine st_goto (tgt := 92) dX11_readsCondition_149 (by decide) ?_
      exact w
    · replace w := w.2 c
      refine st_iconst (v := 1) dX11_readsCondition_143 (by decide) ?_
      exact st_ireturn rfl rfl dX11_readsCondition_144 w
set_option maxRecDepth 20000 in
set_option maxHeartbeats 2000000 in
theorem sX11_readsCondition_180 {d : Nat} {h : am_H} {Z : Int32 → am_H → Prop}  (hd : 2 ≤ d) (w : (am_hok h ∧ ((¬ (am_hr h) = 124 → Ru mX11_readsCondition none d 195 [.ref 73] [.int 0, .ref 73] h Z) ∧ ((am_hr h) = 124 → Ru mX11_readsCondition none d 195 [.ref 73] [.int 1, .ref 73] h Z)))) : Ru mX11_readsCondition none d 180 [.ref 73] [] h Z := by
  refine st_aload_n dX11_readsCondition_180 rfl ?_
  refine st_aload_n dX11_readsCondition_181 rfl ?_
  have hc1 := w.1
  replace w := w.2
  refine st_callV (M' := mX11_here) [] [.ref 73] dX11_readsCondition_182 ml_X11_170 mf_X11_here mv_X11_here sh_73 rfl rfl rfl (K := fun r h' => (am_hr h) = r ∧ h = h') ⟨1, by omega, iX11_here hc1 ⟨rfl, rfl⟩⟩ (fun r1 h1 w1 => ?_)
  obtain ⟨rfl, rfl⟩ := w1
  show Ru mX11_readsCondition none d 185 [.ref 73] [.int (am_hr h), .ref 73] h Z
  refine st_bipush (v := 124) dX11_readsCondition_185 (by decide) ?_
  refine st_icmp_ne (tgt := 194) dX11_readsCondition_187 (by decide) (fun c => ?_) (fun c => ?_)
  · replace w := w.1 c
    refine st_iconst (v := 0) dX11_readsCondition_194 (by decide) ?_
    exact w
  · replace w := w.2 c
    refine st_iconst (v := 1) dX11_readsCondition_190 (by decide) ?_
    refine st_goto (tgt := 195) dX11_readsCondition_191 (by decide) ?_
    exact w
set_option maxRecDepth 20000 in
set_option maxHeartbeats 2000000 in
theorem sX11_readsCondition_195 {d : Nat} {h : am_H} {Z : Int32 → am_H → Prop} {s0 : Int32} (hd : 2 ≤ d) (w : am_cl mX11_lands d [.ref 73, .int s0] h (fun r1 h2 => (am_hok h2 ∧ ((¬ (am_hr h2) = 38 → am_cl mX11_jumps d [.ref 73, .int 12] h2 (fun r4 h5 => Ru mX11_readsCondition none d 40 [.ref 73] [] h5 Z)) ∧ ((am_hr h2) = 38 → am_cl mX11_jumps d [.ref 73, .int 11] h2 (fun r6 h7 => Ru mX11_readsCondition none d 40 [.ref 73] [] h7 Z)))))) : Ru mX11_readsCondition none d 195 [.ref 73] [.int s0, .ref 73] h Z := by
  refine st_callV (M' := mX11_lands) [.int s0] [] dX11_readsCondition_195 ml_X11_235 mf_X11_lands mv_X11_lands sh_73 rfl rfl rfl w (fun r1 h2 w => ?_)
  show Ru mX11_readsCondition none d 198 [.ref 73] [] h2 Z
  refine st_aload_n dX11_readsCondition_198 rfl ?_
  refine st_aload_n dX11_readsCondition_199 rfl ?_
  have hc3 := w.1
  replace w := w.2
  refine st_callV (M' := mX11_here) [] [.ref 73] dX11_readsCondition_200 ml_X11_170 mf_X11_here mv_X11_here sh_73 rfl rfl rfl (K := fun r h' => (am_hr h2) = r ∧ h2 = h') ⟨1, by omega, iX11_here hc3 ⟨rfl, rfl⟩⟩ (fun r1 h1 w1 => ?_)
  obtain ⟨rfl, rfl⟩ := w1
  show Ru mX11_readsCondition none d 203 [.ref 73] [.int (am_hr h2), .ref 73] h2 Z
  refine st_bipush (v := 38) dX11_readsCondition_203 (by decide) ?_
  refine st_icmp_ne (tgt := 213) dX11_readsCondition_205 (by decide) (fun c => ?_) (fun c => ?_)
  · replace w := w.1 c
    refine st_bipush (v := 12) dX11_readsCondition_213 (by decide) ?_
    refine st_callV (M' := mX11_jumps) [.int 12] [] dX11_readsCondition_215 ml_X11_238 mf_X11_jumps mv_X11_jumps sh_73 rfl rfl rfl w (fun r4 h5 w => ?_)
    show Ru mX11_readsCondition none d 218 [.ref 73] [] h5 Z
    refine st_goto (tgt := 40) dX11_readsCondition_218 (by decide) ?_
    exact w
  · replace w := w.2 c
    refine st_bipush (v := 11) dX11_readsCondition_208 (by decide) ?_
    refine st_goto (tgt := 215) dX11_readsCondition_210 (by decide) ?_
    refine st_callV (M' := mX11_jumps) [.int 11] [] dX11_readsCondition_215 ml_X11_238 mf_X11_jumps mv_X11_jumps sh_73 rfl rfl rfl w (fun r6 h7 w => ?_)
    show Ru mX11_readsCondition none d 218 [.ref 73] [] h7 Z
    refine st_goto (tgt := 40) dX11_readsCondition_218 (by decide) ?_
    exact w
def lr_nt (q : Nat) : List (Nat × Nat) := List.replicate q (10, 0)
section
variable {d n k m w o c q : Nat} {h h0 : am_H} {Z : Int32 → am_H → Prop} {t : Nat → Nat} {S A : Nat → Int32}
theorem x_ep (hd : 3 ≤ d) (hn : n ≤ 240) (ht : ¬ lr_tp A w = 10) (hw : w + q ≤ 260) {m0 : Nat} {S0 : Nat → Int32} (z : ∀ h' S', lr_H t n h0 h' k (m0 + q) w o S' A → (∀ j, j < m0 → S' j = S0 j) → lr_en S' (lr_nt q) m0 → Z 0 h') : ∀ (r p : Nat) (S : Nat → Int32) (h : am_H), p + r = q → q ≤ 6 → m0 + q < 260 → lr_H t n h0 h k (m0 + p) (w + r) (o + r) S A → (∀ i, i < r → A (w + i) = nI (10 * 2 ^ 20)) → (∀ j, j < m0 → S j = S0 j) → lr_en S (lr_nt p) m0 → Ru mX11_endsPiece none d 0 [.ref 73] [] h Z
  | 0, p, S, h, hp, hq, hm, H, _, hS, hE => by
    have e : p = q := by omega
    subst e
    refine sX11_endsPiece_0c (by omega) ⟨lr_wok H (by omega), ?_⟩
    rw [lr_wt H (by omega)]
    exact ⟨fun _ => z h S H hS hE, fun c => absurd c ht⟩
  | r + 1, p, S, h, hp, hq, hm, H, hA, hS, hE => by
    have et : lr_tp A (w + (r + 1)) = nI 10 := lr_tpv (v := 0) (by omega) (by omega) (by omega) (by rw [show w + (r + 1) - 1 = w + r by omega, Nat.add_zero]; exact hA r (by omega))
    refine sX11_endsPiece_0c (by omega) ⟨lr_wok H (by omega), ?_⟩
    rw [lr_wt H (by omega), et]
    refine ⟨fun c => absurd rfl c, fun _ => ⟨1, by omega, iX11_notes0 (x := 10) (by omega) H (fun h4 H4 h5 e5 h6 e6 => ?_)⟩⟩
    rw [H4.2.2.2.1, show nI (w + (r + 1)) - 1 = nI (w + r) from am_sub_n (a := w + (r + 1)) (c := 1) (by omega)] at e5
    have H5 := lr_16 (w' := w + r) H4 rfl
    rw [← e5] at H5
    rw [H5.2.1, show nI (o + (r + 1)) - 1 = nI (o + r) from am_sub_n (a := o + (r + 1)) (c := 1) (by omega)] at e6
    have H6 := lr_14 (o' := o + r) H5 rfl
    rw [← e6] at H6
    refine x_ep hd hn ht hw z r (p + 1) _ h6 (by omega) hq hm H6 (fun i hi => hA i (by omega)) (fun j hj => ?_) ?_
    · unfold upd; rw [if_neg (by omega)]; exact hS j hj
    · have er : lr_nt (p + 1) = lr_nt p ++ [(10, 0)] := by unfold lr_nt; rw [List.replicate_succ']
      rw [er]
      have el : (lr_nt p).length = p := by unfold lr_nt; rw [List.length_replicate]
      refine lr_en_app (lr_en_cg (fun j h1 h2 => ?_) hE) ?_
      · unfold upd; rw [if_neg (by omega)]
      · rw [el]
        refine ⟨?_, trivial⟩
        unfold upd
        rw [if_pos rfl, if_neg (show ¬ (10 = 11 ∨ 10 = 12) by omega)]
        rfl
theorem iX11_endsPiece (hd : 3 ≤ d) (hn : n ≤ 240) (hq : q ≤ 6) (hw : w + q ≤ 260) (hm : m + q < 260) (H : lr_H t n h0 h k m (w + q) (o + q) S A) (hA : ∀ i, i < q → A (w + i) = nI (10 * 2 ^ 20)) (ht : ¬ lr_tp A w = 10) (z : ∀ h' S', lr_H t n h0 h' k (m + q) w o S' A → (∀ j, j < m → S' j = S j) → lr_en S' (lr_nt q) m → Z 0 h') : Sp mX11_endsPiece d [.ref 73] h Z := Sp_of mf_X11_endsPiece rfl (Nat.le_of_ble_eq_true rfl) rfl (x_ep hd hn ht hw z q 0 S h (by omega) hq hm H hA (fun _ _ => rfl) trivial)
theorem iX11_jumps {x : Nat} (hd : 2 ≤ d) (hk : k < n) (hm : m < 260) (hw : w < 260) (H : lr_H t n h0 h k m w o S A) (z : ∀ h', lr_H t n h0 h' (k + 1) (m + 1) (w + 1) o (upd S m (nI (x * 2 ^ 20))) (upd A w (nI (x * 2 ^ 20 + m))) → Z 0 h') : Sp mX11_jumps d [.ref 73, .int (nI x)] h Z := by
  refine Sp_of mf_X11_jumps rfl (Nat.le_of_ble_eq_true rfl) rfl (sX11_jumps_0 ?_)
  rw [H.2.2.2.1]
  refine ⟨vp_in_nI hw (by omega), fun h2 e2 h3 e3 => ?_⟩
  rw [nI_clamp (by omega), lr_u, H.2.2.1, nI_add, H.2.2.2.2.2.1] at e2
  have H2 : lr_H t n h0 h2 k m w o S (upd A w (nI (x * 2 ^ 20 + m))) := by rw [e2]; exact lr_82 H
  rw [H2.2.2.2.1, nI_1] at e3
  have H3 := lr_16 (w' := w + 1) H2 rfl
  rw [← e3] at H3
  refine ⟨1, by omega, iX11_notes0 hm H3 (fun h5 H5 h6 e6 => z h6 ?_)⟩
  rw [e6]; exact lr_nx H5 hk
/-- lands: one jump -/
theorem x_ld_pop {x1 : Int32} {x p : Nat} {u2 : Value} (hd : 3 ≤ d) (hw : w + 1 ≤ 260) (hp : p < 260) (H : lr_H t n h0 h k m (w + 1) o S A) (hA : A w = nI (x * 2 ^ 20 + p)) (hS : S p = nI (x * 2 ^ 20)) (hx : x = 11 ∨ (x = 12 ∧ ¬ x1 = 0)) (z : ∀ h' u2, lr_H t n h0 h' k m w o (upd S p (nI (x * 2 ^ 20 + m))) A → Ru mX11_lands none d 0 [.ref 73, .int x1, u2] [] h' Z) : Ru mX11_lands none d 0 [.ref 73, .int x1, u2] [] h Z := by
  have et : lr_tp A (w + 1) = nI x := lr_tpv (v := p) (by omega) (by omega) (by omega) (by rw [Nat.add_sub_cancel]; exact hA)
  have go : Ru mX11_lands none d 22 [.ref 73, .int x1, u2] [] h Z := by
    have e1 : am_rem (A w) 1048576 = nI p := by
      rw [hA, show (1048576 : Int32) = nI 1048576 from rfl, am_rem_n (by omega) (by omega) (by omega)]
      congr 1; omega
    have e2 : S p / 1048576 = nI x := by
      have := lr_dv (x := x) (v := 0) (by omega) (by omega)
      rw [Nat.add_zero] at this
      rw [hS]; exact this
    refine sX11_lands_22 ?_
    rw [H.2.2.2.1, show nI (w + 1) - 1 = nI w from am_sub_n (a := w + 1) (c := 1) (by omega), nI_clamp (by omega), H.2.2.2.2.2.1, H.2.2.2.2.1, e1, nI_clamp (by omega), e2, lr_u, H.2.2.1, nI_add]
    refine ⟨vp_in_nI (by omega) (by omega), vp_in_nI hp (by omega), fun h3 e3 h4 e4 => ?_⟩
    have H3 : lr_H t n h0 h3 k m (w + 1) o (upd S p (nI (x * 2 ^ 20 + m))) A := by rw [e3]; exact lr_81 H
    rw [H3.2.2.2.1, show nI (w + 1) - 1 = nI w from am_sub_n (a := w + 1) (c := 1) (by omega)] at e4
    have H4 := lr_16 (w' := w) H3 rfl
    rw [← e4] at H4
    exact z h4 _ H4
  refine sX11_lands_0c (by omega) ⟨lr_wok H hw, ?_⟩
  rw [lr_wt H hw, et]
  rcases hx with rfl | ⟨rfl, hx⟩
  · exact ⟨fun _ => go, fun q => absurd rfl q⟩
  · exact ⟨fun _ => go, fun _ => ⟨fun q => absurd q hx, fun _ => ⟨fun q => absurd rfl q, fun _ => go⟩⟩⟩
theorem x_ld_stop {x1 : Int32} {u2 : Value} (hd : 3 ≤ d) (hw : w ≤ 260) (H : lr_H t n h0 h k m w o S A) (h1 : ¬ lr_tp A w = 11) (h2 : x1 = 0 ∨ ¬ lr_tp A w = 12) (z : Z 0 h) : Ru mX11_lands none d 0 [.ref 73, .int x1, u2] [] h Z := by
  refine sX11_lands_0c (by omega) ⟨lr_wok H hw, ?_⟩
  rw [lr_wt H hw]
  refine ⟨fun q => absurd q h1, fun _ => ⟨fun _ => z, fun q => ?_⟩⟩
  rcases h2 with h2 | h2
  · exact absurd h2 q
  · exact ⟨fun _ => z, fun q => absurd q h2⟩
/-- a comparison, and the nots before it -/
theorem iX11_readsCompared (hd : 11 ≤ d) (hn : n ≤ 240) (hc : c + q ≤ 5) (H : lr_H t n h0 h k m (w + q) (6 - c) S A) (hA : ∀ i, i < q → A (w + i) = nI (10 * 2 ^ 20)) (ht : ¬ lr_tp A w = 10) (hb : lr_bt A (w + q)) (hmw : m + (w + q) ≤ k + 14) (zf : ∀ h', ¬ (lp_cmp t n (lp_sum t n c) k).1 = 0 → lr_fr h0 h' → h'.1 73 12 = (lp_cmp t n (lp_sum t n c) k).1 → Z 0 h') (zs : ∀ k' X h' S' A', lp_cmp t n (lp_sum t n c) k = (0, k', X) → lr_H t n h0 h' k' (m + X.length + q) w (6 - (c + q)) S' A' → (∀ j, j < m → S' j = S j) → lr_en S' (X ++ lr_nt q) m → (∀ j, j < w → A' j = A j) → Z 1 h') : Sp mX11_readsCompared d [.ref 73] h Z := by
  have tb := H.1.2.2.2.2.1
  have kn := H.1.2.2.1
  have gs := lp_sum_g (t := t) (n := n) (c := c) (a := 0) (by omega) (by omega)
  refine Sp_of mf_X11_readsCompared rfl (Nat.le_of_ble_eq_true rfl) rfl (sX11_readsCompared_0 (by omega) ⟨9, by omega, iX11_readsSum (by omega) hn (by omega) H hb hmw (fun h2 oc => ?_)⟩)
  unfold lp_cmp at zf zs
  have g1 := gs k kn
  generalize lp_sum t n c k = so at oc g1 zf zs
  rcases oc with ⟨o1, S1, A1, H1, s1, n1, a1⟩ | ⟨nz, f1, e1⟩
  · rw [show lr_r so = 1 from if_pos o1]
    refine ⟨fun _ => ⟨am_ms_ok H1.1, ?_⟩, fun q => absurd q (by decide)⟩
    rw [am_ms_hr H1.1]
    obtain ⟨p1, p2, p3, p4, _⟩ := g1.1 o1
    have kn2 := H1.1.2.2.1
    have bad : ¬ (so.2.1 < n ∧ ¬ lp_sC (t so.2.1) = 0) → ∀ u1, Ru mX11_readsCompared none d 52 [.ref 73, u1] [.int (-1)] h2 Z := fun c3 u1 => by
      have nz := (am_ft_n (x := 1) (k := so.2.1) (by omega) (by omega) (by omega)).2
      have e0 : (lp_b so (fun k2 => if k2 < n ∧ ¬ lp_sC (t k2) = 0 then lp_el (lp_sum t n c) (lp_sC (t k2)) k2 else (am_ft 1 k2, k2, []))).1 = am_ft 1 so.2.1 := by
        rw [lp_b_0 o1]
        show (if so.2.1 < n ∧ ¬ lp_sC (t so.2.1) = 0 then lp_el (lp_sum t n c) (lp_sC (t so.2.1)) so.2.1 else (am_ft 1 so.2.1, so.2.1, [])).1 = _
        rw [if_neg c3]
      refine sX11_readsCompared_52 (by omega) ⟨fun q => absurd rfl q, fun _ => ⟨Or.inl rfl, zf _ (by rw [e0]; exact nz) (lr_fr_sI H1.2.2.2.2.2.2 (by omega)) ?_⟩⟩
      rw [am_gI, if_pos ⟨rfl, rfl⟩, H1.1.2.1, e0]; rfl
    have good : so.2.1 < n → ¬ lp_sC (t so.2.1) = 0 → ∀ u1, Ru mX11_readsCompared none d 52 [.ref 73, u1] [.int (nI (lp_sC (t so.2.1)))] h2 Z := fun c3 c4 u1 => by
      have sb := lp_sC_b _ c4
      refine sX11_readsCompared_52 (by omega) ⟨fun _ h3 e3 => ?_, fun q => absurd (show (-1 : Int32) < 0 by decide) (by rw [← q]; exact nI_pos (by omega))⟩
      have H3 := lr_nx H1 c3
      rw [← e3] at H3
      have hb1 : lr_bt A1 (w + q) := by
        rcases hb with z | ⟨x1, v1, q1, q2, q3, q4⟩
        · exact Or.inl z
        · by_cases bz : w + q = 0
          · exact Or.inl bz
          · exact Or.inr ⟨x1, v1, q1, q2, q3, (a1 _ (by omega)).trans q4⟩
      have g2 := gs (so.2.1 + 1) c3
      have eb : lp_b so (fun k2 => if k2 < n ∧ ¬ lp_sC (t k2) = 0 then lp_el (lp_sum t n c) (lp_sC (t k2)) k2 else (am_ft 1 k2, k2, [])) = lp_b so (fun _ => lp_b (lp_sum t n c (so.2.1 + 1)) (fun k2 => (0, k2, [(lp_sC (t so.2.1), 0)]))) := lp_b_cg (fun _ => by
        show (if so.2.1 < n ∧ ¬ lp_sC (t so.2.1) = 0 then lp_el (lp_sum t n c) (lp_sC (t so.2.1)) so.2.1 else (am_ft 1 so.2.1, so.2.1, [])) = _
        rw [if_pos ⟨c3, c4⟩]; rfl)
      rw [eb] at zf zs
      refine ⟨9, by omega, iX11_readsSum (by omega) hn (by omega) H3 hb1 (by omega) (fun h4 oc4 => ?_)⟩
      generalize lp_sum t n c (so.2.1 + 1) = s2 at oc4 g2 zf zs
      rcases oc4 with ⟨r1, S4, A4, H4, s4, n4, a4⟩ | ⟨nz, f4, e4⟩
      · rw [show lr_r s2 = 1 from if_pos r1]
        obtain ⟨y1, y2, y3, y4, _⟩ := g2.1 r1
        refine ⟨fun _ => ⟨1, by omega, iX11_notes0 (x := lp_sC (t so.2.1)) (by omega) H4 (fun h5 H5 => ?_)⟩, fun q => absurd q (by decide)⟩
        have as : ∀ j, j < w + q → A4 j = A j := fun j hj => (a4 j hj).trans (a1 j hj)
        have ht4 : ¬ lr_tp A4 w = 10 := by
          unfold lr_tp at ht ⊢
          by_cases wz : w = 0
          · rw [if_pos wz]; decide
          · rw [if_neg wz] at ht ⊢
            rw [as (w - 1) (by omega)]; exact ht
        rw [show 6 - c = 6 - (c + q) + q by omega] at H5
        refine ⟨4, by omega, iX11_endsPiece (by omega) hn (by omega) (by omega) (by omega) H5 (fun i hi => (as _ (by omega)).trans (hA i hi)) ht4 (fun h7 S7 H7 s7 n7 => ?_)⟩
        have eo : lp_b so (fun _ => lp_b s2 (fun k2 => (0, k2, [(lp_sC (t so.2.1), 0)]))) = (0, s2.2.1, so.2.2 ++ (s2.2.2 ++ [(lp_sC (t so.2.1), 0)])) := by
          rw [lp_b_0 o1, lp_b_0 r1]
        have ln : (so.2.2 ++ (s2.2.2 ++ [(lp_sC (t so.2.1), 0)])).length = so.2.2.length + s2.2.2.length + 1 := by
          rw [List.length_append, List.length_append, List.length_singleton]; omega
        refine zs s2.2.1 _ h7 S7 A4 eo ?_ (fun j hj => ?_) ?_ (fun j hj => as j (by omega))
        · rw [ln, show m + (so.2.2.length + s2.2.2.length + 1) + q = m + so.2.2.length + s2.2.2.length + 1 + q by omega]; exact H7
        · rw [s7 j (by omega)]
          unfold upd
          rw [if_neg (by omega), s4 j (by omega)]; exact s1 j hj
        · refine lr_en_app ?_ (by rw [ln, show m + (so.2.2.length + s2.2.2.length + 1) = m + so.2.2.length + s2.2.2.length + 1 by omega]; exact n7)
          have up : ∀ j, j < m + so.2.2.length + s2.2.2.length → S7 j = S4 j := fun j hj => by
            rw [s7 j (by omega)]; unfold upd; rw [if_neg (by omega)]
          refine lr_en_app (lr_en_cg (fun j h1 h2 => ?_) n1) (lr_en_app (lr_en_cg (fun j h1 h2 => up j (by omega)) n4) ⟨?_, trivial⟩)
          · rw [up j (by omega), s4 j (by omega)]
          · rw [s7 _ (by omega)]
            unfold upd
            rw [if_pos rfl, if_neg (by show ¬ (lp_sC (t so.2.1) = 11 ∨ lp_sC (t so.2.1) = 12); omega)]
            show nI (lp_sC (t so.2.1) * 2 ^ 20) = nI (lp_sC (t so.2.1) * 2 ^ 20 + 0)
            rw [Nat.add_zero]
      · rw [show lr_r s2 = 0 from if_neg nz]
        have e0 : (lp_b so (fun _ => lp_b s2 (fun k2 => (0, k2, [(lp_sC (t so.2.1), 0)])))).1 = s2.1 := by rw [lp_b_0 o1, lp_b_f nz]
        exact ⟨fun q => absurd rfl q, fun _ => zf h4 (by rw [e0]; exact nz) f4 (by rw [e0]; exact e4)⟩
    rcases Nat.lt_or_ge so.2.1 n with c3 | c3
    · have tk := tb so.2.1
      rw [show am_rd t n so.2.1 = nI (t so.2.1) from if_pos c3]
      have e60 : nI (t so.2.1) = 60 ↔ t so.2.1 = 60 := nI_eq (b := 60) (by omega) (by omega)
      have e62 : nI (t so.2.1) = 62 ↔ t so.2.1 = 62 := nI_eq (b := 62) (by omega) (by omega)
      have e61 : nI (t so.2.1) = 61 ↔ t so.2.1 = 61 := nI_eq (b := 61) (by omega) (by omega)
      have vv : ∀ x y, t so.2.1 = x → lp_sC x = y → y ≠ 0 → ∀ u1, Ru mX11_readsCompared none d 52 [.ref 73, u1] [.int (nI y)] h2 Z := fun x y ex ey ne u1 => by
        have w := good c3 (by rw [ex, ey]; exact ne) u1
        rw [ex, ey] at w; exact w
      refine ⟨fun w1 => ⟨fun w2 => ⟨fun w3 => bad (fun w => ?_) _, fun w3 => vv 61 9 (e61.mp w3) rfl (by omega) _⟩, fun w2 => vv 62 8 (e62.mp w2) rfl (by omega) _⟩, fun w1 => vv 60 7 (e60.mp w1) rfl (by omega) _⟩
      have z := w.2
      unfold lp_sC at z
      rw [if_neg (fun q => w1 (e60.mpr q)), if_neg (fun q => w2 (e62.mpr q)), if_neg (fun q => w3 (e61.mpr q))] at z
      exact z rfl
    · rw [show am_rd t n so.2.1 = -1 from if_neg (by omega)]
      exact ⟨fun _ => ⟨fun _ => ⟨fun _ => bad (fun w => by omega) _, fun q => absurd q (by decide)⟩, fun q => absurd q (by decide)⟩, fun q => absurd q (by decide)⟩
  · rw [show lr_r so = 0 from if_neg nz]
    rw [lp_b_f nz] at zf
    exact ⟨fun q => absurd rfl q, fun _ => zf h2 nz f1 e1⟩
end
