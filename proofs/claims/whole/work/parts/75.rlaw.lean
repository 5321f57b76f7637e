-- the law's text: the reference's state, small steps
set_option maxRecDepth 20000 in
set_option maxHeartbeats 2000000 in
theorem sX11_waitTop_0 {d : Nat} {h : am_H} {Z : Int32 → am_H → Prop}  (w : (¬ (h.1 73 16) = 0 → (vp_in ((h.1 73 16) - 1) 260 ∧ (Z ((h.2.2 82 ((h.1 73 16) - 1).toNatClampNeg) / 1048576) h))) ∧ ((h.1 73 16) = 0 → Z (-1) h)) : Ru mX11_waitTop none d 0 [.ref 73] [] h Z := by
  refine st_aload_n dX11_waitTop_0 rfl ?_
  refine st_getI fl_X11_194 fk_11_16 dX11_waitTop_1 sh_73 ?_
  refine st_if_ne (tgt := 11) dX11_waitTop_4 (by decide) (fun c => ?_) (fun c => ?_)
  · replace w := w.1 c
    refine st_aload_n dX11_waitTop_11 rfl ?_
    refine st_getF (q := 82) fl_X11_35 fk_11_20 rfl dX11_waitTop_12 sh_73 ?_
    refine st_aload_n dX11_waitTop_15 rfl ?_
    refine st_getI fl_X11_194 fk_11_16 dX11_waitTop_16 sh_73 ?_
    refine st_iconst (v := 1) dX11_waitTop_19 (by decide) ?_
    refine st_isub dX11_waitTop_20 ?_
    have hc1 := w.1
    replace w := w.2
    refine st_iald dX11_waitTop_21 sh_82 hc1 ?_
    refine st_ldc dX11_waitTop_22 kc_X11_190 ?_
    refine st_idiv dX11_waitTop_24 (by decide) ?_
    exact st_ireturn rfl rfl dX11_waitTop_25 w
  · replace w := w.2 c
    refine st_iconst (v := (-1)) dX11_waitTop_7 (by decide) ?_
    refine st_goto (tgt := 25) dX11_waitTop_8 (by decide) ?_
    exact st_ireturn rfl rfl dX11_waitTop_25 w
def am_wt (h : am_H) : Int32 := if h.1 73 16 = 0 then -1 else h.2.2 82 (h.1 73 16 - 1).toNatClampNeg / 1048576
def am_wok (h : am_H) : Prop := ¬ h.1 73 16 = 0 → vp_in (h.1 73 16 - 1) 260
theorem iX11_waitTop {d : Nat} {h : am_H} {Z : Int32 → am_H → Prop} (hs : am_wok h) (z : Z (am_wt h) h) : Sp mX11_waitTop d [.ref 73] h Z := by
  refine Sp_of mf_X11_waitTop rfl (Nat.le_of_ble_eq_true rfl) rfl ?_
  unfold am_wt at z
  refine sX11_waitTop_0 ⟨fun c => ⟨hs c, ?_⟩, fun c => ?_⟩
  · rwa [if_neg c] at z
  · rwa [if_pos c] at z
set_option maxRecDepth 20000 in
set_option maxHeartbeats 2000000 in
theorem sX11_notes_0 {d : Nat} {h : am_H} {Z : Int32 → am_H → Prop} {x1 : Int32} {x2 : Int32} (w : (vp_in (h.1 73 15) 260 ∧ (∀ h2 : am_H, h2 = am_sR h 81 (upd (h.2.2 81) (h.1 73 15).toNatClampNeg ((1048576 * x1) + x2)) → (∀ h3 : am_H, h3 = am_sI h2 73 15 ((h2.1 73 15) + 1) → (Z 0 h3))))) : Ru mX11_notes none d 0 [.ref 73, .int x1, .int x2] [] h Z := by
  refine st_aload_n dX11_notes_0 rfl ?_
  refine st_getF (q := 81) fl_X11_32 fk_11_19 rfl dX11_notes_1 sh_73 ?_
  refine st_aload_n dX11_notes_4 rfl ?_
  refine st_getI fl_X11_187 fk_11_15 dX11_notes_5 sh_73 ?_
  refine st_ldc dX11_notes_8 kc_X11_190 ?_
  refine st_iload_n dX11_notes_10 rfl ?_
  refine st_imul dX11_notes_11 ?_
  refine st_iload_n dX11_notes_12 rfl ?_
  refine st_iadd dX11_notes_13 ?_
  have hc1 := w.1
  replace w := w.2
  refine st_iast dX11_notes_14 sh_81 hc1 (fun h2 eh2 => ?_)
  replace w := w h2 eh2
  refine st_aload_n dX11_notes_15 rfl ?_
  refine st_aload_n dX11_notes_16 rfl ?_
  refine st_getI fl_X11_187 fk_11_15 dX11_notes_17 sh_73 ?_
  refine st_iconst (v := 1) dX11_notes_20 (by decide) ?_
  refine st_iadd dX11_notes_21 ?_
  refine st_putI flp_X11_187 fk_11_15 dX11_notes_22 sh_73 (fun h3 eh3 => ?_)
  replace w := w h3 eh3
  exact st_return rfl dX11_notes_25 w
set_option maxRecDepth 20000 in
set_option maxHeartbeats 2000000 in
theorem sX11_opens_0 {d : Nat} {h : am_H} {Z : Int32 → am_H → Prop} {x1 : Int32} (hd : 2 ≤ d) (w : (¬ (h.1 73 14) = 6 → (∀ h1 : am_H, h1 = am_sI h 73 14 ((h.1 73 14) + 1) → (vp_in (h1.1 73 16) 260 ∧ (∀ h3 : am_H, h3 = am_sR h1 82 (upd (h1.2.2 82) (h1.1 73 16).toNatClampNeg (1048576 * x1)) → (∀ h4 : am_H, h4 = am_sI h3 73 16 ((h3.1 73 16) + 1) → (∀ h5 : am_H, h5 = am_sI h4 73 10 ((h4.1 73 10) + 1) → (Z 1 h5))))))) ∧ ((h.1 73 14) = 6 → (((0 : Int32) = 0 ∨ (0 : Int32) = 1) ∧ (Z (0 : Int32) (am_sI h 73 12 ((-1000) * (5 : Int32) - (h.1 73 10))))))) : Ru mX11_opens none d 0 [.ref 73, .int x1] [] h Z := by
  refine st_aload_n dX11_opens_0 rfl ?_
  refine st_getI fl_X11_191 fk_11_14 dX11_opens_1 sh_73 ?_
  refine st_bipush (v := 6) dX11_opens_4 (by decide) ?_
  refine st_icmp_ne (tgt := 19) dX11_opens_6 (by decide) (fun c => ?_) (fun c => ?_)
  · replace w := w.1 c
    refine st_aload_n dX11_opens_19 rfl ?_
    refine st_aload_n dX11_opens_20 rfl ?_
    refine st_getI fl_X11_191 fk_11_14 dX11_opens_21 sh_73 ?_
    refine st_iconst (v := 1) dX11_opens_24 (by decide) ?_
    refine st_iadd dX11_opens_25 ?_
    refine st_putI flp_X11_191 fk_11_14 dX11_opens_26 sh_73 (fun h1 eh1 => ?_)
    replace w := w h1 eh1
    refine st_aload_n dX11_opens_29 rfl ?_
    refine st_getF (q := 82) fl_X11_35 fk_11_20 rfl dX11_opens_30 sh_73 ?_
    refine st_aload_n dX11_opens_33 rfl ?_
    refine st_getI fl_X11_194 fk_11_16 dX11_opens_34 sh_73 ?_
    refine st_ldc dX11_opens_37 kc_X11_190 ?_
    refine st_iload_n dX11_opens_39 rfl ?_
    refine st_imul dX11_opens_40 ?_
    have hc2 := w.1
    replace w := w.2
    refine st_iast dX11_opens_41 sh_82 hc2 (fun h3 eh3 => ?_)
    replace w := w h3 eh3
    refine st_aload_n dX11_opens_42 rfl ?_
    refine st_aload_n dX11_opens_43 rfl ?_
    refine st_getI fl_X11_194 fk_11_16 dX11_opens_44 sh_73 ?_
    refine st_iconst (v := 1) dX11_opens_47 (by decide) ?_
    refine st_iadd dX11_opens_48 ?_
    refine st_putI flp_X11_194 fk_11_16 dX11_opens_49 sh_73 (fun h4 eh4 => ?_)
    replace w := w h4 eh4
    refine st_aload_n dX11_opens_52 rfl ?_
    refine st_aload_n dX11_opens_53 rfl ?_
    refine st_getI fl_X11_164 fk_11_10 dX11_opens_54 sh_73 ?_
    refine st_iconst (v := 1) dX11_opens_57 (by decide) ?_
    refine st_iadd dX11_opens_58 ?_
    refine st_putI flp_X11_164 fk_11_10 dX11_opens_59 sh_73 (fun h5 eh5 => ?_)
    replace w := w h5 eh5
    refine st_iconst (v := 1) dX11_opens_62 (by decide) ?_
    exact st_ireturn rfl rfl dX11_opens_63 w
  · replace w := w.2 c
    refine st_aload_n dX11_opens_9 rfl ?_
    refine st_iconst (v := 5) dX11_opens_10 (by decide) ?_
    refine st_aload_n dX11_opens_11 rfl ?_
    refine st_getI fl_X11_164 fk_11_10 dX11_opens_12 sh_73 ?_
    refine st_callV (M' := mX11_wrongAt) [.int 5, .int (h.1 73 10)] [] dX11_opens_15 ml_X11_177 mf_X11_wrongAt mv_X11_wrongAt sh_73 rfl rfl rfl (K := fun r h' => (0 : Int32) = r ∧ am_sI h 73 12 ((-1000) * (5 : Int32) - (h.1 73 10)) = h') ⟨1, by omega, iX11_wrongAt ⟨rfl, rfl⟩⟩ (fun r1 h1 w1 => ?_)
    obtain ⟨rfl, rfl⟩ := w1
    show Ru mX11_opens none d 18 [.ref 73, .int x1] [.int (0 : Int32)] (am_sI h 73 12 ((-1000) * (5 : Int32) - (h.1 73 10))) Z
    have hc6 := w.1
    replace w := w.2
    exact st_ireturn rfl (am_nb hc6) dX11_opens_18 w
set_option maxRecDepth 20000 in
set_option maxHeartbeats 2000000 in
theorem sX11_closesSums_0 {d : Nat} {h : am_H} {Z : Int32 → am_H → Prop} {x1 : Int32} (w : Ru mX11_closesSums none d 0 [.ref 73, .int x1] [] h Z) : Ru mX11_closesSums none d 0 [.ref 73, .int x1] [] h Z := by
  exact w
set_option maxRecDepth 20000 in
set_option maxHeartbeats 2000000 in
theorem sX11_closesSums_0c {d : Nat} {h : am_H} {Z : Int32 → am_H → Prop} {x1 : Int32} (hd : 2 ≤ d) (w : (am_wok h ∧ (((am_wt h) < 4 → Ru mX11_closesSums none d 17 [.ref 73, .int x1] [] h Z) ∧ (¬ ((am_wt h) < 4) → ((am_wt h) ≤ 6 → am_cl mX11_notes d [.ref 73, .int (am_wt h), .int 0] h (fun r2 h3 => (∀ h4 : am_H, h4 = am_sI h3 73 16 ((h3.1 73 16) - 1) → (Ru mX11_closesSums none d 0 [.ref 73, .int x1] [] h4 Z)))) ∧ (¬ ((am_wt h) ≤ 6) → Ru mX11_closesSums none d 17 [.ref 73, .int x1] [] h Z))))) : Ru mX11_closesSums none d 0 [.ref 73, .int x1] [] h Z := by
  refine st_aload_n dX11_closesSums_0 rfl ?_
  have hc1 := w.1
  replace w := w.2
  refine st_callV (M' := mX11_waitTop) [] [] dX11_closesSums_1 ml_X11_197 mf_X11_waitTop mv_X11_waitTop sh_73 rfl rfl rfl (K := fun r h' => (am_wt h) = r ∧ h = h') ⟨1, by omega, iX11_waitTop hc1 ⟨rfl, rfl⟩⟩ (fun r1 h1 w1 => ?_)
  obtain ⟨rfl, rfl⟩ := w1
  show Ru mX11_closesSums none d 4 [.ref 73, .int x1] [.int (am_wt h)] h Z
  refine st_iconst (v := 4) dX11_closesSums_4 (by decide) ?_
  refine st_icmp_lt (tgt := 17) dX11_closesSums_5 (by decide) (fun c => ?_) (fun c => ?_)
  · replace w := w.1 c
    exact w
  · replace w := w.2 c
    refine st_aload_n dX11_closesSums_8 rfl ?_
    refine st_callV (M' := mX11_waitTop) [] [] dX11_closesSums_9 ml_X11_197 mf_X11_waitTop mv_X11_waitTop sh_73 rfl rfl rfl (K := fun r h' => (am_wt h) = r ∧ h = h') ⟨1, by omega, iX11_waitTop hc1 ⟨rfl, rfl⟩⟩ (fun r1 h1 w1 => ?_)
    obtain ⟨rfl, rfl⟩ := w1
    show Ru mX11_closesSums none d 12 [.ref 73, .int x1] [.int (am_wt h)] h Z
    refine st_bipush (v := 6) dX11_closesSums_12 (by decide) ?_
    refine st_icmp_le (tgt := 37) dX11_closesSums_14 (by decide) (fun c => ?_) (fun c => ?_)
    · replace w := w.1 c
      refine st_aload_n dX11_closesSums_37 rfl ?_
      refine st_aload_n dX11_closesSums_38 rfl ?_
      refine st_callV (M' := mX11_waitTop) [] [.ref 73] dX11_closesSums_39 ml_X11_197 mf_X11_waitTop mv_X11_waitTop sh_73 rfl rfl rfl (K := fun r h' => (am_wt h) = r ∧ h = h') ⟨1, by omega, iX11_waitTop hc1 ⟨rfl, rfl⟩⟩ (fun r1 h1 w1 => ?_)
      obtain ⟨rfl, rfl⟩ := w1
      show Ru mX11_closesSums none d 42 [.ref 73, .int x1] [.int (am_wt h), .ref 73] h Z
      refine st_iconst (v := 0) dX11_closesSums_42 (by decide) ?_
      refine st_callV (M' := mX11_notes) [.int (am_wt h), .int 0] [] dX11_closesSums_43 ml_X11_200 mf_X11_notes mv_X11_notes sh_73 rfl rfl rfl w (fun r2 h3 w => ?_)
      show Ru mX11_closesSums none d 46 [.ref 73, .int x1] [] h3 Z
      refine st_aload_n dX11_closesSums_46 rfl ?_
      refine st_aload_n dX11_closesSums_47 rfl ?_
      refine st_getI fl_X11_194 fk_11_16 dX11_closesSums_48 sh_73 ?_
      refine st_iconst (v := 1) dX11_closesSums_51 (by decide) ?_
      refine st_isub dX11_closesSums_52 ?_
      refine st_putI flp_X11_194 fk_11_16 dX11_closesSums_53 sh_73 (fun h4 eh4 => ?_)
      replace w := w h4 eh4
      refine st_goto (tgt := 0) dX11_closesSums_56 (by decide) ?_
      exact w
    · replace w := w.2 c
      exact w
set_option maxRecDepth 20000 in
set_option maxHeartbeats 2000000 in
theorem sX11_closesSums_17 {d : Nat} {h : am_H} {Z : Int32 → am_H → Prop} {x1 : Int32} (hd : 2 ≤ d) (w : (x1 = 0 → Z 0 h) ∧ (¬ (x1 = 0) → (am_wok h ∧ (((am_wt h) = 2 → am_cl mX11_notes d [.ref 73, .int (am_wt h), .int 0] h (fun r2 h3 => (∀ h4 : am_H, h4 = am_sI h3 73 16 ((h3.1 73 16) - 1) → (Ru mX11_closesSums none d 0 [.ref 73, .int x1] [] h4 Z)))) ∧ (¬ ((am_wt h) = 2) → (¬ (am_wt h) = 3 → Z 0 h) ∧ ((am_wt h) = 3 → am_cl mX11_notes d [.ref 73, .int (am_wt h), .int 0] h (fun r5 h6 => (∀ h7 : am_H, h7 = am_sI h6 73 16 ((h6.1 73 16) - 1) → (Ru mX11_closesSums none d 0 [.ref 73, .int x1] [] h7 Z))))))))) : Ru mX11_closesSums none d 17 [.ref 73, .int x1] [] h Z := by
  refine st_iload_n dX11_closesSums_17 rfl ?_
  refine st_if_eq (tgt := 59) dX11_closesSums_18 (by decide) (fun c => ?_) (fun c => ?_)
  · replace w := w.1 c
    exact st_return rfl dX11_closesSums_59 w
  · replace w := w.2 c
    refine st_aload_n dX11_closesSums_21 rfl ?_
    have hc1 := w.1
    replace w := w.2
    refine st_callV (M' := mX11_waitTop) [] [] dX11_closesSums_22 ml_X11_197 mf_X11_waitTop mv_X11_waitTop sh_73 rfl rfl rfl (K := fun r h' => (am_wt h) = r ∧ h = h') ⟨1, by omega, iX11_waitTop hc1 ⟨rfl, rfl⟩⟩ (fun r1 h1 w1 => ?_)
    obtain ⟨rfl, rfl⟩ := w1
    show Ru mX11_closesSums none d 25 [.ref 73, .int x1] [.int (am_wt h)] h Z
    refine st_iconst (v := 2) dX11_closesSums_25 (by decide) ?_
    refine st_icmp_eq (tgt := 37) dX11_closesSums_26 (by decide) (fun c => ?_) (fun c => ?_)
    · replace w := w.1 c
      refine st_aload_n dX11_closesSums_37 rfl ?_
      refine st_aload_n dX11_closesSums_38 rfl ?_
      refine st_callV (M' := mX11_waitTop) [] [.ref 73] dX11_closesSums_39 ml_X11_197 mf_X11_waitTop mv_X11_waitTop sh_73 rfl rfl rfl (K := fun r h' => (am_wt h) = r ∧ h = h') ⟨1, by omega, iX11_waitTop hc1 ⟨rfl, rfl⟩⟩ (fun r1 h1 w1 => ?_)
      obtain ⟨rfl, rfl⟩ := w1
      show Ru mX11_closesSums none d 42 [.ref 73, .int x1] [.int (am_wt h), .ref 73] h Z
      refine st_iconst (v := 0) dX11_closesSums_42 (by decide) ?_
      refine st_callV (M' := mX11_notes) [.int (am_wt h), .int 0] [] dX11_closesSums_43 ml_X11_200 mf_X11_notes mv_X11_notes sh_73 rfl rfl rfl w (fun r2 h3 w => ?_)
      show Ru mX11_closesSums none d 46 [.ref 73, .int x1] [] h3 Z
      refine st_aload_n dX11_closesSums_46 rfl ?_
      refine st_aload_n dX11_closesSums_47 rfl ?_
      refine st_getI fl_X11_194 fk_11_16 dX11_closesSums_48 sh_73 ?_
      refine st_iconst (v := 1) dX11_closesSums_51 (by decide) ?_
      refine st_isub dX11_closesSums_52 ?_
      refine st_putI flp_X11_194 fk_11_16 dX11_closesSums_53 sh_73 (fun h4 eh4 => ?_)
      replace w := w h4 eh4
      refine st_goto (tgt := 0) dX11_closesSums_56 (by decide) ?_
      exact w
    · replace w := w.2 c
      refine st_aload_n dX11_closesSums_29 rfl ?_
      refine st_callV (M' := mX11_waitTop) [] [] dX11_closesSums_30 ml_X11_197 mf_X11_waitTop mv_X11_waitTop sh_73 rfl rfl rfl (K := fun r h' => (am_wt h) = r ∧ h = h') ⟨1, by omega, iX11_waitTop hc1 ⟨rfl, rfl⟩⟩ (fun r1 h1 w1 => ?_)
      obtain ⟨rfl, rfl⟩ := w1
      show Ru mX11_closesSums none d 33 [.ref 73, .int x1] [.int (am_wt h)] h Z
      refine st_iconst (v := 3) dX11_closesSums_33 (by decide) ?_
      refine st_icmp_ne (tgt := 59) dX11_closesSums_34 (by decide) (fun c => ?_) (fun c => ?_)
      · replace w := w.1 c
        exact st_return rfl dX11_closesSums_59 w
      · replace w := w.2 c
        refine st_aload_n dX11_closesSums_37 rfl ?_
        refine st_aload_n dX11_closesSums_38 rfl ?_
        refine st_callV (M' := mX11_waitTop) [] [.ref 73] dX11_closesSums_39 ml_X11_197 mf_X11_waitTop mv_X11_waitTop sh_73 rfl rfl rfl (K := fun r h' => (am_wt h) = r ∧ h = h') ⟨1, by omega, iX11_waitTop hc1 ⟨rfl, rfl⟩⟩ (fun r1 h1 w1 => ?_)
        obtain ⟨rfl, rfl⟩ := w1
        show Ru mX11_closesSums none d 42 [.ref 73, .int x1] [.int (am_wt h), .ref 73] h Z
        refine st_iconst (v := 0) dX11_closesSums_42 (by decide) ?_
        refine st_callV (M' := mX11_notes) [.int (am_wt h), .int 0] [] dX11_closesSums_43 ml_X11_200 mf_X11_notes mv_X11_notes sh_73 rfl rfl rfl w (fun r5 h6 w => ?_)
        show Ru mX11_closesSums none d 46 [.ref 73, .int x1] [] h6 Z
        refine st_aload_n dX11_closesSums_46 rfl ?_
        refine st_aload_n dX11_closesSums_47 rfl ?_
        refine st_getI fl_X11_194 fk_11_16 dX11_closesSums_48 sh_73 ?_
        refine st_iconst (v := 1) dX11_closesSums_51 (by decide) ?_
        refine st_isub dX11_closesSums_52 ?_
        refine st_putI flp_X11_194 fk_11_16 dX11_closesSums_53 sh_73 (fun h7 eh7 => ?_)
        replace w := w h7 eh7
        refine st_goto (tgt := 0) dX11_closesSums_56 (by decide) ?_
        exact w
set_option maxRecDepth 20000 in
set_option maxHeartbeats 2000000 in
theorem sX11_hasOpenSum_0 {d : Nat} {h : am_H} {Z : Int32 → am_H → Prop} {x1 : Int32} (w : Ru mX11_hasOpenSum none d 2 [.ref 73, .int x1, .int x1] [] h Z) : Ru mX11_hasOpenSum none d 0 [.ref 73, .int x1, .null] [] h Z := by
  refine st_iload_n dX11_hasOpenSum_0 rfl ?_
  refine st_istore_n (L' := [.ref 73, .int x1, .int x1]) dX11_hasOpenSum_1 (by decide) rfl ?_
  exact w
set_option maxRecDepth 20000 in
set_option maxHeartbeats 2000000 in
theorem sX11_hasOpenSum_2 {d : Nat} {h : am_H} {Z : Int32 → am_H → Prop} {u1 : Value} {x2 : Int32} (w : ((h.1 73 16) ≤ x2 → Z 0 h) ∧ (¬ ((h.1 73 16) ≤ x2) → (vp_in x2 260 ∧ ((¬ ((h.2.2 82 x2.toNatClampNeg) / 1048576) = 14 → Ru mX11_hasOpenSum none d 2 [.ref 73, u1, .int (x2 + 1)] [] h Z) ∧ (((h.2.2 82 x2.toNatClampNeg) / 1048576) = 14 → Z 1 h))))) : Ru mX11_hasOpenSum none d 2 [.ref 73, u1, .int x2] [] h Z := by
  refine st_iload_n dX11_hasOpenSum_2 rfl ?_
  refine st_aload_n dX11_hasOpenSum_3 rfl ?_
  refine st_getI fl_X11_194 fk_11_16 dX11_hasOpenSum_4 sh_73 ?_
  refine st_icmp_ge (tgt := 32) dX11_hasOpenSum_7 (by decide) (fun c => ?_) (fun c => ?_)
  · replace w := w.1 c
    refine st_iconst (v := 0) dX11_hasOpenSum_32 (by decide) ?_
    exact st_ireturn rfl rfl dX11_hasOpenSum_33 w
  · replace w := w.2 c
    refine st_aload_n dX11_hasOpenSum_10 rfl ?_
    refine st_getF (q := 82) fl_X11_35 fk_11_20 rfl dX11_hasOpenSum_11 sh_73 ?_
    refine st_iload_n dX11_hasOpenSum_14 rfl ?_
    have hc1 := w.1
    replace w := w.2
    refine st_iald dX11_hasOpenSum_15 sh_82 hc1 ?_
    refine st_ldc dX11_hasOpenSum_16 kc_X11_190 ?_
    refine st_idiv dX11_hasOpenSum_18 (by decide) ?_
    refine st_bipush (v := 14) dX11_hasOpenSum_19 (by decide) ?_
    refine st_icmp_ne (tgt := 26) dX11_hasOpenSum_21 (by decide) (fun c => ?_) (fun c => ?_)
    · replace w := w.1 c
      refine st_iinc (L' := [.ref 73, u1, .int (x2 + 1)]) dX11_hasOpenSum_26 rfl rfl (by decide) rfl ?_
      refine st_goto (tgt := 2) dX11_hasOpenSum_29 (by decide) ?_
      exact w
    · replace w := w.2 c
      refine st_iconst (v := 1) dX11_hasOpenSum_24 (by decide) ?_
      exact st_ireturn rfl rfl dX11_hasOpenSum_25 w
set_option maxRecDepth 20000 in
set_option maxHeartbeats 2000000 in
theorem sX11_sumSign_0 {d : Nat} {h : am_H} {Z : Int32 → am_H → Prop} {x0 : Int32} (w : (¬ x0 = 43 → (¬ x0 = 45 → (¬ x0 = 42 → (¬ x0 = 47 → (¬ x0 = 37 → Z (-1) h) ∧ (x0 = 37 → Z 6 h)) ∧ (x0 = 47 → Z 5 h)) ∧ (x0 = 42 → Z 4 h)) ∧ (x0 = 45 → Z 3 h)) ∧ (x0 = 43 → Z 2 h)) : Ru mX11_sumSign none d 0 [.int x0] [] h Z := by
  refine st_iload_n dX11_sumSign_0 rfl ?_
  refine st_bipush (v := 43) dX11_sumSign_1 (by decide) ?_
  refine st_icmp_ne (tgt := 10) dX11_sumSign_3 (by decide) (fun c => ?_) (fun c => ?_)
  · replace w := w.1 c
    refine st_iload_n dX11_sumSign_10 rfl ?_
    refine st_bipush (v := 45) dX11_sumSign_11 (by decide) ?_
    refine st_icmp_ne (tgt := 20) dX11_sumSign_13 (by decide) (fun c => ?_) (fun c => ?_)
    · replace w := w.1 c
      refine st_iload_n dX11_sumSign_20 rfl ?_
      refine st_bipush (v := 42) dX11_sumSign_21 (by decide) ?_
      refine st_icmp_ne (tgt := 30) dX11_sumSign_23 (by decide) (fun c => ?_) (fun c => ?_)
      · replace w := w.1 c
        refine st_iload_n dX11_sumSign_30 rfl ?_
        refine st_bipush (v := 47) dX11_sumSign_31 (by decide) ?_
        refine st_icmp_ne (tgt := 40) dX11_sumSign_33 (by decide) (fun c => ?_) (fun c => ?_)
        · replace w := w.1 c
          refine st_iload_n dX11_sumSign_40 rfl ?_
          refine st_bipush (v := 37) dX11_sumSign_41 (by decide) ?_
          refine st_icmp_ne (tgt := 51) dX11_sumSign_43 (by decide) (fun c => ?_) (fun c => ?_)
          · replace w := w.1 c
            refine st_iconst (v := (-1)) dX11_sumSign_51 (by decide) ?_
            exact st_ireturn rfl rfl dX11_sumSign_52 w
          · replace w := w.2 c
            refine st_bipush (v := 6) dX11_sumSign_46 (by decide) ?_
            refine st_goto (tgt := 52) dX11_sumSign_48 (by decide) ?_
            exact st_ireturn rfl rfl dX11_sumSign_52 w
        · replace w := w.2 c
          refine st_iconst (v := 5) dX11_sumSign_36 (by decide) ?_
          refine st_goto (tgt := 52) dX11_sumSign_37 (by decide) ?_
          exact st_ireturn rfl rfl dX11_sumSign_52 w
      · replace w := w.2 c
        refine st_iconst (v := 4) dX11_sumSign_26 (by decide) ?_
        refine st_goto (tgt := 52) dX11_sumSign_27 (by decide) ?_
        exact st_ireturn rfl rfl dX11_sumSign_52 w
    · replace w := w.2 c
      refine st_iconst (v := 3) dX11_sumSign_16 (by decide) ?_
      refine st_goto (tgt := 52) dX11_sumSign_17 (by decide) ?_
      exact st_ireturn rfl rfl dX11_sumSign_52 w
  · replace w := w.2 c
    refine st_iconst (v := 2) dX11_sumSign_6 (by decide) ?_
    refine st_goto (tgt := 52) dX11_sumSign_7 (by decide) ?_
    exact st_ireturn rfl rfl dX11_sumSign_52 w
set_option maxRecDepth 20000 in
set_option maxHeartbeats 2000000 in
theorem sX11_factOf_0 {d : Nat} {h : am_H} {Z : Int32 → am_H → Prop} {x0 : Int32} (w : (x0 = 97 → Z 6 h) ∧ (¬ x0 = 97 → (x0 = 98 → Z (-1) h) ∧ (¬ x0 = 98 → (x0 = 99 → Z (-1) h) ∧ (¬ x0 = 99 → (x0 = 100 → Z 3 h) ∧ (¬ x0 = 100 → (x0 = 101 → Z (-1) h) ∧ (¬ x0 = 101 → (x0 = 102 → Z 4 h) ∧ (¬ x0 = 102 → (x0 = 103 → Z (-1) h) ∧ (¬ x0 = 103 → (x0 = 104 → Z (-1) h) ∧ (¬ x0 = 104 → (x0 = 105 → Z 7 h) ∧ (¬ x0 = 105 → (x0 = 106 → Z (-1) h) ∧ (¬ x0 = 106 → (x0 = 107 → Z (-1) h) ∧ (¬ x0 = 107 → (x0 = 108 → Z (-1) h) ∧ (¬ x0 = 108 → (x0 = 109 → Z (-1) h) ∧ (¬ x0 = 109 → (x0 = 110 → Z 5 h) ∧ (¬ x0 = 110 → (x0 = 111 → Z (-1) h) ∧ (¬ x0 = 111 → (x0 = 112 → Z 0 h) ∧ (¬ x0 = 112 → (x0 = 113 → Z (-1) h) ∧ (¬ x0 = 113 → (x0 = 114 → Z (-1) h) ∧ (¬ x0 = 114 → (x0 = 115 → Z 1 h) ∧ (¬ x0 = 115 → (x0 = 116 → Z 8 h) ∧ (¬ x0 = 116 → (x0 = 117 → Z (-1) h) ∧ (¬ x0 = 117 → (x0 = 118 → Z (-1) h) ∧ (¬ x0 = 118 → (x0 = 119 → Z 9 h) ∧ (¬ x0 = 119 → (x0 = 120 → Z (-1) h) ∧ (¬ x0 = 120 → (x0 = 121 → Z (-1) h) ∧ (¬ x0 = 121 → (x0 = 122 → Z 2 h) ∧ (¬ x0 = 122 → Z (-1) h))))))))))))))))))))))))))) : Ru mX11_factOf none d 0 [.int x0] [] h Z := by
  refine st_iload_n dX11_factOf_0 rfl ?_
  by_cases c0 : x0 = 97
  · replace w := w.1 c0
    refine st_tableIn (off := 131) (tgt := 132) dX11_factOf_1 (by rw [c0]; decide) (by rw [c0]; decide) (by rw [c0]; decide) (by decide) ?_
    refine st_bipush (v := 6) dX11_factOf_132 (by decide) ?_
    exact st_ireturn rfl rfl dX11_factOf_134 w
  · replace w := w.2 c0
    by_cases c1 : x0 = 98
    · replace w := w.1 c1
      refine st_tableIn (off := 143) (tgt := 144) dX11_factOf_1 (by rw [c1]; decide) (by rw [c1]; decide) (by rw [c1]; decide) (by decide) ?_
      refine st_iconst (v := (-1)) dX11_factOf_144 (by decide) ?_
      exact st_ireturn rfl rfl dX11_factOf_145 w
    · replace w := w.2 c1
      by_cases c2 : x0 = 99
      · replace w := w.1 c2
        refine st_tableIn (off := 143) (tgt := 144) dX11_factOf_1 (by rw [c2]; decide) (by rw [c2]; decide) (by rw [c2]; decide) (by decide) ?_
        refine st_iconst (v := (-1)) dX11_factOf_144 (by decide) ?_
        exact st_ireturn rfl rfl dX11_factOf_145 w
      · replace w := w.2 c2
        by_cases c3 : x0 = 100
        · replace w := w.1 c3
          refine st_tableIn (off := 125) (tgt := 126) dX11_factOf_1 (by rw [c3]; decide) (by rw [c3]; decide) (by rw [c3]; decide) (by decide) ?_
          refine st_iconst (v := 3) dX11_factOf_126 (by decide) ?_
          exact st_ireturn rfl rfl dX11_factOf_127 w
        · replace w := w.2 c3
          by_cases c4 : x0 = 101
          · replace w := w.1 c4
            refine st_tableIn (off := 143) (tgt := 144) dX11_factOf_1 (by rw [c4]; decide) (by rw [c4]; decide) (by rw [c4]; decide) (by decide) ?_
            refine st_iconst (v := (-1)) dX11_factOf_144 (by decide) ?_
            exact st_ireturn rfl rfl dX11_factOf_145 w
          · replace w := w.2 c4
            by_cases c5 : x0 = 102
            · replace w := w.1 c5
              refine st_tableIn (off := 127) (tgt := 128) dX11_factOf_1 (by rw [c5]; decide) (by rw [c5]; decide) (by rw [c5]; decide) (by decide) ?_
              refine st_iconst (v := 4) dX11_factOf_128 (by decide) ?_
              exact st_ireturn rfl rfl dX11_factOf_129 w
            · replace w := w.2 c5
              by_cases c6 : x0 = 103
              · replace w := w.1 c6
                refine st_tableIn (off := 143) (tgt := 144) dX11_factOf_1 (by rw [c6]; decide) (by rw [c6]; decide) (by rw [c6]; decide) (by decide) ?_
                refine st_iconst (v := (-1)) dX11_factOf_144 (by decide) ?_
                exact st_ireturn rfl rfl dX11_factOf_145 w
              · replace w := w.2 c6
                by_cases c7 : x0 = 104
                · replace w := w.1 c7
                  refine st_tableIn (off := 143) (tgt := 144) dX11_factOf_1 (by rw [c7]; decide) (by rw [c7]; decide) (by rw [c7]; decide) (by decide) ?_
                  refine st_iconst (v := (-1)) dX11_factOf_144 (by decide) ?_
                  exact st_ireturn rfl rfl dX11_factOf_145 w
                · replace w := w.2 c7
                  by_cases c8 : x0 = 105
                  · replace w := w.1 c8
                    refine st_tableIn (off := 134) (tgt := 135) dX11_factOf_1 (by rw [c8]; decide) (by rw [c8]; decide) (by rw [c8]; decide) (by decide) ?_
                    refine st_bipush (v := 7) dX11_factOf_135 (by decide) ?_
                    exact st_ireturn rfl rfl dX11_factOf_137 w
                  · replace w := w.2 c8
                    by_cases c9 : x0 = 106
                    · replace w := w.1 c9
                      refine st_tableIn (off := 143) (tgt := 144) dX11_factOf_1 (by rw [c9]; decide) (by rw [c9]; decide) (by rw [c9]; decide) (by decide) ?_
                      refine st_iconst (v := (-1)) dX11_factOf_144 (by decide) ?_
                      exact st_ireturn rfl rfl dX11_factOf_145 w
                    · replace w := w.2 c9
                      by_cases c10 : x0 = 107
                      · replace w := w.1 c10
                        refine st_tableIn (off := 143) (tgt := 144) dX11_factOf_1 (by rw [c10]; decide) (by rw [c10]; decide) (by rw [c10]; decide) (by decide) ?_
                        refine st_iconst (v := (-1)) dX11_factOf_144 (by decide) ?_
                        exact st_ireturn rfl rfl dX11_factOf_145 w
                      · replace w := w.2 c10
                        by_cases c11 : x0 = 108
                        · replace w := w.1 c11
                          refine st_tableIn (off := 143) (tgt := 144) dX11_factOf_1 (by rw [c11]; decide) (by rw [c11]; decide) (by rw [c11]; decide) (by decide) ?_
                          refine st_iconst (v := (-1)) dX11_factOf_144 (by decide) ?_
                          exact st_ireturn rfl rfl dX11_factOf_145 w
                        · replace w := w.2 c11
                          by_cases c12 : x0 = 109
                          · replace w := w.1 c12
                            refine st_tableIn (off := 143) (tgt := 144) dX11_factOf_1 (by rw [c12]; decide) (by rw [c12]; decide) (by rw [c12]; decide) (by decide) ?_
                            refine st_iconst (v := (-1)) dX11_factOf_144 (by decide) ?_
                            exact st_ireturn rfl rfl dX11_factOf_145 w
                          · replace w := w.2 c12
                            by_cases c13 : x0 = 110
                            · replace w := w.1 c13
                              refine st_tableIn (off := 129) (tgt := 130) dX11_factOf_1 (by rw [c13]; decide) (by rw [c13]; decide) (by rw [c13]; decide) (by decide) ?_
                              refine st_iconst (v := 5) dX11_factOf_130 (by decide) ?_
                              exact st_ireturn rfl rfl dX11_factOf_131 w
                            · replace w := w.2 c13
                              by_cases c14 : x0 = 111
                              · replace w := w.1 c14
                                refine st_tableIn (off := 143) (tgt := 144) dX11_factOf_1 (by rw [c14]; decide) (by rw [c14]; decide) (by rw [c14]; decide) (by decide) ?_
                                refine st_iconst (v := (-1)) dX11_factOf_144 (by decide) ?_
                                exact st_ireturn rfl rfl dX11_factOf_145 w
                              · replace w := w.2 c14
                                by_cases c15 : x0 = 112
                                · replace w := w.1 c15
                                  refine st_tableIn (off := 119) (tgt := 120) dX11_factOf_1 (by rw [c15]; decide) (by rw [c15]; decide) (by rw [c15]; decide) (by decide) ?_
                                  refine st_iconst (v := 0) dX11_factOf_120 (by decide) ?_
                                  exact st_ireturn rfl rfl dX11_factOf_121 w
                                · replace w := w.2 c15
                                  by_cases c16 : x0 = 113
                                  · replace w := w.1 c16
                                    refine st_tableIn (off := 143) (tgt := 144) dX11_factOf_1 (by rw [c16]; decide) (by rw [c16]; decide) (by rw [c16]; decide) (by decide) ?_
                                    refine st_iconst (v := (-1)) dX11_factOf_144 (by decide) ?_
                                    exact st_ireturn rfl rfl dX11_factOf_145 w
                                  · replace w := w.2 c16
                                    by_cases c17 : x0 = 114
                                    · replace w := w.1 c17
                                      refine st_tableIn (off := 143) (tgt := 144) dX11_factOf_1 (by rw [c17]; decide) (by rw [c17]; decide) (by rw [c17]; decide) (by decide) ?_
                                      refine st_iconst (v := (-1)) dX11_factOf_144 (by decide) ?_
                                      exact st_ireturn rfl rfl dX11_factOf_145 w
                                    · replace w := w.2 c17
                                      by_cases c18 : x0 = 115
                                      · replace w := w.1 c18
                                        refine st_tableIn (off := 121) (tgt := 122) dX11_factOf_1 (by rw [c18]; decide) (by rw [c18]; decide) (by rw [c18]; decide) (by decide) ?_
                                        refine st_iconst (v := 1) dX11_factOf_122 (by decide) ?_
                                        exact st_ireturn rfl rfl dX11_factOf_123 w
                                      · replace w := w.2 c18
                                        by_cases c19 : x0 = 116
                                        · replace w := w.1 c19
                                          refine st_tableIn (off := 137) (tgt := 138) dX11_factOf_1 (by rw [c19]; decide) (by rw [c19]; decide) (by rw [c19]; decide) (by decide) ?_
                                          refine st_bipush (v := 8) dX11_factOf_138 (by decide) ?_
                                          exact st_ireturn rfl rfl dX11_factOf_140 w
                                        · replace w := w.2 c19
                                          by_cases c20 : x0 = 117
                                          · replace w := w.1 c20
                                            refine st_tableIn (off := 143) (tgt := 144) dX11_factOf_1 (by rw [c20]; decide) (by rw [c20]; decide) (by rw [c20]; decide) (by decide) ?_
                                            refine st_iconst (v := (-1)) dX11_factOf_144 (by decide) ?_
                                            exact st_ireturn rfl rfl dX11_factOf_145 w
                                          · replace w := w.2 c20
                                            by_cases c21 : x0 = 118
                                            · replace w := w.1 c21
                                              refine st_tableIn (off := 143) (tgt := 144) dX11_factOf_1 (by rw [c21]; decide) (by rw [c21]; decide) (by rw [c21]; decide) (by decide) ?_
                                              refine st_iconst (v := (-1)) dX11_factOf_144 (by decide) ?_
                                              exact st_ireturn rfl rfl dX11_factOf_145 w
                                            · replace w := w.2 c21
                                              by_cases c22 : x0 = 119
                                              · replace w := w.1 c22
                                                refine st_tableIn (off := 140) (tgt := 141) dX11_factOf_1 (by rw [c22]; decide) (by rw [c22]; decide) (by rw [c22]; decide) (by decide) ?_
                                                refine st_bipush (v := 9) dX11_factOf_141 (by decide) ?_
                                                exact st_ireturn rfl rfl dX11_factOf_143 w
                                              · replace w := w.2 c22
                                                by_cases c23 : x0 = 120
                                                · replace w := w.1 c23
                                                  refine st_tableIn (off := 143) (tgt := 144) dX11_factOf_1 (by rw [c23]; decide) (by rw [c23]; decide) (by rw [c23]; decide) (by decide) ?_
                                                  refine st_iconst (v := (-1)) dX11_factOf_144 (by decide) ?_
                                                  exact st_ireturn rfl rfl dX11_factOf_145 w
                                                · replace w := w.2 c23
                                                  by_cases c24 : x0 = 121
                                                  · replace w := w.1 c24
                                                    refine st_tableIn (off := 143) (tgt := 144) dX11_factOf_1 (by rw [c24]; decide) (by rw [c24]; decide) (by rw [c24]; decide) (by decide) ?_
                                                    refine st_iconst (v := (-1)) dX11_factOf_144 (by decide) ?_
                                                    exact st_ireturn rfl rfl dX11_factOf_145 w
                                                  · replace w := w.2 c24
                                                    by_cases c25 : x0 = 122
                                                    · replace w := w.1 c25
                                                      refine st_tableIn (off := 123) (tgt := 124) dX11_factOf_1 (by rw [c25]; decide) (by rw [c25]; decide) (by rw [c25]; decide) (by decide) ?_
                                                      refine st_iconst (v := 2) dX11_factOf_124 (by decide) ?_
                                                      exact st_ireturn rfl rfl dX11_factOf_125 w
                                                    · replace w := w.2 c25
                                                      refine st_tableOut (tgt := 144) dX11_factOf_1 (am_tout (lo := 97) (hi := 122) (fun v hv1 hv2 hv => ?_)) (by decide) ?_
                                                      · have hq : v = 97 ∨ v = 98 ∨ v = 99 ∨ v = 100 ∨ v = 101 ∨ v = 102 ∨ v = 103 ∨ v = 104 ∨ v = 105 ∨ v = 106 ∨ v = 107 ∨ v = 108 ∨ v = 109 ∨ v = 110 ∨ v = 111 ∨ v = 112 ∨ v = 113 ∨ v = 114 ∨ v = 115 ∨ v = 116 ∨ v = 117 ∨ v = 118 ∨ v = 119 ∨ v = 120 ∨ v = 121 ∨ v = 122 := by omega
                                                        rcases hq with rfl | rfl | rfl | rfl | rfl | rfl | rfl | rfl | rfl | rfl | rfl | rfl | rfl | rfl | rfl | rfl | rfl | rfl | rfl | rfl | rfl | rfl | rfl | rfl | rfl | rfl
                                                        · exact c0 (am_toI hv (by decide))
                                                        · exact c1 (am_toI hv (by decide))
                                                        · exact c2 (am_toI hv (by decide))
                                                        · exact c3 (am_toI hv (by decide))
                                                        · exact c4 (am_toI hv (by decide))
                                                        · exact c5 (am_toI hv (by decide))
                                                        · exact c6 (am_toI hv (by decide))
                                                        · exact c7 (am_toI hv (by decide))
                                                        · exact c8 (am_toI hv (by decide))
                                                        · exact c9 (am_toI hv (by decide))
                                                        · exact c10 (am_toI hv (by decide))
                                                        · exact c11 (am_toI hv (by decide))
                                                        · exact c12 (am_toI hv (by decide))
                                                        · exact c13 (am_toI hv (by decide))
                                                        · exact c14 (am_toI hv (by decide))
                                                        · exact c15 (am_toI hv (by decide))
                                                        · exact c16 (am_toI hv (by decide))
                                                        · exact c17 (am_toI hv (by decide))
                                                        · exact c18 (am_toI hv (by decide))
                                                        · exact c19 (am_toI hv (by decide))
                                                        · exact c20 (am_toI hv (by decide))
                                                        · exact c21 (am_toI hv (by decide))
                                                        · exact c22 (am_toI hv (by decide))
                                                        · exact c23 (am_toI hv (by decide))
                                                        · exact c24 (am_toI hv (by decide))
                                                        · exact c25 (am_toI hv (by decide))
                                                      · refine st_iconst (v := (-1)) dX11_factOf_144 (by decide) ?_
                                                        exact st_ireturn rfl rfl dX11_factOf_145 w
set_option maxRecDepth 20000 in
set_option maxHeartbeats 2000000 in
theorem sX11_readsNumber_0 {d : Nat} {h : am_H} {Z : Int32 → am_H → Prop}  (w : (∀ h1 : am_H, h1 = am_sI h 73 13 0 → (Ru mX11_readsNumber none d 10 [.ref 73, .int (h.1 73 10)] [] h1 Z))) : Ru mX11_readsNumber none d 0 [.ref 73, .null] [] h Z := by
  refine st_aload_n dX11_readsNumber_0 rfl ?_
  refine st_getI fl_X11_164 fk_11_10 dX11_readsNumber_1 sh_73 ?_
  refine st_istore_n (L' := [.ref 73, .int (h.1 73 10)]) dX11_readsNumber_4 (by decide) rfl ?_
  refine st_aload_n dX11_readsNumber_5 rfl ?_
  refine st_iconst (v := 0) dX11_readsNumber_6 (by decide) ?_
  refine st_putI flp_X11_180 fk_11_13 dX11_readsNumber_7 sh_73 (fun h1 eh1 => ?_)
  replace w := w h1 eh1
  exact w
set_option maxRecDepth 20000 in
set_option maxHeartbeats 2000000 in
theorem sX11_readsNumber_10 {d : Nat} {h : am_H} {Z : Int32 → am_H → Prop} {x1 : Int32} (hd : 3 ≤ d) (w : (am_hok h ∧ ((¬ (48 ≤ am_hr h ∧ am_hr h ≤ 57) → Z 1 h) ∧ (48 ≤ am_hr h ∧ am_hr h ≤ 57 → (¬ (h.1 73 10) = (x1 + 5) → (∀ h2 : am_H, h2 = am_sI h 73 13 (((10 * (h.1 73 13)) + (am_hr h)) - 48) → (∀ h3 : am_H, h3 = am_sI h2 73 10 ((h2.1 73 10) + 1) → (Ru mX11_readsNumber none d 10 [.ref 73, .int x1] [] h3 Z)))) ∧ ((h.1 73 10) = (x1 + 5) → (((0 : Int32) = 0 ∨ (0 : Int32) = 1) ∧ (Z (0 : Int32) (am_sI h 73 12 ((-1000) * (2 : Int32) - (h.1 73 10)))))))))) : Ru mX11_readsNumber none d 10 [.ref 73, .int x1] [] h Z := by
  refine st_aload_n dX11_readsNumber_10 rfl ?_
  have hc1 := w.1
  replace w := w.2
  refine st_callV (M' := mX11_isDigit) [] [] dX11_readsNumber_11 ml_X11_183 mf_X11_isDigit mv_X11_isDigit sh_73 rfl rfl rfl (K := fun r h' => (am_b (48 ≤ am_hr h ∧ am_hr h ≤ 57)) = r ∧ h = h') ⟨2, by omega, iX11_isDigit (by omega) hc1 ⟨rfl, rfl⟩⟩ (fun r1 h1 w1 => ?_)
  obtain ⟨rfl, rfl⟩ := w1
  show Ru mX11_readsNumber none d 14 [.ref 73, .int x1] [.int (am_b (48 ≤ am_hr h ∧ am_hr h ≤ 57))] h Z
  refine st_ifb_eq (tgt := 69) dX11_readsNumber_14 (by decide) (fun c => ?_) (fun c => ?_)
  · replace w := w.1 c
    refine st_iconst (v := 1) dX11_readsNumber_69 (by decide) ?_
    exact st_ireturn rfl rfl dX11_readsNumber_70 w
  · replace w := w.2 c
    refine st_aload_n dX11_readsNumber_17 rfl ?_
    refine st_getI fl_X11_164 fk_11_10 dX11_readsNumber_18 sh_73 ?_
    refine st_iload_n dX11_readsNumber_21 rfl ?_
    refine st_iconst (v := 5) dX11_readsNumber_22 (by decide) ?_
    refine st_iadd dX11_readsNumber_23 ?_
    refine st_icmp_ne (tgt := 37) dX11_readsNumber_24 (by decide) (fun c => ?_) (fun c => ?_)
    · replace w := w.1 c
      refine st_aload_n dX11_readsNumber_37 rfl ?_
      refine st_bipush (v := 10) dX11_readsNumber_38 (by decide) ?_
      refine st_aload_n dX11_readsNumber_40 rfl ?_
      refine st_getI fl_X11_180 fk_11_13 dX11_readsNumber_41 sh_73 ?_
      refine st_imul dX11_readsNumber_44 ?_
      refine st_aload_n dX11_readsNumber_45 rfl ?_
      refine st_callV (M' := mX11_here) [] [.int (10 * (h.1 73 13)), .ref 73] dX11_readsNumber_46 ml_X11_170 mf_X11_here mv_X11_here sh_73 rfl rfl rfl (K := fun r h' => (am_hr h) = r ∧ h = h') ⟨1, by omega, iX11_here hc1 ⟨rfl, rfl⟩⟩ (fun r1 h1 w1 => ?_)
      obtain ⟨rfl, rfl⟩ := w1
      show Ru mX11_readsNumber none d 49 [.ref 73, .int x1] [.int (am_hr h), .int (10 * (h.1 73 13)), .ref 73] h Z
      refine st_iadd dX11_readsNumber_49 ?_
      refine st_bipush (v := 48) dX11_readsNumber_50 (by decide) ?_
      refine st_isub dX11_readsNumber_52 ?_
      refine st_putI flp_X11_180 fk_11_13 dX11_readsNumber_53 sh_73 (fun h2 eh2 => ?_)
      replace w := w h2 eh2
      refine st_aload_n dX11_readsNumber_56 rfl ?_
      refine st_aload_n dX11_readsNumber_57 rfl ?_
      refine st_getI fl_X11_164 fk_11_10 dX11_readsNumber_58 sh_73 ?_
      refine st_iconst (v := 1) dX11_readsNumber_61 (by decide) ?_
      refine st_iadd dX11_readsNumber_62 ?_
      refine st_putI flp_X11_164 fk_11_10 dX11_readsNumber_63 sh_73 (fun h3 eh3 => ?_)
      replace w := w h3 eh3
      refine st_goto (tgt := 10) dX11_readsNumber_66 (by decide) ?_
      exact w
    · replace w := w.2 c
      refine st_aload_n dX11_readsNumber_27 rfl ?_
      refine st_iconst (v := 2) dX11_readsNumber_28 (by decide) ?_
      refine st_aload_n dX11_readsNumber_29 rfl ?_
      refine st_getI fl_X11_164 fk_11_10 dX11_readsNumber_30 sh_73 ?_
      refine st_callV (M' := mX11_wrongAt) [.int 2, .int (h.1 73 10)] [] dX11_readsNumber_33 ml_X11_177 mf_X11_wrongAt mv_X11_wrongAt sh_73 rfl rfl rfl (K := fun r h' => (0 : Int32) = r ∧ am_sI h 73 12 ((-1000) * (2 : Int32) - (h.1 73 10)) = h') ⟨1, by omega, iX11_wrongAt ⟨rfl, rfl⟩⟩ (fun r1 h1 w1 => ?_)
      obtain ⟨rfl, rfl⟩ := w1
      show Ru mX11_readsNumber none d 36 [.ref 73, .int x1] [.int (0 : Int32)] (am_sI h 73 12 ((-1000) * (2 : Int32) - (h.1 73 10))) Z
      have hc4 := w.1
      replace w := w.2
      exact st_ireturn rfl (am_nb hc4) dX11_readsNumber_36 w
def lr_fr (h h' : am_H) : Prop := (∀ a, a ≠ 81 → a ≠ 82 → h'.2.2 a = h.2.2 a) ∧ (∀ a k, ¬ (a = 73 ∧ 10 ≤ k ∧ k ≤ 16 ∧ k ≠ 11) → h'.1 a k = h.1 a k) ∧ h'.2.1 = h.2.1
theorem lr_fr_rf (h : am_H) : lr_fr h h := ⟨fun _ _ _ => rfl, fun _ _ _ => rfl, rfl⟩
theorem lr_fr_tr {h h1 h2 : am_H} (p : lr_fr h h1) (q : lr_fr h1 h2) : lr_fr h h2 := ⟨fun a n1 n2 => (q.1 a n1 n2).trans (p.1 a n1 n2), fun a k n1 => (q.2.1 a k n1).trans (p.2.1 a k n1), q.2.2.trans p.2.2⟩
theorem lr_fr_sI {h h1 : am_H} {j : Nat} {x : Int32} (p : lr_fr h h1) (hj : 10 ≤ j ∧ j ≤ 16 ∧ j ≠ 11) : lr_fr h (am_sI h1 73 j x) := ⟨p.1, fun a k n1 => by rw [am_gI, if_neg (fun e => n1 ⟨e.1, by omega⟩)]; exact p.2.1 a k n1, p.2.2⟩
theorem lr_fr_sR {h h1 : am_H} {a : Nat} {f : Nat → Int32} (p : lr_fr h h1) (ha : a = 81 ∨ a = 82) : lr_fr h (am_sR h1 a f) := ⟨fun a' n1 n2 => by rw [am_gR, if_neg (by omega)]; exact p.1 a' n1 n2, p.2.1, p.2.2⟩
/-- the reference reads: place k, m codes S, w waiting A, o open -/
def lr_H (t : Nat → Nat) (n : Nat) (h0 h : am_H) (k m w o : Nat) (S A : Nat → Int32) : Prop := am_ms t n k h ∧ h.1 73 14 = nI o ∧ h.1 73 15 = nI m ∧ h.1 73 16 = nI w ∧ h.2.2 81 = S ∧ h.2.2 82 = A ∧ lr_fr h0 h
def lr_tp (A : Nat → Int32) (w : Nat) : Int32 := if w = 0 then -1 else A (w - 1) / 1048576
section
variable {d n k m w o : Nat} {h h0 : am_H} {Z : Int32 → am_H → Prop} {t : Nat → Nat} {S A : Nat → Int32}
theorem lr_nx (H : lr_H t n h0 h k m w o S A) (hk : k < n) : lr_H t n h0 (am_sI h 73 10 (h.1 73 10 + 1)) (k + 1) m w o S A := by
  obtain ⟨a1, a2, a3, a4, a5, a6, a7⟩ := H
  exact ⟨am_ms_nx a1 hk, by rw [am_gI, if_neg (by decide)]; exact a2, by rw [am_gI, if_neg (by decide)]; exact a3, by rw [am_gI, if_neg (by decide)]; exact a4, a5, a6, lr_fr_sI a7 (by omega)⟩
theorem lr_13 {x : Int32} (H : lr_H t n h0 h k m w o S A) : lr_H t n h0 (am_sI h 73 13 x) k m w o S A := by
  obtain ⟨a1, a2, a3, a4, a5, a6, a7⟩ := H
  exact ⟨am_ms_sI a1 (by decide) (by decide), by rw [am_gI, if_neg (by decide)]; exact a2, by rw [am_gI, if_neg (by decide)]; exact a3, by rw [am_gI, if_neg (by decide)]; exact a4, a5, a6, lr_fr_sI a7 (by omega)⟩
theorem lr_14 {o' : Nat} {x : Int32} (H : lr_H t n h0 h k m w o S A) (e : x = nI o') : lr_H t n h0 (am_sI h 73 14 x) k m w o' S A := by
  obtain ⟨a1, a2, a3, a4, a5, a6, a7⟩ := H
  exact ⟨am_ms_sI a1 (by decide) (by decide), by rw [am_gI, if_pos ⟨rfl, rfl⟩]; exact e, by rw [am_gI, if_neg (by decide)]; exact a3, by rw [am_gI, if_neg (by decide)]; exact a4, a5, a6, lr_fr_sI a7 (by omega)⟩
theorem lr_15 {m' : Nat} {x : Int32} (H : lr_H t n h0 h k m w o S A) (e : x = nI m') : lr_H t n h0 (am_sI h 73 15 x) k m' w o S A := by
  obtain ⟨a1, a2, a3, a4, a5, a6, a7⟩ := H
  exact ⟨am_ms_sI a1 (by decide) (by decide), by rw [am_gI, if_neg (by decide)]; exact a2, by rw [am_gI, if_pos ⟨rfl, rfl⟩]; exact e, by rw [am_gI, if_neg (by decide)]; exact a4, a5, a6, lr_fr_sI a7 (by omega)⟩
theorem lr_16 {w' : Nat} {x : Int32} (H : lr_H t n h0 h k m w o S A) (e : x = nI w') : lr_H t n h0 (am_sI h 73 16 x) k m w' o S A := by
  obtain ⟨a1, a2, a3, a4, a5, a6, a7⟩ := H
  exact ⟨am_ms_sI a1 (by decide) (by decide), by rw [am_gI, if_neg (by decide)]; exact a2, by rw [am_gI, if_neg (by decide)]; exact a3, by rw [am_gI, if_pos ⟨rfl, rfl⟩]; exact e, a5, a6, lr_fr_sI a7 (by omega)⟩
theorem lr_81 {f : Nat → Int32} (H : lr_H t n h0 h k m w o S A) : lr_H t n h0 (am_sR h 81 f) k m w o f A := by
  obtain ⟨a1, a2, a3, a4, a5, a6, a7⟩ := H
  exact ⟨am_ms_sR a1 (by decide), a2, a3, a4, am_gRs h 81 f, by rw [am_gR, if_neg (by decide)]; exact a6, lr_fr_sR a7 (Or.inl rfl)⟩
theorem lr_82 {f : Nat → Int32} (H : lr_H t n h0 h k m w o S A) : lr_H t n h0 (am_sR h 82 f) k m w o S f := by
  obtain ⟨a1, a2, a3, a4, a5, a6, a7⟩ := H
  exact ⟨am_ms_sR a1 (by decide), a2, a3, a4, by rw [am_gR, if_neg (by decide)]; exact a5, am_gRs h 82 f, lr_fr_sR a7 (Or.inr rfl)⟩
theorem lr_wok (H : lr_H t n h0 h k m w o S A) (hw : w ≤ 260) : am_wok h := fun c => by
  rw [H.2.2.2.1] at c ⊢
  have : w ≠ 0 := fun e => c (by rw [e]; rfl)
  rw [show nI w - 1 = nI (w - 1) from am_sub_n (c := 1) (by omega)]
  exact vp_in_nI (by omega) (by omega)
theorem lr_wt (H : lr_H t n h0 h k m w o S A) (hw : w ≤ 260) : am_wt h = lr_tp A w := by
  unfold am_wt lr_tp
  rw [H.2.2.2.1, H.2.2.2.2.2.1]
  by_cases c : w = 0
  · rw [if_pos c, if_pos (by rw [c]; rfl)]
  · rw [if_neg c, if_neg (show ¬ nI w = 0 from fun e => c ((nI_eq (b := 0) (by omega) (by omega)).mp e)), show nI w - 1 = nI (w - 1) from am_sub_n (c := 1) (by omega), nI_clamp (by omega)]
theorem lr_u (x : Nat) : (1048576 : Int32) * nI x = nI (x * 2 ^ 20) := by
  rw [show (1048576 : Int32) * nI x = nI (1048576 * x) from pk_mul 1048576 x, Nat.mul_comm]
theorem lr_dv {x v : Nat} (hv : v < 2 ^ 20) (hx : x < 64) : nI (x * 2 ^ 20 + v) / 1048576 = nI x := by
  rw [show (1048576 : Int32) = nI 1048576 from rfl, pk_div (by omega) (by omega) (by omega)]
  congr 1; omega
theorem lr_tpv {x v : Nat} (hv : v < 2 ^ 20) (hx : x < 64) (hw : 0 < w) (e : A (w - 1) = nI (x * 2 ^ 20 + v)) : lr_tp A w = nI x := by
  unfold lr_tp; rw [if_neg (by omega), e]; exact lr_dv hv hx
theorem iX11_notes {x v : Nat} (hm : m < 260) (H : lr_H t n h0 h k m w o S A) (z : ∀ h', lr_H t n h0 h' k (m + 1) w o (upd S m (nI (x * 2 ^ 20 + v))) A → Z 0 h') : Sp mX11_notes d [.ref 73, .int (nI x), .int (nI v)] h Z := by
  refine Sp_of mf_X11_notes rfl (Nat.le_of_ble_eq_true rfl) rfl (sX11_notes_0 ?_)
  rw [H.2.2.1]
  refine ⟨vp_in_nI hm (by omega), fun h2 e2 h3 e3 => z h3 ?_⟩
  rw [nI_clamp (by omega), lr_u, nI_add, H.2.2.2.2.1] at e2
  have H2 : lr_H t n h0 h2 k m w o (upd S m (nI (x * 2 ^ 20 + v))) A := by rw [e2]; exact lr_81 H
  rw [e3, H2.2.2.1, nI_1]
  exact lr_15 H2 rfl
theorem iX11_notes0 {x : Nat} (hm : m < 260) (H : lr_H t n h0 h k m w o S A) (z : ∀ h', lr_H t n h0 h' k (m + 1) w o (upd S m (nI (x * 2 ^ 20))) A → Z 0 h') : Sp mX11_notes d [.ref 73, .int (nI x), .int 0] h Z := by
  have e : (0 : Int32) = nI 0 := rfl
  rw [e]
  refine iX11_notes hm H (fun h' H' => z h' ?_)
  generalize x * 2 ^ 20 = y at H' ⊢
  exact H'
theorem iX11_opens {x : Nat} (hd : 2 ≤ d) (hw : w < 260) (ho : o ≤ 6) (hk : k < n) (H : lr_H t n h0 h k m w o S A) (z1 : o < 6 → ∀ h', lr_H t n h0 h' (k + 1) m (w + 1) (o + 1) S (upd A w (nI (x * 2 ^ 20))) → Z 1 h') (z0 : o = 6 → ∀ h', lr_fr h0 h' → h'.1 73 12 = am_ft 5 k → Z 0 h') : Sp mX11_opens d [.ref 73, .int (nI x)] h Z := by
  refine Sp_of mf_X11_opens rfl (Nat.le_of_ble_eq_true rfl) rfl (sX11_opens_0 hd ?_)
  rw [H.2.1]
  refine ⟨fun c h1 e1 => ?_, fun c => ⟨Or.inl rfl, z0 ((nI_eq (b := 6) (by omega) (by omega)).mp c) _ (lr_fr_sI H.2.2.2.2.2.2 (by omega)) ?_⟩⟩
  · have o6 : o < 6 := by
      rcases Nat.lt_or_ge o 6 with q | q
      · exact q
      · exact absurd (by rw [show o = 6 by omega]; rfl) c
    rw [nI_1] at e1
    have H1 : lr_H t n h0 h1 k m w (o + 1) S A := by rw [e1]; exact lr_14 H rfl
    rw [H1.2.2.2.1]
    refine ⟨vp_in_nI hw (by omega), fun h3 e3 h4 e4 h5 e5 => z1 o6 h5 ?_⟩
    rw [nI_clamp (by omega), lr_u, H1.2.2.2.2.2.1] at e3
    have H3 : lr_H t n h0 h3 k m w (o + 1) S (upd A w (nI (x * 2 ^ 20))) := by rw [e3]; exact lr_82 H1
    rw [H3.2.2.2.1, nI_1] at e4
    have H4 : lr_H t n h0 h4 k m (w + 1) (o + 1) S (upd A w (nI (x * 2 ^ 20))) := by rw [e4]; exact lr_16 H3 rfl
    rw [e5]; exact lr_nx H4 hk
  · rw [am_gI, if_pos ⟨rfl, rfl⟩, H.1.2.1]; rfl
/-- a sum's frame: a sign that adds and one that multiplies may wait -/
def lr_ok (a b : Nat) : Prop := (a = 0 ∨ a = 2 ∨ a = 3) ∧ (b = 0 ∨ b = 4 ∨ b = 5 ∨ b = 6)
def lr_e (x : Nat) : Nat := if x = 0 then 0 else 1
def lr_f (A : Nat → Int32) (w0 a b w : Nat) : Prop := (a ≠ 0 → A w0 = nI (a * 2 ^ 20)) ∧ (b ≠ 0 → A (w0 + lr_e a) = nI (b * 2 ^ 20)) ∧ w = w0 + lr_e a + lr_e b
/-- below it: nothing, or no sign -/
def lr_bt (A : Nat → Int32) (w0 : Nat) : Prop := w0 = 0 ∨ ∃ x v, 7 ≤ x ∧ x < 64 ∧ v < 2 ^ 20 ∧ A (w0 - 1) = nI (x * 2 ^ 20 + v)
theorem lr_bt_tp {w0 : Nat} (h : lr_bt A w0) : lr_tp A w0 = -1 ∨ ∃ x, 7 ≤ x ∧ x < 64 ∧ lr_tp A w0 = nI x := by
  by_cases c : w0 = 0
  · left; unfold lr_tp; rw [if_pos c]
  · rcases h with q | ⟨x, v, h1, h2, h3, h4⟩
    · exact absurd q c
    · exact Or.inr ⟨x, h1, h2, lr_tpv h3 h2 (by omega) h4⟩
def lr_w (S : Nat → Int32) (m b : Nat) : Nat → Int32 := if b = 0 then S else upd S m (nI (b * 2 ^ 20))
/-- closesSums stops -/
theorem x_cs_stop {x1 : Int32} (hd : 3 ≤ d) (hw : w ≤ 260) (H : lr_H t n h0 h k m w o S A) (hs : lr_tp A w = -1 ∨ (∃ x, 7 ≤ x ∧ x < 64 ∧ lr_tp A w = nI x) ∨ (x1 = 0 ∧ ∃ x, x < 4 ∧ lr_tp A w = nI x)) (z : Z 0 h) : Ru mX11_closesSums none d 0 [.ref 73, .int x1] [] h Z := by
  have wt := lr_wt H hw
  have ok := lr_wok H hw
  have st17 : (x1 = 0 ∨ (¬ lr_tp A w = 2 ∧ ¬ lr_tp A w = 3)) → Ru mX11_closesSums none d 17 [.ref 73, .int x1] [] h Z := fun c => by
    refine sX11_closesSums_17 (by omega) ⟨fun _ => z, fun c2 => ⟨ok, ?_⟩⟩
    rw [wt]
    rcases c with c | c
    · exact absurd c c2
    · exact ⟨fun q => absurd q c.1, fun _ => ⟨fun _ => z, fun q => absurd q c.2⟩⟩
  refine sX11_closesSums_0c (by omega) ⟨ok, ?_⟩
  rw [wt]
  rcases hs with e | ⟨x, h1, h2, e⟩ | ⟨e0, x, h1, e⟩
  · rw [e] at st17 ⊢
    exact ⟨fun _ => st17 (Or.inr ⟨by decide, by decide⟩), fun q => absurd (by decide) q⟩
  · have e2 : ∀ j : Nat, j < 4 → ¬ lr_tp A w = nI j := fun j hj q => by
      rw [e] at q
      have := (nI_eq (by omega) (by omega)).mp q
      omega
    have s := st17 (Or.inr ⟨e2 2 (by omega), e2 3 (by omega)⟩)
    refine ⟨fun _ => s, fun _ => ⟨fun q => ?_, fun _ => s⟩⟩
    rw [e] at q
    exact absurd q (nI_ge (a := 6) (by omega) (by omega))
  · have s := st17 (Or.inl e0)
    refine ⟨fun _ => s, fun q => ?_⟩
    rw [e] at q
    exact absurd (nI_lt (b := 4) h1 (by omega)) q
/-- it takes a sign away -/
theorem x_cs_pop {x1 : Int32} {x : Nat} (hd : 3 ≤ d) (hw : w + 1 ≤ 260) (hm : m < 260) (H : lr_H t n h0 h k m (w + 1) o S A) (e : A w = nI (x * 2 ^ 20)) (hx : (4 ≤ x ∧ x ≤ 6) ∨ (¬ x1 = 0 ∧ (x = 2 ∨ x = 3))) (z : ∀ h', lr_H t n h0 h' k (m + 1) w o (upd S m (nI (x * 2 ^ 20))) A → Ru mX11_closesSums none d 0 [.ref 73, .int x1] [] h' Z) : Ru mX11_closesSums none d 0 [.ref 73, .int x1] [] h Z := by
  have wt := lr_wt H hw
  have ok := lr_wok H hw
  have et : lr_tp A (w + 1) = nI x := lr_tpv (v := 0) (by omega) (by omega) (by omega) (by rw [Nat.add_sub_cancel, Nat.add_zero]; exact e)
  rw [et] at wt
  have go : am_cl mX11_notes d [.ref 73, .int (nI x), .int 0] h (fun r7 h8 => ∀ h9 : am_H, h9 = am_sI h8 73 16 ((h8.1 73 16) - 1) → Ru mX11_closesSums none d 0 [.ref 73, .int x1] [] h9 Z) := by
    refine ⟨2, by omega, iX11_notes0 hm H (fun h8 H8 h9 e9 => ?_)⟩
    rw [H8.2.2.2.1, show nI (w + 1) - 1 = nI w from am_sub_n (a := w + 1) (c := 1) (by omega)] at e9
    have H9 := lr_16 (w' := w) H8 rfl
    rw [← e9] at H9
    exact z h9 H9
  refine sX11_closesSums_0c (by omega) ⟨ok, ?_⟩
  rw [wt]
  rcases hx with ⟨g1, g2⟩ | ⟨g0, g1⟩
  · exact ⟨fun q => absurd q (Int32.not_lt.mpr (nI_le (a := 4) g1 (by omega))), fun _ => ⟨fun _ => go, fun q => absurd (nI_le (b := 6) g2 (by omega)) q⟩⟩
  · refine ⟨fun _ => sX11_closesSums_17 (by omega) ⟨fun q => absurd q g0, fun _ => ⟨ok, ?_⟩⟩, fun q => absurd (nI_lt (b := 4) (by omega) (by omega)) q⟩
    rw [wt]
    rcases g1 with rfl | rfl
    · exact ⟨fun _ => go, fun q => absurd rfl q⟩
    · exact ⟨fun q => absurd q (by decide), fun _ => ⟨fun q => absurd rfl q, fun _ => go⟩⟩
theorem lr_e_0 : lr_e 0 = 0 := rfl
theorem lr_e_1 {x : Nat} (h : x ≠ 0) : lr_e x = 1 := if_neg h
theorem lr_w_1 {x m : Nat} {S : Nat → Int32} (h : x ≠ 0) : lr_w S m x = upd S m (nI (x * 2 ^ 20)) := if_neg h
/-- closesSums of a frame -/
theorem iX11_closes0 {w0 a b : Nat} (hd : 4 ≤ d) (hw : w ≤ 260) (hm : m < 260) (H : lr_H t n h0 h k m w o S A) (hf : lr_f A w0 a b w) (hk : lr_ok a b) (hb : lr_bt A w0) (z : ∀ h', lr_H t n h0 h' k (m + lr_e b) (w0 + lr_e a) o (lr_w S m b) A → Z 0 h') : Sp mX11_closesSums d [.ref 73, .int 0] h Z := by
  refine Sp_of mf_X11_closesSums rfl (Nat.le_of_ble_eq_true rfl) rfl ?_
  obtain ⟨f1, f2, f3⟩ := hf
  have fin : ∀ (m : Nat) (S : Nat → Int32) (h : am_H), lr_H t n h0 h k m (w0 + lr_e a) o S A → Z 0 h → Ru mX11_closesSums none d 0 [.ref 73, .int 0] [] h Z := fun m S h H z => by
    refine x_cs_stop (by omega) (by omega) H ?_ z
    by_cases c : a = 0
    · rw [c, lr_e_0, Nat.add_zero]
      rcases lr_bt_tp hb with q | q
      · exact Or.inl q
      · exact Or.inr (Or.inl q)
    · rw [lr_e_1 c]
      have hk1 := hk.1
      exact Or.inr (Or.inr ⟨rfl, a, by omega, lr_tpv (v := 0) (by omega) (by omega) (by omega) (by rw [Nat.add_sub_cancel, Nat.add_zero]; exact f1 c)⟩)
  by_cases c : b = 0
  · subst c
    rw [lr_e_0, Nat.add_zero] at f3
    subst f3
    exact fin m S h H (z h H)
  · rw [lr_e_1 c] at f3 z
    rw [lr_w_1 c] at z
    subst f3
    have hk2 := hk.2
    exact x_cs_pop (by omega) hw hm H (f2 c) (Or.inl (by omega)) (fun h' H' => fin _ _ h' H' (z h' H'))
theorem iX11_closes1 {w0 a b : Nat} (hd : 4 ≤ d) (hw : w ≤ 260) (hm : m + 1 < 260) (H : lr_H t n h0 h k m w o S A) (hf : lr_f A w0 a b w) (hk : lr_ok a b) (hb : lr_bt A w0) (z : ∀ h', lr_H t n h0 h' k (m + lr_e b + lr_e a) w0 o (lr_w (lr_w S m b) (m + lr_e b) a) A → Z 0 h') : Sp mX11_closesSums d [.ref 73, .int 1] h Z := by
  refine Sp_of mf_X11_closesSums rfl (Nat.le_of_ble_eq_true rfl) rfl ?_
  obtain ⟨f1, f2, f3⟩ := hf
  have fin : ∀ (h : am_H), lr_H t n h0 h k (m + lr_e b) (w0 + lr_e a) o (lr_w S m b) A → Ru mX11_closesSums none d 0 [.ref 73, .int 1] [] h Z := fun h H => by
    have stop : ∀ (m : Nat) (S : Nat → Int32) (h : am_H), lr_H t n h0 h k m w0 o S A → Z 0 h → Ru mX11_closesSums none d 0 [.ref 73, .int 1] [] h Z := fun m S h H z => by
      refine x_cs_stop (by omega) (by omega) H ?_ z
      rcases lr_bt_tp hb with q | q
      · exact Or.inl q
      · exact Or.inr (Or.inl q)
    by_cases c : a = 0
    · subst c
      rw [lr_e_0, Nat.add_zero] at H z
      exact stop _ _ h H (z h H)
    · rw [lr_e_1 c] at H z f3
      rw [lr_w_1 c] at z
      have hk1 := hk.1
      have : lr_e b ≤ 1 := by unfold lr_e; split <;> omega
      exact x_cs_pop (by omega) (by omega) (by omega) H (f1 c) (Or.inr ⟨by decide, by omega⟩) (fun h' H' => stop _ _ h' H' (z h' H'))
  by_cases c : b = 0
  · subst c
    rw [lr_e_0, Nat.add_zero] at f3
    subst f3
    exact fin h H
  · have f3' := f3
    rw [lr_e_1 c] at f3'
    subst f3'
    have hk2 := hk.2
    refine x_cs_pop (by omega) hw (by omega) H (f2 c) (Or.inl (by omega)) (fun h' H' => fin h' ?_)
    rw [lr_e_1 c, lr_w_1 c]; exact H'
end
