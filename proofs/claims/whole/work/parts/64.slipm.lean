-- the slip: the reference reads
set_option maxRecDepth 20000 in
set_option maxHeartbeats 2000000 in
theorem sX11_readsTimes_0 {d : Nat} {h : am_H} {Z : Int32 → am_H → Prop}  (hd : 2 ≤ d) (w : (∀ h1 : am_H, h1 = am_sI h 73 51 (h.1 73 10) → (∀ h2 : am_H, h2 = am_sI h1 73 52 1 → (am_hok h2 ∧ (((50 : Int32) ≤ (am_hr h2) ∧ (am_hr h2) ≤ (57 : Int32) → (∀ h4 : am_H, h4 = am_sI h2 73 52 ((am_hr h2) - 48) → (∀ h5 : am_H, h5 = am_sI h4 73 10 ((h4.1 73 10) + 1) → (Z 0 h5)))) ∧ (¬ ((50 : Int32) ≤ (am_hr h2) ∧ (am_hr h2) ≤ (57 : Int32)) → Z 0 h2)))))) : Ru mX11_readsTimes none d 0 [.ref 73] [] h Z := by
  refine st_aload_n dX11_readsTimes_0 rfl ?_
  refine st_aload_n dX11_readsTimes_1 rfl ?_
  refine st_getI fl_X11_164 fk_11_10 dX11_readsTimes_2 sh_73 ?_
  refine st_putI flp_X11_346 fk_11_51 dX11_readsTimes_5 sh_73 (fun h1 eh1 => ?_)
  replace w := w h1 eh1
  refine st_aload_n dX11_readsTimes_8 rfl ?_
  refine st_iconst (v := 1) dX11_readsTimes_9 (by decide) ?_
  refine st_putI flp_X11_349 fk_11_52 dX11_readsTimes_10 sh_73 (fun h2 eh2 => ?_)
  replace w := w h2 eh2
  refine st_aload_n dX11_readsTimes_13 rfl ?_
  have hc3 := w.1
  replace w := w.2
  refine st_callV (M' := mX11_here) [] [] dX11_readsTimes_14 ml_X11_170 mf_X11_here mv_X11_here sh_73 rfl rfl rfl (K := fun r h' => (am_hr h2) = r ∧ h2 = h') ⟨1, by omega, iX11_here hc3 ⟨rfl, rfl⟩⟩ (fun r1 h1 w1 => ?_)
  obtain ⟨rfl, rfl⟩ := w1
  show Ru mX11_readsTimes none d 17 [.ref 73] [.int (am_hr h2)] h2 Z
  refine st_bipush (v := 50) dX11_readsTimes_17 (by decide) ?_
  refine st_bipush (v := 57) dX11_readsTimes_19 (by decide) ?_
  refine st_callS (M' := mX11_in) [.int (am_hr h2), .int 50, .int 57] [] dX11_readsTimes_21 ml_X11_125 mf_X11_in ms_X11_in rfl rfl rfl (K := fun r h' => (am_b ((50 : Int32) ≤ (am_hr h2) ∧ (am_hr h2) ≤ (57 : Int32))) = r ∧ h2 = h') ⟨1, by omega, iX11_in ⟨rfl, rfl⟩⟩ (fun r1 h1 w1 => ?_)
  obtain ⟨rfl, rfl⟩ := w1
  show Ru mX11_readsTimes none d 24 [.ref 73] [.int (am_b ((50 : Int32) ≤ (am_hr h2) ∧ (am_hr h2) ≤ (57 : Int32)))] h2 Z
  refine st_ifb_ne (tgt := 28) dX11_readsTimes_24 (by decide) (fun c => ?_) (fun c => ?_)
  · replace w := w.1 c
    refine st_aload_n dX11_readsTimes_28 rfl ?_
    refine st_aload_n dX11_readsTimes_29 rfl ?_
    refine st_callV (M' := mX11_here) [] [.ref 73] dX11_readsTimes_30 ml_X11_170 mf_X11_here mv_X11_here sh_73 rfl rfl rfl (K := fun r h' => (am_hr h2) = r ∧ h2 = h') ⟨1, by omega, iX11_here hc3 ⟨rfl, rfl⟩⟩ (fun r1 h1 w1 => ?_)
    obtain ⟨rfl, rfl⟩ := w1
    show Ru mX11_readsTimes none d 33 [.ref 73] [.int (am_hr h2), .ref 73] h2 Z
    refine st_bipush (v := 48) dX11_readsTimes_33 (by decide) ?_
    refine st_isub dX11_readsTimes_35 ?_
    refine st_putI flp_X11_349 fk_11_52 dX11_readsTimes_36 sh_73 (fun h4 eh4 => ?_)
    replace w := w h4 eh4
    refine st_aload_n dX11_readsTimes_39 rfl ?_
    refine st_aload_n dX11_readsTimes_40 rfl ?_
    refine st_getI fl_X11_164 fk_11_10 dX11_readsTimes_41 sh_73 ?_
    refine st_iconst (v := 1) dX11_readsTimes_44 (by decide) ?_
    refine st_iadd dX11_readsTimes_45 ?_
    refine st_putI flp_X11_164 fk_11_10 dX11_readsTimes_46 sh_73 (fun h5 eh5 => ?_)
    replace w := w h5 eh5
    exact st_return rfl dX11_readsTimes_49 w
  · replace w := w.2 c
    exact st_return rfl dX11_readsTimes_27 w
set_option maxRecDepth 20000 in
set_option maxHeartbeats 2000000 in
theorem sX11_repeats_0 {d : Nat} {h : am_H} {Z : Int32 → am_H → Prop} {x1 : Int32} {x2 : Int32} {x3 : Int32} (hd : 2 ≤ d) (w : ((x1 + (((h.1 73 49) - x1) * x2)) ≤ 64 → Ru mX11_repeats none d 31 [.ref 73, .int x1, .int x2, .int x3, .int ((h.1 73 49) - x1), .int ((h.1 73 49) - x1)] [] h Z) ∧ (¬ ((x1 + (((h.1 73 49) - x1) * x2)) ≤ 64) → (((0 : Int32) = 0 ∨ (0 : Int32) = 1) ∧ (Z (0 : Int32) (am_sI h 73 12 ((-1000) * (6 : Int32) - x3)))))) : Ru mX11_repeats none d 0 [.ref 73, .int x1, .int x2, .int x3, .null, .null] [] h Z := by
  refine st_aload_n dX11_repeats_0 rfl ?_
  refine st_getI fl_X11_352 fk_11_49 dX11_repeats_1 sh_73 ?_
  refine st_iload_n dX11_repeats_4 rfl ?_
  refine st_isub dX11_repeats_5 ?_
  refine st_istore (L' := [.ref 73, .int x1, .int x2, .int x3, .int ((h.1 73 49) - x1), .null]) dX11_repeats_6 (by decide) rfl ?_
  refine st_iload_n dX11_repeats_8 rfl ?_
  refine st_iload dX11_repeats_9 rfl ?_
  refine st_iload_n dX11_repeats_11 rfl ?_
  refine st_imul dX11_repeats_12 ?_
  refine st_iadd dX11_repeats_13 ?_
  refine st_bipush (v := 64) dX11_repeats_14 (by decide) ?_
  refine st_icmp_le (tgt := 27) dX11_repeats_16 (by decide) (fun c => ?_) (fun c => ?_)
  · replace w := w.1 c
    refine st_iload dX11_repeats_27 rfl ?_
    refine st_istore (L' := [.ref 73, .int x1, .int x2, .int x3, .int ((h.1 73 49) - x1), .int ((h.1 73 49) - x1)]) dX11_repeats_29 (by decide) rfl ?_
    exact w
  · replace w := w.2 c
    refine st_aload_n dX11_repeats_19 rfl ?_
    refine st_bipush (v := 6) dX11_repeats_20 (by decide) ?_
    refine st_iload_n dX11_repeats_22 rfl ?_
    refine st_callV (M' := mX11_wrongAt) [.int 6, .int x3] [] dX11_repeats_23 ml_X11_177 mf_X11_wrongAt mv_X11_wrongAt sh_73 rfl rfl rfl (K := fun r h' => (0 : Int32) = r ∧ am_sI h 73 12 ((-1000) * (6 : Int32) - x3) = h') ⟨1, by omega, iX11_wrongAt ⟨rfl, rfl⟩⟩ (fun r1 h1 w1 => ?_)
    obtain ⟨rfl, rfl⟩ := w1
    show Ru mX11_repeats none d 26 [.ref 73, .int x1, .int x2, .int x3, .int ((h.1 73 49) - x1), .null] [.int (0 : Int32)] (am_sI h 73 12 ((-1000) * (6 : Int32) - x3)) Z
    have hc1 := w.1
    replace w := w.2
    exact st_ireturn rfl (am_nb hc1) dX11_repeats_26 w
set_option maxRecDepth 20000 in
set_option maxHeartbeats 2000000 in
theorem sX11_repeats_31 {d : Nat} {h : am_H} {Z : Int32 → am_H → Prop} {x1 : Int32} {x2 : Int32} {u3 : Value} {x4 : Int32} {x5 : Int32} (w : ((x4 * x2) ≤ x5 → (∀ h1 : am_H, h1 = am_sI h 73 49 (x1 + (x4 * x2)) → (Z 1 h1))) ∧ (¬ ((x4 * x2) ≤ x5) → (vp_in ((x1 + x5) - x4) 64 ∧ (vp_in (x1 + x5) 64 ∧ (∀ h4 : am_H, h4 = am_sR h 101 (upd (h.2.2 101) (x1 + x5).toNatClampNeg (h.2.2 101 ((x1 + x5) - x4).toNatClampNeg)) → (Ru mX11_repeats none d 31 [.ref 73, .int x1, .int x2, u3, .int x4, .int (x5 + 1)] [] h4 Z)))))) : Ru mX11_repeats none d 31 [.ref 73, .int x1, .int x2, u3, .int x4, .int x5] [] h Z := by
  refine st_iload dX11_repeats_31 rfl ?_
  refine st_iload dX11_repeats_33 rfl ?_
  refine st_iload_n dX11_repeats_35 rfl ?_
  refine st_imul dX11_repeats_36 ?_
  refine st_icmp_ge (tgt := 67) dX11_repeats_37 (by decide) (fun c => ?_) (fun c => ?_)
  · replace w := w.1 c
    refine st_aload_n dX11_repeats_67 rfl ?_
    refine st_iload_n dX11_repeats_68 rfl ?_
    refine st_iload dX11_repeats_69 rfl ?_
    refine st_iload_n dX11_repeats_71 rfl ?_
    refine st_imul dX11_repeats_72 ?_
    refine st_iadd dX11_repeats_73 ?_
    refine st_putI flp_X11_352 fk_11_49 dX11_repeats_74 sh_73 (fun h1 eh1 => ?_)
    replace w := w h1 eh1
    refine st_iconst (v := 1) dX11_repeats_77 (by decide) ?_
    exact st_ireturn rfl rfl dX11_repeats_78 w
  · replace w := w.2 c
    refine st_aload_n dX11_repeats_40 rfl ?_
    refine st_getF (q := 101) fl_X11_92 fk_11_45 rfl dX11_repeats_41 sh_73 ?_
    refine st_iload_n dX11_repeats_44 rfl ?_
    refine st_iload dX11_repeats_45 rfl ?_
    refine st_iadd dX11_repeats_47 ?_
    refine st_aload_n dX11_repeats_48 rfl ?_
    refine st_getF (q := 101) fl_X11_92 fk_11_45 rfl dX11_repeats_49 sh_73 ?_
    refine st_iload_n dX11_repeats_52 rfl ?_
    refine st_iload dX11_repeats_53 rfl ?_
    refine st_iadd dX11_repeats_55 ?_
    refine st_iload dX11_repeats_56 rfl ?_
    refine st_isub dX11_repeats_58 ?_
    have hc2 := w.1
    replace w := w.2
    refine st_iald dX11_repeats_59 sh_101 hc2 ?_
    have hc3 := w.1
    replace w := w.2
    refine st_iast dX11_repeats_60 sh_101 hc3 (fun h4 eh4 => ?_)
    replace w := w h4 eh4
    refine st_iinc (L' := [.ref 73, .int x1, .int x2, u3, .int x4, .int (x5 + 1)]) dX11_repeats_61 rfl rfl (by decide) rfl ?_
    refine st_goto (tgt := 31) dX11_repeats_64 (by decide) ?_
    exact w
set_option maxRecDepth 20000 in
set_option maxHeartbeats 2000000 in
theorem sX11_readsLetter_0 {d : Nat} {h : am_H} {Z : Int32 → am_H → Prop}  (w : am_cl mX11_readsTimes d [.ref 73] h (fun r1 h2 => Ru mX11_readsLetter none d 4 [.ref 73, .null, .null] [] h2 Z)) : Ru mX11_readsLetter none d 0 [.ref 73, .null, .null] [] h Z := by
  refine st_aload_n dX11_readsLetter_0 rfl ?_
  refine st_callV (M' := mX11_readsTimes) [] [] dX11_readsLetter_1 ml_X11_355 mf_X11_readsTimes mv_X11_readsTimes sh_73 rfl rfl rfl w (fun r1 h2 w => ?_)
  show Ru mX11_readsLetter none d 4 [.ref 73, .null, .null] [] h2 Z
  exact w
set_option maxRecDepth 20000 in
set_option maxHeartbeats 2000000 in
theorem sX11_readsLetter_4 {d : Nat} {h : am_H} {Z : Int32 → am_H → Prop} {u1 : Value} {u2 : Value} (hd : 2 ≤ d) (w : (am_hok h ∧ ((¬ (am_hr h) = 40 → ((97 : Int32) ≤ (am_hr h) ∧ (am_hr h) ≤ (122 : Int32) → (((h.1 73 49) + (h.1 73 52)) ≤ 64 → (vp_in (h.1 73 49) 64 ∧ (∀ h3 : am_H, h3 = am_sR h 101 (upd (h.2.2 101) (h.1 73 49).toNatClampNeg ((am_hr h) - 97)) → (∀ h4 : am_H, h4 = am_sI h3 73 10 ((h3.1 73 10) + 1) → (∀ h5 : am_H, h5 = am_sI h4 73 49 ((h4.1 73 49) + 1) → (am_cl mX11_repeats d [.ref 73, .int ((h5.1 73 49) - 1), .int (h.1 73 52), .int (h.1 73 51)] h5 (fun r6 h7 => (¬ r6 = 0 → Ru mX11_readsLetter none d 203 [.ref 73, .int (h.1 73 51), .int (h.1 73 52)] [] h7 Z) ∧ (r6 = 0 → Z 0 h7)))))))) ∧ (¬ (((h.1 73 49) + (h.1 73 52)) ≤ 64) → (((0 : Int32) = 0 ∨ (0 : Int32) = 1) ∧ (Z (0 : Int32) (am_sI h 73 12 ((-1000) * (6 : Int32) - (h.1 73 51))))))) ∧ (¬ ((97 : Int32) ≤ (am_hr h) ∧ (am_hr h) ≤ (122 : Int32)) → (((0 : Int32) = 0 ∨ (0 : Int32) = 1) ∧ (Z (0 : Int32) (am_sI h 73 12 ((-1000) * (1 : Int32) - (h.1 73 10))))))) ∧ ((am_hr h) = 40 → (¬ (h.1 73 50) = 2 → (vp_in (h.1 73 50) 2 ∧ (∀ h11 : am_H, h11 = am_sR h 102 (upd (h.2.2 102) (h.1 73 50).toNatClampNeg (h.1 73 51)) → (vp_in (h11.1 73 50) 2 ∧ (∀ h13 : am_H, h13 = am_sR h11 103 (upd (h11.2.2 103) (h11.1 73 50).toNatClampNeg (h11.1 73 49)) → (vp_in (h13.1 73 50) 2 ∧ (∀ h15 : am_H, h15 = am_sR h13 104 (upd (h13.2.2 104) (h13.1 73 50).toNatClampNeg (h13.1 73 52)) → (∀ h16 : am_H, h16 = am_sI h15 73 50 ((h15.1 73 50) + 1) → (∀ h17 : am_H, h17 = am_sI h16 73 10 ((h16.1 73 10) + 1) → (am_cl mX11_readsTimes d [.ref 73] h17 (fun r18 h19 => Ru mX11_readsLetter none d 4 [.ref 73, u1, u2] [] h19 Z))))))))))) ∧ ((h.1 73 50) = 2 → (((0 : Int32) = 0 ∨ (0 : Int32) = 1) ∧ (Z (0 : Int32) (am_sI h 73 12 ((-1000) * (5 : Int32) - (h.1 73 10)))))))))) : Ru mX11_readsLetter none d 4 [.ref 73, u1, u2] [] h Z := by
  refine st_aload_n dX11_readsLetter_4 rfl ?_
  have hc1 := w.1
  replace w := w.2
  refine st_callV (M' := mX11_here) [] [] dX11_readsLetter_5 ml_X11_170 mf_X11_here mv_X11_here sh_73 rfl rfl rfl (K := fun r h' => (am_hr h) = r ∧ h = h') ⟨1, by omega, iX11_here hc1 ⟨rfl, rfl⟩⟩ (fun r1 h1 w1 => ?_)
  obtain ⟨rfl, rfl⟩ := w1
  show Ru mX11_readsLetter none d 8 [.ref 73, u1, u2] [.int (am_hr h)] h Z
  refine st_bipush (v := 40) dX11_readsLetter_8 (by decide) ?_
  refine st_icmp_ne (tgt := 97) dX11_readsLetter_10 (by decide) (fun c => ?_) (fun c => ?_)
  · replace w := w.1 c
    refine st_aload_n dX11_readsLetter_97 rfl ?_
    refine st_getI fl_X11_346 fk_11_51 dX11_readsLetter_98 sh_73 ?_
    refine st_istore_n (L' := [.ref 73, .int (h.1 73 51), u2]) dX11_readsLetter_101 (by decide) rfl ?_
    refine st_aload_n dX11_readsLetter_102 rfl ?_
    refine st_getI fl_X11_349 fk_11_52 dX11_readsLetter_103 sh_73 ?_
    refine st_istore_n (L' := [.ref 73, .int (h.1 73 51), .int (h.1 73 52)]) dX11_readsLetter_106 (by decide) rfl ?_
    refine st_aload_n dX11_readsLetter_107 rfl ?_
    refine st_callV (M' := mX11_here) [] [] dX11_readsLetter_108 ml_X11_170 mf_X11_here mv_X11_here sh_73 rfl rfl rfl (K := fun r h' => (am_hr h) = r ∧ h = h') ⟨1, by omega, iX11_here hc1 ⟨rfl, rfl⟩⟩ (fun r1 h1 w1 => ?_)
    obtain ⟨rfl, rfl⟩ := w1
    show Ru mX11_readsLetter none d 111 [.ref 73, .int (h.1 73 51), .int (h.1 73 52)] [.int (am_hr h)] h Z
    refine st_bipush (v := 97) dX11_readsLetter_111 (by decide) ?_
    refine st_bipush (v := 122) dX11_readsLetter_113 (by decide) ?_
    refine st_callS (M' := mX11_in) [.int (am_hr h), .int 97, .int 122] [] dX11_readsLetter_115 ml_X11_125 mf_X11_in ms_X11_in rfl rfl rfl (K := fun r h' => (am_b ((97 : Int32) ≤ (am_hr h) ∧ (am_hr h) ≤ (122 : Int32))) = r ∧ h = h') ⟨1, by omega, iX11_in ⟨rfl, rfl⟩⟩ (fun r1 h1 w1 => ?_)
    obtain ⟨rfl, rfl⟩ := w1
    show Ru mX11_readsLetter none d 118 [.ref 73, .int (h.1 73 51), .int (h.1 73 52)] [.int (am_b ((97 : Int32) ≤ (am_hr h) ∧ (am_hr h) ≤ (122 : Int32)))] h Z
    refine st_ifb_ne (tgt := 131) dX11_readsLetter_118 (by decide) (fun c => ?_) (fun c => ?_)
    · replace w := w.1 c
      refine st_aload_n dX11_readsLetter_131 rfl ?_
      refine st_getI fl_X11_352 fk_11_49 dX11_readsLetter_132 sh_73 ?_
      refine st_iload_n dX11_readsLetter_135 rfl ?_
      refine st_iadd dX11_readsLetter_136 ?_
      refine st_bipush (v := 64) dX11_readsLetter_137 (by decide) ?_
      refine st_icmp_le (tgt := 150) dX11_readsLetter_139 (by decide) (fun c => ?_) (fun c => ?_)
      · replace w := w.1 c
        refine st_aload_n dX11_readsLetter_150 rfl ?_
        refine st_getF (q := 101) fl_X11_92 fk_11_45 rfl dX11_readsLetter_151 sh_73 ?_
        refine st_aload_n dX11_readsLetter_154 rfl ?_
        refine st_getI fl_X11_352 fk_11_49 dX11_readsLetter_155 sh_73 ?_
        refine st_aload_n dX11_readsLetter_158 rfl ?_
        refine st_callV (M' := mX11_here) [] [.int (h.1 73 49), .ref 101] dX11_readsLetter_159 ml_X11_170 mf_X11_here mv_X11_here sh_73 rfl rfl rfl (K := fun r h' => (am_hr h) = r ∧ h = h') ⟨1, by omega, iX11_here hc1 ⟨rfl, rfl⟩⟩ (fun r1 h1 w1 => ?_)
        obtain ⟨rfl, rfl⟩ := w1
        show Ru mX11_readsLetter none d 162 [.ref 73, .int (h.1 73 51), .int (h.1 73 52)] [.int (am_hr h), .int (h.1 73 49), .ref 101] h Z
        refine st_bipush (v := 97) dX11_readsLetter_162 (by decide) ?_
        refine st_isub dX11_readsLetter_164 ?_
        have hc2 := w.1
        replace w := w.2
        refine st_iast dX11_readsLetter_165 sh_101 hc2 (fun h3 eh3 => ?_)
        replace w := w h3 eh3
        refine st_aload_n dX11_readsLetter_166 rfl ?_
        refine st_aload_n dX11_readsLetter_167 rfl ?_
        refine st_getI fl_X11_164 fk_11_10 dX11_readsLetter_168 sh_73 ?_
        refine st_iconst (v := 1) dX11_readsLetter_171 (by decide) ?_
        refine st_iadd dX11_readsLetter_172 ?_
        refine st_putI flp_X11_164 fk_11_10 dX11_readsLetter_173 sh_73 (fun h4 eh4 => ?_)
        replace w := w h4 eh4
        refine st_aload_n dX11_readsLetter_176 rfl ?_
        refine st_aload_n dX11_readsLetter_177 rfl ?_
        refine st_getI fl_X11_352 fk_11_49 dX11_readsLetter_178 sh_73 ?_
        refine st_iconst (v := 1) dX11_readsLetter_181 (by decide) ?_
        refine st_iadd dX11_readsLetter_182 ?_
        refine st_putI flp_X11_352 fk_11_49 dX11_readsLetter_183 sh_73 (fun h5 eh5 => ?_)
        replace w := w h5 eh5
        refine st_aload_n dX11_readsLetter_186 rfl ?_
        refine st_aload_n dX11_readsLetter_187 rfl ?_
        refine st_getI fl_X11_352 fk_11_49 dX11_readsLetter_188 sh_73 ?_
        refine st_iconst (v := 1) dX11_readsLetter_191 (by decide) ?_
        refine st_isub dX11_readsLetter_192 ?_
        refine st_iload_n dX11_readsLetter_193 rfl ?_
        refine st_iload_n dX11_readsLetter_194 rfl ?_
        refine st_callV (M' := mX11_repeats) [.int ((h5.1 73 49) - 1), .int (h.1 73 52), .int (h.1 73 51)] [] dX11_readsLetter_195 ml_X11_361 mf_X11_repeats mv_X11_repeats sh_73 rfl rfl rfl w (fun r6 h7 w => ?_)
        show Ru mX11_readsLetter none d 198 [.ref 73, .int (h.1 73 51), .int (h.1 73 52)] [.int r6] h7 Z
        refine st_if_ne (tgt := 203) dX11_readsLetter_198 (by decide) (fun c => ?_) (fun c => ?_)
        · replace w := w.1 c
          exact w
        · replace w := w.2 c
          refine st_iconst (v := 0) dX11_readsLetter_201 (by decide) ?_
          exact st_ireturn rfl rfl dX11_readsLetter_202 w
      · replace w := w.2 c
        refine st_aload_n dX11_readsLetter_142 rfl ?_
        refine st_bipush (v := 6) dX11_readsLetter_143 (by decide) ?_
        refine st_iload_n dX11_readsLetter_145 rfl ?_
        refine st_callV (M' := mX11_wrongAt) [.int 6, .int (h.1 73 51)] [] dX11_readsLetter_146 ml_X11_177 mf_X11_wrongAt mv_X11_wrongAt sh_73 rfl rfl rfl (K := fun r h' => (0 : Int32) = r ∧ am_sI h 73 12 ((-1000) * (6 : Int32) - (h.1 73 51)) = h') ⟨1, by omega, iX11_wrongAt ⟨rfl, rfl⟩⟩ (fun r1 h1 w1 => ?_)
        obtain ⟨rfl, rfl⟩ := w1
        show Ru mX11_readsLetter none d 149 [.ref 73, .int (h.1 73 51), .int (h.1 73 52)] [.int (0 : Int32)] (am_sI h 73 12 ((-1000) * (6 : Int32) - (h.1 73 51))) Z
        have hc8 := w.1
        replace w := w.2
        exact st_ireturn rfl (am_nb hc8) dX11_readsLetter_149 w
    · replace w := w.2 c
      refine st_aload_n dX11_readsLetter_121 rfl ?_
      refine st_iconst (v := 1) dX11_readsLetter_122 (by decide) ?_
      refine st_aload_n dX11_readsLetter_123 rfl ?_
      refine st_getI fl_X11_164 fk_11_10 dX11_readsLetter_124 sh_73 ?_
      refine st_callV (M' := mX11_wrongAt) [.int 1, .int (h.1 73 10)] [] dX11_readsLetter_127 ml_X11_177 mf_X11_wrongAt mv_X11_wrongAt sh_73 rfl rfl rfl (K := fun r h' => (0 : Int32) = r ∧ am_sI h 73 12 ((-1000) * (1 : Int32) - (h.1 73 10)) = h') ⟨1, by omega, iX11_wrongAt ⟨rfl, rfl⟩⟩ (fun r1 h1 w1 => ?_)
      obtain ⟨rfl, rfl⟩ := w1
      show Ru mX11_readsLetter none d 130 [.ref 73, .int (h.1 73 51), .int (h.1 73 52)] [.int (0 : Int32)] (am_sI h 73 12 ((-1000) * (1 : Int32) - (h.1 73 10))) Z
      have hc9 := w.1
      replace w := w.2
      exact st_ireturn rfl (am_nb hc9) dX11_readsLetter_130 w
  · replace w := w.2 c
    refine st_aload_n dX11_readsLetter_13 rfl ?_
    refine st_getI fl_X11_358 fk_11_50 dX11_readsLetter_14 sh_73 ?_
    refine st_iconst (v := 2) dX11_readsLetter_17 (by decide) ?_
    refine st_icmp_ne (tgt := 31) dX11_readsLetter_18 (by decide) (fun c => ?_) (fun c => ?_)
    · replace w := w.1 c
      refine st_aload_n dX11_readsLetter_31 rfl ?_
      refine st_getF (q := 102) fl_X11_95 fk_11_46 rfl dX11_readsLetter_32 sh_73 ?_
      refine st_aload_n dX11_readsLetter_35 rfl ?_
      refine st_getI fl_X11_358 fk_11_50 dX11_readsLetter_36 sh_73 ?_
      refine st_aload_n dX11_readsLetter_39 rfl ?_
      refine st_getI fl_X11_346 fk_11_51 dX11_readsLetter_40 sh_73 ?_
      have hc10 := w.1
      replace w := w.2
      refine st_iast dX11_readsLetter_43 sh_102 hc10 (fun h11 eh11 => ?_)
      replace w := w h11 eh11
      refine st_aload_n dX11_readsLetter_44 rfl ?_
      refine st_getF (q := 103) fl_X11_98 fk_11_47 rfl dX11_readsLetter_45 sh_73 ?_
      refine st_aload_n dX11_readsLetter_48 rfl ?_
      refine st_getI fl_X11_358 fk_11_50 dX11_readsLetter_49 sh_73 ?_
      refine st_aload_n dX11_readsLetter_52 rfl ?_
      refine st_getI fl_X11_352 fk_11_49 dX11_readsLetter_53 sh_73 ?_
      have hc12 := w.1
      replace w := w.2
      refine st_iast dX11_readsLetter_56 sh_103 hc12 (fun h13 eh13 => ?_)
      replace w := w h13 eh13
      refine st_aload_n dX11_readsLetter_57 rfl ?_
      refine st_getF (q := 104) fl_X11_101 fk_11_48 rfl dX11_readsLetter_58 sh_73 ?_
      refine st_aload_n dX11_readsLetter_61 rfl ?_
      refine st_getI fl_X11_358 fk_11_50 dX11_readsLetter_62 sh_73 ?_
      refine st_aload_n dX11_readsLetter_65 rfl ?_
      refine st_getI fl_X11_349 fk_11_52 dX11_readsLetter_66 sh_73 ?_
      have hc14 := w.1
      replace w := w.2
      refine st_iast dX11_readsLetter_69 sh_104 hc14 (fun h15 eh15 => ?_)
      replace w := w h15 eh15
      refine st_aload_n dX11_readsLetter_70 rfl ?_
      refine st_aload_n dX11_readsLetter_71 rfl ?_
      refine st_getI fl_X11_358 fk_11_50 dX11_readsLetter_72 sh_73 ?_
      refine st_iconst (v := 1) dX11_readsLetter_75 (by decide) ?_
      refine st_iadd dX11_readsLetter_76 ?_
      refine st_putI flp_X11_358 fk_11_50 dX11_readsLetter_77 sh_73 (fun h16 eh16 => ?_)
      replace w := w h16 eh16
      refine st_aload_n dX11_readsLetter_80 rfl ?_
      refine st_aload_n dX11_readsLetter_81 rfl ?_
      refine st_getI fl_X11_164 fk_11_10 dX11_readsLetter_82 sh_73 ?_
      refine st_iconst (v := 1) dX11_readsLetter_85 (by decide) ?_
      refine st_iadd dX11_readsLetter_86 ?_
      refine st_putI flp_X11_164 fk_11_10 dX11_readsLetter_87 sh_73 (fun h17 eh17 => ?_)
      replace w := w h17 eh17
      refine st_aload_n dX11_readsLetter_90 rfl ?_
      refine st_callV (M' := mX11_readsTimes) [] [] dX11_readsLetter_91 ml_X11_355 mf_X11_readsTimes mv_X11_readsTimes sh_73 rfl rfl rfl w (fun r18 h19 w => ?_)
      show Ru mX11_readsLetter none d 94 [.ref 73, u1, u2] [] h19 Z
      refine st_goto (tgt := 4) dX11_readsLetter_94 (by decide) ?_
      exact w
    · replace w := w.2 c
      refine st_aload_n dX11_readsLetter_21 rfl ?_
      refine st_iconst (v := 5) dX11_readsLetter_22 (by decide) ?_
      refine st_aload_n dX11_readsLetter_23 rfl ?_
      refine st_getI fl_X11_164 fk_11_10 dX11_readsLetter_24 sh_73 ?_
      refine st_callV (M' := mX11_wrongAt) [.int 5, .int (h.1 73 10)] [] dX11_readsLetter_27 ml_X11_177 mf_X11_wrongAt mv_X11_wrongAt sh_73 rfl rfl rfl (K := fun r h' => (0 : Int32) = r ∧ am_sI h 73 12 ((-1000) * (5 : Int32) - (h.1 73 10)) = h') ⟨1, by omega, iX11_wrongAt ⟨rfl, rfl⟩⟩ (fun r1 h1 w1 => ?_)
      obtain ⟨rfl, rfl⟩ := w1
      show Ru mX11_readsLetter none d 30 [.ref 73, u1, u2] [.int (0 : Int32)] (am_sI h 73 12 ((-1000) * (5 : Int32) - (h.1 73 10))) Z
      have hc20 := w.1
      replace w := w.2
      exact st_ireturn rfl (am_nb hc20) dX11_readsLetter_30 w
set_option maxRecDepth 20000 in
set_option maxHeartbeats 2000000 in
theorem sX11_readsLetter_203 {d : Nat} {h : am_H} {Z : Int32 → am_H → Prop} {u1 : Value} {u2 : Value} (hd : 2 ≤ d) (w : (am_hok h ∧ ((¬ (am_hr h) = 41 → Z 1 h) ∧ ((am_hr h) = 41 → ((h.1 73 50) ≤ 0 → Z 1 h) ∧ (¬ ((h.1 73 50) ≤ 0) → (∀ h2 : am_H, h2 = am_sI h 73 10 ((h.1 73 10) + 1) → (∀ h3 : am_H, h3 = am_sI h2 73 50 ((h2.1 73 50) - 1) → (vp_in (h3.1 73 50) 2 ∧ (am_cl mX11_repeats d [.ref 73, .int (h3.2.2 103 (h3.1 73 50).toNatClampNeg), .int (h3.2.2 104 (h3.1 73 50).toNatClampNeg), .int (h3.2.2 102 (h3.1 73 50).toNatClampNeg)] h3 (fun r5 h6 => (¬ r5 = 0 → Ru mX11_readsLetter none d 203 [.ref 73, u1, u2] [] h6 Z) ∧ (r5 = 0 → Z 0 h6))))))))))) : Ru mX11_readsLetter none d 203 [.ref 73, u1, u2] [] h Z := by
  refine st_aload_n dX11_readsLetter_203 rfl ?_
  have hc1 := w.1
  replace w := w.2
  refine st_callV (M' := mX11_here) [] [] dX11_readsLetter_204 ml_X11_170 mf_X11_here mv_X11_here sh_73 rfl rfl rfl (K := fun r h' => (am_hr h) = r ∧ h = h') ⟨1, by omega, iX11_here hc1 ⟨rfl, rfl⟩⟩ (fun r1 h1 w1 => ?_)
  obtain ⟨rfl, rfl⟩ := w1
  show Ru mX11_readsLetter none d 207 [.ref 73, u1, u2] [.int (am_hr h)] h Z
  refine st_bipush (v := 41) dX11_readsLetter_207 (by decide) ?_
  refine st_icmp_ne (tgt := 275) dX11_readsLetter_209 (by decide) (fun c => ?_) (fun c => ?_)
  · replace w := w.1 c
    refine st_iconst (v := 1) dX11_readsLetter_275 (by decide) ?_
    exact st_ireturn rfl rfl dX11_readsLetter_276 w
  · replace w := w.2 c
    refine st_aload_n dX11_readsLetter_212 rfl ?_
    refine st_getI fl_X11_358 fk_11_50 dX11_readsLetter_213 sh_73 ?_
    refine st_if_le (tgt := 275) dX11_readsLetter_216 (by decide) (fun c => ?_) (fun c => ?_)
    · replace w := w.1 c
      refine st_iconst (v := 1) dX11_readsLetter_275 (by decide) ?_
      exact st_ireturn rfl rfl dX11_readsLetter_276 w
    · replace w := w.2 c
      refine st_aload_n dX11_readsLetter_219 rfl ?_
      refine st_aload_n dX11_readsLetter_220 rfl ?_
      refine st_getI fl_X11_164 fk_11_10 dX11_readsLetter_221 sh_73 ?_
      refine st_iconst (v := 1) dX11_readsLetter_224 (by decide) ?_
      refine st_iadd dX11_readsLetter_225 ?_
      refine st_putI flp_X11_164 fk_11_10 dX11_readsLetter_226 sh_73 (fun h2 eh2 => ?_)
      replace w := w h2 eh2
      refine st_aload_n dX11_readsLetter_229 rfl ?_
      refine st_aload_n dX11_readsLetter_230 rfl ?_
      refine st_getI fl_X11_358 fk_11_50 dX11_readsLetter_231 sh_73 ?_
      refine st_iconst (v := 1) dX11_readsLetter_234 (by decide) ?_
      refine st_isub dX11_readsLetter_235 ?_
      refine st_putI flp_X11_358 fk_11_50 dX11_readsLetter_236 sh_73 (fun h3 eh3 => ?_)
      replace w := w h3 eh3
      refine st_aload_n dX11_readsLetter_239 rfl ?_
      refine st_aload_n dX11_readsLetter_240 rfl ?_
      refine st_getF (q := 103) fl_X11_98 fk_11_47 rfl dX11_readsLetter_241 sh_73 ?_
      refine st_aload_n dX11_readsLetter_244 rfl ?_
      refine st_getI fl_X11_358 fk_11_50 dX11_readsLetter_245 sh_73 ?_
      have hc4 := w.1
      replace w := w.2
      refine st_iald dX11_readsLetter_248 sh_103 hc4 ?_
      refine st_aload_n dX11_readsLetter_249 rfl ?_
      refine st_getF (q := 104) fl_X11_101 fk_11_48 rfl dX11_readsLetter_250 sh_73 ?_
      refine st_aload_n dX11_readsLetter_253 rfl ?_
      refine st_getI fl_X11_358 fk_11_50 dX11_readsLetter_254 sh_73 ?_
      refine st_iald dX11_readsLetter_257 sh_104 hc4 ?_
      refine st_aload_n dX11_readsLetter_258 rfl ?_
      refine st_getF (q := 102) fl_X11_95 fk_11_46 rfl dX11_readsLetter_259 sh_73 ?_
      refine st_aload_n dX11_readsLetter_262 rfl ?_
      refine st_getI fl_X11_358 fk_11_50 dX11_readsLetter_263 sh_73 ?_
      refine st_iald dX11_readsLetter_266 sh_102 hc4 ?_
      refine st_callV (M' := mX11_repeats) [.int (h3.2.2 103 (h3.1 73 50).toNatClampNeg), .int (h3.2.2 104 (h3.1 73 50).toNatClampNeg), .int (h3.2.2 102 (h3.1 73 50).toNatClampNeg)] [] dX11_readsLetter_267 ml_X11_361 mf_X11_repeats mv_X11_repeats sh_73 rfl rfl rfl w (fun r5 h6 w => ?_)
      show Ru mX11_readsLetter none d 270 [.ref 73, u1, u2] [.int r5] h6 Z
      refine st_if_ne (tgt := 203) dX11_readsLetter_270 (by decide) (fun c => ?_) (fun c => ?_)
      · replace w := w.1 c
        exact w
      · replace w := w.2 c
        refine st_iconst (v := 0) dX11_readsLetter_273 (by decide) ?_
        exact st_ireturn rfl rfl dX11_readsLetter_274 w
set_option maxRecDepth 20000 in
set_option maxHeartbeats 2000000 in
theorem sX11_slip_0 {d : Nat} {h : am_H} {Z : Int32 → am_H → Prop} {x1 : Int32} {x2 : Int32} (hd : 2 ≤ d) (w : (¬ ((1 : Int32) ≤ x1 ∧ x1 ≤ (80 : Int32)) → Z (-1) h) ∧ ((1 : Int32) ≤ x1 ∧ x1 ≤ (80 : Int32) → ((0 : Int32) ≤ x2 ∧ x2 ≤ (25 : Int32) → Ru mX11_slip none d 31 [.ref 73, .int x1, .int x2, .null] [] h Z) ∧ (¬ ((0 : Int32) ≤ x2 ∧ x2 ≤ (25 : Int32)) → (¬ ((100 : Int32) ≤ x2 ∧ x2 ≤ (105 : Int32)) → Z (-1) h) ∧ ((100 : Int32) ≤ x2 ∧ x2 ≤ (105 : Int32) → Ru mX11_slip none d 31 [.ref 73, .int x1, .int x2, .null] [] h Z)))) : Ru mX11_slip none d 0 [.ref 73, .int x1, .int x2, .null] [] h Z := by
  refine st_iload_n dX11_slip_0 rfl ?_
  refine st_iconst (v := 1) dX11_slip_1 (by decide) ?_
  refine st_bipush (v := 80) dX11_slip_2 (by decide) ?_
  refine st_callS (M' := mX11_in) [.int x1, .int 1, .int 80] [] dX11_slip_4 ml_X11_125 mf_X11_in ms_X11_in rfl rfl rfl (K := fun r h' => (am_b ((1 : Int32) ≤ x1 ∧ x1 ≤ (80 : Int32))) = r ∧ h = h') ⟨1, by omega, iX11_in ⟨rfl, rfl⟩⟩ (fun r1 h1 w1 => ?_)
  obtain ⟨rfl, rfl⟩ := w1
  show Ru mX11_slip none d 7 [.ref 73, .int x1, .int x2, .null] [.int (am_b ((1 : Int32) ≤ x1 ∧ x1 ≤ (80 : Int32)))] h Z
  refine st_ifb_eq (tgt := 39) dX11_slip_7 (by decide) (fun c => ?_) (fun c => ?_)
  · replace w := w.1 c
    refine st_iconst (v := (-1)) dX11_slip_39 (by decide) ?_
    exact st_ireturn rfl rfl dX11_slip_40 w
  · replace w := w.2 c
    refine st_iload_n dX11_slip_10 rfl ?_
    refine st_iconst (v := 0) dX11_slip_11 (by decide) ?_
    refine st_bipush (v := 25) dX11_slip_12 (by decide) ?_
    refine st_callS (M' := mX11_in) [.int x2, .int 0, .int 25] [] dX11_slip_14 ml_X11_125 mf_X11_in ms_X11_in rfl rfl rfl (K := fun r h' => (am_b ((0 : Int32) ≤ x2 ∧ x2 ≤ (25 : Int32))) = r ∧ h = h') ⟨1, by omega, iX11_in ⟨rfl, rfl⟩⟩ (fun r1 h1 w1 => ?_)
    obtain ⟨rfl, rfl⟩ := w1
    show Ru mX11_slip none d 17 [.ref 73, .int x1, .int x2, .null] [.int (am_b ((0 : Int32) ≤ x2 ∧ x2 ≤ (25 : Int32)))] h Z
    refine st_ifb_ne (tgt := 31) dX11_slip_17 (by decide) (fun c => ?_) (fun c => ?_)
    · replace w := w.1 c
      exact w
    · replace w := w.2 c
      refine st_iload_n dX11_slip_20 rfl ?_
      refine st_bipush (v := 100) dX11_slip_21 (by decide) ?_
      refine st_bipush (v := 105) dX11_slip_23 (by decide) ?_
      refine st_callS (M' := mX11_in) [.int x2, .int 100, .int 105] [] dX11_slip_25 ml_X11_125 mf_X11_in ms_X11_in rfl rfl rfl (K := fun r h' => (am_b ((100 : Int32) ≤ x2 ∧ x2 ≤ (105 : Int32))) = r ∧ h = h') ⟨1, by omega, iX11_in ⟨rfl, rfl⟩⟩ (fun r1 h1 w1 => ?_)
      obtain ⟨rfl, rfl⟩ := w1
      show Ru mX11_slip none d 28 [.ref 73, .int x1, .int x2, .null] [.int (am_b ((100 : Int32) ≤ x2 ∧ x2 ≤ (105 : Int32)))] h Z
      refine st_ifb_eq (tgt := 39) dX11_slip_28 (by decide) (fun c => ?_) (fun c => ?_)
      · replace w := w.1 c
        refine st_iconst (v := (-1)) dX11_slip_39 (by decide) ?_
        exact st_ireturn rfl rfl dX11_slip_40 w
      · replace w := w.2 c
        exact w
set_option maxRecDepth 20000 in
set_option maxHeartbeats 2000000 in
theorem sX11_slip_31 {d : Nat} {h : am_H} {Z : Int32 → am_H → Prop} {x1 : Int32} {x2 : Int32} {u3 : Value} (w : (x1 ≤ (h.1 73 9) → am_cl mX11_beginsText d [.ref 73, .int x1] h (fun r1 h2 => (∀ h3 : am_H, h3 = am_sI h2 73 49 0 → (∀ h4 : am_H, h4 = am_sI h3 73 50 0 → (am_cl mX11_readsLetter d [.ref 73] h4 (fun r5 h6 => Ru mX11_slip none d 61 [.ref 73, .int x1, .int x2, .int r5] [] h6 Z)))))) ∧ (¬ (x1 ≤ (h.1 73 9)) → Z (-1) h)) : Ru mX11_slip none d 31 [.ref 73, .int x1, .int x2, u3] [] h Z := by
  refine st_iload_n dX11_slip_31 rfl ?_
  refine st_aload_n dX11_slip_32 rfl ?_
  refine st_getI fl_X11_158 fk_11_9 dX11_slip_33 sh_73 ?_
  refine st_icmp_le (tgt := 41) dX11_slip_36 (by decide) (fun c => ?_) (fun c => ?_)
  · replace w := w.1 c
    refine st_aload_n dX11_slip_41 rfl ?_
    refine st_iload_n dX11_slip_42 rfl ?_
    refine st_callV (M' := mX11_beginsText) [.int x1] [] dX11_slip_43 ml_X11_247 mf_X11_beginsText mv_X11_beginsText sh_73 rfl rfl rfl w (fun r1 h2 w => ?_)
    show Ru mX11_slip none d 46 [.ref 73, .int x1, .int x2, u3] [] h2 Z
    refine st_aload_n dX11_slip_46 rfl ?_
    refine st_iconst (v := 0) dX11_slip_47 (by decide) ?_
    refine st_putI flp_X11_352 fk_11_49 dX11_slip_48 sh_73 (fun h3 eh3 => ?_)
    replace w := w h3 eh3
    refine st_aload_n dX11_slip_51 rfl ?_
    refine st_iconst (v := 0) dX11_slip_52 (by decide) ?_
    refine st_putI flp_X11_358 fk_11_50 dX11_slip_53 sh_73 (fun h4 eh4 => ?_)
    replace w := w h4 eh4
    refine st_aload_n dX11_slip_56 rfl ?_
    refine st_callV (M' := mX11_readsLetter) [] [] dX11_slip_57 ml_X11_376 mf_X11_readsLetter mv_X11_readsLetter sh_73 rfl rfl rfl w (fun r5 h6 w => ?_)
    show Ru mX11_slip none d 60 [.ref 73, .int x1, .int x2, u3] [.int r5] h6 Z
    refine st_istore_n (L' := [.ref 73, .int x1, .int x2, .int r5]) dX11_slip_60 (by decide) rfl ?_
    exact w
  · replace w := w.2 c
    refine st_iconst (v := (-1)) dX11_slip_39 (by decide) ?_
    exact st_ireturn rfl rfl dX11_slip_40 w
set_option maxRecDepth 20000 in
set_option maxHeartbeats 2000000 in
theorem sX11_slip_61 {d : Nat} {h : am_H} {Z : Int32 → am_H → Prop} {u1 : Value} {x2 : Int32} {x3 : Int32} (w : (x3 = 0 → Ru mX11_slip none d 91 [.ref 73, u1, .int x2, .int x3] [] h Z) ∧ (¬ (x3 = 0) → ((h.1 73 10) < (h.1 73 11) → am_cl mX11_readsLetter d [.ref 73] h (fun r1 h2 => Ru mX11_slip none d 61 [.ref 73, u1, .int x2, .int r1] [] h2 Z)) ∧ (¬ ((h.1 73 10) < (h.1 73 11)) → ((h.1 73 50) ≤ 0 → Ru mX11_slip none d 91 [.ref 73, u1, .int x2, .int x3] [] h Z) ∧ (¬ ((h.1 73 50) ≤ 0) → am_cl mX11_readsLetter d [.ref 73] h (fun r3 h4 => Ru mX11_slip none d 61 [.ref 73, u1, .int x2, .int r3] [] h4 Z))))) : Ru mX11_slip none d 61 [.ref 73, u1, .int x2, .int x3] [] h Z := by
  refine st_iload_n dX11_slip_61 rfl ?_
  refine st_if_eq (tgt := 91) dX11_slip_62 (by decide) (fun c => ?_) (fun c => ?_)
  · replace w := w.1 c
    exact w
  · replace w := w.2 c
    refine st_aload_n dX11_slip_65 rfl ?_
    refine st_getI fl_X11_164 fk_11_10 dX11_slip_66 sh_73 ?_
    refine st_aload_n dX11_slip_69 rfl ?_
    refine st_getI fl_X11_167 fk_11_11 dX11_slip_70 sh_73 ?_
    refine st_icmp_lt (tgt := 83) dX11_slip_73 (by decide) (fun c => ?_) (fun c => ?_)
    · replace w := w.1 c
      refine st_aload_n dX11_slip_83 rfl ?_
      refine st_callV (M' := mX11_readsLetter) [] [] dX11_slip_84 ml_X11_376 mf_X11_readsLetter mv_X11_readsLetter sh_73 rfl rfl rfl w (fun r1 h2 w => ?_)
      show Ru mX11_slip none d 87 [.ref 73, u1, .int x2, .int x3] [.int r1] h2 Z
      refine st_istore_n (L' := [.ref 73, u1, .int x2, .int r1]) dX11_slip_87 (by decide) rfl ?_
      refine st_goto (tgt := 61) dX11_slip_88 (by decide) ?_
      exact w
    · replace w := w.2 c
      refine st_aload_n dX11_slip_76 rfl ?_
      refine st_getI fl_X11_358 fk_11_50 dX11_slip_77 sh_73 ?_
      refine st_if_le (tgt := 91) dX11_slip_80 (by decide) (fun c => ?_) (fun c => ?_)
      · replace w := w.1 c
        exact w
      · replace w := w.2 c
        refine st_aload_n dX11_slip_83 rfl ?_
        refine st_callV (M' := mX11_readsLetter) [] [] dX11_slip_84 ml_X11_376 mf_X11_readsLetter mv_X11_readsLetter sh_73 rfl rfl rfl w (fun r3 h4 w => ?_)
        show Ru mX11_slip none d 87 [.ref 73, u1, .int x2, .int x3] [.int r3] h4 Z
        refine st_istore_n (L' := [.ref 73, u1, .int x2, .int r3]) dX11_slip_87 (by decide) rfl ?_
        refine st_goto (tgt := 61) dX11_slip_88 (by decide) ?_
        exact w
set_option maxRecDepth 20000 in
set_option maxHeartbeats 2000000 in
theorem sX11_slip_91 {d : Nat} {h : am_H} {Z : Int32 → am_H → Prop} {u1 : Value} {x2 : Int32} {x3 : Int32} (w : (∀ h1 : am_H, h1 = am_sI h 73 9 0 → ((¬ x3 = 0 → (x2 = 100 → Z (h1.1 73 49) h1) ∧ (¬ x2 = 100 → (x2 = 101 → am_cl mX11_mostOften d [.ref 73] h1 (fun r14 h15 => Z r14 h15)) ∧ (¬ x2 = 101 → (x2 = 102 → am_cl mX11_mostOften d [.ref 73] h1 (fun r10 h11 => am_cl mX11_oftenOf d [.ref 73, .int r10] h11 (fun r12 h13 => Z r12 h13))) ∧ (¬ x2 = 102 → (x2 = 103 → am_cl mX11_bestShift d [.ref 73] h1 (fun r8 h9 => Z r8 h9)) ∧ (¬ x2 = 103 → (x2 = 104 → am_cl mX11_isLike d [.ref 73, .int 0, .int ((h1.1 73 49) - 1)] h1 (fun r6 h7 => (r6 = 0 → Z 0 h7) ∧ (¬ (r6 = 0) → Z 1 h7))) ∧ (¬ x2 = 104 → (x2 = 105 → am_cl mX11_longestLike d [.ref 73] h1 (fun r4 h5 => Z r4 h5)) ∧ (¬ x2 = 105 → am_cl mX11_vowelsBy d [.ref 73, .int x2] h1 (fun r2 h3 => Z r2 h3)))))))) ∧ (x3 = 0 → Z (h1.1 73 12) h1)))) : Ru mX11_slip none d 91 [.ref 73, u1, .int x2, .int x3] [] h Z := by
  refine st_aload_n dX11_slip_91 rfl ?_
  refine st_iconst (v := 0) dX11_slip_92 (by decide) ?_
  refine st_putI flp_X11_158 fk_11_9 dX11_slip_93 sh_73 (fun h1 eh1 => ?_)
  replace w := w h1 eh1
  refine st_iload_n dX11_slip_96 rfl ?_
  refine st_if_ne (tgt := 105) dX11_slip_97 (by decide) (fun c => ?_) (fun c => ?_)
  · replace w := w.1 c
    refine st_iload_n dX11_slip_105 rfl ?_
    by_cases c0 : x2 = 100
    · replace w := w.1 c0
      refine st_tableIn (off := 38) (tgt := 144) dX11_slip_106 (by rw [c0]; decide) (by rw [c0]; decide) (by rw [c0]; decide) (by decide) ?_
      refine st_aload_n dX11_slip_144 rfl ?_
      refine st_getI fl_X11_352 fk_11_49 dX11_slip_145 sh_73 ?_
      exact st_ireturn rfl rfl dX11_slip_148 w
    · replace w := w.2 c0
      by_cases c1 : x2 = 101
      · replace w := w.1 c1
        refine st_tableIn (off := 43) (tgt := 149) dX11_slip_106 (by rw [c1]; decide) (by rw [c1]; decide) (by rw [c1]; decide) (by decide) ?_
        refine st_aload_n dX11_slip_149 rfl ?_
        refine st_callV (M' := mX11_mostOften) [] [] dX11_slip_150 ml_X11_379 mf_X11_mostOften mv_X11_mostOften sh_73 rfl rfl rfl w (fun r14 h15 w => ?_)
        show Ru mX11_slip none d 153 [.ref 73, u1, .int x2, .int x3] [.int r14] h15 Z
        exact st_ireturn rfl rfl dX11_slip_153 w
      · replace w := w.2 c1
        by_cases c2 : x2 = 102
        · replace w := w.1 c2
          refine st_tableIn (off := 48) (tgt := 154) dX11_slip_106 (by rw [c2]; decide) (by rw [c2]; decide) (by rw [c2]; decide) (by decide) ?_
          refine st_aload_n dX11_slip_154 rfl ?_
          refine st_aload_n dX11_slip_155 rfl ?_
          refine st_callV (M' := mX11_mostOften) [] [.ref 73] dX11_slip_156 ml_X11_379 mf_X11_mostOften mv_X11_mostOften sh_73 rfl rfl rfl w (fun r10 h11 w => ?_)
          show Ru mX11_slip none d 159 [.ref 73, u1, .int x2, .int x3] [.int r10, .ref 73] h11 Z
          refine st_callV (M' := mX11_oftenOf) [.int r10] [] dX11_slip_159 ml_X11_364 mf_X11_oftenOf mv_X11_oftenOf sh_73 rfl rfl rfl w (fun r12 h13 w => ?_)
          show Ru mX11_slip none d 162 [.ref 73, u1, .int x2, .int x3] [.int r12] h13 Z
          exact st_ireturn rfl rfl dX11_slip_162 w
        · replace w := w.2 c2
          by_cases c3 : x2 = 103
          · replace w := w.1 c3
            refine st_tableIn (off := 57) (tgt := 163) dX11_slip_106 (by rw [c3]; decide) (by rw [c3]; decide) (by rw [c3]; decide) (by decide) ?_
            refine st_aload_n dX11_slip_163 rfl ?_
            refine st_callV (M' := mX11_bestShift) [] [] dX11_slip_164 ml_X11_382 mf_X11_bestShift mv_X11_bestShift sh_73 rfl rfl rfl w (fun r8 h9 w => ?_)
            show Ru mX11_slip none d 167 [.ref 73, u1, .int x2, .int x3] [.int r8] h9 Z
            exact st_ireturn rfl rfl dX11_slip_167 w
          · replace w := w.2 c3
            by_cases c4 : x2 = 104
            · replace w := w.1 c4
              refine st_tableIn (off := 62) (tgt := 168) dX11_slip_106 (by rw [c4]; decide) (by rw [c4]; decide) (by rw [c4]; decide) (by decide) ?_
              refine st_aload_n dX11_slip_168 rfl ?_
              refine st_iconst (v := 0) dX11_slip_169 (by decide) ?_
              refine st_aload_n dX11_slip_170 rfl ?_
              refine st_getI fl_X11_352 fk_11_49 dX11_slip_171 sh_73 ?_
              refine st_iconst (v := 1) dX11_slip_174 (by decide) ?_
              refine st_isub dX11_slip_175 ?_
              refine st_callV (M' := mX11_isLike) [.int 0, .int ((h1.1 73 49) - 1)] [] dX11_slip_176 ml_X11_370 mf_X11_isLike mv_X11_isLike sh_73 rfl rfl rfl w (fun r6 h7 w => ?_)
              show Ru mX11_slip none d 179 [.ref 73, u1, .int x2, .int x3] [.int r6] h7 Z
              refine st_if_eq (tgt := 186) dX11_slip_179 (by decide) (fun c => ?_) (fun c => ?_)
              · replace w := w.1 c
                refine st_iconst (v := 0) dX11_slip_186 (by decide) ?_
                exact st_ireturn rfl rfl dX11_slip_187 w
              · replace w := w.2 c
                refine st_iconst (v := 1) dX11_slip_182 (by decide) ?_
                refine st_goto (tgt := 187) dX11_slip_183 (by decide) ?_
                exact st_ireturn rfl rfl dX11_slip_187 w
            · replace w := w.2 c4
              by_cases c5 : x2 = 105
              · replace w := w.1 c5
                refine st_tableIn (off := 82) (tgt := 188) dX11_slip_106 (by rw [c5]; decide) (by rw [c5]; decide) (by rw [c5]; decide) (by decide) ?_
                refine st_aload_n dX11_slip_188 rfl ?_
                refine st_callV (M' := mX11_longestLike) [] [] dX11_slip_189 ml_X11_385 mf_X11_longestLike mv_X11_longestLike sh_73 rfl rfl rfl w (fun r4 h5 w => ?_)
                show Ru mX11_slip none d 192 [.ref 73, u1, .int x2, .int x3] [.int r4] h5 Z
                exact st_ireturn rfl rfl dX11_slip_192 w
              · replace w := w.2 c5
                refine st_tableOut (tgt := 193) dX11_slip_106 (am_tout (lo := 100) (hi := 105) (fun v hv1 hv2 hv => ?_)) (by decide) ?_
                · have hq : v = 100 ∨ v = 101 ∨ v = 102 ∨ v = 103 ∨ v = 104 ∨ v = 105 := by omega
                  rcases hq with rfl | rfl | rfl | rfl | rfl | rfl
                  · exact c0 (am_toI hv (by decide))
                  · exact c1 (am_toI hv (by decide))
                  · exact c2 (am_toI hv (by decide))
                  · exact c3 (am_toI hv (by decide))
                  · exact c4 (am_toI hv (by decide))
                  · exact c5 (am_toI hv (by decide))
                · refine st_aload_n dX11_slip_193 rfl ?_
                  refine st_iload_n dX11_slip_194 rfl ?_
                  refine st_callV (M' := mX11_vowelsBy) [.int x2] [] dX11_slip_195 ml_X11_367 mf_X11_vowelsBy mv_X11_vowelsBy sh_73 rfl rfl rfl w (fun r2 h3 w => ?_)
                  show Ru mX11_slip none d 198 [.ref 73, u1, .int x2, .int x3] [.int r2] h3 Z
                  exact st_ireturn rfl rfl dX11_slip_198 w
  · replace w := w.2 c
    refine st_aload_n dX11_slip_100 rfl ?_
    refine st_getI fl_X11_174 fk_11_12 dX11_slip_101 sh_73 ?_
    exact st_ireturn rfl rfl dX11_slip_104 w
abbrev sl_E : Type := Nat × Nat × Nat
def sl_e (t : Nat → Nat) (n : Nat) : Nat → sl_S → sl_O
  | 0 => sl_e0 t n
  | 1 => sl_e1 t n
  | _ => sl_e2 t n
/-- what is left behind an element, with these rounds open -/
def sl_ct (t : Nat → Nat) (n : Nat) : List sl_E → sl_S → sl_O
  | [], S => sl_lf (sl_e0 t n) (-1) t n (n + 1 - S.1) S
  | e :: σ, S => sl_b (sl_lf (sl_e t n (σ.length + 1)) 41 t n (n + 1 - S.1) S) (fun S2 => sl_b (sl_rp e.2.1 e.2.2 e.1 (S2.1 + 1, S2.2)) (sl_ct t n σ))
def sl_go (t : Nat → Nat) (n : Nat) (σ : List sl_E) (S : sl_S) : sl_O := sl_b (sl_e t n σ.length S) (sl_ct t n σ)
theorem sl_b_cg {o : sl_O} {f g : sl_S → sl_O} (h : o.1 = 0 → f o.2 = g o.2) : sl_b o f = sl_b o g := by
  by_cases c : o.1 = 0
  · rw [sl_b_0 c, sl_b_0 c, h c]
  · rw [sl_b_f c, sl_b_f c]
section
variable {t : Nat → Nat} {n : Nat} {σ : List sl_E} {S : sl_S}
theorem sl_e_p (hn : n ≤ 200) (tb : ∀ i, t i < 256) : ∀ r, sl_pg n (sl_e t n r)
  | 0 => sl_p0 hn tb
  | 1 => sl_p1 hn tb
  | _ + 2 => sl_p2 hn
theorem sl_go_push (h1 : ¬ sl_lt t n (sl_k t n S.1)) (h2 : sl_k t n S.1 < n ∧ t (sl_k t n S.1) = 40) (hr : σ.length < 2) : sl_go t n σ S = sl_go t n ((S.1, S.2.1, sl_x t n S.1) :: σ) (sl_k t n S.1 + 1, S.2) := by
  have key : ∀ (el : sl_S → sl_O), sl_el (sl_rw el 41 t n) false t n S = sl_b (sl_rw el 41 t n (sl_k t n S.1 + 1, S.2)) (fun S2 => sl_rp S.2.1 (sl_x t n S.1) S.1 (S2.1 + 1, S2.2)) := fun el => by
    unfold sl_el
    rw [if_neg h1, if_pos h2]; rfl
  have fin : ∀ (el : sl_S → sl_O), sl_b (sl_el (sl_rw el 41 t n) false t n S) (sl_ct t n σ) = sl_b (el (sl_k t n S.1 + 1, S.2)) (fun S' => sl_b (sl_lf el 41 t n (n + 1 - S'.1) S') (fun S2 => sl_b (sl_rp S.2.1 (sl_x t n S.1) S.1 (S2.1 + 1, S2.2)) (sl_ct t n σ))) := fun el => by
    rw [key]
    unfold sl_rw
    rw [sl_b_as, sl_b_as]
  unfold sl_go
  have c : σ.length = 0 ∨ σ.length = 1 := by omega
  rcases c with c | c
  · have e : sl_e t n σ.length = sl_e0 t n := by rw [c]; rfl
    have e' : sl_e t n (σ.length + 1) = sl_e1 t n := by rw [c]; rfl
    rw [e, show sl_e t n ((S.1, S.2.1, sl_x t n S.1) :: σ).length = sl_e1 t n from e']
    refine (fin (sl_e1 t n)).trans ?_
    congr 1
    funext S'
    show _ = sl_b (sl_lf (sl_e t n (σ.length + 1)) 41 t n (n + 1 - S'.1) S') _
    rw [e']
  · have e : sl_e t n σ.length = sl_e1 t n := by rw [c]; rfl
    have e' : sl_e t n (σ.length + 1) = sl_e2 t n := by rw [c]; rfl
    rw [e, show sl_e t n ((S.1, S.2.1, sl_x t n S.1) :: σ).length = sl_e2 t n from e']
    refine (fin (sl_e2 t n)).trans ?_
    congr 1
    funext S'
    show _ = sl_b (sl_lf (sl_e t n (σ.length + 1)) 41 t n (n + 1 - S'.1) S') _
    rw [e']
theorem sl_e_lt (h1 : sl_lt t n (sl_k t n S.1)) : ∀ r, sl_e t n r S = sl_1 (sl_x t n S.1) S.1 (sl_k t n S.1 + 1) (t (sl_k t n S.1) - 97) S
  | 0 => if_pos h1
  | 1 => if_pos h1
  | _ + 2 => if_pos h1
theorem sl_e_no (h1 : ¬ sl_lt t n (sl_k t n S.1)) (h2 : ¬ (sl_k t n S.1 < n ∧ t (sl_k t n S.1) = 40)) : ∀ r, sl_e t n r S = (am_ft 1 (sl_k t n S.1), S) := by
  have key : ∀ row last, sl_el row last t n S = (am_ft 1 (sl_k t n S.1), S) := fun row last => by
    unfold sl_el
    rw [if_neg h1, if_neg h2]
  intro r
  match r with
  | 0 => exact key _ _
  | 1 => exact key _ _
  | _ + 2 => exact key _ _
theorem sl_e_5 (h1 : ¬ sl_lt t n (sl_k t n S.1)) (h2 : sl_k t n S.1 < n ∧ t (sl_k t n S.1) = 40) : sl_e t n 2 S = (am_ft 5 (sl_k t n S.1), S) := by
  show sl_el _ _ t n S = _
  unfold sl_el
  rw [if_neg h1, if_pos h2, if_pos rfl]
theorem sl_ct_cl {e : sl_E} (hk : S.1 < n) (h : am_rd t n S.1 = 41) : sl_ct t n (e :: σ) S = sl_b (sl_rp e.2.1 e.2.2 e.1 (S.1 + 1, S.2)) (sl_ct t n σ) := by
  show sl_b (sl_lf _ 41 t n (n + 1 - S.1) S) _ = _
  rw [show n + 1 - S.1 = (n - S.1) + 1 by omega, sl_lf_s, if_pos h]
  rfl
theorem sl_ct_nd (tb : ∀ i, t i < 256) (hk : S.1 ≤ n) (h : n ≤ S.1) : sl_ct t n [] S = (0, S) := by
  show sl_lf _ (-1) t n (n + 1 - S.1) S = _
  rw [show n + 1 - S.1 = (n - S.1) + 1 by omega, sl_lf_s, if_pos ((am_rd_no tb).mpr h)]
theorem sl_ct_go (hn : n ≤ 200) (tb : ∀ i, t i < 256) (ok : sl_ok n S) (h1 : σ ≠ [] → ¬ am_rd t n S.1 = 41) (h2 : σ = [] → ¬ am_rd t n S.1 = -1) : sl_ct t n σ S = sl_go t n σ S := by
  have hk := ok.1
  cases σ with
  | nil =>
    show sl_lf (sl_e0 t n) (-1) t n (n + 1 - S.1) S = sl_b (sl_e0 t n S) (sl_ct t n [])
    rw [show n + 1 - S.1 = (n - S.1) + 1 by omega, sl_lf_s, if_neg (h2 rfl)]
    refine sl_b_cg (fun c => ?_)
    have p := (sl_p0 hn tb S ok).1 c
    exact sl_lf_f (sl_p0 hn tb) _ _ _ p.1 (by omega) (by have := p.1.1; omega)
  | cons e σ =>
    show sl_b (sl_lf (sl_e t n (σ.length + 1)) 41 t n (n + 1 - S.1) S) _ = sl_b (sl_e t n (σ.length + 1) S) (sl_ct t n (e :: σ))
    rw [show n + 1 - S.1 = (n - S.1) + 1 by omega, sl_lf_s, if_neg (h1 (by simp)), sl_b_as]
    refine sl_b_cg (fun c => ?_)
    have p := (sl_e_p hn tb (σ.length + 1) S ok).1 c
    show sl_b (sl_lf (sl_e t n (σ.length + 1)) 41 t n (n - S.1) _) _ = sl_b (sl_lf (sl_e t n (σ.length + 1)) 41 t n (n + 1 - _) _) _
    rw [sl_lf_f (sl_e_p hn tb (σ.length + 1)) (n - S.1) (n + 1 - (sl_e t n (σ.length + 1) S).2.1) _ p.1 (by omega) (by have := p.1.1; omega)]
end
/-- the reference's rows -/
def sl_K1 (A C D : Nat → Int32) : List sl_E → Prop
  | [] => True
  | e :: σ => A σ.length = nI e.1 ∧ C σ.length = nI e.2.1 ∧ D σ.length = nI e.2.2 ∧ sl_K1 A C D σ
def sl_ek (n m : Nat) : List sl_E → Prop
  | [] => True
  | e :: σ => e.1 ≤ n ∧ e.2.1 ≤ m ∧ 1 ≤ e.2.2 ∧ e.2.2 ≤ 9 ∧ sl_ek n e.2.1 σ
def sl_M (t : Nat → Nat) (n : Nat) (h : am_H) (σ : List sl_E) (S : sl_S) : Prop := am_ms t n S.1 h ∧ h.1 73 49 = nI S.2.1 ∧ (∀ i, i < S.2.1 → h.2.2 101 i = nI (S.2.2 i)) ∧ h.1 73 50 = nI σ.length ∧ sl_K1 (h.2.2 102) (h.2.2 103) (h.2.2 104) σ ∧ σ.length ≤ 2 ∧ sl_ek n S.2.1 σ
def sm_fr (h h' : am_H) : Prop := (∀ a, ¬ (101 ≤ a ∧ a ≤ 104) → h'.2.2 a = h.2.2 a) ∧ (∀ a k, ¬ (a = 73 ∧ (k = 10 ∨ k = 12 ∨ (49 ≤ k ∧ k ≤ 52))) → h'.1 a k = h.1 a k) ∧ h'.2.1 = h.2.1
theorem sm_fr_rf (h : am_H) : sm_fr h h := ⟨fun _ _ => rfl, fun _ _ _ => rfl, rfl⟩
theorem sm_fr_tr {h h1 h2 : am_H} (p : sm_fr h h1) (q : sm_fr h1 h2) : sm_fr h h2 := ⟨fun a n1 => (q.1 a n1).trans (p.1 a n1), fun a k n1 => (q.2.1 a k n1).trans (p.2.1 a k n1), q.2.2.trans p.2.2⟩
theorem sm_fr_sI {h h1 : am_H} {j : Nat} {x : Int32} (p : sm_fr h h1) (hj : j = 10 ∨ j = 12 ∨ (49 ≤ j ∧ j ≤ 52)) : sm_fr h (am_sI h1 73 j x) := ⟨p.1, fun a k n1 => by rw [am_gI, if_neg (fun e => n1 ⟨e.1, by omega⟩)]; exact p.2.1 a k n1, p.2.2⟩
theorem sm_fr_sR {h h1 : am_H} {a : Nat} {f : Nat → Int32} (p : sm_fr h h1) (ha : 101 ≤ a ∧ a ≤ 104) : sm_fr h (am_sR h1 a f) := ⟨fun a' n1 => by rw [am_gR, if_neg (fun e => n1 (by omega))]; exact p.1 a' n1, p.2.1, p.2.2⟩
section
variable {d n : Nat} {h : am_H} {Z : Int32 → am_H → Prop} {t : Nat → Nat} {σ : List sl_E} {S : sl_S}
theorem sl_ek_m {m m' : Nat} (hm : m ≤ m') : ∀ (σ : List sl_E), sl_ek n m σ → sl_ek n m' σ
  | [], _ => trivial
  | _ :: _, q => ⟨q.1, by have := q.2.1; omega, q.2.2⟩
theorem sl_K1_u {A C D : Nat → Int32} {v1 v2 v3 : Int32} {k : Nat} : ∀ (σ : List sl_E), σ.length ≤ k → sl_K1 A C D σ → sl_K1 (upd A k v1) (upd C k v2) (upd D k v3) σ
  | [], _, _ => trivial
  | e :: σ, hk, q => by
    have hk' : σ.length + 1 ≤ k := hk
    refine ⟨?_, ?_, ?_, sl_K1_u σ (by omega) q.2.2.2⟩
    · unfold upd; rw [if_neg (by omega)]; exact q.1
    · unfold upd; rw [if_neg (by omega)]; exact q.2.1
    · unfold upd; rw [if_neg (by omega)]; exact q.2.2.1
theorem iX11_readsTimes {k : Nat} (hd : 3 ≤ d) (hS : am_ms t n k h) (z : ∀ h', am_ms t n (sl_k t n k) h' → h'.1 73 51 = nI k → h'.1 73 52 = nI (sl_x t n k) → (∀ j, j ≠ 10 → j ≠ 51 → j ≠ 52 → h'.1 73 j = h.1 73 j) → h'.2.2 = h.2.2 → sm_fr h h' → Z 0 h') : Sp mX11_readsTimes d [.ref 73] h Z := by
  have tb := hS.2.2.2.2.1
  refine Sp_of mf_X11_readsTimes rfl (Nat.le_of_ble_eq_true rfl) rfl (sX11_readsTimes_0 (by omega) (fun h1 e1 h2 e2 => ?_))
  have S2 : am_ms t n k h2 := by rw [e2, e1]; exact am_ms_sI (am_ms_sI hS (by decide) (by decide)) (by decide) (by decide)
  have k51 : h2.1 73 51 = nI k := by rw [e2, am_gI, if_neg (by decide), e1, am_gI, if_pos ⟨rfl, rfl⟩]; exact hS.2.1
  have oth : ∀ j, j ≠ 51 → j ≠ 52 → h2.1 73 j = h.1 73 j := fun j n1 n2 => by rw [e2, am_gI, if_neg (fun e => n2 e.2), e1, am_gI, if_neg (fun e => n1 e.2)]
  have f2 : sm_fr h h2 := by rw [e2, e1]; exact sm_fr_sI (sm_fr_sI (sm_fr_rf h) (by omega)) (by omega)
  have A2 : h2.2.2 = h.2.2 := by rw [e2, e1]; rfl
  have k52 : h2.1 73 52 = 1 := by rw [e2, am_gI, if_pos ⟨rfl, rfl⟩]
  rw [am_ms_hr S2, show ((50 : Int32) ≤ am_rd t n k ∧ am_rd t n k ≤ 57) = sl_dg t n k from propext (am_rd_in (lo := 50) (hi := 57) (by omega) (by omega) tb)]
  refine ⟨am_ms_ok S2, fun c h4 e4 h5 e5 => ?_, fun c => ?_⟩
  · have er : am_rd t n k = nI (t k) := if_pos c.1
    rw [er, show nI (t k) - 48 = nI (t k - 48) from am_sub_n (c := 48) (by have := c.2.1; omega)] at e4
    have ex : sl_x t n k = t k - 48 := if_pos c
    have ek : sl_k t n k = k + 1 := if_pos c
    rw [← ex] at e4
    subst e4
    subst e5
    refine z _ (by rw [ek]; exact am_ms_nx (am_ms_sI S2 (by decide) (by decide)) c.1) ?_ ?_ (fun j n1 n2 n3 => ?_) A2 (sm_fr_sI (sm_fr_sI f2 (by omega)) (by omega))
    · rw [am_gI, if_neg (by decide), am_gI, if_neg (by decide)]; exact k51
    · rw [am_gI, if_neg (by decide), am_gI, if_pos ⟨rfl, rfl⟩]
    · rw [am_gI, if_neg (fun e => n1 e.2), am_gI, if_neg (fun e => n3 e.2)]; exact oth j n2 n3
  · have ex : sl_x t n k = 1 := if_neg c
    have ek : sl_k t n k = k := if_neg c
    exact z h2 (by rw [ek]; exact S2) k51 (by rw [ex]; exact k52) (fun j _ n2 n3 => oth j n2 n3) A2 f2
theorem m_rp {a x m0 k0 : Nat} {L0 : Nat → Nat} {u3 : Value} (ha : a ≤ m0) (hx : 1 ≤ x) (hx9 : x ≤ 9) (hle : a + (m0 - a) * x ≤ 64) (z : ∀ h', (∀ i, i < a + (m0 - a) * x → h'.2.2 101 i = nI (am_fd (fun j L => am_un L (m0 + j) (L (a + j))) 0 ((m0 - a) * (x - 1)) L0 i)) → (∀ b, b ≠ 101 → h'.2.2 b = h.2.2 b) → h'.1 = h.1 → h'.2.1 = h.2.1 → Z 1 (am_sI h' 73 49 (nI (a + (m0 - a) * x)))) : ∀ (r j : Nat) (h1 : am_H), j + r = (m0 - a) * (x - 1) → (∀ i, i < m0 + j → h1.2.2 101 i = nI (am_fd (fun j L => am_un L (m0 + j) (L (a + j))) 0 j L0 i)) → (∀ b, b ≠ 101 → h1.2.2 b = h.2.2 b) → h1.1 = h.1 → h1.2.1 = h.2.1 → Ru mX11_repeats none d 31 [.ref 73, .int (nI a), .int (nI x), u3, .int (nI (m0 - a)), .int (nI (m0 - a + j))] [] h1 Z := by
  have mx : (m0 - a) * x = (m0 - a) * (x - 1) + (m0 - a) := by
    obtain ⟨x', rfl⟩ : ∃ x', x = x' + 1 := ⟨x - 1, by omega⟩
    rw [Nat.mul_succ]; rfl
  have e2 : nI (m0 - a) * nI x = nI ((m0 - a) * x) := pk_mul _ _
  intro r
  induction r with
  | zero =>
    intro j h1 hj hA hB hC hD
    refine sX11_repeats_31 ?_
    rw [e2, show m0 - a + j = (m0 - a) * x by omega, nI_add]
    refine ⟨fun _ h2 e => ?_, fun c => absurd (Int32.le_refl _) c⟩
    subst e
    have ej : (m0 - a) * (x - 1) = j := by omega
    refine z h1 (fun i hi => ?_) hB hC hD
    rw [ej]; exact hA i (by omega)
  | succ r ih =>
    intro j h1 hj hA hB hC hD
    have ne : ¬ m0 - a = 0 := fun e => by rw [e, Nat.zero_mul] at hj; omega
    have e3 : nI (a + (m0 - a + j)) - nI (m0 - a) = nI (a + j) := by rw [am_sub_n (by omega)]; congr 1; omega
    refine sX11_repeats_31 ?_
    rw [e2, nI_add a (m0 - a + j), e3, nI_clamp (by omega), nI_clamp (by omega), nI_1, show a + (m0 - a + j) = m0 + j by omega, hA (a + j) (by omega)]
    refine ⟨fun c => absurd c (nI_ge (by omega) (by omega)), fun _ => ⟨vp_in_nI (by omega) (by omega), vp_in_nI (by omega) (by omega), fun h4 e4 => ?_⟩⟩
    subst e4
    rw [show m0 - a + j + 1 = m0 - a + (j + 1) by omega]
    refine ih (j + 1) _ (by omega) (fun i hi => ?_) (fun b hb => by rw [am_gR, if_neg hb]; exact hB b hb) hC hD
    rw [am_gRs, am_fd_end, Nat.zero_add]
    unfold upd
    show _ = nI (am_un _ _ _ i)
    unfold am_un
    by_cases c : i = m0 + j
    · rw [if_pos c, if_pos c]
    · rw [if_neg c, if_neg c]; exact hA i (by omega)
theorem iX11_repeats {a x y : Nat} (hd : 3 ≤ d) (hM : sl_M t n h σ S) (ha : a ≤ S.2.1) (hm : S.2.1 ≤ 64) (hx : 1 ≤ x) (hx9 : x ≤ 9) (hy : y ≤ 260) (z1 : ∀ h', (sl_rp a x y S).1 = 0 → sl_M t n h' σ (sl_rp a x y S).2 → sm_fr h h' → Z 1 h') (z0 : ∀ h', ¬ (sl_rp a x y S).1 = 0 → h'.1 73 12 = (sl_rp a x y S).1 → sm_fr h h' → Z 0 h') : Sp mX11_repeats d [.ref 73, .int (nI a), .int (nI x), .int (nI y)] h Z := by
  obtain ⟨b1, b2, b3, b4, b5, b6, b7⟩ := hM
  have mb : (S.2.1 - a) * x ≤ 64 * 9 := Nat.mul_le_mul (by omega) hx9
  have mx : (S.2.1 - a) * x = (S.2.1 - a) * (x - 1) + (S.2.1 - a) := by
    obtain ⟨x', rfl⟩ : ∃ x', x = x' + 1 := ⟨x - 1, by omega⟩
    rw [Nat.mul_succ]; rfl
  refine Sp_of mf_X11_repeats rfl (Nat.le_of_ble_eq_true rfl) rfl (sX11_repeats_0 (by omega) ?_)
  rw [b2, am_sub_n ha, pk_mul, nI_add, show (nI (a + (S.2.1 - a) * x) ≤ 64) = (a + (S.2.1 - a) * x ≤ 64) from propext (nI_leI (b := 64) (by omega) (by omega))]
  refine ⟨fun c => ?_, fun c => ⟨Or.inl rfl, ?_⟩⟩
  · have er : sl_rp a x y S = (0, (S.1, a + (S.2.1 - a) * x, am_fd (fun j L => am_un L (S.2.1 + j) (L (a + j))) 0 ((S.2.1 - a) * (x - 1)) S.2.2)) := if_neg (by omega)
    refine m_rp (m0 := S.2.1) (k0 := S.1) (L0 := S.2.2) ha hx hx9 c (fun h' hA hB hC hD => ?_) ((S.2.1 - a) * (x - 1)) 0 h (by omega) b3 (fun _ _ => rfl) rfl rfl
    refine z1 _ (by rw [er]) ?_ ⟨fun b hb => hB b (by omega), fun b k nb => by rw [am_gI, if_neg (fun e => nb (by omega)), hC], hD⟩
    rw [er]
    refine ⟨am_ms_sI ⟨by rw [hC]; exact b1.1, by rw [hC]; exact b1.2.1, b1.2.2.1, b1.2.2.2.1, b1.2.2.2.2.1, fun i hi => by rw [hB 80 (by decide)]; exact b1.2.2.2.2.2 i hi⟩ (by decide) (by decide), by rw [am_gI, if_pos ⟨rfl, rfl⟩], hA, by rw [am_gI, if_neg (by decide), hC]; exact b4, ?_, b6, sl_ek_m (by show S.2.1 ≤ a + (S.2.1 - a) * x; omega) σ b7⟩
    rw [am_gI2, hB 102 (by decide), hB 103 (by decide), hB 104 (by decide)]; exact b5
  · have er : sl_rp a x y S = (am_ft 6 y, S) := if_pos (by omega)
    refine z0 _ (by rw [er]; exact (am_ft_n (by omega) (by omega) hy).2) (by rw [am_gI, if_pos ⟨rfl, rfl⟩, er]; rfl) (sm_fr_sI (sm_fr_rf h) (by omega))
/-- the closing rounds -/
theorem m_203 {o : sl_O} {u1 u2 : Value} (hd : 4 ≤ d) (hn : n ≤ 200) (tb : ∀ i, t i < 256) (z1 : ∀ h' σ' S', sm_fr h h' → sl_M t n h' σ' S' → sl_ok n S' → (σ' ≠ [] → ¬ am_rd t n S'.1 = 41) → sl_ct t n σ' S' = o → S.1 ≤ S'.1 → Z 1 h') (z0 : ∀ h', sm_fr h h' → ¬ o.1 = 0 → h'.1 73 12 = o.1 → Z 0 h') : ∀ (σ : List sl_E) (S' : sl_S) (h1 : am_H), sm_fr h h1 → sl_M t n h1 σ S' → sl_ok n S' → sl_ct t n σ S' = o → S.1 ≤ S'.1 → Ru mX11_readsLetter none d 203 [.ref 73, u1, u2] [] h1 Z
  | σ, S', h1, f1, hM, ok, e, hle => by
    have okk := ok.1
    have ok2 := ok.2.1
    refine sX11_readsLetter_203 (by omega) ?_
    rw [am_ms_hr hM.1, hM.2.2.2.1]
    refine ⟨am_ms_ok hM.1, fun c => z1 h1 σ S' f1 hM ok (fun _ => c) e hle, fun c => ?_⟩
    cases σ with
    | nil => exact ⟨fun _ => z1 h1 [] S' f1 hM ok (fun q => absurd rfl q) e hle, fun q => absurd (Int32.le_refl _) q⟩
    | cons en σ =>
      have kn : S'.1 < n := am_rd_lt c (by decide)
      obtain ⟨b1, b2, b3, b4, b5, b6, b7⟩ := hM
      have b6' : σ.length + 1 ≤ 2 := b6
      have e1 : nI (σ.length + 1) - 1 = nI σ.length := am_sub_n (a := σ.length + 1) (c := 1) (by omega)
      refine ⟨fun q => absurd q (nI_ge (a := 0) (b := σ.length + 1) (by omega) (by omega)), fun _ h2 e2 h3 e3 => ?_⟩
      have k50 : h2.1 73 50 = nI (σ.length + 1) := by rw [e2, am_gI, if_neg (by decide)]; exact b4
      rw [k50, e1] at e3
      have k3 : h3.1 73 50 = nI σ.length := by rw [e3, am_gI, if_pos ⟨rfl, rfl⟩]
      have A3 : h3.2.2 = h1.2.2 := by rw [e3, e2]; rfl
      have f3 : sm_fr h h3 := by rw [e3, e2]; exact sm_fr_sI (sm_fr_sI f1 (by omega)) (by omega)
      have M3 : sl_M t n h3 σ (S'.1 + 1, S'.2) := by
        refine ⟨by rw [e3, e2]; exact am_ms_sI (am_ms_nx b1 kn) (by decide) (by decide), ?_, ?_, k3, ?_, by omega, ?_⟩
        · rw [e3, am_gI, if_neg (by decide), e2, am_gI, if_neg (by decide)]; exact b2
        · rw [A3]; exact b3
        · rw [A3]; exact b5.2.2.2
        · exact sl_ek_m b7.2.1 σ b7.2.2.2.2
      rw [k3, nI_clamp (by omega), A3, b5.1, b5.2.1, b5.2.2.1]
      rw [sl_ct_cl kn c] at e
      have b71 := b7.1
      refine ⟨vp_in_nI (by omega) (by omega), 3, by omega, iX11_repeats (S := (S'.1 + 1, S'.2)) (by omega) M3 b7.2.1 ok2 b7.2.2.1 b7.2.2.2.1 (by omega) (fun h6 r0 M6 f6 => ⟨fun _ => ?_, fun q => absurd q (by decide)⟩) (fun h6 r1 e12 f6 => ⟨fun q => absurd rfl q, fun _ => ?_⟩)⟩
      · have p := (sl_rp_p (a := en.2.1) (x := en.2.2) (y := en.1) (S := (S'.1 + 1, S'.2)) hn ⟨by show S'.1 + 1 ≤ n; omega, ok.2⟩ b7.2.1 b7.2.2.1 (by omega)).1 r0
        have p2 : (sl_rp en.2.1 en.2.2 en.1 (S'.1 + 1, S'.2)).2.1 = S'.1 + 1 := p.2
        rw [sl_b_0 r0] at e
        exact m_203 hd hn tb z1 z0 σ _ h6 (sm_fr_tr f3 f6) M6 p.1 e (by omega)
      · rw [sl_b_f r1] at e
        rw [e] at r1 e12
        exact z0 h6 (sm_fr_tr f3 f6) r1 e12
termination_by σ => σ.length
/-- from where an element begins -/
theorem m_l4 {o : sl_O} {k0 : Nat} (hd : 5 ≤ d) (hn : n ≤ 200) (tb : ∀ i, t i < 256) (z1 : ∀ h' σ' S', sm_fr h h' → sl_M t n h' σ' S' → sl_ok n S' → (σ' ≠ [] → ¬ am_rd t n S'.1 = 41) → sl_ct t n σ' S' = o → k0 < S'.1 → Z 1 h') (z0 : ∀ h', sm_fr h h' → ¬ o.1 = 0 → h'.1 73 12 = o.1 → Z 0 h') : ∀ (c : Nat) (σ : List sl_E) (S : sl_S) (h1 : am_H) (u1 u2 : Value), σ.length + c = 2 → sm_fr h h1 → sl_M t n h1 σ (sl_k t n S.1, S.2) → h1.1 73 51 = nI S.1 → h1.1 73 52 = nI (sl_x t n S.1) → sl_ok n S → k0 ≤ S.1 → sl_go t n σ S = o → Ru mX11_readsLetter none d 4 [.ref 73, u1, u2] [] h1 Z
  | c, σ, S, h1, u1, u2, hc, f1, hM, e51, e52, ok, hk0, e => by
    have ok1 := ok.1
    have ok2 := ok.2.1
    have kk := sl_k_le (t := t) ok.1
    have xx := sl_x_1 (t := t) (n := n) S.1
    obtain ⟨b1, b2, b3, b4, b5, b6, b7⟩ := hM
    have b2' : h1.1 73 49 = nI S.2.1 := b2
    have lti : ((97 : Int32) ≤ am_rd t n (sl_k t n S.1) ∧ am_rd t n (sl_k t n S.1) ≤ 122) = sl_lt t n (sl_k t n S.1) := propext (am_rd_in (lo := 97) (hi := 122) (by omega) (by omega) tb)
    have e40 : (am_rd t n (sl_k t n S.1) = 40) = (sl_k t n S.1 < n ∧ t (sl_k t n S.1) = 40) := propext (am_rd_eq (x := 40) (by omega) tb)
    have hr : am_hr h1 = am_rd t n (sl_k t n S.1) := am_ms_hr b1
    have e10 : h1.1 73 10 = nI (sl_k t n S.1) := b1.2.1
    have bad : ∀ x y : Nat, 1 ≤ x → x ≤ 8 → y ≤ 260 → sl_e t n σ.length S = (am_ft x y, S) → ((0 : Int32) = 0 ∨ (0 : Int32) = 1) ∧ Z (0 : Int32) (am_sI h1 73 12 ((-1000) * nI x - nI y)) := fun x y h1' h8 hy ee => by
      have nz := (am_ft_n (x := x) (k := y) h1' h8 hy).2
      have eo : o = (am_ft x y, S) := by
        rw [← e]; unfold sl_go; rw [ee, sl_b_f nz]
      refine ⟨Or.inl rfl, z0 _ (sm_fr_sI f1 (by omega)) (by rw [eo]; exact nz) (by rw [am_gI, if_pos ⟨rfl, rfl⟩, eo]; rfl)⟩
    refine sX11_readsLetter_4 (by omega) ?_
    rw [hr, e40, lti, b2', e52, nI_add, e51, e10, show (nI (S.2.1 + sl_x t n S.1) ≤ 64) = (S.2.1 + sl_x t n S.1 ≤ 64) from propext (nI_leI (b := 64) (by omega) (by omega)), b4, show (nI σ.length = 2) = (σ.length = 2) from propext (nI_eq (b := 2) (by omega) (by omega))]
    refine ⟨am_ms_ok b1, fun c1 => ⟨fun c2 => ⟨fun c3 => ?_, fun c3 => bad 6 S.1 (by omega) (by omega) (by omega) ?_⟩, fun c2 => bad 1 (sl_k t n S.1) (by omega) (by omega) (by omega) (sl_e_no c2 c1 _)⟩, fun c1 => ?_⟩
    · refine ⟨vp_in_nI (by omega) (by omega), fun h3 e3 h4 e4 h5 e5 => ?_⟩
      have er : am_rd t n (sl_k t n S.1) = nI (t (sl_k t n S.1)) := if_pos c2.1
      rw [er, show nI (t (sl_k t n S.1)) - 97 = nI (t (sl_k t n S.1) - 97) from am_sub_n (c := 97) c2.2.1, nI_clamp (by omega)] at e3
      have i3 : h3.1 = h1.1 := by rw [e3]; rfl
      have k49 : h4.1 73 49 = nI S.2.1 := by rw [e4, am_gI, if_neg (by decide), i3]; exact b2'
      rw [k49, nI_1] at e5
      have k5 : h5.1 73 49 = nI (S.2.1 + 1) := by rw [e5, am_gI, if_pos ⟨rfl, rfl⟩]
      rw [k5, show nI (S.2.1 + 1) - 1 = nI S.2.1 from am_sub_n (a := S.2.1 + 1) (c := 1) (by omega)]
      have f5 : sm_fr h h5 := by rw [e5, e4, e3]; exact sm_fr_sI (sm_fr_sI (sm_fr_sR f1 (by omega)) (by omega)) (by omega)
      have M5 : sl_M t n h5 σ (sl_k t n S.1 + 1, S.2.1 + 1, am_un S.2.2 S.2.1 (t (sl_k t n S.1) - 97)) := by
        have A5 : ∀ a, a ≠ 101 → h5.2.2 a = h1.2.2 a := fun a ha => by rw [e5, am_gI2, e4, am_gI2, e3, am_gR, if_neg ha]
        refine ⟨?_, k5, fun i hi => ?_, ?_, ?_, b6, sl_ek_m (Nat.le_succ _) σ b7⟩
        · rw [e5, e4, e3]; exact am_ms_sI (am_ms_nx (am_ms_sR b1 (by decide)) c2.1) (by decide) (by decide)
        · have hi' : i < S.2.1 + 1 := hi
          rw [e5, am_gI2, e4, am_gI2, e3, am_gRs]
          show upd _ _ _ i = nI (am_un _ _ _ i)
          unfold upd am_un
          by_cases q : i = S.2.1
          · rw [if_pos q, if_pos q]
          · rw [if_neg q, if_neg q]; exact b3 i (by show i < S.2.1; omega)
        · rw [e5, am_gI, if_neg (by decide), e4, am_gI, if_neg (by decide), i3]; exact b4
        · rw [A5 102 (by decide), A5 103 (by decide), A5 104 (by decide)]; exact b5
      have e1 : sl_1 (sl_x t n S.1) S.1 (sl_k t n S.1 + 1) (t (sl_k t n S.1) - 97) S = sl_rp S.2.1 (sl_x t n S.1) S.1 (sl_k t n S.1 + 1, S.2.1 + 1, am_un S.2.2 S.2.1 (t (sl_k t n S.1) - 97)) := if_neg (by omega)
      have e' : sl_b (sl_rp S.2.1 (sl_x t n S.1) S.1 (sl_k t n S.1 + 1, S.2.1 + 1, am_un S.2.2 S.2.1 (t (sl_k t n S.1) - 97))) (sl_ct t n σ) = o := by
        rw [← e]; unfold sl_go; rw [sl_e_lt c2, e1]
      have okN : sl_ok n (sl_k t n S.1 + 1, S.2.1 + 1, am_un S.2.2 S.2.1 (t (sl_k t n S.1) - 97)) := by
        refine ⟨by show sl_k t n S.1 + 1 ≤ n; have := c2.1; omega, by show S.2.1 + 1 ≤ 64; omega, fun i hi => ?_⟩
        have hi' : i < S.2.1 + 1 := hi
        show am_un _ _ _ i < 26
        unfold am_un
        split
        · have := c2.2; omega
        · exact ok.2.2 i (by omega)
      refine ⟨4, by omega, iX11_repeats (S := (sl_k t n S.1 + 1, S.2.1 + 1, am_un S.2.2 S.2.1 (t (sl_k t n S.1) - 97))) (by omega) M5 (Nat.le_succ _) (by show S.2.1 + 1 ≤ 64; omega) xx.1 xx.2 (by omega) (fun h6 r0 M6 f6 => ⟨fun _ => ?_, fun q => absurd q (by decide)⟩) (fun h6 r1 e12 f6 => ⟨fun q => absurd rfl q, fun _ => ?_⟩)⟩
      · have p := (sl_rp_p (a := S.2.1) (x := sl_x t n S.1) (y := S.1) hn okN (Nat.le_succ _) xx.1 (by omega)).1 r0
        have p2 : (sl_rp S.2.1 (sl_x t n S.1) S.1 (sl_k t n S.1 + 1, S.2.1 + 1, am_un S.2.2 S.2.1 (t (sl_k t n S.1) - 97))).2.1 = sl_k t n S.1 + 1 := p.2
        rw [sl_b_0 r0] at e'
        exact m_203 (h := h) (S := (k0 + 1, S.2)) (by omega) hn tb (fun h' σ' S' g1 g2 g3 g4 g5 g6 => z1 h' σ' S' g1 g2 g3 g4 g5 g6) z0 σ _ h6 (sm_fr_tr f5 f6) M6 p.1 e' (by show k0 + 1 ≤ _; omega)
      · rw [sl_b_f r1] at e'
        rw [e'] at r1 e12
        exact z0 h6 (sm_fr_tr f5 f6) r1 e12
    · rw [sl_e_lt c2]; exact if_pos (by omega)
    · have nl : ¬ sl_lt t n (sl_k t n S.1) := fun q => by have := q.2; omega
      refine ⟨fun c2 => ?_, fun c2 => bad 5 (sl_k t n S.1) (by omega) (by omega) (by omega) (by rw [c2]; exact sl_e_5 nl c1)⟩
      refine ⟨vp_in_nI (by omega) (by omega), fun h11 e11 => ?_⟩
      have i11 : h11.1 = h1.1 := by rw [e11]; rfl
      rw [i11, b4]
      refine ⟨vp_in_nI (by omega) (by omega), fun h13 e13 => ?_⟩
      have i13 : h13.1 = h1.1 := by rw [e13]; exact i11
      rw [i13, b4]
      refine ⟨vp_in_nI (by omega) (by omega), fun h15 e15 h16 e16 h17 e17 => ?_⟩
      have i15 : h15.1 = h1.1 := by rw [e15]; exact i13
      rw [nI_clamp (by omega)] at e11 e13 e15
      rw [b2'] at e13
      rw [e52] at e15
      rw [i15, b4, nI_1] at e16
      cases c with
      | zero => omega
      | succ c =>
        have push := sl_go_push (σ := σ) nl c1 (by omega)
        rw [push] at e
        have f17 : sm_fr h h17 := by rw [e17, e16, e15, e13, e11]; exact sm_fr_sI (sm_fr_sI (sm_fr_sR (sm_fr_sR (sm_fr_sR f1 (by omega)) (by omega)) (by omega)) (by omega)) (by omega)
        have S17 : am_ms t n (sl_k t n S.1 + 1) h17 := by rw [e17, e16, e15, e13, e11]; exact am_ms_nx (am_ms_sI (am_ms_sR (am_ms_sR (am_ms_sR b1 (by decide)) (by decide)) (by decide)) (by decide) (by decide)) c1.1
        have j17 : ∀ j, j ≠ 10 → j ≠ 50 → h17.1 73 j = h1.1 73 j := fun j n1 n2 => by rw [e17, am_gI, if_neg (fun e => n1 e.2), e16, am_gI, if_neg (fun e => n2 e.2), i15]
        have k17 : h17.1 73 50 = nI (σ.length + 1) := by rw [e17, am_gI, if_neg (by decide), e16, am_gI, if_pos ⟨rfl, rfl⟩]
        have A17 : h17.2.2 = h15.2.2 := by rw [e17, e16]; rfl
        have q101 : h17.2.2 101 = h1.2.2 101 := by rw [A17, e15, am_gR, if_neg (by decide), e13, am_gR, if_neg (by decide), e11, am_gR, if_neg (by decide)]
        have q102 : h17.2.2 102 = upd (h1.2.2 102) σ.length (nI S.1) := by rw [A17, e15, am_gR, if_neg (by decide), e13, am_gR, if_neg (by decide), e11, am_gRs]
        have q103 : h17.2.2 103 = upd (h1.2.2 103) σ.length (nI S.2.1) := by rw [A17, e15, am_gR, if_neg (by decide), e13, am_gRs, e11, am_gR, if_neg (by decide)]
        have q104 : h17.2.2 104 = upd (h1.2.2 104) σ.length (nI (sl_x t n S.1)) := by rw [A17, e15, am_gRs, e13, am_gR, if_neg (by decide), e11, am_gR, if_neg (by decide)]
        refine ⟨4, by omega, iX11_readsTimes (by omega) S17 (fun h19 S19 g51 g52 goth gA gf => ?_)⟩
        refine m_l4 hd hn tb z1 z0 c ((S.1, S.2.1, sl_x t n S.1) :: σ) (sl_k t n S.1 + 1, S.2) h19 u1 u2 (by show σ.length + 1 + c = 2; omega) (sm_fr_tr f17 gf) ⟨S19, ?_, ?_, ?_, ?_, by show σ.length + 1 ≤ 2; omega, ⟨ok1, Nat.le_refl _, xx.1, xx.2, b7⟩⟩ g51 g52 ⟨by show sl_k t n S.1 + 1 ≤ n; have := c1.1; omega, ok.2⟩ (by show k0 ≤ sl_k t n S.1 + 1; omega) e
        · rw [goth 49 (by decide) (by decide) (by decide), j17 49 (by decide) (by decide)]; exact b2
        · rw [gA, q101]; exact b3
        · rw [goth 50 (by decide) (by decide) (by decide)]; exact k17
        · rw [gA, q102, q103, q104]
          refine ⟨?_, ?_, ?_, sl_K1_u σ (Nat.le_refl _) b5⟩
          · unfold upd; exact if_pos rfl
          · unfold upd; exact if_pos rfl
          · unfold upd; exact if_pos rfl
theorem iX11_readsLetter {o : sl_O} (hd : 6 ≤ d) (hn : n ≤ 200) (tb : ∀ i, t i < 256) (hM : sl_M t n h σ S) (ok : sl_ok n S) (e : sl_go t n σ S = o) (z1 : ∀ h' σ' S', sm_fr h h' → sl_M t n h' σ' S' → sl_ok n S' → (σ' ≠ [] → ¬ am_rd t n S'.1 = 41) → sl_ct t n σ' S' = o → S.1 < S'.1 → Z 1 h') (z0 : ∀ h', sm_fr h h' → ¬ o.1 = 0 → h'.1 73 12 = o.1 → Z 0 h') : Sp mX11_readsLetter d [.ref 73] h Z := by
  obtain ⟨b1, b2, b3, b4, b5, b6, b7⟩ := hM
  refine Sp_of mf_X11_readsLetter rfl (Nat.le_of_ble_eq_true rfl) rfl (sX11_readsLetter_0 ⟨5, by omega, iX11_readsTimes (by omega) b1 (fun h2 S2 g51 g52 goth gA gf => ?_)⟩)
  refine m_l4 (h := h) (k0 := S.1) (by omega) hn tb z1 z0 (2 - σ.length) σ S h2 _ _ (by omega) gf ⟨S2, ?_, ?_, ?_, ?_, b6, b7⟩ g51 g52 ok (Nat.le_refl _) e
  · rw [goth 49 (by decide) (by decide) (by decide)]; exact b2
  · rw [gA]; exact b3
  · rw [goth 50 (by decide) (by decide) (by decide)]; exact b4
  · rw [gA]; exact b5
theorem m_61 {o : sl_O} {u1 : Value} {x2 : Int32} (hd : 8 ≤ d) (hn : n ≤ 200) (tb : ∀ i, t i < 256) (z1 : ∀ h', sm_fr h h' → o.1 = 0 → sl_M t n h' [] o.2 → sl_ok n o.2 → Ru mX11_slip none d 91 [.ref 73, u1, .int x2, .int 1] [] h' Z) (z0 : ∀ h', sm_fr h h' → ¬ o.1 = 0 → h'.1 73 12 = o.1 → Ru mX11_slip none d 91 [.ref 73, u1, .int x2, .int 0] [] h' Z) : ∀ (f : Nat) (σ : List sl_E) (S : sl_S) (h1 : am_H), n < S.1 + f → sm_fr h h1 → sl_M t n h1 σ S → sl_ok n S → (σ ≠ [] → ¬ am_rd t n S.1 = 41) → sl_ct t n σ S = o → Ru mX11_slip none d 61 [.ref 73, u1, .int x2, .int 1] [] h1 Z
  | 0, σ, S, h1, hf, f1, hM, ok, hc, e => by have := ok.1; omega
  | f + 1, σ, S, h1, hf, f1, hM, ok, hc, e => by
    have ok1 := ok.1
    have b6 := hM.2.2.2.2.2.1
    have go : (σ = [] → ¬ am_rd t n S.1 = -1) → am_cl mX11_readsLetter d [.ref 73] h1 (fun r1 h2 => Ru mX11_slip none d 61 [.ref 73, u1, .int x2, .int r1] [] h2 Z) := fun q => by
      refine ⟨7, by omega, iX11_readsLetter (by omega) hn tb hM ok ((sl_ct_go hn tb ok hc q).symm.trans e) (fun h' σ' S' g1 g2 g3 g4 g5 g6 => m_61 hd hn tb z1 z0 f σ' S' h' (by omega) (sm_fr_tr f1 g1) g2 g3 g4 g5) (fun h' g1 g2 g3 => sX11_slip_61 ⟨fun _ => z0 h' (sm_fr_tr f1 g1) g2 g3, fun q => absurd rfl q⟩)⟩
    refine sX11_slip_61 ⟨fun q => absurd q (by decide), fun _ => ?_⟩
    rw [hM.1.2.1, hM.1.1, nI_ltI (by have := hM.1.2.2.2.1; omega) (by have := hM.1.2.2.2.1; omega), hM.2.2.2.1]
    refine ⟨fun c => go (fun _ q => by have := (am_rd_no tb).mp q; omega), fun c => ⟨fun c2 => ?_, fun c2 => go (fun q => absurd (by rw [q]; exact Int32.le_refl _) c2)⟩⟩
    have es : σ = [] := by
      cases σ with
      | nil => rfl
      | cons a b => exact absurd c2 (nI_ge (a := 0) (b := b.length + 1) (by omega) (by have b6' : b.length + 1 ≤ 2 := b6; omega))
    subst es
    rw [sl_ct_nd tb ok1 (by omega)] at e
    subst e
    exact z1 h1 f1 rfl hM ok
end
