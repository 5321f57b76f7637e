-- fewest, the class
set_option maxRecDepth 20000 in
set_option maxHeartbeats 2000000 in
theorem sX6_sortRooms_0 {d : Nat} {h : am_H} {Z : Int32 → am_H → Prop} {a1 : Nat} (hb1 : am_bu a1) (w : Ru mX6_sortRooms none d 4 [.ref 10, .ref a1, .int 0, .int 0, .null] [] h Z) : Ru mX6_sortRooms none d 0 [.ref 10, .ref a1, .null, .null, .null] [] h Z := by
  refine st_iconst (v := 0) dX6_sortRooms_0 (by decide) ?_
  refine st_istore_n (L' := [.ref 10, .ref a1, .int 0, .null, .null]) dX6_sortRooms_1 (by decide) rfl ?_
  refine st_iconst (v := 0) dX6_sortRooms_2 (by decide) ?_
  refine st_istore_n (L' := [.ref 10, .ref a1, .int 0, .int 0, .null]) dX6_sortRooms_3 (by decide) rfl ?_
  exact w
set_option maxRecDepth 20000 in
set_option maxHeartbeats 2000000 in
theorem sX6_sortRooms_4 {d : Nat} {h : am_H} {Z : Int32 → am_H → Prop} {a1 : Nat} (hb1 : am_bu a1) {x2 : Int32} {x3 : Int32} {u4 : Value} (hd : 2 ≤ d) (w : (12 ≤ x3 → Z x2 h) ∧ (¬ (12 ≤ x3) → (¬ (am_told h a1 x3) → Ru mX6_sortRooms none d 4 [.ref 10, .ref a1, .int x2, .int (x3 + 1), u4] [] h Z) ∧ (am_told h a1 x3 → Ru mX6_sortRooms none d 21 [.ref 10, .ref a1, .int x2, .int x3, .int x2] [] h Z))) : Ru mX6_sortRooms none d 4 [.ref 10, .ref a1, .int x2, .int x3, u4] [] h Z := by
  refine st_iload_n dX6_sortRooms_4 rfl ?_
  refine st_bipush (v := 12) dX6_sortRooms_5 (by decide) ?_
  refine st_icmp_ge (tgt := 88) dX6_sortRooms_7 (by decide) (fun c => ?_) (fun c => ?_)
  · replace w := w.1 c
    refine st_iload_n dX6_sortRooms_88 rfl ?_
    exact st_ireturn rfl rfl dX6_sortRooms_89 w
  · replace w := w.2 c
    refine st_aload_n dX6_sortRooms_10 rfl ?_
    refine st_iload_n dX6_sortRooms_11 rfl ?_
    refine st_callV (M' := mX0_isTold) [.int x3] [] dX6_sortRooms_12 ml_X6_60 mf_X0_isTold mv_X0_isTold (bu_0 hb1) rfl rfl rfl (K := fun r h' => (am_b (am_told h a1 x3)) = r ∧ h = h') ⟨1, by omega, iX0_isTold hb1 ⟨rfl, rfl⟩⟩ (fun r1 h1 w1 => ?_)
    obtain ⟨rfl, rfl⟩ := w1
    show Ru mX6_sortRooms none d 15 [.ref 10, .ref a1, .int x2, .int x3, u4] [.int (am_b (am_told h a1 x3))] h Z
    refine st_ifb_eq (tgt := 82) dX6_sortRooms_15 (by decide) (fun c => ?_) (fun c => ?_)
    · replace w := w.1 c
      refine st_iinc (L' := [.ref 10, .ref a1, .int x2, .int (x3 + 1), u4]) dX6_sortRooms_82 rfl rfl (by decide) rfl ?_
      refine st_goto (tgt := 4) dX6_sortRooms_85 (by decide) ?_
      exact w
    · replace w := w.2 c
      refine st_iload_n dX6_sortRooms_18 rfl ?_
      refine st_istore (L' := [.ref 10, .ref a1, .int x2, .int x3, .int x2]) dX6_sortRooms_19 (by decide) rfl ?_
      exact w
set_option maxRecDepth 20000 in
set_option maxHeartbeats 2000000 in
theorem sX6_sortRooms_21 {d : Nat} {h : am_H} {Z : Int32 → am_H → Prop} {a1 : Nat} (hb1 : am_bu a1) {x2 : Int32} {x3 : Int32} {x4 : Int32} (w : (x4 ≤ 0 → (vp_in x3 12 ∧ (vp_in x4 24 ∧ (∀ h3 : am_H, h3 = am_sR h 11 (upd (h.2.2 11) x4.toNatClampNeg (h.2.2 (a1 + 1) x3.toNatClampNeg)) → (Ru mX6_sortRooms none d 4 [.ref 10, .ref a1, .int (x2 + 1), .int (x3 + 1), .int x4] [] h3 Z))))) ∧ (¬ (x4 ≤ 0) → (vp_in (x4 - 1) 24 ∧ (vp_in x3 12 ∧ (((h.2.2 (a1 + 1) x3.toNatClampNeg) ≤ (h.2.2 11 (x4 - 1).toNatClampNeg) → (vp_in x4 24 ∧ (∀ h7 : am_H, h7 = am_sR h 11 (upd (h.2.2 11) x4.toNatClampNeg (h.2.2 (a1 + 1) x3.toNatClampNeg)) → (Ru mX6_sortRooms none d 4 [.ref 10, .ref a1, .int (x2 + 1), .int (x3 + 1), .int x4] [] h7 Z)))) ∧ (¬ ((h.2.2 (a1 + 1) x3.toNatClampNeg) ≤ (h.2.2 11 (x4 - 1).toNatClampNeg)) → (vp_in x4 24 ∧ (∀ h9 : am_H, h9 = am_sR h 11 (upd (h.2.2 11) x4.toNatClampNeg (h.2.2 11 (x4 - 1).toNatClampNeg)) → (Ru mX6_sortRooms none d 21 [.ref 10, .ref a1, .int x2, .int x3, .int (x4 + (-1))] [] h9 Z))))))))) : Ru mX6_sortRooms none d 21 [.ref 10, .ref a1, .int x2, .int x3, .int x4] [] h Z := by
  refine st_iload dX6_sortRooms_21 rfl ?_
  refine st_if_le (tgt := 66) dX6_sortRooms_23 (by decide) (fun c => ?_) (fun c => ?_)
  · replace w := w.1 c
    refine st_aload_n dX6_sortRooms_66 rfl ?_
    refine st_getF (q := 11) fl_X6_11 fk_6_1 rfl dX6_sortRooms_67 sh_10 ?_
    refine st_iload dX6_sortRooms_70 rfl ?_
    refine st_aload_n dX6_sortRooms_72 rfl ?_
    refine st_getF (q := a1 + 1) fl_X6_64 fk_0_0 rfl dX6_sortRooms_73 (bu_0 hb1) ?_
    refine st_iload_n dX6_sortRooms_76 rfl ?_
    have hc1 := w.1
    replace w := w.2
    refine st_iald dX6_sortRooms_77 (bu_1 hb1) hc1 ?_
    have hc2 := w.1
    replace w := w.2
    refine st_iast dX6_sortRooms_78 sh_11 hc2 (fun h3 eh3 => ?_)
    replace w := w h3 eh3
    refine st_iinc (L' := [.ref 10, .ref a1, .int (x2 + 1), .int x3, .int x4]) dX6_sortRooms_79 rfl rfl (by decide) rfl ?_
    refine st_iinc (L' := [.ref 10, .ref a1, .int (x2 + 1), .int (x3 + 1), .int x4]) dX6_sortRooms_82 rfl rfl (by decide) rfl ?_
    refine st_goto (tgt := 4) dX6_sortRooms_85 (by decide) ?_
    exact w
  · replace w := w.2 c
    refine st_aload_n dX6_sortRooms_26 rfl ?_
    refine st_getF (q := 11) fl_X6_11 fk_6_1 rfl dX6_sortRooms_27 sh_10 ?_
    refine st_iload dX6_sortRooms_30 rfl ?_
    refine st_iconst (v := 1) dX6_sortRooms_32 (by decide) ?_
    refine st_isub dX6_sortRooms_33 ?_
    have hc4 := w.1
    replace w := w.2
    refine st_iald dX6_sortRooms_34 sh_11 hc4 ?_
    refine st_aload_n dX6_sortRooms_35 rfl ?_
    refine st_getF (q := a1 + 1) fl_X6_64 fk_0_0 rfl dX6_sortRooms_36 (bu_0 hb1) ?_
    refine st_iload_n dX6_sortRooms_39 rfl ?_
    have hc5 := w.1
    replace w := w.2
    refine st_iald dX6_sortRooms_40 (bu_1 hb1) hc5 ?_
    refine st_icmp_ge (tgt := 66) dX6_sortRooms_41 (by decide) (fun c => ?_) (fun c => ?_)
    · replace w := w.1 c
      refine st_aload_n dX6_sortRooms_66 rfl ?_
      refine st_getF (q := 11) fl_X6_11 fk_6_1 rfl dX6_sortRooms_67 sh_10 ?_
      refine st_iload dX6_sortRooms_70 rfl ?_
      refine st_aload_n dX6_sortRooms_72 rfl ?_
      refine st_getF (q := a1 + 1) fl_X6_64 fk_0_0 rfl dX6_sortRooms_73 (bu_0 hb1) ?_
      refine st_iload_n dX6_sortRooms_76 rfl ?_
      refine st_iald dX6_sortRooms_77 (bu_1 hb1) hc5 ?_
      have hc6 := w.1
      replace w := w.2
      refine st_iast dX6_sortRooms_78 sh_11 hc6 (fun h7 eh7 => ?_)
      replace w := w h7 eh7
      refine st_iinc (L' := [.ref 10, .ref a1, .int (x2 + 1), .int x3, .int x4]) dX6_sortRooms_79 rfl rfl (by decide) rfl ?_
      refine st_iinc (L' := [.ref 10, .ref a1, .int (x2 + 1), .int (x3 + 1), .int x4]) dX6_sortRooms_82 rfl rfl (by decide) rfl ?_
      refine st_goto (tgt := 4) dX6_sortRooms_85 (by decide) ?_
      exact w
    · replace w := w.2 c
      refine st_aload_n dX6_sortRooms_44 rfl ?_
      refine st_getF (q := 11) fl_X6_11 fk_6_1 rfl dX6_sortRooms_45 sh_10 ?_
      refine st_iload dX6_sortRooms_48 rfl ?_
      refine st_aload_n dX6_sortRooms_50 rfl ?_
      refine st_getF (q := 11) fl_X6_11 fk_6_1 rfl dX6_sortRooms_51 sh_10 ?_
      refine st_iload dX6_sortRooms_54 rfl ?_
      refine st_iconst (v := 1) dX6_sortRooms_56 (by decide) ?_
      refine st_isub dX6_sortRooms_57 ?_
      refine st_iald dX6_sortRooms_58 sh_11 hc4 ?_
      have hc8 := w.1
      replace w := w.2
      refine st_iast dX6_sortRooms_59 sh_11 hc8 (fun h9 eh9 => ?_)
      replace w := w h9 eh9
      refine st_iinc (L' := [.ref 10, .ref a1, .int x2, .int x3, .int (x4 + (-1))]) dX6_sortRooms_60 rfl rfl (by decide) rfl ?_
      refine st_goto (tgt := 21) dX6_sortRooms_63 (by decide) ?_
      exact w
set_option maxRecDepth 20000 in
set_option maxHeartbeats 2000000 in
theorem sX6_packOne_0 {d : Nat} {h : am_H} {Z : Int32 → am_H → Prop} {x1 : Int32} {x2 : Int32} {x3 : Int32} {x4 : Int32} (w : ((x1 / 128) < 1 → Z x4 h) ∧ (¬ ((x1 / 128) < 1) → ((x1 / 128) ≤ x3 → (vp_in ((x1 / 128) - 1) 24 ∧ (((h.2.2 11 ((x1 / 128) - 1).toNatClampNeg) < ((am_rem x1 128) + x2) → (x3 ≤ (x1 / 128) → Z x4 h) ∧ (¬ (x3 ≤ (x1 / 128)) → (vp_in (x1 / 128) 24 ∧ (((h.2.2 11 (x1 / 128).toNatClampNeg) < x2 → Z x4 h) ∧ (¬ ((h.2.2 11 (x1 / 128).toNatClampNeg) < x2) → Z ((((x1 / 128) + 1) * 128) + x2) h))))) ∧ (¬ ((h.2.2 11 ((x1 / 128) - 1).toNatClampNeg) < ((am_rem x1 128) + x2)) → Z (x1 + x2) h)))) ∧ (¬ ((x1 / 128) ≤ x3) → Z x4 h))) : Ru mX6_packOne none d 0 [.ref 10, .int x1, .int x2, .int x3, .int x4, .null, .null] [] h Z := by
  refine st_iload_n dX6_packOne_0 rfl ?_
  refine st_sipush (v := 128) dX6_packOne_1 (by decide) ?_
  refine st_idiv dX6_packOne_4 (by decide) ?_
  refine st_istore (L' := [.ref 10, .int x1, .int x2, .int x3, .int x4, .int (x1 / 128), .null]) dX6_packOne_5 (by decide) rfl ?_
  refine st_iload_n dX6_packOne_7 rfl ?_
  refine st_sipush (v := 128) dX6_packOne_8 (by decide) ?_
  refine st_irem dX6_packOne_11 (by decide) ?_
  refine st_istore (L' := [.ref 10, .int x1, .int x2, .int x3, .int x4, .int (x1 / 128), .int (am_rem x1 128)]) dX6_packOne_12 (by decide) rfl ?_
  refine st_iload dX6_packOne_14 rfl ?_
  refine st_iconst (v := 1) dX6_packOne_16 (by decide) ?_
  refine st_icmp_lt (tgt := 26) dX6_packOne_17 (by decide) (fun c => ?_) (fun c => ?_)
  · replace w := w.1 c
    refine st_iload dX6_packOne_26 rfl ?_
    exact st_ireturn rfl rfl dX6_packOne_28 w
  · replace w := w.2 c
    refine st_iload dX6_packOne_20 rfl ?_
    refine st_iload_n dX6_packOne_22 rfl ?_
    refine st_icmp_le (tgt := 29) dX6_packOne_23 (by decide) (fun c => ?_) (fun c => ?_)
    · replace w := w.1 c
      refine st_iload dX6_packOne_29 rfl ?_
      refine st_iload_n dX6_packOne_31 rfl ?_
      refine st_iadd dX6_packOne_32 ?_
      refine st_aload_n dX6_packOne_33 rfl ?_
      refine st_getF (q := 11) fl_X6_11 fk_6_1 rfl dX6_packOne_34 sh_10 ?_
      refine st_iload dX6_packOne_37 rfl ?_
      refine st_iconst (v := 1) dX6_packOne_39 (by decide) ?_
      refine st_isub dX6_packOne_40 ?_
      have hc1 := w.1
      replace w := w.2
      refine st_iald dX6_packOne_41 sh_11 hc1 ?_
      refine st_icmp_gt (tgt := 49) dX6_packOne_42 (by decide) (fun c => ?_) (fun c => ?_)
      · replace w := w.1 c
        refine st_iload dX6_packOne_49 rfl ?_
        refine st_iload_n dX6_packOne_51 rfl ?_
        refine st_icmp_ge (tgt := 77) dX6_packOne_52 (by decide) (fun c => ?_) (fun c => ?_)
        · replace w := w.1 c
          refine st_iload dX6_packOne_77 rfl ?_
          exact st_ireturn rfl rfl dX6_packOne_79 w
        · replace w := w.2 c
          refine st_iload_n dX6_packOne_55 rfl ?_
          refine st_aload_n dX6_packOne_56 rfl ?_
          refine st_getF (q := 11) fl_X6_11 fk_6_1 rfl dX6_packOne_57 sh_10 ?_
          refine st_iload dX6_packOne_60 rfl ?_
          have hc2 := w.1
          replace w := w.2
          refine st_iald dX6_packOne_62 sh_11 hc2 ?_
          refine st_icmp_gt (tgt := 77) dX6_packOne_63 (by decide) (fun c => ?_) (fun c => ?_)
          · replace w := w.1 c
            refine st_iload dX6_packOne_77 rfl ?_
            exact st_ireturn rfl rfl dX6_packOne_79 w
          · replace w := w.2 c
            refine st_iload dX6_packOne_66 rfl ?_
            refine st_iconst (v := 1) dX6_packOne_68 (by decide) ?_
            refine st_iadd dX6_packOne_69 ?_
            refine st_sipush (v := 128) dX6_packOne_70 (by decide) ?_
            refine st_imul dX6_packOne_73 ?_
            refine st_iload_n dX6_packOne_74 rfl ?_
            refine st_iadd dX6_packOne_75 ?_
            exact st_ireturn rfl rfl dX6_packOne_76 w
      · replace w := w.2 c
        refine st_iload_n dX6_packOne_45 rfl ?_
        refine st_iload_n dX6_packOne_46 rfl ?_
        refine st_iadd dX6_packOne_47 ?_
        exact st_ireturn rfl rfl dX6_packOne_48 w
    · replace w := w.2 c
      refine st_iload dX6_packOne_26 rfl ?_
      exact st_ireturn rfl rfl dX6_packOne_28 w
set_option maxRecDepth 20000 in
set_option maxHeartbeats 2000000 in
theorem sX6_fewestDrawers_0 {d : Nat} {h : am_H} {Z : Int32 → am_H → Prop} {a1 : Nat} (hb1 : am_bu a1) (hd : 2 ≤ d) (w : (¬ (h.1 a1 8) = 0 → am_cl mX6_sortRooms d [.ref 10, .ref a1] h (fun r1 h2 => (r1 = 0 → Z (-2) h2) ∧ (¬ (r1 = 0) → (((1 <<< ((h2.1 a1 8) &&& 31)) - 1) < (1024 : Int32) → (∀ h3 : am_H, h3 = am_sR (am_sR h2 13 (am_fill (h2.2.2 13) 1024 ((r1 + 1) * 128))) 13 (upd ((am_sR h2 13 (am_fill (h2.2.2 13) 1024 ((r1 + 1) * 128))).2.2 13) 0 128) → (Ru mX6_fewestDrawers none d 68 [.ref 10, .ref a1, .int r1, .int ((1 <<< ((h2.1 a1 8) &&& 31)) - 1), .int ((r1 + 1) * 128), .int 0, .null, .null] [] h3 Z))) ∧ (¬ (((1 <<< ((h2.1 a1 8) &&& 31)) - 1) < (1024 : Int32)) → Z (-2) h2)))) ∧ ((h.1 a1 8) = 0 → Z 0 h)) : Ru mX6_fewestDrawers none d 0 [.ref 10, .ref a1, .null, .null, .null, .null, .null, .null] [] h Z := by
  refine st_aload_n dX6_fewestDrawers_0 rfl ?_
  refine st_getI fl_X6_31 fk_0_8 dX6_fewestDrawers_1 (bu_0 hb1) ?_
  refine st_if_ne (tgt := 9) dX6_fewestDrawers_4 (by decide) (fun c => ?_) (fun c => ?_)
  · replace w := w.1 c
    refine st_aload_n dX6_fewestDrawers_9 rfl ?_
    refine st_aload_n dX6_fewestDrawers_10 rfl ?_
    refine st_callV (M' := mX6_sortRooms) [.ref a1] [] dX6_fewestDrawers_11 ml_X6_37 mf_X6_sortRooms mv_X6_sortRooms sh_10 rfl rfl rfl w (fun r1 h2 w => ?_)
    show Ru mX6_fewestDrawers none d 14 [.ref 10, .ref a1, .null, .null, .null, .null, .null, .null] [.int r1] h2 Z
    refine st_istore_n (L' := [.ref 10, .ref a1, .int r1, .null, .null, .null, .null, .null]) dX6_fewestDrawers_14 (by decide) rfl ?_
    refine st_iconst (v := 1) dX6_fewestDrawers_15 (by decide) ?_
    refine st_aload_n dX6_fewestDrawers_16 rfl ?_
    refine st_getI fl_X6_31 fk_0_8 dX6_fewestDrawers_17 (bu_0 hb1) ?_
    refine st_ishl dX6_fewestDrawers_20 ?_
    refine st_iconst (v := 1) dX6_fewestDrawers_21 (by decide) ?_
    refine st_isub dX6_fewestDrawers_22 ?_
    refine st_istore_n (L' := [.ref 10, .ref a1, .int r1, .int ((1 <<< ((h2.1 a1 8) &&& 31)) - 1), .null, .null, .null, .null]) dX6_fewestDrawers_23 (by decide) rfl ?_
    refine st_iload_n dX6_fewestDrawers_24 rfl ?_
    refine st_if_eq (tgt := 35) dX6_fewestDrawers_25 (by decide) (fun c => ?_) (fun c => ?_)
    · replace w := w.1 c
      refine st_bipush (v := (-2)) dX6_fewestDrawers_35 (by decide) ?_
      exact st_ireturn rfl rfl dX6_fewestDrawers_37 w
    · replace w := w.2 c
      refine st_iload_n dX6_fewestDrawers_28 rfl ?_
      refine st_sipush (v := 1024) dX6_fewestDrawers_29 (by decide) ?_
      refine st_icmp_lt (tgt := 38) dX6_fewestDrawers_32 (by decide) (fun c => ?_) (fun c => ?_)
      · replace w := w.1 c
        refine st_iload_n dX6_fewestDrawers_38 rfl ?_
        refine st_iconst (v := 1) dX6_fewestDrawers_39 (by decide) ?_
        refine st_iadd dX6_fewestDrawers_40 ?_
        refine st_sipush (v := 128) dX6_fewestDrawers_41 (by decide) ?_
        refine st_imul dX6_fewestDrawers_44 ?_
        refine st_istore (L' := [.ref 10, .ref a1, .int r1, .int ((1 <<< ((h2.1 a1 8) &&& 31)) - 1), .int ((r1 + 1) * 128), .null, .null, .null]) dX6_fewestDrawers_45 (by decide) rfl ?_
        refine st_aload_n dX6_fewestDrawers_47 rfl ?_
        refine st_getF (q := 13) fl_X6_18 fk_6_3 rfl dX6_fewestDrawers_48 sh_10 ?_
        refine st_iload dX6_fewestDrawers_51 rfl ?_
        refine st_callS (M' := mJ7_fill_53178) [.ref 13, .int ((r1 + 1) * 128)] [] dX6_fewestDrawers_53 ml_X6_41 mf_J7_fill_53178 ms_J7_fill_53178 rfl rfl rfl (K := fun r h' => 0 = r ∧ am_sR h2 13 (am_fill (h2.2.2 13) 1024 ((r1 + 1) * 128)) = h') ⟨1, by omega, iJ7_fill sh_13 (by decide) ⟨rfl, rfl⟩⟩ (fun r1 h1 w1 => ?_)
        obtain ⟨rfl, rfl⟩ := w1
        show Ru mX6_fewestDrawers none d 56 [.ref 10, .ref a1, .int r1, .int ((1 <<< ((h2.1 a1 8) &&& 31)) - 1), .int ((r1 + 1) * 128), .null, .null, .null] [] (am_sR h2 13 (am_fill (h2.2.2 13) 1024 ((r1 + 1) * 128))) Z
        refine st_aload_n dX6_fewestDrawers_56 rfl ?_
        refine st_getF (q := 13) fl_X6_18 fk_6_3 rfl dX6_fewestDrawers_57 sh_10 ?_
        refine st_iconst (v := 0) dX6_fewestDrawers_60 (by decide) ?_
        refine st_sipush (v := 128) dX6_fewestDrawers_61 (by decide) ?_
        refine st_iast dX6_fewestDrawers_64 sh_13 (by unfold vp_in; decide +kernel) (fun h3 eh3 => ?_)
        replace w := w h3 eh3
        refine st_iconst (v := 0) dX6_fewestDrawers_65 (by decide) ?_
        refine st_istore (L' := [.ref 10, .ref a1, .int r1, .int ((1 <<< ((h2.1 a1 8) &&& 31)) - 1), .int ((r1 + 1) * 128), .int 0, .null, .null]) dX6_fewestDrawers_66 (by decide) rfl ?_
        exact w
      · replace w := w.2 c
        refine st_bipush (v := (-2)) dX6_fewestDrawers_35 (by decide) ?_
        exact st_ireturn rfl rfl dX6_fewestDrawers_37 w
  · replace w := w.2 c
    refine st_iconst (v := 0) dX6_fewestDrawers_7 (by decide) ?_
    exact st_ireturn rfl rfl dX6_fewestDrawers_8 w
set_option maxRecDepth 20000 in
set_option maxHeartbeats 2000000 in
theorem sX6_fewestDrawers_68 {d : Nat} {h : am_H} {Z : Int32 → am_H → Prop} {a1 : Nat} (hb1 : am_bu a1) {x2 : Int32} {x3 : Int32} {x4 : Int32} {x5 : Int32} {u6 : Value} {u7 : Value} (w : (x3 ≤ x5 → (vp_in x3 1024 ∧ ((x4 ≤ (h.2.2 13 x3.toNatClampNeg) → Z (-2) h) ∧ (¬ (x4 ≤ (h.2.2 13 x3.toNatClampNeg)) → Z ((h.2.2 13 x3.toNatClampNeg) / 128) h)))) ∧ (¬ (x3 ≤ x5) → Ru mX6_fewestDrawers none d 77 [.ref 10, .ref a1, .int x2, .int x3, .int x4, .int x5, .int 0, u7] [] h Z)) : Ru mX6_fewestDrawers none d 68 [.ref 10, .ref a1, .int x2, .int x3, .int x4, .int x5, u6, u7] [] h Z := by
  refine st_iload dX6_fewestDrawers_68 rfl ?_
  refine st_iload_n dX6_fewestDrawers_70 rfl ?_
  refine st_icmp_ge (tgt := 164) dX6_fewestDrawers_71 (by decide) (fun c => ?_) (fun c => ?_)
  · replace w := w.1 c
    refine st_aload_n dX6_fewestDrawers_164 rfl ?_
    refine st_getF (q := 13) fl_X6_18 fk_6_3 rfl dX6_fewestDrawers_165 sh_10 ?_
    refine st_iload_n dX6_fewestDrawers_168 rfl ?_
    have hc1 := w.1
    replace w := w.2
    refine st_iald dX6_fewestDrawers_169 sh_13 hc1 ?_
    refine st_iload dX6_fewestDrawers_170 rfl ?_
    refine st_icmp_ge (tgt := 188) dX6_fewestDrawers_172 (by decide) (fun c => ?_) (fun c => ?_)
    · replace w := w.1 c
      refine st_bipush (v := (-2)) dX6_fewestDrawers_188 (by decide) ?_
      exact st_ireturn rfl rfl dX6_fewestDrawers_190 w
    · replace w := w.2 c
      refine st_aload_n dX6_fewestDrawers_175 rfl ?_
      refine st_getF (q := 13) fl_X6_18 fk_6_3 rfl dX6_fewestDrawers_176 sh_10 ?_
      refine st_iload_n dX6_fewestDrawers_179 rfl ?_
      refine st_iald dX6_fewestDrawers_180 sh_13 hc1 ?_
      refine st_sipush (v := 128) dX6_fewestDrawers_181 (by decide) ?_
      refine st_idiv dX6_fewestDrawers_184 (by decide) ?_
      refine st_goto (tgt := 190) dX6_fewestDrawers_185 (by decide) ?_
      exact st_ireturn rfl rfl dX6_fewestDrawers_190 w
  · replace w := w.2 c
    refine st_iconst (v := 0) dX6_fewestDrawers_74 (by decide) ?_
    refine st_istore (L' := [.ref 10, .ref a1, .int x2, .int x3, .int x4, .int x5, .int 0, u7]) dX6_fewestDrawers_75 (by decide) rfl ?_
    exact w
set_option maxRecDepth 20000 in
set_option maxHeartbeats 2000000 in
theorem sX6_fewestDrawers_77 {d : Nat} {h : am_H} {Z : Int32 → am_H → Prop} {a1 : Nat} (hb1 : am_bu a1) {x2 : Int32} {x3 : Int32} {x4 : Int32} {x5 : Int32} {x6 : Int32} {u7 : Value} (hd : 1 ≤ d) (w : ((h.1 a1 8) ≤ x6 → Ru mX6_fewestDrawers none d 68 [.ref 10, .ref a1, .int x2, .int x3, .int x4, .int (x5 + 1), .int x6, u7] [] h Z) ∧ (¬ ((h.1 a1 8) ≤ x6) → (vp_in x5 1024 ∧ ((x4 ≤ (h.2.2 13 x5.toNatClampNeg) → Ru mX6_fewestDrawers none d 68 [.ref 10, .ref a1, .int x2, .int x3, .int x4, .int (x5 + 1), .int x6, u7] [] h Z) ∧ (¬ (x4 ≤ (h.2.2 13 x5.toNatClampNeg)) → ((x5 ||| (1 <<< (x6 &&& 31))) = x5 → Ru mX6_fewestDrawers none d 77 [.ref 10, .ref a1, .int x2, .int x3, .int x4, .int x5, .int (x6 + 1), .int (x5 ||| (1 <<< (x6 &&& 31)))] [] h Z) ∧ (¬ ((x5 ||| (1 <<< (x6 &&& 31))) = x5) → (vp_in (x5 ||| (1 <<< (x6 &&& 31))) 1024 ∧ (vp_in x6 24 ∧ (am_cl mX6_packOne d [.ref 10, .int (h.2.2 13 x5.toNatClampNeg), .int (h.2.2 (a1 + 5) x6.toNatClampNeg), .int x2, .int x4] h (fun r4 h5 => (∀ h6 : am_H, h6 = am_sR h5 13 (upd (h5.2.2 13) (x5 ||| (1 <<< (x6 &&& 31))).toNatClampNeg (am_min (h.2.2 13 (x5 ||| (1 <<< (x6 &&& 31))).toNatClampNeg) r4)) → (Ru mX6_fewestDrawers none d 77 [.ref 10, .ref a1, .int x2, .int x3, .int x4, .int x5, .int (x6 + 1), .int (x5 ||| (1 <<< (x6 &&& 31)))] [] h6 Z)))))))))))) : Ru mX6_fewestDrawers none d 77 [.ref 10, .ref a1, .int x2, .int x3, .int x4, .int x5, .int x6, u7] [] h Z := by
  refine st_iload dX6_fewestDrawers_77 rfl ?_
  refine st_aload_n dX6_fewestDrawers_79 rfl ?_
  refine st_getI fl_X6_31 fk_0_8 dX6_fewestDrawers_80 (bu_0 hb1) ?_
  refine st_icmp_ge (tgt := 158) dX6_fewestDrawers_83 (by decide) (fun c => ?_) (fun c => ?_)
  · replace w := w.1 c
    refine st_iinc (L' := [.ref 10, .ref a1, .int x2, .int x3, .int x4, .int (x5 + 1), .int x6, u7]) dX6_fewestDrawers_158 rfl rfl (by decide) rfl ?_
    refine st_goto (tgt := 68) dX6_fewestDrawers_161 (by decide) ?_
    exact w
  · replace w := w.2 c
    refine st_aload_n dX6_fewestDrawers_86 rfl ?_
    refine st_getF (q := 13) fl_X6_18 fk_6_3 rfl dX6_fewestDrawers_87 sh_10 ?_
    refine st_iload dX6_fewestDrawers_90 rfl ?_
    have hc1 := w.1
    replace w := w.2
    refine st_iald dX6_fewestDrawers_92 sh_13 hc1 ?_
    refine st_iload dX6_fewestDrawers_93 rfl ?_
    refine st_icmp_ge (tgt := 158) dX6_fewestDrawers_95 (by decide) (fun c => ?_) (fun c => ?_)
    · replace w := w.1 c
      refine st_iinc (L' := [.ref 10, .ref a1, .int x2, .int x3, .int x4, .int (x5 + 1), .int x6, u7]) dX6_fewestDrawers_158 rfl rfl (by decide) rfl ?_
      refine st_goto (tgt := 68) dX6_fewestDrawers_161 (by decide) ?_
      exact w
    · replace w := w.2 c
      refine st_iload dX6_fewestDrawers_98 rfl ?_
      refine st_iconst (v := 1) dX6_fewestDrawers_100 (by decide) ?_
      refine st_iload dX6_fewestDrawers_101 rfl ?_
      refine st_ishl dX6_fewestDrawers_103 ?_
      refine st_ior dX6_fewestDrawers_104 ?_
      refine st_istore (L' := [.ref 10, .ref a1, .int x2, .int x3, .int x4, .int x5, .int x6, .int (x5 ||| (1 <<< (x6 &&& 31)))]) dX6_fewestDrawers_105 (by decide) rfl ?_
      refine st_iload dX6_fewestDrawers_107 rfl ?_
      refine st_iload dX6_fewestDrawers_109 rfl ?_
      refine st_icmp_eq (tgt := 152) dX6_fewestDrawers_111 (by decide) (fun c => ?_) (fun c => ?_)
      · replace w := w.1 c
        refine st_iinc (L' := [.ref 10, .ref a1, .int x2, .int x3, .int x4, .int x5, .int (x6 + 1), .int (x5 ||| (1 <<< (x6 &&& 31)))]) dX6_fewestDrawers_152 rfl rfl (by decide) rfl ?_
        refine st_goto (tgt := 77) dX6_fewestDrawers_155 (by decide) ?_
        exact w
      · replace w := w.2 c
        refine st_aload_n dX6_fewestDrawers_114 rfl ?_
        refine st_getF (q := 13) fl_X6_18 fk_6_3 rfl dX6_fewestDrawers_115 sh_10 ?_
        refine st_iload dX6_fewestDrawers_118 rfl ?_
        refine st_aload_n dX6_fewestDrawers_120 rfl ?_
        refine st_getF (q := 13) fl_X6_18 fk_6_3 rfl dX6_fewestDrawers_121 sh_10 ?_
        refine st_iload dX6_fewestDrawers_124 rfl ?_
        have hc2 := w.1
        replace w := w.2
        refine st_iald dX6_fewestDrawers_126 sh_13 hc2 ?_
        refine st_aload_n dX6_fewestDrawers_127 rfl ?_
        refine st_aload_n dX6_fewestDrawers_128 rfl ?_
        refine st_getF (q := 13) fl_X6_18 fk_6_3 rfl dX6_fewestDrawers_129 sh_10 ?_
        refine st_iload dX6_fewestDrawers_132 rfl ?_
        refine st_iald dX6_fewestDrawers_134 sh_13 hc1 ?_
        refine st_aload_n dX6_fewestDrawers_135 rfl ?_
        refine st_getF (q := a1 + 5) fl_X6_47 fk_0_4 rfl dX6_fewestDrawers_136 (bu_0 hb1) ?_
        refine st_iload dX6_fewestDrawers_139 rfl ?_
        have hc3 := w.1
        replace w := w.2
        refine st_iald dX6_fewestDrawers_141 (bu_5 hb1) hc3 ?_
        refine st_iload_n dX6_fewestDrawers_142 rfl ?_
        refine st_iload dX6_fewestDrawers_143 rfl ?_
        refine st_callV (M' := mX6_packOne) [.int (h.2.2 13 x5.toNatClampNeg), .int (h.2.2 (a1 + 5) x6.toNatClampNeg), .int x2, .int x4] [.int (h.2.2 13 (x5 ||| (1 <<< (x6 &&& 31))).toNatClampNeg), .int (x5 ||| (1 <<< (x6 &&& 31))), .ref 13] dX6_fewestDrawers_145 ml_X6_50 mf_X6_packOne mv_X6_packOne sh_10 rfl rfl rfl w (fun r4 h5 w => ?_)
        show Ru mX6_fewestDrawers none d 148 [.ref 10, .ref a1, .int x2, .int x3, .int x4, .int x5, .int x6, .int (x5 ||| (1 <<< (x6 &&& 31)))] [.int r4, .int (h.2.2 13 (x5 ||| (1 <<< (x6 &&& 31))).toNatClampNeg), .int (x5 ||| (1 <<< (x6 &&& 31))), .ref 13] h5 Z
        refine st_mmin dX6_fewestDrawers_148 mk_min_X6_54 (by omega) rfl ?_
        refine st_iast dX6_fewestDrawers_151 sh_13 hc2 (fun h6 eh6 => ?_)
        replace w := w h6 eh6
        refine st_iinc (L' := [.ref 10, .ref a1, .int x2, .int x3, .int x4, .int x5, .int (x6 + 1), .int (x5 ||| (1 <<< (x6 &&& 31)))]) dX6_fewestDrawers_152 rfl rfl (by decide) rfl ?_
        refine st_goto (tgt := 77) dX6_fewestDrawers_155 (by decide) ?_
        exact w
set_option maxRecDepth 20000 in
set_option maxHeartbeats 2000000 in
theorem sX10_fewest_0 {d : Nat} {h : am_H} {Z : Int32 → am_H → Prop}  (w : (am_bu (h.2.1 0 10) ∧ (((h.1 (h.2.1 0 10) 8) ≤ 10 → am_cl mX6_fewestDrawers d [.ref 10, .ref (h.2.1 0 10)] h (fun r2 h3 => Z r2 h3)) ∧ (¬ ((h.1 (h.2.1 0 10) 8) ≤ 10) → Z (-4) h)))) : Ru mX10_fewest none d 0 [.ref 0] [] h Z := by
  refine st_aload_n dX10_fewest_0 rfl ?_
  refine st_getP fl_X10_72 fk_10_10 dX10_fewest_1 sh_0 ?_
  have hc1 := w.1
  replace w := w.2
  refine st_getI fl_X10_200 fk_0_8 dX10_fewest_4 (bu_0 hc1) ?_
  refine st_bipush (v := 10) dX10_fewest_7 (by decide) ?_
  refine st_icmp_le (tgt := 15) dX10_fewest_9 (by decide) (fun c => ?_) (fun c => ?_)
  · replace w := w.1 c
    refine st_aload_n dX10_fewest_15 rfl ?_
    refine st_getF (q := 10) fl_X10_51 fk_10_6 rfl dX10_fewest_16 sh_0 ?_
    refine st_aload_n dX10_fewest_19 rfl ?_
    refine st_getP fl_X10_72 fk_10_10 dX10_fewest_20 sh_0 ?_
    refine st_callV (M' := mX6_fewestDrawers) [.ref (h.2.1 0 10)] [] dX10_fewest_23 ml_X10_203 mf_X6_fewestDrawers mv_X6_fewestDrawers sh_10 rfl rfl rfl w (fun r2 h3 w => ?_)
    show Ru mX10_fewest none d 26 [.ref 0] [.int r2] h3 Z
    exact st_ireturn rfl rfl dX10_fewest_26 w
  · replace w := w.2 c
    refine st_bipush (v := (-4)) dX10_fewest_12 (by decide) ?_
    exact st_ireturn rfl rfl dX10_fewest_14 w
set_option maxRecDepth 20000 in
set_option maxHeartbeats 2000000 in
theorem sX11_fewest_0 {d : Nat} {h : am_H} {Z : Int32 → am_H → Prop}  (w : ((h.1 73 7) ≤ 10 → am_cl mX11_laysSums d [.ref 73] h (fun r1 h2 => Ru mX11_fewest none d 27 [.ref 73, .int ((1 <<< ((h2.1 73 7) &&& 31)) - 1), .int 0, .null, .null] [] h2 Z)) ∧ (¬ ((h.1 73 7) ≤ 10) → Z (-4) h)) : Ru mX11_fewest none d 0 [.ref 73, .null, .null, .null, .null] [] h Z := by
  refine st_aload_n dX11_fewest_0 rfl ?_
  refine st_getI fl_X11_137 fk_11_7 dX11_fewest_1 sh_73 ?_
  refine st_bipush (v := 10) dX11_fewest_4 (by decide) ?_
  refine st_icmp_le (tgt := 12) dX11_fewest_6 (by decide) (fun c => ?_) (fun c => ?_)
  · replace w := w.1 c
    refine st_aload_n dX11_fewest_12 rfl ?_
    refine st_callV (M' := mX11_laysSums) [] [] dX11_fewest_13 ml_X11_343 mf_X11_laysSums mv_X11_laysSums sh_73 rfl rfl rfl w (fun r1 h2 w => ?_)
    show Ru mX11_fewest none d 16 [.ref 73, .null, .null, .null, .null] [] h2 Z
    refine st_iconst (v := 1) dX11_fewest_16 (by decide) ?_
    refine st_aload_n dX11_fewest_17 rfl ?_
    refine st_getI fl_X11_137 fk_11_7 dX11_fewest_18 sh_73 ?_
    refine st_ishl dX11_fewest_21 ?_
    refine st_iconst (v := 1) dX11_fewest_22 (by decide) ?_
    refine st_isub dX11_fewest_23 ?_
    refine st_istore_n (L' := [.ref 73, .int ((1 <<< ((h2.1 73 7) &&& 31)) - 1), .null, .null, .null]) dX11_fewest_24 (by decide) rfl ?_
    refine st_iconst (v := 0) dX11_fewest_25 (by decide) ?_
    refine st_istore_n (L' := [.ref 73, .int ((1 <<< ((h2.1 73 7) &&& 31)) - 1), .int 0, .null, .null]) dX11_fewest_26 (by decide) rfl ?_
    exact w
  · replace w := w.2 c
    refine st_bipush (v := (-4)) dX11_fewest_9 (by decide) ?_
    exact st_ireturn rfl rfl dX11_fewest_11 w
set_option maxRecDepth 20000 in
set_option maxHeartbeats 2000000 in
theorem sX11_fewest_27 {d : Nat} {h : am_H} {Z : Int32 → am_H → Prop} {x1 : Int32} {x2 : Int32} {u3 : Value} {u4 : Value} (w : (12 ≤ x2 → (vp_in x1 1024 ∧ (((h.2.2 100 x1.toNatClampNeg) < 1000000 → Z (h.2.2 100 x1.toNatClampNeg) h) ∧ (¬ ((h.2.2 100 x1.toNatClampNeg) < 1000000) → Z (-2) h)))) ∧ (¬ (12 ≤ x2) → Ru mX11_fewest none d 35 [.ref 73, .int x1, .int x2, .int x1, u4] [] h Z)) : Ru mX11_fewest none d 27 [.ref 73, .int x1, .int x2, u3, u4] [] h Z := by
  refine st_iload_n dX11_fewest_27 rfl ?_
  refine st_bipush (v := 12) dX11_fewest_28 (by decide) ?_
  refine st_icmp_ge (tgt := 122) dX11_fewest_30 (by decide) (fun c => ?_) (fun c => ?_)
  · replace w := w.1 c
    refine st_aload_n dX11_fewest_122 rfl ?_
    refine st_getF (q := 100) fl_X11_89 fk_11_44 rfl dX11_fewest_123 sh_73 ?_
    refine st_iload_n dX11_fewest_126 rfl ?_
    have hc1 := w.1
    replace w := w.2
    refine st_iald dX11_fewest_127 sh_100 hc1 ?_
    refine st_ldcw dX11_fewest_128 kc_X11_342 ?_
    refine st_icmp_lt (tgt := 139) dX11_fewest_131 (by decide) (fun c => ?_) (fun c => ?_)
    · replace w := w.1 c
      refine st_aload_n dX11_fewest_139 rfl ?_
      refine st_getF (q := 100) fl_X11_89 fk_11_44 rfl dX11_fewest_140 sh_73 ?_
      refine st_iload_n dX11_fewest_143 rfl ?_
      refine st_iald dX11_fewest_144 sh_100 hc1 ?_
      exact st_ireturn rfl rfl dX11_fewest_145 w
    · replace w := w.2 c
      refine st_bipush (v := (-2)) dX11_fewest_134 (by decide) ?_
      refine st_goto (tgt := 145) dX11_fewest_136 (by decide) ?_
      exact st_ireturn rfl rfl dX11_fewest_145 w
  · replace w := w.2 c
    refine st_iload_n dX11_fewest_33 rfl ?_
    refine st_istore_n (L' := [.ref 73, .int x1, .int x2, .int x1, u4]) dX11_fewest_34 (by decide) rfl ?_
    exact w
set_option maxRecDepth 20000 in
set_option maxHeartbeats 2000000 in
theorem sX11_fewest_35 {d : Nat} {h : am_H} {Z : Int32 → am_H → Prop} {x1 : Int32} {x2 : Int32} {x3 : Int32} {u4 : Value} (hd : 3 ≤ d) (w : (x3 ≤ 0 → Ru mX11_fewest none d 27 [.ref 73, .int x1, .int (x2 + 1), .int x3, u4] [] h Z) ∧ (¬ (x3 ≤ 0) → (¬ (am_mT h x2) → Ru mX11_fewest none d 27 [.ref 73, .int x1, .int (x2 + 1), .int x3, u4] [] h Z) ∧ (am_mT h x2 → Ru mX11_fewest none d 50 [.ref 73, .int x1, .int x2, .int x3, .int x3] [] h Z))) : Ru mX11_fewest none d 35 [.ref 73, .int x1, .int x2, .int x3, u4] [] h Z := by
  refine st_iload_n dX11_fewest_35 rfl ?_
  refine st_if_le (tgt := 116) dX11_fewest_36 (by decide) (fun c => ?_) (fun c => ?_)
  · replace w := w.1 c
    refine st_iinc (L' := [.ref 73, .int x1, .int (x2 + 1), .int x3, u4]) dX11_fewest_116 rfl rfl (by decide) rfl ?_
    refine st_goto (tgt := 27) dX11_fewest_119 (by decide) ?_
    exact w
  · replace w := w.2 c
    refine st_aload_n dX11_fewest_39 rfl ?_
    refine st_iload_n dX11_fewest_40 rfl ?_
    refine st_callV (M' := mX11_isDrawer) [.int x2] [] dX11_fewest_41 ml_X11_152 mf_X11_isDrawer mv_X11_isDrawer sh_73 rfl rfl rfl (K := fun r h' => (am_b (am_mT h x2)) = r ∧ h = h') ⟨2, by omega, iX11_isDrawer (by omega) ⟨rfl, rfl⟩⟩ (fun r1 h1 w1 => ?_)
    obtain ⟨rfl, rfl⟩ := w1
    show Ru mX11_fewest none d 44 [.ref 73, .int x1, .int x2, .int x3, u4] [.int (am_b (am_mT h x2))] h Z
    refine st_ifb_eq (tgt := 116) dX11_fewest_44 (by decide) (fun c => ?_) (fun c => ?_)
    · replace w := w.1 c
      refine st_iinc (L' := [.ref 73, .int x1, .int (x2 + 1), .int x3, u4]) dX11_fewest_116 rfl rfl (by decide) rfl ?_
      refine st_goto (tgt := 27) dX11_fewest_119 (by decide) ?_
      exact w
    · replace w := w.2 c
      refine st_iload_n dX11_fewest_47 rfl ?_
      refine st_istore (L' := [.ref 73, .int x1, .int x2, .int x3, .int x3]) dX11_fewest_48 (by decide) rfl ?_
      exact w
set_option maxRecDepth 20000 in
set_option maxHeartbeats 2000000 in
theorem sX11_fewest_50 {d : Nat} {h : am_H} {Z : Int32 → am_H → Prop} {x1 : Int32} {x2 : Int32} {x3 : Int32} {x4 : Int32} (hd : 2 ≤ d) (w : (x4 ≤ 0 → Ru mX11_fewest none d 35 [.ref 73, .int x1, .int x2, .int (x3 + (-1)), .int x4] [] h Z) ∧ (¬ (x4 ≤ 0) → (vp_in x4 1024 ∧ (vp_in x2 12 ∧ (((h.2.2 77 x2.toNatClampNeg) < (h.2.2 99 x4.toNatClampNeg) → Ru mX11_fewest none d 50 [.ref 73, .int x1, .int x2, .int x3, .int ((x4 - 1) &&& x3)] [] h Z) ∧ (¬ ((h.2.2 77 x2.toNatClampNeg) < (h.2.2 99 x4.toNatClampNeg)) → (vp_in x3 1024 ∧ (vp_in (x3 &&& (x4 ^^^ (-1))) 1024 ∧ (∀ h5 : am_H, h5 = am_sR h 100 (upd (h.2.2 100) x3.toNatClampNeg (am_min (h.2.2 100 x3.toNatClampNeg) ((h.2.2 100 (x3 &&& (x4 ^^^ (-1))).toNatClampNeg) + 1))) → (Ru mX11_fewest none d 50 [.ref 73, .int x1, .int x2, .int x3, .int ((x4 - 1) &&& x3)] [] h5 Z)))))))))) : Ru mX11_fewest none d 50 [.ref 73, .int x1, .int x2, .int x3, .int x4] [] h Z := by
  refine st_iload dX11_fewest_50 rfl ?_
  refine st_if_le (tgt := 110) dX11_fewest_52 (by decide) (fun c => ?_) (fun c => ?_)
  · replace w := w.1 c
    refine st_iinc (L' := [.ref 73, .int x1, .int x2, .int (x3 + (-1)), .int x4]) dX11_fewest_110 rfl rfl (by decide) rfl ?_
    refine st_goto (tgt := 35) dX11_fewest_113 (by decide) ?_
    exact w
  · replace w := w.2 c
    refine st_aload_n dX11_fewest_55 rfl ?_
    refine st_getF (q := 99) fl_X11_86 fk_11_43 rfl dX11_fewest_56 sh_73 ?_
    refine st_iload dX11_fewest_59 rfl ?_
    have hc1 := w.1
    replace w := w.2
    refine st_iald dX11_fewest_61 sh_99 hc1 ?_
    refine st_aload_n dX11_fewest_62 rfl ?_
    refine st_getF (q := 77) fl_X11_19 fk_11_3 rfl dX11_fewest_63 sh_73 ?_
    refine st_iload_n dX11_fewest_66 rfl ?_
    have hc2 := w.1
    replace w := w.2
    refine st_iald dX11_fewest_67 sh_77 hc2 ?_
    refine st_icmp_gt (tgt := 99) dX11_fewest_68 (by decide) (fun c => ?_) (fun c => ?_)
    · replace w := w.1 c
      refine st_iload dX11_fewest_99 rfl ?_
      refine st_iconst (v := 1) dX11_fewest_101 (by decide) ?_
      refine st_isub dX11_fewest_102 ?_
      refine st_iload_n dX11_fewest_103 rfl ?_
      refine st_iand dX11_fewest_104 ?_
      refine st_istore (L' := [.ref 73, .int x1, .int x2, .int x3, .int ((x4 - 1) &&& x3)]) dX11_fewest_105 (by decide) rfl ?_
      refine st_goto (tgt := 50) dX11_fewest_107 (by decide) ?_
      exact w
    · replace w := w.2 c
      refine st_aload_n dX11_fewest_71 rfl ?_
      refine st_getF (q := 100) fl_X11_89 fk_11_44 rfl dX11_fewest_72 sh_73 ?_
      refine st_iload_n dX11_fewest_75 rfl ?_
      refine st_aload_n dX11_fewest_76 rfl ?_
      refine st_getF (q := 100) fl_X11_89 fk_11_44 rfl dX11_fewest_77 sh_73 ?_
      refine st_iload_n dX11_fewest_80 rfl ?_
      have hc3 := w.1
      replace w := w.2
      refine st_iald dX11_fewest_81 sh_100 hc3 ?_
      refine st_aload_n dX11_fewest_82 rfl ?_
      refine st_getF (q := 100) fl_X11_89 fk_11_44 rfl dX11_fewest_83 sh_73 ?_
      refine st_iload_n dX11_fewest_86 rfl ?_
      refine st_iload dX11_fewest_87 rfl ?_
      refine st_iconst (v := (-1)) dX11_fewest_89 (by decide) ?_
      refine st_ixor dX11_fewest_90 ?_
      refine st_iand dX11_fewest_91 ?_
      have hc4 := w.1
      replace w := w.2
      refine st_iald dX11_fewest_92 sh_100 hc4 ?_
      refine st_iconst (v := 1) dX11_fewest_93 (by decide) ?_
      refine st_iadd dX11_fewest_94 ?_
      refine st_callS (M' := mX11_min) [.int (h.2.2 100 x3.toNatClampNeg), .int ((h.2.2 100 (x3 &&& (x4 ^^^ (-1))).toNatClampNeg) + 1)] [.int x3, .ref 100] dX11_fewest_95 ml_X11_314 mf_X11_min ms_X11_min rfl rfl rfl (K := fun r h' => (am_min (h.2.2 100 x3.toNatClampNeg) ((h.2.2 100 (x3 &&& (x4 ^^^ (-1))).toNatClampNeg) + 1)) = r ∧ h = h') ⟨1, by omega, iX11_min ⟨rfl, rfl⟩⟩ (fun r1 h1 w1 => ?_)
      obtain ⟨rfl, rfl⟩ := w1
      show Ru mX11_fewest none d 98 [.ref 73, .int x1, .int x2, .int x3, .int x4] [.int (am_min (h.2.2 100 x3.toNatClampNeg) ((h.2.2 100 (x3 &&& (x4 ^^^ (-1))).toNatClampNeg) + 1)), .int x3, .ref 100] h Z
      refine st_iast dX11_fewest_98 sh_100 hc3 (fun h5 eh5 => ?_)
      replace w := w h5 eh5
      refine st_iload dX11_fewest_99 rfl ?_
      refine st_iconst (v := 1) dX11_fewest_101 (by decide) ?_
      refine st_isub dX11_fewest_102 ?_
      refine st_iload_n dX11_fewest_103 rfl ?_
      refine st_iand dX11_fewest_104 ?_
      refine st_istore (L' := [.ref 73, .int x1, .int x2, .int x3, .int ((x4 - 1) &&& x3)]) dX11_fewest_105 (by decide) rfl ?_
      refine st_goto (tgt := 50) dX11_fewest_107 (by decide) ?_
      exact w
set_option maxRecDepth 20000 in
set_option maxHeartbeats 2000000 in
theorem sX11_laysSums_0 {d : Nat} {h : am_H} {Z : Int32 → am_H → Prop}  (w : Ru mX11_laysSums none d 2 [.ref 73, .int 0, .null] [] h Z) : Ru mX11_laysSums none d 0 [.ref 73, .null, .null] [] h Z := by
  refine st_iconst (v := 0) dX11_laysSums_0 (by decide) ?_
  refine st_istore_n (L' := [.ref 73, .int 0, .null]) dX11_laysSums_1 (by decide) rfl ?_
  exact w
set_option maxRecDepth 20000 in
set_option maxHeartbeats 2000000 in
theorem sX11_laysSums_2 {d : Nat} {h : am_H} {Z : Int32 → am_H → Prop} {x1 : Int32} {u2 : Value} (w : ((1 <<< ((h.1 73 7) &&& 31)) ≤ x1 → Z 0 h) ∧ (¬ ((1 <<< ((h.1 73 7) &&& 31)) ≤ x1) → (vp_in x1 1024 ∧ (∀ h2 : am_H, h2 = am_sR h 99 (upd (h.2.2 99) x1.toNatClampNeg 0) → (Ru mX11_laysSums none d 21 [.ref 73, .int x1, .int 0] [] h2 Z))))) : Ru mX11_laysSums none d 2 [.ref 73, .int x1, u2] [] h Z := by
  refine st_iload_n dX11_laysSums_2 rfl ?_
  refine st_iconst (v := 1) dX11_laysSums_3 (by decide) ?_
  refine st_aload_n dX11_laysSums_4 rfl ?_
  refine st_getI fl_X11_137 fk_11_7 dX11_laysSums_5 sh_73 ?_
  refine st_ishl dX11_laysSums_8 ?_
  refine st_icmp_ge (tgt := 85) dX11_laysSums_9 (by decide) (fun c => ?_) (fun c => ?_)
  · replace w := w.1 c
    exact st_return rfl dX11_laysSums_85 w
  · replace w := w.2 c
    refine st_aload_n dX11_laysSums_12 rfl ?_
    refine st_getF (q := 99) fl_X11_86 fk_11_43 rfl dX11_laysSums_13 sh_73 ?_
    refine st_iload_n dX11_laysSums_16 rfl ?_
    refine st_iconst (v := 0) dX11_laysSums_17 (by decide) ?_
    have hc1 := w.1
    replace w := w.2
    refine st_iast dX11_laysSums_18 sh_99 hc1 (fun h2 eh2 => ?_)
    replace w := w h2 eh2
    refine st_iconst (v := 0) dX11_laysSums_19 (by decide) ?_
    refine st_istore_n (L' := [.ref 73, .int x1, .int 0]) dX11_laysSums_20 (by decide) rfl ?_
    exact w
set_option maxRecDepth 20000 in
set_option maxHeartbeats 2000000 in
theorem sX11_laysSums_21 {d : Nat} {h : am_H} {Z : Int32 → am_H → Prop} {x1 : Int32} {x2 : Int32} (hd : 2 ≤ d) (w : ((h.1 73 7) ≤ x2 → (¬ x1 = 0 → (vp_in x1 1024 ∧ (∀ h2 : am_H, h2 = am_sR h 100 (upd (h.2.2 100) x1.toNatClampNeg 1000000) → (Ru mX11_laysSums none d 2 [.ref 73, .int (x1 + 1), .int x2] [] h2 Z)))) ∧ (x1 = 0 → (vp_in x1 1024 ∧ (∀ h4 : am_H, h4 = am_sR h 100 (upd (h.2.2 100) x1.toNatClampNeg 0) → (Ru mX11_laysSums none d 2 [.ref 73, .int (x1 + 1), .int x2] [] h4 Z))))) ∧ (¬ ((h.1 73 7) ≤ x2) → (¬ (am_has x1 x2) → Ru mX11_laysSums none d 21 [.ref 73, .int x1, .int (x2 + 1)] [] h Z) ∧ (am_has x1 x2 → (vp_in x1 1024 ∧ (vp_in x2 24 ∧ (∀ h7 : am_H, h7 = am_sR h 99 (upd (h.2.2 99) x1.toNatClampNeg ((h.2.2 99 x1.toNatClampNeg) + (h.2.2 79 x2.toNatClampNeg))) → (Ru mX11_laysSums none d 21 [.ref 73, .int x1, .int (x2 + 1)] [] h7 Z))))))) : Ru mX11_laysSums none d 21 [.ref 73, .int x1, .int x2] [] h Z := by
  refine st_iload_n dX11_laysSums_21 rfl ?_
  refine st_aload_n dX11_laysSums_22 rfl ?_
  refine st_getI fl_X11_137 fk_11_7 dX11_laysSums_23 sh_73 ?_
  refine st_icmp_ge (tgt := 62) dX11_laysSums_26 (by decide) (fun c => ?_) (fun c => ?_)
  · replace w := w.1 c
    refine st_aload_n dX11_laysSums_62 rfl ?_
    refine st_getF (q := 100) fl_X11_89 fk_11_44 rfl dX11_laysSums_63 sh_73 ?_
    refine st_iload_n dX11_laysSums_66 rfl ?_
    refine st_iload_n dX11_laysSums_67 rfl ?_
    refine st_if_ne (tgt := 75) dX11_laysSums_68 (by decide) (fun c => ?_) (fun c => ?_)
    · replace w := w.1 c
      refine st_ldcw dX11_laysSums_75 kc_X11_342 ?_
      have hc1 := w.1
      replace w := w.2
      refine st_iast dX11_laysSums_78 sh_100 hc1 (fun h2 eh2 => ?_)
      replace w := w h2 eh2
      refine st_iinc (L' := [.ref 73, .int (x1 + 1), .int x2]) dX11_laysSums_79 rfl rfl (by decide) rfl ?_
      refine st_goto (tgt := 2) dX11_laysSums_82 (by decide) ?_
      exact w
    · replace w := w.2 c
      refine st_iconst (v := 0) dX11_laysSums_71 (by decide) ?_
      refine st_goto (tgt := 78) dX11_laysSums_72 (by decide) ?_
      have hc3 := w.1
      replace w := w.2
      refine st_iast dX11_laysSums_78 sh_100 hc3 (fun h4 eh4 => ?_)
      replace w := w h4 eh4
      refine st_iinc (L' := [.ref 73, .int (x1 + 1), .int x2]) dX11_laysSums_79 rfl rfl (by decide) rfl ?_
      refine st_goto (tgt := 2) dX11_laysSums_82 (by decide) ?_
      exact w
  · replace w := w.2 c
    refine st_iload_n dX11_laysSums_29 rfl ?_
    refine st_iload_n dX11_laysSums_30 rfl ?_
    refine st_callS (M' := mX11_has) [.int x1, .int x2] [] dX11_laysSums_31 ml_X11_133 mf_X11_has ms_X11_has rfl rfl rfl (K := fun r h' => (am_b (am_has x1 x2)) = r ∧ h = h') ⟨1, by omega, iX11_has ⟨rfl, rfl⟩⟩ (fun r1 h1 w1 => ?_)
    obtain ⟨rfl, rfl⟩ := w1
    show Ru mX11_laysSums none d 34 [.ref 73, .int x1, .int x2] [.int (am_b (am_has x1 x2))] h Z
    refine st_ifb_eq (tgt := 56) dX11_laysSums_34 (by decide) (fun c => ?_) (fun c => ?_)
    · replace w := w.1 c
      refine st_iinc (L' := [.ref 73, .int x1, .int (x2 + 1)]) dX11_laysSums_56 rfl rfl (by decide) rfl ?_
      refine st_goto (tgt := 21) dX11_laysSums_59 (by decide) ?_
      exact w
    · replace w := w.2 c
      refine st_aload_n dX11_laysSums_37 rfl ?_
      refine st_getF (q := 99) fl_X11_86 fk_11_43 rfl dX11_laysSums_38 sh_73 ?_
      refine st_iload_n dX11_laysSums_41 rfl ?_
      refine st_aload_n dX11_laysSums_42 rfl ?_
      refine st_getF (q := 99) fl_X11_86 fk_11_43 rfl dX11_laysSums_43 sh_73 ?_
      refine st_iload_n dX11_laysSums_46 rfl ?_
      have hc5 := w.1
      replace w := w.2
      refine st_iald dX11_laysSums_47 sh_99 hc5 ?_
      refine st_aload_n dX11_laysSums_48 rfl ?_
      refine st_getF (q := 79) fl_X11_25 fk_11_5 rfl dX11_laysSums_49 sh_73 ?_
      refine st_iload_n dX11_laysSums_52 rfl ?_
      have hc6 := w.1
      replace w := w.2
      refine st_iald dX11_laysSums_53 sh_79 hc6 ?_
      refine st_iadd dX11_laysSums_54 ?_
      refine st_iast dX11_laysSums_55 sh_99 hc5 (fun h7 eh7 => ?_)
      replace w := w h7 eh7
      refine st_iinc (L' := [.ref 73, .int x1, .int (x2 + 1)]) dX11_laysSums_56 rfl rfl (by decide) rfl ?_
      refine st_goto (tgt := 21) dX11_laysSums_59 (by decide) ?_
      exact w
section
variable {d b n T : Nat} {h : am_H} {Z : Int32 → am_H → Prop} {B : am_AB} {s r : Nat → Nat}
/-- one insertion: v goes where it belongs; the row's later ones go one on -/
theorem x_ins {i v : Nat} {A0 : Nat → Int32} (hb : am_bu b) (hI : q_IC h b B) (hi : i < 12) (hv : q_r B i = v) (hv99 : v ≤ 99) (hr : ∀ j, r j ≤ 99) (hT : T < 12) (hA : ∀ j, j < T → A0 j = nI (r j)) (z : ∀ a A u, a ≤ T → (∀ j, j < T + 1 → A j = nI (fw_ins r a v j)) → (∀ j, a ≤ j → j < T → r j < v) → (1 ≤ a → v ≤ r (a - 1)) → Ru mX6_sortRooms none d 4 [.ref 10, .ref b, .int (nI (T + 1)), .int (nI (i + 1)), u] [] (am_sR h 11 A) Z) : ∀ (a : Nat) (A : Nat → Int32), a ≤ T → (∀ j, j < a → A j = nI (r j)) → (∀ j, a < j → j < T + 1 → A j = nI (r (j - 1))) → (∀ j, a ≤ j → j < T → r j < v) → Ru mX6_sortRooms none d 21 [.ref 10, .ref b, .int (nI T), .int (nI i), .int (nI a)] [] (am_sR h 11 A) Z := by
  have hb2 : 20 ≤ b := by rcases hb with rfl | rfl | rfl | rfl <;> omega
  have g1 : ∀ A, (am_sR h 11 A).2.2 (b + 1) i = nI v := fun A => by rw [am_gR, if_neg (by omega), (hI.2.2.2.1 i hi).1, hv]
  have put : ∀ (a : Nat) (A : Nat → Int32), a ≤ T → (∀ j, j < a → A j = nI (r j)) → (∀ j, a < j → j < T + 1 → A j = nI (r (j - 1))) → ∀ j, j < T + 1 → upd A a (nI v) j = nI (fw_ins r a v j) := fun a A h0 h1 h2 j hj => by
    unfold upd fw_ins
    by_cases c : j = a
    · subst c; rw [if_pos rfl, if_neg (Nat.lt_irrefl j), if_pos rfl]
    · rw [if_neg c]
      by_cases c2 : j < a
      · rw [if_pos c2]; exact h1 j c2
      · rw [if_neg c2, if_neg c]; exact h2 j (by omega) hj
  intro a
  induction a with
  | zero =>
    intro A h0 h1 h2 h3
    refine sX6_sortRooms_21 hb ⟨fun _ => ⟨vp_in_nI (by omega) (by omega), vp_in_nI (n := 0) (by omega) (by omega), fun h3' e3 => ?_⟩, fun c => absurd (Int32.le_refl _) c⟩
    rw [nI_clamp (by omega), nI_clamp (by omega), am_gRs, am_sR_2, g1] at e3
    subst e3
    rw [nI_1, nI_1]
    exact z 0 _ _ h0 (put 0 A h0 h1 h2) h3 (fun q => by omega)
  | succ a ih =>
    intro A h0 h1 h2 h3
    have e1 : nI (a + 1) - 1 = nI a := pk_sub (a := a + 1) (b := 1) (by omega)
    have hra := hr a
    refine sX6_sortRooms_21 hb ⟨fun c => absurd c (nI_ge (a := 0) (by omega) (by omega)), fun _ => ?_⟩
    rw [e1, hj_dec, nI_clamp (by omega), nI_clamp (by omega), nI_clamp (by omega), g1, am_gRs, am_sR_2, h1 a (by omega), nI_leI (by omega) (by omega), nI_1, nI_1]
    refine ⟨vp_in_nI (by omega) (by omega), vp_in_nI (by omega) (by omega), fun c => ⟨vp_in_nI (by omega) (by omega), fun h7 e7 => ?_⟩, fun c => ⟨vp_in_nI (by omega) (by omega), fun h9 e9 => ?_⟩⟩
    · subst e7
      exact z (a + 1) _ _ h0 (put (a + 1) A h0 h1 h2) h3 (fun _ => c)
    · rw [am_sR_2] at e9
      subst e9
      refine ih _ (by omega) (fun j hj => ?_) (fun j hj1 hj2 => ?_) (fun j hj1 hj2 => ?_)
      · unfold upd; rw [if_neg (by omega)]; exact h1 j (by omega)
      · unfold upd
        by_cases cj : j = a + 1
        · rw [if_pos cj, cj]; rfl
        · rw [if_neg cj]; exact h2 j (by omega) hj2
      · by_cases cj : j = a
        · rw [cj]; omega
        · exact h3 j (by omega) hj2
/-- the rooms, sorted -/
theorem x_srt (hd : 3 ≤ d) (hb : am_bu b) (hI : q_IC h b B) (hB : q_ok B) (hs : ∀ p, p < n → 1 ≤ s p) (z : ∀ A r T, T ≤ 12 → (∀ j, r j ≤ 99) → (∀ i j, i ≤ j → j < T → r j ≤ r i) → (∀ j, j < T → A j = nI (r j)) → (∀ m S, S < 2 ^ n → (fw_P s n (q_r B) 12 m S ↔ fw_P s n r T m S)) → Z (nI T) (am_sR h 11 A)) : ∀ (m i T : Nat) (r : Nat → Nat) (A : Nat → Int32) (u : Value), i + m = 12 → T ≤ i → (∀ j, r j ≤ 99) → (∀ i j, i ≤ j → j < T → r j ≤ r i) → (∀ j, j < T → A j = nI (r j)) → (∀ m S, S < 2 ^ n → (fw_P s n (q_r B) i m S ↔ fw_P s n r T m S)) → Ru mX6_sortRooms none d 4 [.ref 10, .ref b, .int (nI T), .int (nI i), u] [] (am_sR h 11 A) Z
  | 0, i, T, r, A, u, hi, hT, hr, so, hA, hP => by
    have ei : i = 12 := by omega
    subst ei
    exact sX6_sortRooms_4 hb (by omega) ⟨fun _ => z A r T (by omega) hr so hA hP, fun c => absurd (Int32.le_refl _) c⟩
  | m + 1, i, T, r, A, u, hi, hT, hr, so, hA, hP => by
    have hb2 : 20 ≤ b := by rcases hb with rfl | rfl | rfl | rfl <;> omega
    have hI1 : q_IC (am_sR h 11 A) b B := q_IC_r (by omega) hI
    have hrr := (hB.2.2.2.1 i (by omega)).1
    refine sX6_sortRooms_4 hb (by omega) ⟨fun c => absurd c (nI_ge (b := 12) (by omega) (by omega)), fun _ => ?_⟩
    rw [q_told hI1 hB (by omega), nI_1]
    refine ⟨fun c => x_srt hd hb hI hB hs z m (i + 1) T r A _ (by omega) (by omega) hr so hA (fun m S hS => ?_), fun c => ?_⟩
    · rw [fw_P_z hS hs (show q_r B i = 0 by omega)]; exact hP m S hS
    · refine x_ins (r := r) (A0 := A) hb hI (by omega) rfl hrr hr (by omega) hA (fun a A' u ha hA' h1 h2 => ?_) T A (Nat.le_refl T) hA (fun j q1 q2 => by omega) (fun j q1 q2 => by omega)
      refine x_srt hd hb hI hB hs z m (i + 1) (T + 1) (fw_ins r a (q_r B i)) A' u (by omega) (by omega) (fun j => ?_) (fun x y hxy hy => ?_) hA' (fun m S hS => ?_)
      · unfold fw_ins
        split
        · exact hr j
        · split
          · exact hrr
          · exact hr _
      · unfold fw_ins
        by_cases c1 : y < a
        · rw [if_pos c1, if_pos (by omega)]; exact so x y hxy (by omega)
        · rw [if_neg c1]
          by_cases c2 : y = a
          · rw [if_pos c2]
            by_cases c3 : x < a
            · rw [if_pos c3]
              have := h2 (by omega)
              exact Nat.le_trans this (so x (a - 1) (by omega) (by omega))
            · rw [if_neg c3, if_pos (by omega)]; exact Nat.le_refl _
          · rw [if_neg c2]
            by_cases c3 : x < a
            · rw [if_pos c3]; exact so x (y - 1) (by omega) (by omega)
            · rw [if_neg c3]
              by_cases c4 : x = a
              · rw [if_pos c4]; exact Nat.le_of_lt (h1 (y - 1) (by omega) (by omega))
              · rw [if_neg c4]; exact so (x - 1) (y - 1) (by omega) (by omega)
      · rw [fw_P_ins (T - a) a T m S (by omega), fw_P_add, ← hP m S hS]
        constructor
        · intro q
          rcases q with q | ⟨Q, q1, q2, q3, q4⟩
          · exact Or.inl q
          · exact Or.inr ⟨Q, q1, q2, q3, (hP _ _ (Nat.lt_of_le_of_lt (fw_in_le (fw_x_in q1)) hS)).mp q4⟩
        · intro q
          rcases q with q | ⟨Q, q1, q2, q3, q4⟩
          · exact Or.inl q
          · exact Or.inr ⟨Q, q1, q2, q3, (hP _ _ (Nat.lt_of_le_of_lt (fw_in_le (fw_x_in q1)) hS)).mpr q4⟩
theorem iX6_packOne {v x : Nat} (hT : T ≤ 12) (hr : ∀ j, r j ≤ 99) (hA : ∀ j, j < T → h.2.2 11 j = nI (r j)) (hv : 128 ≤ v) (hv2 : v < (T + 1) * 128) (hx : x ≤ 9) (z : Z (nI (fw_pk r T v x)) h) : Sp mX6_packOne d [.ref 10, .int (nI v), .int (nI x), .int (nI T), .int (nI ((T + 1) * 128))] h Z := by
  have d1 : nI v / 128 = nI (v / 128) := pk_div (d := 128) (by omega) (by omega) (by omega)
  have d2 : am_rem (nI v) 128 = nI (v % 128) := am_rem_n (d := 128) (by omega) (by omega) (by omega)
  have d3 : nI (v / 128) - 1 = nI (v / 128 - 1) := pk_sub (b := 1) (by omega)
  have r1 := hr (v / 128 - 1)
  have r2 := hr (v / 128)
  refine Sp_of mf_X6_packOne rfl (Nat.le_of_ble_eq_true rfl) rfl (sX6_packOne_0 ?_)
  rw [d1, d2, d3, nI_add, nI_clamp (by omega), nI_clamp (by omega), hA (v / 128 - 1) (by omega), nI_ltI (by omega) (by omega), nI_leI (by omega) (by omega)]
  unfold fw_pk at z
  refine ⟨fun c => absurd c (nI_nlt (b := 1) (by omega) (by omega)), fun _ => ⟨fun _ => ⟨vp_in_nI (by omega) (by omega), fun c => ⟨fun c2 => ?_, fun c2 => ⟨vp_in_nI (by omega) (by omega), fun c3 => ?_, fun c3 => ?_⟩⟩, fun c => ?_⟩, fun q => absurd (by omega) q⟩⟩
  · have c2' : T ≤ v / 128 := (nI_leI (by omega) (by omega)).mp c2
    rw [if_neg (by omega), if_neg (fun q => by omega)] at z; exact z
  · have c2' : v / 128 < T := by
      rcases Nat.lt_or_ge (v / 128) T with q | q
      · exact q
      · exact absurd (nI_le q (by omega)) c2
    rw [hA _ c2', nI_ltI (by omega) (by omega)] at c3
    rw [if_neg (by omega), if_neg (fun q => by omega)] at z; exact z
  · have c2' : v / 128 < T := by
      rcases Nat.lt_or_ge (v / 128) T with q | q
      · exact q
      · exact absurd (nI_le q (by omega)) c2
    rw [hA _ c2', nI_ltI (by omega) (by omega)] at c3
    rw [if_neg (by omega), if_pos ⟨c2', by omega⟩] at z
    rw [nI_1, show (128 : Int32) = nI 128 from rfl, pk_mul, nI_add]; exact z
  · rw [if_pos (by omega)] at z; rw [nI_add]; exact z
/-- the class's numbers so far -/
def fw_V (s : Nat → Nat) (n : Nat) (r : Nat → Nat) (T : Nat) (V : Nat → Nat) (S p : Nat) : Prop := V 0 = 128 ∧ (∀ X, X < 2 ^ n → 128 ≤ V X ∧ V X ≤ (T + 1) * 128 ∧ (V X < (T + 1) * 128 → fw_S s n r T X (V X))) ∧ ∀ Y q, q < n → Y.testBit q = false → (Y < S ∨ (Y = S ∧ q < p)) → Y ||| 2 ^ q < 2 ^ n → V Y < (T + 1) * 128 → V (Y ||| 2 ^ q) ≤ fw_pk r T (V Y) (s q)
theorem fw_pk_ge {v x : Nat} (h : 128 ≤ v) : 128 ≤ fw_pk r T v x := by
  unfold fw_pk
  split
  · omega
  · split <;> omega
theorem fw_or_gt {Y q : Nat} (hb : Y.testBit q = false) : Y ||| 2 ^ q = Y + 2 ^ q := by
  have f := fw_flip q (Y ||| 2 ^ q) (by rw [fb_bit_set]; simp)
  have : (Y ||| 2 ^ q) ^^^ 2 ^ q = Y := by
    apply Nat.eq_of_testBit_eq
    intro i
    rw [fb_bit_flip, fb_bit_set]
    by_cases c : i = q
    · subst c; rw [hb]; simp
    · simp [c]
  rw [this] at f
  exact f.symm
theorem fw_V_s {V : Nat → Nat} {S p : Nat} (hr : ∀ i, r i ≤ 99) (hp : p < n) (hb : S.testBit p = false) (hS : S < 2 ^ n) (hV : fw_V s n r T V S p) (hU : V S < (T + 1) * 128) : fw_V s n r T (am_un V (S ||| 2 ^ p) (min (V (S ||| 2 ^ p)) (fw_pk r T (V S) (s p)))) S (p + 1) := by
  obtain ⟨v0, v1, v2⟩ := hV
  have eo := fw_or_gt hb
  have pp : 0 < 2 ^ p := Nat.two_pow_pos p
  have ol : S ||| 2 ^ p < 2 ^ n := pl_or hS hp
  have old : ∀ Y, Y ≤ S → am_un V (S ||| 2 ^ p) (min (V (S ||| 2 ^ p)) (fw_pk r T (V S) (s p))) Y = V Y := fun Y hY => am_un_n _ _ (by omega)
  have le : ∀ Y, am_un V (S ||| 2 ^ p) (min (V (S ||| 2 ^ p)) (fw_pk r T (V S) (s p))) Y ≤ V Y := fun Y => by
    unfold am_un
    by_cases c : Y = S ||| 2 ^ p
    · rw [if_pos c, c]; exact Nat.min_le_left _ _
    · rw [if_neg c]; exact Nat.le_refl _
  refine ⟨by rw [old 0 (Nat.zero_le _)]; exact v0, fun X hX => ?_, fun Y q hq hy hpos hlt hu => ?_⟩
  · by_cases c : X = S ||| 2 ^ p
    · subst c
      rw [am_un_s]
      have a := v1 _ hX
      have g := fw_pk_ge (r := r) (T := T) (x := s p) (v1 S hS).1
      refine ⟨by omega, by omega, fun q => ?_⟩
      rcases Nat.le_total (V (S ||| 2 ^ p)) (fw_pk r T (V S) (s p)) with w | w
      · rw [Nat.min_eq_left w] at q ⊢; exact a.2.2 q
      · rw [Nat.min_eq_right w] at q ⊢
        exact fw_sound hr hp hb ((v1 S hS).2.2 hU) q
    · rw [am_un_n _ _ c]; exact v1 X hX
  · have hYS : Y ≤ S := by omega
    rw [old Y hYS] at hu ⊢
    by_cases c : Y = S ∧ q = p
    · obtain ⟨rfl, rfl⟩ := c
      rw [am_un_s]; exact Nat.min_le_right _ _
    · exact Nat.le_trans (le _) (v2 Y q hq hy (by omega) hlt hu)
theorem x_77 {S : Nat} {A0 : Nat → Int32} (hd : 2 ≤ d) (hb : am_bu b) (hI : q_IC h b B) (hB : q_ok B) (hn : q_n B = n) (hn10 : n ≤ 10) (hT : T ≤ 12) (hr : ∀ j, r j ≤ 99) (hA : ∀ j, j < T → h.2.2 11 j = nI (r j)) (hs : ∀ p, p < n → s p = q_si B p) (hS : S + 1 < 2 ^ n) (z : ∀ A V u6 u7, fw_V s n r T V (S + 1) 0 → (∀ X, X < 2 ^ n → A X = nI (V X)) → Ru mX6_fewestDrawers none d 68 [.ref 10, .ref b, .int (nI T), .int (nI (2 ^ n - 1)), .int (nI ((T + 1) * 128)), .int (nI (S + 1)), u6, u7] [] (am_sR h 13 A) Z) : ∀ (m p : Nat) (A : Nat → Int32) (V : Nat → Nat) (u7 : Value), p + m = n → fw_V s n r T V S p → (∀ X, X < 2 ^ n → A X = nI (V X)) → Ru mX6_fewestDrawers none d 77 [.ref 10, .ref b, .int (nI T), .int (nI (2 ^ n - 1)), .int (nI ((T + 1) * 128)), .int (nI S), .int (nI p), u7] [] (am_sR h 13 A) Z := by
  have hb2 : 20 ≤ b := by rcases hb with rfl | rfl | rfl | rfl <;> omega
  have h10 : 2 ^ n ≤ 1024 := Nat.pow_le_pow_right (n := 2) (by decide) hn10
  have done : ∀ (A : Nat → Int32) (V : Nat → Nat) (p : Nat) (u6 u7 : Value), fw_V s n r T V S p → (∀ X, X < 2 ^ n → A X = nI (V X)) → (p = n ∨ (T + 1) * 128 ≤ V S) → Ru mX6_fewestDrawers none d 68 [.ref 10, .ref b, .int (nI T), .int (nI (2 ^ n - 1)), .int (nI ((T + 1) * 128)), .int (nI (S + 1)), u6, u7] [] (am_sR h 13 A) Z := fun A V p u6 u7 hV hA' hq => by
    refine z A V u6 u7 ⟨hV.1, hV.2.1, fun Y q h1 h2 h3 h4 h5 => ?_⟩ hA'
    by_cases c : Y = S
    · rcases hq with e | e
      · exact hV.2.2 Y q h1 h2 (Or.inr ⟨c, by omega⟩) h4 h5
      · rw [c] at h5; omega
    · exact hV.2.2 Y q h1 h2 (Or.inl (by omega)) h4 h5
  intro m
  induction m with
  | zero =>
    intro p A V u7 hp hV hA'
    refine sX6_fewestDrawers_77 hb (by omega) ⟨fun _ => ?_, fun c => absurd ?_ c⟩
    · rw [nI_1]; exact done A V p _ _ hV hA' (Or.inl (by omega))
    · rw [am_gRi, hI.1, hn, show p = n by omega]; exact Int32.le_refl _
  | succ m ih =>
    intro p A V u7 hp hV hA'
    have vs := hV.2.1 S (by omega)
    refine sX6_fewestDrawers_77 hb (by omega) ⟨fun c => absurd c (by rw [am_gRi, hI.1, hn]; exact nI_ge (by omega) (by omega)), fun _ => ⟨vp_in_nI (by omega) (by omega), ?_⟩⟩
    rw [nI_clamp (by omega), am_gRs, hA' S (by omega), nI_leI (by omega) (by omega), am_shl1 (by omega), fa_or, nI_1, nI_1]
    refine ⟨fun c => done A V p _ _ hV hA' (Or.inr c), fun c => ?_⟩
    have ol : S ||| 2 ^ p < 2 ^ n := pl_or (by omega) (by omega)
    rw [nI_eq (by omega) (by omega)]
    refine ⟨fun c2 => ih (p + 1) A V _ (by omega) ⟨hV.1, hV.2.1, fun Y q h1 h2 h3 h4 h5 => ?_⟩ hA', fun c2 => ?_⟩
    · by_cases cq : Y = S ∧ q = p
      · obtain ⟨rfl, rfl⟩ := cq
        have := fw_or_gt h2
        have pp : 0 < 2 ^ q := Nat.two_pow_pos q
        omega
      · exact hV.2.2 Y q h1 h2 (by omega) h4 h5
    · have bp : S.testBit p = false := by
        cases q : S.testBit p with
        | false => rfl
        | true =>
          refine absurd ?_ c2
          apply Nat.eq_of_testBit_eq
          intro i
          rw [fb_bit_set]
          by_cases ci : i = p
          · subst ci; rw [q]; rfl
          · simp [ci]
      have sz := hB.2.2.2.2 p (by omega)
      have vo := hV.2.1 _ ol
      have gp := fw_pk_ge (r := r) (T := T) (x := s p) vs.1
      have V' := fw_V_s hr (by omega) bp (by omega) hV (by omega)
      have v'o := V'.2.1 _ ol
      rw [am_un_s] at v'o
      refine ⟨vp_in_nI (by omega) (by omega), vp_in_nI (by omega) (by omega), ?_⟩
      rw [nI_clamp (by omega), nI_clamp (by omega), am_gR, if_neg (by omega), (hI.2.2.2.2 p (by omega)).2.1, ← hs p (by omega), hA' _ ol]
      refine ⟨1, by omega, iX6_packOne hT hr (fun j hj => by rw [am_gR, if_neg (by decide)]; exact hA j hj) vs.1 (by omega) (by rw [hs p (by omega)]; exact sz.1.2) (fun h6 e6 => ?_)⟩
      have pb : fw_pk r T (V S) (s p) < 2 ^ 31 := by
        have s9 : s p ≤ 9 := by rw [hs p (by omega)]; exact sz.1.2
        unfold fw_pk
        split
        · omega
        · split <;> omega
      rw [am_gRs, am_sR_2, q_min (by omega) pb] at e6
      subst e6
      refine ih (p + 1) _ _ _ (by omega) V' (fun X hX => ?_)
      unfold upd am_un
      by_cases cx : X = S ||| 2 ^ p
      · rw [if_pos cx, if_pos cx]
      · rw [if_neg cx, if_neg cx]; exact hA' X hX
theorem x_68 (hd : 2 ≤ d) (hb : am_bu b) (hI : q_IC h b B) (hB : q_ok B) (hn : q_n B = n) (hn1 : 1 ≤ n) (hn10 : n ≤ 10) (hT : T ≤ 12) (hr : ∀ j, r j ≤ 99) (hA : ∀ j, j < T → h.2.2 11 j = nI (r j)) (hs : ∀ p, p < n → s p = q_si B p) (z : ∀ A V, fw_V s n r T V (2 ^ n - 1) 0 → Z (if (T + 1) * 128 ≤ V (2 ^ n - 1) then -2 else nI (V (2 ^ n - 1) / 128)) (am_sR h 13 A)) : ∀ (m S : Nat) (A : Nat → Int32) (V : Nat → Nat) (u6 u7 : Value), S + m = 2 ^ n - 1 → fw_V s n r T V S 0 → (∀ X, X < 2 ^ n → A X = nI (V X)) → Ru mX6_fewestDrawers none d 68 [.ref 10, .ref b, .int (nI T), .int (nI (2 ^ n - 1)), .int (nI ((T + 1) * 128)), .int (nI S), u6, u7] [] (am_sR h 13 A) Z
  | 0, S, A, V, u6, u7, hS, hV, hA' => by
    have h10 : 2 ^ n ≤ 1024 := Nat.pow_le_pow_right (n := 2) (by decide) hn10
    have pp : 0 < 2 ^ n := Nat.two_pow_pos n
    have eS : S = 2 ^ n - 1 := by omega
    have vs := hV.2.1 S (by omega)
    rw [eS] at hV vs ⊢
    refine sX6_fewestDrawers_68 hb ⟨fun _ => ⟨vp_in_nI (by omega) (by omega), ?_⟩, fun c => absurd (Int32.le_refl _) c⟩
    rw [nI_clamp (by omega), am_gRs, hA' _ (by omega), nI_leI (by omega) (by omega), show nI (V (2 ^ n - 1)) / 128 = nI (V (2 ^ n - 1) / 128) from pk_div (d := 128) (by omega) (by omega) (by omega)]
    have := z A V hV
    exact ⟨fun c => by rw [if_pos c] at this; exact this, fun c => by rw [if_neg c] at this; exact this⟩
  | m + 1, S, A, V, u6, u7, hS, hV, hA' => by
    have h10 : 2 ^ n ≤ 1024 := Nat.pow_le_pow_right (n := 2) (by decide) hn10
    refine sX6_fewestDrawers_68 hb ⟨fun c => absurd c (nI_ge (by omega) (by omega)), fun _ => ?_⟩
    exact x_77 (A0 := A) hd hb hI hB hn hn10 hT hr hA hs (by omega) (fun A V u6 u7 hV hA' => x_68 hd hb hI hB hn hn1 hn10 hT hr hA hs z m (S + 1) A V u6 u7 (by omega) hV hA') n 0 A V _ (by omega) hV hA'
/-- the fewest by the class: k, if so many are enough and no fewer; else -2 -/
def fw_ans (s : Nat → Nat) (n : Nat) (r : Nat → Nat) (v : Int32) : Prop := (∃ k, k ≤ 12 ∧ v = nI k ∧ ∀ m, fw_P s n r 12 m (2 ^ n - 1) ↔ k ≤ m) ∨ (v = -2 ∧ ∀ m, ¬ fw_P s n r 12 m (2 ^ n - 1))
theorem fw_P_le {k S : Nat} {r : Nat → Nat} : ∀ (j m : Nat), fw_P s n r k m S → fw_P s n r k (m + j) S
  | 0, _, h => h
  | j + 1, m, h => fw_P_m k (m + j) S (fw_P_le j m h)
theorem iX6_fewest (hd : 5 ≤ d) (hb : am_bu b) (hI : q_IC h b B) (hB : q_ok B) (hn : q_n B ≤ 10) (z : ∀ v A A2, fw_ans (q_si B) (q_n B) (q_r B) v → Z v (am_sR (am_sR h 11 A) 13 A2)) : Sp mX6_fewestDrawers d [.ref 10, .ref b] h Z := by
  have hb2 : 20 ≤ b := by rcases hb with rfl | rfl | rfl | rfl <;> omega
  have h10 : 2 ^ q_n B ≤ 1024 := Nat.pow_le_pow_right (n := 2) (by decide) hn
  have zh : ∀ v, fw_ans (q_si B) (q_n B) (q_r B) v → Z v h := fun v hv => by
    have := z v (h.2.2 11) (h.2.2 13) hv
    rw [am_sR_self, am_sR_self] at this; exact this
  have zh2 : ∀ v A, fw_ans (q_si B) (q_n B) (q_r B) v → Z v (am_sR h 11 A) := fun v A hv => by
    have := z v A ((am_sR h 11 A).2.2 13) hv
    rw [am_sR_self] at this; exact this
  refine Sp_of mf_X6_fewestDrawers rfl (Nat.le_of_ble_eq_true rfl) rfl (sX6_fewestDrawers_0 hb (by omega) ⟨fun c => ?_, fun c => ?_⟩)
  · rw [hI.1] at c
    have n1 : 1 ≤ q_n B := by
      rcases Nat.lt_or_ge 0 (q_n B) with q | q
      · exact q
      · exact absurd (by rw [show q_n B = 0 by omega]; rfl) c
    have p2 : 2 ≤ 2 ^ q_n B := by
      have : 2 ^ 1 ≤ 2 ^ q_n B := Nat.pow_le_pow_right (by decide) n1
      omega
    have hsz : ∀ p, p < q_n B → 1 ≤ q_si B p := fun p hp => (hB.2.2.2.2 p hp).1.1
    have w := x_srt (d := 4) (n := q_n B) (s := q_si B) (Z := fun r1 h2 => (r1 = 0 → Z (-2) h2) ∧ (¬ (r1 = 0) → (((1 <<< ((h2.1 b 8) &&& 31)) - 1) < (1024 : Int32) → (∀ h3 : am_H, h3 = am_sR (am_sR h2 13 (am_fill (h2.2.2 13) 1024 ((r1 + 1) * 128))) 13 (upd ((am_sR h2 13 (am_fill (h2.2.2 13) 1024 ((r1 + 1) * 128))).2.2 13) 0 128) → (Ru mX6_fewestDrawers none d 68 [.ref 10, .ref b, .int r1, .int ((1 <<< ((h2.1 b 8) &&& 31)) - 1), .int ((r1 + 1) * 128), .int 0, .null, .null] [] h3 Z))) ∧ (¬ (((1 <<< ((h2.1 b 8) &&& 31)) - 1) < (1024 : Int32)) → Z (-2) h2))) (by omega) hb hI hB hsz (fun A r T hT hr so hA hP => ?_) 12 0 0 (fun _ => 0) (h.2.2 11) .null (by omega) (Nat.le_refl 0) (fun _ => by omega) (fun i j _ q => absurd q (Nat.not_lt_zero j)) (fun j q => absurd q (Nat.not_lt_zero j)) (fun m S hS => Iff.rfl)
    · rw [am_sR_self] at w
      exact ⟨4, by omega, Sp_of mf_X6_sortRooms rfl (Nat.le_of_ble_eq_true rfl) rfl (sX6_sortRooms_0 hb w)⟩
    · have eq8 : (am_sR h 11 A).1 b 8 = nI (q_n B) := hI.1
      have eall : (1 <<< (nI (q_n B) &&& 31)) - 1 = nI (2 ^ q_n B - 1) := by rw [am_shl1 (by omega)]; exact pk_sub (b := 1) (by omega)
      refine ⟨fun c0 => zh2 _ A (Or.inr ⟨rfl, fun m q => ?_⟩), fun c0 => ?_⟩
      · have T0 : T = 0 := (nI_eq (b := 0) (by omega) (by omega)).mp c0
        rw [hP m _ (by omega), T0] at q
        have q' : 2 ^ q_n B - 1 = 0 := q
        omega
      · have T1 : 1 ≤ T := by
          rcases Nat.lt_or_ge 0 T with q | q
          · exact q
          · exact absurd (by rw [show T = 0 by omega]; rfl) c0
        rw [eq8, eall]
        refine ⟨fun _ h3 e3 => ?_, fun q => absurd (nI_lt (b := 1024) (by omega) (by omega)) q⟩
        have eU : (nI T + 1) * 128 = nI ((T + 1) * 128) := by rw [nI_1]; exact pk_mul _ _
        rw [eU] at e3 ⊢
        rw [am_gRs, am_sR_2] at e3
        subst e3
        refine x_68 (h := am_sR h 11 A) (n := q_n B) (s := q_si B) (r := r) (by omega) hb (q_IC_r (by omega) hI) hB rfl n1 hn hT hr (fun j hj => by rw [am_gRs]; exact hA j hj) (fun _ _ => rfl) (fun A2 V hV => z _ A A2 ?_) (2 ^ q_n B - 1) 0 _ (fun X => if X = 0 then 128 else (T + 1) * 128) _ _ (by omega) ⟨if_pos rfl, fun X hX => ?_, fun Y q _ _ h3 => by omega⟩ (fun X hX => ?_)
        · have allv := hV.2.1 (2 ^ q_n B - 1) (by omega)
          have cmp := fw_cmp (V := V) hr so hV.1 (fun Y q q1 q2 q3 q4 => hV.2.2 Y q q1 q2 (Or.inl (by
            have := fw_or_gt q2
            have pp : 0 < 2 ^ q := Nat.two_pow_pos q
            omega)) q3 q4) (fun Y hY hU => (hV.2.1 Y hY).2.2 hU)
          have bound : ∀ m, fw_P (q_si B) (q_n B) (q_r B) 12 m (2 ^ q_n B - 1) → V (2 ^ q_n B - 1) < 128 * (m + 1) ∧ V (2 ^ q_n B - 1) < (T + 1) * 128 := fun m q => by
            rw [hP m _ (by omega)] at q
            have qq := fw_PQ so T m _ (Nat.le_refl T) q
            cases em : min m T with
            | zero =>
              rw [em] at qq
              have qq' : 2 ^ q_n B - 1 = 0 := qq
              omega
            | succ k =>
              rw [em] at qq
              obtain ⟨A', a1, a2, a3⟩ := qq
              have := cmp k (by omega) A' _ (r k) (by omega) a1 a2 (Nat.le_refl _) a3
              have hrk := hr k
              omega
          by_cases cU : (T + 1) * 128 ≤ V (2 ^ q_n B - 1)
          · rw [if_pos cU]
            exact Or.inr ⟨rfl, fun m q => by have := (bound m q).2; omega⟩
          · rw [if_neg cU]
            obtain ⟨k, f, e, k1, k2, k3, A', a1, a2, a3⟩ := allv.2.2 (by omega)
            have hrk := hr (k - 1)
            have ek : V (2 ^ q_n B - 1) / 128 = k := by omega
            rw [ek]
            refine Or.inl ⟨k, by omega, rfl, fun m => ⟨fun q => ?_, fun q => ?_⟩⟩
            · have := (bound m q).1; omega
            · have Qk : fw_Q (q_si B) (q_n B) r k (2 ^ q_n B - 1) := by
                rw [show k = (k - 1) + 1 by omega]
                exact ⟨A', a1, Nat.le_trans a2 k3, a3⟩
              have Pk := fw_P_up (T - k) k (fw_QP k _ Qk)
              rw [show k + (T - k) = T by omega] at Pk
              have := fw_P_le (m - k) k Pk
              rw [show k + (m - k) = m by omega] at this
              rw [hP m _ (by omega)]; exact this
        · show 128 ≤ (if X = 0 then 128 else (T + 1) * 128) ∧ (if X = 0 then 128 else (T + 1) * 128) ≤ (T + 1) * 128 ∧ ((if X = 0 then 128 else (T + 1) * 128) < (T + 1) * 128 → fw_S (q_si B) (q_n B) r T X (if X = 0 then 128 else (T + 1) * 128))
          by_cases cx : X = 0
          · rw [if_pos cx, cx]
            exact ⟨by omega, by omega, fun _ => ⟨1, 0, by omega, by omega, T1, Nat.zero_le _, 0, fw_in_0 0, by rw [fw_sm_0]; omega, rfl⟩⟩
          · rw [if_neg cx]
            exact ⟨by omega, by omega, fun q => absurd q (Nat.lt_irrefl _)⟩
        · show upd _ 0 128 X = nI (if X = 0 then 128 else (T + 1) * 128)
          unfold upd am_fill
          by_cases cx : X = 0
          · rw [if_pos cx, if_pos cx]; rfl
          · rw [if_neg cx, if_neg cx, if_pos (by omega)]
  · rw [hI.1] at c
    have n0 : q_n B = 0 := (nI_eq (b := 0) (by omega) (by omega)).mp c
    refine zh _ (Or.inl ⟨0, by omega, rfl, fun m => ⟨fun _ => Nat.zero_le m, fun _ => ?_⟩⟩)
    rw [n0]; exact fw_P_0 12 m
end
