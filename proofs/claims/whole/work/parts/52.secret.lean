-- secret
set_option maxRecDepth 20000 in
set_option maxHeartbeats 2000000 in
theorem sX5_isSound_0 {d : Nat} {h : am_H} {Z : Int32 → am_H → Prop} {x1 : Int32} (w : Ru mX5_isSound none d 2 [.ref 16, .int x1, .int 0, .null] [] h Z) : Ru mX5_isSound none d 0 [.ref 16, .int x1, .null, .null] [] h Z := by
  refine st_iconst (v := 0) dX5_isSound_0 (by decide) ?_
  refine st_istore_n (L' := [.ref 16, .int x1, .int 0, .null]) dX5_isSound_1 (by decide) rfl ?_
  exact w
set_option maxRecDepth 20000 in
set_option maxHeartbeats 2000000 in
theorem sX5_isSound_2 {d : Nat} {h : am_H} {Z : Int32 → am_H → Prop} {x1 : Int32} {x2 : Int32} {u3 : Value} (hd : 2 ≤ d) (w : (x1 ≤ x2 → Z 1 h) ∧ (¬ (x1 ≤ x2) → (¬ (((am_at h (2 * x2)) ||| (am_at h ((2 * x2) + 1))) >>> (x1 &&& 31)) = 0 → Z 0 h) ∧ ((((am_at h (2 * x2)) ||| (am_at h ((2 * x2) + 1))) >>> (x1 &&& 31)) = 0 → (((((am_at h (2 * x2)) ||| (am_at h ((2 * x2) + 1))) >>> (x2 &&& 31)) &&& 1) = 0 → Ru mX5_isSound none d 2 [.ref 16, .int x1, .int (x2 + 1), .int ((am_at h (2 * x2)) ||| (am_at h ((2 * x2) + 1)))] [] h Z) ∧ (¬ (((((am_at h (2 * x2)) ||| (am_at h ((2 * x2) + 1))) >>> (x2 &&& 31)) &&& 1) = 0) → Z 0 h)))) : Ru mX5_isSound none d 2 [.ref 16, .int x1, .int x2, u3] [] h Z := by
  refine st_iload_n dX5_isSound_2 rfl ?_
  refine st_iload_n dX5_isSound_3 rfl ?_
  refine st_icmp_ge (tgt := 53) dX5_isSound_4 (by decide) (fun c => ?_) (fun c => ?_)
  · replace w := w.1 c
    refine st_iconst (v := 1) dX5_isSound_53 (by decide) ?_
    exact st_ireturn rfl rfl dX5_isSound_54 w
  · replace w := w.2 c
    refine st_aload_n dX5_isSound_7 rfl ?_
    refine st_getF (q := 1) fl_X5_25 fk_5_0 rfl dX5_isSound_8 sh_16 ?_
    refine st_iconst (v := 2) dX5_isSound_11 (by decide) ?_
    refine st_iload_n dX5_isSound_12 rfl ?_
    refine st_imul dX5_isSound_13 ?_
    refine st_callV (M' := mX9_at) [.int (2 * x2)] [] dX5_isSound_14 ml_X5_37 mf_X9_at mv_X9_at sh_1 rfl rfl rfl (K := fun r h' => (am_at h (2 * x2)) = r ∧ h = h') ⟨1, by omega, iX9_at ⟨rfl, rfl⟩⟩ (fun r1 h1 w1 => ?_)
    obtain ⟨rfl, rfl⟩ := w1
    show Ru mX5_isSound none d 17 [.ref 16, .int x1, .int x2, u3] [.int (am_at h (2 * x2))] h Z
    refine st_aload_n dX5_isSound_17 rfl ?_
    refine st_getF (q := 1) fl_X5_25 fk_5_0 rfl dX5_isSound_18 sh_16 ?_
    refine st_iconst (v := 2) dX5_isSound_21 (by decide) ?_
    refine st_iload_n dX5_isSound_22 rfl ?_
    refine st_imul dX5_isSound_23 ?_
    refine st_iconst (v := 1) dX5_isSound_24 (by decide) ?_
    refine st_iadd dX5_isSound_25 ?_
    refine st_callV (M' := mX9_at) [.int ((2 * x2) + 1)] [.int (am_at h (2 * x2))] dX5_isSound_26 ml_X5_37 mf_X9_at mv_X9_at sh_1 rfl rfl rfl (K := fun r h' => (am_at h ((2 * x2) + 1)) = r ∧ h = h') ⟨1, by omega, iX9_at ⟨rfl, rfl⟩⟩ (fun r1 h1 w1 => ?_)
    obtain ⟨rfl, rfl⟩ := w1
    show Ru mX5_isSound none d 29 [.ref 16, .int x1, .int x2, u3] [.int (am_at h ((2 * x2) + 1)), .int (am_at h (2 * x2))] h Z
    refine st_ior dX5_isSound_29 ?_
    refine st_istore_n (L' := [.ref 16, .int x1, .int x2, .int ((am_at h (2 * x2)) ||| (am_at h ((2 * x2) + 1)))]) dX5_isSound_30 (by decide) rfl ?_
    refine st_iload_n dX5_isSound_31 rfl ?_
    refine st_iload_n dX5_isSound_32 rfl ?_
    refine st_ishr dX5_isSound_33 ?_
    refine st_if_ne (tgt := 45) dX5_isSound_34 (by decide) (fun c => ?_) (fun c => ?_)
    · replace w := w.1 c
      refine st_iconst (v := 0) dX5_isSound_45 (by decide) ?_
      exact st_ireturn rfl rfl dX5_isSound_46 w
    · replace w := w.2 c
      refine st_iload_n dX5_isSound_37 rfl ?_
      refine st_iload_n dX5_isSound_38 rfl ?_
      refine st_ishr dX5_isSound_39 ?_
      refine st_iconst (v := 1) dX5_isSound_40 (by decide) ?_
      refine st_iand dX5_isSound_41 ?_
      refine st_if_eq (tgt := 47) dX5_isSound_42 (by decide) (fun c => ?_) (fun c => ?_)
      · replace w := w.1 c
        refine st_iinc (L' := [.ref 16, .int x1, .int (x2 + 1), .int ((am_at h (2 * x2)) ||| (am_at h ((2 * x2) + 1)))]) dX5_isSound_47 rfl rfl (by decide) rfl ?_
        refine st_goto (tgt := 2) dX5_isSound_50 (by decide) ?_
        exact w
      · replace w := w.2 c
        refine st_iconst (v := 0) dX5_isSound_45 (by decide) ?_
        exact st_ireturn rfl rfl dX5_isSound_46 w
set_option maxRecDepth 20000 in
set_option maxHeartbeats 2000000 in
theorem sX5_walk_0 {d : Nat} {h : am_H} {Z : Int32 → am_H → Prop} {x1 : Int32} {x2 : Int32} (hd : 2 ≤ d) (w : (∀ h1 : am_H, h1 = am_sR (am_sR h 18 (am_fill (h.2.2 18) 256 (-1 : Int32))) 18 (upd ((am_sR h 18 (am_fill (h.2.2 18) 256 (-1 : Int32))).2.2 18) 0 0) → (∀ h2 : am_H, h2 = am_sR h1 17 (upd (h1.2.2 17) 0 0) → (∀ h3 : am_H, h3 = am_sI h2 16 4 1 → (Ru mX5_walk none d 29 [.ref 16, .int x1, .int x2, .int 0, .null, .null] [] h3 Z))))) : Ru mX5_walk none d 0 [.ref 16, .int x1, .int x2, .null, .null, .null] [] h Z := by
  refine st_aload_n dX5_walk_0 rfl ?_
  refine st_getF (q := 18) fl_X5_15 fk_5_2 rfl dX5_walk_1 sh_16 ?_
  refine st_iconst (v := (-1)) dX5_walk_4 (by decide) ?_
  refine st_callS (M' := mJ7_fill_53178) [.ref 18, .int (-1)] [] dX5_walk_5 ml_X5_43 mf_J7_fill_53178 ms_J7_fill_53178 rfl rfl rfl (K := fun r h' => 0 = r ∧ am_sR h 18 (am_fill (h.2.2 18) 256 (-1 : Int32)) = h') ⟨1, by omega, iJ7_fill sh_18 (by decide) ⟨rfl, rfl⟩⟩ (fun r1 h1 w1 => ?_)
  obtain ⟨rfl, rfl⟩ := w1
  show Ru mX5_walk none d 8 [.ref 16, .int x1, .int x2, .null, .null, .null] [] (am_sR h 18 (am_fill (h.2.2 18) 256 (-1 : Int32))) Z
  refine st_aload_n dX5_walk_8 rfl ?_
  refine st_getF (q := 18) fl_X5_15 fk_5_2 rfl dX5_walk_9 sh_16 ?_
  refine st_iconst (v := 0) dX5_walk_12 (by decide) ?_
  refine st_iconst (v := 0) dX5_walk_13 (by decide) ?_
  refine st_iast dX5_walk_14 sh_18 (by unfold vp_in; decide +kernel) (fun h1 eh1 => ?_)
  replace w := w h1 eh1
  refine st_aload_n dX5_walk_15 rfl ?_
  refine st_getF (q := 17) fl_X5_11 fk_5_1 rfl dX5_walk_16 sh_16 ?_
  refine st_iconst (v := 0) dX5_walk_19 (by decide) ?_
  refine st_iconst (v := 0) dX5_walk_20 (by decide) ?_
  refine st_iast dX5_walk_21 sh_17 (by unfold vp_in; decide +kernel) (fun h2 eh2 => ?_)
  replace w := w h2 eh2
  refine st_aload_n dX5_walk_22 rfl ?_
  refine st_iconst (v := 1) dX5_walk_23 (by decide) ?_
  refine st_putI flp_X5_21 fk_5_4 dX5_walk_24 sh_16 (fun h3 eh3 => ?_)
  replace w := w h3 eh3
  refine st_iconst (v := 0) dX5_walk_27 (by decide) ?_
  refine st_istore_n (L' := [.ref 16, .int x1, .int x2, .int 0, .null, .null]) dX5_walk_28 (by decide) rfl ?_
  exact w
set_option maxRecDepth 20000 in
set_option maxHeartbeats 2000000 in
theorem sX5_walk_29 {d : Nat} {h : am_H} {Z : Int32 → am_H → Prop} {x1 : Int32} {x2 : Int32} {x3 : Int32} {u4 : Value} {u5 : Value} (w : ((h.1 16 4) ≤ x3 → Z (-1) h) ∧ (¬ ((h.1 16 4) ≤ x3) → (256 ≤ x3 → Z (-1) h) ∧ (¬ (256 ≤ x3) → (vp_in x3 256 ∧ (((((h.2.2 17 x3.toNatClampNeg) >>> (x2 &&& 31)) &&& 1) = 0 → Ru mX5_walk none d 67 [.ref 16, .int x1, .int x2, .int x3, .int (h.2.2 17 x3.toNatClampNeg), .int 0] [] h Z) ∧ (¬ ((((h.2.2 17 x3.toNatClampNeg) >>> (x2 &&& 31)) &&& 1) = 0) → Z (h.2.2 17 x3.toNatClampNeg) h)))))) : Ru mX5_walk none d 29 [.ref 16, .int x1, .int x2, .int x3, u4, u5] [] h Z := by
  refine st_iload_n dX5_walk_29 rfl ?_
  refine st_aload_n dX5_walk_30 rfl ?_
  refine st_getI fl_X5_21 fk_5_4 dX5_walk_31 sh_16 ?_
  refine st_icmp_ge (tgt := 104) dX5_walk_34 (by decide) (fun c => ?_) (fun c => ?_)
  · replace w := w.1 c
    refine st_iconst (v := (-1)) dX5_walk_104 (by decide) ?_
    exact st_ireturn rfl rfl dX5_walk_105 w
  · replace w := w.2 c
    refine st_iload_n dX5_walk_37 rfl ?_
    refine st_sipush (v := 256) dX5_walk_38 (by decide) ?_
    refine st_icmp_ge (tgt := 104) dX5_walk_41 (by decide) (fun c => ?_) (fun c => ?_)
    · replace w := w.1 c
      refine st_iconst (v := (-1)) dX5_walk_104 (by decide) ?_
      exact st_ireturn rfl rfl dX5_walk_105 w
    · replace w := w.2 c
      refine st_aload_n dX5_walk_44 rfl ?_
      refine st_getF (q := 17) fl_X5_11 fk_5_1 rfl dX5_walk_45 sh_16 ?_
      refine st_iload_n dX5_walk_48 rfl ?_
      have hc1 := w.1
      replace w := w.2
      refine st_iald dX5_walk_49 sh_17 hc1 ?_
      refine st_istore (L' := [.ref 16, .int x1, .int x2, .int x3, .int (h.2.2 17 x3.toNatClampNeg), u5]) dX5_walk_50 (by decide) rfl ?_
      refine st_iload dX5_walk_52 rfl ?_
      refine st_iload_n dX5_walk_54 rfl ?_
      refine st_ishr dX5_walk_55 ?_
      refine st_iconst (v := 1) dX5_walk_56 (by decide) ?_
      refine st_iand dX5_walk_57 ?_
      refine st_if_eq (tgt := 64) dX5_walk_58 (by decide) (fun c => ?_) (fun c => ?_)
      · replace w := w.1 c
        refine st_iconst (v := 0) dX5_walk_64 (by decide) ?_
        refine st_istore (L' := [.ref 16, .int x1, .int x2, .int x3, .int (h.2.2 17 x3.toNatClampNeg), .int 0]) dX5_walk_65 (by decide) rfl ?_
        exact w
      · replace w := w.2 c
        refine st_iload dX5_walk_61 rfl ?_
        exact st_ireturn rfl rfl dX5_walk_63 w
set_option maxRecDepth 20000 in
set_option maxHeartbeats 2000000 in
theorem sX5_walk_67 {d : Nat} {h : am_H} {Z : Int32 → am_H → Prop} {x1 : Int32} {x2 : Int32} {x3 : Int32} {x4 : Int32} {x5 : Int32} (w : (x1 ≤ x5 → Ru mX5_walk none d 29 [.ref 16, .int x1, .int x2, .int (x3 + 1), .int x4, .int x5] [] h Z) ∧ (¬ (x1 ≤ x5) → am_cl mX5_canMove d [.ref 16, .int x4, .int x5] h (fun r1 h2 => (r1 = 0 → Ru mX5_walk none d 67 [.ref 16, .int x1, .int x2, .int x3, .int x4, .int (x5 + 1)] [] h2 Z) ∧ (¬ (r1 = 0) → am_cl mX5_reach d [.ref 16, .int x4, .int x5] h2 (fun r3 h4 => Ru mX5_walk none d 67 [.ref 16, .int x1, .int x2, .int x3, .int x4, .int (x5 + 1)] [] h4 Z))))) : Ru mX5_walk none d 67 [.ref 16, .int x1, .int x2, .int x3, .int x4, .int x5] [] h Z := by
  refine st_iload dX5_walk_67 rfl ?_
  refine st_iload_n dX5_walk_69 rfl ?_
  refine st_icmp_ge (tgt := 98) dX5_walk_70 (by decide) (fun c => ?_) (fun c => ?_)
  · replace w := w.1 c
    refine st_iinc (L' := [.ref 16, .int x1, .int x2, .int (x3 + 1), .int x4, .int x5]) dX5_walk_98 rfl rfl (by decide) rfl ?_
    refine st_goto (tgt := 29) dX5_walk_101 (by decide) ?_
    exact w
  · replace w := w.2 c
    refine st_aload_n dX5_walk_73 rfl ?_
    refine st_iload dX5_walk_74 rfl ?_
    refine st_iload dX5_walk_76 rfl ?_
    refine st_callV (M' := mX5_canMove) [.int x4, .int x5] [] dX5_walk_78 ml_X5_49 mf_X5_canMove mv_X5_canMove sh_16 rfl rfl rfl w (fun r1 h2 w => ?_)
    show Ru mX5_walk none d 81 [.ref 16, .int x1, .int x2, .int x3, .int x4, .int x5] [.int r1] h2 Z
    refine st_if_eq (tgt := 92) dX5_walk_81 (by decide) (fun c => ?_) (fun c => ?_)
    · replace w := w.1 c
      refine st_iinc (L' := [.ref 16, .int x1, .int x2, .int x3, .int x4, .int (x5 + 1)]) dX5_walk_92 rfl rfl (by decide) rfl ?_
      refine st_goto (tgt := 67) dX5_walk_95 (by decide) ?_
      exact w
    · replace w := w.2 c
      refine st_aload_n dX5_walk_84 rfl ?_
      refine st_iload dX5_walk_85 rfl ?_
      refine st_iload dX5_walk_87 rfl ?_
      refine st_callV (M' := mX5_reach) [.int x4, .int x5] [] dX5_walk_89 ml_X5_53 mf_X5_reach mv_X5_reach sh_16 rfl rfl rfl w (fun r3 h4 w => ?_)
      show Ru mX5_walk none d 92 [.ref 16, .int x1, .int x2, .int x3, .int x4, .int x5] [] h4 Z
      refine st_iinc (L' := [.ref 16, .int x1, .int x2, .int x3, .int x4, .int (x5 + 1)]) dX5_walk_92 rfl rfl (by decide) rfl ?_
      refine st_goto (tgt := 67) dX5_walk_95 (by decide) ?_
      exact w
set_option maxRecDepth 20000 in
set_option maxHeartbeats 2000000 in
theorem sX5_canMove_0 {d : Nat} {h : am_H} {Z : Int32 → am_H → Prop} {x1 : Int32} {x2 : Int32} (hd : 2 ≤ d) (w : (¬ (x1 &&& (am_at h (2 * x2))) = (am_at h (2 * x2)) → Z 0 h) ∧ ((x1 &&& (am_at h (2 * x2))) = (am_at h (2 * x2)) → (¬ (x1 &&& (am_at h ((2 * x2) + 1))) = 0 → Z 0 h) ∧ ((x1 &&& (am_at h ((2 * x2) + 1))) = 0 → Z 1 h))) : Ru mX5_canMove none d 0 [.ref 16, .int x1, .int x2, .null, .null] [] h Z := by
  refine st_aload_n dX5_canMove_0 rfl ?_
  refine st_getF (q := 1) fl_X5_25 fk_5_0 rfl dX5_canMove_1 sh_16 ?_
  refine st_iconst (v := 2) dX5_canMove_4 (by decide) ?_
  refine st_iload_n dX5_canMove_5 rfl ?_
  refine st_imul dX5_canMove_6 ?_
  refine st_callV (M' := mX9_at) [.int (2 * x2)] [] dX5_canMove_7 ml_X5_37 mf_X9_at mv_X9_at sh_1 rfl rfl rfl (K := fun r h' => (am_at h (2 * x2)) = r ∧ h = h') ⟨1, by omega, iX9_at ⟨rfl, rfl⟩⟩ (fun r1 h1 w1 => ?_)
  obtain ⟨rfl, rfl⟩ := w1
  show Ru mX5_canMove none d 10 [.ref 16, .int x1, .int x2, .null, .null] [.int (am_at h (2 * x2))] h Z
  refine st_istore_n (L' := [.ref 16, .int x1, .int x2, .int (am_at h (2 * x2)), .null]) dX5_canMove_10 (by decide) rfl ?_
  refine st_aload_n dX5_canMove_11 rfl ?_
  refine st_getF (q := 1) fl_X5_25 fk_5_0 rfl dX5_canMove_12 sh_16 ?_
  refine st_iconst (v := 2) dX5_canMove_15 (by decide) ?_
  refine st_iload_n dX5_canMove_16 rfl ?_
  refine st_imul dX5_canMove_17 ?_
  refine st_iconst (v := 1) dX5_canMove_18 (by decide) ?_
  refine st_iadd dX5_canMove_19 ?_
  refine st_callV (M' := mX9_at) [.int ((2 * x2) + 1)] [] dX5_canMove_20 ml_X5_37 mf_X9_at mv_X9_at sh_1 rfl rfl rfl (K := fun r h' => (am_at h ((2 * x2) + 1)) = r ∧ h = h') ⟨1, by omega, iX9_at ⟨rfl, rfl⟩⟩ (fun r1 h1 w1 => ?_)
  obtain ⟨rfl, rfl⟩ := w1
  show Ru mX5_canMove none d 23 [.ref 16, .int x1, .int x2, .int (am_at h (2 * x2)), .null] [.int (am_at h ((2 * x2) + 1))] h Z
  refine st_istore (L' := [.ref 16, .int x1, .int x2, .int (am_at h (2 * x2)), .int (am_at h ((2 * x2) + 1))]) dX5_canMove_23 (by decide) rfl ?_
  refine st_iload_n dX5_canMove_25 rfl ?_
  refine st_iload_n dX5_canMove_26 rfl ?_
  refine st_iand dX5_canMove_27 ?_
  refine st_iload_n dX5_canMove_28 rfl ?_
  refine st_icmp_ne (tgt := 43) dX5_canMove_29 (by decide) (fun c => ?_) (fun c => ?_)
  · replace w := w.1 c
    refine st_iconst (v := 0) dX5_canMove_43 (by decide) ?_
    exact st_ireturn rfl rfl dX5_canMove_44 w
  · replace w := w.2 c
    refine st_iload_n dX5_canMove_32 rfl ?_
    refine st_iload dX5_canMove_33 rfl ?_
    refine st_iand dX5_canMove_35 ?_
    refine st_if_ne (tgt := 43) dX5_canMove_36 (by decide) (fun c => ?_) (fun c => ?_)
    · replace w := w.1 c
      refine st_iconst (v := 0) dX5_canMove_43 (by decide) ?_
      exact st_ireturn rfl rfl dX5_canMove_44 w
    · replace w := w.2 c
      refine st_iconst (v := 1) dX5_canMove_39 (by decide) ?_
      refine st_goto (tgt := 44) dX5_canMove_40 (by decide) ?_
      exact st_ireturn rfl rfl dX5_canMove_44 w
set_option maxRecDepth 20000 in
set_option maxHeartbeats 2000000 in
theorem sX5_reach_0 {d : Nat} {h : am_H} {Z : Int32 → am_H → Prop} {x1 : Int32} {x2 : Int32} (w : ((x1 ^^^ (1 <<< (x2 &&& 31)) : Int32) < 0 → Z 0 h) ∧ (¬ ((x1 ^^^ (1 <<< (x2 &&& 31)) : Int32) < 0) → ((256 : Int32) ≤ (x1 ^^^ (1 <<< (x2 &&& 31))) → Z 0 h) ∧ (¬ ((256 : Int32) ≤ (x1 ^^^ (1 <<< (x2 &&& 31)))) → (256 ≤ (h.1 16 4) → Z 0 h) ∧ (¬ (256 ≤ (h.1 16 4)) → (vp_in (x1 ^^^ (1 <<< (x2 &&& 31))) 256 ∧ (((h.2.2 18 (x1 ^^^ (1 <<< (x2 &&& 31))).toNatClampNeg : Int32) < 0 → (vp_in x1 256 ∧ (∀ h3 : am_H, h3 = am_sR h 18 (upd (h.2.2 18) (x1 ^^^ (1 <<< (x2 &&& 31))).toNatClampNeg ((h.2.2 18 x1.toNatClampNeg) + 1)) → ((¬ x1 = 0 → (∀ h4 : am_H, h4 = am_sR h3 19 (upd (h3.2.2 19) (x1 ^^^ (1 <<< (x2 &&& 31))).toNatClampNeg (h3.2.2 19 x1.toNatClampNeg)) → (vp_in (h4.1 16 4) 256 ∧ (∀ h6 : am_H, h6 = am_sR h4 17 (upd (h4.2.2 17) (h4.1 16 4).toNatClampNeg (x1 ^^^ (1 <<< (x2 &&& 31)))) → (∀ h7 : am_H, h7 = am_sI h6 16 4 ((h6.1 16 4) + 1) → (Z 0 h7)))))) ∧ (x1 = 0 → (∀ h8 : am_H, h8 = am_sR h3 19 (upd (h3.2.2 19) (x1 ^^^ (1 <<< (x2 &&& 31))).toNatClampNeg x2) → (vp_in (h8.1 16 4) 256 ∧ (∀ h10 : am_H, h10 = am_sR h8 17 (upd (h8.2.2 17) (h8.1 16 4).toNatClampNeg (x1 ^^^ (1 <<< (x2 &&& 31)))) → (∀ h11 : am_H, h11 = am_sI h10 16 4 ((h10.1 16 4) + 1) → (Z 0 h11)))))))))) ∧ (¬ ((h.2.2 18 (x1 ^^^ (1 <<< (x2 &&& 31))).toNatClampNeg : Int32) < 0) → Z 0 h))))))) : Ru mX5_reach none d 0 [.ref 16, .int x1, .int x2, .null] [] h Z := by
  refine st_iload_n dX5_reach_0 rfl ?_
  refine st_iconst (v := 1) dX5_reach_1 (by decide) ?_
  refine st_iload_n dX5_reach_2 rfl ?_
  refine st_ishl dX5_reach_3 ?_
  refine st_ixor dX5_reach_4 ?_
  refine st_istore_n (L' := [.ref 16, .int x1, .int x2, .int (x1 ^^^ (1 <<< (x2 &&& 31)))]) dX5_reach_5 (by decide) rfl ?_
  refine st_iload_n dX5_reach_6 rfl ?_
  refine st_if_lt (tgt := 36) dX5_reach_7 (by decide) (fun c => ?_) (fun c => ?_)
  · replace w := w.1 c
    exact st_return rfl dX5_reach_36 w
  · replace w := w.2 c
    refine st_iload_n dX5_reach_10 rfl ?_
    refine st_sipush (v := 256) dX5_reach_11 (by decide) ?_
    refine st_icmp_ge (tgt := 36) dX5_reach_14 (by decide) (fun c => ?_) (fun c => ?_)
    · replace w := w.1 c
      exact st_return rfl dX5_reach_36 w
    · replace w := w.2 c
      refine st_aload_n dX5_reach_17 rfl ?_
      refine st_getI fl_X5_21 fk_5_4 dX5_reach_18 sh_16 ?_
      refine st_sipush (v := 256) dX5_reach_21 (by decide) ?_
      refine st_icmp_ge (tgt := 36) dX5_reach_24 (by decide) (fun c => ?_) (fun c => ?_)
      · replace w := w.1 c
        exact st_return rfl dX5_reach_36 w
      · replace w := w.2 c
        refine st_aload_n dX5_reach_27 rfl ?_
        refine st_getF (q := 18) fl_X5_15 fk_5_2 rfl dX5_reach_28 sh_16 ?_
        refine st_iload_n dX5_reach_31 rfl ?_
        have hc1 := w.1
        replace w := w.2
        refine st_iald dX5_reach_32 sh_18 hc1 ?_
        refine st_if_lt (tgt := 37) dX5_reach_33 (by decide) (fun c => ?_) (fun c => ?_)
        · replace w := w.1 c
          refine st_aload_n dX5_reach_37 rfl ?_
          refine st_getF (q := 18) fl_X5_15 fk_5_2 rfl dX5_reach_38 sh_16 ?_
          refine st_iload_n dX5_reach_41 rfl ?_
          refine st_aload_n dX5_reach_42 rfl ?_
          refine st_getF (q := 18) fl_X5_15 fk_5_2 rfl dX5_reach_43 sh_16 ?_
          refine st_iload_n dX5_reach_46 rfl ?_
          have hc2 := w.1
          replace w := w.2
          refine st_iald dX5_reach_47 sh_18 hc2 ?_
          refine st_iconst (v := 1) dX5_reach_48 (by decide) ?_
          refine st_iadd dX5_reach_49 ?_
          refine st_iast dX5_reach_50 sh_18 hc1 (fun h3 eh3 => ?_)
          replace w := w h3 eh3
          refine st_aload_n dX5_reach_51 rfl ?_
          refine st_getF (q := 19) fl_X5_18 fk_5_3 rfl dX5_reach_52 sh_16 ?_
          refine st_iload_n dX5_reach_55 rfl ?_
          refine st_iload_n dX5_reach_56 rfl ?_
          refine st_if_ne (tgt := 64) dX5_reach_57 (by decide) (fun c => ?_) (fun c => ?_)
          · replace w := w.1 c
            refine st_aload_n dX5_reach_64 rfl ?_
            refine st_getF (q := 19) fl_X5_18 fk_5_3 rfl dX5_reach_65 sh_16 ?_
            refine st_iload_n dX5_reach_68 rfl ?_
            refine st_iald dX5_reach_69 sh_19 hc2 ?_
            refine st_iast dX5_reach_70 sh_19 hc1 (fun h4 eh4 => ?_)
            replace w := w h4 eh4
            refine st_aload_n dX5_reach_71 rfl ?_
            refine st_getF (q := 17) fl_X5_11 fk_5_1 rfl dX5_reach_72 sh_16 ?_
            refine st_aload_n dX5_reach_75 rfl ?_
            refine st_getI fl_X5_21 fk_5_4 dX5_reach_76 sh_16 ?_
            refine st_iload_n dX5_reach_79 rfl ?_
            have hc5 := w.1
            replace w := w.2
            refine st_iast dX5_reach_80 sh_17 hc5 (fun h6 eh6 => ?_)
            replace w := w h6 eh6
            refine st_aload_n dX5_reach_81 rfl ?_
            refine st_dup dX5_reach_82 rfl ?_
            refine st_getI fl_X5_21 fk_5_4 dX5_reach_83 sh_16 ?_
            refine st_iconst (v := 1) dX5_reach_86 (by decide) ?_
            refine st_iadd dX5_reach_87 ?_
            refine st_putI flp_X5_21 fk_5_4 dX5_reach_88 sh_16 (fun h7 eh7 => ?_)
            replace w := w h7 eh7
            exact st_return rfl dX5_reach_91 w
          · replace w := w.2 c
            refine st_iload_n dX5_reach_60 rfl ?_
            refine st_goto (tgt := 70) dX5_reach_61 (by decide) ?_
            refine st_iast dX5_reach_70 sh_19 hc1 (fun h8 eh8 => ?_)
            replace w := w h8 eh8
            refine st_aload_n dX5_reach_71 rfl ?_
            refine st_getF (q := 17) fl_X5_11 fk_5_1 rfl dX5_reach_72 sh_16 ?_
            refine st_aload_n dX5_reach_75 rfl ?_
            refine st_getI fl_X5_21 fk_5_4 dX5_reach_76 sh_16 ?_
            refine st_iload_n dX5_reach_79 rfl ?_
            have hc9 := w.1
            replace w := w.2
            refine st_iast dX5_reach_80 sh_17 hc9 (fun h10 eh10 => ?_)
            replace w := w h10 eh10
            refine st_aload_n dX5_reach_81 rfl ?_
            refine st_dup dX5_reach_82 rfl ?_
            refine st_getI fl_X5_21 fk_5_4 dX5_reach_83 sh_16 ?_
            refine st_iconst (v := 1) dX5_reach_86 (by decide) ?_
            refine st_iadd dX5_reach_87 ?_
            refine st_putI flp_X5_21 fk_5_4 dX5_reach_88 sh_16 (fun h11 eh11 => ?_)
            replace w := w h11 eh11
            exact st_return rfl dX5_reach_91 w
        · replace w := w.2 c
          exact st_return rfl dX5_reach_36 w
set_option maxRecDepth 20000 in
set_option maxHeartbeats 2000000 in
theorem sX5_solve_0 {d : Nat} {h : am_H} {Z : Int32 → am_H → Prop} {x1 : Int32} {x2 : Int32} {x3 : Int32} (w : am_cl mX5_isSound d [.ref 16, .int x1] h (fun r1 h2 => (¬ r1 = 0 → am_cl mX5_walk d [.ref 16, .int x1, .int x2] h2 (fun r3 h4 => (0 ≤ r3 → (¬ x3 = 0 → (vp_in r3 256 ∧ (Z (h4.2.2 19 r3.toNatClampNeg) h4))) ∧ (x3 = 0 → (vp_in r3 256 ∧ (Z (h4.2.2 18 r3.toNatClampNeg) h4)))) ∧ (¬ (0 ≤ r3) → Z (-2) h4))) ∧ (r1 = 0 → Z (-3) h2))) : Ru mX5_solve none d 0 [.ref 16, .int x1, .int x2, .int x3, .null] [] h Z := by
  refine st_aload_n dX5_solve_0 rfl ?_
  refine st_iload_n dX5_solve_1 rfl ?_
  refine st_callV (M' := mX5_isSound) [.int x1] [] dX5_solve_2 ml_X5_29 mf_X5_isSound mv_X5_isSound sh_16 rfl rfl rfl w (fun r1 h2 w => ?_)
  show Ru mX5_solve none d 5 [.ref 16, .int x1, .int x2, .int x3, .null] [.int r1] h2 Z
  refine st_if_ne (tgt := 11) dX5_solve_5 (by decide) (fun c => ?_) (fun c => ?_)
  · replace w := w.1 c
    refine st_aload_n dX5_solve_11 rfl ?_
    refine st_iload_n dX5_solve_12 rfl ?_
    refine st_iload_n dX5_solve_13 rfl ?_
    refine st_callV (M' := mX5_walk) [.int x1, .int x2] [] dX5_solve_14 ml_X5_33 mf_X5_walk mv_X5_walk sh_16 rfl rfl rfl w (fun r3 h4 w => ?_)
    show Ru mX5_solve none d 17 [.ref 16, .int x1, .int x2, .int x3, .null] [.int r3] h4 Z
    refine st_istore (L' := [.ref 16, .int x1, .int x2, .int x3, .int r3]) dX5_solve_17 (by decide) rfl ?_
    refine st_iload dX5_solve_19 rfl ?_
    refine st_if_ge (tgt := 27) dX5_solve_21 (by decide) (fun c => ?_) (fun c => ?_)
    · replace w := w.1 c
      refine st_iload_n dX5_solve_27 rfl ?_
      refine st_if_ne (tgt := 41) dX5_solve_28 (by decide) (fun c => ?_) (fun c => ?_)
      · replace w := w.1 c
        refine st_aload_n dX5_solve_41 rfl ?_
        refine st_getF (q := 19) fl_X5_18 fk_5_3 rfl dX5_solve_42 sh_16 ?_
        refine st_iload dX5_solve_45 rfl ?_
        have hc5 := w.1
        replace w := w.2
        refine st_iald dX5_solve_47 sh_19 hc5 ?_
        exact st_ireturn rfl rfl dX5_solve_48 w
      · replace w := w.2 c
        refine st_aload_n dX5_solve_31 rfl ?_
        refine st_getF (q := 18) fl_X5_15 fk_5_2 rfl dX5_solve_32 sh_16 ?_
        refine st_iload dX5_solve_35 rfl ?_
        have hc6 := w.1
        replace w := w.2
        refine st_iald dX5_solve_37 sh_18 hc6 ?_
        refine st_goto (tgt := 48) dX5_solve_38 (by decide) ?_
        exact st_ireturn rfl rfl dX5_solve_48 w
    · replace w := w.2 c
      refine st_bipush (v := (-2)) dX5_solve_24 (by decide) ?_
      exact st_ireturn rfl rfl dX5_solve_26 w
  · replace w := w.2 c
    refine st_bipush (v := (-3)) dX5_solve_8 (by decide) ?_
    exact st_ireturn rfl rfl dX5_solve_10 w
set_option maxRecDepth 20000 in
set_option maxHeartbeats 2000000 in
theorem sX10_secret_0 {d : Nat} {h : am_H} {Z : Int32 → am_H → Prop} {x1 : Int32} {x2 : Int32} {x3 : Int32} (hd : 2 ≤ d) (w : (¬ ((2 : Int32) ≤ x1 ∧ x1 ≤ (8 : Int32)) → Ru mX10_secret none d 34 [.ref 0, .int x1, .int x2, .int x3, .null, .null] [] h Z) ∧ ((2 : Int32) ≤ x1 ∧ x1 ≤ (8 : Int32) → (¬ ((0 : Int32) ≤ x2 ∧ x2 ≤ (x1 - 1)) → Ru mX10_secret none d 34 [.ref 0, .int x1, .int x2, .int x3, .null, .null] [] h Z) ∧ ((0 : Int32) ≤ x2 ∧ x2 ≤ (x1 - 1) → (¬ ((0 : Int32) ≤ x3 ∧ x3 ≤ (1 : Int32)) → Ru mX10_secret none d 34 [.ref 0, .int x1, .int x2, .int x3, .null, .null] [] h Z) ∧ ((0 : Int32) ≤ x3 ∧ x3 ≤ (1 : Int32) → Ru mX10_secret none d 35 [.ref 0, .int x1, .int x2, .int x3, .null, .null] [.int 1] h Z)))) : Ru mX10_secret none d 0 [.ref 0, .int x1, .int x2, .int x3, .null, .null] [] h Z := by
  refine st_iload_n dX10_secret_0 rfl ?_
  refine st_iconst (v := 2) dX10_secret_1 (by decide) ?_
  refine st_bipush (v := 8) dX10_secret_2 (by decide) ?_
  refine st_callS (M' := mX10_isFromTo) [.int x1, .int 2, .int 8] [] dX10_secret_4 ml_X10_135 mf_X10_isFromTo ms_X10_isFromTo rfl rfl rfl (K := fun r h' => (am_b ((2 : Int32) ≤ x1 ∧ x1 ≤ (8 : Int32))) = r ∧ h = h') ⟨1, by omega, iX10_isFromTo ⟨rfl, rfl⟩⟩ (fun r1 h1 w1 => ?_)
  obtain ⟨rfl, rfl⟩ := w1
  show Ru mX10_secret none d 7 [.ref 0, .int x1, .int x2, .int x3, .null, .null] [.int (am_b ((2 : Int32) ≤ x1 ∧ x1 ≤ (8 : Int32)))] h Z
  refine st_ifb_eq (tgt := 34) dX10_secret_7 (by decide) (fun c => ?_) (fun c => ?_)
  · replace w := w.1 c
    exact w
  · replace w := w.2 c
    refine st_iload_n dX10_secret_10 rfl ?_
    refine st_iconst (v := 0) dX10_secret_11 (by decide) ?_
    refine st_iload_n dX10_secret_12 rfl ?_
    refine st_iconst (v := 1) dX10_secret_13 (by decide) ?_
    refine st_isub dX10_secret_14 ?_
    refine st_callS (M' := mX10_isFromTo) [.int x2, .int 0, .int (x1 - 1)] [] dX10_secret_15 ml_X10_135 mf_X10_isFromTo ms_X10_isFromTo rfl rfl rfl (K := fun r h' => (am_b ((0 : Int32) ≤ x2 ∧ x2 ≤ (x1 - 1))) = r ∧ h = h') ⟨1, by omega, iX10_isFromTo ⟨rfl, rfl⟩⟩ (fun r1 h1 w1 => ?_)
    obtain ⟨rfl, rfl⟩ := w1
    show Ru mX10_secret none d 18 [.ref 0, .int x1, .int x2, .int x3, .null, .null] [.int (am_b ((0 : Int32) ≤ x2 ∧ x2 ≤ (x1 - 1)))] h Z
    refine st_ifb_eq (tgt := 34) dX10_secret_18 (by decide) (fun c => ?_) (fun c => ?_)
    · replace w := w.1 c
      exact w
    · replace w := w.2 c
      refine st_iload_n dX10_secret_21 rfl ?_
      refine st_iconst (v := 0) dX10_secret_22 (by decide) ?_
      refine st_iconst (v := 1) dX10_secret_23 (by decide) ?_
      refine st_callS (M' := mX10_isFromTo) [.int x3, .int 0, .int 1] [] dX10_secret_24 ml_X10_135 mf_X10_isFromTo ms_X10_isFromTo rfl rfl rfl (K := fun r h' => (am_b ((0 : Int32) ≤ x3 ∧ x3 ≤ (1 : Int32))) = r ∧ h = h') ⟨1, by omega, iX10_isFromTo ⟨rfl, rfl⟩⟩ (fun r1 h1 w1 => ?_)
      obtain ⟨rfl, rfl⟩ := w1
      show Ru mX10_secret none d 27 [.ref 0, .int x1, .int x2, .int x3, .null, .null] [.int (am_b ((0 : Int32) ≤ x3 ∧ x3 ≤ (1 : Int32)))] h Z
      refine st_ifb_eq (tgt := 34) dX10_secret_27 (by decide) (fun c => ?_) (fun c => ?_)
      · replace w := w.1 c
        exact w
      · replace w := w.2 c
        refine st_iconst (v := 1) dX10_secret_30 (by decide) ?_
        refine st_goto (tgt := 35) dX10_secret_31 (by decide) ?_
        exact w
set_option maxRecDepth 20000 in
set_option maxHeartbeats 2000000 in
theorem sX10_secret_34 {d : Nat} {h : am_H} {Z : Int32 → am_H → Prop} {x1 : Int32} {x2 : Int32} {x3 : Int32} {u4 : Value} {u5 : Value} (w : Ru mX10_secret none d 35 [.ref 0, .int x1, .int x2, .int x3, u4, u5] [.int 0] h Z) : Ru mX10_secret none d 34 [.ref 0, .int x1, .int x2, .int x3, u4, u5] [] h Z := by
  refine st_iconst (v := 0) dX10_secret_34 (by decide) ?_
  exact w
set_option maxRecDepth 20000 in
set_option maxHeartbeats 2000000 in
theorem sX10_secret_35 {d : Nat} {h : am_H} {Z : Int32 → am_H → Prop} {x1 : Int32} {x2 : Int32} {x3 : Int32} {u4 : Value} {u5 : Value} {s0 : Int32} (hd : 2 ≤ d) (w : (s0 = 0 → Z (-1) h) ∧ (¬ (s0 = 0) → ((2 * x1) ≤ h.1 1 1 → am_cl mX5_solve d [.ref 16, .int x1, .int x2, .int x3] h (fun r1 h2 => Z r1 (am_sI h2 1 1 0))) ∧ (¬ ((2 * x1) ≤ h.1 1 1) → Z (-1) h))) : Ru mX10_secret none d 35 [.ref 0, .int x1, .int x2, .int x3, u4, u5] [.int s0] h Z := by
  refine st_istore (L' := [.ref 0, .int x1, .int x2, .int x3, .int s0, u5]) dX10_secret_35 (by decide) rfl ?_
  refine st_iload dX10_secret_37 rfl ?_
  refine st_if_eq (tgt := 55) dX10_secret_39 (by decide) (fun c => ?_) (fun c => ?_)
  · replace w := w.1 c
    refine st_iconst (v := (-1)) dX10_secret_55 (by decide) ?_
    exact st_ireturn rfl rfl dX10_secret_56 w
  · replace w := w.2 c
    refine st_aload_n dX10_secret_42 rfl ?_
    refine st_getF (q := 1) fl_X10_10 fk_10_0 rfl dX10_secret_43 sh_0 ?_
    refine st_iconst (v := 2) dX10_secret_46 (by decide) ?_
    refine st_iload_n dX10_secret_47 rfl ?_
    refine st_imul dX10_secret_48 ?_
    refine st_callV (M' := mX9_holds) [.int (2 * x1)] [] dX10_secret_49 ml_X10_139 mf_X9_holds mv_X9_holds sh_1 rfl rfl rfl (K := fun r h' => (am_b ((2 * x1) ≤ h.1 1 1)) = r ∧ h = h') ⟨1, by omega, iX9_holds ⟨rfl, rfl⟩⟩ (fun r1 h1 w1 => ?_)
    obtain ⟨rfl, rfl⟩ := w1
    show Ru mX10_secret none d 52 [.ref 0, .int x1, .int x2, .int x3, .int s0, u5] [.int (am_b ((2 * x1) ≤ h.1 1 1))] h Z
    refine st_ifb_ne (tgt := 57) dX10_secret_52 (by decide) (fun c => ?_) (fun c => ?_)
    · replace w := w.1 c
      refine st_aload_n dX10_secret_57 rfl ?_
      refine st_getF (q := 16) fl_X10_58 fk_10_7 rfl dX10_secret_58 sh_0 ?_
      refine st_iload_n dX10_secret_61 rfl ?_
      refine st_iload_n dX10_secret_62 rfl ?_
      refine st_iload_n dX10_secret_63 rfl ?_
      refine st_callV (M' := mX5_solve) [.int x1, .int x2, .int x3] [] dX10_secret_64 ml_X10_227 mf_X5_solve mv_X5_solve sh_16 rfl rfl rfl w (fun r1 h2 w => ?_)
      show Ru mX10_secret none d 67 [.ref 0, .int x1, .int x2, .int x3, .int s0, u5] [.int r1] h2 Z
      refine st_istore (L' := [.ref 0, .int x1, .int x2, .int x3, .int s0, .int r1]) dX10_secret_67 (by decide) rfl ?_
      refine st_aload_n dX10_secret_69 rfl ?_
      refine st_getF (q := 1) fl_X10_10 fk_10_0 rfl dX10_secret_70 sh_0 ?_
      refine st_callV (M' := mX9_clear) [] [] dX10_secret_73 ml_X10_146 mf_X9_clear mv_X9_clear sh_1 rfl rfl rfl (K := fun r h' => 0 = r ∧ am_sI h2 1 1 0 = h') ⟨1, by omega, iX9_clear ⟨rfl, rfl⟩⟩ (fun r1 h1 w1 => ?_)
      obtain ⟨rfl, rfl⟩ := w1
      show Ru mX10_secret none d 76 [.ref 0, .int x1, .int x2, .int x3, .int s0, .int r1] [] (am_sI h2 1 1 0) Z
      refine st_iload dX10_secret_76 rfl ?_
      exact st_ireturn rfl rfl dX10_secret_78 w
    · replace w := w.2 c
      refine st_iconst (v := (-1)) dX10_secret_55 (by decide) ?_
      exact st_ireturn rfl rfl dX10_secret_56 w
set_option maxRecDepth 20000 in
set_option maxHeartbeats 2000000 in
theorem sX11_secret_0 {d : Nat} {h : am_H} {Z : Int32 → am_H → Prop} {x1 : Int32} {x2 : Int32} {x3 : Int32} (hd : 2 ≤ d) (w : (¬ ((2 : Int32) ≤ x1 ∧ x1 ≤ (8 : Int32)) → Z (-1) h) ∧ ((2 : Int32) ≤ x1 ∧ x1 ≤ (8 : Int32) → (¬ ((0 : Int32) ≤ x2 ∧ x2 ≤ (x1 - 1)) → Z (-1) h) ∧ ((0 : Int32) ≤ x2 ∧ x2 ≤ (x1 - 1) → (¬ ((0 : Int32) ≤ x3 ∧ x3 ≤ (1 : Int32)) → Z (-1) h) ∧ ((0 : Int32) ≤ x3 ∧ x3 ≤ (1 : Int32) → ((2 * x1) ≤ (h.1 73 9) → (∀ h1 : am_H, h1 = am_sI h 73 9 0 → (Ru mX11_secret none d 50 [.ref 73, .int x1, .int x2, .int x3, .int 0, .null] [] h1 Z))) ∧ (¬ ((2 * x1) ≤ (h.1 73 9)) → Z (-1) h))))) : Ru mX11_secret none d 0 [.ref 73, .int x1, .int x2, .int x3, .null, .null] [] h Z := by
  refine st_iload_n dX11_secret_0 rfl ?_
  refine st_iconst (v := 2) dX11_secret_1 (by decide) ?_
  refine st_bipush (v := 8) dX11_secret_2 (by decide) ?_
  refine st_callS (M' := mX11_in) [.int x1, .int 2, .int 8] [] dX11_secret_4 ml_X11_125 mf_X11_in ms_X11_in rfl rfl rfl (K := fun r h' => (am_b ((2 : Int32) ≤ x1 ∧ x1 ≤ (8 : Int32))) = r ∧ h = h') ⟨1, by omega, iX11_in ⟨rfl, rfl⟩⟩ (fun r1 h1 w1 => ?_)
  obtain ⟨rfl, rfl⟩ := w1
  show Ru mX11_secret none d 7 [.ref 73, .int x1, .int x2, .int x3, .null, .null] [.int (am_b ((2 : Int32) ≤ x1 ∧ x1 ≤ (8 : Int32)))] h Z
  refine st_ifb_eq (tgt := 40) dX11_secret_7 (by decide) (fun c => ?_) (fun c => ?_)
  · replace w := w.1 c
    refine st_iconst (v := (-1)) dX11_secret_40 (by decide) ?_
    exact st_ireturn rfl rfl dX11_secret_41 w
  · replace w := w.2 c
    refine st_iload_n dX11_secret_10 rfl ?_
    refine st_iconst (v := 0) dX11_secret_11 (by decide) ?_
    refine st_iload_n dX11_secret_12 rfl ?_
    refine st_iconst (v := 1) dX11_secret_13 (by decide) ?_
    refine st_isub dX11_secret_14 ?_
    refine st_callS (M' := mX11_in) [.int x2, .int 0, .int (x1 - 1)] [] dX11_secret_15 ml_X11_125 mf_X11_in ms_X11_in rfl rfl rfl (K := fun r h' => (am_b ((0 : Int32) ≤ x2 ∧ x2 ≤ (x1 - 1))) = r ∧ h = h') ⟨1, by omega, iX11_in ⟨rfl, rfl⟩⟩ (fun r1 h1 w1 => ?_)
    obtain ⟨rfl, rfl⟩ := w1
    show Ru mX11_secret none d 18 [.ref 73, .int x1, .int x2, .int x3, .null, .null] [.int (am_b ((0 : Int32) ≤ x2 ∧ x2 ≤ (x1 - 1)))] h Z
    refine st_ifb_eq (tgt := 40) dX11_secret_18 (by decide) (fun c => ?_) (fun c => ?_)
    · replace w := w.1 c
      refine st_iconst (v := (-1)) dX11_secret_40 (by decide) ?_
      exact st_ireturn rfl rfl dX11_secret_41 w
    · replace w := w.2 c
      refine st_iload_n dX11_secret_21 rfl ?_
      refine st_iconst (v := 0) dX11_secret_22 (by decide) ?_
      refine st_iconst (v := 1) dX11_secret_23 (by decide) ?_
      refine st_callS (M' := mX11_in) [.int x3, .int 0, .int 1] [] dX11_secret_24 ml_X11_125 mf_X11_in ms_X11_in rfl rfl rfl (K := fun r h' => (am_b ((0 : Int32) ≤ x3 ∧ x3 ≤ (1 : Int32))) = r ∧ h = h') ⟨1, by omega, iX11_in ⟨rfl, rfl⟩⟩ (fun r1 h1 w1 => ?_)
      obtain ⟨rfl, rfl⟩ := w1
      show Ru mX11_secret none d 27 [.ref 73, .int x1, .int x2, .int x3, .null, .null] [.int (am_b ((0 : Int32) ≤ x3 ∧ x3 ≤ (1 : Int32)))] h Z
      refine st_ifb_eq (tgt := 40) dX11_secret_27 (by decide) (fun c => ?_) (fun c => ?_)
      · replace w := w.1 c
        refine st_iconst (v := (-1)) dX11_secret_40 (by decide) ?_
        exact st_ireturn rfl rfl dX11_secret_41 w
      · replace w := w.2 c
        refine st_iconst (v := 2) dX11_secret_30 (by decide) ?_
        refine st_iload_n dX11_secret_31 rfl ?_
        refine st_imul dX11_secret_32 ?_
        refine st_aload_n dX11_secret_33 rfl ?_
        refine st_getI fl_X11_158 fk_11_9 dX11_secret_34 sh_73 ?_
        refine st_icmp_le (tgt := 42) dX11_secret_37 (by decide) (fun c => ?_) (fun c => ?_)
        · replace w := w.1 c
          refine st_aload_n dX11_secret_42 rfl ?_
          refine st_iconst (v := 0) dX11_secret_43 (by decide) ?_
          refine st_putI flp_X11_158 fk_11_9 dX11_secret_44 sh_73 (fun h1 eh1 => ?_)
          replace w := w h1 eh1
          refine st_iconst (v := 0) dX11_secret_47 (by decide) ?_
          refine st_istore (L' := [.ref 73, .int x1, .int x2, .int x3, .int 0, .null]) dX11_secret_48 (by decide) rfl ?_
          exact w
        · replace w := w.2 c
          refine st_iconst (v := (-1)) dX11_secret_40 (by decide) ?_
          exact st_ireturn rfl rfl dX11_secret_41 w
set_option maxRecDepth 20000 in
set_option maxHeartbeats 2000000 in
theorem sX11_secret_50 {d : Nat} {h : am_H} {Z : Int32 → am_H → Prop} {x1 : Int32} {x2 : Int32} {x3 : Int32} {x4 : Int32} {u5 : Value} (hd : 2 ≤ d) (w : (x1 ≤ x4 → am_cl mX11_laysMoves d [.ref 73, .int x1, .int x2] h (fun r1 h2 => (¬ (h2.2.2 105 0) = (-1) → (¬ x3 = 0 → Ru mX11_secret none d 136 [.ref 73, .int x1, .int x2, .int x3, .int 0, u5] [] h2 Z) ∧ (x3 = 0 → Z (h2.2.2 105 0) h2)) ∧ ((h2.2.2 105 0) = (-1) → Z (-2) h2))) ∧ (¬ (x1 ≤ x4) → (vp_in (2 * x4) 260 ∧ (vp_in ((2 * x4) + 1) 260 ∧ ((¬ (((h.2.2 80 (2 * x4).toNatClampNeg &&& 255) ||| (h.2.2 80 ((2 * x4) + 1).toNatClampNeg &&& 255)) >>> (x1 &&& 31)) = 0 → Z (-3) h) ∧ ((((h.2.2 80 (2 * x4).toNatClampNeg &&& 255) ||| (h.2.2 80 ((2 * x4) + 1).toNatClampNeg &&& 255)) >>> (x1 &&& 31)) = 0 → (¬ (am_has ((h.2.2 80 (2 * x4).toNatClampNeg &&& 255) ||| (h.2.2 80 ((2 * x4) + 1).toNatClampNeg &&& 255)) x4) → Ru mX11_secret none d 50 [.ref 73, .int x1, .int x2, .int x3, .int (x4 + 1), .int ((h.2.2 80 (2 * x4).toNatClampNeg &&& 255) ||| (h.2.2 80 ((2 * x4) + 1).toNatClampNeg &&& 255))] [] h Z) ∧ (am_has ((h.2.2 80 (2 * x4).toNatClampNeg &&& 255) ||| (h.2.2 80 ((2 * x4) + 1).toNatClampNeg &&& 255)) x4 → Z (-3) h))))))) : Ru mX11_secret none d 50 [.ref 73, .int x1, .int x2, .int x3, .int x4, u5] [] h Z := by
  refine st_iload dX11_secret_50 rfl ?_
  refine st_iload_n dX11_secret_52 rfl ?_
  refine st_icmp_ge (tgt := 103) dX11_secret_53 (by decide) (fun c => ?_) (fun c => ?_)
  · replace w := w.1 c
    refine st_aload_n dX11_secret_103 rfl ?_
    refine st_iload_n dX11_secret_104 rfl ?_
    refine st_iload_n dX11_secret_105 rfl ?_
    refine st_callV (M' := mX11_laysMoves) [.int x1, .int x2] [] dX11_secret_106 ml_X11_394 mf_X11_laysMoves mv_X11_laysMoves sh_73 rfl rfl rfl w (fun r1 h2 w => ?_)
    show Ru mX11_secret none d 109 [.ref 73, .int x1, .int x2, .int x3, .int x4, u5] [] h2 Z
    refine st_aload_n dX11_secret_109 rfl ?_
    refine st_getF (q := 105) fl_X11_104 fk_11_53 rfl dX11_secret_110 sh_73 ?_
    refine st_iconst (v := 0) dX11_secret_113 (by decide) ?_
    refine st_iald dX11_secret_114 sh_105 (by unfold vp_in; decide +kernel) ?_
    show Ru mX11_secret none d 115 [.ref 73, .int x1, .int x2, .int x3, .int x4, u5] [.int (h2.2.2 105 0)] h2 Z
    refine st_iconst (v := (-1)) dX11_secret_115 (by decide) ?_
    refine st_icmp_ne (tgt := 122) dX11_secret_116 (by decide) (fun c => ?_) (fun c => ?_)
    · replace w := w.1 c
      refine st_iload_n dX11_secret_122 rfl ?_
      refine st_if_ne (tgt := 133) dX11_secret_123 (by decide) (fun c => ?_) (fun c => ?_)
      · replace w := w.1 c
        refine st_iconst (v := 0) dX11_secret_133 (by decide) ?_
        refine st_istore (L' := [.ref 73, .int x1, .int x2, .int x3, .int 0, u5]) dX11_secret_134 (by decide) rfl ?_
        exact w
      · replace w := w.2 c
        refine st_aload_n dX11_secret_126 rfl ?_
        refine st_getF (q := 105) fl_X11_104 fk_11_53 rfl dX11_secret_127 sh_73 ?_
        refine st_iconst (v := 0) dX11_secret_130 (by decide) ?_
        refine st_iald dX11_secret_131 sh_105 (by unfold vp_in; decide +kernel) ?_
        show Ru mX11_secret none d 132 [.ref 73, .int x1, .int x2, .int x3, .int x4, u5] [.int (h2.2.2 105 0)] h2 Z
        exact st_ireturn rfl rfl dX11_secret_132 w
    · replace w := w.2 c
      refine st_bipush (v := (-2)) dX11_secret_119 (by decide) ?_
      exact st_ireturn rfl rfl dX11_secret_121 w
  · replace w := w.2 c
    refine st_aload_n dX11_secret_56 rfl ?_
    refine st_iconst (v := 2) dX11_secret_57 (by decide) ?_
    refine st_iload dX11_secret_58 rfl ?_
    refine st_imul dX11_secret_60 ?_
    have hc3 := w.1
    replace w := w.2
    refine st_callV (M' := mX11_octet) [.int (2 * x4)] [] dX11_secret_61 ml_X11_388 mf_X11_octet mv_X11_octet sh_73 rfl rfl rfl (K := fun r h' => (h.2.2 80 (2 * x4).toNatClampNeg &&& 255) = r ∧ h = h') ⟨1, by omega, iX11_octet hc3 ⟨rfl, rfl⟩⟩ (fun r1 h1 w1 => ?_)
    obtain ⟨rfl, rfl⟩ := w1
    show Ru mX11_secret none d 64 [.ref 73, .int x1, .int x2, .int x3, .int x4, u5] [.int (h.2.2 80 (2 * x4).toNatClampNeg &&& 255)] h Z
    refine st_aload_n dX11_secret_64 rfl ?_
    refine st_iconst (v := 2) dX11_secret_65 (by decide) ?_
    refine st_iload dX11_secret_66 rfl ?_
    refine st_imul dX11_secret_68 ?_
    refine st_iconst (v := 1) dX11_secret_69 (by decide) ?_
    refine st_iadd dX11_secret_70 ?_
    have hc4 := w.1
    replace w := w.2
    refine st_callV (M' := mX11_octet) [.int ((2 * x4) + 1)] [.int (h.2.2 80 (2 * x4).toNatClampNeg &&& 255)] dX11_secret_71 ml_X11_388 mf_X11_octet mv_X11_octet sh_73 rfl rfl rfl (K := fun r h' => (h.2.2 80 ((2 * x4) + 1).toNatClampNeg &&& 255) = r ∧ h = h') ⟨1, by omega, iX11_octet hc4 ⟨rfl, rfl⟩⟩ (fun r1 h1 w1 => ?_)
    obtain ⟨rfl, rfl⟩ := w1
    show Ru mX11_secret none d 74 [.ref 73, .int x1, .int x2, .int x3, .int x4, u5] [.int (h.2.2 80 ((2 * x4) + 1).toNatClampNeg &&& 255), .int (h.2.2 80 (2 * x4).toNatClampNeg &&& 255)] h Z
    refine st_ior dX11_secret_74 ?_
    refine st_istore (L' := [.ref 73, .int x1, .int x2, .int x3, .int x4, .int ((h.2.2 80 (2 * x4).toNatClampNeg &&& 255) ||| (h.2.2 80 ((2 * x4) + 1).toNatClampNeg &&& 255))]) dX11_secret_75 (by decide) rfl ?_
    refine st_iload dX11_secret_77 rfl ?_
    refine st_iload_n dX11_secret_79 rfl ?_
    refine st_ishr dX11_secret_80 ?_
    refine st_if_ne (tgt := 94) dX11_secret_81 (by decide) (fun c => ?_) (fun c => ?_)
    · replace w := w.1 c
      refine st_bipush (v := (-3)) dX11_secret_94 (by decide) ?_
      exact st_ireturn rfl rfl dX11_secret_96 w
    · replace w := w.2 c
      refine st_iload dX11_secret_84 rfl ?_
      refine st_iload dX11_secret_86 rfl ?_
      refine st_callS (M' := mX11_has) [.int ((h.2.2 80 (2 * x4).toNatClampNeg &&& 255) ||| (h.2.2 80 ((2 * x4) + 1).toNatClampNeg &&& 255)), .int x4] [] dX11_secret_88 ml_X11_133 mf_X11_has ms_X11_has rfl rfl rfl (K := fun r h' => (am_b (am_has ((h.2.2 80 (2 * x4).toNatClampNeg &&& 255) ||| (h.2.2 80 ((2 * x4) + 1).toNatClampNeg &&& 255)) x4)) = r ∧ h = h') ⟨1, by omega, iX11_has ⟨rfl, rfl⟩⟩ (fun r1 h1 w1 => ?_)
      obtain ⟨rfl, rfl⟩ := w1
      show Ru mX11_secret none d 91 [.ref 73, .int x1, .int x2, .int x3, .int x4, .int ((h.2.2 80 (2 * x4).toNatClampNeg &&& 255) ||| (h.2.2 80 ((2 * x4) + 1).toNatClampNeg &&& 255))] [.int (am_b (am_has ((h.2.2 80 (2 * x4).toNatClampNeg &&& 255) ||| (h.2.2 80 ((2 * x4) + 1).toNatClampNeg &&& 255)) x4))] h Z
      refine st_ifb_eq (tgt := 97) dX11_secret_91 (by decide) (fun c => ?_) (fun c => ?_)
      · replace w := w.1 c
        refine st_iinc (L' := [.ref 73, .int x1, .int x2, .int x3, .int (x4 + 1), .int ((h.2.2 80 (2 * x4).toNatClampNeg &&& 255) ||| (h.2.2 80 ((2 * x4) + 1).toNatClampNeg &&& 255))]) dX11_secret_97 rfl rfl (by decide) rfl ?_
        refine st_goto (tgt := 50) dX11_secret_100 (by decide) ?_
        exact w
      · replace w := w.2 c
        refine st_bipush (v := (-3)) dX11_secret_94 (by decide) ?_
        exact st_ireturn rfl rfl dX11_secret_96 w
set_option maxRecDepth 20000 in
set_option maxHeartbeats 2000000 in
theorem sX11_secret_136 {d : Nat} {h : am_H} {Z : Int32 → am_H → Prop} {u1 : Value} {u2 : Value} {u3 : Value} {x4 : Int32} {u5 : Value} (w : am_cl mX11_canMove d [.ref 73, .int 0, .int x4] h (fun r1 h2 => (r1 = 0 → Ru mX11_secret none d 136 [.ref 73, u1, u2, u3, .int (x4 + 1), u5] [] h2 Z) ∧ (¬ (r1 = 0) → (vp_in (1 <<< (x4 &&& 31)) 256 ∧ (((h2.2.2 105 (1 <<< (x4 &&& 31)).toNatClampNeg) = ((h2.2.2 105 0) - 1) → Z x4 h2) ∧ (¬ ((h2.2.2 105 (1 <<< (x4 &&& 31)).toNatClampNeg) = ((h2.2.2 105 0) - 1)) → Ru mX11_secret none d 136 [.ref 73, u1, u2, u3, .int (x4 + 1), u5] [] h2 Z)))))) : Ru mX11_secret none d 136 [.ref 73, u1, u2, u3, .int x4, u5] [] h Z := by
  refine st_aload_n dX11_secret_136 rfl ?_
  refine st_iconst (v := 0) dX11_secret_137 (by decide) ?_
  refine st_iload dX11_secret_138 rfl ?_
  refine st_callV (M' := mX11_canMove) [.int 0, .int x4] [] dX11_secret_140 ml_X11_391 mf_X11_canMove mv_X11_canMove sh_73 rfl rfl rfl w (fun r1 h2 w => ?_)
  show Ru mX11_secret none d 143 [.ref 73, u1, u2, u3, .int x4, u5] [.int r1] h2 Z
  refine st_if_eq (tgt := 166) dX11_secret_143 (by decide) (fun c => ?_) (fun c => ?_)
  · replace w := w.1 c
    refine st_iload dX11_secret_166 rfl ?_
    refine st_iconst (v := 1) dX11_secret_168 (by decide) ?_
    refine st_iadd dX11_secret_169 ?_
    refine st_istore (L' := [.ref 73, u1, u2, u3, .int (x4 + 1), u5]) dX11_secret_170 (by decide) rfl ?_
    refine st_goto (tgt := 136) dX11_secret_172 (by decide) ?_
    exact w
  · replace w := w.2 c
    refine st_aload_n dX11_secret_146 rfl ?_
    refine st_getF (q := 105) fl_X11_104 fk_11_53 rfl dX11_secret_147 sh_73 ?_
    refine st_iconst (v := 1) dX11_secret_150 (by decide) ?_
    refine st_iload dX11_secret_151 rfl ?_
    refine st_ishl dX11_secret_153 ?_
    have hc3 := w.1
    replace w := w.2
    refine st_iald dX11_secret_154 sh_105 hc3 ?_
    refine st_aload_n dX11_secret_155 rfl ?_
    refine st_getF (q := 105) fl_X11_104 fk_11_53 rfl dX11_secret_156 sh_73 ?_
    refine st_iconst (v := 0) dX11_secret_159 (by decide) ?_
    refine st_iald dX11_secret_160 sh_105 (by unfold vp_in; decide +kernel) ?_
    show Ru mX11_secret none d 161 [.ref 73, u1, u2, u3, .int x4, u5] [.int (h2.2.2 105 0), .int (h2.2.2 105 (1 <<< (x4 &&& 31)).toNatClampNeg)] h2 Z
    refine st_iconst (v := 1) dX11_secret_161 (by decide) ?_
    refine st_isub dX11_secret_162 ?_
    refine st_icmp_eq (tgt := 175) dX11_secret_163 (by decide) (fun c => ?_) (fun c => ?_)
    · replace w := w.1 c
      refine st_iload dX11_secret_175 rfl ?_
      exact st_ireturn rfl rfl dX11_secret_177 w
    · replace w := w.2 c
      refine st_iload dX11_secret_166 rfl ?_
      refine st_iconst (v := 1) dX11_secret_168 (by decide) ?_
      refine st_iadd dX11_secret_169 ?_
      refine st_istore (L' := [.ref 73, u1, u2, u3, .int (x4 + 1), u5]) dX11_secret_170 (by decide) rfl ?_
      refine st_goto (tgt := 136) dX11_secret_172 (by decide) ?_
      exact w
set_option maxRecDepth 20000 in
set_option maxHeartbeats 2000000 in
theorem sX11_laysMoves_0 {d : Nat} {h : am_H} {Z : Int32 → am_H → Prop} {x1 : Int32} {x2 : Int32} (w : Ru mX11_laysMoves none d 5 [.ref 73, .int x1, .int x2, .int 0, .int 0, .null, .null] [] h Z) : Ru mX11_laysMoves none d 0 [.ref 73, .int x1, .int x2, .null, .null, .null, .null] [] h Z := by
  refine st_iconst (v := 0) dX11_laysMoves_0 (by decide) ?_
  refine st_istore_n (L' := [.ref 73, .int x1, .int x2, .int 0, .null, .null, .null]) dX11_laysMoves_1 (by decide) rfl ?_
  refine st_iconst (v := 0) dX11_laysMoves_2 (by decide) ?_
  refine st_istore (L' := [.ref 73, .int x1, .int x2, .int 0, .int 0, .null, .null]) dX11_laysMoves_3 (by decide) rfl ?_
  exact w
set_option maxRecDepth 20000 in
set_option maxHeartbeats 2000000 in
theorem sX11_laysMoves_5 {d : Nat} {h : am_H} {Z : Int32 → am_H → Prop} {x1 : Int32} {x2 : Int32} {x3 : Int32} {x4 : Int32} {u5 : Value} {u6 : Value} (hd : 2 ≤ d) (w : ((1 <<< (x1 &&& 31)) ≤ x4 → Ru mX11_laysMoves none d 67 [.ref 73, .int x1, .int x2, .int x3, .int 0, u5, u6] [] h Z) ∧ (¬ ((1 <<< (x1 &&& 31)) ≤ x4) → (¬ (am_has x4 x2) → Ru mX11_laysMoves none d 33 [.ref 73, .int x1, .int x2, .int x3, .int x4, u5, u6] [.int (-1), .int x4, .ref 105] h Z) ∧ (am_has x4 x2 → Ru mX11_laysMoves none d 33 [.ref 73, .int x1, .int x2, .int x3, .int x4, u5, u6] [.int 0, .int x4, .ref 105] h Z))) : Ru mX11_laysMoves none d 5 [.ref 73, .int x1, .int x2, .int x3, .int x4, u5, u6] [] h Z := by
  refine st_iload dX11_laysMoves_5 rfl ?_
  refine st_iconst (v := 1) dX11_laysMoves_7 (by decide) ?_
  refine st_iload_n dX11_laysMoves_8 rfl ?_
  refine st_ishl dX11_laysMoves_9 ?_
  refine st_icmp_ge (tgt := 64) dX11_laysMoves_10 (by decide) (fun c => ?_) (fun c => ?_)
  · replace w := w.1 c
    refine st_iconst (v := 0) dX11_laysMoves_64 (by decide) ?_
    refine st_istore (L' := [.ref 73, .int x1, .int x2, .int x3, .int 0, u5, u6]) dX11_laysMoves_65 (by decide) rfl ?_
    exact w
  · replace w := w.2 c
    refine st_aload_n dX11_laysMoves_13 rfl ?_
    refine st_getF (q := 105) fl_X11_104 fk_11_53 rfl dX11_laysMoves_14 sh_73 ?_
    refine st_iload dX11_laysMoves_17 rfl ?_
    refine st_iload dX11_laysMoves_19 rfl ?_
    refine st_iload_n dX11_laysMoves_21 rfl ?_
    refine st_callS (M' := mX11_has) [.int x4, .int x2] [.int x4, .ref 105] dX11_laysMoves_22 ml_X11_133 mf_X11_has ms_X11_has rfl rfl rfl (K := fun r h' => (am_b (am_has x4 x2)) = r ∧ h = h') ⟨1, by omega, iX11_has ⟨rfl, rfl⟩⟩ (fun r1 h1 w1 => ?_)
    obtain ⟨rfl, rfl⟩ := w1
    show Ru mX11_laysMoves none d 25 [.ref 73, .int x1, .int x2, .int x3, .int x4, u5, u6] [.int (am_b (am_has x4 x2)), .int x4, .ref 105] h Z
    refine st_ifb_eq (tgt := 32) dX11_laysMoves_25 (by decide) (fun c => ?_) (fun c => ?_)
    · replace w := w.1 c
      refine st_iconst (v := (-1)) dX11_laysMoves_32 (by decide) ?_
      exact w
    · replace w := w.2 c
      refine st_iconst (v := 0) dX11_laysMoves_28 (by decide) ?_
      refine st_goto (tgt := 33) dX11_laysMoves_29 (by decide) ?_
      exact w
set_option maxRecDepth 20000 in
set_option maxHeartbeats 2000000 in
theorem sX11_laysMoves_67 {d : Nat} {h : am_H} {Z : Int32 → am_H → Prop} {x1 : Int32} {u2 : Value} {x3 : Int32} {x4 : Int32} {u5 : Value} {u6 : Value} (w : (x3 ≤ x4 → Z 0 h) ∧ (¬ (x3 ≤ x4) → Ru mX11_laysMoves none d 76 [.ref 73, .int x1, u2, .int x3, .int x4, .int 0, u6] [] h Z)) : Ru mX11_laysMoves none d 67 [.ref 73, .int x1, u2, .int x3, .int x4, u5, u6] [] h Z := by
  refine st_iload dX11_laysMoves_67 rfl ?_
  refine st_iload_n dX11_laysMoves_69 rfl ?_
  refine st_icmp_ge (tgt := 171) dX11_laysMoves_70 (by decide) (fun c => ?_) (fun c => ?_)
  · replace w := w.1 c
    exact st_return rfl dX11_laysMoves_171 w
  · replace w := w.2 c
    refine st_iconst (v := 0) dX11_laysMoves_73 (by decide) ?_
    refine st_istore (L' := [.ref 73, .int x1, u2, .int x3, .int x4, .int 0, u6]) dX11_laysMoves_74 (by decide) rfl ?_
    exact w
set_option maxRecDepth 20000 in
set_option maxHeartbeats 2000000 in
theorem sX11_laysMoves_33 {d : Nat} {h : am_H} {Z : Int32 → am_H → Prop} {x1 : Int32} {x2 : Int32} {x3 : Int32} {x4 : Int32} {u5 : Value} {u6 : Value} {s0 : Int32} {s1 : Int32} (hd : 2 ≤ d) (w : (vp_in s1 256 ∧ (∀ h2 : am_H, h2 = am_sR h 105 (upd (h.2.2 105) s1.toNatClampNeg s0) → ((am_has x4 x2 → (vp_in x3 256 ∧ (∀ h4 : am_H, h4 = am_sR h2 106 (upd (h2.2.2 106) x3.toNatClampNeg x4) → (Ru mX11_laysMoves none d 5 [.ref 73, .int x1, .int x2, .int (x3 + 1), .int (x4 + 1), u5, u6] [] h4 Z)))) ∧ (¬ (am_has x4 x2) → Ru mX11_laysMoves none d 5 [.ref 73, .int x1, .int x2, .int x3, .int (x4 + 1), u5, u6] [] h2 Z))))) : Ru mX11_laysMoves none d 33 [.ref 73, .int x1, .int x2, .int x3, .int x4, u5, u6] [.int s0, .int s1, .ref 105] h Z := by
  have hc1 := w.1
  replace w := w.2
  refine st_iast dX11_laysMoves_33 sh_105 hc1 (fun h2 eh2 => ?_)
  replace w := w h2 eh2
  refine st_iload dX11_laysMoves_34 rfl ?_
  refine st_iload_n dX11_laysMoves_36 rfl ?_
  refine st_callS (M' := mX11_has) [.int x4, .int x2] [] dX11_laysMoves_37 ml_X11_133 mf_X11_has ms_X11_has rfl rfl rfl (K := fun r h' => (am_b (am_has x4 x2)) = r ∧ h2 = h') ⟨1, by omega, iX11_has ⟨rfl, rfl⟩⟩ (fun r1 h1 w1 => ?_)
  obtain ⟨rfl, rfl⟩ := w1
  show Ru mX11_laysMoves none d 40 [.ref 73, .int x1, .int x2, .int x3, .int x4, u5, u6] [.int (am_b (am_has x4 x2))] h2 Z
  refine st_ifb_ne (tgt := 46) dX11_laysMoves_40 (by decide) (fun c => ?_) (fun c => ?_)
  · replace w := w.1 c
    refine st_aload_n dX11_laysMoves_46 rfl ?_
    refine st_getF (q := 106) fl_X11_107 fk_11_54 rfl dX11_laysMoves_47 sh_73 ?_
    refine st_iload_n dX11_laysMoves_50 rfl ?_
    refine st_iload dX11_laysMoves_51 rfl ?_
    have hc3 := w.1
    replace w := w.2
    refine st_iast dX11_laysMoves_53 sh_106 hc3 (fun h4 eh4 => ?_)
    replace w := w h4 eh4
    refine st_iload_n dX11_laysMoves_54 rfl ?_
    refine st_iconst (v := 1) dX11_laysMoves_55 (by decide) ?_
    refine st_iadd dX11_laysMoves_56 ?_
    refine st_istore_n (L' := [.ref 73, .int x1, .int x2, .int (x3 + 1), .int x4, u5, u6]) dX11_laysMoves_57 (by decide) rfl ?_
    refine st_iinc (L' := [.ref 73, .int x1, .int x2, .int (x3 + 1), .int (x4 + 1), u5, u6]) dX11_laysMoves_58 rfl rfl (by decide) rfl ?_
    refine st_goto (tgt := 5) dX11_laysMoves_61 (by decide) ?_
    exact w
  · replace w := w.2 c
    refine st_goto (tgt := 58) dX11_laysMoves_43 (by decide) ?_
    refine st_iinc (L' := [.ref 73, .int x1, .int x2, .int x3, .int (x4 + 1), u5, u6]) dX11_laysMoves_58 rfl rfl (by decide) rfl ?_
    refine st_goto (tgt := 5) dX11_laysMoves_61 (by decide) ?_
    exact w
set_option maxRecDepth 20000 in
set_option maxHeartbeats 2000000 in
theorem sX11_laysMoves_76 {d : Nat} {h : am_H} {Z : Int32 → am_H → Prop} {x1 : Int32} {u2 : Value} {x3 : Int32} {x4 : Int32} {x5 : Int32} {u6 : Value} (w : (x1 ≤ x5 → Ru mX11_laysMoves none d 67 [.ref 73, .int x1, u2, .int x3, .int (x4 + 1), .int x5, u6] [] h Z) ∧ (¬ (x1 ≤ x5) → (vp_in x4 256 ∧ (am_cl mX11_canMove d [.ref 73, .int (h.2.2 106 x4.toNatClampNeg), .int x5] h (fun r2 h3 => (r2 = 0 → Ru mX11_laysMoves none d 76 [.ref 73, .int x1, u2, .int x3, .int x4, .int (x5 + 1), .int ((h.2.2 106 x4.toNatClampNeg) ^^^ (1 <<< (x5 &&& 31)))] [] h3 Z) ∧ (¬ (r2 = 0) → (vp_in ((h.2.2 106 x4.toNatClampNeg) ^^^ (1 <<< (x5 &&& 31))) 256 ∧ (((h3.2.2 105 ((h.2.2 106 x4.toNatClampNeg) ^^^ (1 <<< (x5 &&& 31))).toNatClampNeg) = (-1 : Int32) → (vp_in (h3.2.2 106 x4.toNatClampNeg) 256 ∧ (∀ h6 : am_H, h6 = am_sR h3 105 (upd (h3.2.2 105) ((h.2.2 106 x4.toNatClampNeg) ^^^ (1 <<< (x5 &&& 31))).toNatClampNeg ((h3.2.2 105 (h3.2.2 106 x4.toNatClampNeg).toNatClampNeg) + 1)) → (vp_in x3 256 ∧ (∀ h8 : am_H, h8 = am_sR h6 106 (upd (h6.2.2 106) x3.toNatClampNeg ((h.2.2 106 x4.toNatClampNeg) ^^^ (1 <<< (x5 &&& 31)))) → (Ru mX11_laysMoves none d 76 [.ref 73, .int x1, u2, .int (x3 + 1), .int x4, .int (x5 + 1), .int ((h.2.2 106 x4.toNatClampNeg) ^^^ (1 <<< (x5 &&& 31)))] [] h8 Z)))))) ∧ (¬ ((h3.2.2 105 ((h.2.2 106 x4.toNatClampNeg) ^^^ (1 <<< (x5 &&& 31))).toNatClampNeg) = (-1 : Int32)) → Ru mX11_laysMoves none d 76 [.ref 73, .int x1, u2, .int x3, .int x4, .int (x5 + 1), .int ((h.2.2 106 x4.toNatClampNeg) ^^^ (1 <<< (x5 &&& 31)))] [] h3 Z))))))))) : Ru mX11_laysMoves none d 76 [.ref 73, .int x1, u2, .int x3, .int x4, .int x5, u6] [] h Z := by
  refine st_iload dX11_laysMoves_76 rfl ?_
  refine st_iload_n dX11_laysMoves_78 rfl ?_
  refine st_icmp_ge (tgt := 165) dX11_laysMoves_79 (by decide) (fun c => ?_) (fun c => ?_)
  · replace w := w.1 c
    refine st_iinc (L' := [.ref 73, .int x1, u2, .int x3, .int (x4 + 1), .int x5, u6]) dX11_laysMoves_165 rfl rfl (by decide) rfl ?_
    refine st_goto (tgt := 67) dX11_laysMoves_168 (by decide) ?_
    exact w
  · replace w := w.2 c
    refine st_aload_n dX11_laysMoves_82 rfl ?_
    refine st_getF (q := 106) fl_X11_107 fk_11_54 rfl dX11_laysMoves_83 sh_73 ?_
    refine st_iload dX11_laysMoves_86 rfl ?_
    have hc1 := w.1
    replace w := w.2
    refine st_iald dX11_laysMoves_88 sh_106 hc1 ?_
    refine st_iconst (v := 1) dX11_laysMoves_89 (by decide) ?_
    refine st_iload dX11_laysMoves_90 rfl ?_
    refine st_ishl dX11_laysMoves_92 ?_
    refine st_ixor dX11_laysMoves_93 ?_
    refine st_istore (L' := [.ref 73, .int x1, u2, .int x3, .int x4, .int x5, .int ((h.2.2 106 x4.toNatClampNeg) ^^^ (1 <<< (x5 &&& 31)))]) dX11_laysMoves_94 (by decide) rfl ?_
    refine st_aload_n dX11_laysMoves_96 rfl ?_
    refine st_aload_n dX11_laysMoves_97 rfl ?_
    refine st_getF (q := 106) fl_X11_107 fk_11_54 rfl dX11_laysMoves_98 sh_73 ?_
    refine st_iload dX11_laysMoves_101 rfl ?_
    refine st_iald dX11_laysMoves_103 sh_106 hc1 ?_
    refine st_iload dX11_laysMoves_104 rfl ?_
    refine st_callV (M' := mX11_canMove) [.int (h.2.2 106 x4.toNatClampNeg), .int x5] [] dX11_laysMoves_106 ml_X11_391 mf_X11_canMove mv_X11_canMove sh_73 rfl rfl rfl w (fun r2 h3 w => ?_)
    show Ru mX11_laysMoves none d 109 [.ref 73, .int x1, u2, .int x3, .int x4, .int x5, .int ((h.2.2 106 x4.toNatClampNeg) ^^^ (1 <<< (x5 &&& 31)))] [.int r2] h3 Z
    refine st_if_eq (tgt := 159) dX11_laysMoves_109 (by decide) (fun c => ?_) (fun c => ?_)
    · replace w := w.1 c
      refine st_iinc (L' := [.ref 73, .int x1, u2, .int x3, .int x4, .int (x5 + 1), .int ((h.2.2 106 x4.toNatClampNeg) ^^^ (1 <<< (x5 &&& 31)))]) dX11_laysMoves_159 rfl rfl (by decide) rfl ?_
      refine st_goto (tgt := 76) dX11_laysMoves_162 (by decide) ?_
      exact w
    · replace w := w.2 c
      refine st_aload_n dX11_laysMoves_112 rfl ?_
      refine st_getF (q := 105) fl_X11_104 fk_11_53 rfl dX11_laysMoves_113 sh_73 ?_
      refine st_iload dX11_laysMoves_116 rfl ?_
      have hc4 := w.1
      replace w := w.2
      refine st_iald dX11_laysMoves_118 sh_105 hc4 ?_
      refine st_iconst (v := (-1)) dX11_laysMoves_119 (by decide) ?_
      refine st_icmp_eq (tgt := 126) dX11_laysMoves_120 (by decide) (fun c => ?_) (fun c => ?_)
      · replace w := w.1 c
        refine st_aload_n dX11_laysMoves_126 rfl ?_
        refine st_getF (q := 105) fl_X11_104 fk_11_53 rfl dX11_laysMoves_127 sh_73 ?_
        refine st_iload dX11_laysMoves_130 rfl ?_
        refine st_aload_n dX11_laysMoves_132 rfl ?_
        refine st_getF (q := 105) fl_X11_104 fk_11_53 rfl dX11_laysMoves_133 sh_73 ?_
        refine st_aload_n dX11_laysMoves_136 rfl ?_
        refine st_getF (q := 106) fl_X11_107 fk_11_54 rfl dX11_laysMoves_137 sh_73 ?_
        refine st_iload dX11_laysMoves_140 rfl ?_
        refine st_iald dX11_laysMoves_142 sh_106 hc1 ?_
        have hc5 := w.1
        replace w := w.2
        refine st_iald dX11_laysMoves_143 sh_105 hc5 ?_
        refine st_iconst (v := 1) dX11_laysMoves_144 (by decide) ?_
        refine st_iadd dX11_laysMoves_145 ?_
        refine st_iast dX11_laysMoves_146 sh_105 hc4 (fun h6 eh6 => ?_)
        replace w := w h6 eh6
        refine st_aload_n dX11_laysMoves_147 rfl ?_
        refine st_getF (q := 106) fl_X11_107 fk_11_54 rfl dX11_laysMoves_148 sh_73 ?_
        refine st_iload_n dX11_laysMoves_151 rfl ?_
        refine st_iload dX11_laysMoves_152 rfl ?_
        have hc7 := w.1
        replace w := w.2
        refine st_iast dX11_laysMoves_154 sh_106 hc7 (fun h8 eh8 => ?_)
        replace w := w h8 eh8
        refine st_iload_n dX11_laysMoves_155 rfl ?_
        refine st_iconst (v := 1) dX11_laysMoves_156 (by decide) ?_
        refine st_iadd dX11_laysMoves_157 ?_
        refine st_istore_n (L' := [.ref 73, .int x1, u2, .int (x3 + 1), .int x4, .int x5, .int ((h.2.2 106 x4.toNatClampNeg) ^^^ (1 <<< (x5 &&& 31)))]) dX11_laysMoves_158 (by decide) rfl ?_
        refine st_iinc (L' := [.ref 73, .int x1, u2, .int (x3 + 1), .int x4, .int (x5 + 1), .int ((h.2.2 106 x4.toNatClampNeg) ^^^ (1 <<< (x5 &&& 31)))]) dX11_laysMoves_159 rfl rfl (by decide) rfl ?_
        refine st_goto (tgt := 76) dX11_laysMoves_162 (by decide) ?_
        exact w
      · replace w := w.2 c
        refine st_goto (tgt := 159) dX11_laysMoves_123 (by decide) ?_
        refine st_iinc (L' := [.ref 73, .int x1, u2, .int x3, .int x4, .int (x5 + 1), .int ((h.2.2 106 x4.toNatClampNeg) ^^^ (1 <<< (x5 &&& 31)))]) dX11_laysMoves_159 rfl rfl (by decide) rfl ?_
        refine st_goto (tgt := 76) dX11_laysMoves_162 (by decide) ?_
        exact w
set_option maxRecDepth 20000 in
set_option maxHeartbeats 2000000 in
theorem sX11_canMove_0 {d : Nat} {h : am_H} {Z : Int32 → am_H → Prop} {x1 : Int32} {x2 : Int32} (hd : 2 ≤ d) (w : (vp_in (2 * x2) 260 ∧ ((¬ ((h.2.2 80 (2 * x2).toNatClampNeg &&& 255) &&& (x1 ^^^ (-1))) = 0 → Z 0 h) ∧ (((h.2.2 80 (2 * x2).toNatClampNeg &&& 255) &&& (x1 ^^^ (-1))) = 0 → (vp_in ((2 * x2) + 1) 260 ∧ ((¬ ((h.2.2 80 ((2 * x2) + 1).toNatClampNeg &&& 255) &&& x1) = 0 → Z 0 h) ∧ (((h.2.2 80 ((2 * x2) + 1).toNatClampNeg &&& 255) &&& x1) = 0 → Z 1 h))))))) : Ru mX11_canMove none d 0 [.ref 73, .int x1, .int x2, .null] [] h Z := by
  refine st_aload_n dX11_canMove_0 rfl ?_
  refine st_iconst (v := 2) dX11_canMove_1 (by decide) ?_
  refine st_iload_n dX11_canMove_2 rfl ?_
  refine st_imul dX11_canMove_3 ?_
  have hc1 := w.1
  replace w := w.2
  refine st_callV (M' := mX11_octet) [.int (2 * x2)] [] dX11_canMove_4 ml_X11_388 mf_X11_octet mv_X11_octet sh_73 rfl rfl rfl (K := fun r h' => (h.2.2 80 (2 * x2).toNatClampNeg &&& 255) = r ∧ h = h') ⟨1, by omega, iX11_octet hc1 ⟨rfl, rfl⟩⟩ (fun r1 h1 w1 => ?_)
  obtain ⟨rfl, rfl⟩ := w1
  show Ru mX11_canMove none d 7 [.ref 73, .int x1, .int x2, .null] [.int (h.2.2 80 (2 * x2).toNatClampNeg &&& 255)] h Z
  refine st_istore_n (L' := [.ref 73, .int x1, .int x2, .int (h.2.2 80 (2 * x2).toNatClampNeg &&& 255)]) dX11_canMove_7 (by decide) rfl ?_
  refine st_iload_n dX11_canMove_8 rfl ?_
  refine st_iload_n dX11_canMove_9 rfl ?_
  refine st_iconst (v := (-1)) dX11_canMove_10 (by decide) ?_
  refine st_ixor dX11_canMove_11 ?_
  refine st_iand dX11_canMove_12 ?_
  refine st_if_ne (tgt := 34) dX11_canMove_13 (by decide) (fun c => ?_) (fun c => ?_)
  · replace w := w.1 c
    refine st_iconst (v := 0) dX11_canMove_34 (by decide) ?_
    exact st_ireturn rfl rfl dX11_canMove_35 w
  · replace w := w.2 c
    refine st_aload_n dX11_canMove_16 rfl ?_
    refine st_iconst (v := 2) dX11_canMove_17 (by decide) ?_
    refine st_iload_n dX11_canMove_18 rfl ?_
    refine st_imul dX11_canMove_19 ?_
    refine st_iconst (v := 1) dX11_canMove_20 (by decide) ?_
    refine st_iadd dX11_canMove_21 ?_
    have hc2 := w.1
    replace w := w.2
    refine st_callV (M' := mX11_octet) [.int ((2 * x2) + 1)] [] dX11_canMove_22 ml_X11_388 mf_X11_octet mv_X11_octet sh_73 rfl rfl rfl (K := fun r h' => (h.2.2 80 ((2 * x2) + 1).toNatClampNeg &&& 255) = r ∧ h = h') ⟨1, by omega, iX11_octet hc2 ⟨rfl, rfl⟩⟩ (fun r1 h1 w1 => ?_)
    obtain ⟨rfl, rfl⟩ := w1
    show Ru mX11_canMove none d 25 [.ref 73, .int x1, .int x2, .int (h.2.2 80 (2 * x2).toNatClampNeg &&& 255)] [.int (h.2.2 80 ((2 * x2) + 1).toNatClampNeg &&& 255)] h Z
    refine st_iload_n dX11_canMove_25 rfl ?_
    refine st_iand dX11_canMove_26 ?_
    refine st_if_ne (tgt := 34) dX11_canMove_27 (by decide) (fun c => ?_) (fun c => ?_)
    · replace w := w.1 c
      refine st_iconst (v := 0) dX11_canMove_34 (by decide) ?_
      exact st_ireturn rfl rfl dX11_canMove_35 w
    · replace w := w.2 c
      refine st_iconst (v := 1) dX11_canMove_30 (by decide) ?_
      refine st_goto (tgt := 35) dX11_canMove_31 (by decide) ?_
      exact st_ireturn rfl rfl dX11_canMove_35 w
def sc_E (t : Nat → Nat) (s p : Nat) : Bool := decide (s &&& t (2 * p) = t (2 * p) ∧ s &&& t (2 * p + 1) = 0)
theorem sc_not (x y : Int32) : x &&& (y ^^^ (-1)) = 0 ↔ y &&& x = x := by
  have e1 : (-1 : Int32).toBitVec = BitVec.allOnes 32 := by decide
  have e0 : ∀ i, (Int32.toBitVec 0).getLsbD i = false := fun i => by
    show (0#32).getLsbD i = false
    simp
  constructor
  · intro h
    apply Int32.toBitVec_inj.1
    have h2 := congrArg Int32.toBitVec h
    rw [Int32.toBitVec_and, Int32.toBitVec_xor, e1] at h2
    rw [Int32.toBitVec_and]
    apply BitVec.eq_of_getLsbD_eq
    intro i hi
    have h3 : (x.toBitVec &&& (y.toBitVec ^^^ BitVec.allOnes 32)).getLsbD i = (Int32.toBitVec 0).getLsbD i := by rw [h2]
    rw [BitVec.getLsbD_and, BitVec.getLsbD_xor, BitVec.getLsbD_allOnes, decide_eq_true hi, e0] at h3
    rw [BitVec.getLsbD_and]
    generalize x.toBitVec.getLsbD i = a at h3 ⊢
    generalize y.toBitVec.getLsbD i = b at h3 ⊢
    cases a <;> cases b <;> first | rfl | cases h3
  · intro h
    apply Int32.toBitVec_inj.1
    have h2 := congrArg Int32.toBitVec h
    rw [Int32.toBitVec_and] at h2
    rw [Int32.toBitVec_and, Int32.toBitVec_xor, e1]
    apply BitVec.eq_of_getLsbD_eq
    intro i hi
    have h3 : (y.toBitVec &&& x.toBitVec).getLsbD i = x.toBitVec.getLsbD i := by rw [h2]
    rw [BitVec.getLsbD_and] at h3
    rw [BitVec.getLsbD_and, BitVec.getLsbD_xor, BitVec.getLsbD_allOnes, decide_eq_true hi, e0]
    generalize x.toBitVec.getLsbD i = a at h3 ⊢
    generalize y.toBitVec.getLsbD i = b at h3 ⊢
    cases a <;> cases b <;> first | rfl | cases h3
section
variable {d : Nat} {h : am_H} {Z : Int32 → am_H → Prop} {t : Nat → Nat} {n : Nat}
theorem iX5_canMove {s p : Nat} (hd : 2 ≤ d) (hs : s < 256) (h1 : am_at h (nI (2 * p)) = nI (t (2 * p))) (h2 : am_at h (nI (2 * p + 1)) = nI (t (2 * p + 1))) (tb : ∀ i, t i < 256) (z : Z (if sc_E t s p = true then 1 else 0) h) : Sp mX5_canMove d [.ref 16, .int (nI s), .int (nI p)] h Z := by
  have b1 := tb (2 * p)
  have b2 := tb (2 * p + 1)
  have l1 : s &&& t (2 * p) < 256 := Nat.lt_of_le_of_lt Nat.and_le_right b1
  have l2 : s &&& t (2 * p + 1) < 256 := Nat.lt_of_le_of_lt Nat.and_le_right b2
  refine Sp_of mf_X5_canMove rfl (Nat.le_of_ble_eq_true rfl) rfl (sX5_canMove_0 hd ?_)
  rw [am_n2, nI_1, h1, h2, fa_and, fa_and, nI_eq (by omega) (by omega), show nI (s &&& t (2 * p + 1)) = 0 ↔ s &&& t (2 * p + 1) = 0 from nI_eq (b := 0) (by omega) (by omega)]
  unfold sc_E at z
  refine ⟨fun c => ?_, fun c => ⟨fun c2 => ?_, fun c2 => ?_⟩⟩
  · rw [if_neg (fun q => c (of_decide_eq_true q).1)] at z; exact z
  · rw [if_neg (fun q => c2 (of_decide_eq_true q).2)] at z; exact z
  · rw [if_pos (decide_eq_true ⟨c, c2⟩)] at z; exact z
theorem iX11_canMove {s p : Nat} (hd : 2 ≤ d) (hs : s < 256) (hp : p < 8) (h1 : h.2.2 80 (2 * p) &&& 255 = nI (t (2 * p))) (h2 : h.2.2 80 (2 * p + 1) &&& 255 = nI (t (2 * p + 1))) (tb : ∀ i, t i < 256) (z : Z (if sc_E t s p = true then 1 else 0) h) : Sp mX11_canMove d [.ref 73, .int (nI s), .int (nI p)] h Z := by
  have b1 := tb (2 * p)
  have b2 := tb (2 * p + 1)
  have l1 : s &&& t (2 * p) < 256 := Nat.lt_of_le_of_lt Nat.and_le_right b1
  have l2 : t (2 * p + 1) &&& s < 256 := Nat.lt_of_le_of_lt Nat.and_le_left b2
  refine Sp_of mf_X11_canMove rfl (Nat.le_of_ble_eq_true rfl) rfl (sX11_canMove_0 hd ?_)
  rw [am_n2, nI_1, nI_clamp (by omega), nI_clamp (by omega), h1, h2, sc_not, fa_and, fa_and, nI_eq (by omega) (by omega), show nI (t (2 * p + 1) &&& s) = 0 ↔ s &&& t (2 * p + 1) = 0 from by rw [Nat.and_comm s]; exact nI_eq (b := 0) (by omega) (by omega)]
  unfold sc_E at z
  refine ⟨vp_in_nI (by omega) (by omega), fun c => ?_, fun c => ⟨vp_in_nI (by omega) (by omega), fun c2 => ?_, fun c2 => ?_⟩⟩
  · rw [if_neg (fun q => c (of_decide_eq_true q).1)] at z; exact z
  · rw [if_neg (fun q => c2 (of_decide_eq_true q).2)] at z; exact z
  · rw [if_pos (decide_eq_true ⟨c, c2⟩)] at z; exact z
/-- the class's rows -/
def sc_RC (h : am_H) (A : sc_A) : Prop := h.1 16 4 = nI (sc_m A) ∧ (∀ i, i < sc_m A → h.2.2 17 i = nI (sc_q A i)) ∧ ∀ x, x < 256 → (sc_v A x = true → h.2.2 18 x = nI (sc_c A x / 16) ∧ (x ≠ 0 → h.2.2 19 x = nI (sc_c A x % 16))) ∧ (sc_v A x = false → h.2.2 18 x = -1)
def sc_fr (h h' : am_H) : Prop := (∀ a, a ≠ 17 → a ≠ 18 → a ≠ 19 → h'.2.2 a = h.2.2 a) ∧ (∀ a k, ¬ (a = 16 ∧ k = 4) → h'.1 a k = h.1 a k) ∧ h'.2.1 = h.2.1
theorem sc_fr_tr {h1 h2 : am_H} (p : sc_fr h h1) (q : sc_fr h1 h2) : sc_fr h h2 := ⟨fun a n1 n2 n3 => (q.1 a n1 n2 n3).trans (p.1 a n1 n2 n3), fun a k n1 => (q.2.1 a k n1).trans (p.2.1 a k n1), q.2.2.trans p.2.2⟩
theorem sc_at {h1 : am_H} (p : sc_fr h h1) (x : Int32) : am_at h1 x = am_at h x := by
  unfold am_at
  rw [p.1 2 (by decide) (by decide) (by decide), p.2.1 1 1 (by decide)]
theorem sc_cb {Φ : Nat → Nat → Prop} {S : Nat → Bool} {w e : Nat} {A : sc_A} (hn : n ≤ 8) (hI : sc_I Φ S w e n A) {x : Nat} (hv : sc_v A x = true) : sc_c A x ≤ 2 * w * 256 := by
  obtain ⟨i, hi, rfl⟩ := hI.2.1 x hv
  have a := hI.2.2.2.2.2.2.2 i hi
  have b := sc_mb hI
  have c : 2 ^ n ≤ 256 := pl_8 hn
  exact Nat.le_trans a (Nat.mul_le_mul_left _ (by omega))
theorem iX5_reach {P S : Nat → Bool} {A : sc_A} {k p : Nat} (hn : n ≤ 8) (hp : p < n) (hI : sc_I (sc_F (sc_E t) P n) S 16 1 n A) (h0 : S 0 = true) (hk : k < sc_m A) (hE : sc_E t (sc_q A k) p = true) (hR : sc_RC h A) (z : ∀ h', sc_RC h' (sc_st (sc_E t) 16 1 (sc_q A k) p A) → sc_fr h h' → Z 0 h') : Sp mX5_reach d [.ref 16, .int (nI (sc_q A k)), .int (nI p)] h Z := by
  have h8 := pl_8 hn
  have mb := sc_mb hI
  have hs := hI.1 k hk
  have hT : sc_q A k ^^^ 2 ^ p < 2 ^ n := pl_xor hs.1 hp
  have st := sc_step (E := sc_E t) (k := k) (p := p) (by decide) (by omega) (fun s p c h1 h2 h3 => sc_F_s s p c hn h1 h2 h3) hI
  refine Sp_of mf_X5_reach rfl (Nat.le_of_ble_eq_true rfl) rfl (sX5_reach_0 ?_)
  rw [am_shl1 (by omega), fb_xorI, nI_clamp (by omega), nI_clamp (by omega), hR.1, (hR.2.2 (sc_q A k) (by omega)).1 hs.2 |>.1]
  generalize eT : sc_q A k ^^^ 2 ^ p = T at hT
  have hTv := hR.2.2 T (by omega)
  have full : sc_v A T = false → sc_m A < 2 ^ n := fun hv => by
    have a := am_sm_up (fun x => if sc_v A x = true then 1 else 0) 1 hT
    rw [hI.2.2.2.1] at a
    have b : (if sc_v A T = true then 1 else 0) = 0 := if_neg (by rw [hv]; decide)
    have le := am_sm_le (f := fun k => if k = T then 1 else (fun x => if sc_v A x = true then 1 else 0) k) (g := fun _ => 1) (2 ^ n) (fun k _ => by show (if k = T then 1 else if sc_v A k = true then 1 else 0) ≤ 1; split; omega; split <;> omega)
    rw [am_sm_c] at le
    have a' : am_sm (fun k => if k = T then 1 else (fun x => if sc_v A x = true then 1 else 0) k) (2 ^ n) + (if sc_v A T = true then 1 else 0) = sc_m A + 1 := a
    omega
  have old : sc_v A T = true → Z 0 h := fun hv => by
    have es : sc_st (sc_E t) 16 1 (sc_q A k) p A = A := if_neg (fun q => by rw [eT, hv] at q; exact absurd q.2 (by decide))
    exact z h (by rw [es]; exact hR) ⟨fun _ _ _ _ => rfl, fun _ _ _ => rfl, rfl⟩
  refine ⟨fun q => absurd q (nI_pos (by omega)), fun _ => ⟨fun q => absurd q (nI_ge (b := 256) (by omega) (by omega)), fun _ => ⟨fun q => ?_, fun _ => ⟨vp_in_nI (by omega) (by omega), fun q => ⟨vp_in_nI (by omega) (by omega), fun h3 e3 => ?_⟩, fun q => ?_⟩⟩⟩⟩
  · have q' : 256 ≤ sc_m A := (nI_leI (a := 256) (by omega) (by omega)).mp q
    cases hv : sc_v A T with
    | true => exact old hv
    | false => have := full hv; omega
  · have hv : sc_v A T = false := by
      cases hv : sc_v A T with
      | false => rfl
      | true =>
        have cb := sc_cb hn hI hv
        rw [(hTv.1 hv).1] at q
        exact absurd q (nI_pos (by omega))
    have mlt := full hv
    have es : sc_st (sc_E t) 16 1 (sc_q A k) p A = (sc_m A + 1, am_un (sc_q A) (sc_m A) T, am_un (sc_c A) T (sc_N 16 1 (sc_c A (sc_q A k)) p), fun x => decide (x = T) || sc_v A x) := by
      unfold sc_st; rw [eT, if_pos ⟨hE, hv⟩]
    have Fk := hI.2.2.2.2.2.2.1 _ hs.2
    have c0 : sc_q A k = 0 ↔ sc_c A (sc_q A k) = 0 := by
      constructor
      · intro e; rw [e]; exact (hI.2.2.2.2.2.1 0 h0).2
      · intro e
        rcases Fk with ⟨e2, _⟩ | ⟨j, f, g1, g2, g3, _⟩
        · exact e2
        · omega
    have key : ∀ fm : Int32, fm = nI (sc_N 16 1 (sc_c A (sc_q A k)) p % 16) → ∀ h7, h7 = am_sI (am_sR (am_sR h3 19 (upd (h.2.2 19) T fm)) 17 (upd (h.2.2 17) (sc_m A) (nI T))) 16 4 (nI (sc_m A + 1)) → Z 0 h7 := by
      intro fm efm h7 e7
      have m1 : sc_N 16 1 (sc_c A (sc_q A k)) p / 16 = sc_c A (sc_q A k) / 16 + 1 := by
        unfold sc_N
        split
        · rename_i q0; rw [q0]; omega
        · omega
      rw [nI_1] at e3
      subst e3
      subst e7
      refine z _ ?_ ⟨fun a n1 n2 n3 => ?_, fun a k n1 => ?_, rfl⟩
      · rw [es]
        refine ⟨?_, fun i hi => ?_, fun x hx => ⟨fun hxv => ?_, fun hxv => ?_⟩⟩
        · rw [am_gI, if_pos ⟨rfl, rfl⟩]
        · have hi' : i < sc_m A + 1 := hi
          rw [am_gI2, am_gRs]
          show upd _ _ _ i = nI (am_un _ _ _ i)
          unfold upd am_un
          by_cases ci : i = sc_m A
          · rw [if_pos ci, if_pos ci]
          · rw [if_neg ci, if_neg ci]; exact hR.2.1 i (by omega)
        · have hxv' : (decide (x = T) || sc_v A x) = true := hxv
          rw [am_gI2, am_gR, if_neg (by decide), am_gR, if_neg (by decide), am_gRs, am_gR, if_neg (by decide), am_gRs]
          show upd _ _ _ x = nI (am_un _ _ _ x / 16) ∧ (x ≠ 0 → upd _ _ _ x = nI (am_un _ _ _ x % 16))
          unfold upd am_un
          by_cases cx : x = T
          · rw [if_pos cx, if_pos cx, if_pos cx, m1, efm]; exact ⟨rfl, fun _ => rfl⟩
          · rw [if_neg cx, if_neg cx, if_neg cx]
            rw [decide_eq_false cx, Bool.false_or] at hxv'
            exact (hR.2.2 x hx).1 hxv'
        · have hxv' : (decide (x = T) || sc_v A x) = false := hxv
          rw [am_gI2, am_gR, if_neg (by decide), am_gR, if_neg (by decide), am_gRs]
          have cx : ¬ x = T := fun e => by rw [decide_eq_true e] at hxv'; cases hxv'
          rw [decide_eq_false cx, Bool.false_or] at hxv'
          unfold upd
          rw [if_neg cx]; exact (hR.2.2 x hx).2 hxv'
      · rw [am_gI2, am_gR, if_neg n1, am_gR, if_neg n3, am_gR, if_neg n2]
      · rw [am_gI, if_neg n1]; rfl
    have g19 : h3.2.2 19 = h.2.2 19 := by rw [e3, am_gR, if_neg (by decide)]
    have i3 : h3.1 16 4 = nI (sc_m A) := by rw [e3, am_gRi]; exact hR.1
    refine ⟨fun cs h4 e4 => ?_, fun cs h8' e8 => ?_⟩
    · have cs' : ¬ sc_q A k = 0 := fun e => cs (by rw [e]; rfl)
      rw [g19, (hR.2.2 (sc_q A k) (by omega)).1 hs.2 |>.2 cs'] at e4
      have i4 : h4.1 16 4 = nI (sc_m A) := by rw [e4, am_gRi]; exact i3
      have g17 : h4.2.2 17 = h.2.2 17 := by rw [e4, am_gR, if_neg (by decide), e3, am_gR, if_neg (by decide)]
      rw [i4]
      refine ⟨vp_in_nI (by omega) (by omega), fun h6 e6 h7 e7 => ?_⟩
      rw [g17, nI_clamp (by omega)] at e6
      have i6 : h6.1 16 4 = nI (sc_m A) := by rw [e6, am_gRi]; exact i4
      rw [i6, nI_1, e6, e4] at e7
      refine key _ ?_ h7 e7
      unfold sc_N
      rw [if_neg (fun e => cs' (c0.mpr e)), Nat.add_mod_right]
    · have cs' : sc_q A k = 0 := (nI_eq (b := 0) (by omega) (by omega)).mp cs
      rw [g19] at e8
      have i4 : h8'.1 16 4 = nI (sc_m A) := by rw [e8, am_gRi]; exact i3
      have g17 : h8'.2.2 17 = h.2.2 17 := by rw [e8, am_gR, if_neg (by decide), e3, am_gR, if_neg (by decide)]
      rw [i4]
      refine ⟨vp_in_nI (by omega) (by omega), fun h6 e6 h7 e7 => ?_⟩
      rw [g17, nI_clamp (by omega)] at e6
      have i6 : h6.1 16 4 = nI (sc_m A) := by rw [e6, am_gRi]; exact i4
      rw [i6, nI_1, e6, e8] at e7
      refine key _ ?_ h7 e7
      unfold sc_N
      rw [if_pos (c0.mp cs'), Nat.one_mul, Nat.add_mod_left, Nat.mod_eq_of_lt (by omega)]
  · cases hv : sc_v A T with
    | true => exact old hv
    | false => rw [hTv.2 hv] at q; exact absurd (by decide) q
theorem x_w67 {P S : Nat → Bool} {k pn : Nat} (hd : 4 ≤ d) (hn : n ≤ 8) (tb : ∀ i, t i < 256) (hat : ∀ i, i < 2 * n → am_at h (nI i) = nI (t i)) (h0 : S 0 = true) (s : Nat) (z : ∀ h' A', sc_I (sc_F (sc_E t) P n) S 16 1 n A' → sc_J (sc_E t) 16 1 n A' k n → k < sc_m A' → sc_RC h' A' → sc_fr h h' → (∀ i, i < k + 1 → P (sc_q A' i) = false) → ∀ u4 u5, Ru mX5_walk none d 29 [.ref 16, .int (nI n), .int (nI pn), .int (nI k + 1), u4, u5] [] h' Z) : ∀ (r p : Nat) (A : sc_A) (h1 : am_H), p + r = n → sc_I (sc_F (sc_E t) P n) S 16 1 n A → sc_J (sc_E t) 16 1 n A k p → k < sc_m A → sc_RC h1 A → sc_fr h h1 → sc_q A k = s → (∀ i, i < k + 1 → P (sc_q A i) = false) → Ru mX5_walk none d 67 [.ref 16, .int (nI n), .int (nI pn), .int (nI k), .int (nI s), .int (nI p)] [] h1 Z
  | 0, p, A, h1, hp, hI, hJ, hk, hR, hf, hs, hP => by
    have ep : p = n := by omega
    subst ep
    exact sX5_walk_67 ⟨fun _ => z h1 A hI hJ hk hR hf hP _ _, fun c => absurd (Int32.le_refl _) c⟩
  | r + 1, p, A, h1, hp, hI, hJ, hk, hR, hf, hs, hP => by
    have h8 := pl_8 hn
    have hsb := (hI.1 k hk).1
    have st := sc_step (E := sc_E t) (by decide) (by omega) (fun s p c h1 h2 h3 => sc_F_s s p c hn h1 h2 h3) hI hJ hk (show p < n by omega)
    have nx : ∀ h2, sc_RC h2 (sc_st (sc_E t) 16 1 (sc_q A k) p A) → sc_fr h h2 → Ru mX5_walk none d 67 [.ref 16, .int (nI n), .int (nI pn), .int (nI k), .int (nI s), .int (nI (p + 1))] [] h2 Z := fun h2 hR2 hf2 =>
      x_w67 hd hn tb hat h0 s z r (p + 1) _ h2 (by omega) st.1 st.2.1 (by omega) hR2 hf2 (by rw [st.2.2.2 k hk]; exact hs) (fun i hi => by rw [st.2.2.2 i (by omega)]; exact hP i hi)
    refine sX5_walk_67 ⟨fun c => absurd c (nI_ge (by omega) (by omega)), fun _ => ⟨3, by omega, iX5_canMove (t := t) (by omega) (by omega) (by rw [sc_at hf]; exact hat _ (by omega)) (by rw [sc_at hf]; exact hat _ (by omega)) tb ?_⟩⟩
    rw [nI_1]
    by_cases cE : sc_E t s p = true
    · rw [if_pos cE]
      refine ⟨fun q => absurd q (by decide), fun _ => ?_⟩
      rw [← hs]
      rw [← hs] at cE
      exact ⟨3, by omega, iX5_reach hn (by omega) hI h0 hk cE hR (fun h2 hR2 hf2 => by rw [hs]; exact nx h2 hR2 (sc_fr_tr hf hf2))⟩
    · rw [if_neg cE]
      refine ⟨fun _ => nx h1 ?_ hf, fun q => absurd rfl q⟩
      rw [show sc_st (sc_E t) 16 1 (sc_q A k) p A = A from if_neg (fun q => cE (by rw [← hs]; exact q.1))]
      exact hR
theorem x_w29 {S : Nat → Bool} {pn : Nat} (hd : 4 ≤ d) (hn : n ≤ 8) (hpn : pn < n) (tb : ∀ i, t i < 256) (hat : ∀ i, i < 2 * n → am_at h (nI i) = nI (t i)) (h0 : S 0 = true)
    (zf : ∀ h' A k, k < sc_m A → sc_I (sc_F (sc_E t) (fun x => x.testBit pn) n) S 16 1 n A → sc_J (sc_E t) 16 1 n A k 0 → sc_RC h' A → sc_fr h h' → (∀ i, i < k → (sc_q A i).testBit pn = false) → (sc_q A k).testBit pn = true → Z (nI (sc_q A k)) h')
    (zn : ∀ h' A, sc_I (sc_F (sc_E t) (fun x => x.testBit pn) n) S 16 1 n A → sc_J (sc_E t) 16 1 n A (sc_m A) 0 → sc_RC h' A → sc_fr h h' → (∀ i, i < sc_m A → (sc_q A i).testBit pn = false) → Z (-1) h') : ∀ (r k : Nat) (A : sc_A) (h1 : am_H) (u4 u5 : Value), k + r = 257 → sc_I (sc_F (sc_E t) (fun x => x.testBit pn) n) S 16 1 n A → sc_J (sc_E t) 16 1 n A k 0 → sc_RC h1 A → sc_fr h h1 → (∀ i, i < k → i < sc_m A → (sc_q A i).testBit pn = false) → Ru mX5_walk none d 29 [.ref 16, .int (nI n), .int (nI pn), .int (nI k), u4, u5] [] h1 Z
  | 0, k, A, h1, u4, u5, hk, hI, hJ, hR, hf, hP => by
    have h8 := pl_8 hn
    have mb := sc_mb hI
    refine sX5_walk_29 ⟨fun _ => zn h1 A hI ⟨fun q => absurd q (Nat.lt_irrefl _), fun i p' a1 a2 a3 a4 => hJ.2 i p' a1 (by omega) a3 a4⟩ hR hf (fun i hi => hP i (by omega) hi), fun c => absurd ?_ c⟩
    rw [hR.1]; exact nI_le (by omega) (by omega)
  | r + 1, k, A, h1, u4, u5, hk, hI, hJ, hR, hf, hP => by
    have h8 := pl_8 hn
    have mb := sc_mb hI
    rcases Nat.lt_or_ge k (sc_m A) with q | q
    · have hsb := (hI.1 k q).1
      refine sX5_walk_29 ⟨fun c => absurd c (by rw [hR.1]; exact nI_ge q (by omega)), fun _ => ⟨fun c => absurd c (nI_ge (b := 256) (by omega) (by omega)), fun _ => ⟨vp_in_nI (by omega) (by omega), ?_⟩⟩⟩
      rw [nI_clamp (by omega), hR.2.1 k q, hj_b01, am_bit_n (by omega) (by omega)]
      refine ⟨fun c => ?_, fun c => ?_⟩
      · refine x_w67 (P := fun x => x.testBit pn) hd hn tb hat h0 (sc_q A k) (fun h' A' hI' hJ' hk' hR' hf' hP' u4 u5 => ?_) n 0 A h1 (by omega) hI hJ q hR hf rfl (fun i hi => ?_)
        · rw [nI_1]
          exact x_w29 hd hn hpn tb hat h0 zf zn r (k + 1) A' h' u4 u5 (by omega) hI' (sc_next (by decide) (by omega) hI' hJ') hR' hf' (fun i h1 _ => hP' i h1)
        · by_cases ci : i = k
          · rw [ci]; simpa using c
          · exact hP i (by omega) (by omega)
      · exact zf h1 A k q hI hJ hR hf (fun i hi => hP i hi (by omega)) (Decidable.not_not.mp c)
    · refine sX5_walk_29 ⟨fun _ => zn h1 A hI ⟨fun q => absurd q (Nat.lt_irrefl _), fun i p' a1 a2 a3 a4 => hJ.2 i p' a1 (by omega) a3 a4⟩ hR hf (fun i hi => hP i (by omega) hi), fun c => absurd ?_ c⟩
      rw [hR.1]; exact nI_le q (by omega)
/-- what is found: moves and first panel -/
def sc_Fd (E : Nat → Nat → Bool) (P : Nat → Bool) (n D f : Nat) : Prop := 1 ≤ D ∧ D ≤ 512 ∧ f < n ∧ E 0 f = true ∧ sc_G E P n (D - 1) (2 ^ f) ∧ ∀ j p, p < n → E 0 p = true → sc_G E P n j (2 ^ p) → 16 * D + f ≤ 16 * (j + 1) + p
theorem sc_one (n : Nat) : am_sm (fun x => if (x == 0) = true then 1 else 0) (2 ^ n) = 1 := by
  have a := am_sm_up (fun _ => 0) 1 (p := 0) (n := 2 ^ n) (Nat.two_pow_pos n)
  rw [am_sm_c] at a
  rw [am_sm_cg (g := fun k => if k = 0 then 1 else 0) _ (fun k _ => by by_cases c : k = 0 <;> simp [c])]
  omega
theorem iX5_walk {pn : Nat} (hd : 4 ≤ d) (h2 : 2 ≤ n) (hn : n ≤ 8) (hpn : pn < n) (tb : ∀ i, t i < 256) (hat : ∀ i, i < 2 * n → am_at h (nI i) = nI (t i))
    (zf : ∀ h' s D f, s < 256 → h'.2.2 18 s = nI D → h'.2.2 19 s = nI f → sc_Fd (sc_E t) (fun x => x.testBit pn) n D f → sc_fr h h' → Z (nI s) h') (zn : ∀ h', (∀ j, ¬ sc_G (sc_E t) (fun x => x.testBit pn) n j 0) → sc_fr h h' → Z (-1) h') : Sp mX5_walk d [.ref 16, .int (nI n), .int (nI pn)] h Z := by
  have h8 := pl_8 hn
  refine Sp_of mf_X5_walk rfl (Nat.le_of_ble_eq_true rfl) rfl (sX5_walk_0 (by omega) (fun h1 e1 h2 e2 h3 e3 => ?_))
  have f3 : sc_fr h h3 := by
    rw [e3, e2, e1]
    refine ⟨fun a n1 n2 n3 => ?_, fun a k n1 => ?_, rfl⟩
    · rw [am_gI2, am_gR, if_neg n1, am_gR, if_neg n2, am_gR, if_neg n2]
    · rw [am_gI, if_neg n1]; rfl
  have R3 : sc_RC h3 (1, fun _ => 0, fun _ => 0, fun x => x == 0) := by
    rw [e3, e2, e1]
    refine ⟨?_, fun i hi => ?_, fun x hx => ?_⟩
    · rw [am_gI, if_pos ⟨rfl, rfl⟩]; rfl
    · have hi' : i < 1 := hi
      have : i = 0 := by omega
      subst this
      rw [am_gI2, am_gRs]; unfold upd; exact if_pos rfl
    · rw [am_gI2, am_gR, if_neg (by decide), am_gRs, am_gRs]
      by_cases c : x = 0
      · subst c
        refine ⟨fun _ => ⟨?_, fun q => absurd rfl q⟩, fun q => absurd q (by decide)⟩
        unfold upd; exact if_pos rfl
      · refine ⟨fun q => absurd (beq_iff_eq.mp q) c, fun _ => ?_⟩
        unfold upd am_fill
        rw [if_neg c, if_pos hx]
  have I3 : sc_I (sc_F (sc_E t) (fun x => x.testBit pn) n) (fun x => x == 0) 16 1 n (1, fun _ => 0, fun _ => 0, fun x => x == 0) := by
    refine ⟨fun i _ => ⟨Nat.two_pow_pos n, rfl⟩, fun x hx => ⟨0, by decide, (beq_iff_eq.mp hx).symm⟩, fun _ _ _ _ => Nat.le_refl _, sc_one n, Or.inr (fun i h1 h2 => by have h2' : i < 1 := h2; omega), fun x hx => ⟨hx, rfl⟩, fun x hx => Or.inl ⟨beq_iff_eq.mp hx, rfl⟩, fun j _ => Nat.zero_le _⟩
  refine x_w29 (h := h) (S := fun x => x == 0) hd hn hpn tb hat rfl (fun h' A k hk hI hJ hR hf hP hPk => ?_) (fun h' A hI hJ hR hf hP => ?_) 257 0 _ h3 _ _ (by omega) I3 ⟨fun _ _ _ => Nat.zero_le _, fun i p' _ q => by omega⟩ R3 f3 (fun i hi => absurd hi (Nat.not_lt_zero i))
  · have hs := hI.1 k hk
    have s0 : ¬ sc_q A k = 0 := fun e => by rw [e, Nat.zero_testBit] at hPk; cases hPk
    rcases hI.2.2.2.2.2.2.1 _ hs.2 with ⟨e, _⟩ | ⟨j, p, h1, h2, h3, h4, h5⟩
    · exact absurd e s0
    · have cb := sc_cb hn hI hs.2
      have r := (hR.2.2 (sc_q A k) (by omega)).1 hs.2
      have ed : sc_c A (sc_q A k) / 16 = j := by omega
      have em : sc_c A (sc_q A k) % 16 = p := by omega
      rw [ed, em] at r
      refine zf h' _ j p (by omega) r.1 (r.2 s0) ⟨h1, by omega, h2, h4, ?_, fun j' p' hp' hE' g => ?_⟩ hf
      · have := h5 0 hPk
        rw [Nat.zero_add] at this; exact this
      · have v0 := hI.2.2.2.2.2.1 0 rfl
        obtain ⟨i, hi, ei⟩ := hI.2.1 0 v0.1
        have hik : i < k := by
          rcases Nat.lt_or_ge i k with q | q
          · exact q
          · have := hI.2.2.1 k i q hi
            rw [ei, v0.2] at this; omega
        have o := hJ.2 i p' hp' (Or.inl hik) hi (by rw [ei]; exact hE')
        rw [ei, Nat.zero_xor, v0.2] at o
        have oc : sc_c A (2 ^ p') ≤ 16 + p' := by
          have := o.2
          unfold sc_N at this
          rw [if_pos rfl] at this; omega
        have lw := sc_low hn hI hJ hk (fun i hi => hP i hi) j' (2 ^ p') (16 + p') o.1 oc (by omega) g
        omega
  · exact zn h' (fun j => sc_none hI hJ hP j 0 (hI.2.2.2.2.2.1 0 rfl).1) hf
/-- the bytes are sound -/
def sc_ok (t : Nat → Nat) (n : Nat) : Prop := ∀ k, k < n → (nI (t (2 * k) ||| t (2 * k + 1)) >>> (nI n &&& 31)) = 0 ∧ (t (2 * k) ||| t (2 * k + 1)).testBit k = false
theorem x_snd (hd : 2 ≤ d) (hn : n ≤ 8) (tb : ∀ i, t i < 256) (hat : ∀ i, i < 2 * n → am_at h (nI i) = nI (t i)) (z1 : sc_ok t n → Z 1 h) (z0 : ¬ sc_ok t n → Z 0 h) : ∀ (r k : Nat) (u3 : Value), k + r = n → (∀ i, i < k → (nI (t (2 * i) ||| t (2 * i + 1)) >>> (nI n &&& 31)) = 0 ∧ (t (2 * i) ||| t (2 * i + 1)).testBit i = false) → Ru mX5_isSound none d 2 [.ref 16, .int (nI n), .int (nI k), u3] [] h Z
  | 0, k, u3, hk, hv => by
    have ek : k = n := by omega
    subst ek
    exact sX5_isSound_2 hd ⟨fun _ => z1 hv, fun c => absurd (Int32.le_refl _) c⟩
  | r + 1, k, u3, hk, hv => by
    have b : t (2 * k) ||| t (2 * k + 1) < 2 ^ 8 := Nat.or_lt_two_pow (tb _) (tb _)
    refine sX5_isSound_2 hd ⟨fun c => absurd c (nI_ge (by omega) (by omega)), fun _ => ?_⟩
    rw [am_n2, nI_1, hat _ (by omega), hat _ (by omega), fa_or, hj_b01, am_bit_n (by omega) (by omega), nI_1]
    refine ⟨fun c => z0 (fun q => c (q k (by omega)).1), fun c => ⟨fun c2 => ?_, fun c2 => z0 (fun q => c2 (by rw [(q k (by omega)).2]; decide))⟩⟩
    refine x_snd hd hn tb hat z1 z0 r (k + 1) _ (by omega) (fun i hi => ?_)
    by_cases ci : i = k
    · subst ci; exact ⟨c, by simpa using c2⟩
    · exact hv i (by omega)
theorem iX5_solve {pn : Nat} {x3 : Int32} (hd : 6 ≤ d) (h2 : 2 ≤ n) (hn : n ≤ 8) (hpn : pn < n) (tb : ∀ i, t i < 256) (hat : ∀ i, i < 2 * n → am_at h (nI i) = nI (t i))
    (z1 : ∀ h' D f, sc_ok t n → sc_Fd (sc_E t) (fun x => x.testBit pn) n D f → sc_fr h h' → Z (if x3 = 0 then nI D else nI f) h') (z2 : ∀ h', sc_ok t n → (∀ j, ¬ sc_G (sc_E t) (fun x => x.testBit pn) n j 0) → sc_fr h h' → Z (-2) h') (z3 : ¬ sc_ok t n → Z (-3) h) : Sp mX5_solve d [.ref 16, .int (nI n), .int (nI pn), .int x3] h Z := by
  refine Sp_of mf_X5_solve rfl (Nat.le_of_ble_eq_true rfl) rfl (sX5_solve_0 ⟨5, by omega, Sp_of mf_X5_isSound rfl (Nat.le_of_ble_eq_true rfl) rfl (sX5_isSound_0 (x_snd (t := t) (by omega) hn tb hat (fun ok => ⟨fun _ => ⟨5, by omega, iX5_walk (by omega) h2 hn hpn tb hat (fun h' s D f hs e1 e2 fd hf => ⟨fun _ => ?_, fun q => absurd (nI_pos' (by omega)) q⟩) (fun h' no hf => ⟨fun q => absurd q (by decide), fun _ => z2 h' ok no hf⟩)⟩, fun q => absurd q (by decide)⟩) (fun nok => ⟨fun q => absurd rfl q, fun _ => z3 nok⟩) n 0 _ (by omega) (fun i hi => absurd hi (Nat.not_lt_zero i))))⟩)
  rw [nI_clamp (by omega), e1, e2]
  have := z1 h' D f ok fd hf
  refine ⟨fun q => ⟨vp_in_nI (by omega) (by omega), ?_⟩, fun q => ⟨vp_in_nI (by omega) (by omega), ?_⟩⟩
  · rw [if_neg q] at this; exact this
  · rw [if_pos q] at this; exact this
end
