-- the slip: what is asked of it
set_option maxRecDepth 20000 in
set_option maxHeartbeats 2000000 in
theorem sX8_isVowel_0 {d : Nat} {h : am_H} {Z : Int32 → am_H → Prop} {x0 : Int32} (w : ((x0 + 97) = 97 → Z 1 h) ∧ (¬ ((x0 + 97) = 97) → ((x0 + 97) = 101 → Z 1 h) ∧ (¬ ((x0 + 97) = 101) → ((x0 + 97) = 105 → Z 1 h) ∧ (¬ ((x0 + 97) = 105) → ((x0 + 97) = 111 → Z 1 h) ∧ (¬ ((x0 + 97) = 111) → (¬ (x0 + 97) = 117 → Z 0 h) ∧ ((x0 + 97) = 117 → Z 1 h)))))) : Ru mX8_isVowel none d 0 [.int x0, .null] [] h Z := by
  refine st_iload_n dX8_isVowel_0 rfl ?_
  refine st_bipush (v := 97) dX8_isVowel_1 (by decide) ?_
  refine st_iadd dX8_isVowel_3 ?_
  refine st_istore_n (L' := [.int x0, .int (x0 + 97)]) dX8_isVowel_4 (by decide) rfl ?_
  refine st_iload_n dX8_isVowel_5 rfl ?_
  refine st_bipush (v := 97) dX8_isVowel_6 (by decide) ?_
  refine st_icmp_eq (tgt := 35) dX8_isVowel_8 (by decide) (fun c => ?_) (fun c => ?_)
  · replace w := w.1 c
    refine st_iconst (v := 1) dX8_isVowel_35 (by decide) ?_
    refine st_goto (tgt := 40) dX8_isVowel_36 (by decide) ?_
    exact st_ireturn rfl rfl dX8_isVowel_40 w
  · replace w := w.2 c
    refine st_iload_n dX8_isVowel_11 rfl ?_
    refine st_bipush (v := 101) dX8_isVowel_12 (by decide) ?_
    refine st_icmp_eq (tgt := 35) dX8_isVowel_14 (by decide) (fun c => ?_) (fun c => ?_)
    · replace w := w.1 c
      refine st_iconst (v := 1) dX8_isVowel_35 (by decide) ?_
      refine st_goto (tgt := 40) dX8_isVowel_36 (by decide) ?_
      exact st_ireturn rfl rfl dX8_isVowel_40 w
    · replace w := w.2 c
      refine st_iload_n dX8_isVowel_17 rfl ?_
      refine st_bipush (v := 105) dX8_isVowel_18 (by decide) ?_
      refine st_icmp_eq (tgt := 35) dX8_isVowel_20 (by decide) (fun c => ?_) (fun c => ?_)
      · replace w := w.1 c
        refine st_iconst (v := 1) dX8_isVowel_35 (by decide) ?_
        refine st_goto (tgt := 40) dX8_isVowel_36 (by decide) ?_
        exact st_ireturn rfl rfl dX8_isVowel_40 w
      · replace w := w.2 c
        refine st_iload_n dX8_isVowel_23 rfl ?_
        refine st_bipush (v := 111) dX8_isVowel_24 (by decide) ?_
        refine st_icmp_eq (tgt := 35) dX8_isVowel_26 (by decide) (fun c => ?_) (fun c => ?_)
        · replace w := w.1 c
          refine st_iconst (v := 1) dX8_isVowel_35 (by decide) ?_
          refine st_goto (tgt := 40) dX8_isVowel_36 (by decide) ?_
          exact st_ireturn rfl rfl dX8_isVowel_40 w
        · replace w := w.2 c
          refine st_iload_n dX8_isVowel_29 rfl ?_
          refine st_bipush (v := 117) dX8_isVowel_30 (by decide) ?_
          refine st_icmp_ne (tgt := 39) dX8_isVowel_32 (by decide) (fun c => ?_) (fun c => ?_)
          · replace w := w.1 c
            refine st_iconst (v := 0) dX8_isVowel_39 (by decide) ?_
            exact st_ireturn rfl rfl dX8_isVowel_40 w
          · replace w := w.2 c
            refine st_iconst (v := 1) dX8_isVowel_35 (by decide) ?_
            refine st_goto (tgt := 40) dX8_isVowel_36 (by decide) ?_
            exact st_ireturn rfl rfl dX8_isVowel_40 w
set_option maxRecDepth 20000 in
set_option maxHeartbeats 2000000 in
theorem sX8_vowelsShifted_0 {d : Nat} {h : am_H} {Z : Int32 → am_H → Prop} {x1 : Int32} (w : Ru mX8_vowelsShifted none d 4 [.ref 5, .int x1, .int 0, .int 0] [] h Z) : Ru mX8_vowelsShifted none d 0 [.ref 5, .int x1, .null, .null] [] h Z := by
  refine st_iconst (v := 0) dX8_vowelsShifted_0 (by decide) ?_
  refine st_istore_n (L' := [.ref 5, .int x1, .int 0, .null]) dX8_vowelsShifted_1 (by decide) rfl ?_
  refine st_iconst (v := 0) dX8_vowelsShifted_2 (by decide) ?_
  refine st_istore_n (L' := [.ref 5, .int x1, .int 0, .int 0]) dX8_vowelsShifted_3 (by decide) rfl ?_
  exact w
set_option maxRecDepth 20000 in
set_option maxHeartbeats 2000000 in
theorem sX8_vowelsShifted_4 {d : Nat} {h : am_H} {Z : Int32 → am_H → Prop} {x1 : Int32} {x2 : Int32} {x3 : Int32} (w : ((h.1 5 3) ≤ x3 → Z x2 h) ∧ (¬ ((h.1 5 3) ≤ x3) → (vp_in x3 64 ∧ (am_cl mX8_isVowel d [.int (am_rem ((h.2.2 6 x3.toNatClampNeg) + x1) 26)] h (fun r2 h3 => (r2 = 0 → Ru mX8_vowelsShifted none d 4 [.ref 5, .int x1, .int (x2 + 0), .int (x3 + 1)] [] h3 Z) ∧ (¬ (r2 = 0) → Ru mX8_vowelsShifted none d 4 [.ref 5, .int x1, .int (x2 + 1), .int (x3 + 1)] [] h3 Z)))))) : Ru mX8_vowelsShifted none d 4 [.ref 5, .int x1, .int x2, .int x3] [] h Z := by
  refine st_iload_n dX8_vowelsShifted_4 rfl ?_
  refine st_aload_n dX8_vowelsShifted_5 rfl ?_
  refine st_getI fl_X8_16 fk_8_3 dX8_vowelsShifted_6 sh_5 ?_
  refine st_icmp_ge (tgt := 43) dX8_vowelsShifted_9 (by decide) (fun c => ?_) (fun c => ?_)
  · replace w := w.1 c
    refine st_iload_n dX8_vowelsShifted_43 rfl ?_
    exact st_ireturn rfl rfl dX8_vowelsShifted_44 w
  · replace w := w.2 c
    refine st_iload_n dX8_vowelsShifted_12 rfl ?_
    refine st_aload_n dX8_vowelsShifted_13 rfl ?_
    refine st_getF (q := 6) fl_X8_9 fk_8_1 rfl dX8_vowelsShifted_14 sh_5 ?_
    refine st_iload_n dX8_vowelsShifted_17 rfl ?_
    have hc1 := w.1
    replace w := w.2
    refine st_iald dX8_vowelsShifted_18 sh_6 hc1 ?_
    refine st_iload_n dX8_vowelsShifted_19 rfl ?_
    refine st_iadd dX8_vowelsShifted_20 ?_
    refine st_bipush (v := 26) dX8_vowelsShifted_21 (by decide) ?_
    refine st_irem dX8_vowelsShifted_23 (by decide) ?_
    refine st_callS (M' := mX8_isVowel) [.int (am_rem ((h.2.2 6 x3.toNatClampNeg) + x1) 26)] [.int x2] dX8_vowelsShifted_24 ml_X8_97 mf_X8_isVowel ms_X8_isVowel rfl rfl rfl w (fun r2 h3 w => ?_)
    show Ru mX8_vowelsShifted none d 27 [.ref 5, .int x1, .int x2, .int x3] [.int r2, .int x2] h3 Z
    refine st_if_eq (tgt := 34) dX8_vowelsShifted_27 (by decide) (fun c => ?_) (fun c => ?_)
    · replace w := w.1 c
      refine st_iconst (v := 0) dX8_vowelsShifted_34 (by decide) ?_
      refine st_iadd dX8_vowelsShifted_35 ?_
      refine st_istore_n (L' := [.ref 5, .int x1, .int (x2 + 0), .int x3]) dX8_vowelsShifted_36 (by decide) rfl ?_
      refine st_iinc (L' := [.ref 5, .int x1, .int (x2 + 0), .int (x3 + 1)]) dX8_vowelsShifted_37 rfl rfl (by decide) rfl ?_
      refine st_goto (tgt := 4) dX8_vowelsShifted_40 (by decide) ?_
      exact w
    · replace w := w.2 c
      refine st_iconst (v := 1) dX8_vowelsShifted_30 (by decide) ?_
      refine st_goto (tgt := 35) dX8_vowelsShifted_31 (by decide) ?_
      refine st_iadd dX8_vowelsShifted_35 ?_
      refine st_istore_n (L' := [.ref 5, .int x1, .int (x2 + 1), .int x3]) dX8_vowelsShifted_36 (by decide) rfl ?_
      refine st_iinc (L' := [.ref 5, .int x1, .int (x2 + 1), .int (x3 + 1)]) dX8_vowelsShifted_37 rfl rfl (by decide) rfl ?_
      refine st_goto (tgt := 4) dX8_vowelsShifted_40 (by decide) ?_
      exact w
set_option maxRecDepth 20000 in
set_option maxHeartbeats 2000000 in
theorem sX8_bestShift_0 {d : Nat} {h : am_H} {Z : Int32 → am_H → Prop}  (w : Ru mX8_bestShift none d 4 [.ref 5, .int 0, .int 1] [] h Z) : Ru mX8_bestShift none d 0 [.ref 5, .null, .null] [] h Z := by
  refine st_iconst (v := 0) dX8_bestShift_0 (by decide) ?_
  refine st_istore_n (L' := [.ref 5, .int 0, .null]) dX8_bestShift_1 (by decide) rfl ?_
  refine st_iconst (v := 1) dX8_bestShift_2 (by decide) ?_
  refine st_istore_n (L' := [.ref 5, .int 0, .int 1]) dX8_bestShift_3 (by decide) rfl ?_
  exact w
set_option maxRecDepth 20000 in
set_option maxHeartbeats 2000000 in
theorem sX8_bestShift_4 {d : Nat} {h : am_H} {Z : Int32 → am_H → Prop} {x1 : Int32} {x2 : Int32} (w : (26 ≤ x2 → Z x1 h) ∧ (¬ (26 ≤ x2) → am_cl mX8_vowelsShifted d [.ref 5, .int x2] h (fun r1 h2 => am_cl mX8_vowelsShifted d [.ref 5, .int x1] h2 (fun r3 h4 => (r1 ≤ r3 → Ru mX8_bestShift none d 4 [.ref 5, .int x1, .int (x2 + 1)] [] h4 Z) ∧ (¬ (r1 ≤ r3) → Ru mX8_bestShift none d 4 [.ref 5, .int x2, .int (x2 + 1)] [] h4 Z))))) : Ru mX8_bestShift none d 4 [.ref 5, .int x1, .int x2] [] h Z := by
  refine st_iload_n dX8_bestShift_4 rfl ?_
  refine st_bipush (v := 26) dX8_bestShift_5 (by decide) ?_
  refine st_icmp_ge (tgt := 31) dX8_bestShift_7 (by decide) (fun c => ?_) (fun c => ?_)
  · replace w := w.1 c
    refine st_iload_n dX8_bestShift_31 rfl ?_
    exact st_ireturn rfl rfl dX8_bestShift_32 w
  · replace w := w.2 c
    refine st_aload_n dX8_bestShift_10 rfl ?_
    refine st_iload_n dX8_bestShift_11 rfl ?_
    refine st_callV (M' := mX8_vowelsShifted) [.int x2] [] dX8_bestShift_12 ml_X8_87 mf_X8_vowelsShifted mv_X8_vowelsShifted sh_5 rfl rfl rfl w (fun r1 h2 w => ?_)
    show Ru mX8_bestShift none d 15 [.ref 5, .int x1, .int x2] [.int r1] h2 Z
    refine st_aload_n dX8_bestShift_15 rfl ?_
    refine st_iload_n dX8_bestShift_16 rfl ?_
    refine st_callV (M' := mX8_vowelsShifted) [.int x1] [.int r1] dX8_bestShift_17 ml_X8_87 mf_X8_vowelsShifted mv_X8_vowelsShifted sh_5 rfl rfl rfl w (fun r3 h4 w => ?_)
    show Ru mX8_bestShift none d 20 [.ref 5, .int x1, .int x2] [.int r3, .int r1] h4 Z
    refine st_icmp_le (tgt := 25) dX8_bestShift_20 (by decide) (fun c => ?_) (fun c => ?_)
    · replace w := w.1 c
      refine st_iinc (L' := [.ref 5, .int x1, .int (x2 + 1)]) dX8_bestShift_25 rfl rfl (by decide) rfl ?_
      refine st_goto (tgt := 4) dX8_bestShift_28 (by decide) ?_
      exact w
    · replace w := w.2 c
      refine st_iload_n dX8_bestShift_23 rfl ?_
      refine st_istore_n (L' := [.ref 5, .int x2, .int x2]) dX8_bestShift_24 (by decide) rfl ?_
      refine st_iinc (L' := [.ref 5, .int x2, .int (x2 + 1)]) dX8_bestShift_25 rfl rfl (by decide) rfl ?_
      refine st_goto (tgt := 4) dX8_bestShift_28 (by decide) ?_
      exact w
set_option maxRecDepth 20000 in
set_option maxHeartbeats 2000000 in
theorem sX8_mostOften_0 {d : Nat} {h : am_H} {Z : Int32 → am_H → Prop}  (hd : 2 ≤ d) (w : Ru mX8_mostOften none d 10 [.ref 5, .int 0, .null] [] (am_sR h 7 (am_fill (h.2.2 7) 26 (0 : Int32))) Z) : Ru mX8_mostOften none d 0 [.ref 5, .null, .null] [] h Z := by
  refine st_aload_n dX8_mostOften_0 rfl ?_
  refine st_getF (q := 7) fl_X8_13 fk_8_2 rfl dX8_mostOften_1 sh_5 ?_
  refine st_iconst (v := 0) dX8_mostOften_4 (by decide) ?_
  refine st_callS (M' := mJ7_fill_53178) [.ref 7, .int 0] [] dX8_mostOften_5 ml_X8_91 mf_J7_fill_53178 ms_J7_fill_53178 rfl rfl rfl (K := fun r h' => 0 = r ∧ am_sR h 7 (am_fill (h.2.2 7) 26 (0 : Int32)) = h') ⟨1, by omega, iJ7_fill sh_7 (by decide) ⟨rfl, rfl⟩⟩ (fun r1 h1 w1 => ?_)
  obtain ⟨rfl, rfl⟩ := w1
  show Ru mX8_mostOften none d 8 [.ref 5, .null, .null] [] (am_sR h 7 (am_fill (h.2.2 7) 26 (0 : Int32))) Z
  refine st_iconst (v := 0) dX8_mostOften_8 (by decide) ?_
  refine st_istore_n (L' := [.ref 5, .int 0, .null]) dX8_mostOften_9 (by decide) rfl ?_
  exact w
set_option maxRecDepth 20000 in
set_option maxHeartbeats 2000000 in
theorem sX8_mostOften_10 {d : Nat} {h : am_H} {Z : Int32 → am_H → Prop} {x1 : Int32} {u2 : Value} (w : ((h.1 5 3) ≤ x1 → Ru mX8_mostOften none d 43 [.ref 5, .int 0, .int 1] [] h Z) ∧ (¬ ((h.1 5 3) ≤ x1) → (vp_in x1 64 ∧ (vp_in (h.2.2 6 x1.toNatClampNeg) 26 ∧ (∀ h3 : am_H, h3 = am_sR h 7 (upd (h.2.2 7) (h.2.2 6 x1.toNatClampNeg).toNatClampNeg ((h.2.2 7 (h.2.2 6 x1.toNatClampNeg).toNatClampNeg) + 1)) → (Ru mX8_mostOften none d 10 [.ref 5, .int (x1 + 1), u2] [] h3 Z)))))) : Ru mX8_mostOften none d 10 [.ref 5, .int x1, u2] [] h Z := by
  refine st_iload_n dX8_mostOften_10 rfl ?_
  refine st_aload_n dX8_mostOften_11 rfl ?_
  refine st_getI fl_X8_16 fk_8_3 dX8_mostOften_12 sh_5 ?_
  refine st_icmp_ge (tgt := 39) dX8_mostOften_15 (by decide) (fun c => ?_) (fun c => ?_)
  · replace w := w.1 c
    refine st_iconst (v := 0) dX8_mostOften_39 (by decide) ?_
    refine st_istore_n (L' := [.ref 5, .int 0, u2]) dX8_mostOften_40 (by decide) rfl ?_
    refine st_iconst (v := 1) dX8_mostOften_41 (by decide) ?_
    refine st_istore_n (L' := [.ref 5, .int 0, .int 1]) dX8_mostOften_42 (by decide) rfl ?_
    exact w
  · replace w := w.2 c
    refine st_aload_n dX8_mostOften_18 rfl ?_
    refine st_getF (q := 7) fl_X8_13 fk_8_2 rfl dX8_mostOften_19 sh_5 ?_
    refine st_aload_n dX8_mostOften_22 rfl ?_
    refine st_getF (q := 6) fl_X8_9 fk_8_1 rfl dX8_mostOften_23 sh_5 ?_
    refine st_iload_n dX8_mostOften_26 rfl ?_
    have hc1 := w.1
    replace w := w.2
    refine st_iald dX8_mostOften_27 sh_6 hc1 ?_
    refine st_dup2 dX8_mostOften_28 rfl rfl ?_
    have hc2 := w.1
    replace w := w.2
    refine st_iald dX8_mostOften_29 sh_7 hc2 ?_
    refine st_iconst (v := 1) dX8_mostOften_30 (by decide) ?_
    refine st_iadd dX8_mostOften_31 ?_
    refine st_iast dX8_mostOften_32 sh_7 hc2 (fun h3 eh3 => ?_)
    replace w := w h3 eh3
    refine st_iinc (L' := [.ref 5, .int (x1 + 1), u2]) dX8_mostOften_33 rfl rfl (by decide) rfl ?_
    refine st_goto (tgt := 10) dX8_mostOften_36 (by decide) ?_
    exact w
set_option maxRecDepth 20000 in
set_option maxHeartbeats 2000000 in
theorem sX8_mostOften_43 {d : Nat} {h : am_H} {Z : Int32 → am_H → Prop} {x1 : Int32} {x2 : Int32} (w : (26 ≤ x2 → Z x1 h) ∧ (¬ (26 ≤ x2) → (vp_in x2 26 ∧ (vp_in x1 26 ∧ (((h.2.2 7 x2.toNatClampNeg) ≤ (h.2.2 7 x1.toNatClampNeg) → Ru mX8_mostOften none d 43 [.ref 5, .int x1, .int (x2 + 1)] [] h Z) ∧ (¬ ((h.2.2 7 x2.toNatClampNeg) ≤ (h.2.2 7 x1.toNatClampNeg)) → Ru mX8_mostOften none d 43 [.ref 5, .int x2, .int (x2 + 1)] [] h Z)))))) : Ru mX8_mostOften none d 43 [.ref 5, .int x1, .int x2] [] h Z := by
  refine st_iload_n dX8_mostOften_43 rfl ?_
  refine st_bipush (v := 26) dX8_mostOften_44 (by decide) ?_
  refine st_icmp_ge (tgt := 72) dX8_mostOften_46 (by decide) (fun c => ?_) (fun c => ?_)
  · replace w := w.1 c
    refine st_iload_n dX8_mostOften_72 rfl ?_
    exact st_ireturn rfl rfl dX8_mostOften_73 w
  · replace w := w.2 c
    refine st_aload_n dX8_mostOften_49 rfl ?_
    refine st_getF (q := 7) fl_X8_13 fk_8_2 rfl dX8_mostOften_50 sh_5 ?_
    refine st_iload_n dX8_mostOften_53 rfl ?_
    have hc1 := w.1
    replace w := w.2
    refine st_iald dX8_mostOften_54 sh_7 hc1 ?_
    refine st_aload_n dX8_mostOften_55 rfl ?_
    refine st_getF (q := 7) fl_X8_13 fk_8_2 rfl dX8_mostOften_56 sh_5 ?_
    refine st_iload_n dX8_mostOften_59 rfl ?_
    have hc2 := w.1
    replace w := w.2
    refine st_iald dX8_mostOften_60 sh_7 hc2 ?_
    refine st_icmp_le (tgt := 66) dX8_mostOften_61 (by decide) (fun c => ?_) (fun c => ?_)
    · replace w := w.1 c
      refine st_iinc (L' := [.ref 5, .int x1, .int (x2 + 1)]) dX8_mostOften_66 rfl rfl (by decide) rfl ?_
      refine st_goto (tgt := 43) dX8_mostOften_69 (by decide) ?_
      exact w
    · replace w := w.2 c
      refine st_iload_n dX8_mostOften_64 rfl ?_
      refine st_istore_n (L' := [.ref 5, .int x2, .int x2]) dX8_mostOften_65 (by decide) rfl ?_
      refine st_iinc (L' := [.ref 5, .int x2, .int (x2 + 1)]) dX8_mostOften_66 rfl rfl (by decide) rfl ?_
      refine st_goto (tgt := 43) dX8_mostOften_69 (by decide) ?_
      exact w
set_option maxRecDepth 20000 in
set_option maxHeartbeats 2000000 in
theorem sX8_isSameFromBehind_0 {d : Nat} {h : am_H} {Z : Int32 → am_H → Prop} {x1 : Int32} {x2 : Int32} (w : Ru mX8_isSameFromBehind none d 2 [.ref 5, .int x1, .int x2, .int 0] [] h Z) : Ru mX8_isSameFromBehind none d 0 [.ref 5, .int x1, .int x2, .null] [] h Z := by
  refine st_iconst (v := 0) dX8_isSameFromBehind_0 (by decide) ?_
  refine st_istore_n (L' := [.ref 5, .int x1, .int x2, .int 0]) dX8_isSameFromBehind_1 (by decide) rfl ?_
  exact w
set_option maxRecDepth 20000 in
set_option maxHeartbeats 2000000 in
theorem sX8_isSameFromBehind_2 {d : Nat} {h : am_H} {Z : Int32 → am_H → Prop} {x1 : Int32} {x2 : Int32} {x3 : Int32} (w : (x2 ≤ (2 * x3) → Z 1 h) ∧ (¬ (x2 ≤ (2 * x3)) → (vp_in (x1 + x3) 64 ∧ (vp_in (((x1 + x2) - 1) - x3) 64 ∧ (((h.2.2 6 (x1 + x3).toNatClampNeg) = (h.2.2 6 (((x1 + x2) - 1) - x3).toNatClampNeg) → Ru mX8_isSameFromBehind none d 2 [.ref 5, .int x1, .int x2, .int (x3 + 1)] [] h Z) ∧ (¬ ((h.2.2 6 (x1 + x3).toNatClampNeg) = (h.2.2 6 (((x1 + x2) - 1) - x3).toNatClampNeg)) → Z 0 h)))))) : Ru mX8_isSameFromBehind none d 2 [.ref 5, .int x1, .int x2, .int x3] [] h Z := by
  refine st_iconst (v := 2) dX8_isSameFromBehind_2 (by decide) ?_
  refine st_iload_n dX8_isSameFromBehind_3 rfl ?_
  refine st_imul dX8_isSameFromBehind_4 ?_
  refine st_iload_n dX8_isSameFromBehind_5 rfl ?_
  refine st_icmp_ge (tgt := 40) dX8_isSameFromBehind_6 (by decide) (fun c => ?_) (fun c => ?_)
  · replace w := w.1 c
    refine st_iconst (v := 1) dX8_isSameFromBehind_40 (by decide) ?_
    exact st_ireturn rfl rfl dX8_isSameFromBehind_41 w
  · replace w := w.2 c
    refine st_aload_n dX8_isSameFromBehind_9 rfl ?_
    refine st_getF (q := 6) fl_X8_9 fk_8_1 rfl dX8_isSameFromBehind_10 sh_5 ?_
    refine st_iload_n dX8_isSameFromBehind_13 rfl ?_
    refine st_iload_n dX8_isSameFromBehind_14 rfl ?_
    refine st_iadd dX8_isSameFromBehind_15 ?_
    have hc1 := w.1
    replace w := w.2
    refine st_iald dX8_isSameFromBehind_16 sh_6 hc1 ?_
    refine st_aload_n dX8_isSameFromBehind_17 rfl ?_
    refine st_getF (q := 6) fl_X8_9 fk_8_1 rfl dX8_isSameFromBehind_18 sh_5 ?_
    refine st_iload_n dX8_isSameFromBehind_21 rfl ?_
    refine st_iload_n dX8_isSameFromBehind_22 rfl ?_
    refine st_iadd dX8_isSameFromBehind_23 ?_
    refine st_iconst (v := 1) dX8_isSameFromBehind_24 (by decide) ?_
    refine st_isub dX8_isSameFromBehind_25 ?_
    refine st_iload_n dX8_isSameFromBehind_26 rfl ?_
    refine st_isub dX8_isSameFromBehind_27 ?_
    have hc2 := w.1
    replace w := w.2
    refine st_iald dX8_isSameFromBehind_28 sh_6 hc2 ?_
    refine st_icmp_eq (tgt := 34) dX8_isSameFromBehind_29 (by decide) (fun c => ?_) (fun c => ?_)
    · replace w := w.1 c
      refine st_iinc (L' := [.ref 5, .int x1, .int x2, .int (x3 + 1)]) dX8_isSameFromBehind_34 rfl rfl (by decide) rfl ?_
      refine st_goto (tgt := 2) dX8_isSameFromBehind_37 (by decide) ?_
      exact w
    · replace w := w.2 c
      refine st_iconst (v := 0) dX8_isSameFromBehind_32 (by decide) ?_
      exact st_ireturn rfl rfl dX8_isSameFromBehind_33 w
set_option maxRecDepth 20000 in
set_option maxHeartbeats 2000000 in
theorem sX8_longestSameFromBehind_0 {d : Nat} {h : am_H} {Z : Int32 → am_H → Prop}  (w : Ru mX8_longestSameFromBehind none d 5 [.ref 5, .int (h.1 5 3), .null] [] h Z) : Ru mX8_longestSameFromBehind none d 0 [.ref 5, .null, .null] [] h Z := by
  refine st_aload_n dX8_longestSameFromBehind_0 rfl ?_
  refine st_getI fl_X8_16 fk_8_3 dX8_longestSameFromBehind_1 sh_5 ?_
  refine st_istore_n (L' := [.ref 5, .int (h.1 5 3), .null]) dX8_longestSameFromBehind_4 (by decide) rfl ?_
  exact w
set_option maxRecDepth 20000 in
set_option maxHeartbeats 2000000 in
theorem sX8_longestSameFromBehind_5 {d : Nat} {h : am_H} {Z : Int32 → am_H → Prop} {x1 : Int32} {u2 : Value} (hd : 1 ≤ d) (w : (x1 ≤ 1 → Z (am_min 1 (h.1 5 3)) h) ∧ (¬ (x1 ≤ 1) → Ru mX8_longestSameFromBehind none d 12 [.ref 5, .int x1, .int 0] [] h Z)) : Ru mX8_longestSameFromBehind none d 5 [.ref 5, .int x1, u2] [] h Z := by
  refine st_iload_n dX8_longestSameFromBehind_5 rfl ?_
  refine st_iconst (v := 1) dX8_longestSameFromBehind_6 (by decide) ?_
  refine st_icmp_le (tgt := 45) dX8_longestSameFromBehind_7 (by decide) (fun c => ?_) (fun c => ?_)
  · replace w := w.1 c
    refine st_iconst (v := 1) dX8_longestSameFromBehind_45 (by decide) ?_
    refine st_aload_n dX8_longestSameFromBehind_46 rfl ?_
    refine st_getI fl_X8_16 fk_8_3 dX8_longestSameFromBehind_47 sh_5 ?_
    refine st_mmin dX8_longestSameFromBehind_50 mk_min_X8_100 (by omega) rfl ?_
    exact st_ireturn rfl rfl dX8_longestSameFromBehind_53 w
  · replace w := w.2 c
    refine st_iconst (v := 0) dX8_longestSameFromBehind_10 (by decide) ?_
    refine st_istore_n (L' := [.ref 5, .int x1, .int 0]) dX8_longestSameFromBehind_11 (by decide) rfl ?_
    exact w
set_option maxRecDepth 20000 in
set_option maxHeartbeats 2000000 in
theorem sX8_longestSameFromBehind_12 {d : Nat} {h : am_H} {Z : Int32 → am_H → Prop} {x1 : Int32} {x2 : Int32} (w : ((h.1 5 3) < (x2 + x1) → Ru mX8_longestSameFromBehind none d 5 [.ref 5, .int (x1 + (-1)), .int x2] [] h Z) ∧ (¬ ((h.1 5 3) < (x2 + x1)) → am_cl mX8_isSameFromBehind d [.ref 5, .int x2, .int x1] h (fun r1 h2 => (r1 = 0 → Ru mX8_longestSameFromBehind none d 12 [.ref 5, .int x1, .int (x2 + 1)] [] h2 Z) ∧ (¬ (r1 = 0) → Z x1 h2)))) : Ru mX8_longestSameFromBehind none d 12 [.ref 5, .int x1, .int x2] [] h Z := by
  refine st_iload_n dX8_longestSameFromBehind_12 rfl ?_
  refine st_iload_n dX8_longestSameFromBehind_13 rfl ?_
  refine st_iadd dX8_longestSameFromBehind_14 ?_
  refine st_aload_n dX8_longestSameFromBehind_15 rfl ?_
  refine st_getI fl_X8_16 fk_8_3 dX8_longestSameFromBehind_16 sh_5 ?_
  refine st_icmp_gt (tgt := 39) dX8_longestSameFromBehind_19 (by decide) (fun c => ?_) (fun c => ?_)
  · replace w := w.1 c
    refine st_iinc (L' := [.ref 5, .int (x1 + (-1)), .int x2]) dX8_longestSameFromBehind_39 rfl rfl (by decide) rfl ?_
    refine st_goto (tgt := 5) dX8_longestSameFromBehind_42 (by decide) ?_
    exact w
  · replace w := w.2 c
    refine st_aload_n dX8_longestSameFromBehind_22 rfl ?_
    refine st_iload_n dX8_longestSameFromBehind_23 rfl ?_
    refine st_iload_n dX8_longestSameFromBehind_24 rfl ?_
    refine st_callV (M' := mX8_isSameFromBehind) [.int x2, .int x1] [] dX8_longestSameFromBehind_25 ml_X8_80 mf_X8_isSameFromBehind mv_X8_isSameFromBehind sh_5 rfl rfl rfl w (fun r1 h2 w => ?_)
    show Ru mX8_longestSameFromBehind none d 28 [.ref 5, .int x1, .int x2] [.int r1] h2 Z
    refine st_if_eq (tgt := 33) dX8_longestSameFromBehind_28 (by decide) (fun c => ?_) (fun c => ?_)
    · replace w := w.1 c
      refine st_iinc (L' := [.ref 5, .int x1, .int (x2 + 1)]) dX8_longestSameFromBehind_33 rfl rfl (by decide) rfl ?_
      refine st_goto (tgt := 12) dX8_longestSameFromBehind_36 (by decide) ?_
      exact w
    · replace w := w.2 c
      refine st_iload_n dX8_longestSameFromBehind_31 rfl ?_
      exact st_ireturn rfl rfl dX8_longestSameFromBehind_32 w
set_option maxRecDepth 20000 in
set_option maxHeartbeats 2000000 in
theorem sX8_told_0 {d : Nat} {h : am_H} {Z : Int32 → am_H → Prop} {x1 : Int32} (w : (x1 = 100 → Z (h.1 5 3) h) ∧ (¬ x1 = 100 → (x1 = 101 → am_cl mX8_mostOften d [.ref 5] h (fun r12 h13 => Z r12 h13)) ∧ (¬ x1 = 101 → (x1 = 102 → am_cl mX8_mostOften d [.ref 5] h (fun r9 h10 => (vp_in r9 26 ∧ (Z (h10.2.2 7 r9.toNatClampNeg) h10)))) ∧ (¬ x1 = 102 → (x1 = 103 → am_cl mX8_bestShift d [.ref 5] h (fun r7 h8 => Z r7 h8)) ∧ (¬ x1 = 103 → (x1 = 104 → am_cl mX8_isSameFromBehind d [.ref 5, .int 0, .int (h.1 5 3)] h (fun r5 h6 => (r5 = 0 → Z 0 h6) ∧ (¬ (r5 = 0) → Z 1 h6))) ∧ (¬ x1 = 104 → (x1 = 105 → am_cl mX8_longestSameFromBehind d [.ref 5] h (fun r3 h4 => Z r3 h4)) ∧ (¬ x1 = 105 → am_cl mX8_vowelsShifted d [.ref 5, .int x1] h (fun r1 h2 => Z r1 h2)))))))) : Ru mX8_told none d 0 [.ref 5, .int x1] [] h Z := by
  refine st_iload_n dX8_told_0 rfl ?_
  by_cases c0 : x1 = 100
  · replace w := w.1 c0
    refine st_tableIn (off := 39) (tgt := 40) dX8_told_1 (by rw [c0]; decide) (by rw [c0]; decide) (by rw [c0]; decide) (by decide) ?_
    refine st_aload_n dX8_told_40 rfl ?_
    refine st_getI fl_X8_16 fk_8_3 dX8_told_41 sh_5 ?_
    exact st_ireturn rfl rfl dX8_told_44 w
  · replace w := w.2 c0
    by_cases c1 : x1 = 101
    · replace w := w.1 c1
      refine st_tableIn (off := 44) (tgt := 45) dX8_told_1 (by rw [c1]; decide) (by rw [c1]; decide) (by rw [c1]; decide) (by decide) ?_
      refine st_aload_n dX8_told_45 rfl ?_
      refine st_callV (M' := mX8_mostOften) [] [] dX8_told_46 ml_X8_74 mf_X8_mostOften mv_X8_mostOften sh_5 rfl rfl rfl w (fun r12 h13 w => ?_)
      show Ru mX8_told none d 49 [.ref 5, .int x1] [.int r12] h13 Z
      exact st_ireturn rfl rfl dX8_told_49 w
    · replace w := w.2 c1
      by_cases c2 : x1 = 102
      · replace w := w.1 c2
        refine st_tableIn (off := 49) (tgt := 50) dX8_told_1 (by rw [c2]; decide) (by rw [c2]; decide) (by rw [c2]; decide) (by decide) ?_
        refine st_aload_n dX8_told_50 rfl ?_
        refine st_getF (q := 7) fl_X8_13 fk_8_2 rfl dX8_told_51 sh_5 ?_
        refine st_aload_n dX8_told_54 rfl ?_
        refine st_callV (M' := mX8_mostOften) [] [.ref 7] dX8_told_55 ml_X8_74 mf_X8_mostOften mv_X8_mostOften sh_5 rfl rfl rfl w (fun r9 h10 w => ?_)
        show Ru mX8_told none d 58 [.ref 5, .int x1] [.int r9, .ref 7] h10 Z
        have hc11 := w.1
        replace w := w.2
        refine st_iald dX8_told_58 sh_7 hc11 ?_
        exact st_ireturn rfl rfl dX8_told_59 w
      · replace w := w.2 c2
        by_cases c3 : x1 = 103
        · replace w := w.1 c3
          refine st_tableIn (off := 59) (tgt := 60) dX8_told_1 (by rw [c3]; decide) (by rw [c3]; decide) (by rw [c3]; decide) (by decide) ?_
          refine st_aload_n dX8_told_60 rfl ?_
          refine st_callV (M' := mX8_bestShift) [] [] dX8_told_61 ml_X8_77 mf_X8_bestShift mv_X8_bestShift sh_5 rfl rfl rfl w (fun r7 h8 w => ?_)
          show Ru mX8_told none d 64 [.ref 5, .int x1] [.int r7] h8 Z
          exact st_ireturn rfl rfl dX8_told_64 w
        · replace w := w.2 c3
          by_cases c4 : x1 = 104
          · replace w := w.1 c4
            refine st_tableIn (off := 64) (tgt := 65) dX8_told_1 (by rw [c4]; decide) (by rw [c4]; decide) (by rw [c4]; decide) (by decide) ?_
            refine st_aload_n dX8_told_65 rfl ?_
            refine st_iconst (v := 0) dX8_told_66 (by decide) ?_
            refine st_aload_n dX8_told_67 rfl ?_
            refine st_getI fl_X8_16 fk_8_3 dX8_told_68 sh_5 ?_
            refine st_callV (M' := mX8_isSameFromBehind) [.int 0, .int (h.1 5 3)] [] dX8_told_71 ml_X8_80 mf_X8_isSameFromBehind mv_X8_isSameFromBehind sh_5 rfl rfl rfl w (fun r5 h6 w => ?_)
            show Ru mX8_told none d 74 [.ref 5, .int x1] [.int r5] h6 Z
            refine st_if_eq (tgt := 81) dX8_told_74 (by decide) (fun c => ?_) (fun c => ?_)
            · replace w := w.1 c
              refine st_iconst (v := 0) dX8_told_81 (by decide) ?_
              exact st_ireturn rfl rfl dX8_told_82 w
            · replace w := w.2 c
              refine st_iconst (v := 1) dX8_told_77 (by decide) ?_
              refine st_goto (tgt := 82) dX8_told_78 (by decide) ?_
              exact st_ireturn rfl rfl dX8_told_82 w
          · replace w := w.2 c4
            by_cases c5 : x1 = 105
            · replace w := w.1 c5
              refine st_tableIn (off := 82) (tgt := 83) dX8_told_1 (by rw [c5]; decide) (by rw [c5]; decide) (by rw [c5]; decide) (by decide) ?_
              refine st_aload_n dX8_told_83 rfl ?_
              refine st_callV (M' := mX8_longestSameFromBehind) [] [] dX8_told_84 ml_X8_84 mf_X8_longestSameFromBehind mv_X8_longestSameFromBehind sh_5 rfl rfl rfl w (fun r3 h4 w => ?_)
              show Ru mX8_told none d 87 [.ref 5, .int x1] [.int r3] h4 Z
              exact st_ireturn rfl rfl dX8_told_87 w
            · replace w := w.2 c5
              refine st_tableOut (tgt := 88) dX8_told_1 (am_tout (lo := 100) (hi := 105) (fun v hv1 hv2 hv => ?_)) (by decide) ?_
              · have hq : v = 100 ∨ v = 101 ∨ v = 102 ∨ v = 103 ∨ v = 104 ∨ v = 105 := by omega
                rcases hq with rfl | rfl | rfl | rfl | rfl | rfl
                · exact c0 (am_toI hv (by decide))
                · exact c1 (am_toI hv (by decide))
                · exact c2 (am_toI hv (by decide))
                · exact c3 (am_toI hv (by decide))
                · exact c4 (am_toI hv (by decide))
                · exact c5 (am_toI hv (by decide))
              · refine st_aload_n dX8_told_88 rfl ?_
                refine st_iload_n dX8_told_89 rfl ?_
                refine st_callV (M' := mX8_vowelsShifted) [.int x1] [] dX8_told_90 ml_X8_87 mf_X8_vowelsShifted mv_X8_vowelsShifted sh_5 rfl rfl rfl w (fun r1 h2 w => ?_)
                show Ru mX8_told none d 93 [.ref 5, .int x1] [.int r1] h2 Z
                exact st_ireturn rfl rfl dX8_told_93 w
set_option maxRecDepth 20000 in
set_option maxHeartbeats 2000000 in
theorem sX10_slip_0 {d : Nat} {h : am_H} {Z : Int32 → am_H → Prop} {x1 : Int32} {x2 : Int32} (hd : 2 ≤ d) (w : ((0 : Int32) ≤ x2 ∧ x2 ≤ (25 : Int32) → Ru mX10_slip none d 21 [.ref 0, .int x1, .int x2, .null, .null] [] h Z) ∧ (¬ ((0 : Int32) ≤ x2 ∧ x2 ≤ (25 : Int32)) → (¬ ((100 : Int32) ≤ x2 ∧ x2 ≤ (105 : Int32)) → Ru mX10_slip none d 26 [.ref 0, .int x1, .int x2, .null, .null] [.int 0] h Z) ∧ ((100 : Int32) ≤ x2 ∧ x2 ≤ (105 : Int32) → Ru mX10_slip none d 21 [.ref 0, .int x1, .int x2, .null, .null] [] h Z))) : Ru mX10_slip none d 0 [.ref 0, .int x1, .int x2, .null, .null] [] h Z := by
  refine st_iload_n dX10_slip_0 rfl ?_
  refine st_iconst (v := 0) dX10_slip_1 (by decide) ?_
  refine st_bipush (v := 25) dX10_slip_2 (by decide) ?_
  refine st_callS (M' := mX10_isFromTo) [.int x2, .int 0, .int 25] [] dX10_slip_4 ml_X10_135 mf_X10_isFromTo ms_X10_isFromTo rfl rfl rfl (K := fun r h' => (am_b ((0 : Int32) ≤ x2 ∧ x2 ≤ (25 : Int32))) = r ∧ h = h') ⟨1, by omega, iX10_isFromTo ⟨rfl, rfl⟩⟩ (fun r1 h1 w1 => ?_)
  obtain ⟨rfl, rfl⟩ := w1
  show Ru mX10_slip none d 7 [.ref 0, .int x1, .int x2, .null, .null] [.int (am_b ((0 : Int32) ≤ x2 ∧ x2 ≤ (25 : Int32)))] h Z
  refine st_ifb_ne (tgt := 21) dX10_slip_7 (by decide) (fun c => ?_) (fun c => ?_)
  · replace w := w.1 c
    exact w
  · replace w := w.2 c
    refine st_iload_n dX10_slip_10 rfl ?_
    refine st_bipush (v := 100) dX10_slip_11 (by decide) ?_
    refine st_bipush (v := 105) dX10_slip_13 (by decide) ?_
    refine st_callS (M' := mX10_isFromTo) [.int x2, .int 100, .int 105] [] dX10_slip_15 ml_X10_135 mf_X10_isFromTo ms_X10_isFromTo rfl rfl rfl (K := fun r h' => (am_b ((100 : Int32) ≤ x2 ∧ x2 ≤ (105 : Int32))) = r ∧ h = h') ⟨1, by omega, iX10_isFromTo ⟨rfl, rfl⟩⟩ (fun r1 h1 w1 => ?_)
    obtain ⟨rfl, rfl⟩ := w1
    show Ru mX10_slip none d 18 [.ref 0, .int x1, .int x2, .null, .null] [.int (am_b ((100 : Int32) ≤ x2 ∧ x2 ≤ (105 : Int32)))] h Z
    refine st_ifb_eq (tgt := 25) dX10_slip_18 (by decide) (fun c => ?_) (fun c => ?_)
    · replace w := w.1 c
      refine st_iconst (v := 0) dX10_slip_25 (by decide) ?_
      exact w
    · replace w := w.2 c
      exact w
set_option maxRecDepth 20000 in
set_option maxHeartbeats 2000000 in
theorem sX10_slip_21 {d : Nat} {h : am_H} {Z : Int32 → am_H → Prop} {x1 : Int32} {x2 : Int32} {u3 : Value} {u4 : Value} (w : Ru mX10_slip none d 26 [.ref 0, .int x1, .int x2, u3, u4] [.int 1] h Z) : Ru mX10_slip none d 21 [.ref 0, .int x1, .int x2, u3, u4] [] h Z := by
  refine st_iconst (v := 1) dX10_slip_21 (by decide) ?_
  refine st_goto (tgt := 26) dX10_slip_22 (by decide) ?_
  exact w
set_option maxRecDepth 20000 in
set_option maxHeartbeats 2000000 in
theorem sX10_slip_26 {d : Nat} {h : am_H} {Z : Int32 → am_H → Prop} {x1 : Int32} {x2 : Int32} {u3 : Value} {u4 : Value} {s0 : Int32} (hd : 2 ≤ d) (w : (s0 = 0 → Z (-1) h) ∧ (¬ (s0 = 0) → (¬ ((1 : Int32) ≤ x1 ∧ x1 ≤ (80 : Int32)) → Z (-1) h) ∧ ((1 : Int32) ≤ x1 ∧ x1 ≤ (80 : Int32) → (x1 ≤ h.1 1 1 → am_cl mX8_read d [.ref 5, .int x1] h (fun r1 h2 => (0 ≤ r1 → am_cl mX8_told d [.ref 5, .int x2] (am_sI h2 1 1 0) (fun r3 h4 => Z r3 h4)) ∧ (¬ (0 ≤ r1) → Z r1 (am_sI h2 1 1 0)))) ∧ (¬ (x1 ≤ h.1 1 1) → Z (-1) h)))) : Ru mX10_slip none d 26 [.ref 0, .int x1, .int x2, u3, u4] [.int s0] h Z := by
  refine st_istore_n (L' := [.ref 0, .int x1, .int x2, .int s0, u4]) dX10_slip_26 (by decide) rfl ?_
  refine st_iload_n dX10_slip_27 rfl ?_
  refine st_if_eq (tgt := 52) dX10_slip_28 (by decide) (fun c => ?_) (fun c => ?_)
  · replace w := w.1 c
    refine st_iconst (v := (-1)) dX10_slip_52 (by decide) ?_
    exact st_ireturn rfl rfl dX10_slip_53 w
  · replace w := w.2 c
    refine st_iload_n dX10_slip_31 rfl ?_
    refine st_iconst (v := 1) dX10_slip_32 (by decide) ?_
    refine st_bipush (v := 80) dX10_slip_33 (by decide) ?_
    refine st_callS (M' := mX10_isFromTo) [.int x1, .int 1, .int 80] [] dX10_slip_35 ml_X10_135 mf_X10_isFromTo ms_X10_isFromTo rfl rfl rfl (K := fun r h' => (am_b ((1 : Int32) ≤ x1 ∧ x1 ≤ (80 : Int32))) = r ∧ h = h') ⟨1, by omega, iX10_isFromTo ⟨rfl, rfl⟩⟩ (fun r1 h1 w1 => ?_)
    obtain ⟨rfl, rfl⟩ := w1
    show Ru mX10_slip none d 38 [.ref 0, .int x1, .int x2, .int s0, u4] [.int (am_b ((1 : Int32) ≤ x1 ∧ x1 ≤ (80 : Int32)))] h Z
    refine st_ifb_eq (tgt := 52) dX10_slip_38 (by decide) (fun c => ?_) (fun c => ?_)
    · replace w := w.1 c
      refine st_iconst (v := (-1)) dX10_slip_52 (by decide) ?_
      exact st_ireturn rfl rfl dX10_slip_53 w
    · replace w := w.2 c
      refine st_aload_n dX10_slip_41 rfl ?_
      refine st_getF (q := 1) fl_X10_10 fk_10_0 rfl dX10_slip_42 sh_0 ?_
      refine st_iload_n dX10_slip_45 rfl ?_
      refine st_callV (M' := mX9_holds) [.int x1] [] dX10_slip_46 ml_X10_139 mf_X9_holds mv_X9_holds sh_1 rfl rfl rfl (K := fun r h' => (am_b (x1 ≤ h.1 1 1)) = r ∧ h = h') ⟨1, by omega, iX9_holds ⟨rfl, rfl⟩⟩ (fun r1 h1 w1 => ?_)
      obtain ⟨rfl, rfl⟩ := w1
      show Ru mX10_slip none d 49 [.ref 0, .int x1, .int x2, .int s0, u4] [.int (am_b (x1 ≤ h.1 1 1))] h Z
      refine st_ifb_ne (tgt := 54) dX10_slip_49 (by decide) (fun c => ?_) (fun c => ?_)
      · replace w := w.1 c
        refine st_aload_n dX10_slip_54 rfl ?_
        refine st_getF (q := 5) fl_X10_37 fk_10_4 rfl dX10_slip_55 sh_0 ?_
        refine st_iload_n dX10_slip_58 rfl ?_
        refine st_callV (M' := mX8_read) [.int x1] [] dX10_slip_59 ml_X10_222 mf_X8_read mv_X8_read sh_5 rfl rfl rfl w (fun r1 h2 w => ?_)
        show Ru mX10_slip none d 62 [.ref 0, .int x1, .int x2, .int s0, u4] [.int r1] h2 Z
        refine st_istore (L' := [.ref 0, .int x1, .int x2, .int s0, .int r1]) dX10_slip_62 (by decide) rfl ?_
        refine st_aload_n dX10_slip_64 rfl ?_
        refine st_getF (q := 1) fl_X10_10 fk_10_0 rfl dX10_slip_65 sh_0 ?_
        refine st_callV (M' := mX9_clear) [] [] dX10_slip_68 ml_X10_146 mf_X9_clear mv_X9_clear sh_1 rfl rfl rfl (K := fun r h' => 0 = r ∧ am_sI h2 1 1 0 = h') ⟨1, by omega, iX9_clear ⟨rfl, rfl⟩⟩ (fun r1 h1 w1 => ?_)
        obtain ⟨rfl, rfl⟩ := w1
        show Ru mX10_slip none d 71 [.ref 0, .int x1, .int x2, .int s0, .int r1] [] (am_sI h2 1 1 0) Z
        refine st_iload dX10_slip_71 rfl ?_
        refine st_if_ge (tgt := 81) dX10_slip_73 (by decide) (fun c => ?_) (fun c => ?_)
        · replace w := w.1 c
          refine st_aload_n dX10_slip_81 rfl ?_
          refine st_getF (q := 5) fl_X10_37 fk_10_4 rfl dX10_slip_82 sh_0 ?_
          refine st_iload_n dX10_slip_85 rfl ?_
          refine st_callV (M' := mX8_told) [.int x2] [] dX10_slip_86 ml_X10_224 mf_X8_told mv_X8_told sh_5 rfl rfl rfl w (fun r3 h4 w => ?_)
          show Ru mX10_slip none d 89 [.ref 0, .int x1, .int x2, .int s0, .int r1] [.int r3] h4 Z
          exact st_ireturn rfl rfl dX10_slip_89 w
        · replace w := w.2 c
          refine st_iload dX10_slip_76 rfl ?_
          refine st_goto (tgt := 89) dX10_slip_78 (by decide) ?_
          exact st_ireturn rfl rfl dX10_slip_89 w
      · replace w := w.2 c
        refine st_iconst (v := (-1)) dX10_slip_52 (by decide) ?_
        exact st_ireturn rfl rfl dX10_slip_53 w
set_option maxRecDepth 20000 in
set_option maxHeartbeats 2000000 in
theorem sX11_oftenOf_0 {d : Nat} {h : am_H} {Z : Int32 → am_H → Prop} {x1 : Int32} (w : Ru mX11_oftenOf none d 4 [.ref 73, .int x1, .int 0, .int 0] [] h Z) : Ru mX11_oftenOf none d 0 [.ref 73, .int x1, .null, .null] [] h Z := by
  refine st_iconst (v := 0) dX11_oftenOf_0 (by decide) ?_
  refine st_istore_n (L' := [.ref 73, .int x1, .int 0, .null]) dX11_oftenOf_1 (by decide) rfl ?_
  refine st_iconst (v := 0) dX11_oftenOf_2 (by decide) ?_
  refine st_istore_n (L' := [.ref 73, .int x1, .int 0, .int 0]) dX11_oftenOf_3 (by decide) rfl ?_
  exact w
set_option maxRecDepth 20000 in
set_option maxHeartbeats 2000000 in
theorem sX11_oftenOf_4 {d : Nat} {h : am_H} {Z : Int32 → am_H → Prop} {x1 : Int32} {x2 : Int32} {x3 : Int32} (w : ((h.1 73 49) ≤ x3 → Z x2 h) ∧ (¬ ((h.1 73 49) ≤ x3) → (vp_in x3 64 ∧ ((¬ (h.2.2 101 x3.toNatClampNeg) = x1 → Ru mX11_oftenOf none d 4 [.ref 73, .int x1, .int x2, .int (x3 + 1)] [] h Z) ∧ ((h.2.2 101 x3.toNatClampNeg) = x1 → Ru mX11_oftenOf none d 4 [.ref 73, .int x1, .int (x2 + 1), .int (x3 + 1)] [] h Z))))) : Ru mX11_oftenOf none d 4 [.ref 73, .int x1, .int x2, .int x3] [] h Z := by
  refine st_iload_n dX11_oftenOf_4 rfl ?_
  refine st_aload_n dX11_oftenOf_5 rfl ?_
  refine st_getI fl_X11_352 fk_11_49 dX11_oftenOf_6 sh_73 ?_
  refine st_icmp_ge (tgt := 32) dX11_oftenOf_9 (by decide) (fun c => ?_) (fun c => ?_)
  · replace w := w.1 c
    refine st_iload_n dX11_oftenOf_32 rfl ?_
    exact st_ireturn rfl rfl dX11_oftenOf_33 w
  · replace w := w.2 c
    refine st_aload_n dX11_oftenOf_12 rfl ?_
    refine st_getF (q := 101) fl_X11_92 fk_11_45 rfl dX11_oftenOf_13 sh_73 ?_
    refine st_iload_n dX11_oftenOf_16 rfl ?_
    have hc1 := w.1
    replace w := w.2
    refine st_iald dX11_oftenOf_17 sh_101 hc1 ?_
    refine st_iload_n dX11_oftenOf_18 rfl ?_
    refine st_icmp_ne (tgt := 26) dX11_oftenOf_19 (by decide) (fun c => ?_) (fun c => ?_)
    · replace w := w.1 c
      refine st_iinc (L' := [.ref 73, .int x1, .int x2, .int (x3 + 1)]) dX11_oftenOf_26 rfl rfl (by decide) rfl ?_
      refine st_goto (tgt := 4) dX11_oftenOf_29 (by decide) ?_
      exact w
    · replace w := w.2 c
      refine st_iload_n dX11_oftenOf_22 rfl ?_
      refine st_iconst (v := 1) dX11_oftenOf_23 (by decide) ?_
      refine st_iadd dX11_oftenOf_24 ?_
      refine st_istore_n (L' := [.ref 73, .int x1, .int (x2 + 1), .int x3]) dX11_oftenOf_25 (by decide) rfl ?_
      refine st_iinc (L' := [.ref 73, .int x1, .int (x2 + 1), .int (x3 + 1)]) dX11_oftenOf_26 rfl rfl (by decide) rfl ?_
      refine st_goto (tgt := 4) dX11_oftenOf_29 (by decide) ?_
      exact w
set_option maxRecDepth 20000 in
set_option maxHeartbeats 2000000 in
theorem sX11_mostOften_0 {d : Nat} {h : am_H} {Z : Int32 → am_H → Prop}  (w : Ru mX11_mostOften none d 4 [.ref 73, .int 0, .int 1] [] h Z) : Ru mX11_mostOften none d 0 [.ref 73, .null, .null] [] h Z := by
  refine st_iconst (v := 0) dX11_mostOften_0 (by decide) ?_
  refine st_istore_n (L' := [.ref 73, .int 0, .null]) dX11_mostOften_1 (by decide) rfl ?_
  refine st_iconst (v := 1) dX11_mostOften_2 (by decide) ?_
  refine st_istore_n (L' := [.ref 73, .int 0, .int 1]) dX11_mostOften_3 (by decide) rfl ?_
  exact w
set_option maxRecDepth 20000 in
set_option maxHeartbeats 2000000 in
theorem sX11_mostOften_4 {d : Nat} {h : am_H} {Z : Int32 → am_H → Prop} {x1 : Int32} {x2 : Int32} (w : (26 ≤ x2 → Z x1 h) ∧ (¬ (26 ≤ x2) → am_cl mX11_oftenOf d [.ref 73, .int x2] h (fun r1 h2 => am_cl mX11_oftenOf d [.ref 73, .int x1] h2 (fun r3 h4 => (r1 ≤ r3 → Ru mX11_mostOften none d 4 [.ref 73, .int x1, .int (x2 + 1)] [] h4 Z) ∧ (¬ (r1 ≤ r3) → Ru mX11_mostOften none d 4 [.ref 73, .int x2, .int (x2 + 1)] [] h4 Z))))) : Ru mX11_mostOften none d 4 [.ref 73, .int x1, .int x2] [] h Z := by
  refine st_iload_n dX11_mostOften_4 rfl ?_
  refine st_bipush (v := 26) dX11_mostOften_5 (by decide) ?_
  refine st_icmp_ge (tgt := 31) dX11_mostOften_7 (by decide) (fun c => ?_) (fun c => ?_)
  · replace w := w.1 c
    refine st_iload_n dX11_mostOften_31 rfl ?_
    exact st_ireturn rfl rfl dX11_mostOften_32 w
  · replace w := w.2 c
    refine st_aload_n dX11_mostOften_10 rfl ?_
    refine st_iload_n dX11_mostOften_11 rfl ?_
    refine st_callV (M' := mX11_oftenOf) [.int x2] [] dX11_mostOften_12 ml_X11_364 mf_X11_oftenOf mv_X11_oftenOf sh_73 rfl rfl rfl w (fun r1 h2 w => ?_)
    show Ru mX11_mostOften none d 15 [.ref 73, .int x1, .int x2] [.int r1] h2 Z
    refine st_aload_n dX11_mostOften_15 rfl ?_
    refine st_iload_n dX11_mostOften_16 rfl ?_
    refine st_callV (M' := mX11_oftenOf) [.int x1] [.int r1] dX11_mostOften_17 ml_X11_364 mf_X11_oftenOf mv_X11_oftenOf sh_73 rfl rfl rfl w (fun r3 h4 w => ?_)
    show Ru mX11_mostOften none d 20 [.ref 73, .int x1, .int x2] [.int r3, .int r1] h4 Z
    refine st_icmp_le (tgt := 25) dX11_mostOften_20 (by decide) (fun c => ?_) (fun c => ?_)
    · replace w := w.1 c
      refine st_iinc (L' := [.ref 73, .int x1, .int (x2 + 1)]) dX11_mostOften_25 rfl rfl (by decide) rfl ?_
      refine st_goto (tgt := 4) dX11_mostOften_28 (by decide) ?_
      exact w
    · replace w := w.2 c
      refine st_iload_n dX11_mostOften_23 rfl ?_
      refine st_istore_n (L' := [.ref 73, .int x2, .int x2]) dX11_mostOften_24 (by decide) rfl ?_
      refine st_iinc (L' := [.ref 73, .int x2, .int (x2 + 1)]) dX11_mostOften_25 rfl rfl (by decide) rfl ?_
      refine st_goto (tgt := 4) dX11_mostOften_28 (by decide) ?_
      exact w
set_option maxRecDepth 20000 in
set_option maxHeartbeats 2000000 in
theorem sX11_vowelsBy_0 {d : Nat} {h : am_H} {Z : Int32 → am_H → Prop} {x1 : Int32} (w : Ru mX11_vowelsBy none d 4 [.ref 73, .int x1, .int 0, .int 0, .null] [] h Z) : Ru mX11_vowelsBy none d 0 [.ref 73, .int x1, .null, .null, .null] [] h Z := by
  refine st_iconst (v := 0) dX11_vowelsBy_0 (by decide) ?_
  refine st_istore_n (L' := [.ref 73, .int x1, .int 0, .null, .null]) dX11_vowelsBy_1 (by decide) rfl ?_
  refine st_iconst (v := 0) dX11_vowelsBy_2 (by decide) ?_
  refine st_istore_n (L' := [.ref 73, .int x1, .int 0, .int 0, .null]) dX11_vowelsBy_3 (by decide) rfl ?_
  exact w
set_option maxRecDepth 20000 in
set_option maxHeartbeats 2000000 in
theorem sX11_vowelsBy_4 {d : Nat} {h : am_H} {Z : Int32 → am_H → Prop} {x1 : Int32} {x2 : Int32} {x3 : Int32} {u4 : Value} (w : ((h.1 73 49) ≤ x3 → Z x2 h) ∧ (¬ ((h.1 73 49) ≤ x3) → (vp_in x3 64 ∧ (((am_rem ((h.2.2 101 x3.toNatClampNeg) + x1) 26) = 0 → Ru mX11_vowelsBy none d 4 [.ref 73, .int x1, .int (x2 + 1), .int (x3 + 1), .int (am_rem ((h.2.2 101 x3.toNatClampNeg) + x1) 26)] [] h Z) ∧ (¬ ((am_rem ((h.2.2 101 x3.toNatClampNeg) + x1) 26) = 0) → ((am_rem ((h.2.2 101 x3.toNatClampNeg) + x1) 26) = 4 → Ru mX11_vowelsBy none d 4 [.ref 73, .int x1, .int (x2 + 1), .int (x3 + 1), .int (am_rem ((h.2.2 101 x3.toNatClampNeg) + x1) 26)] [] h Z) ∧ (¬ ((am_rem ((h.2.2 101 x3.toNatClampNeg) + x1) 26) = 4) → ((am_rem ((h.2.2 101 x3.toNatClampNeg) + x1) 26) = 8 → Ru mX11_vowelsBy none d 4 [.ref 73, .int x1, .int (x2 + 1), .int (x3 + 1), .int (am_rem ((h.2.2 101 x3.toNatClampNeg) + x1) 26)] [] h Z) ∧ (¬ ((am_rem ((h.2.2 101 x3.toNatClampNeg) + x1) 26) = 8) → ((am_rem ((h.2.2 101 x3.toNatClampNeg) + x1) 26) = 14 → Ru mX11_vowelsBy none d 4 [.ref 73, .int x1, .int (x2 + 1), .int (x3 + 1), .int (am_rem ((h.2.2 101 x3.toNatClampNeg) + x1) 26)] [] h Z) ∧ (¬ ((am_rem ((h.2.2 101 x3.toNatClampNeg) + x1) 26) = 14) → (¬ (am_rem ((h.2.2 101 x3.toNatClampNeg) + x1) 26) = 20 → Ru mX11_vowelsBy none d 4 [.ref 73, .int x1, .int x2, .int (x3 + 1), .int (am_rem ((h.2.2 101 x3.toNatClampNeg) + x1) 26)] [] h Z) ∧ ((am_rem ((h.2.2 101 x3.toNatClampNeg) + x1) 26) = 20 → Ru mX11_vowelsBy none d 4 [.ref 73, .int x1, .int (x2 + 1), .int (x3 + 1), .int (am_rem ((h.2.2 101 x3.toNatClampNeg) + x1) 26)] [] h Z))))))))) : Ru mX11_vowelsBy none d 4 [.ref 73, .int x1, .int x2, .int x3, u4] [] h Z := by
  refine st_iload_n dX11_vowelsBy_4 rfl ?_
  refine st_aload_n dX11_vowelsBy_5 rfl ?_
  refine st_getI fl_X11_352 fk_11_49 dX11_vowelsBy_6 sh_73 ?_
  refine st_icmp_ge (tgt := 67) dX11_vowelsBy_9 (by decide) (fun c => ?_) (fun c => ?_)
  · replace w := w.1 c
    refine st_iload_n dX11_vowelsBy_67 rfl ?_
    exact st_ireturn rfl rfl dX11_vowelsBy_68 w
  · replace w := w.2 c
    refine st_aload_n dX11_vowelsBy_12 rfl ?_
    refine st_getF (q := 101) fl_X11_92 fk_11_45 rfl dX11_vowelsBy_13 sh_73 ?_
    refine st_iload_n dX11_vowelsBy_16 rfl ?_
    have hc1 := w.1
    replace w := w.2
    refine st_iald dX11_vowelsBy_17 sh_101 hc1 ?_
    refine st_iload_n dX11_vowelsBy_18 rfl ?_
    refine st_iadd dX11_vowelsBy_19 ?_
    refine st_bipush (v := 26) dX11_vowelsBy_20 (by decide) ?_
    refine st_irem dX11_vowelsBy_22 (by decide) ?_
    refine st_istore (L' := [.ref 73, .int x1, .int x2, .int x3, .int (am_rem ((h.2.2 101 x3.toNatClampNeg) + x1) 26)]) dX11_vowelsBy_23 (by decide) rfl ?_
    refine st_iload dX11_vowelsBy_25 rfl ?_
    refine st_if_eq (tgt := 57) dX11_vowelsBy_27 (by decide) (fun c => ?_) (fun c => ?_)
    · replace w := w.1 c
      refine st_iload_n dX11_vowelsBy_57 rfl ?_
      refine st_iconst (v := 1) dX11_vowelsBy_58 (by decide) ?_
      refine st_iadd dX11_vowelsBy_59 ?_
      refine st_istore_n (L' := [.ref 73, .int x1, .int (x2 + 1), .int x3, .int (am_rem ((h.2.2 101 x3.toNatClampNeg) + x1) 26)]) dX11_vowelsBy_60 (by decide) rfl ?_
      refine st_iinc (L' := [.ref 73, .int x1, .int (x2 + 1), .int (x3 + 1), .int (am_rem ((h.2.2 101 x3.toNatClampNeg) + x1) 26)]) dX11_vowelsBy_61 rfl rfl (by decide) rfl ?_
      refine st_goto (tgt := 4) dX11_vowelsBy_64 (by decide) ?_
      exact w
    · replace w := w.2 c
      refine st_iload dX11_vowelsBy_30 rfl ?_
      refine st_iconst (v := 4) dX11_vowelsBy_32 (by decide) ?_
      refine st_icmp_eq (tgt := 57) dX11_vowelsBy_33 (by decide) (fun c => ?_) (fun c => ?_)
      · replace w := w.1 c
        refine st_iload_n dX11_vowelsBy_57 rfl ?_
        refine st_iconst (v := 1) dX11_vowelsBy_58 (by decide) ?_
        refine st_iadd dX11_vowelsBy_59 ?_
        refine st_istore_n (L' := [.ref 73, .int x1, .int (x2 + 1), .int x3, .int (am_rem ((h.2.2 101 x3.toNatClampNeg) + x1) 26)]) dX11_vowelsBy_60 (by decide) rfl ?_
        refine st_iinc (L' := [.ref 73, .int x1, .int (x2 + 1), .int (x3 + 1), .int (am_rem ((h.2.2 101 x3.toNatClampNeg) + x1) 26)]) dX11_vowelsBy_61 rfl rfl (by decide) rfl ?_
        refine st_goto (tgt := 4) dX11_vowelsBy_64 (by decide) ?_
        exact w
      · replace w := w.2 c
        refine st_iload dX11_vowelsBy_36 rfl ?_
        refine st_bipush (v := 8) dX11_vowelsBy_38 (by decide) ?_
        refine st_icmp_eq (tgt := 57) dX11_vowelsBy_40 (by decide) (fun c => ?_) (fun c => ?_)
        · replace w := w.1 c
          refine st_iload_n dX11_vowelsBy_57 rfl ?_
          refine st_iconst (v := 1) dX11_vowelsBy_58 (by decide) ?_
          refine st_iadd dX11_vowelsBy_59 ?_
          refine st_istore_n (L' := [.ref 73, .int x1, .int (x2 + 1), .int x3, .int (am_rem ((h.2.2 101 x3.toNatClampNeg) + x1) 26)]) dX11_vowelsBy_60 (by decide) rfl ?_
          refine st_iinc (L' := [.ref 73, .int x1, .int (x2 + 1), .int (x3 + 1), .int (am_rem ((h.2.2 101 x3.toNatClampNeg) + x1) 26)]) dX11_vowelsBy_61 rfl rfl (by decide) rfl ?_
          refine st_goto (tgt := 4) dX11_vowelsBy_64 (by decide) ?_
          exact w
        · replace w := w.2 c
          refine st_iload dX11_vowelsBy_43 rfl ?_
          refine st_bipush (v := 14) dX11_vowelsBy_45 (by decide) ?_
          refine st_icmp_eq (tgt := 57) dX11_vowelsBy_47 (by decide) (fun c => ?_) (fun c => ?_)
          · replace w := w.1 c
            refine st_iload_n dX11_vowelsBy_57 rfl ?_
            refine st_iconst (v := 1) dX11_vowelsBy_58 (by decide) ?_
            refine st_iadd dX11_vowelsBy_59 ?_
            refine st_istore_n (L' := [.ref 73, .int x1, .int (x2 + 1), .int x3, .int (am_rem ((h.2.2 101 x3.toNatClampNeg) + x1) 26)]) dX11_vowelsBy_60 (by decide) rfl ?_
            refine st_iinc (L' := [.ref 73, .int x1, .int (x2 + 1), .int (x3 + 1), .int (am_rem ((h.2.2 101 x3.toNatClampNeg) + x1) 26)]) dX11_vowelsBy_61 rfl rfl (by decide) rfl ?_
            refine st_goto (tgt := 4) dX11_vowelsBy_64 (by decide) ?_
            exact w
          · replace w := w.2 c
            refine st_iload dX11_vowelsBy_50 rfl ?_
            refine st_bipush (v := 20) dX11_vowelsBy_52 (by decide) ?_
            refine st_icmp_ne (tgt := 61) dX11_vowelsBy_54 (by decide) (fun c => ?_) (fun c => ?_)
            · replace w := w.1 c
              refine st_iinc (L' := [.ref 73, .int x1, .int x2, .int (x3 + 1), .int (am_rem ((h.2.2 101 x3.toNatClampNeg) + x1) 26)]) dX11_vowelsBy_61 rfl rfl (by decide) rfl ?_
              refine st_goto (tgt := 4) dX11_vowelsBy_64 (by decide) ?_
              exact w
            · replace w := w.2 c
              refine st_iload_n dX11_vowelsBy_57 rfl ?_
              refine st_iconst (v := 1) dX11_vowelsBy_58 (by decide) ?_
              refine st_iadd dX11_vowelsBy_59 ?_
              refine st_istore_n (L' := [.ref 73, .int x1, .int (x2 + 1), .int x3, .int (am_rem ((h.2.2 101 x3.toNatClampNeg) + x1) 26)]) dX11_vowelsBy_60 (by decide) rfl ?_
              refine st_iinc (L' := [.ref 73, .int x1, .int (x2 + 1), .int (x3 + 1), .int (am_rem ((h.2.2 101 x3.toNatClampNeg) + x1) 26)]) dX11_vowelsBy_61 rfl rfl (by decide) rfl ?_
              refine st_goto (tgt := 4) dX11_vowelsBy_64 (by decide) ?_
              exact w
set_option maxRecDepth 20000 in
set_option maxHeartbeats 2000000 in
theorem sX11_bestShift_0 {d : Nat} {h : am_H} {Z : Int32 → am_H → Prop}  (w : Ru mX11_bestShift none d 4 [.ref 73, .int 0, .int 1] [] h Z) : Ru mX11_bestShift none d 0 [.ref 73, .null, .null] [] h Z := by
  refine st_iconst (v := 0) dX11_bestShift_0 (by decide) ?_
  refine st_istore_n (L' := [.ref 73, .int 0, .null]) dX11_bestShift_1 (by decide) rfl ?_
  refine st_iconst (v := 1) dX11_bestShift_2 (by decide) ?_
  refine st_istore_n (L' := [.ref 73, .int 0, .int 1]) dX11_bestShift_3 (by decide) rfl ?_
  exact w
set_option maxRecDepth 20000 in
set_option maxHeartbeats 2000000 in
theorem sX11_bestShift_4 {d : Nat} {h : am_H} {Z : Int32 → am_H → Prop} {x1 : Int32} {x2 : Int32} (w : (26 ≤ x2 → Z x1 h) ∧ (¬ (26 ≤ x2) → am_cl mX11_vowelsBy d [.ref 73, .int x2] h (fun r1 h2 => am_cl mX11_vowelsBy d [.ref 73, .int x1] h2 (fun r3 h4 => (r1 ≤ r3 → Ru mX11_bestShift none d 4 [.ref 73, .int x1, .int (x2 + 1)] [] h4 Z) ∧ (¬ (r1 ≤ r3) → Ru mX11_bestShift none d 4 [.ref 73, .int x2, .int (x2 + 1)] [] h4 Z))))) : Ru mX11_bestShift none d 4 [.ref 73, .int x1, .int x2] [] h Z := by
  refine st_iload_n dX11_bestShift_4 rfl ?_
  refine st_bipush (v := 26) dX11_bestShift_5 (by decide) ?_
  refine st_icmp_ge (tgt := 31) dX11_bestShift_7 (by decide) (fun c => ?_) (fun c => ?_)
  · replace w := w.1 c
    refine st_iload_n dX11_bestShift_31 rfl ?_
    exact st_ireturn rfl rfl dX11_bestShift_32 w
  · replace w := w.2 c
    refine st_aload_n dX11_bestShift_10 rfl ?_
    refine st_iload_n dX11_bestShift_11 rfl ?_
    refine st_callV (M' := mX11_vowelsBy) [.int x2] [] dX11_bestShift_12 ml_X11_367 mf_X11_vowelsBy mv_X11_vowelsBy sh_73 rfl rfl rfl w (fun r1 h2 w => ?_)
    show Ru mX11_bestShift none d 15 [.ref 73, .int x1, .int x2] [.int r1] h2 Z
    refine st_aload_n dX11_bestShift_15 rfl ?_
    refine st_iload_n dX11_bestShift_16 rfl ?_
    refine st_callV (M' := mX11_vowelsBy) [.int x1] [.int r1] dX11_bestShift_17 ml_X11_367 mf_X11_vowelsBy mv_X11_vowelsBy sh_73 rfl rfl rfl w (fun r3 h4 w => ?_)
    show Ru mX11_bestShift none d 20 [.ref 73, .int x1, .int x2] [.int r3, .int r1] h4 Z
    refine st_icmp_le (tgt := 25) dX11_bestShift_20 (by decide) (fun c => ?_) (fun c => ?_)
    · replace w := w.1 c
      refine st_iinc (L' := [.ref 73, .int x1, .int (x2 + 1)]) dX11_bestShift_25 rfl rfl (by decide) rfl ?_
      refine st_goto (tgt := 4) dX11_bestShift_28 (by decide) ?_
      exact w
    · replace w := w.2 c
      refine st_iload_n dX11_bestShift_23 rfl ?_
      refine st_istore_n (L' := [.ref 73, .int x2, .int x2]) dX11_bestShift_24 (by decide) rfl ?_
      refine st_iinc (L' := [.ref 73, .int x2, .int (x2 + 1)]) dX11_bestShift_25 rfl rfl (by decide) rfl ?_
      refine st_goto (tgt := 4) dX11_bestShift_28 (by decide) ?_
      exact w
set_option maxRecDepth 20000 in
set_option maxHeartbeats 2000000 in
theorem sX11_isLike_0 {d : Nat} {h : am_H} {Z : Int32 → am_H → Prop} {x1 : Int32} {x2 : Int32} (w : Ru mX11_isLike none d 5 [.ref 73, .int x1, .int x2, .int x1, .int x2] [] h Z) : Ru mX11_isLike none d 0 [.ref 73, .int x1, .int x2, .null, .null] [] h Z := by
  refine st_iload_n dX11_isLike_0 rfl ?_
  refine st_istore_n (L' := [.ref 73, .int x1, .int x2, .int x1, .null]) dX11_isLike_1 (by decide) rfl ?_
  refine st_iload_n dX11_isLike_2 rfl ?_
  refine st_istore (L' := [.ref 73, .int x1, .int x2, .int x1, .int x2]) dX11_isLike_3 (by decide) rfl ?_
  exact w
set_option maxRecDepth 20000 in
set_option maxHeartbeats 2000000 in
theorem sX11_isLike_5 {d : Nat} {h : am_H} {Z : Int32 → am_H → Prop} {u1 : Value} {u2 : Value} {x3 : Int32} {x4 : Int32} (w : (x4 ≤ x3 → (x3 < x4 → Z 0 h) ∧ (¬ (x3 < x4) → Z 1 h)) ∧ (¬ (x4 ≤ x3) → (vp_in x3 64 ∧ (vp_in x4 64 ∧ ((¬ (h.2.2 101 x3.toNatClampNeg) = (h.2.2 101 x4.toNatClampNeg) → (x3 < x4 → Z 0 h) ∧ (¬ (x3 < x4) → Z 1 h)) ∧ ((h.2.2 101 x3.toNatClampNeg) = (h.2.2 101 x4.toNatClampNeg) → Ru mX11_isLike none d 5 [.ref 73, u1, u2, .int (x3 + 1), .int (x4 - 1)] [] h Z)))))) : Ru mX11_isLike none d 5 [.ref 73, u1, u2, .int x3, .int x4] [] h Z := by
  refine st_iload_n dX11_isLike_5 rfl ?_
  refine st_iload dX11_isLike_6 rfl ?_
  refine st_icmp_ge (tgt := 40) dX11_isLike_8 (by decide) (fun c => ?_) (fun c => ?_)
  · replace w := w.1 c
    refine st_iload_n dX11_isLike_40 rfl ?_
    refine st_iload dX11_isLike_41 rfl ?_
    refine st_icmp_lt (tgt := 50) dX11_isLike_43 (by decide) (fun c => ?_) (fun c => ?_)
    · replace w := w.1 c
      refine st_iconst (v := 0) dX11_isLike_50 (by decide) ?_
      exact st_ireturn rfl rfl dX11_isLike_51 w
    · replace w := w.2 c
      refine st_iconst (v := 1) dX11_isLike_46 (by decide) ?_
      refine st_goto (tgt := 51) dX11_isLike_47 (by decide) ?_
      exact st_ireturn rfl rfl dX11_isLike_51 w
  · replace w := w.2 c
    refine st_aload_n dX11_isLike_11 rfl ?_
    refine st_getF (q := 101) fl_X11_92 fk_11_45 rfl dX11_isLike_12 sh_73 ?_
    refine st_iload_n dX11_isLike_15 rfl ?_
    have hc1 := w.1
    replace w := w.2
    refine st_iald dX11_isLike_16 sh_101 hc1 ?_
    refine st_aload_n dX11_isLike_17 rfl ?_
    refine st_getF (q := 101) fl_X11_92 fk_11_45 rfl dX11_isLike_18 sh_73 ?_
    refine st_iload dX11_isLike_21 rfl ?_
    have hc2 := w.1
    replace w := w.2
    refine st_iald dX11_isLike_23 sh_101 hc2 ?_
    refine st_icmp_ne (tgt := 40) dX11_isLike_24 (by decide) (fun c => ?_) (fun c => ?_)
    · replace w := w.1 c
      refine st_iload_n dX11_isLike_40 rfl ?_
      refine st_iload dX11_isLike_41 rfl ?_
      refine st_icmp_lt (tgt := 50) dX11_isLike_43 (by decide) (fun c => ?_) (fun c => ?_)
      · replace w := w.1 c
        refine st_iconst (v := 0) dX11_isLike_50 (by decide) ?_
        exact st_ireturn rfl rfl dX11_isLike_51 w
      · replace w := w.2 c
        refine st_iconst (v := 1) dX11_isLike_46 (by decide) ?_
        refine st_goto (tgt := 51) dX11_isLike_47 (by decide) ?_
        exact st_ireturn rfl rfl dX11_isLike_51 w
    · replace w := w.2 c
      refine st_iload_n dX11_isLike_27 rfl ?_
      refine st_iconst (v := 1) dX11_isLike_28 (by decide) ?_
      refine st_iadd dX11_isLike_29 ?_
      refine st_istore_n (L' := [.ref 73, u1, u2, .int (x3 + 1), .int x4]) dX11_isLike_30 (by decide) rfl ?_
      refine st_iload dX11_isLike_31 rfl ?_
      refine st_iconst (v := 1) dX11_isLike_33 (by decide) ?_
      refine st_isub dX11_isLike_34 ?_
      refine st_istore (L' := [.ref 73, u1, u2, .int (x3 + 1), .int (x4 - 1)]) dX11_isLike_35 (by decide) rfl ?_
      refine st_goto (tgt := 5) dX11_isLike_37 (by decide) ?_
      exact w
set_option maxRecDepth 20000 in
set_option maxHeartbeats 2000000 in
theorem sX11_longestLike_0 {d : Nat} {h : am_H} {Z : Int32 → am_H → Prop}  (w : Ru mX11_longestLike none d 4 [.ref 73, .int 0, .int 0, .null] [] h Z) : Ru mX11_longestLike none d 0 [.ref 73, .null, .null, .null] [] h Z := by
  refine st_iconst (v := 0) dX11_longestLike_0 (by decide) ?_
  refine st_istore_n (L' := [.ref 73, .int 0, .null, .null]) dX11_longestLike_1 (by decide) rfl ?_
  refine st_iconst (v := 0) dX11_longestLike_2 (by decide) ?_
  refine st_istore_n (L' := [.ref 73, .int 0, .int 0, .null]) dX11_longestLike_3 (by decide) rfl ?_
  exact w
set_option maxRecDepth 20000 in
set_option maxHeartbeats 2000000 in
theorem sX11_longestLike_4 {d : Nat} {h : am_H} {Z : Int32 → am_H → Prop} {x1 : Int32} {x2 : Int32} {u3 : Value} (w : ((h.1 73 49) ≤ x2 → Z x1 h) ∧ (¬ ((h.1 73 49) ≤ x2) → Ru mX11_longestLike none d 14 [.ref 73, .int x1, .int x2, .int x2] [] h Z)) : Ru mX11_longestLike none d 4 [.ref 73, .int x1, .int x2, u3] [] h Z := by
  refine st_iload_n dX11_longestLike_4 rfl ?_
  refine st_aload_n dX11_longestLike_5 rfl ?_
  refine st_getI fl_X11_352 fk_11_49 dX11_longestLike_6 sh_73 ?_
  refine st_icmp_ge (tgt := 53) dX11_longestLike_9 (by decide) (fun c => ?_) (fun c => ?_)
  · replace w := w.1 c
    refine st_iload_n dX11_longestLike_53 rfl ?_
    exact st_ireturn rfl rfl dX11_longestLike_54 w
  · replace w := w.2 c
    refine st_iload_n dX11_longestLike_12 rfl ?_
    refine st_istore_n (L' := [.ref 73, .int x1, .int x2, .int x2]) dX11_longestLike_13 (by decide) rfl ?_
    exact w
set_option maxRecDepth 20000 in
set_option maxHeartbeats 2000000 in
theorem sX11_longestLike_14 {d : Nat} {h : am_H} {Z : Int32 → am_H → Prop} {x1 : Int32} {x2 : Int32} {x3 : Int32} (hd : 2 ≤ d) (w : ((h.1 73 49) ≤ x3 → Ru mX11_longestLike none d 4 [.ref 73, .int x1, .int (x2 + 1), .int x3] [] h Z) ∧ (¬ ((h.1 73 49) ≤ x3) → am_cl mX11_isLike d [.ref 73, .int x2, .int x3] h (fun r1 h2 => (r1 = 0 → Ru mX11_longestLike none d 14 [.ref 73, .int x1, .int x2, .int (x3 + 1)] [] h2 Z) ∧ (¬ (r1 = 0) → Ru mX11_longestLike none d 14 [.ref 73, .int (am_max x1 ((x3 - x2) + 1)), .int x2, .int (x3 + 1)] [] h2 Z)))) : Ru mX11_longestLike none d 14 [.ref 73, .int x1, .int x2, .int x3] [] h Z := by
  refine st_iload_n dX11_longestLike_14 rfl ?_
  refine st_aload_n dX11_longestLike_15 rfl ?_
  refine st_getI fl_X11_352 fk_11_49 dX11_longestLike_16 sh_73 ?_
  refine st_icmp_ge (tgt := 47) dX11_longestLike_19 (by decide) (fun c => ?_) (fun c => ?_)
  · replace w := w.1 c
    refine st_iinc (L' := [.ref 73, .int x1, .int (x2 + 1), .int x3]) dX11_longestLike_47 rfl rfl (by decide) rfl ?_
    refine st_goto (tgt := 4) dX11_longestLike_50 (by decide) ?_
    exact w
  · replace w := w.2 c
    refine st_aload_n dX11_longestLike_22 rfl ?_
    refine st_iload_n dX11_longestLike_23 rfl ?_
    refine st_iload_n dX11_longestLike_24 rfl ?_
    refine st_callV (M' := mX11_isLike) [.int x2, .int x3] [] dX11_longestLike_25 ml_X11_370 mf_X11_isLike mv_X11_isLike sh_73 rfl rfl rfl w (fun r1 h2 w => ?_)
    show Ru mX11_longestLike none d 28 [.ref 73, .int x1, .int x2, .int x3] [.int r1] h2 Z
    refine st_if_eq (tgt := 41) dX11_longestLike_28 (by decide) (fun c => ?_) (fun c => ?_)
    · replace w := w.1 c
      refine st_iinc (L' := [.ref 73, .int x1, .int x2, .int (x3 + 1)]) dX11_longestLike_41 rfl rfl (by decide) rfl ?_
      refine st_goto (tgt := 14) dX11_longestLike_44 (by decide) ?_
      exact w
    · replace w := w.2 c
      refine st_iload_n dX11_longestLike_31 rfl ?_
      refine st_iload_n dX11_longestLike_32 rfl ?_
      refine st_iload_n dX11_longestLike_33 rfl ?_
      refine st_isub dX11_longestLike_34 ?_
      refine st_iconst (v := 1) dX11_longestLike_35 (by decide) ?_
      refine st_iadd dX11_longestLike_36 ?_
      refine st_callS (M' := mX11_max) [.int x1, .int ((x3 - x2) + 1)] [] dX11_longestLike_37 ml_X11_373 mf_X11_max ms_X11_max rfl rfl rfl (K := fun r h' => (am_max x1 ((x3 - x2) + 1)) = r ∧ h2 = h') ⟨1, by omega, iX11_max ⟨rfl, rfl⟩⟩ (fun r1 h1 w1 => ?_)
      obtain ⟨rfl, rfl⟩ := w1
      show Ru mX11_longestLike none d 40 [.ref 73, .int x1, .int x2, .int x3] [.int (am_max x1 ((x3 - x2) + 1))] h2 Z
      refine st_istore_n (L' := [.ref 73, .int (am_max x1 ((x3 - x2) + 1)), .int x2, .int x3]) dX11_longestLike_40 (by decide) rfl ?_
      refine st_iinc (L' := [.ref 73, .int (am_max x1 ((x3 - x2) + 1)), .int x2, .int (x3 + 1)]) dX11_longestLike_41 rfl rfl (by decide) rfl ?_
      refine st_goto (tgt := 14) dX11_longestLike_44 (by decide) ?_
      exact w
def sl_vw (c : Nat) : Bool := decide (c = 0 ∨ c = 4 ∨ c = 8 ∨ c = 14 ∨ c = 20)
def sl_vs (L : Nat → Nat) (m s : Nat) : Nat := am_sm (fun i => if sl_vw ((L i + s) % 26) = true then 1 else 0) m
def sl_cn (L : Nat → Nat) (m c : Nat) : Nat := am_sm (fun i => if L i = c then 1 else 0) m
def sl_bs (v : Nat → Nat) (k b : Nat) : Nat := if v k ≤ v b then b else k
def sl_bst (v : Nat → Nat) : Nat := am_fd (sl_bs v) 1 25 0
def sl_pal (L : Nat → Nat) (a s : Nat) : Prop := ∀ k, 2 * k < s → L (a + k) = L (a + s - 1 - k)
def sl_lg (L : Nat → Nat) (m c : Nat) : Prop := c ≤ m ∧ (1 ≤ c ∨ m = 0) ∧ (2 ≤ c → ∃ a, a + c ≤ m ∧ sl_pal L a c) ∧ ∀ s a, c < s → a + s ≤ m → ¬ sl_pal L a s
theorem sl_lg_u {L : Nat → Nat} {m c c' : Nat} (p : sl_lg L m c) (q : sl_lg L m c') : c = c' := by
  obtain ⟨p1, p2, p3, p4⟩ := p
  obtain ⟨q1, q2, q3, q4⟩ := q
  rcases Nat.lt_trichotomy c c' with w | w | w
  · rcases Nat.lt_or_ge c' 2 with v | v
    · clear p3 p4 q3 q4; omega
    · obtain ⟨a, a1, a2⟩ := q3 v
      exact absurd a2 (p4 c' a w a1)
  · exact w
  · rcases Nat.lt_or_ge c 2 with v | v
    · clear p3 p4 q3 q4; omega
    · obtain ⟨a, a1, a2⟩ := p3 v
      exact absurd a2 (q4 c a w a1)
theorem sl_bst_b (v : Nat → Nat) : sl_bst v < 26 := by
  have := am_fd_inv (R := fun _ (b : Nat) => b < 26) (f := sl_bs v) 25 1 0 (by omega) (fun i a _ hi q => by unfold sl_bs; split; exact q; omega)
  exact this
theorem sl_vs_b (L : Nat → Nat) (m s : Nat) : sl_vs L m s ≤ m := by
  have := am_sm_le (f := fun i => if sl_vw ((L i + s) % 26) = true then 1 else 0) (g := fun _ => 1) m (fun k _ => by split <;> omega)
  rw [am_sm_c] at this
  unfold sl_vs; omega
theorem sl_cn_b (L : Nat → Nat) (m c : Nat) : sl_cn L m c ≤ m := by
  have := am_sm_le (f := fun i => if L i = c then 1 else 0) (g := fun _ => 1) m (fun k _ => by split <;> omega)
  rw [am_sm_c] at this
  unfold sl_cn; omega
def sl_T (h : am_H) (m : Nat) (L : Nat → Nat) : Prop := h.1 5 3 = nI m ∧ (∀ i, i < m → h.2.2 6 i = nI (L i)) ∧ m ≤ 64 ∧ ∀ i, i < m → L i < 26
def sl_U (h : am_H) (m : Nat) (L : Nat → Nat) : Prop := h.1 73 49 = nI m ∧ (∀ i, i < m → h.2.2 101 i = nI (L i)) ∧ m ≤ 64 ∧ ∀ i, i < m → L i < 26
section
variable {d m : Nat} {h : am_H} {Z : Int32 → am_H → Prop} {L : Nat → Nat}
theorem iX8_isVowel {c : Nat} (hc : c < 26) (z : Z (if sl_vw c = true then 1 else 0) h) : Sp mX8_isVowel d [.int (nI c)] h Z := by
  refine Sp_of mf_X8_isVowel rfl (Nat.le_of_ble_eq_true rfl) rfl (sX8_isVowel_0 ?_)
  have e : ∀ k, k < 30 → ((nI c + 97 = nI (k + 97)) = (c = k)) := fun k hk => by
    rw [show nI c + 97 = nI (c + 97) from nI_add c 97]
    exact propext ((nI_eq (by omega) (by omega)).trans ⟨fun q => by omega, fun q => by omega⟩)
  have e0 : (nI c + 97 = 97) = (c = 0) := e 0 (by omega)
  have e4 : (nI c + 97 = 101) = (c = 4) := e 4 (by omega)
  have e8 : (nI c + 97 = 105) = (c = 8) := e 8 (by omega)
  have e14 : (nI c + 97 = 111) = (c = 14) := e 14 (by omega)
  have e20 : (nI c + 97 = 117) = (c = 20) := e 20 (by omega)
  rw [e0, e4, e8, e14, e20]
  unfold sl_vw at z
  have yes : (c = 0 ∨ c = 4 ∨ c = 8 ∨ c = 14 ∨ c = 20) → Z 1 h := fun q => by rw [if_pos (decide_eq_true q)] at z; exact z
  refine ⟨fun q => yes (Or.inl q), fun n0 => ⟨fun q => yes (Or.inr (Or.inl q)), fun n4 => ⟨fun q => yes (Or.inr (Or.inr (Or.inl q))), fun n8 => ⟨fun q => yes (Or.inr (Or.inr (Or.inr (Or.inl q)))), fun n14 => ⟨fun n20 => ?_, fun q => yes (Or.inr (Or.inr (Or.inr (Or.inr q))))⟩⟩⟩⟩⟩
  rw [if_neg (fun q => by have := of_decide_eq_true q; omega)] at z; exact z
theorem x_vs {s : Nat} (hd : 2 ≤ d) (hT : sl_T h m L) (hs : s ≤ 25) (z : Z (nI (sl_vs L m s)) h) : ∀ (r j : Nat), j + r = m → Ru mX8_vowelsShifted none d 4 [.ref 5, .int (nI s), .int (nI (am_sm (fun i => if sl_vw ((L i + s) % 26) = true then 1 else 0) j)), .int (nI j)] [] h Z
  | 0, j, hj => by
    have ej : j = m := by omega
    subst ej
    refine sX8_vowelsShifted_4 ⟨fun _ => z, fun c => absurd (by rw [hT.1]; exact Int32.le_refl _) c⟩
  | r + 1, j, hj => by
    have m64 := hT.2.2.1
    have lj := hT.2.2.2 j (by omega)
    refine sX8_vowelsShifted_4 ⟨fun c => absurd c (by rw [hT.1]; exact nI_ge (by omega) (by omega)), fun _ => ⟨vp_in_nI (by omega) (by omega), ?_⟩⟩
    rw [nI_clamp (by omega), hT.2.1 j (by omega), nI_add, show am_rem (nI (L j + s)) 26 = nI ((L j + s) % 26) from am_rem_n (d := 26) (by omega) (by omega) (by omega), nI_1, nI_1]
    refine ⟨1, by omega, iX8_isVowel (Nat.mod_lt _ (by decide)) ?_⟩
    have w := x_vs hd hT hs z r (j + 1) (by omega)
    rw [am_sm_s] at w
    by_cases c : sl_vw ((L j + s) % 26) = true
    · rw [if_pos c] at w ⊢
      exact ⟨fun q => absurd q (by decide), fun _ => w⟩
    · rw [if_neg c] at w ⊢
      refine ⟨fun _ => ?_, fun q => absurd rfl q⟩
      rw [show ∀ x : Int32, x + 0 = x from fun x => Int32.add_zero x]; exact w
theorem iX8_vs {s : Nat} (hd : 2 ≤ d) (hT : sl_T h m L) (hs : s ≤ 25) (z : Z (nI (sl_vs L m s)) h) : Sp mX8_vowelsShifted d [.ref 5, .int (nI s)] h Z := Sp_of mf_X8_vowelsShifted rfl (Nat.le_of_ble_eq_true rfl) rfl (sX8_vowelsShifted_0 (x_vs hd hT hs z m 0 (by omega)))
theorem m_vs {s : Nat} (hT : sl_U h m L) (hs : s ≤ 25) (z : Z (nI (sl_vs L m s)) h) : ∀ (r j : Nat) (u4 : Value), j + r = m → Ru mX11_vowelsBy none d 4 [.ref 73, .int (nI s), .int (nI (am_sm (fun i => if sl_vw ((L i + s) % 26) = true then 1 else 0) j)), .int (nI j), u4] [] h Z
  | 0, j, u4, hj => by
    have ej : j = m := by omega
    subst ej
    refine sX11_vowelsBy_4 ⟨fun _ => z, fun c => absurd (by rw [hT.1]; exact Int32.le_refl _) c⟩
  | r + 1, j, u4, hj => by
    have m64 := hT.2.2.1
    have lj := hT.2.2.2 j (by omega)
    refine sX11_vowelsBy_4 ⟨fun c => absurd c (by rw [hT.1]; exact nI_ge (by omega) (by omega)), fun _ => ⟨vp_in_nI (by omega) (by omega), ?_⟩⟩
    have mb : (L j + s) % 26 < 26 := Nat.mod_lt _ (by decide)
    have e : ∀ k, k < 30 → (nI ((L j + s) % 26) = nI k ↔ (L j + s) % 26 = k) := fun k hk => nI_eq (by omega) (by omega)
    rw [nI_clamp (by omega), hT.2.1 j (by omega), nI_add, show am_rem (nI (L j + s)) 26 = nI ((L j + s) % 26) from am_rem_n (d := 26) (by omega) (by omega) (by omega), nI_1, nI_1, show (nI ((L j + s) % 26) = 0) = ((L j + s) % 26 = 0) from propext (e 0 (by omega)), show (nI ((L j + s) % 26) = 4) = ((L j + s) % 26 = 4) from propext (e 4 (by omega)), show (nI ((L j + s) % 26) = 8) = ((L j + s) % 26 = 8) from propext (e 8 (by omega)), show (nI ((L j + s) % 26) = 14) = ((L j + s) % 26 = 14) from propext (e 14 (by omega)), show (nI ((L j + s) % 26) = 20) = ((L j + s) % 26 = 20) from propext (e 20 (by omega))]
    have yes : ((L j + s) % 26 = 0 ∨ (L j + s) % 26 = 4 ∨ (L j + s) % 26 = 8 ∨ (L j + s) % 26 = 14 ∨ (L j + s) % 26 = 20) → ∀ u, Ru mX11_vowelsBy none d 4 [.ref 73, .int (nI s), .int (nI (am_sm (fun i => if sl_vw ((L i + s) % 26) = true then 1 else 0) j + 1)), .int (nI (j + 1)), u] [] h Z := fun q u => by
      have w := m_vs hT hs z r (j + 1) u (by omega)
      rw [am_sm_s, if_pos (by unfold sl_vw; exact decide_eq_true q)] at w
      exact w
    refine ⟨fun q => yes (Or.inl q) _, fun n0 => ⟨fun q => yes (Or.inr (Or.inl q)) _, fun n4 => ⟨fun q => yes (Or.inr (Or.inr (Or.inl q))) _, fun n8 => ⟨fun q => yes (Or.inr (Or.inr (Or.inr (Or.inl q)))) _, fun n14 => ⟨fun n20 => ?_, fun q => yes (Or.inr (Or.inr (Or.inr (Or.inr q)))) _⟩⟩⟩⟩⟩
    have w := m_vs hT hs z r (j + 1) (.int (nI ((L j + s) % 26))) (by omega)
    rw [am_sm_s, if_neg (by unfold sl_vw; exact fun q => by have := of_decide_eq_true q; omega), Nat.add_zero] at w
    exact w
theorem iX11_vs {s : Nat} (hT : sl_U h m L) (hs : s ≤ 25) (z : Z (nI (sl_vs L m s)) h) : Sp mX11_vowelsBy d [.ref 73, .int (nI s)] h Z := Sp_of mf_X11_vowelsBy rfl (Nat.le_of_ble_eq_true rfl) rfl (sX11_vowelsBy_0 (m_vs hT hs z m 0 _ (by omega)))
theorem x_bsh (hd : 4 ≤ d) (hT : sl_T h m L) (z : Z (nI (sl_bst (sl_vs L m))) h) : ∀ (r k b : Nat), k + r = 26 → b < 26 → am_fd (sl_bs (sl_vs L m)) k r b = sl_bst (sl_vs L m) → Ru mX8_bestShift none d 4 [.ref 5, .int (nI b), .int (nI k)] [] h Z
  | 0, k, b, hk, hb, e => by
    have ek : k = 26 := by omega
    subst ek
    have e' : b = sl_bst (sl_vs L m) := e
    refine sX8_bestShift_4 ⟨fun _ => by rw [e']; exact z, fun c => absurd (Int32.le_refl _) c⟩
  | r + 1, k, b, hk, hb, e => by
    have m64 := hT.2.2.1
    have v1 := sl_vs_b L m k
    have v2 := sl_vs_b L m b
    refine sX8_bestShift_4 ⟨fun c => absurd c (nI_ge (b := 26) (by omega) (by omega)), fun _ => ⟨3, by omega, iX8_vs (by omega) hT (by omega) ⟨3, by omega, iX8_vs (by omega) hT (by omega) ?_⟩⟩⟩
    rw [nI_leI (by omega) (by omega), nI_1]
    rw [am_fd_s] at e
    refine ⟨fun c => x_bsh hd hT z r (k + 1) b (by omega) hb ?_, fun c => x_bsh hd hT z r (k + 1) k (by omega) (by omega) ?_⟩
    · rw [show sl_bs (sl_vs L m) k b = b from if_pos c] at e; exact e
    · rw [show sl_bs (sl_vs L m) k b = k from if_neg c] at e; exact e
theorem m_bsh (hd : 4 ≤ d) (hT : sl_U h m L) (z : Z (nI (sl_bst (sl_vs L m))) h) : ∀ (r k b : Nat), k + r = 26 → b < 26 → am_fd (sl_bs (sl_vs L m)) k r b = sl_bst (sl_vs L m) → Ru mX11_bestShift none d 4 [.ref 73, .int (nI b), .int (nI k)] [] h Z
  | 0, k, b, hk, hb, e => by
    have ek : k = 26 := by omega
    subst ek
    have e' : b = sl_bst (sl_vs L m) := e
    refine sX11_bestShift_4 ⟨fun _ => by rw [e']; exact z, fun c => absurd (Int32.le_refl _) c⟩
  | r + 1, k, b, hk, hb, e => by
    have m64 := hT.2.2.1
    have v1 := sl_vs_b L m k
    have v2 := sl_vs_b L m b
    refine sX11_bestShift_4 ⟨fun c => absurd c (nI_ge (b := 26) (by omega) (by omega)), fun _ => ⟨3, by omega, iX11_vs hT (by omega) ⟨3, by omega, iX11_vs hT (by omega) ?_⟩⟩⟩
    rw [nI_leI (by omega) (by omega), nI_1]
    rw [am_fd_s] at e
    refine ⟨fun c => m_bsh hd hT z r (k + 1) b (by omega) hb ?_, fun c => m_bsh hd hT z r (k + 1) k (by omega) (by omega) ?_⟩
    · rw [show sl_bs (sl_vs L m) k b = b from if_pos c] at e; exact e
    · rw [show sl_bs (sl_vs L m) k b = k from if_neg c] at e; exact e
theorem m_cn {c : Nat} (hc : c < 26) (hT : sl_U h m L) (z : Z (nI (sl_cn L m c)) h) : ∀ (r j : Nat), j + r = m → Ru mX11_oftenOf none d 4 [.ref 73, .int (nI c), .int (nI (am_sm (fun i => if L i = c then 1 else 0) j)), .int (nI j)] [] h Z
  | 0, j, hj => by
    have ej : j = m := by omega
    subst ej
    refine sX11_oftenOf_4 ⟨fun _ => z, fun c => absurd (by rw [hT.1]; exact Int32.le_refl _) c⟩
  | r + 1, j, hj => by
    have m64 := hT.2.2.1
    have lj := hT.2.2.2 j (by omega)
    refine sX11_oftenOf_4 ⟨fun c => absurd c (by rw [hT.1]; exact nI_ge (by omega) (by omega)), fun _ => ⟨vp_in_nI (by omega) (by omega), ?_⟩⟩
    rw [nI_clamp (by omega), hT.2.1 j (by omega), nI_eq (by omega) (by omega), nI_1, nI_1]
    have w := m_cn hc hT z r (j + 1) (by omega)
    rw [am_sm_s] at w
    refine ⟨fun q => ?_, fun q => ?_⟩
    · rw [if_neg q, Nat.add_zero] at w; exact w
    · rw [if_pos q] at w; exact w
theorem iX11_cn {c : Nat} (hc : c < 26) (hT : sl_U h m L) (z : Z (nI (sl_cn L m c)) h) : Sp mX11_oftenOf d [.ref 73, .int (nI c)] h Z := Sp_of mf_X11_oftenOf rfl (Nat.le_of_ble_eq_true rfl) rfl (sX11_oftenOf_0 (m_cn hc hT z m 0 (by omega)))
theorem m_mo (hd : 4 ≤ d) (hT : sl_U h m L) (z : Z (nI (sl_bst (sl_cn L m))) h) : ∀ (r k b : Nat), k + r = 26 → b < 26 → am_fd (sl_bs (sl_cn L m)) k r b = sl_bst (sl_cn L m) → Ru mX11_mostOften none d 4 [.ref 73, .int (nI b), .int (nI k)] [] h Z
  | 0, k, b, hk, hb, e => by
    have ek : k = 26 := by omega
    subst ek
    have e' : b = sl_bst (sl_cn L m) := e
    refine sX11_mostOften_4 ⟨fun _ => by rw [e']; exact z, fun c => absurd (Int32.le_refl _) c⟩
  | r + 1, k, b, hk, hb, e => by
    have m64 := hT.2.2.1
    have v1 := sl_cn_b L m k
    have v2 := sl_cn_b L m b
    refine sX11_mostOften_4 ⟨fun c => absurd c (nI_ge (b := 26) (by omega) (by omega)), fun _ => ⟨3, by omega, iX11_cn (by omega) hT ⟨3, by omega, iX11_cn (by omega) hT ?_⟩⟩⟩
    rw [nI_leI (by omega) (by omega), nI_1]
    rw [am_fd_s] at e
    refine ⟨fun c => m_mo hd hT z r (k + 1) b (by omega) hb ?_, fun c => m_mo hd hT z r (k + 1) k (by omega) (by omega) ?_⟩
    · rw [show sl_bs (sl_cn L m) k b = b from if_pos c] at e; exact e
    · rw [show sl_bs (sl_cn L m) k b = k from if_neg c] at e; exact e
theorem x_mo2 (m64 : m ≤ 64) {f : Nat → Int32} (hf : ∀ c, c < 26 → f c = nI (sl_cn L m c)) (z : Z (nI (sl_bst (sl_cn L m))) (am_sR h 7 f)) : ∀ (r k b : Nat), k + r = 26 → b < 26 → am_fd (sl_bs (sl_cn L m)) k r b = sl_bst (sl_cn L m) → Ru mX8_mostOften none d 43 [.ref 5, .int (nI b), .int (nI k)] [] (am_sR h 7 f) Z
  | 0, k, b, hk, hb, e => by
    have ek : k = 26 := by omega
    subst ek
    have e' : b = sl_bst (sl_cn L m) := e
    refine sX8_mostOften_43 ⟨fun _ => by rw [e']; exact z, fun c => absurd (Int32.le_refl _) c⟩
  | r + 1, k, b, hk, hb, e => by
    have v1 := sl_cn_b L m k
    have v2 := sl_cn_b L m b
    refine sX8_mostOften_43 ⟨fun c => absurd c (nI_ge (b := 26) (by omega) (by omega)), fun _ => ⟨vp_in_nI (by omega) (by omega), vp_in_nI (by omega) (by omega), ?_⟩⟩
    rw [nI_clamp (by omega), nI_clamp (by omega), am_gRs, hf k (by omega), hf b hb, nI_leI (by omega) (by omega), nI_1]
    rw [am_fd_s] at e
    refine ⟨fun c => x_mo2 m64 hf z r (k + 1) b (by omega) hb ?_, fun c => x_mo2 m64 hf z r (k + 1) k (by omega) (by omega) ?_⟩
    · rw [show sl_bs (sl_cn L m) k b = b from if_pos c] at e; exact e
    · rw [show sl_bs (sl_cn L m) k b = k from if_neg c] at e; exact e
theorem x_mo1 (hT : sl_T h m L) {u2 : Value} (z : ∀ f, (∀ c, c < 26 → f c = nI (sl_cn L m c)) → Z (nI (sl_bst (sl_cn L m))) (am_sR h 7 f)) : ∀ (r j : Nat) (f : Nat → Int32), j + r = m → (∀ c, c < 26 → f c = nI (am_sm (fun i => if L i = c then 1 else 0) j)) → Ru mX8_mostOften none d 10 [.ref 5, .int (nI j), u2] [] (am_sR h 7 f) Z
  | 0, j, f, hj, hf => by
    have ej : j = m := by omega
    subst ej
    refine sX8_mostOften_10 ⟨fun _ => x_mo2 hT.2.2.1 hf (z f hf) 25 1 0 (by omega) (by omega) rfl, fun c => absurd ?_ c⟩
    rw [am_gRi, hT.1]; exact Int32.le_refl _
  | r + 1, j, f, hj, hf => by
    have m64 := hT.2.2.1
    have lj := hT.2.2.2 j (by omega)
    refine sX8_mostOften_10 ⟨fun c => absurd c (by rw [am_gRi, hT.1]; exact nI_ge (by omega) (by omega)), fun _ => ⟨vp_in_nI (by omega) (by omega), ?_⟩⟩
    rw [nI_clamp (by omega), am_gR, if_neg (by decide), hT.2.1 j (by omega), nI_clamp (by omega), am_gRs, hf _ lj, nI_1, nI_1, am_sR_2]
    refine ⟨vp_in_nI (by omega) (by omega), fun h3 e3 => ?_⟩
    subst e3
    refine x_mo1 hT z r (j + 1) _ (by omega) (fun c hc => ?_)
    rw [am_sm_s]
    unfold upd
    by_cases q : c = L j
    · rw [if_pos q, if_pos q.symm, q]
    · rw [if_neg q, if_neg (fun e => q e.symm), Nat.add_zero]; exact hf c hc
theorem iX8_mo (hd : 2 ≤ d) (hT : sl_T h m L) (z : ∀ f, (∀ c, c < 26 → f c = nI (sl_cn L m c)) → Z (nI (sl_bst (sl_cn L m))) (am_sR h 7 f)) : Sp mX8_mostOften d [.ref 5] h Z := by
  refine Sp_of mf_X8_mostOften rfl (Nat.le_of_ble_eq_true rfl) rfl (sX8_mostOften_0 hd (x_mo1 hT z m 0 _ (by omega) (fun c hc => ?_)))
  unfold am_fill
  rw [if_pos hc]; rfl
theorem x_pal {a s : Nat} (hT : sl_T h m L) (ha : a + s ≤ m) (z1 : sl_pal L a s → Z 1 h) (z0 : ¬ sl_pal L a s → Z 0 h) : ∀ (r k : Nat), k + r = s → (∀ j, j < k → 2 * j < s → L (a + j) = L (a + s - 1 - j)) → Ru mX8_isSameFromBehind none d 2 [.ref 5, .int (nI a), .int (nI s), .int (nI k)] [] h Z
  | r, k, hk, hp => by
    have m64 := hT.2.2.1
    refine sX8_isSameFromBehind_2 ?_
    rw [am_n2, nI_leI (by omega) (by omega), nI_1]
    refine ⟨fun c => z1 (fun j hj => hp j (by omega) hj), fun c => ?_⟩
    have e1 : (nI a + nI s) - 1 - nI k = nI (a + s - 1 - k) := by
      rw [nI_add, show nI (a + s) - 1 = nI (a + s - 1) from am_sub_n (a := a + s) (c := 1) (by omega), am_sub_n (by omega)]
    rw [e1, nI_add, nI_clamp (by omega), nI_clamp (by omega), hT.2.1 (a + k) (by omega), hT.2.1 (a + s - 1 - k) (by omega), nI_eq (by have := hT.2.2.2 (a + k) (by omega); omega) (by have := hT.2.2.2 (a + s - 1 - k) (by omega); omega)]
    refine ⟨vp_in_nI (by omega) (by omega), vp_in_nI (by omega) (by omega), fun q => ?_, fun q => z0 (fun p => q (p k (by omega)))⟩
    cases r with
    | zero => omega
    | succ r =>
      refine x_pal hT ha z1 z0 r (k + 1) (by omega) (fun j hj hj2 => ?_)
      by_cases ej : j = k
      · rw [ej]; exact q
      · exact hp j (by omega) hj2
theorem iX8_pal {a s : Nat} (hT : sl_T h m L) (ha : a + s ≤ m) (z1 : sl_pal L a s → Z 1 h) (z0 : ¬ sl_pal L a s → Z 0 h) : Sp mX8_isSameFromBehind d [.ref 5, .int (nI a), .int (nI s)] h Z := Sp_of mf_X8_isSameFromBehind rfl (Nat.le_of_ble_eq_true rfl) rfl (sX8_isSameFromBehind_0 (x_pal hT ha z1 z0 s 0 (by omega) (fun j hj => absurd hj (Nat.not_lt_zero j))))
theorem m_pal {a s : Nat} {u1 u2 : Value} (hT : sl_U h m L) (hs : 1 ≤ s) (ha : a + s ≤ m) (z1 : sl_pal L a s → Z 1 h) (z0 : ¬ sl_pal L a s → Z 0 h) : ∀ (r k : Nat), k + r = s → 2 * k ≤ s + 1 → (∀ j, j < k → 2 * j < s → L (a + j) = L (a + s - 1 - j)) → Ru mX11_isLike none d 5 [.ref 73, u1, u2, .int (nI (a + k)), .int (nI (a + s) - 1 - nI k)] [] h Z
  | r, k, hk, hk2, hp => by
    have m64 := hT.2.2.1
    rcases Nat.lt_or_ge (2 * k) (s + 1) with w | w
    · have e1 : nI (a + s) - 1 - nI k = nI (a + s - 1 - k) := by
        rw [show nI (a + s) - 1 = nI (a + s - 1) from am_sub_n (a := a + s) (c := 1) (by omega), am_sub_n (by omega)]
      rw [e1]
      refine sX11_isLike_5 ?_
      rw [nI_leI (by omega) (by omega), nI_ltI (by omega) (by omega), nI_1]
      refine ⟨fun c => ⟨fun q => by omega, fun _ => z1 (fun j hj => ?_)⟩, fun c => ?_⟩
      · by_cases ej : j < k
        · exact hp j ej hj
        · rw [show a + j = a + s - 1 - j by omega]
      · rw [nI_clamp (by omega), nI_clamp (by omega), hT.2.1 (a + k) (by omega), hT.2.1 (a + s - 1 - k) (by omega), nI_eq (by have := hT.2.2.2 (a + k) (by omega); omega) (by have := hT.2.2.2 (a + s - 1 - k) (by omega); omega)]
        refine ⟨vp_in_nI (by omega) (by omega), vp_in_nI (by omega) (by omega), fun q => ⟨fun _ => z0 (fun p => q (p k (by omega))), fun v => absurd (by omega) v⟩, fun q => ?_⟩
        cases r with
        | zero => omega
        | succ r =>
          have nx := m_pal (u1 := u1) (u2 := u2) hT hs ha z1 z0 r (k + 1) (by omega) (by omega) (fun j hj hj2 => by
            by_cases ej : j = k
            · rw [ej]; exact q
            · exact hp j (by omega) hj2)
          have e2 : nI (a + s - 1 - k) - 1 = nI (a + s) - 1 - nI (k + 1) := by
            rw [← e1, ← nI_1]
            grind
          rw [e2]
          exact nx
    · have e1 : nI (a + s) - 1 - nI k ≤ nI (a + k) := by
        rw [show nI (a + s) - 1 = nI (a + s - 1) from am_sub_n (a := a + s) (c := 1) (by omega), Int32.le_iff_toInt_le, am_sb_i (by omega) (by omega), nI_toInt (by omega)]
        omega
      refine sX11_isLike_5 ⟨fun _ => ⟨fun q => absurd q (Int32.not_lt.mpr e1), fun _ => z1 (fun j hj => hp j (by omega) hj)⟩, fun c => absurd e1 c⟩
theorem iX11_pal {a b : Nat} (hT : sl_U h m L) (hab : a ≤ b) (hb : b < m) (z1 : sl_pal L a (b - a + 1) → Z 1 h) (z0 : ¬ sl_pal L a (b - a + 1) → Z 0 h) : Sp mX11_isLike d [.ref 73, .int (nI a), .int (nI b)] h Z := by
  have w := m_pal (d := d) (u1 := .int (nI a)) (u2 := .int (nI b)) hT (by omega) (by omega) z1 z0 (b - a + 1) 0 (by omega) (by omega) (fun j hj => absurd hj (Nat.not_lt_zero j))
  have e : nI (a + (b - a + 1)) - 1 - nI 0 = nI b := by
    rw [show a + (b - a + 1) = b + 1 by omega, show nI (b + 1) - 1 = nI b from am_sub_n (a := b + 1) (c := 1) (by omega)]
    exact Int32.sub_zero _
  rw [e, Nat.add_zero] at w
  exact Sp_of mf_X11_isLike rfl (Nat.le_of_ble_eq_true rfl) rfl (sX11_isLike_0 w)
theorem x_lg (hd : 2 ≤ d) (hT : sl_T h m L) (z : ∀ c, sl_lg L m c → Z (nI c) h) : ∀ (s : Nat) (u2 : Value), s ≤ m → (∀ s' a, s < s' → a + s' ≤ m → ¬ sl_pal L a s') → Ru mX8_longestSameFromBehind none d 5 [.ref 5, .int (nI s), u2] [] h Z := by
  have m64 := hT.2.2.1
  have inner : ∀ s, 2 ≤ s → s ≤ m → (∀ s' a, s < s' → a + s' ≤ m → ¬ sl_pal L a s') → (∀ u2, (∀ s' a, s - 1 < s' → a + s' ≤ m → ¬ sl_pal L a s') → Ru mX8_longestSameFromBehind none d 5 [.ref 5, .int (nI (s - 1)), u2] [] h Z) → ∀ (r a : Nat), a + r = m → (∀ a', a' < a → a' + s ≤ m → ¬ sl_pal L a' s) → Ru mX8_longestSameFromBehind none d 12 [.ref 5, .int (nI s), .int (nI a)] [] h Z := by
    intro s h2 hs hno nxt r
    induction r with
    | zero =>
      intro a ha hp
      refine sX8_longestSameFromBehind_12 ?_
      rw [hT.1, nI_add, nI_ltI (by omega) (by omega)]
      refine ⟨fun _ => ?_, fun q => absurd (by omega) q⟩
      rw [show nI s + (-1) = nI (s - 1) by rw [show s = (s - 1) + 1 by omega]; exact hj_dec _]
      refine nxt _ (fun s' a' h1 h2' => ?_)
      by_cases e : s' = s
      · rw [e]; rw [e] at h2'; exact hp a' (by omega) h2'
      · exact hno s' a' (by omega) h2'
    | succ r ih =>
      intro a ha hp
      refine sX8_longestSameFromBehind_12 ?_
      rw [hT.1, nI_add, nI_ltI (by omega) (by omega), nI_1]
      refine ⟨fun c => ?_, fun c => ⟨1, by omega, iX8_pal hT (by omega) (fun p => ⟨fun q => absurd q (by decide), fun _ => z s ⟨hs, Or.inl (by omega), fun _ => ⟨a, by omega, p⟩, hno⟩⟩) (fun p => ⟨fun _ => ih (a + 1) (by omega) (fun a' h1 h2' => ?_), fun q => absurd rfl q⟩)⟩⟩
      · rw [show nI s + (-1) = nI (s - 1) by rw [show s = (s - 1) + 1 by omega]; exact hj_dec _]
        refine nxt _ (fun s' a' h1 h2' => ?_)
        by_cases e : s' = s
        · rw [e]; rw [e] at h2'; exact hp a' (by omega) h2'
        · exact hno s' a' (by omega) h2'
      · by_cases e : a' = a
        · rw [e]; exact p
        · exact hp a' (by omega) h2'
  intro s
  induction s with
  | zero =>
    intro u2 hs hno
    refine sX8_longestSameFromBehind_5 (by omega) ⟨fun _ => ?_, fun q => absurd (show (0 : Int32) ≤ 1 by decide) q⟩
    rw [hT.1, show (1 : Int32) = nI 1 from rfl, q_min (by omega) (by omega)]
    refine z _ ⟨by omega, by omega, fun q => by omega, fun s' a h1 h2 => hno s' a (by omega) h2⟩
  | succ s ih =>
    intro u2 hs hno
    refine sX8_longestSameFromBehind_5 (by omega) ⟨fun c => ?_, fun c => ?_⟩
    · have c' : s + 1 ≤ 1 := (nI_leI (b := 1) (by omega) (by omega)).mp c
      rw [hT.1, show (1 : Int32) = nI 1 from rfl, q_min (by omega) (by omega)]
      exact z _ ⟨by omega, by omega, fun q => by omega, fun s' a h1 h2 => hno s' a (by omega) h2⟩
    · have c' : ¬ s + 1 ≤ 1 := fun q => c (nI_le (b := 1) q (by omega))
      exact inner (s + 1) (by omega) hs hno (fun u2 hno' => ih u2 (by omega) hno') m 0 (by omega) (fun a' h => absurd h (Nat.not_lt_zero a'))
theorem m_lg (hd : 4 ≤ d) (hT : sl_U h m L) (z : ∀ c, sl_lg L m c → Z (nI c) h) : ∀ (r a c : Nat) (u3 : Value), a + r = m → c ≤ m → (1 ≤ c ∨ a = 0) → (2 ≤ c → ∃ a, a + c ≤ m ∧ sl_pal L a c) → (∀ a' s, a' < a → c < s → a' + s ≤ m → ¬ sl_pal L a' s) → Ru mX11_longestLike none d 4 [.ref 73, .int (nI c), .int (nI a), u3] [] h Z := by
  have m64 := hT.2.2.1
  intro r
  induction r with
  | zero =>
    intro a c u3 ha hc h1 h2 h3
    refine sX11_longestLike_4 ⟨fun _ => z c ⟨hc, by omega, h2, fun s a' h4 h5 => ?_⟩, fun q => absurd ?_ q⟩
    · rcases Nat.lt_or_ge a' a with w | w
      · exact h3 a' s w h4 h5
      · have : s = 0 := by omega
        omega
    · rw [hT.1, show a = m by omega]; exact Int32.le_refl _
  | succ r ih =>
    intro a c u3 ha hc h1 h2 h3
    refine sX11_longestLike_4 ⟨fun q => absurd q (by rw [hT.1]; exact nI_ge (by omega) (by omega)), fun _ => ?_⟩
    have inner : ∀ (q b c : Nat), b + q = m → a ≤ b → c ≤ m → (1 ≤ c ∨ b = a) → (2 ≤ c → ∃ a, a + c ≤ m ∧ sl_pal L a c) → (∀ a' s, a' < a → c < s → a' + s ≤ m → ¬ sl_pal L a' s) → (∀ s, c < s → s ≤ b - a → ¬ sl_pal L a s) → Ru mX11_longestLike none d 14 [.ref 73, .int (nI c), .int (nI a), .int (nI b)] [] h Z := by
      intro q
      induction q with
      | zero =>
        intro b c hb hab hc h1 h2 h3 h4
        refine sX11_longestLike_14 (by omega) ⟨fun _ => ?_, fun q => absurd (by rw [hT.1, show b = m by omega]; exact Int32.le_refl _) q⟩
        rw [nI_1]
        refine ih (a + 1) c _ (by omega) hc (by omega) h2 (fun a' s g1 g2 g3 => ?_)
        by_cases e : a' = a
        · rw [e]; exact h4 s g2 (by omega)
        · exact h3 a' s (by omega) g2 g3
      | succ q ihq =>
        intro b c hb hab hc h1 h2 h3 h4
        refine sX11_longestLike_14 (by omega) ⟨fun w => absurd w (by rw [hT.1]; exact nI_ge (by omega) (by omega)), fun _ => ?_⟩
        have em : am_max (nI c) ((nI b - nI a) + 1) = nI (max c (b - a + 1)) := by
          rw [am_sub_n hab, nI_1, am_max_n (by omega) (by omega)]
        rw [em, nI_1]
        refine ⟨3, by omega, iX11_pal hT hab (by omega) (fun p => ⟨fun w => absurd w (by decide), fun _ => ?_⟩) (fun p => ⟨fun _ => ?_, fun w => absurd rfl w⟩)⟩
        · refine ihq (b + 1) _ (by omega) (by omega) (by omega) (by omega) (fun w => ?_) (fun a' s g1 g2 g3 => h3 a' s g1 (by omega) g3) (fun s g1 g2 => h4 s (by omega) (by omega))
          rcases Nat.lt_or_ge c (b - a + 1) with v | v
          · rw [show max c (b - a + 1) = b - a + 1 by omega]; exact ⟨a, by omega, p⟩
          · rw [show max c (b - a + 1) = c by omega]; exact h2 (by omega)
        · refine ihq (b + 1) c (by omega) (by omega) hc ?_ h2 h3 (fun s g1 g2 => ?_)
          · rcases h1 with w | w
            · exact Or.inl w
            · subst w
              exfalso
              refine p (fun j hj => ?_)
              have : j = 0 := by omega
              subst this
              congr 1; omega
          · by_cases e : s = b - a + 1
            · rw [e]; exact p
            · exact h4 s g1 (by omega)
    exact inner r.succ a c (by omega) (Nat.le_refl a) hc (Or.inr rfl) h2 h3 (fun s g1 g2 => by omega)
end
