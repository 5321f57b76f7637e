-- the law's codes, run by both
set_option maxRecDepth 20000 in
set_option maxHeartbeats 2000000 in
theorem sX3_fact_0 {d : Nat} {h : am_H} {Z : Int32 → am_H → Prop} {a0 : Nat} (hb0 : am_la a0) {x1 : Int32} (w : (x1 < 0 → Z 0 h) ∧ (¬ (x1 < 0) → (10 ≤ x1 → Z 0 h) ∧ (¬ (10 ≤ x1) → (vp_in x1 10 ∧ (Z (h.2.2 (a0 + 7) x1.toNatClampNeg) h))))) : Ru mX3_fact none d 0 [.ref a0, .int x1] [] h Z := by
  refine st_iload_n dX3_fact_0 rfl ?_
  refine st_if_lt (tgt := 19) dX3_fact_1 (by decide) (fun c => ?_) (fun c => ?_)
  · replace w := w.1 c
    refine st_iconst (v := 0) dX3_fact_19 (by decide) ?_
    exact st_ireturn rfl rfl dX3_fact_20 w
  · replace w := w.2 c
    refine st_iload_n dX3_fact_4 rfl ?_
    refine st_bipush (v := 10) dX3_fact_5 (by decide) ?_
    refine st_icmp_ge (tgt := 19) dX3_fact_7 (by decide) (fun c => ?_) (fun c => ?_)
    · replace w := w.1 c
      refine st_iconst (v := 0) dX3_fact_19 (by decide) ?_
      exact st_ireturn rfl rfl dX3_fact_20 w
    · replace w := w.2 c
      refine st_aload_n dX3_fact_10 rfl ?_
      refine st_getF (q := a0 + 7) fl_X3_30 fk_3_6 rfl dX3_fact_11 (la_0 hb0) ?_
      refine st_iload_n dX3_fact_14 rfl ?_
      have hc1 := w.1
      replace w := w.2
      refine st_iald dX3_fact_15 (la_7 hb0) hc1 ?_
      refine st_goto (tgt := 20) dX3_fact_16 (by decide) ?_
      exact st_ireturn rfl rfl dX3_fact_20 w
set_option maxRecDepth 20000 in
set_option maxHeartbeats 2000000 in
theorem sX3_isDivision_0 {d : Nat} {h : am_H} {Z : Int32 → am_H → Prop} {x0 : Int32} (w : (x0 = 47 → Z 1 h) ∧ (¬ (x0 = 47) → (¬ x0 = 37 → Z 0 h) ∧ (x0 = 37 → Z 1 h))) : Ru mX3_isDivision none d 0 [.int x0] [] h Z := by
  refine st_iload_n dX3_isDivision_0 rfl ?_
  refine st_bipush (v := 47) dX3_isDivision_1 (by decide) ?_
  refine st_icmp_eq (tgt := 12) dX3_isDivision_3 (by decide) (fun c => ?_) (fun c => ?_)
  · replace w := w.1 c
    refine st_iconst (v := 1) dX3_isDivision_12 (by decide) ?_
    refine st_goto (tgt := 17) dX3_isDivision_13 (by decide) ?_
    exact st_ireturn rfl rfl dX3_isDivision_17 w
  · replace w := w.2 c
    refine st_iload_n dX3_isDivision_6 rfl ?_
    refine st_bipush (v := 37) dX3_isDivision_7 (by decide) ?_
    refine st_icmp_ne (tgt := 16) dX3_isDivision_9 (by decide) (fun c => ?_) (fun c => ?_)
    · replace w := w.1 c
      refine st_iconst (v := 0) dX3_isDivision_16 (by decide) ?_
      exact st_ireturn rfl rfl dX3_isDivision_17 w
    · replace w := w.2 c
      refine st_iconst (v := 1) dX3_isDivision_12 (by decide) ?_
      refine st_goto (tgt := 17) dX3_isDivision_13 (by decide) ?_
      exact st_ireturn rfl rfl dX3_isDivision_17 w
set_option maxRecDepth 20000 in
set_option maxHeartbeats 2000000 in
theorem sX3_joined_0 {d : Nat} {h : am_H} {Z : Int32 → am_H → Prop} {x0 : Int32} {x1 : Int32} {x2 : Int32} (w : (x0 = 37 → (¬ x2 = 0 → (¬ x2 = 0 ∧ (Z (am_rem x1 x2) h))) ∧ (x2 = 0 → Z 0 h)) ∧ (¬ x0 = 37 → (x0 = 42 → Z (x1 * x2) h) ∧ (¬ x0 = 42 → (x0 = 43 → Z (x1 + x2) h) ∧ (¬ x0 = 43 → (x0 = 45 → Z (x1 - x2) h) ∧ (¬ x0 = 45 → (x0 = 47 → (¬ x2 = 0 → (¬ x2 = 0 ∧ (Z (x1 / x2) h))) ∧ (x2 = 0 → Z 0 h)) ∧ (¬ x0 = 47 → (x0 = 60 → (x2 ≤ x1 → Z 0 h) ∧ (¬ (x2 ≤ x1) → Z 1 h)) ∧ (¬ x0 = 60 → (x0 = 62 → (x1 ≤ x2 → Z 0 h) ∧ (¬ (x1 ≤ x2) → Z 1 h)) ∧ (¬ x0 = 62 → (¬ x1 = x2 → Z 0 h) ∧ (x1 = x2 → Z 1 h))))))))) : Ru mX3_joined none d 0 [.int x0, .int x1, .int x2] [] h Z := by
  refine st_iload_n dX3_joined_0 rfl ?_
  by_cases c0 : x0 = 37
  · replace w := w.1 c0
    refine st_lookup (off := 91) (tgt := 92) dX3_joined_1 (by decide +kernel) (by rw [c0]; decide) (by decide) ?_
    refine st_iload_n dX3_joined_92 rfl ?_
    refine st_if_ne (tgt := 100) dX3_joined_93 (by decide) (fun c => ?_) (fun c => ?_)
    · replace w := w.1 c
      refine st_iload_n dX3_joined_100 rfl ?_
      refine st_iload_n dX3_joined_101 rfl ?_
      have hc1 := w.1
      replace w := w.2
      refine st_irem dX3_joined_102 hc1 ?_
      exact st_ireturn rfl rfl dX3_joined_103 w
    · replace w := w.2 c
      refine st_iconst (v := 0) dX3_joined_96 (by decide) ?_
      refine st_goto (tgt := 103) dX3_joined_97 (by decide) ?_
      exact st_ireturn rfl rfl dX3_joined_103 w
  · replace w := w.2 c0
    by_cases c1 : x0 = 42
    · replace w := w.1 c1
      refine st_lookup (off := 75) (tgt := 76) dX3_joined_1 (by decide +kernel) (by rw [c1]; decide) (by decide) ?_
      refine st_iload_n dX3_joined_76 rfl ?_
      refine st_iload_n dX3_joined_77 rfl ?_
      refine st_imul dX3_joined_78 ?_
      exact st_ireturn rfl rfl dX3_joined_79 w
    · replace w := w.2 c1
      by_cases c2 : x0 = 43
      · replace w := w.1 c2
        refine st_lookup (off := 67) (tgt := 68) dX3_joined_1 (by decide +kernel) (by rw [c2]; decide) (by decide) ?_
        refine st_iload_n dX3_joined_68 rfl ?_
        refine st_iload_n dX3_joined_69 rfl ?_
        refine st_iadd dX3_joined_70 ?_
        exact st_ireturn rfl rfl dX3_joined_71 w
      · replace w := w.2 c2
        by_cases c3 : x0 = 45
        · replace w := w.1 c3
          refine st_lookup (off := 71) (tgt := 72) dX3_joined_1 (by decide +kernel) (by rw [c3]; decide) (by decide) ?_
          refine st_iload_n dX3_joined_72 rfl ?_
          refine st_iload_n dX3_joined_73 rfl ?_
          refine st_isub dX3_joined_74 ?_
          exact st_ireturn rfl rfl dX3_joined_75 w
        · replace w := w.2 c3
          by_cases c4 : x0 = 47
          · replace w := w.1 c4
            refine st_lookup (off := 79) (tgt := 80) dX3_joined_1 (by decide +kernel) (by rw [c4]; decide) (by decide) ?_
            refine st_iload_n dX3_joined_80 rfl ?_
            refine st_if_ne (tgt := 88) dX3_joined_81 (by decide) (fun c => ?_) (fun c => ?_)
            · replace w := w.1 c
              refine st_iload_n dX3_joined_88 rfl ?_
              refine st_iload_n dX3_joined_89 rfl ?_
              have hc2 := w.1
              replace w := w.2
              refine st_idiv dX3_joined_90 hc2 ?_
              exact st_ireturn rfl rfl dX3_joined_91 w
            · replace w := w.2 c
              refine st_iconst (v := 0) dX3_joined_84 (by decide) ?_
              refine st_goto (tgt := 91) dX3_joined_85 (by decide) ?_
              exact st_ireturn rfl rfl dX3_joined_91 w
          · replace w := w.2 c4
            by_cases c5 : x0 = 60
            · replace w := w.1 c5
              refine st_lookup (off := 103) (tgt := 104) dX3_joined_1 (by decide +kernel) (by rw [c5]; decide) (by decide) ?_
              refine st_iload_n dX3_joined_104 rfl ?_
              refine st_iload_n dX3_joined_105 rfl ?_
              refine st_icmp_ge (tgt := 113) dX3_joined_106 (by decide) (fun c => ?_) (fun c => ?_)
              · replace w := w.1 c
                refine st_iconst (v := 0) dX3_joined_113 (by decide) ?_
                exact st_ireturn rfl rfl dX3_joined_114 w
              · replace w := w.2 c
                refine st_iconst (v := 1) dX3_joined_109 (by decide) ?_
                refine st_goto (tgt := 114) dX3_joined_110 (by decide) ?_
                exact st_ireturn rfl rfl dX3_joined_114 w
            · replace w := w.2 c5
              by_cases c6 : x0 = 62
              · replace w := w.1 c6
                refine st_lookup (off := 114) (tgt := 115) dX3_joined_1 (by decide +kernel) (by rw [c6]; decide) (by decide) ?_
                refine st_iload_n dX3_joined_115 rfl ?_
                refine st_iload_n dX3_joined_116 rfl ?_
                refine st_icmp_le (tgt := 124) dX3_joined_117 (by decide) (fun c => ?_) (fun c => ?_)
                · replace w := w.1 c
                  refine st_iconst (v := 0) dX3_joined_124 (by decide) ?_
                  exact st_ireturn rfl rfl dX3_joined_125 w
                · replace w := w.2 c
                  refine st_iconst (v := 1) dX3_joined_120 (by decide) ?_
                  refine st_goto (tgt := 125) dX3_joined_121 (by decide) ?_
                  exact st_ireturn rfl rfl dX3_joined_125 w
              · replace w := w.2 c6
                refine st_lookup (off := 125) (tgt := 126) dX3_joined_1 (by decide +kernel) (by rw [lv_osw c0 (by decide)]; rw [lv_osw c1 (by decide)]; rw [lv_osw c2 (by decide)]; rw [lv_osw c3 (by decide)]; rw [lv_osw c4 (by decide)]; rw [lv_osw c5 (by decide)]; rw [lv_osw c6 (by decide)]; rfl) (by decide) ?_
                refine st_iload_n dX3_joined_126 rfl ?_
                refine st_iload_n dX3_joined_127 rfl ?_
                refine st_icmp_ne (tgt := 135) dX3_joined_128 (by decide) (fun c => ?_) (fun c => ?_)
                · replace w := w.1 c
                  refine st_iconst (v := 0) dX3_joined_135 (by decide) ?_
                  exact st_ireturn rfl rfl dX3_joined_136 w
                · replace w := w.2 c
                  refine st_iconst (v := 1) dX3_joined_131 (by decide) ?_
                  refine st_goto (tgt := 136) dX3_joined_132 (by decide) ?_
                  exact st_ireturn rfl rfl dX3_joined_136 w
set_option maxRecDepth 20000 in
set_option maxHeartbeats 2000000 in
theorem sX3_run_0 {d : Nat} {h : am_H} {Z : Int32 → am_H → Prop} {a0 : Nat} (hb0 : am_la a0) {x1 : Int32} {x2 : Int32} (w : Ru mX3_run none d 8 [.ref a0, .int x1, .int x2, .int x1, .int (-1), .int 0, .null, .null, .null] [] h Z) : Ru mX3_run none d 0 [.ref a0, .int x1, .int x2, .null, .null, .null, .null, .null, .null] [] h Z := by
  refine st_iload_n dX3_run_0 rfl ?_
  refine st_istore_n (L' := [.ref a0, .int x1, .int x2, .int x1, .null, .null, .null, .null, .null]) dX3_run_1 (by decide) rfl ?_
  refine st_iconst (v := (-1)) dX3_run_2 (by decide) ?_
  refine st_istore (L' := [.ref a0, .int x1, .int x2, .int x1, .int (-1), .null, .null, .null, .null]) dX3_run_3 (by decide) rfl ?_
  refine st_iconst (v := 0) dX3_run_5 (by decide) ?_
  refine st_istore (L' := [.ref a0, .int x1, .int x2, .int x1, .int (-1), .int 0, .null, .null, .null]) dX3_run_6 (by decide) rfl ?_
  exact w
set_option maxRecDepth 20000 in
set_option maxHeartbeats 2000000 in
theorem sX3_run_8 {d : Nat} {h : am_H} {Z : Int32 → am_H → Prop} {a0 : Nat} (hb0 : am_la a0) {u1 : Value} {x2 : Int32} {x3 : Int32} {x4 : Int32} {x5 : Int32} {u6 : Value} {u7 : Value} {u8 : Value} (w : (512 ≤ x5 → (x4 < 0 → Z 0 h) ∧ (¬ (x4 < 0) → (vp_in x4 64 ∧ (Z (h.2.2 (a0 + 6) x4.toNatClampNeg) h)))) ∧ (¬ (512 ≤ x5) → (x3 < 0 → (x4 < 0 → Z 0 h) ∧ (¬ (x4 < 0) → (vp_in x4 64 ∧ (Z (h.2.2 (a0 + 6) x4.toNatClampNeg) h)))) ∧ (¬ (x3 < 0) → (x2 ≤ x3 → (x4 < 0 → Z 0 h) ∧ (¬ (x4 < 0) → (vp_in x4 64 ∧ (Z (h.2.2 (a0 + 6) x4.toNatClampNeg) h)))) ∧ (¬ (x2 ≤ x3) → (512 ≤ x3 → (x4 < 0 → Z 0 h) ∧ (¬ (x4 < 0) → (vp_in x4 64 ∧ (Z (h.2.2 (a0 + 6) x4.toNatClampNeg) h)))) ∧ (¬ (512 ≤ x3) → (vp_in x3 512 ∧ ((512 ≤ (x3 + 1) → Ru mX3_run none d 61 [.ref a0, u1, .int x2, .int x3, .int x4, .int x5, .int (h.2.2 (a0 + 5) x3.toNatClampNeg), u7, u8] [.int 0] h Z) ∧ (¬ (512 ≤ (x3 + 1)) → (vp_in (x3 + 1) 512 ∧ (Ru mX3_run none d 61 [.ref a0, u1, .int x2, .int x3, .int x4, .int x5, .int (h.2.2 (a0 + 5) x3.toNatClampNeg), u7, u8] [.int (h.2.2 (a0 + 5) (x3 + 1).toNatClampNeg)] h Z)))))))))) : Ru mX3_run none d 8 [.ref a0, u1, .int x2, .int x3, .int x4, .int x5, u6, u7, u8] [] h Z := by
  refine st_iload dX3_run_8 rfl ?_
  refine st_sipush (v := 512) dX3_run_10 (by decide) ?_
  refine st_icmp_ge (tgt := 306) dX3_run_13 (by decide) (fun c => ?_) (fun c => ?_)
  · replace w := w.1 c
    refine st_iload dX3_run_306 rfl ?_
    refine st_if_lt (tgt := 321) dX3_run_308 (by decide) (fun c => ?_) (fun c => ?_)
    · replace w := w.1 c
      refine st_iconst (v := 0) dX3_run_321 (by decide) ?_
      exact st_ireturn rfl rfl dX3_run_322 w
    · replace w := w.2 c
      refine st_aload_n dX3_run_311 rfl ?_
      refine st_getF (q := a0 + 6) fl_X3_27 fk_3_5 rfl dX3_run_312 (la_0 hb0) ?_
      refine st_iload dX3_run_315 rfl ?_
      have hc1 := w.1
      replace w := w.2
      refine st_iald dX3_run_317 (la_6 hb0) hc1 ?_
      refine st_goto (tgt := 322) dX3_run_318 (by decide) ?_
      exact st_ireturn rfl rfl dX3_run_322 w
  · replace w := w.2 c
    refine st_iload_n dX3_run_16 rfl ?_
    refine st_if_lt (tgt := 306) dX3_run_17 (by decide) (fun c => ?_) (fun c => ?_)
    · replace w := w.1 c
      refine st_iload dX3_run_306 rfl ?_
      refine st_if_lt (tgt := 321) dX3_run_308 (by decide) (fun c => ?_) (fun c => ?_)
      · replace w := w.1 c
        refine st_iconst (v := 0) dX3_run_321 (by decide) ?_
        exact st_ireturn rfl rfl dX3_run_322 w
      · replace w := w.2 c
        refine st_aload_n dX3_run_311 rfl ?_
        refine st_getF (q := a0 + 6) fl_X3_27 fk_3_5 rfl dX3_run_312 (la_0 hb0) ?_
        refine st_iload dX3_run_315 rfl ?_
        have hc2 := w.1
        replace w := w.2
        refine st_iald dX3_run_317 (la_6 hb0) hc2 ?_
        refine st_goto (tgt := 322) dX3_run_318 (by decide) ?_
        exact st_ireturn rfl rfl dX3_run_322 w
    · replace w := w.2 c
      refine st_iload_n dX3_run_20 rfl ?_
      refine st_iload_n dX3_run_21 rfl ?_
      refine st_icmp_ge (tgt := 306) dX3_run_22 (by decide) (fun c => ?_) (fun c => ?_)
      · replace w := w.1 c
        refine st_iload dX3_run_306 rfl ?_
        refine st_if_lt (tgt := 321) dX3_run_308 (by decide) (fun c => ?_) (fun c => ?_)
        · replace w := w.1 c
          refine st_iconst (v := 0) dX3_run_321 (by decide) ?_
          exact st_ireturn rfl rfl dX3_run_322 w
        · replace w := w.2 c
          refine st_aload_n dX3_run_311 rfl ?_
          refine st_getF (q := a0 + 6) fl_X3_27 fk_3_5 rfl dX3_run_312 (la_0 hb0) ?_
          refine st_iload dX3_run_315 rfl ?_
          have hc3 := w.1
          replace w := w.2
          refine st_iald dX3_run_317 (la_6 hb0) hc3 ?_
          refine st_goto (tgt := 322) dX3_run_318 (by decide) ?_
          exact st_ireturn rfl rfl dX3_run_322 w
      · replace w := w.2 c
        refine st_iload_n dX3_run_25 rfl ?_
        refine st_sipush (v := 512) dX3_run_26 (by decide) ?_
        refine st_icmp_ge (tgt := 306) dX3_run_29 (by decide) (fun c => ?_) (fun c => ?_)
        · replace w := w.1 c
          refine st_iload dX3_run_306 rfl ?_
          refine st_if_lt (tgt := 321) dX3_run_308 (by decide) (fun c => ?_) (fun c => ?_)
          · replace w := w.1 c
            refine st_iconst (v := 0) dX3_run_321 (by decide) ?_
            exact st_ireturn rfl rfl dX3_run_322 w
          · replace w := w.2 c
            refine st_aload_n dX3_run_311 rfl ?_
            refine st_getF (q := a0 + 6) fl_X3_27 fk_3_5 rfl dX3_run_312 (la_0 hb0) ?_
            refine st_iload dX3_run_315 rfl ?_
            have hc4 := w.1
            replace w := w.2
            refine st_iald dX3_run_317 (la_6 hb0) hc4 ?_
            refine st_goto (tgt := 322) dX3_run_318 (by decide) ?_
            exact st_ireturn rfl rfl dX3_run_322 w
        · replace w := w.2 c
          refine st_aload_n dX3_run_32 rfl ?_
          refine st_getF (q := a0 + 5) fl_X3_24 fk_3_4 rfl dX3_run_33 (la_0 hb0) ?_
          refine st_iload_n dX3_run_36 rfl ?_
          have hc5 := w.1
          replace w := w.2
          refine st_iald dX3_run_37 (la_5 hb0) hc5 ?_
          refine st_istore (L' := [.ref a0, u1, .int x2, .int x3, .int x4, .int x5, .int (h.2.2 (a0 + 5) x3.toNatClampNeg), u7, u8]) dX3_run_38 (by decide) rfl ?_
          refine st_iload_n dX3_run_40 rfl ?_
          refine st_iconst (v := 1) dX3_run_41 (by decide) ?_
          refine st_iadd dX3_run_42 ?_
          refine st_sipush (v := 512) dX3_run_43 (by decide) ?_
          refine st_icmp_ge (tgt := 60) dX3_run_46 (by decide) (fun c => ?_) (fun c => ?_)
          · replace w := w.1 c
            refine st_iconst (v := 0) dX3_run_60 (by decide) ?_
            exact w
          · replace w := w.2 c
            refine st_aload_n dX3_run_49 rfl ?_
            refine st_getF (q := a0 + 5) fl_X3_24 fk_3_4 rfl dX3_run_50 (la_0 hb0) ?_
            refine st_iload_n dX3_run_53 rfl ?_
            refine st_iconst (v := 1) dX3_run_54 (by decide) ?_
            refine st_iadd dX3_run_55 ?_
            have hc6 := w.1
            replace w := w.2
            refine st_iald dX3_run_56 (la_5 hb0) hc6 ?_
            refine st_goto (tgt := 61) dX3_run_57 (by decide) ?_
            exact w
set_option maxRecDepth 20000 in
set_option maxHeartbeats 2000000 in
theorem sX3_run_61 {d : Nat} {h : am_H} {Z : Int32 → am_H → Prop} {a0 : Nat} (hb0 : am_la a0) {u1 : Value} {x2 : Int32} {x3 : Int32} {x4 : Int32} {x5 : Int32} {x6 : Int32} {u7 : Value} {u8 : Value} {s0 : Int32} (w : (x6 = 1 → Ru mX3_run none d 78 [.ref a0, u1, .int x2, .int (x3 + 1), .int x4, .int x5, .int x6, .int s0, u8] [] h Z) ∧ (¬ (x6 = 1) → (¬ x6 = 2 → (0 ≤ x4 → (¬ x6 = 3 → (x6 = 4 → Ru mX3_run none d 172 [.ref a0, u1, .int x2, .int (x3 + 1), .int x4, .int x5, .int x6, .int s0, u8] [] h Z) ∧ (¬ (x6 = 4) → (¬ x6 = 5 → (x4 < 1 → Z 0 h) ∧ (¬ (x4 < 1) → (vp_in x4 64 ∧ ((¬ (h.2.2 (a0 + 6) x4.toNatClampNeg) = 0 → Ru mX3_run none d 267 [.ref a0, u1, .int x2, .int (x3 + 1), .int x4, .int x5, .int x6, .int s0, u8] [] h Z) ∧ ((h.2.2 (a0 + 6) x4.toNatClampNeg) = 0 → am_cl mX3_isDivision d [.int x6] h (fun r2 h3 => (r2 = 0 → Ru mX3_run none d 267 [.ref a0, u1, .int x2, .int (x3 + 1), .int x4, .int x5, .int x6, .int s0, u8] [] h3 Z) ∧ (¬ (r2 = 0) → Z 0 h3))))))) ∧ (x6 = 5 → Ru mX3_run none d 172 [.ref a0, u1, .int x2, .int (x3 + 1), .int x4, .int x5, .int x6, .int s0, u8] [] h Z))) ∧ (x6 = 3 → (vp_in x4 64 ∧ ((¬ (h.2.2 (a0 + 6) x4.toNatClampNeg) = 0 → (∀ h5 : am_H, h5 = am_sR h (a0 + 6) (upd (h.2.2 (a0 + 6)) x4.toNatClampNeg 0) → (Ru mX3_run none d 8 [.ref a0, u1, .int x2, .int (x3 + 1), .int x4, .int (x5 + 1), .int x6, .int s0, u8] [] h5 Z))) ∧ ((h.2.2 (a0 + 6) x4.toNatClampNeg) = 0 → (∀ h6 : am_H, h6 = am_sR h (a0 + 6) (upd (h.2.2 (a0 + 6)) x4.toNatClampNeg 1) → (Ru mX3_run none d 8 [.ref a0, u1, .int x2, .int (x3 + 1), .int x4, .int (x5 + 1), .int x6, .int s0, u8] [] h6 Z))))))) ∧ (¬ (0 ≤ x4) → Z 0 h)) ∧ (x6 = 2 → Ru mX3_run none d 78 [.ref a0, u1, .int x2, .int (x3 + 1), .int x4, .int x5, .int x6, .int s0, u8] [] h Z))) : Ru mX3_run none d 61 [.ref a0, u1, .int x2, .int x3, .int x4, .int x5, .int x6, u7, u8] [.int s0] h Z := by
  refine st_istore (L' := [.ref a0, u1, .int x2, .int x3, .int x4, .int x5, .int x6, .int s0, u8]) dX3_run_61 (by decide) rfl ?_
  refine st_iinc (L' := [.ref a0, u1, .int x2, .int (x3 + 1), .int x4, .int x5, .int x6, .int s0, u8]) dX3_run_63 rfl rfl (by decide) rfl ?_
  refine st_iload dX3_run_66 rfl ?_
  refine st_iconst (v := 1) dX3_run_68 (by decide) ?_
  refine st_icmp_eq (tgt := 78) dX3_run_69 (by decide) (fun c => ?_) (fun c => ?_)
  · replace w := w.1 c
    exact w
  · replace w := w.2 c
    refine st_iload dX3_run_72 rfl ?_
    refine st_iconst (v := 2) dX3_run_74 (by decide) ?_
    refine st_icmp_ne (tgt := 122) dX3_run_75 (by decide) (fun c => ?_) (fun c => ?_)
    · replace w := w.1 c
      refine st_iload dX3_run_122 rfl ?_
      refine st_if_ge (tgt := 129) dX3_run_124 (by decide) (fun c => ?_) (fun c => ?_)
      · replace w := w.1 c
        refine st_iload dX3_run_129 rfl ?_
        refine st_iconst (v := 3) dX3_run_131 (by decide) ?_
        refine st_icmp_ne (tgt := 160) dX3_run_132 (by decide) (fun c => ?_) (fun c => ?_)
        · replace w := w.1 c
          refine st_iload dX3_run_160 rfl ?_
          refine st_iconst (v := 4) dX3_run_162 (by decide) ?_
          refine st_icmp_eq (tgt := 172) dX3_run_163 (by decide) (fun c => ?_) (fun c => ?_)
          · replace w := w.1 c
            exact w
          · replace w := w.2 c
            refine st_iload dX3_run_166 rfl ?_
            refine st_iconst (v := 5) dX3_run_168 (by decide) ?_
            refine st_icmp_ne (tgt := 241) dX3_run_169 (by decide) (fun c => ?_) (fun c => ?_)
            · replace w := w.1 c
              refine st_iload dX3_run_241 rfl ?_
              refine st_iconst (v := 1) dX3_run_243 (by decide) ?_
              refine st_icmp_lt (tgt := 265) dX3_run_244 (by decide) (fun c => ?_) (fun c => ?_)
              · replace w := w.1 c
                refine st_iconst (v := 0) dX3_run_265 (by decide) ?_
                exact st_ireturn rfl rfl dX3_run_266 w
              · replace w := w.2 c
                refine st_aload_n dX3_run_247 rfl ?_
                refine st_getF (q := a0 + 6) fl_X3_27 fk_3_5 rfl dX3_run_248 (la_0 hb0) ?_
                refine st_iload dX3_run_251 rfl ?_
                have hc1 := w.1
                replace w := w.2
                refine st_iald dX3_run_253 (la_6 hb0) hc1 ?_
                refine st_if_ne (tgt := 267) dX3_run_254 (by decide) (fun c => ?_) (fun c => ?_)
                · replace w := w.1 c
                  exact w
                · replace w := w.2 c
                  refine st_iload dX3_run_257 rfl ?_
                  refine st_callS (M' := mX3_isDivision) [.int x6] [] dX3_run_259 ml_X3_93 mf_X3_isDivision ms_X3_isDivision rfl rfl rfl w (fun r2 h3 w => ?_)
                  show Ru mX3_run none d 262 [.ref a0, u1, .int x2, .int (x3 + 1), .int x4, .int x5, .int x6, .int s0, u8] [.int r2] h3 Z
                  refine st_if_eq (tgt := 267) dX3_run_262 (by decide) (fun c => ?_) (fun c => ?_)
                  · replace w := w.1 c
                    exact w
                  · replace w := w.2 c
                    refine st_iconst (v := 0) dX3_run_265 (by decide) ?_
                    exact st_ireturn rfl rfl dX3_run_266 w
            · replace w := w.2 c
              exact w
        · replace w := w.2 c
          refine st_aload_n dX3_run_135 rfl ?_
          refine st_getF (q := a0 + 6) fl_X3_27 fk_3_5 rfl dX3_run_136 (la_0 hb0) ?_
          refine st_iload dX3_run_139 rfl ?_
          refine st_aload_n dX3_run_141 rfl ?_
          refine st_getF (q := a0 + 6) fl_X3_27 fk_3_5 rfl dX3_run_142 (la_0 hb0) ?_
          refine st_iload dX3_run_145 rfl ?_
          have hc4 := w.1
          replace w := w.2
          refine st_iald dX3_run_147 (la_6 hb0) hc4 ?_
          refine st_if_ne (tgt := 155) dX3_run_148 (by decide) (fun c => ?_) (fun c => ?_)
          · replace w := w.1 c
            refine st_iconst (v := 0) dX3_run_155 (by decide) ?_
            refine st_iast dX3_run_156 (la_6 hb0) hc4 (fun h5 eh5 => ?_)
            replace w := w h5 eh5
            refine st_goto (tgt := 300) dX3_run_157 (by decide) ?_
            refine st_iinc (L' := [.ref a0, u1, .int x2, .int (x3 + 1), .int x4, .int (x5 + 1), .int x6, .int s0, u8]) dX3_run_300 rfl rfl (by decide) rfl ?_
            refine st_goto (tgt := 8) dX3_run_303 (by decide) ?_
            exact w
          · replace w := w.2 c
            refine st_iconst (v := 1) dX3_run_151 (by decide) ?_
            refine st_goto (tgt := 156) dX3_run_152 (by decide) ?_
            refine st_iast dX3_run_156 (la_6 hb0) hc4 (fun h6 eh6 => ?_)
            replace w := w h6 eh6
            refine st_goto (tgt := 300) dX3_run_157 (by decide) ?_
            refine st_iinc (L' := [.ref a0, u1, .int x2, .int (x3 + 1), .int x4, .int (x5 + 1), .int x6, .int s0, u8]) dX3_run_300 rfl rfl (by decide) rfl ?_
            refine st_goto (tgt := 8) dX3_run_303 (by decide) ?_
            exact w
      · replace w := w.2 c
        refine st_iconst (v := 0) dX3_run_127 (by decide) ?_
        exact st_ireturn rfl rfl dX3_run_128 w
    · replace w := w.2 c
      exact w
set_option maxRecDepth 20000 in
set_option maxHeartbeats 2000000 in
theorem sX3_run_78 {d : Nat} {h : am_H} {Z : Int32 → am_H → Prop} {a0 : Nat} (hb0 : am_la a0) {u1 : Value} {x2 : Int32} {x3 : Int32} {x4 : Int32} {x5 : Int32} {x6 : Int32} {x7 : Int32} {u8 : Value} (w : ((x4 + 1) < 64 → (¬ x6 = 1 → am_cl mX3_fact d [.ref a0, .int x7] h (fun r1 h2 => (vp_in (x4 + 1) 64 ∧ (∀ h4 : am_H, h4 = am_sR h2 (a0 + 6) (upd (h2.2.2 (a0 + 6)) (x4 + 1).toNatClampNeg r1) → (Ru mX3_run none d 8 [.ref a0, u1, .int x2, .int (x3 + 1), .int (x4 + 1), .int (x5 + 1), .int x6, .int x7, u8] [] h4 Z))))) ∧ (x6 = 1 → (vp_in (x4 + 1) 64 ∧ (∀ h6 : am_H, h6 = am_sR h (a0 + 6) (upd (h.2.2 (a0 + 6)) (x4 + 1).toNatClampNeg x7) → (Ru mX3_run none d 8 [.ref a0, u1, .int x2, .int (x3 + 1), .int (x4 + 1), .int (x5 + 1), .int x6, .int x7, u8] [] h6 Z))))) ∧ (¬ ((x4 + 1) < 64) → Z 0 h)) : Ru mX3_run none d 78 [.ref a0, u1, .int x2, .int x3, .int x4, .int x5, .int x6, .int x7, u8] [] h Z := by
  refine st_iload dX3_run_78 rfl ?_
  refine st_iconst (v := 1) dX3_run_80 (by decide) ?_
  refine st_iadd dX3_run_81 ?_
  refine st_bipush (v := 64) dX3_run_82 (by decide) ?_
  refine st_icmp_lt (tgt := 89) dX3_run_84 (by decide) (fun c => ?_) (fun c => ?_)
  · replace w := w.1 c
    refine st_iinc (L' := [.ref a0, u1, .int x2, .int x3, .int (x4 + 1), .int x5, .int x6, .int x7, u8]) dX3_run_89 rfl rfl (by decide) rfl ?_
    refine st_aload_n dX3_run_92 rfl ?_
    refine st_getF (q := a0 + 6) fl_X3_27 fk_3_5 rfl dX3_run_93 (la_0 hb0) ?_
    refine st_iload dX3_run_96 rfl ?_
    refine st_iload dX3_run_98 rfl ?_
    refine st_iconst (v := 1) dX3_run_100 (by decide) ?_
    refine st_icmp_ne (tgt := 109) dX3_run_101 (by decide) (fun c => ?_) (fun c => ?_)
    · replace w := w.1 c
      refine st_aload_n dX3_run_109 rfl ?_
      refine st_iload dX3_run_110 rfl ?_
      refine st_callV (M' := mX3_fact) [.int x7] [.int (x4 + 1), .ref (a0 + 6)] dX3_run_112 ml_X3_89 mf_X3_fact mv_X3_fact (la_0 hb0) rfl rfl rfl w (fun r1 h2 w => ?_)
      show Ru mX3_run none d 115 [.ref a0, u1, .int x2, .int x3, .int (x4 + 1), .int x5, .int x6, .int x7, u8] [.int r1, .int (x4 + 1), .ref (a0 + 6)] h2 Z
      have hc3 := w.1
      replace w := w.2
      refine st_iast dX3_run_115 (la_6 hb0) hc3 (fun h4 eh4 => ?_)
      replace w := w h4 eh4
      refine st_iinc (L' := [.ref a0, u1, .int x2, .int (x3 + 1), .int (x4 + 1), .int x5, .int x6, .int x7, u8]) dX3_run_116 rfl rfl (by decide) rfl ?_
      refine st_goto (tgt := 300) dX3_run_119 (by decide) ?_
      refine st_iinc (L' := [.ref a0, u1, .int x2, .int (x3 + 1), .int (x4 + 1), .int (x5 + 1), .int x6, .int x7, u8]) dX3_run_300 rfl rfl (by decide) rfl ?_
      refine st_goto (tgt := 8) dX3_run_303 (by decide) ?_
      exact w
    · replace w := w.2 c
      refine st_iload dX3_run_104 rfl ?_
      refine st_goto (tgt := 115) dX3_run_106 (by decide) ?_
      have hc5 := w.1
      replace w := w.2
      refine st_iast dX3_run_115 (la_6 hb0) hc5 (fun h6 eh6 => ?_)
      replace w := w h6 eh6
      refine st_iinc (L' := [.ref a0, u1, .int x2, .int (x3 + 1), .int (x4 + 1), .int x5, .int x6, .int x7, u8]) dX3_run_116 rfl rfl (by decide) rfl ?_
      refine st_goto (tgt := 300) dX3_run_119 (by decide) ?_
      refine st_iinc (L' := [.ref a0, u1, .int x2, .int (x3 + 1), .int (x4 + 1), .int (x5 + 1), .int x6, .int x7, u8]) dX3_run_300 rfl rfl (by decide) rfl ?_
      refine st_goto (tgt := 8) dX3_run_303 (by decide) ?_
      exact w
  · replace w := w.2 c
    refine st_iconst (v := 0) dX3_run_87 (by decide) ?_
    exact st_ireturn rfl rfl dX3_run_88 w
set_option maxRecDepth 20000 in
set_option maxHeartbeats 2000000 in
theorem sX3_run_172 {d : Nat} {h : am_H} {Z : Int32 → am_H → Prop} {a0 : Nat} (hb0 : am_la a0) {u1 : Value} {x2 : Int32} {x3 : Int32} {x4 : Int32} {x5 : Int32} {x6 : Int32} {x7 : Int32} {u8 : Value} (w : (vp_in x4 64 ∧ (((h.2.2 (a0 + 6) x4.toNatClampNeg) = 0 → Ru mX3_run none d 187 [.ref a0, u1, .int x2, .int x3, .int x4, .int x5, .int x6, .int x7, u8] [.int 0] h Z) ∧ (¬ ((h.2.2 (a0 + 6) x4.toNatClampNeg) = 0) → Ru mX3_run none d 187 [.ref a0, u1, .int x2, .int x3, .int x4, .int x5, .int x6, .int x7, u8] [.int 1] h Z)))) : Ru mX3_run none d 172 [.ref a0, u1, .int x2, .int x3, .int x4, .int x5, .int x6, .int x7, u8] [] h Z := by
  refine st_aload_n dX3_run_172 rfl ?_
  refine st_getF (q := a0 + 6) fl_X3_27 fk_3_5 rfl dX3_run_173 (la_0 hb0) ?_
  refine st_iload dX3_run_176 rfl ?_
  have hc1 := w.1
  replace w := w.2
  refine st_iald dX3_run_178 (la_6 hb0) hc1 ?_
  refine st_if_eq (tgt := 186) dX3_run_179 (by decide) (fun c => ?_) (fun c => ?_)
  · replace w := w.1 c
    refine st_iconst (v := 0) dX3_run_186 (by decide) ?_
    exact w
  · replace w := w.2 c
    refine st_iconst (v := 1) dX3_run_182 (by decide) ?_
    refine st_goto (tgt := 187) dX3_run_183 (by decide) ?_
    exact w
set_option maxRecDepth 20000 in
set_option maxHeartbeats 2000000 in
theorem sX3_run_267 {d : Nat} {h : am_H} {Z : Int32 → am_H → Prop} {a0 : Nat} (hb0 : am_la a0) {u1 : Value} {x2 : Int32} {x3 : Int32} {x4 : Int32} {x5 : Int32} {x6 : Int32} {u7 : Value} {u8 : Value} (w : (vp_in (x4 - 1) 64 ∧ (vp_in x4 64 ∧ (am_cl mX3_joined d [.int x6, .int (h.2.2 (a0 + 6) (x4 - 1).toNatClampNeg), .int (h.2.2 (a0 + 6) x4.toNatClampNeg)] h (fun r3 h4 => (∀ h5 : am_H, h5 = am_sR h4 (a0 + 6) (upd (h4.2.2 (a0 + 6)) (x4 - 1).toNatClampNeg r3) → (Ru mX3_run none d 8 [.ref a0, u1, .int x2, .int x3, .int (x4 + (-1)), .int (x5 + 1), .int x6, u7, u8] [] h5 Z))))))) : Ru mX3_run none d 267 [.ref a0, u1, .int x2, .int x3, .int x4, .int x5, .int x6, u7, u8] [] h Z := by
  refine st_aload_n dX3_run_267 rfl ?_
  refine st_getF (q := a0 + 6) fl_X3_27 fk_3_5 rfl dX3_run_268 (la_0 hb0) ?_
  refine st_iload dX3_run_271 rfl ?_
  refine st_iconst (v := 1) dX3_run_273 (by decide) ?_
  refine st_isub dX3_run_274 ?_
  refine st_iload dX3_run_275 rfl ?_
  refine st_aload_n dX3_run_277 rfl ?_
  refine st_getF (q := a0 + 6) fl_X3_27 fk_3_5 rfl dX3_run_278 (la_0 hb0) ?_
  refine st_iload dX3_run_281 rfl ?_
  refine st_iconst (v := 1) dX3_run_283 (by decide) ?_
  refine st_isub dX3_run_284 ?_
  have hc1 := w.1
  replace w := w.2
  refine st_iald dX3_run_285 (la_6 hb0) hc1 ?_
  refine st_aload_n dX3_run_286 rfl ?_
  refine st_getF (q := a0 + 6) fl_X3_27 fk_3_5 rfl dX3_run_287 (la_0 hb0) ?_
  refine st_iload dX3_run_290 rfl ?_
  have hc2 := w.1
  replace w := w.2
  refine st_iald dX3_run_292 (la_6 hb0) hc2 ?_
  refine st_callS (M' := mX3_joined) [.int x6, .int (h.2.2 (a0 + 6) (x4 - 1).toNatClampNeg), .int (h.2.2 (a0 + 6) x4.toNatClampNeg)] [.int (x4 - 1), .ref (a0 + 6)] dX3_run_293 ml_X3_96 mf_X3_joined ms_X3_joined rfl rfl rfl w (fun r3 h4 w => ?_)
  show Ru mX3_run none d 296 [.ref a0, u1, .int x2, .int x3, .int x4, .int x5, .int x6, u7, u8] [.int r3, .int (x4 - 1), .ref (a0 + 6)] h4 Z
  refine st_iast dX3_run_296 (la_6 hb0) hc1 (fun h5 eh5 => ?_)
  replace w := w h5 eh5
  refine st_iinc (L' := [.ref a0, u1, .int x2, .int x3, .int (x4 + (-1)), .int x5, .int x6, u7, u8]) dX3_run_297 rfl rfl (by decide) rfl ?_
  refine st_iinc (L' := [.ref a0, u1, .int x2, .int x3, .int (x4 + (-1)), .int (x5 + 1), .int x6, u7, u8]) dX3_run_300 rfl rfl (by decide) rfl ?_
  refine st_goto (tgt := 8) dX3_run_303 (by decide) ?_
  exact w
set_option maxRecDepth 20000 in
set_option maxHeartbeats 2000000 in
theorem sX3_run_187 {d : Nat} {h : am_H} {Z : Int32 → am_H → Prop} {a0 : Nat} (hb0 : am_la a0) {u1 : Value} {x2 : Int32} {x3 : Int32} {x4 : Int32} {x5 : Int32} {x6 : Int32} {x7 : Int32} {u8 : Value} {s0 : Int32} (w : (¬ x6 = 4 → Ru mX3_run none d 198 [.ref a0, u1, .int x2, .int x3, .int x4, .int x5, .int x6, .int x7, u8] [.int 0, .int s0] h Z) ∧ (x6 = 4 → Ru mX3_run none d 198 [.ref a0, u1, .int x2, .int x3, .int x4, .int x5, .int x6, .int x7, u8] [.int 1, .int s0] h Z)) : Ru mX3_run none d 187 [.ref a0, u1, .int x2, .int x3, .int x4, .int x5, .int x6, .int x7, u8] [.int s0] h Z := by
  refine st_iload dX3_run_187 rfl ?_
  refine st_iconst (v := 4) dX3_run_189 (by decide) ?_
  refine st_icmp_ne (tgt := 197) dX3_run_190 (by decide) (fun c => ?_) (fun c => ?_)
  · replace w := w.1 c
    refine st_iconst (v := 0) dX3_run_197 (by decide) ?_
    exact w
  · replace w := w.2 c
    refine st_iconst (v := 1) dX3_run_193 (by decide) ?_
    refine st_goto (tgt := 198) dX3_run_194 (by decide) ?_
    exact w
set_option maxRecDepth 20000 in
set_option maxHeartbeats 2000000 in
theorem sX3_run_198 {d : Nat} {h : am_H} {Z : Int32 → am_H → Prop} {a0 : Nat} (hb0 : am_la a0) {u1 : Value} {x2 : Int32} {x3 : Int32} {x4 : Int32} {x5 : Int32} {u6 : Value} {x7 : Int32} {u8 : Value} {s0 : Int32} {s1 : Int32} (w : (¬ s1 = s0 → Ru mX3_run none d 206 [.ref a0, u1, .int x2, .int x3, .int x4, .int x5, u6, .int x7, u8] [.int 0] h Z) ∧ (s1 = s0 → Ru mX3_run none d 206 [.ref a0, u1, .int x2, .int x3, .int x4, .int x5, u6, .int x7, u8] [.int 1] h Z)) : Ru mX3_run none d 198 [.ref a0, u1, .int x2, .int x3, .int x4, .int x5, u6, .int x7, u8] [.int s0, .int s1] h Z := by
  refine st_icmp_ne (tgt := 205) dX3_run_198 (by decide) (fun c => ?_) (fun c => ?_)
  · replace w := w.1 c
    refine st_iconst (v := 0) dX3_run_205 (by decide) ?_
    exact w
  · replace w := w.2 c
    refine st_iconst (v := 1) dX3_run_201 (by decide) ?_
    refine st_goto (tgt := 206) dX3_run_202 (by decide) ?_
    exact w
set_option maxRecDepth 20000 in
set_option maxHeartbeats 2000000 in
theorem sX3_run_206 {d : Nat} {h : am_H} {Z : Int32 → am_H → Prop} {a0 : Nat} (hb0 : am_la a0) {u1 : Value} {x2 : Int32} {x3 : Int32} {x4 : Int32} {x5 : Int32} {u6 : Value} {x7 : Int32} {u8 : Value} {s0 : Int32} (w : (s0 = 0 → Ru mX3_run none d 221 [.ref a0, u1, .int x2, .int x3, .int x4, .int x5, u6, .int x7, .int s0] [.int (x3 + 1)] h Z) ∧ (¬ (s0 = 0) → Ru mX3_run none d 221 [.ref a0, u1, .int x2, .int x3, .int x4, .int x5, u6, .int x7, .int s0] [.int x7] h Z)) : Ru mX3_run none d 206 [.ref a0, u1, .int x2, .int x3, .int x4, .int x5, u6, .int x7, u8] [.int s0] h Z := by
  refine st_istore (L' := [.ref a0, u1, .int x2, .int x3, .int x4, .int x5, u6, .int x7, .int s0]) dX3_run_206 (by decide) rfl ?_
  refine st_iload dX3_run_208 rfl ?_
  refine st_if_eq (tgt := 218) dX3_run_210 (by decide) (fun c => ?_) (fun c => ?_)
  · replace w := w.1 c
    refine st_iload_n dX3_run_218 rfl ?_
    refine st_iconst (v := 1) dX3_run_219 (by decide) ?_
    refine st_iadd dX3_run_220 ?_
    exact w
  · replace w := w.2 c
    refine st_iload dX3_run_213 rfl ?_
    refine st_goto (tgt := 221) dX3_run_215 (by decide) ?_
    exact w
set_option maxRecDepth 20000 in
set_option maxHeartbeats 2000000 in
theorem sX3_run_221 {d : Nat} {h : am_H} {Z : Int32 → am_H → Prop} {a0 : Nat} (hb0 : am_la a0) {u1 : Value} {x2 : Int32} {u3 : Value} {x4 : Int32} {x5 : Int32} {u6 : Value} {u7 : Value} {x8 : Int32} {s0 : Int32} (w : (x8 = 0 → Ru mX3_run none d 8 [.ref a0, u1, .int x2, .int s0, .int (x4 - 1), .int (x5 + 1), u6, u7, .int x8] [] h Z) ∧ (¬ (x8 = 0) → Ru mX3_run none d 8 [.ref a0, u1, .int x2, .int s0, .int x4, .int (x5 + 1), u6, u7, .int x8] [] h Z)) : Ru mX3_run none d 221 [.ref a0, u1, .int x2, u3, .int x4, .int x5, u6, u7, .int x8] [.int s0] h Z := by
  refine st_istore_n (L' := [.ref a0, u1, .int x2, .int s0, .int x4, .int x5, u6, u7, .int x8]) dX3_run_221 (by decide) rfl ?_
  refine st_iload dX3_run_222 rfl ?_
  refine st_if_eq (tgt := 232) dX3_run_224 (by decide) (fun c => ?_) (fun c => ?_)
  · replace w := w.1 c
    refine st_iload dX3_run_232 rfl ?_
    refine st_iconst (v := 1) dX3_run_234 (by decide) ?_
    refine st_isub dX3_run_235 ?_
    refine st_istore (L' := [.ref a0, u1, .int x2, .int s0, .int (x4 - 1), .int x5, u6, u7, .int x8]) dX3_run_236 (by decide) rfl ?_
    refine st_goto (tgt := 300) dX3_run_238 (by decide) ?_
    refine st_iinc (L' := [.ref a0, u1, .int x2, .int s0, .int (x4 - 1), .int (x5 + 1), u6, u7, .int x8]) dX3_run_300 rfl rfl (by decide) rfl ?_
    refine st_goto (tgt := 8) dX3_run_303 (by decide) ?_
    exact w
  · replace w := w.2 c
    refine st_iload dX3_run_227 rfl ?_
    refine st_goto (tgt := 236) dX3_run_229 (by decide) ?_
    refine st_istore (L' := [.ref a0, u1, .int x2, .int s0, .int x4, .int x5, u6, u7, .int x8]) dX3_run_236 (by decide) rfl ?_
    refine st_goto (tgt := 300) dX3_run_238 (by decide) ?_
    refine st_iinc (L' := [.ref a0, u1, .int x2, .int s0, .int x4, .int (x5 + 1), u6, u7, .int x8]) dX3_run_300 rfl rfl (by decide) rfl ?_
    refine st_goto (tgt := 8) dX3_run_303 (by decide) ?_
    exact w
set_option maxRecDepth 20000 in
set_option maxHeartbeats 2000000 in
theorem sX11_reckon_0 {d : Nat} {h : am_H} {Z : Int32 → am_H → Prop} {x0 : Int32} {x1 : Int32} {x2 : Int32} (w : (x0 = 2 → Z (x1 + x2) h) ∧ (¬ x0 = 2 → (x0 = 3 → Z (x1 - x2) h) ∧ (¬ x0 = 3 → (x0 = 4 → Z (x1 * x2) h) ∧ (¬ x0 = 4 → (x0 = 5 → (¬ x2 = 0 ∧ (Z (x1 / x2) h))) ∧ (¬ x0 = 5 → (x0 = 6 → (¬ x2 = 0 ∧ (Z (am_rem x1 x2) h))) ∧ (¬ x0 = 6 → (x0 = 7 → (x2 ≤ x1 → Z 0 h) ∧ (¬ (x2 ≤ x1) → Z 1 h)) ∧ (¬ x0 = 7 → (x0 = 8 → (x1 ≤ x2 → Z 0 h) ∧ (¬ (x1 ≤ x2) → Z 1 h)) ∧ (¬ x0 = 8 → (¬ x1 = x2 → Z 0 h) ∧ (x1 = x2 → Z 1 h))))))))) : Ru mX11_reckon none d 0 [.int x0, .int x1, .int x2] [] h Z := by
  refine st_iload_n dX11_reckon_0 rfl ?_
  by_cases c0 : x0 = 2
  · replace w := w.1 c0
    refine st_tableIn (off := 43) (tgt := 44) dX11_reckon_1 (by rw [c0]; decide) (by rw [c0]; decide) (by rw [c0]; decide) (by decide) ?_
    refine st_iload_n dX11_reckon_44 rfl ?_
    refine st_iload_n dX11_reckon_45 rfl ?_
    refine st_iadd dX11_reckon_46 ?_
    exact st_ireturn rfl rfl dX11_reckon_47 w
  · replace w := w.2 c0
    by_cases c1 : x0 = 3
    · replace w := w.1 c1
      refine st_tableIn (off := 47) (tgt := 48) dX11_reckon_1 (by rw [c1]; decide) (by rw [c1]; decide) (by rw [c1]; decide) (by decide) ?_
      refine st_iload_n dX11_reckon_48 rfl ?_
      refine st_iload_n dX11_reckon_49 rfl ?_
      refine st_isub dX11_reckon_50 ?_
      exact st_ireturn rfl rfl dX11_reckon_51 w
    · replace w := w.2 c1
      by_cases c2 : x0 = 4
      · replace w := w.1 c2
        refine st_tableIn (off := 51) (tgt := 52) dX11_reckon_1 (by rw [c2]; decide) (by rw [c2]; decide) (by rw [c2]; decide) (by decide) ?_
        refine st_iload_n dX11_reckon_52 rfl ?_
        refine st_iload_n dX11_reckon_53 rfl ?_
        refine st_imul dX11_reckon_54 ?_
        exact st_ireturn rfl rfl dX11_reckon_55 w
      · replace w := w.2 c2
        by_cases c3 : x0 = 5
        · replace w := w.1 c3
          refine st_tableIn (off := 55) (tgt := 56) dX11_reckon_1 (by rw [c3]; decide) (by rw [c3]; decide) (by rw [c3]; decide) (by decide) ?_
          refine st_iload_n dX11_reckon_56 rfl ?_
          refine st_iload_n dX11_reckon_57 rfl ?_
          have hc2 := w.1
          replace w := w.2
          refine st_idiv dX11_reckon_58 hc2 ?_
          exact st_ireturn rfl rfl dX11_reckon_59 w
        · replace w := w.2 c3
          by_cases c4 : x0 = 6
          · replace w := w.1 c4
            refine st_tableIn (off := 59) (tgt := 60) dX11_reckon_1 (by rw [c4]; decide) (by rw [c4]; decide) (by rw [c4]; decide) (by decide) ?_
            refine st_iload_n dX11_reckon_60 rfl ?_
            refine st_iload_n dX11_reckon_61 rfl ?_
            have hc1 := w.1
            replace w := w.2
            refine st_irem dX11_reckon_62 hc1 ?_
            exact st_ireturn rfl rfl dX11_reckon_63 w
          · replace w := w.2 c4
            by_cases c5 : x0 = 7
            · replace w := w.1 c5
              refine st_tableIn (off := 63) (tgt := 64) dX11_reckon_1 (by rw [c5]; decide) (by rw [c5]; decide) (by rw [c5]; decide) (by decide) ?_
              refine st_iload_n dX11_reckon_64 rfl ?_
              refine st_iload_n dX11_reckon_65 rfl ?_
              refine st_icmp_ge (tgt := 73) dX11_reckon_66 (by decide) (fun c => ?_) (fun c => ?_)
              · replace w := w.1 c
                refine st_iconst (v := 0) dX11_reckon_73 (by decide) ?_
                exact st_ireturn rfl rfl dX11_reckon_74 w
              · replace w := w.2 c
                refine st_iconst (v := 1) dX11_reckon_69 (by decide) ?_
                refine st_goto (tgt := 74) dX11_reckon_70 (by decide) ?_
                exact st_ireturn rfl rfl dX11_reckon_74 w
            · replace w := w.2 c5
              by_cases c6 : x0 = 8
              · replace w := w.1 c6
                refine st_tableIn (off := 74) (tgt := 75) dX11_reckon_1 (by rw [c6]; decide) (by rw [c6]; decide) (by rw [c6]; decide) (by decide) ?_
                refine st_iload_n dX11_reckon_75 rfl ?_
                refine st_iload_n dX11_reckon_76 rfl ?_
                refine st_icmp_le (tgt := 84) dX11_reckon_77 (by decide) (fun c => ?_) (fun c => ?_)
                · replace w := w.1 c
                  refine st_iconst (v := 0) dX11_reckon_84 (by decide) ?_
                  exact st_ireturn rfl rfl dX11_reckon_85 w
                · replace w := w.2 c
                  refine st_iconst (v := 1) dX11_reckon_80 (by decide) ?_
                  refine st_goto (tgt := 85) dX11_reckon_81 (by decide) ?_
                  exact st_ireturn rfl rfl dX11_reckon_85 w
              · replace w := w.2 c6
                refine st_tableOut (tgt := 86) dX11_reckon_1 (am_tout (lo := 2) (hi := 8) (fun v hv1 hv2 hv => ?_)) (by decide) ?_
                · have hq : v = 2 ∨ v = 3 ∨ v = 4 ∨ v = 5 ∨ v = 6 ∨ v = 7 ∨ v = 8 := by omega
                  rcases hq with rfl | rfl | rfl | rfl | rfl | rfl | rfl
                  · exact c0 (am_toI hv (by decide))
                  · exact c1 (am_toI hv (by decide))
                  · exact c2 (am_toI hv (by decide))
                  · exact c3 (am_toI hv (by decide))
                  · exact c4 (am_toI hv (by decide))
                  · exact c5 (am_toI hv (by decide))
                  · exact c6 (am_toI hv (by decide))
                · refine st_iload_n dX11_reckon_86 rfl ?_
                  refine st_iload_n dX11_reckon_87 rfl ?_
                  refine st_icmp_ne (tgt := 95) dX11_reckon_88 (by decide) (fun c => ?_) (fun c => ?_)
                  · replace w := w.1 c
                    refine st_iconst (v := 0) dX11_reckon_95 (by decide) ?_
                    exact st_ireturn rfl rfl dX11_reckon_96 w
                  · replace w := w.2 c
                    refine st_iconst (v := 1) dX11_reckon_91 (by decide) ?_
                    refine st_goto (tgt := 96) dX11_reckon_92 (by decide) ?_
                    exact st_ireturn rfl rfl dX11_reckon_96 w
set_option maxRecDepth 20000 in
set_option maxHeartbeats 2000000 in
theorem sX11_reckonsTo_0 {d : Nat} {h : am_H} {Z : Int32 → am_H → Prop} {x1 : Int32} {x2 : Int32} (w : Ru mX11_reckonsTo none d 16 [.ref 73, .int x1, .int x2, .int 0, .int (260 * (x1 / 260)), .int x1, .null, .null] [] h Z) : Ru mX11_reckonsTo none d 0 [.ref 73, .int x1, .int x2, .null, .null, .null, .null, .null] [] h Z := by
  refine st_iconst (v := 0) dX11_reckonsTo_0 (by decide) ?_
  refine st_istore_n (L' := [.ref 73, .int x1, .int x2, .int 0, .null, .null, .null, .null]) dX11_reckonsTo_1 (by decide) rfl ?_
  refine st_sipush (v := 260) dX11_reckonsTo_2 (by decide) ?_
  refine st_iload_n dX11_reckonsTo_5 rfl ?_
  refine st_sipush (v := 260) dX11_reckonsTo_6 (by decide) ?_
  refine st_idiv dX11_reckonsTo_9 (by decide) ?_
  refine st_imul dX11_reckonsTo_10 ?_
  refine st_istore (L' := [.ref 73, .int x1, .int x2, .int 0, .int (260 * (x1 / 260)), .null, .null, .null]) dX11_reckonsTo_11 (by decide) rfl ?_
  refine st_iload_n dX11_reckonsTo_13 rfl ?_
  refine st_istore (L' := [.ref 73, .int x1, .int x2, .int 0, .int (260 * (x1 / 260)), .int x1, .null, .null]) dX11_reckonsTo_14 (by decide) rfl ?_
  exact w
set_option maxRecDepth 20000 in
set_option maxHeartbeats 2000000 in
theorem sX11_reckonsTo_16 {d : Nat} {h : am_H} {Z : Int32 → am_H → Prop} {u1 : Value} {x2 : Int32} {x3 : Int32} {x4 : Int32} {x5 : Int32} {u6 : Value} {u7 : Value} (w : (x2 ≤ x5 → Z (h.2.2 92 0) h) ∧ (¬ (x2 ≤ x5) → (vp_in x5 260 ∧ ((((h.2.2 87 x5.toNatClampNeg) / 1048576) = 0 → Ru mX11_reckonsTo none d 63 [.ref 73, u1, .int x2, .int x3, .int x4, .int (x5 + 1), .int ((h.2.2 87 x5.toNatClampNeg) / 1048576), .int (am_rem (h.2.2 87 x5.toNatClampNeg) 1048576)] [] h Z) ∧ (¬ (((h.2.2 87 x5.toNatClampNeg) / 1048576) = 0) → (¬ ((h.2.2 87 x5.toNatClampNeg) / 1048576) = 1 → (¬ ((h.2.2 87 x5.toNatClampNeg) / 1048576) = 10 → (((h.2.2 87 x5.toNatClampNeg) / 1048576) = 11 → Ru mX11_reckonsTo none d 135 [.ref 73, u1, .int x2, .int x3, .int x4, .int (x5 + 1), .int ((h.2.2 87 x5.toNatClampNeg) / 1048576), .int (am_rem (h.2.2 87 x5.toNatClampNeg) 1048576)] [] h Z) ∧ (¬ (((h.2.2 87 x5.toNatClampNeg) / 1048576) = 11) → (¬ ((h.2.2 87 x5.toNatClampNeg) / 1048576) = 12 → (((h.2.2 87 x5.toNatClampNeg) / 1048576) = 5 → Ru mX11_reckonsTo none d 192 [.ref 73, u1, .int x2, .int (x3 - 1), .int x4, .int (x5 + 1), .int ((h.2.2 87 x5.toNatClampNeg) / 1048576), .int (am_rem (h.2.2 87 x5.toNatClampNeg) 1048576)] [] h Z) ∧ (¬ (((h.2.2 87 x5.toNatClampNeg) / 1048576) = 5) → (¬ ((h.2.2 87 x5.toNatClampNeg) / 1048576) = 6 → Ru mX11_reckonsTo none d 203 [.ref 73, u1, .int x2, .int (x3 - 1), .int x4, .int (x5 + 1), .int ((h.2.2 87 x5.toNatClampNeg) / 1048576), .int (am_rem (h.2.2 87 x5.toNatClampNeg) 1048576)] [] h Z) ∧ (((h.2.2 87 x5.toNatClampNeg) / 1048576) = 6 → Ru mX11_reckonsTo none d 192 [.ref 73, u1, .int x2, .int (x3 - 1), .int x4, .int (x5 + 1), .int ((h.2.2 87 x5.toNatClampNeg) / 1048576), .int (am_rem (h.2.2 87 x5.toNatClampNeg) 1048576)] [] h Z))) ∧ (((h.2.2 87 x5.toNatClampNeg) / 1048576) = 12 → Ru mX11_reckonsTo none d 135 [.ref 73, u1, .int x2, .int x3, .int x4, .int (x5 + 1), .int ((h.2.2 87 x5.toNatClampNeg) / 1048576), .int (am_rem (h.2.2 87 x5.toNatClampNeg) 1048576)] [] h Z))) ∧ (((h.2.2 87 x5.toNatClampNeg) / 1048576) = 10 → (vp_in (x3 - 1) 260 ∧ (∀ h3 : am_H, h3 = am_sR h 92 (upd (h.2.2 92) (x3 - 1).toNatClampNeg (1 - (h.2.2 92 (x3 - 1).toNatClampNeg))) → (Ru mX11_reckonsTo none d 16 [.ref 73, u1, .int x2, .int x3, .int x4, .int (x5 + 1), .int ((h.2.2 87 x5.toNatClampNeg) / 1048576), .int (am_rem (h.2.2 87 x5.toNatClampNeg) 1048576)] [] h3 Z))))) ∧ (((h.2.2 87 x5.toNatClampNeg) / 1048576) = 1 → Ru mX11_reckonsTo none d 63 [.ref 73, u1, .int x2, .int x3, .int x4, .int (x5 + 1), .int ((h.2.2 87 x5.toNatClampNeg) / 1048576), .int (am_rem (h.2.2 87 x5.toNatClampNeg) 1048576)] [] h Z)))))) : Ru mX11_reckonsTo none d 16 [.ref 73, u1, .int x2, .int x3, .int x4, .int x5, u6, u7] [] h Z := by
  refine st_iload dX11_reckonsTo_16 rfl ?_
  refine st_iload_n dX11_reckonsTo_18 rfl ?_
  refine st_icmp_ge (tgt := 233) dX11_reckonsTo_19 (by decide) (fun c => ?_) (fun c => ?_)
  · replace w := w.1 c
    refine st_aload_n dX11_reckonsTo_233 rfl ?_
    refine st_getF (q := 92) fl_X11_65 fk_11_30 rfl dX11_reckonsTo_234 sh_73 ?_
    refine st_iconst (v := 0) dX11_reckonsTo_237 (by decide) ?_
    refine st_iald dX11_reckonsTo_238 sh_92 (by unfold vp_in; decide +kernel) ?_
    show Ru mX11_reckonsTo none d 239 [.ref 73, u1, .int x2, .int x3, .int x4, .int x5, u6, u7] [.int (h.2.2 92 0)] h Z
    exact st_ireturn rfl rfl dX11_reckonsTo_239 w
  · replace w := w.2 c
    refine st_aload_n dX11_reckonsTo_22 rfl ?_
    refine st_getF (q := 87) fl_X11_50 fk_11_25 rfl dX11_reckonsTo_23 sh_73 ?_
    refine st_iload dX11_reckonsTo_26 rfl ?_
    have hc1 := w.1
    replace w := w.2
    refine st_iald dX11_reckonsTo_28 sh_87 hc1 ?_
    refine st_ldc dX11_reckonsTo_29 kc_X11_190 ?_
    refine st_idiv dX11_reckonsTo_31 (by decide) ?_
    refine st_istore (L' := [.ref 73, u1, .int x2, .int x3, .int x4, .int x5, .int ((h.2.2 87 x5.toNatClampNeg) / 1048576), u7]) dX11_reckonsTo_32 (by decide) rfl ?_
    refine st_aload_n dX11_reckonsTo_34 rfl ?_
    refine st_getF (q := 87) fl_X11_50 fk_11_25 rfl dX11_reckonsTo_35 sh_73 ?_
    refine st_iload dX11_reckonsTo_38 rfl ?_
    refine st_iald dX11_reckonsTo_40 sh_87 hc1 ?_
    refine st_ldc dX11_reckonsTo_41 kc_X11_190 ?_
    refine st_irem dX11_reckonsTo_43 (by decide) ?_
    refine st_istore (L' := [.ref 73, u1, .int x2, .int x3, .int x4, .int x5, .int ((h.2.2 87 x5.toNatClampNeg) / 1048576), .int (am_rem (h.2.2 87 x5.toNatClampNeg) 1048576)]) dX11_reckonsTo_44 (by decide) rfl ?_
    refine st_iload dX11_reckonsTo_46 rfl ?_
    refine st_iconst (v := 1) dX11_reckonsTo_48 (by decide) ?_
    refine st_iadd dX11_reckonsTo_49 ?_
    refine st_istore (L' := [.ref 73, u1, .int x2, .int x3, .int x4, .int (x5 + 1), .int ((h.2.2 87 x5.toNatClampNeg) / 1048576), .int (am_rem (h.2.2 87 x5.toNatClampNeg) 1048576)]) dX11_reckonsTo_50 (by decide) rfl ?_
    refine st_iload dX11_reckonsTo_52 rfl ?_
    refine st_if_eq (tgt := 63) dX11_reckonsTo_54 (by decide) (fun c => ?_) (fun c => ?_)
    · replace w := w.1 c
      exact w
    · replace w := w.2 c
      refine st_iload dX11_reckonsTo_57 rfl ?_
      refine st_iconst (v := 1) dX11_reckonsTo_59 (by decide) ?_
      refine st_icmp_ne (tgt := 93) dX11_reckonsTo_60 (by decide) (fun c => ?_) (fun c => ?_)
      · replace w := w.1 c
        refine st_iload dX11_reckonsTo_93 rfl ?_
        refine st_bipush (v := 10) dX11_reckonsTo_95 (by decide) ?_
        refine st_icmp_ne (tgt := 121) dX11_reckonsTo_97 (by decide) (fun c => ?_) (fun c => ?_)
        · replace w := w.1 c
          refine st_iload dX11_reckonsTo_121 rfl ?_
          refine st_bipush (v := 11) dX11_reckonsTo_123 (by decide) ?_
          refine st_icmp_eq (tgt := 135) dX11_reckonsTo_125 (by decide) (fun c => ?_) (fun c => ?_)
          · replace w := w.1 c
            exact w
          · replace w := w.2 c
            refine st_iload dX11_reckonsTo_128 rfl ?_
            refine st_bipush (v := 12) dX11_reckonsTo_130 (by decide) ?_
            refine st_icmp_ne (tgt := 175) dX11_reckonsTo_132 (by decide) (fun c => ?_) (fun c => ?_)
            · replace w := w.1 c
              refine st_iload_n dX11_reckonsTo_175 rfl ?_
              refine st_iconst (v := 1) dX11_reckonsTo_176 (by decide) ?_
              refine st_isub dX11_reckonsTo_177 ?_
              refine st_istore_n (L' := [.ref 73, u1, .int x2, .int (x3 - 1), .int x4, .int (x5 + 1), .int ((h.2.2 87 x5.toNatClampNeg) / 1048576), .int (am_rem (h.2.2 87 x5.toNatClampNeg) 1048576)]) dX11_reckonsTo_178 (by decide) rfl ?_
              refine st_iload dX11_reckonsTo_179 rfl ?_
              refine st_iconst (v := 5) dX11_reckonsTo_181 (by decide) ?_
              refine st_icmp_eq (tgt := 192) dX11_reckonsTo_182 (by decide) (fun c => ?_) (fun c => ?_)
              · replace w := w.1 c
                exact w
              · replace w := w.2 c
                refine st_iload dX11_reckonsTo_185 rfl ?_
                refine st_bipush (v := 6) dX11_reckonsTo_187 (by decide) ?_
                refine st_icmp_ne (tgt := 203) dX11_reckonsTo_189 (by decide) (fun c => ?_) (fun c => ?_)
                · replace w := w.1 c
                  exact w
                · replace w := w.2 c
                  exact w
            · replace w := w.2 c
              exact w
        · replace w := w.2 c
          refine st_aload_n dX11_reckonsTo_100 rfl ?_
          refine st_getF (q := 92) fl_X11_65 fk_11_30 rfl dX11_reckonsTo_101 sh_73 ?_
          refine st_iload_n dX11_reckonsTo_104 rfl ?_
          refine st_iconst (v := 1) dX11_reckonsTo_105 (by decide) ?_
          refine st_isub dX11_reckonsTo_106 ?_
          refine st_iconst (v := 1) dX11_reckonsTo_107 (by decide) ?_
          refine st_aload_n dX11_reckonsTo_108 rfl ?_
          refine st_getF (q := 92) fl_X11_65 fk_11_30 rfl dX11_reckonsTo_109 sh_73 ?_
          refine st_iload_n dX11_reckonsTo_112 rfl ?_
          refine st_iconst (v := 1) dX11_reckonsTo_113 (by decide) ?_
          refine st_isub dX11_reckonsTo_114 ?_
          have hc2 := w.1
          replace w := w.2
          refine st_iald dX11_reckonsTo_115 sh_92 hc2 ?_
          refine st_isub dX11_reckonsTo_116 ?_
          refine st_iast dX11_reckonsTo_117 sh_92 hc2 (fun h3 eh3 => ?_)
          replace w := w h3 eh3
          refine st_goto (tgt := 230) dX11_reckonsTo_118 (by decide) ?_
          refine st_goto (tgt := 16) dX11_reckonsTo_230 (by decide) ?_
          exact w
      · replace w := w.2 c
        exact w
set_option maxRecDepth 20000 in
set_option maxHeartbeats 2000000 in
theorem sX11_reckonsTo_63 {d : Nat} {h : am_H} {Z : Int32 → am_H → Prop} {u1 : Value} {x2 : Int32} {x3 : Int32} {x4 : Int32} {x5 : Int32} {x6 : Int32} {x7 : Int32} (w : (¬ x6 = 0 → (vp_in x7 10 ∧ (vp_in x3 260 ∧ (∀ h3 : am_H, h3 = am_sR h 92 (upd (h.2.2 92) x3.toNatClampNeg (h.2.2 93 x7.toNatClampNeg)) → (Ru mX11_reckonsTo none d 16 [.ref 73, u1, .int x2, .int (x3 + 1), .int x4, .int x5, .int x6, .int x7] [] h3 Z))))) ∧ (x6 = 0 → (vp_in x3 260 ∧ (∀ h5 : am_H, h5 = am_sR h 92 (upd (h.2.2 92) x3.toNatClampNeg x7) → (Ru mX11_reckonsTo none d 16 [.ref 73, u1, .int x2, .int (x3 + 1), .int x4, .int x5, .int x6, .int x7] [] h5 Z))))) : Ru mX11_reckonsTo none d 63 [.ref 73, u1, .int x2, .int x3, .int x4, .int x5, .int x6, .int x7] [] h Z := by
  refine st_aload_n dX11_reckonsTo_63 rfl ?_
  refine st_getF (q := 92) fl_X11_65 fk_11_30 rfl dX11_reckonsTo_64 sh_73 ?_
  refine st_iload_n dX11_reckonsTo_67 rfl ?_
  refine st_iload dX11_reckonsTo_68 rfl ?_
  refine st_if_ne (tgt := 78) dX11_reckonsTo_70 (by decide) (fun c => ?_) (fun c => ?_)
  · replace w := w.1 c
    refine st_aload_n dX11_reckonsTo_78 rfl ?_
    refine st_getF (q := 93) fl_X11_68 fk_11_31 rfl dX11_reckonsTo_79 sh_73 ?_
    refine st_iload dX11_reckonsTo_82 rfl ?_
    have hc1 := w.1
    replace w := w.2
    refine st_iald dX11_reckonsTo_84 sh_93 hc1 ?_
    have hc2 := w.1
    replace w := w.2
    refine st_iast dX11_reckonsTo_85 sh_92 hc2 (fun h3 eh3 => ?_)
    replace w := w h3 eh3
    refine st_iload_n dX11_reckonsTo_86 rfl ?_
    refine st_iconst (v := 1) dX11_reckonsTo_87 (by decide) ?_
    refine st_iadd dX11_reckonsTo_88 ?_
    refine st_istore_n (L' := [.ref 73, u1, .int x2, .int (x3 + 1), .int x4, .int x5, .int x6, .int x7]) dX11_reckonsTo_89 (by decide) rfl ?_
    refine st_goto (tgt := 230) dX11_reckonsTo_90 (by decide) ?_
    refine st_goto (tgt := 16) dX11_reckonsTo_230 (by decide) ?_
    exact w
  · replace w := w.2 c
    refine st_iload dX11_reckonsTo_73 rfl ?_
    refine st_goto (tgt := 85) dX11_reckonsTo_75 (by decide) ?_
    have hc4 := w.1
    replace w := w.2
    refine st_iast dX11_reckonsTo_85 sh_92 hc4 (fun h5 eh5 => ?_)
    replace w := w h5 eh5
    refine st_iload_n dX11_reckonsTo_86 rfl ?_
    refine st_iconst (v := 1) dX11_reckonsTo_87 (by decide) ?_
    refine st_iadd dX11_reckonsTo_88 ?_
    refine st_istore_n (L' := [.ref 73, u1, .int x2, .int (x3 + 1), .int x4, .int x5, .int x6, .int x7]) dX11_reckonsTo_89 (by decide) rfl ?_
    refine st_goto (tgt := 230) dX11_reckonsTo_90 (by decide) ?_
    refine st_goto (tgt := 16) dX11_reckonsTo_230 (by decide) ?_
    exact w
set_option maxRecDepth 20000 in
set_option maxHeartbeats 2000000 in
theorem sX11_reckonsTo_135 {d : Nat} {h : am_H} {Z : Int32 → am_H → Prop} {u1 : Value} {x2 : Int32} {x3 : Int32} {x4 : Int32} {x5 : Int32} {x6 : Int32} {x7 : Int32} (w : (vp_in (x3 - 1) 260 ∧ ((¬ x6 = 12 → Ru mX11_reckonsTo none d 155 [.ref 73, u1, .int x2, .int x3, .int x4, .int x5, .int x6, .int x7] [.int 0, .int (h.2.2 92 (x3 - 1).toNatClampNeg)] h Z) ∧ (x6 = 12 → Ru mX11_reckonsTo none d 155 [.ref 73, u1, .int x2, .int x3, .int x4, .int x5, .int x6, .int x7] [.int 1, .int (h.2.2 92 (x3 - 1).toNatClampNeg)] h Z)))) : Ru mX11_reckonsTo none d 135 [.ref 73, u1, .int x2, .int x3, .int x4, .int x5, .int x6, .int x7] [] h Z := by
  refine st_aload_n dX11_reckonsTo_135 rfl ?_
  refine st_getF (q := 92) fl_X11_65 fk_11_30 rfl dX11_reckonsTo_136 sh_73 ?_
  refine st_iload_n dX11_reckonsTo_139 rfl ?_
  refine st_iconst (v := 1) dX11_reckonsTo_140 (by decide) ?_
  refine st_isub dX11_reckonsTo_141 ?_
  have hc1 := w.1
  replace w := w.2
  refine st_iald dX11_reckonsTo_142 sh_92 hc1 ?_
  refine st_iload dX11_reckonsTo_143 rfl ?_
  refine st_bipush (v := 12) dX11_reckonsTo_145 (by decide) ?_
  refine st_icmp_ne (tgt := 154) dX11_reckonsTo_147 (by decide) (fun c => ?_) (fun c => ?_)
  · replace w := w.1 c
    refine st_iconst (v := 0) dX11_reckonsTo_154 (by decide) ?_
    exact w
  · replace w := w.2 c
    refine st_iconst (v := 1) dX11_reckonsTo_150 (by decide) ?_
    refine st_goto (tgt := 155) dX11_reckonsTo_151 (by decide) ?_
    exact w
set_option maxRecDepth 20000 in
set_option maxHeartbeats 2000000 in
theorem sX11_reckonsTo_192 {d : Nat} {h : am_H} {Z : Int32 → am_H → Prop} {u1 : Value} {x2 : Int32} {x3 : Int32} {x4 : Int32} {x5 : Int32} {x6 : Int32} {u7 : Value} (w : (vp_in x3 260 ∧ ((¬ (h.2.2 92 x3.toNatClampNeg) = 0 → Ru mX11_reckonsTo none d 203 [.ref 73, u1, .int x2, .int x3, .int x4, .int x5, .int x6, u7] [] h Z) ∧ ((h.2.2 92 x3.toNatClampNeg) = 0 → Z 0 h)))) : Ru mX11_reckonsTo none d 192 [.ref 73, u1, .int x2, .int x3, .int x4, .int x5, .int x6, u7] [] h Z := by
  refine st_aload_n dX11_reckonsTo_192 rfl ?_
  refine st_getF (q := 92) fl_X11_65 fk_11_30 rfl dX11_reckonsTo_193 sh_73 ?_
  refine st_iload_n dX11_reckonsTo_196 rfl ?_
  have hc1 := w.1
  replace w := w.2
  refine st_iald dX11_reckonsTo_197 sh_92 hc1 ?_
  refine st_if_ne (tgt := 203) dX11_reckonsTo_198 (by decide) (fun c => ?_) (fun c => ?_)
  · replace w := w.1 c
    exact w
  · replace w := w.2 c
    refine st_iconst (v := 0) dX11_reckonsTo_201 (by decide) ?_
    exact st_ireturn rfl rfl dX11_reckonsTo_202 w
set_option maxRecDepth 20000 in
set_option maxHeartbeats 2000000 in
theorem sX11_reckonsTo_203 {d : Nat} {h : am_H} {Z : Int32 → am_H → Prop} {u1 : Value} {x2 : Int32} {x3 : Int32} {x4 : Int32} {x5 : Int32} {x6 : Int32} {u7 : Value} (w : (vp_in (x3 - 1) 260 ∧ (vp_in x3 260 ∧ (am_cl mX11_reckon d [.int x6, .int (h.2.2 92 (x3 - 1).toNatClampNeg), .int (h.2.2 92 x3.toNatClampNeg)] h (fun r3 h4 => (∀ h5 : am_H, h5 = am_sR h4 92 (upd (h4.2.2 92) (x3 - 1).toNatClampNeg r3) → (Ru mX11_reckonsTo none d 16 [.ref 73, u1, .int x2, .int x3, .int x4, .int x5, .int x6, u7] [] h5 Z))))))) : Ru mX11_reckonsTo none d 203 [.ref 73, u1, .int x2, .int x3, .int x4, .int x5, .int x6, u7] [] h Z := by
  refine st_aload_n dX11_reckonsTo_203 rfl ?_
  refine st_getF (q := 92) fl_X11_65 fk_11_30 rfl dX11_reckonsTo_204 sh_73 ?_
  refine st_iload_n dX11_reckonsTo_207 rfl ?_
  refine st_iconst (v := 1) dX11_reckonsTo_208 (by decide) ?_
  refine st_isub dX11_reckonsTo_209 ?_
  refine st_iload dX11_reckonsTo_210 rfl ?_
  refine st_aload_n dX11_reckonsTo_212 rfl ?_
  refine st_getF (q := 92) fl_X11_65 fk_11_30 rfl dX11_reckonsTo_213 sh_73 ?_
  refine st_iload_n dX11_reckonsTo_216 rfl ?_
  refine st_iconst (v := 1) dX11_reckonsTo_217 (by decide) ?_
  refine st_isub dX11_reckonsTo_218 ?_
  have hc1 := w.1
  replace w := w.2
  refine st_iald dX11_reckonsTo_219 sh_92 hc1 ?_
  refine st_aload_n dX11_reckonsTo_220 rfl ?_
  refine st_getF (q := 92) fl_X11_65 fk_11_30 rfl dX11_reckonsTo_221 sh_73 ?_
  refine st_iload_n dX11_reckonsTo_224 rfl ?_
  have hc2 := w.1
  replace w := w.2
  refine st_iald dX11_reckonsTo_225 sh_92 hc2 ?_
  refine st_callS (M' := mX11_reckon) [.int x6, .int (h.2.2 92 (x3 - 1).toNatClampNeg), .int (h.2.2 92 x3.toNatClampNeg)] [.int (x3 - 1), .ref 92] dX11_reckonsTo_226 ml_X11_259 mf_X11_reckon ms_X11_reckon rfl rfl rfl w (fun r3 h4 w => ?_)
  show Ru mX11_reckonsTo none d 229 [.ref 73, u1, .int x2, .int x3, .int x4, .int x5, .int x6, u7] [.int r3, .int (x3 - 1), .ref 92] h4 Z
  refine st_iast dX11_reckonsTo_229 sh_92 hc1 (fun h5 eh5 => ?_)
  replace w := w h5 eh5
  refine st_goto (tgt := 16) dX11_reckonsTo_230 (by decide) ?_
  exact w
set_option maxRecDepth 20000 in
set_option maxHeartbeats 2000000 in
theorem sX11_reckonsTo_155 {d : Nat} {h : am_H} {Z : Int32 → am_H → Prop} {u1 : Value} {x2 : Int32} {x3 : Int32} {x4 : Int32} {x5 : Int32} {u6 : Value} {x7 : Int32} {s0 : Int32} {s1 : Int32} (w : (¬ s1 = s0 → Ru mX11_reckonsTo none d 16 [.ref 73, u1, .int x2, .int (x3 - 1), .int x4, .int x5, u6, .int x7] [] h Z) ∧ (s1 = s0 → Ru mX11_reckonsTo none d 16 [.ref 73, u1, .int x2, .int x3, .int x4, .int (x4 + x7), u6, .int x7] [] h Z)) : Ru mX11_reckonsTo none d 155 [.ref 73, u1, .int x2, .int x3, .int x4, .int x5, u6, .int x7] [.int s0, .int s1] h Z := by
  refine st_icmp_ne (tgt := 168) dX11_reckonsTo_155 (by decide) (fun c => ?_) (fun c => ?_)
  · replace w := w.1 c
    refine st_iload_n dX11_reckonsTo_168 rfl ?_
    refine st_iconst (v := 1) dX11_reckonsTo_169 (by decide) ?_
    refine st_isub dX11_reckonsTo_170 ?_
    refine st_istore_n (L' := [.ref 73, u1, .int x2, .int (x3 - 1), .int x4, .int x5, u6, .int x7]) dX11_reckonsTo_171 (by decide) rfl ?_
    refine st_goto (tgt := 230) dX11_reckonsTo_172 (by decide) ?_
    refine st_goto (tgt := 16) dX11_reckonsTo_230 (by decide) ?_
    exact w
  · replace w := w.2 c
    refine st_iload dX11_reckonsTo_158 rfl ?_
    refine st_iload dX11_reckonsTo_160 rfl ?_
    refine st_iadd dX11_reckonsTo_162 ?_
    refine st_istore (L' := [.ref 73, u1, .int x2, .int x3, .int x4, .int (x4 + x7), u6, .int x7]) dX11_reckonsTo_163 (by decide) rfl ?_
    refine st_goto (tgt := 230) dX11_reckonsTo_165 (by decide) ?_
    refine st_goto (tgt := 16) dX11_reckonsTo_230 (by decide) ?_
    exact w
def q_sg (op : Nat) : Int32 := if op = 2 then 43 else if op = 3 then 45 else if op = 4 then 42 else if op = 5 then 47 else if op = 6 then 37 else if op = 7 then 60 else if op = 8 then 62 else 61
def q_op (op : Nat) (x y : Int32) : Int32 := if op = 2 then x + y else if op = 3 then x - y else if op = 4 then x * y else if op = 5 then x / y else if op = 6 then am_rem x y else if op = 7 then (if x < y then 1 else 0) else if op = 8 then (if y < x then 1 else 0) else (if x = y then 1 else 0)
/-- what codes come to: a program P of pairs (op, v), facts F, n values s on the stack -/
def q_ev (P : Nat → Nat × Nat) (F : Nat → Int32) (to : Nat) : Nat → Nat → Nat → (Nat → Int32) → Int32
  | 0, _, n, s => s (n - 1)
  | m + 1, k, n, s => if to ≤ k then s (n - 1) else
    if (P k).1 = 0 then q_ev P F to m (k + 1) (n + 1) (upd s n (nI (P k).2))
    else if (P k).1 = 1 then q_ev P F to m (k + 1) (n + 1) (upd s n (F (P k).2))
    else if (P k).1 = 10 then q_ev P F to m (k + 1) n (upd s (n - 1) (if s (n - 1) = 0 then 1 else 0))
    else if (P k).1 = 11 then (if s (n - 1) = 0 then q_ev P F to m (P k).2 n s else q_ev P F to m (k + 1) (n - 1) s)
    else if (P k).1 = 12 then (if s (n - 1) = 0 then q_ev P F to m (k + 1) (n - 1) s else q_ev P F to m (P k).2 n s)
    else if ((P k).1 = 5 ∨ (P k).1 = 6) ∧ s (n - 1) = 0 then 0
    else q_ev P F to m (k + 1) (n - 1) (upd s (n - 2) (q_op (P k).1 (s (n - 2)) (s (n - 1))))
/-- one code of the class, its kind and the height that it asks (100: one truth value) -/
def q_ins (C : Nat → Int32) (pos ty : Nat → Nat) (P : Nat → Nat × Nat) (to k : Nat) : Prop := (P k).2 < 2 ^ 20 ∧ (
  ((P k).1 = 0 ∧ C (pos k) = 1 ∧ C (pos k + 1) = nI (P k).2 ∧ pos (k + 1) = pos k + 2 ∧ ty k < 60 ∧ ty (k + 1) = ty k + 1) ∨
  ((P k).1 = 1 ∧ (P k).2 < 10 ∧ C (pos k) = 2 ∧ C (pos k + 1) = nI (P k).2 ∧ pos (k + 1) = pos k + 2 ∧ ty k < 60 ∧ ty (k + 1) = ty k + 1) ∨
  ((P k).1 = 10 ∧ C (pos k) = 3 ∧ pos (k + 1) = pos k + 1 ∧ ty k = 100 ∧ ty (k + 1) = 100) ∨
  ((((P k).1 = 11 ∧ C (pos k) = 5) ∨ ((P k).1 = 12 ∧ C (pos k) = 4)) ∧ C (pos k + 1) = nI (pos (P k).2) ∧ pos (k + 1) = pos k + 2 ∧ k < (P k).2 ∧ (P k).2 ≤ to ∧ ty k = 100 ∧ ty (k + 1) = 0 ∧ ty (P k).2 = 100) ∨
  (2 ≤ (P k).1 ∧ (P k).1 ≤ 9 ∧ C (pos k) = q_sg (P k).1 ∧ pos (k + 1) = pos k + 1 ∧ 2 ≤ ty k ∧ ty k ≤ 60 ∧ ty (k + 1) = (if (P k).1 ≤ 6 then ty k - 1 else 100) ∧ (6 < (P k).1 → ty k = 2)))
/-- values as a height says -/
def q_hs (t n : Nat) (s : Nat → Int32) : Prop := (t = 100 ∧ n = 1 ∧ (s 0 = 0 ∨ s 0 = 1)) ∨ (t ≤ 60 ∧ n = t)
theorem q_t1 {n : Nat} (h : 1 ≤ n) : nI n - 1 = nI (n - 1) := by
  obtain ⟨m, rfl⟩ : ∃ m, n = m + 1 := ⟨n - 1, by omega⟩
  rw [← nI_1, Nat.add_sub_cancel]; grind
theorem q_t0 (n : Nat) : nI n = nI (n + 1) - 1 := by rw [← nI_1]; grind
theorem q_t2 (n : Nat) : nI n - 1 + 1 = nI n := by grind
section
variable {d g : Nat} {h : am_H} {Z : Int32 → am_H → Prop}
theorem iX3_joined {op : Nat} {x y : Int32} (h1 : 2 ≤ op) (h2 : op ≤ 9) (h3 : op = 5 ∨ op = 6 → ¬ y = 0) (z : Z (q_op op x y) h) : Sp mX3_joined d [.int (q_sg op), .int x, .int y] h Z := by
  refine Sp_of mf_X3_joined rfl (Nat.le_of_ble_eq_true rfl) rfl (sX3_joined_0 ?_)
  have : op = 2 ∨ op = 3 ∨ op = 4 ∨ op = 5 ∨ op = 6 ∨ op = 7 ∨ op = 8 ∨ op = 9 := by omega
  rcases this with rfl | rfl | rfl | rfl | rfl | rfl | rfl | rfl <;> simp only [q_sg, q_op, Nat.reduceEqDiff, reduceIte] at z ⊢
  · refine ⟨fun c => absurd c (by decide), fun _ => ⟨fun c => absurd c (by decide), fun _ => ⟨fun _ => z, fun c => absurd trivial c⟩⟩⟩
  · refine ⟨fun c => absurd c (by decide), fun _ => ⟨fun c => absurd c (by decide), fun _ => ⟨fun c => absurd c (by decide), fun _ => ⟨fun _ => z, fun c => absurd trivial c⟩⟩⟩⟩
  · refine ⟨fun c => absurd c (by decide), fun _ => ⟨fun _ => z, fun c => absurd trivial c⟩⟩
  · refine ⟨fun c => absurd c (by decide), fun _ => ⟨fun c => absurd c (by decide), fun _ => ⟨fun c => absurd c (by decide), fun _ => ⟨fun c => absurd c (by decide), fun _ => ⟨fun _ => ⟨fun c => ⟨c, z⟩, fun c => absurd c (h3 (by omega))⟩, fun c => absurd trivial c⟩⟩⟩⟩⟩
  · exact ⟨fun _ => ⟨fun c => ⟨c, z⟩, fun c => absurd c (h3 (by omega))⟩, fun c => absurd trivial c⟩
  · refine ⟨fun c => absurd c (by decide), fun _ => ⟨fun c => absurd c (by decide), fun _ => ⟨fun c => absurd c (by decide), fun _ => ⟨fun c => absurd c (by decide), fun _ => ⟨fun c => absurd c (by decide), fun _ => ⟨fun _ => ⟨fun c => ?_, fun c => ?_⟩, fun c => absurd trivial c⟩⟩⟩⟩⟩⟩
    · rw [if_neg (Int32.not_lt.mpr c)] at z; exact z
    · rw [if_pos (Int32.not_le.mp c)] at z; exact z
  · refine ⟨fun c => absurd c (by decide), fun _ => ⟨fun c => absurd c (by decide), fun _ => ⟨fun c => absurd c (by decide), fun _ => ⟨fun c => absurd c (by decide), fun _ => ⟨fun c => absurd c (by decide), fun _ => ⟨fun c => absurd c (by decide), fun _ => ⟨fun _ => ⟨fun c => ?_, fun c => ?_⟩, fun c => absurd trivial c⟩⟩⟩⟩⟩⟩⟩
    · rw [if_neg (Int32.not_lt.mpr c)] at z; exact z
    · rw [if_pos (Int32.not_le.mp c)] at z; exact z
  · refine ⟨fun c => absurd c (by decide), fun _ => ⟨fun c => absurd c (by decide), fun _ => ⟨fun c => absurd c (by decide), fun _ => ⟨fun c => absurd c (by decide), fun _ => ⟨fun c => absurd c (by decide), fun _ => ⟨fun c => absurd c (by decide), fun _ => ⟨fun c => absurd c (by decide), fun _ => ⟨fun c => ?_, fun c => ?_⟩⟩⟩⟩⟩⟩⟩⟩
    · rw [if_neg c] at z; exact z
    · rw [if_pos c] at z; exact z
theorem iX11_reckon {op : Nat} {x y : Int32} (h1 : 2 ≤ op) (h2 : op ≤ 9) (h3 : op = 5 ∨ op = 6 → ¬ y = 0) (z : Z (q_op op x y) h) : Sp mX11_reckon d [.int (nI op), .int x, .int y] h Z := by
  refine Sp_of mf_X11_reckon rfl (Nat.le_of_ble_eq_true rfl) rfl (sX11_reckon_0 ?_)
  have : op = 2 ∨ op = 3 ∨ op = 4 ∨ op = 5 ∨ op = 6 ∨ op = 7 ∨ op = 8 ∨ op = 9 := by omega
  rcases this with rfl | rfl | rfl | rfl | rfl | rfl | rfl | rfl <;> simp only [q_op, Nat.reduceEqDiff, reduceIte] at z ⊢
  · exact ⟨fun _ => z, fun c => absurd rfl c⟩
  · exact ⟨fun c => absurd c (by decide), fun _ => ⟨fun _ => z, fun c => absurd rfl c⟩⟩
  · exact ⟨fun c => absurd c (by decide), fun _ => ⟨fun c => absurd c (by decide), fun _ => ⟨fun _ => z, fun c => absurd rfl c⟩⟩⟩
  · exact ⟨fun c => absurd c (by decide), fun _ => ⟨fun c => absurd c (by decide), fun _ => ⟨fun c => absurd c (by decide), fun _ => ⟨fun _ => ⟨h3 (by omega), z⟩, fun c => absurd rfl c⟩⟩⟩⟩
  · exact ⟨fun c => absurd c (by decide), fun _ => ⟨fun c => absurd c (by decide), fun _ => ⟨fun c => absurd c (by decide), fun _ => ⟨fun c => absurd c (by decide), fun _ => ⟨fun _ => ⟨h3 (by omega), z⟩, fun c => absurd rfl c⟩⟩⟩⟩⟩
  · refine ⟨fun c => absurd c (by decide), fun _ => ⟨fun c => absurd c (by decide), fun _ => ⟨fun c => absurd c (by decide), fun _ => ⟨fun c => absurd c (by decide), fun _ => ⟨fun c => absurd c (by decide), fun _ => ⟨fun _ => ⟨fun c => ?_, fun c => ?_⟩, fun c => absurd rfl c⟩⟩⟩⟩⟩⟩
    · rw [if_neg (Int32.not_lt.mpr c)] at z; exact z
    · rw [if_pos (Int32.not_le.mp c)] at z; exact z
  · refine ⟨fun c => absurd c (by decide), fun _ => ⟨fun c => absurd c (by decide), fun _ => ⟨fun c => absurd c (by decide), fun _ => ⟨fun c => absurd c (by decide), fun _ => ⟨fun c => absurd c (by decide), fun _ => ⟨fun c => absurd c (by decide), fun _ => ⟨fun _ => ⟨fun c => ?_, fun c => ?_⟩, fun c => absurd rfl c⟩⟩⟩⟩⟩⟩⟩
    · rw [if_neg (Int32.not_lt.mpr c)] at z; exact z
    · rw [if_pos (Int32.not_le.mp c)] at z; exact z
  · refine ⟨fun c => absurd c (by decide), fun _ => ⟨fun c => absurd c (by decide), fun _ => ⟨fun c => absurd c (by decide), fun _ => ⟨fun c => absurd c (by decide), fun _ => ⟨fun c => absurd c (by decide), fun _ => ⟨fun c => absurd c (by decide), fun _ => ⟨fun c => absurd c (by decide), fun _ => ⟨fun c => ?_, fun c => ?_⟩⟩⟩⟩⟩⟩⟩⟩
    · rw [if_neg c] at z; exact z
    · rw [if_pos c] at z; exact z
theorem x_jmp (hg : am_la g) {u1 u8 : Value} {x2 x3 x4 x5 x6 dt : Int32} (h6 : x6 = 4 ∨ x6 = 5) (h4 : vp_in x4 64)
    (w0 : (h.2.2 (g + 6) x4.toNatClampNeg = 0 ↔ x6 = 4) → Ru mX3_run none d 8 [.ref g, u1, .int x2, .int (x3 + 1), .int (x4 - 1), .int (x5 + 1), .int x6, .int dt, .int 0] [] h Z)
    (w1 : (h.2.2 (g + 6) x4.toNatClampNeg = 0 ↔ x6 = 5) → Ru mX3_run none d 8 [.ref g, u1, .int x2, .int dt, .int x4, .int (x5 + 1), .int x6, .int dt, .int 1] [] h Z) : Ru mX3_run none d 172 [.ref g, u1, .int x2, .int x3, .int x4, .int x5, .int x6, .int dt, u8] [] h Z := by
  have r0 : (h.2.2 (g + 6) x4.toNatClampNeg = 0 ↔ x6 = 4) → Ru mX3_run none d 206 [.ref g, u1, .int x2, .int x3, .int x4, .int x5, .int x6, .int dt, u8] [.int 0] h Z := fun q => sX3_run_206 hg ⟨fun _ => sX3_run_221 hg ⟨fun _ => w0 q, fun c => absurd rfl c⟩, fun c => absurd rfl c⟩
  have r1 : (h.2.2 (g + 6) x4.toNatClampNeg = 0 ↔ x6 = 5) → Ru mX3_run none d 206 [.ref g, u1, .int x2, .int x3, .int x4, .int x5, .int x6, .int dt, u8] [.int 1] h Z := fun q => sX3_run_206 hg ⟨fun c => absurd c (by decide), fun _ => sX3_run_221 hg ⟨fun c => absurd c (by decide), fun _ => w1 q⟩⟩
  refine sX3_run_172 hg ⟨h4, fun c => ?_, fun c => ?_⟩
  · rcases h6 with rfl | rfl
    · exact sX3_run_187 hg ⟨fun q => absurd rfl q, fun _ => sX3_run_198 hg ⟨fun _ => r0 ⟨fun _ => rfl, fun _ => c⟩, fun q => absurd q (by decide)⟩⟩
    · exact sX3_run_187 hg ⟨fun _ => sX3_run_198 hg ⟨fun q => absurd rfl q, fun _ => r1 ⟨fun _ => rfl, fun _ => c⟩⟩, fun q => absurd q (by decide)⟩
  · rcases h6 with rfl | rfl
    · exact sX3_run_187 hg ⟨fun q => absurd rfl q, fun _ => sX3_run_198 hg ⟨fun q => absurd rfl q, fun _ => r1 ⟨fun q => absurd q c, fun q => absurd q (by decide)⟩⟩⟩
    · exact sX3_run_187 hg ⟨fun _ => sX3_run_198 hg ⟨fun _ => r0 ⟨fun q => absurd q c, fun q => absurd q (by decide)⟩, fun q => absurd q (by decide)⟩, fun q => absurd q (by decide)⟩
end
section
variable {d g : Nat} {h : am_H} {Z : Int32 → am_H → Prop} {P : Nat → Nat × Nat} {pos ty : Nat → Nat} {from_ to : Nat} {r : Int32}
theorem x_run (hd : 3 ≤ d) (hg : am_la g) (hC : ∀ k, from_ ≤ k → k < to → q_ins (h.2.2 (g + 5)) pos ty P to k) (hp : ∀ k, from_ ≤ k → k < to → pos k < pos to) (h5 : pos to ≤ 512) (ht : ty to = 100 ∨ ty to = 1) (z : ∀ f, Z r (am_sR h (g + 6) f)) : ∀ (m k n t : Nat) (s S : Nat → Int32) (u1 u6 u7 u8 : Value), from_ ≤ k → k ≤ to → to ≤ k + m → t + m < 512 → q_hs (ty k) n s → (∀ i, i < n → S i = s i) → q_ev P (h.2.2 (g + 7)) to m k n s = r → Ru mX3_run none d 8 [.ref g, u1, .int (nI (pos to)), .int (nI (pos k)), .int (nI n - 1), .int (nI t), u6, u7, u8] [] (am_sR h (g + 6) S) Z := by
  intro m
  induction m with
  | zero =>
    intro k n t s S u1 u6 u7 u8 h1 h2 h3 h4 hs hS e
    have ek : k = to := by omega
    subst ek
    have hn : n = 1 := by rcases hs with ⟨_, q, _⟩ | ⟨q1, q2⟩ <;> omega
    subst hn
    have e0 : S 0 = r := by rw [hS 0 (by omega), ← e]; rfl
    have w : Z ((am_sR h (g + 6) S).2.2 (g + 6) (nI 1 - 1).toNatClampNeg) (am_sR h (g + 6) S) := by rw [am_gRs, show (nI 1 - 1).toNatClampNeg = 0 by decide, e0]; exact z S
    refine sX3_run_8 hg ⟨fun c => absurd c (nI_ge (b := 512) (by omega) (by omega)), fun _ => ⟨fun c => absurd c (nI_pos (by omega)), fun _ => ⟨fun _ => ⟨fun c => absurd c (by decide), fun _ => ⟨by rw [show nI 1 - 1 = nI 0 by decide]; exact vp_in_nI (by omega) (by omega), w⟩⟩, fun c => absurd (Int32.le_refl _) c⟩⟩⟩
  | succ m ih =>
    intro k n t s S u1 u6 u7 u8 h1 h2 h3 h4 hs hS e
    rcases Nat.lt_or_ge k to with hk | hk
    · have pk := hp k h1 hk
      have pk1 : pos (k + 1) ≤ pos to := by
        rcases Nat.lt_or_ge (k + 1) to with q | q
        · exact Nat.le_of_lt (hp (k + 1) (by omega) q)
        · rw [show k + 1 = to by omega]; exact Nat.le_refl _
      have ge5 : (am_sR h (g + 6) S).2.2 (g + 5) = h.2.2 (g + 5) := by rw [am_gRb, if_neg (by decide)]
      have ge7 : (am_sR h (g + 6) S).2.2 (g + 7) = h.2.2 (g + 7) := by rw [am_gRb, if_neg (by decide)]
      have main : ∀ dt : Int32, (pos k + 1 < 512 → dt = h.2.2 (g + 5) (pos k + 1)) → Ru mX3_run none d 61 [.ref g, u1, .int (nI (pos to)), .int (nI (pos k)), .int (nI n - 1), .int (nI t), .int (h.2.2 (g + 5) (pos k)), u7, u8] [.int dt] (am_sR h (g + 6) S) Z := by
        intro dt hdt
        obtain ⟨hv, hi⟩ := hC k h1 hk
        unfold q_ev at e
        rw [if_neg (by omega)] at e
        rcases hi with ⟨o, c1, c2, c3, c4, c5⟩ | ⟨o, c0, c1, c2, c3, c4, c5⟩ | ⟨o, c1, c2, c3, c4⟩ | ⟨o, c1, c2, c3, c4, c5, c6, c7⟩ | ⟨o1, o2, c1, c2, c3, c4, c5, c6⟩
        · rw [if_pos o] at e
          have hn : n = ty k := by rcases hs with ⟨q, _⟩ | ⟨_, q⟩ <;> omega
          rw [c1]
          refine sX3_run_61 hg ⟨fun _ => sX3_run_78 hg ?_, fun c => absurd rfl c⟩
          rw [q_t2]
          refine ⟨fun _ => ⟨fun c => absurd rfl c, fun _ => ⟨vp_in_nI (by omega) (by omega), fun h6 e6 => ?_⟩⟩, fun c => absurd (nI_lt (b := 64) (by omega) (by omega)) c⟩
          rw [nI_clamp (by omega), am_gRs, am_sR_2] at e6
          subst e6
          rw [nI_1, nI_1, nI_1, show pos k + 1 + 1 = pos (k + 1) by omega, q_t0 n]
          refine ih (k + 1) (n + 1) (t + 1) _ _ _ _ _ _ (by omega) (by omega) (by omega) (by omega) (Or.inr ⟨by omega, by omega⟩) (fun i hi => ?_) e
          unfold upd
          by_cases q : i = n
          · rw [if_pos q, if_pos q, hdt (by omega), c2]
          · rw [if_neg q, if_neg q]; exact hS i (by omega)
        · rw [if_neg (by omega), if_pos o] at e
          have hn : n = ty k := by rcases hs with ⟨q, _⟩ | ⟨_, q⟩ <;> omega
          rw [c1]
          refine sX3_run_61 hg ⟨fun c => absurd c (by decide), fun _ => ⟨fun c => absurd rfl c, fun _ => sX3_run_78 hg ?_⟩⟩
          rw [q_t2, hdt (by omega), c2]
          refine ⟨fun _ => ⟨fun _ => ⟨2, by omega, Sp_of mf_X3_fact rfl (Nat.le_of_ble_eq_true rfl) rfl (sX3_fact_0 hg ⟨fun c => absurd c (nI_pos (by omega)), fun _ => ⟨fun c => absurd c (nI_ge (b := 10) (by omega) (by omega)), fun _ => ⟨vp_in_nI (by omega) (by omega), vp_in_nI (by omega) (by omega), fun h6 e6 => ?_⟩⟩⟩)⟩, fun c => absurd c (by decide)⟩, fun c => absurd (nI_lt (b := 64) (by omega) (by omega)) c⟩
          rw [nI_clamp (by omega), nI_clamp (by omega), am_gRs, ge7, am_sR_2] at e6
          subst e6
          rw [nI_1, nI_1, nI_1, show pos k + 1 + 1 = pos (k + 1) by omega, q_t0 n]
          refine ih (k + 1) (n + 1) (t + 1) _ _ _ _ _ _ (by omega) (by omega) (by omega) (by omega) (Or.inr ⟨by omega, by omega⟩) (fun i hi => ?_) e
          unfold upd
          by_cases q : i = n
          · rw [if_pos q, if_pos q]
          · rw [if_neg q, if_neg q]; exact hS i (by omega)
        · rw [if_neg (by omega), if_neg (by omega), if_pos o] at e
          have hn : n = 1 := by rcases hs with ⟨_, q, _⟩ | ⟨q, _⟩ <;> omega
          subst hn
          have s0 := hS 0 (by omega)
          rw [c1]
          rw [show nI 1 - 1 = nI 0 by decide]
          refine sX3_run_61 hg ⟨fun c => absurd c (by decide), fun _ => ⟨fun _ => ⟨fun _ => ⟨fun c => absurd rfl c, fun _ => ⟨vp_in_nI (by omega) (by omega), ?_⟩⟩, fun c => absurd (by decide) c⟩, fun c => absurd c (by decide)⟩⟩
          rw [nI_clamp (by omega), am_gRs, s0]
          refine ⟨fun c h6 e6 => ?_, fun c h6 e6 => ?_⟩
          · rw [am_sR_2] at e6
            subst e6
            rw [nI_1, nI_1, ← c2, show nI 0 = nI 1 - 1 by decide]
            rw [if_neg c] at e
            exact ih (k + 1) 1 (t + 1) _ _ _ _ _ _ (by omega) (by omega) (by omega) (by omega) (Or.inl ⟨c4, rfl, Or.inl rfl⟩) (fun i hi => by rw [show i = 0 by omega]; rfl) e
          · rw [am_sR_2] at e6
            subst e6
            rw [nI_1, nI_1, ← c2, show nI 0 = nI 1 - 1 by decide]
            rw [if_pos c] at e
            exact ih (k + 1) 1 (t + 1) _ _ _ _ _ _ (by omega) (by omega) (by omega) (by omega) (Or.inl ⟨c4, rfl, Or.inr rfl⟩) (fun i hi => by rw [show i = 0 by omega]; rfl) e
        · have hn : n = 1 := by rcases hs with ⟨_, q, _⟩ | ⟨q, _⟩ <;> omega
          subst hn
          have s0 := hS 0 (by omega)
          have sb : s 0 = 0 ∨ s 0 = 1 := by rcases hs with ⟨_, _, q⟩ | ⟨q, _⟩ <;> first | exact q | omega
          have h6 : h.2.2 (g + 5) (pos k) = 4 ∨ h.2.2 (g + 5) (pos k) = 5 := by rcases o with ⟨_, q⟩ | ⟨_, q⟩; exact Or.inr q; exact Or.inl q
          have w : Ru mX3_run none d 172 [.ref g, u1, .int (nI (pos to)), .int (nI (pos k) + 1), .int (nI 1 - 1), .int (nI t), .int (h.2.2 (g + 5) (pos k)), .int dt, u8] [] (am_sR h (g + 6) S) Z := by
            refine x_jmp hg h6 (by rw [show nI 1 - 1 = nI 0 by decide]; exact vp_in_nI (by omega) (by omega)) (fun q => ?_) (fun q => ?_)
            · rw [show (nI 1 - 1).toNatClampNeg = 0 by decide, am_gRs, s0] at q
              rw [nI_1, nI_1, nI_1, show pos k + 1 + 1 = pos (k + 1) by omega, show nI 1 - 1 - 1 = nI 0 - 1 by decide]
              refine ih (k + 1) 0 (t + 1) s S _ _ _ _ (by omega) (by omega) (by omega) (by omega) (Or.inr ⟨by omega, by omega⟩) (fun i hi => absurd hi (Nat.not_lt_zero i)) ?_
              rcases o with ⟨o, o2⟩ | ⟨o, o2⟩
              · rw [if_neg (by omega), if_neg (by omega), if_neg (by omega), if_pos o, if_neg (fun c => by have := q.mp c; rw [o2] at this; exact absurd this (by decide))] at e; exact e
              · rw [if_neg (by omega), if_neg (by omega), if_neg (by omega), if_neg (by omega), if_pos o, if_pos (q.mpr o2)] at e; exact e
            · rw [show (nI 1 - 1).toNatClampNeg = 0 by decide, am_gRs, s0] at q
              rw [nI_1 t, hdt (by omega), c1]
              refine ih (P k).2 1 (t + 1) s S _ _ _ _ (by omega) c4 (by omega) (by omega) (Or.inl ⟨c7, rfl, sb⟩) hS ?_
              rcases o with ⟨o, o2⟩ | ⟨o, o2⟩
              · rw [if_neg (by omega), if_neg (by omega), if_neg (by omega), if_pos o, if_pos (q.mpr o2)] at e; exact e
              · rw [if_neg (by omega), if_neg (by omega), if_neg (by omega), if_neg (by omega), if_pos o, if_neg (fun c => by have := q.mp c; rw [o2] at this; exact absurd this (by decide))] at e; exact e
          refine sX3_run_61 hg ⟨fun c => ?_, fun _ => ⟨fun _ => ⟨fun _ => ⟨fun _ => ⟨fun _ => w, fun c => ⟨fun c2 => ?_, fun _ => w⟩⟩, fun c => ?_⟩, fun c => absurd (by decide) c⟩, fun c => ?_⟩⟩
          · rcases h6 with q | q <;> rw [q] at c <;> exact absurd c (by decide)
          · rcases h6 with q | q
            · exact absurd q c
            · exact absurd q c2
          · rcases h6 with q | q <;> rw [q] at c <;> exact absurd c (by decide)
          · rcases h6 with q | q <;> rw [q] at c <;> exact absurd c (by decide)
        · rw [if_neg (by omega), if_neg (by omega), if_neg (by omega), if_neg (by omega), if_neg (by omega)] at e
          have hn : n = ty k := by rcases hs with ⟨q, _⟩ | ⟨_, q⟩ <;> omega
          have ops : (P k).1 = 2 ∨ (P k).1 = 3 ∨ (P k).1 = 4 ∨ (P k).1 = 5 ∨ (P k).1 = 6 ∨ (P k).1 = 7 ∨ (P k).1 = 8 ∨ (P k).1 = 9 := by omega
          have sgn : ∀ x : Int32, (x = 1 ∨ x = 2 ∨ x = 3 ∨ x = 4 ∨ x = 5) → ¬ q_sg (P k).1 = x := by
            rintro x (rfl | rfl | rfl | rfl | rfl) <;> rcases ops with q | q | q | q | q | q | q | q <;> rw [q] <;> decide
          have sd : (q_sg (P k).1 = 47 ∨ q_sg (P k).1 = 37) ↔ ((P k).1 = 5 ∨ (P k).1 = 6) := by
            rcases ops with q | q | q | q | q | q | q | q <;> rw [q] <;> decide
          rw [c1, q_t1 (by omega)]
          have s1 := hS (n - 1) (by omega)
          have s2 := hS (n - 2) (by omega)
          have w : (((P k).1 = 5 ∨ (P k).1 = 6) → ¬ s (n - 1) = 0) → Ru mX3_run none d 267 [.ref g, u1, .int (nI (pos to)), .int (nI (pos k) + 1), .int (nI (n - 1)), .int (nI t), .int (q_sg (P k).1), .int dt, u8] [] (am_sR h (g + 6) S) Z := fun hz => by
            refine sX3_run_267 hg ?_
            rw [q_t1 (by omega), nI_clamp (by omega), nI_clamp (by omega), am_gRs, show n - 1 - 1 = n - 2 by omega, s1, s2]
            refine ⟨vp_in_nI (by omega) (by omega), vp_in_nI (by omega) (by omega), 2, by omega, iX3_joined o1 o2 hz (fun h5 e5 => ?_)⟩
            rw [am_gRs, am_sR_2] at e5
            subst e5
            rw [if_neg (fun q => hz q.1 q.2)] at e
            rw [nI_1, nI_1, ← c2, show nI (n - 1) + -1 = nI (n - 1) - 1 by grind]
            refine ih (k + 1) (n - 1) (t + 1) _ _ _ _ _ _ (by omega) (by omega) (by omega) (by omega) ?_ (fun i hi => ?_) e
            · by_cases q : (P k).1 ≤ 6
              · rw [if_pos q] at c5; exact Or.inr ⟨by omega, by omega⟩
              · rw [if_neg q] at c5
                have := c6 (by omega)
                refine Or.inl ⟨c5, by omega, ?_⟩
                rw [show n - 2 = 0 by omega]
                show upd s 0 _ 0 = 0 ∨ upd s 0 _ 0 = 1
                unfold upd
                rw [if_pos rfl]
                have : (P k).1 = 7 ∨ (P k).1 = 8 ∨ (P k).1 = 9 := by omega
                rcases this with q | q | q <;> rw [q] <;> simp only [q_op, Nat.reduceEqDiff, reduceIte] <;> split <;> simp
            · unfold upd
              by_cases q : i = n - 2
              · rw [if_pos q, if_pos q]
              · rw [if_neg q, if_neg q]; exact hS i (by omega)
          refine sX3_run_61 hg ⟨fun c => absurd c (sgn 1 (by simp)), fun _ => ⟨fun _ => ⟨fun _ => ⟨fun _ => ⟨fun c => absurd c (sgn 4 (by simp)), fun _ => ⟨fun _ => ⟨fun c => absurd c ?_, fun _ => ⟨vp_in_nI (by omega) (by omega), ?_⟩⟩, fun c => absurd c (sgn 5 (by simp))⟩⟩, fun c => absurd c (sgn 3 (by simp))⟩, fun c => absurd (nI_pos' (by omega)) c⟩, fun c => absurd c (sgn 2 (by simp))⟩⟩
          · exact Int32.not_lt.mpr ((nI_leI (a := 1) (by omega) (by omega)).mpr (by omega))
          · rw [nI_clamp (by omega), am_gRs, s1]
            refine ⟨fun c => w (fun _ => c), fun c => ⟨2, by omega, Sp_of mf_X3_isDivision rfl (Nat.le_of_ble_eq_true rfl) rfl (sX3_isDivision_0 ?_)⟩⟩
            have e0 : ((P k).1 = 5 ∨ (P k).1 = 6) → r = 0 := fun q => by rw [if_pos ⟨q, c⟩] at e; exact e.symm
            have zz : r = 0 → Z 0 (am_sR h (g + 6) S) := fun q => by have := z S; rw [q] at this; exact this
            refine ⟨fun q => ⟨fun q2 => absurd q2 (by decide), fun _ => zz (e0 (sd.mp (Or.inl q)))⟩, fun q1 => ⟨fun q => ⟨fun _ => w (fun q3 => ?_), fun q2 => absurd rfl q2⟩, fun q => ⟨fun q2 => absurd q2 (by decide), fun _ => zz (e0 (sd.mp (Or.inr q)))⟩⟩⟩
            rcases sd.mpr q3 with q4 | q4
            · exact absurd q4 q1
            · exact absurd q4 q
      refine sX3_run_8 hg ⟨fun c => absurd c (nI_ge (b := 512) (by omega) (by omega)), fun _ => ⟨fun c => absurd c (nI_pos (by omega)), fun _ => ⟨fun c => absurd c (nI_ge pk (by omega)), fun _ => ⟨fun c => absurd c (nI_ge (b := 512) (by omega) (by omega)), fun _ => ⟨vp_in_nI (by omega) (by omega), ?_⟩⟩⟩⟩⟩
      rw [ge5, nI_clamp (by omega), nI_1, nI_clamp (by omega)]
      exact ⟨fun c => main 0 (fun q => absurd c (nI_ge (b := 512) q (by omega))), fun c => ⟨vp_in_nI (by
        rcases Nat.lt_or_ge (pos k + 1) 512 with q | q
        · exact q
        · exact absurd ((nI_leI (a := 512) (by omega) (by omega)).mpr q) c) (by omega), main _ (fun _ => rfl)⟩⟩
    · have ek : k = to := by omega
      subst ek
      have hn : n = 1 := by rcases hs with ⟨_, q, _⟩ | ⟨q1, q2⟩ <;> omega
      subst hn
      have e0 : S 0 = r := by
        rw [hS 0 (by omega), ← e]
        unfold q_ev
        rw [if_pos (Nat.le_refl _)]
      have w : Z ((am_sR h (g + 6) S).2.2 (g + 6) (nI 1 - 1).toNatClampNeg) (am_sR h (g + 6) S) := by rw [am_gRs, show (nI 1 - 1).toNatClampNeg = 0 by decide, e0]; exact z S
      refine sX3_run_8 hg ⟨fun c => absurd c (nI_ge (b := 512) (by omega) (by omega)), fun _ => ⟨fun c => absurd c (nI_pos (by omega)), fun _ => ⟨fun _ => ⟨fun c => absurd c (by decide), fun _ => ⟨by rw [show nI 1 - 1 = nI 0 by decide]; exact vp_in_nI (by omega) (by omega), w⟩⟩, fun c => absurd (Int32.le_refl _) c⟩⟩⟩
end
section
variable {d : Nat} {h : am_H} {Z : Int32 → am_H → Prop} {P : Nat → Nat × Nat} {C : Nat → Int32} {pos ty : Nat → Nat} {from_ to : Nat} {r : Int32}
theorem m_rec (hd : 3 ≤ d) (hC : ∀ k, from_ ≤ k → k < to → q_ins C pos ty P to k) (hR : ∀ k, from_ ≤ k → k < to → h.2.2 87 k = nI ((P k).1 * 2 ^ 20 + (P k).2)) (h5 : to ≤ 260) (ht : ty to = 100 ∨ ty to = 1) (z : ∀ f, Z r (am_sR h 92 f)) : ∀ (m k n : Nat) (s S : Nat → Int32) (u1 u6 u7 : Value), from_ ≤ k → k ≤ to → to ≤ k + m → q_hs (ty k) n s → (∀ i, i < n → S i = s i) → q_ev P (h.2.2 93) to m k n s = r → Ru mX11_reckonsTo none d 16 [.ref 73, u1, .int (nI to), .int (nI n), .int 0, .int (nI k), u6, u7] [] (am_sR h 92 S) Z := by
  intro m
  induction m with
  | zero =>
    intro k n s S u1 u6 u7 h1 h2 h3 hs hS e
    have ek : k = to := by omega
    subst ek
    have hn : n = 1 := by rcases hs with ⟨_, q, _⟩ | ⟨q1, q2⟩ <;> omega
    subst hn
    have e0 : S 0 = r := by rw [hS 0 (by omega), ← e]; rfl
    refine sX11_reckonsTo_16 ⟨fun _ => ?_, fun c => absurd (Int32.le_refl _) c⟩
    rw [am_gRs, e0]; exact z S
  | succ m ih =>
    intro k n s S u1 u6 u7 h1 h2 h3 hs hS e
    rcases Nat.lt_or_ge k to with hk | hk
    · obtain ⟨hv, hi⟩ := hC k h1 hk
      have g87 : (am_sR h 92 S).2.2 87 k = nI ((P k).1 * 2 ^ 20 + (P k).2) := by rw [am_gR, if_neg (by decide)]; exact hR k h1 hk
      have g93 : (am_sR h 92 S).2.2 93 = h.2.2 93 := by rw [am_gR, if_neg (by decide)]
      have hop : (P k).1 ≤ 12 := by rcases hi with ⟨o, _⟩ | ⟨o, _⟩ | ⟨o, _⟩ | ⟨⟨o, _⟩ | ⟨o, _⟩, _⟩ | ⟨_, o, _⟩ <;> omega
      have q1 : nI ((P k).1 * 2 ^ 20 + (P k).2) / 1048576 = nI (P k).1 := by
        rw [show (1048576 : Int32) = nI 1048576 from rfl, pk_div (by omega) (by omega) (by omega)]
        congr 1; omega
      have q2 : am_rem (nI ((P k).1 * 2 ^ 20 + (P k).2)) 1048576 = nI (P k).2 := by
        rw [show (1048576 : Int32) = nI 1048576 from rfl, am_rem_n (by omega) (by omega) (by omega)]
        congr 1; omega
      have no : ∀ j : Nat, j < 13 → (P k).1 ≠ j → ¬ nI (P k).1 = nI j := fun j hj hne c => hne ((nI_eq (by omega) (by omega)).mp c)
      unfold q_ev at e
      rw [if_neg (by omega)] at e
      refine sX11_reckonsTo_16 ⟨fun c => absurd c (nI_ge (by omega) (by omega)), fun _ => ⟨vp_in_nI (by omega) (by omega), ?_⟩⟩
      rw [nI_clamp (by omega), g87, q1, q2, nI_1]
      rcases hi with ⟨o, c1, c2, c3, c4, c5⟩ | ⟨o, c0, c1, c2, c3, c4, c5⟩ | ⟨o, c1, c2, c3, c4⟩ | ⟨o, c1, c2, c3, c4, c5, c6, c7⟩ | ⟨o1, o2, c1, c2, c3, c4, c5, c6⟩
      · rw [if_pos o] at e
        have hn : n = ty k := by rcases hs with ⟨q, _⟩ | ⟨_, q⟩ <;> omega
        have yes : nI (P k).1 = 0 := by rw [o]; rfl
        refine ⟨fun _ => sX11_reckonsTo_63 ⟨fun c => absurd yes c, fun _ => ⟨vp_in_nI (by omega) (by omega), fun h6 e6 => ?_⟩⟩, fun c => absurd yes c⟩
        rw [nI_clamp (by omega), am_gRs, am_sR_2] at e6
        subst e6
        rw [nI_1]
        refine ih (k + 1) (n + 1) _ _ _ _ _ (by omega) (by omega) (by omega) (Or.inr ⟨by omega, by omega⟩) (fun i hi => ?_) e
        unfold upd
        by_cases q : i = n
        · rw [if_pos q, if_pos q]
        · rw [if_neg q, if_neg q]; exact hS i (by omega)
      · rw [if_neg (by omega), if_pos o] at e
        have hn : n = ty k := by rcases hs with ⟨q, _⟩ | ⟨_, q⟩ <;> omega
        have yes : nI (P k).1 = 1 := by rw [o]; rfl
        have n0 : ¬ nI (P k).1 = 0 := no 0 (by omega) (by omega)
        refine ⟨fun c => absurd c n0, fun _ => ⟨fun c => absurd yes c, fun _ => sX11_reckonsTo_63 ⟨fun _ => ⟨vp_in_nI (by omega) (by omega), vp_in_nI (by omega) (by omega), fun h6 e6 => ?_⟩, fun c => absurd c n0⟩⟩⟩
        rw [nI_clamp (by omega), nI_clamp (by omega), am_gRs, g93, am_sR_2] at e6
        subst e6
        rw [nI_1]
        refine ih (k + 1) (n + 1) _ _ _ _ _ (by omega) (by omega) (by omega) (Or.inr ⟨by omega, by omega⟩) (fun i hi => ?_) e
        unfold upd
        by_cases q : i = n
        · rw [if_pos q, if_pos q]
        · rw [if_neg q, if_neg q]; exact hS i (by omega)
      · rw [if_neg (by omega), if_neg (by omega), if_pos o] at e
        have hn : n = 1 := by rcases hs with ⟨_, q, _⟩ | ⟨q, _⟩ <;> omega
        subst hn
        have sb : s 0 = 0 ∨ s 0 = 1 := by rcases hs with ⟨_, _, q⟩ | ⟨q, _⟩ <;> first | exact q | omega
        have yes : nI (P k).1 = 10 := by rw [o]; rfl
        refine ⟨fun c => absurd c (no 0 (by omega) (by omega)), fun _ => ⟨fun _ => ⟨fun c => absurd yes c, fun _ => ?_⟩, fun c => absurd c (no 1 (by omega) (by omega))⟩⟩
        rw [show nI 1 - 1 = nI 0 by decide]
        refine ⟨vp_in_nI (by omega) (by omega), fun h6 e6 => ?_⟩
        rw [nI_clamp (by omega), am_gRs, hS 0 (by omega), am_sR_2] at e6
        subst e6
        have sc : 1 - s 0 = if s 0 = 0 then 1 else 0 := by rcases sb with q | q <;> rw [q] <;> decide
        rw [sc]
        refine ih (k + 1) 1 _ _ _ _ _ (by omega) (by omega) (by omega) (Or.inl ⟨c4, rfl, ?_⟩) (fun i hi => by rw [show i = 0 by omega]; rfl) e
        show upd s 0 _ 0 = 0 ∨ upd s 0 _ 0 = 1
        unfold upd
        rw [if_pos rfl]
        show (if s 0 = 0 then (1 : Int32) else 0) = 0 ∨ (if s 0 = 0 then (1 : Int32) else 0) = 1
        by_cases q : s 0 = 0
        · rw [if_pos q]; exact Or.inr rfl
        · rw [if_neg q]; exact Or.inl rfl
      · have hn : n = 1 := by rcases hs with ⟨_, q, _⟩ | ⟨q, _⟩ <;> omega
        subst hn
        have s0 := hS 0 (by omega)
        have sb : s 0 = 0 ∨ s 0 = 1 := by rcases hs with ⟨_, _, q⟩ | ⟨q, _⟩ <;> first | exact q | omega
        have w0 : q_ev P (h.2.2 93) to m (k + 1) 0 s = r → ∀ u6 u7, Ru mX11_reckonsTo none d 16 [.ref 73, u1, .int (nI to), .int (nI 1 - 1), .int 0, .int (nI (k + 1)), u6, u7] [] (am_sR h 92 S) Z := fun ee u6 u7 => by
          rw [show nI 1 - 1 = nI 0 by decide]
          exact ih (k + 1) 0 s S _ _ _ (by omega) (by omega) (by omega) (Or.inr ⟨by omega, by omega⟩) (fun i hi => absurd hi (Nat.not_lt_zero i)) ee
        have w1 : q_ev P (h.2.2 93) to m (P k).2 1 s = r → ∀ u6 u7, Ru mX11_reckonsTo none d 16 [.ref 73, u1, .int (nI to), .int (nI 1), .int 0, .int (0 + nI (P k).2), u6, u7] [] (am_sR h 92 S) Z := fun ee u6 u7 => by
          rw [show (0 : Int32) + nI (P k).2 = nI (P k).2 by grind]
          exact ih (P k).2 1 s S _ _ _ (by omega) c4 (by omega) (Or.inl ⟨c7, rfl, sb⟩) hS ee
        have w : Ru mX11_reckonsTo none d 135 [.ref 73, u1, .int (nI to), .int (nI 1), .int 0, .int (nI (k + 1)), .int (nI (P k).1), .int (nI (P k).2)] [] (am_sR h 92 S) Z := by
          refine sX11_reckonsTo_135 ?_
          rw [show (nI 1 - 1).toNatClampNeg = 0 by decide, am_gRs, s0]
          refine ⟨by rw [show nI 1 - 1 = nI 0 by decide]; exact vp_in_nI (by omega) (by omega), fun c => sX11_reckonsTo_155 ⟨fun c2 => w0 ?_ _ _, fun c2 => w1 ?_ _ _⟩, fun c => sX11_reckonsTo_155 ⟨fun c2 => w0 ?_ _ _, fun c2 => w1 ?_ _ _⟩⟩
          · have o' : (P k).1 = 11 := by rcases o with ⟨o, _⟩ | ⟨o, _⟩; exact o; exact absurd (by rw [o]; rfl) c
            rw [if_neg (by omega), if_neg (by omega), if_neg (by omega), if_pos o', if_neg c2] at e; exact e
          · have o' : (P k).1 = 11 := by rcases o with ⟨o, _⟩ | ⟨o, _⟩; exact o; exact absurd (by rw [o]; rfl) c
            rw [if_neg (by omega), if_neg (by omega), if_neg (by omega), if_pos o', if_pos c2] at e; exact e
          · have o' : (P k).1 = 12 := (nI_eq (b := 12) (by omega) (by omega)).mp c
            have c3 : s 0 = 0 := by rcases sb with q | q; exact q; exact absurd q c2
            rw [if_neg (by omega), if_neg (by omega), if_neg (by omega), if_neg (by omega), if_pos o', if_pos c3] at e; exact e
          · have o' : (P k).1 = 12 := (nI_eq (b := 12) (by omega) (by omega)).mp c
            have c3 : ¬ s 0 = 0 := fun q => by rw [q] at c2; exact absurd c2 (by decide)
            rw [if_neg (by omega), if_neg (by omega), if_neg (by omega), if_neg (by omega), if_pos o', if_neg c3] at e; exact e
        have oo : (P k).1 = 11 ∨ (P k).1 = 12 := by rcases o with ⟨o, _⟩ | ⟨o, _⟩; exact Or.inl o; exact Or.inr o
        refine ⟨fun c => absurd c (no 0 (by omega) (by omega)), fun _ => ⟨fun _ => ⟨fun _ => ⟨fun _ => w, fun c => ⟨fun c2 => ?_, fun _ => w⟩⟩, fun c => absurd c (no 10 (by omega) (by omega))⟩, fun c => absurd c (no 1 (by omega) (by omega))⟩⟩
        rcases oo with q | q
        · exact absurd (by rw [q]; rfl) c
        · exact absurd (by rw [q]; rfl) c2
      · rw [if_neg (by omega), if_neg (by omega), if_neg (by omega), if_neg (by omega), if_neg (by omega)] at e
        have hn : n = ty k := by rcases hs with ⟨q, _⟩ | ⟨_, q⟩ <;> omega
        have s1 := hS (n - 1) (by omega)
        have s2 := hS (n - 2) (by omega)
        rw [q_t1 (by omega)]
        have w : (((P k).1 = 5 ∨ (P k).1 = 6) → ¬ s (n - 1) = 0) → Ru mX11_reckonsTo none d 203 [.ref 73, u1, .int (nI to), .int (nI (n - 1)), .int 0, .int (nI (k + 1)), .int (nI (P k).1), .int (nI (P k).2)] [] (am_sR h 92 S) Z := fun hz => by
          refine sX11_reckonsTo_203 ?_
          rw [q_t1 (by omega), nI_clamp (by omega), nI_clamp (by omega), am_gRs, show n - 1 - 1 = n - 2 by omega, s1, s2]
          refine ⟨vp_in_nI (by omega) (by omega), vp_in_nI (by omega) (by omega), 2, by omega, iX11_reckon o1 o2 hz (fun h5 e5 => ?_)⟩
          rw [am_gRs, am_sR_2] at e5
          subst e5
          rw [if_neg (fun q => hz q.1 q.2)] at e
          refine ih (k + 1) (n - 1) _ _ _ _ _ (by omega) (by omega) (by omega) ?_ (fun i hi => ?_) e
          · by_cases q : (P k).1 ≤ 6
            · rw [if_pos q] at c5; exact Or.inr ⟨by omega, by omega⟩
            · rw [if_neg q] at c5
              have := c6 (by omega)
              refine Or.inl ⟨c5, by omega, ?_⟩
              rw [show n - 2 = 0 by omega]
              show upd s 0 _ 0 = 0 ∨ upd s 0 _ 0 = 1
              unfold upd
              rw [if_pos rfl]
              have : (P k).1 = 7 ∨ (P k).1 = 8 ∨ (P k).1 = 9 := by omega
              rcases this with q | q | q <;> rw [q] <;> simp only [q_op, Nat.reduceEqDiff, reduceIte] <;> split <;> simp
          · unfold upd
            by_cases q : i = n - 2
            · rw [if_pos q, if_pos q]
            · rw [if_neg q, if_neg q]; exact hS i (by omega)
        have w2 : ((P k).1 = 5 ∨ (P k).1 = 6) → Ru mX11_reckonsTo none d 192 [.ref 73, u1, .int (nI to), .int (nI (n - 1)), .int 0, .int (nI (k + 1)), .int (nI (P k).1), .int (nI (P k).2)] [] (am_sR h 92 S) Z := fun q => by
          refine sX11_reckonsTo_192 ?_
          rw [nI_clamp (by omega), am_gRs, s1]
          refine ⟨vp_in_nI (by omega) (by omega), fun c => w (fun _ => c), fun c => ?_⟩
          rw [if_pos ⟨q, c⟩] at e
          rw [e]; exact z S
        refine ⟨fun c => absurd c (no 0 (by omega) (by omega)), fun _ => ⟨fun _ => ⟨fun _ => ⟨fun c => absurd c (no 11 (by omega) (by omega)), fun _ => ⟨fun _ => ⟨fun c => w2 (Or.inl ((nI_eq (b := 5) (by omega) (by omega)).mp c)), fun c5' => ⟨fun c6' => w (fun q => ?_), fun c => w2 (Or.inr ((nI_eq (b := 6) (by omega) (by omega)).mp c))⟩⟩, fun c => absurd c (no 12 (by omega) (by omega))⟩⟩, fun c => absurd c (no 10 (by omega) (by omega))⟩, fun c => absurd c (no 1 (by omega) (by omega))⟩⟩
        rcases q with q | q
        · exact absurd (by rw [q]; rfl) c5'
        · exact absurd (by rw [q]; rfl) c6'
    · have ek : k = to := by omega
      subst ek
      have hn : n = 1 := by rcases hs with ⟨_, q, _⟩ | ⟨q1, q2⟩ <;> omega
      subst hn
      have e0 : S 0 = r := by
        rw [hS 0 (by omega), ← e]
        unfold q_ev
        rw [if_pos (Nat.le_refl _)]
      refine sX11_reckonsTo_16 ⟨fun _ => ?_, fun c => absurd (Int32.le_refl _) c⟩
      rw [am_gRs, e0]; exact z S
end
