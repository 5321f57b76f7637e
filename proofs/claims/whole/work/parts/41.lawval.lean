-- rules: valueOf, byLaw, holdsAny
set_option maxRecDepth 20000 in
set_option maxHeartbeats 2000000 in
theorem sX3_valueOf_0 {d : Nat} {h : am_H} {Z : Int32 → am_H → Prop} {a0 : Nat} (hb0 : am_la a0) {x1 : Int32} {a2 : Nat} (hb2 : am_bu a2) {x3 : Int32} {x4 : Int32} {x5 : Int32} (w : am_cl mX3_tellFacts d [.ref a0, .ref a2, .int x3, .int x4, .int x5] h (fun r1 h2 => Ru mX3_valueOf none d 13 [.ref a0, .int x1, .ref a2, .int x3, .int x4, .int x5, .int 0] [] h2 Z)) : Ru mX3_valueOf none d 0 [.ref a0, .int x1, .ref a2, .int x3, .int x4, .int x5, .null] [] h Z := by
  refine st_aload_n dX3_valueOf_0 rfl ?_
  refine st_aload_n dX3_valueOf_1 rfl ?_
  refine st_iload_n dX3_valueOf_2 rfl ?_
  refine st_iload dX3_valueOf_3 rfl ?_
  refine st_iload dX3_valueOf_5 rfl ?_
  refine st_callV (M' := mX3_tellFacts) [.ref a2, .int x3, .int x4, .int x5] [] dX3_valueOf_7 ml_X3_48 mf_X3_tellFacts mv_X3_tellFacts (la_0 hb0) rfl rfl rfl w (fun r1 h2 w => ?_)
  show Ru mX3_valueOf none d 10 [.ref a0, .int x1, .ref a2, .int x3, .int x4, .int x5, .null] [] h2 Z
  refine st_iconst (v := 0) dX3_valueOf_10 (by decide) ?_
  refine st_istore (L' := [.ref a0, .int x1, .ref a2, .int x3, .int x4, .int x5, .int 0]) dX3_valueOf_11 (by decide) rfl ?_
  exact w
set_option maxRecDepth 20000 in
set_option maxHeartbeats 2000000 in
theorem sX3_valueOf_13 {d : Nat} {h : am_H} {Z : Int32 → am_H → Prop} {a0 : Nat} (hb0 : am_la a0) {x1 : Int32} {u2 : Value} {u3 : Value} {u4 : Value} {u5 : Value} {x6 : Int32} (w : ((h.1 a0 7) ≤ x6 → Z 0 h) ∧ (¬ ((h.1 a0 7) ≤ x6) → (16 ≤ x6 → Z 0 h) ∧ (¬ (16 ≤ x6) → (vp_in x6 16 ∧ ((¬ (h.2.2 (a0 + 1) x6.toNatClampNeg) = x1 → Ru mX3_valueOf none d 13 [.ref a0, .int x1, u2, u3, u4, u5, .int (x6 + 1)] [] h Z) ∧ ((h.2.2 (a0 + 1) x6.toNatClampNeg) = x1 → am_cl mX3_run d [.ref a0, .int (h.2.2 (a0 + 3) x6.toNatClampNeg), .int (h.2.2 (a0 + 4) x6.toNatClampNeg)] h (fun r2 h3 => (r2 = 0 → Ru mX3_valueOf none d 13 [.ref a0, .int x1, u2, u3, u4, u5, .int (x6 + 1)] [] h3 Z) ∧ (¬ (r2 = 0) → am_cl mX3_run d [.ref a0, .int (h3.2.2 (a0 + 2) x6.toNatClampNeg), .int (h3.2.2 (a0 + 3) x6.toNatClampNeg)] h3 (fun r4 h5 => Z r4 h5))))))))) : Ru mX3_valueOf none d 13 [.ref a0, .int x1, u2, u3, u4, u5, .int x6] [] h Z := by
  refine st_iload dX3_valueOf_13 rfl ?_
  refine st_aload_n dX3_valueOf_15 rfl ?_
  refine st_getI fl_X3_33 fk_3_7 dX3_valueOf_16 (la_0 hb0) ?_
  refine st_icmp_ge (tgt := 86) dX3_valueOf_19 (by decide) (fun c => ?_) (fun c => ?_)
  · replace w := w.1 c
    refine st_iconst (v := 0) dX3_valueOf_86 (by decide) ?_
    exact st_ireturn rfl rfl dX3_valueOf_87 w
  · replace w := w.2 c
    refine st_iload dX3_valueOf_22 rfl ?_
    refine st_bipush (v := 16) dX3_valueOf_24 (by decide) ?_
    refine st_icmp_ge (tgt := 86) dX3_valueOf_26 (by decide) (fun c => ?_) (fun c => ?_)
    · replace w := w.1 c
      refine st_iconst (v := 0) dX3_valueOf_86 (by decide) ?_
      exact st_ireturn rfl rfl dX3_valueOf_87 w
    · replace w := w.2 c
      refine st_aload_n dX3_valueOf_29 rfl ?_
      refine st_getF (q := a0 + 1) fl_X3_11 fk_3_0 rfl dX3_valueOf_30 (la_0 hb0) ?_
      refine st_iload dX3_valueOf_33 rfl ?_
      have hc1 := w.1
      replace w := w.2
      refine st_iald dX3_valueOf_35 (la_1 hb0) hc1 ?_
      refine st_iload_n dX3_valueOf_36 rfl ?_
      refine st_icmp_ne (tgt := 80) dX3_valueOf_37 (by decide) (fun c => ?_) (fun c => ?_)
      · replace w := w.1 c
        refine st_iinc (L' := [.ref a0, .int x1, u2, u3, u4, u5, .int (x6 + 1)]) dX3_valueOf_80 rfl rfl (by decide) rfl ?_
        refine st_goto (tgt := 13) dX3_valueOf_83 (by decide) ?_
        exact w
      · replace w := w.2 c
        refine st_aload_n dX3_valueOf_40 rfl ?_
        refine st_aload_n dX3_valueOf_41 rfl ?_
        refine st_getF (q := a0 + 3) fl_X3_18 fk_3_2 rfl dX3_valueOf_42 (la_0 hb0) ?_
        refine st_iload dX3_valueOf_45 rfl ?_
        refine st_iald dX3_valueOf_47 (la_3 hb0) hc1 ?_
        refine st_aload_n dX3_valueOf_48 rfl ?_
        refine st_getF (q := a0 + 4) fl_X3_21 fk_3_3 rfl dX3_valueOf_49 (la_0 hb0) ?_
        refine st_iload dX3_valueOf_52 rfl ?_
        refine st_iald dX3_valueOf_54 (la_4 hb0) hc1 ?_
        refine st_callV (M' := mX3_run) [.int (h.2.2 (a0 + 3) x6.toNatClampNeg), .int (h.2.2 (a0 + 4) x6.toNatClampNeg)] [] dX3_valueOf_55 ml_X3_52 mf_X3_run mv_X3_run (la_0 hb0) rfl rfl rfl w (fun r2 h3 w => ?_)
        show Ru mX3_valueOf none d 58 [.ref a0, .int x1, u2, u3, u4, u5, .int x6] [.int r2] h3 Z
        refine st_if_eq (tgt := 80) dX3_valueOf_58 (by decide) (fun c => ?_) (fun c => ?_)
        · replace w := w.1 c
          refine st_iinc (L' := [.ref a0, .int x1, u2, u3, u4, u5, .int (x6 + 1)]) dX3_valueOf_80 rfl rfl (by decide) rfl ?_
          refine st_goto (tgt := 13) dX3_valueOf_83 (by decide) ?_
          exact w
        · replace w := w.2 c
          refine st_aload_n dX3_valueOf_61 rfl ?_
          refine st_aload_n dX3_valueOf_62 rfl ?_
          refine st_getF (q := a0 + 2) fl_X3_15 fk_3_1 rfl dX3_valueOf_63 (la_0 hb0) ?_
          refine st_iload dX3_valueOf_66 rfl ?_
          refine st_iald dX3_valueOf_68 (la_2 hb0) hc1 ?_
          refine st_aload_n dX3_valueOf_69 rfl ?_
          refine st_getF (q := a0 + 3) fl_X3_18 fk_3_2 rfl dX3_valueOf_70 (la_0 hb0) ?_
          refine st_iload dX3_valueOf_73 rfl ?_
          refine st_iald dX3_valueOf_75 (la_3 hb0) hc1 ?_
          refine st_callV (M' := mX3_run) [.int (h3.2.2 (a0 + 2) x6.toNatClampNeg), .int (h3.2.2 (a0 + 3) x6.toNatClampNeg)] [] dX3_valueOf_76 ml_X3_52 mf_X3_run mv_X3_run (la_0 hb0) rfl rfl rfl w (fun r4 h5 w => ?_)
          show Ru mX3_valueOf none d 79 [.ref a0, .int x1, u2, u3, u4, u5, .int x6] [.int r4] h5 Z
          exact st_ireturn rfl rfl dX3_valueOf_79 w
set_option maxRecDepth 20000 in
set_option maxHeartbeats 2000000 in
theorem sX11_byLaw_0 {d : Nat} {h : am_H} {Z : Int32 → am_H → Prop} {x1 : Int32} {x2 : Int32} (w : Ru mX11_byLaw none d 2 [.ref 73, .int x1, .int x2, .int 0, .null] [] h Z) : Ru mX11_byLaw none d 0 [.ref 73, .int x1, .int x2, .null, .null] [] h Z := by
  refine st_iconst (v := 0) dX11_byLaw_0 (by decide) ?_
  refine st_istore_n (L' := [.ref 73, .int x1, .int x2, .int 0, .null]) dX11_byLaw_1 (by decide) rfl ?_
  exact w
set_option maxRecDepth 20000 in
set_option maxHeartbeats 2000000 in
theorem sX11_byLaw_2 {d : Nat} {h : am_H} {Z : Int32 → am_H → Prop} {x1 : Int32} {x2 : Int32} {x3 : Int32} {u4 : Value} (w : ((h.1 73 18) ≤ x3 → Z 0 h) ∧ (¬ ((h.1 73 18) ≤ x3) → (vp_in x3 16 ∧ ((¬ (h.2.2 88 x3.toNatClampNeg) = x1 → Ru mX11_byLaw none d 2 [.ref 73, .int x1, .int x2, .int (x3 + 1), u4] [] h Z) ∧ ((h.2.2 88 x3.toNatClampNeg) = x1 → am_cl mX11_reckonsTo d [.ref 73, .int (h.2.2 90 x3.toNatClampNeg), .int (h.2.2 91 x3.toNatClampNeg)] h (fun r2 h3 => (r2 = 1 → am_cl mX11_reckonsTo d [.ref 73, .int (h3.2.2 89 x3.toNatClampNeg), .int (h3.2.2 90 x3.toNatClampNeg)] h3 (fun r4 h5 => (0 ≤ r4 → (r4 ≤ x2 → Z r4 h5) ∧ (¬ (r4 ≤ x2) → Z x2 h5)) ∧ (¬ (0 ≤ r4) → Z 0 h5))) ∧ (¬ (r2 = 1) → Ru mX11_byLaw none d 2 [.ref 73, .int x1, .int x2, .int (x3 + 1), u4] [] h3 Z))))))) : Ru mX11_byLaw none d 2 [.ref 73, .int x1, .int x2, .int x3, u4] [] h Z := by
  refine st_iload_n dX11_byLaw_2 rfl ?_
  refine st_aload_n dX11_byLaw_3 rfl ?_
  refine st_getI fl_X11_256 fk_11_18 dX11_byLaw_4 sh_73 ?_
  refine st_icmp_ge (tgt := 89) dX11_byLaw_7 (by decide) (fun c => ?_) (fun c => ?_)
  · replace w := w.1 c
    refine st_iconst (v := 0) dX11_byLaw_89 (by decide) ?_
    exact st_ireturn rfl rfl dX11_byLaw_90 w
  · replace w := w.2 c
    refine st_aload_n dX11_byLaw_10 rfl ?_
    refine st_getF (q := 88) fl_X11_53 fk_11_26 rfl dX11_byLaw_11 sh_73 ?_
    refine st_iload_n dX11_byLaw_14 rfl ?_
    have hc1 := w.1
    replace w := w.2
    refine st_iald dX11_byLaw_15 sh_88 hc1 ?_
    refine st_iload_n dX11_byLaw_16 rfl ?_
    refine st_icmp_ne (tgt := 83) dX11_byLaw_17 (by decide) (fun c => ?_) (fun c => ?_)
    · replace w := w.1 c
      refine st_iinc (L' := [.ref 73, .int x1, .int x2, .int (x3 + 1), u4]) dX11_byLaw_83 rfl rfl (by decide) rfl ?_
      refine st_goto (tgt := 2) dX11_byLaw_86 (by decide) ?_
      exact w
    · replace w := w.2 c
      refine st_aload_n dX11_byLaw_20 rfl ?_
      refine st_aload_n dX11_byLaw_21 rfl ?_
      refine st_getF (q := 90) fl_X11_59 fk_11_28 rfl dX11_byLaw_22 sh_73 ?_
      refine st_iload_n dX11_byLaw_25 rfl ?_
      refine st_iald dX11_byLaw_26 sh_90 hc1 ?_
      refine st_aload_n dX11_byLaw_27 rfl ?_
      refine st_getF (q := 91) fl_X11_62 fk_11_29 rfl dX11_byLaw_28 sh_73 ?_
      refine st_iload_n dX11_byLaw_31 rfl ?_
      refine st_iald dX11_byLaw_32 sh_91 hc1 ?_
      refine st_callV (M' := mX11_reckonsTo) [.int (h.2.2 90 x3.toNatClampNeg), .int (h.2.2 91 x3.toNatClampNeg)] [] dX11_byLaw_33 ml_X11_263 mf_X11_reckonsTo mv_X11_reckonsTo sh_73 rfl rfl rfl w (fun r2 h3 w => ?_)
      show Ru mX11_byLaw none d 36 [.ref 73, .int x1, .int x2, .int x3, u4] [.int r2] h3 Z
      refine st_iconst (v := 1) dX11_byLaw_36 (by decide) ?_
      refine st_icmp_eq (tgt := 43) dX11_byLaw_37 (by decide) (fun c => ?_) (fun c => ?_)
      · replace w := w.1 c
        refine st_aload_n dX11_byLaw_43 rfl ?_
        refine st_aload_n dX11_byLaw_44 rfl ?_
        refine st_getF (q := 89) fl_X11_56 fk_11_27 rfl dX11_byLaw_45 sh_73 ?_
        refine st_iload_n dX11_byLaw_48 rfl ?_
        refine st_iald dX11_byLaw_49 sh_89 hc1 ?_
        refine st_aload_n dX11_byLaw_50 rfl ?_
        refine st_getF (q := 90) fl_X11_59 fk_11_28 rfl dX11_byLaw_51 sh_73 ?_
        refine st_iload_n dX11_byLaw_54 rfl ?_
        refine st_iald dX11_byLaw_55 sh_90 hc1 ?_
        refine st_callV (M' := mX11_reckonsTo) [.int (h3.2.2 89 x3.toNatClampNeg), .int (h3.2.2 90 x3.toNatClampNeg)] [] dX11_byLaw_56 ml_X11_263 mf_X11_reckonsTo mv_X11_reckonsTo sh_73 rfl rfl rfl w (fun r4 h5 w => ?_)
        show Ru mX11_byLaw none d 59 [.ref 73, .int x1, .int x2, .int x3, u4] [.int r4] h5 Z
        refine st_istore (L' := [.ref 73, .int x1, .int x2, .int x3, .int r4]) dX11_byLaw_59 (by decide) rfl ?_
        refine st_iload dX11_byLaw_61 rfl ?_
        refine st_if_ge (tgt := 70) dX11_byLaw_63 (by decide) (fun c => ?_) (fun c => ?_)
        · replace w := w.1 c
          refine st_iload dX11_byLaw_70 rfl ?_
          refine st_iload_n dX11_byLaw_72 rfl ?_
          refine st_icmp_le (tgt := 80) dX11_byLaw_73 (by decide) (fun c => ?_) (fun c => ?_)
          · replace w := w.1 c
            refine st_iload dX11_byLaw_80 rfl ?_
            exact st_ireturn rfl rfl dX11_byLaw_82 w
          · replace w := w.2 c
            refine st_iload_n dX11_byLaw_76 rfl ?_
            refine st_goto (tgt := 82) dX11_byLaw_77 (by decide) ?_
            exact st_ireturn rfl rfl dX11_byLaw_82 w
        · replace w := w.2 c
          refine st_iconst (v := 0) dX11_byLaw_66 (by decide) ?_
          refine st_goto (tgt := 82) dX11_byLaw_67 (by decide) ?_
          exact st_ireturn rfl rfl dX11_byLaw_82 w
      · replace w := w.2 c
        refine st_goto (tgt := 83) dX11_byLaw_40 (by decide) ?_
        refine st_iinc (L' := [.ref 73, .int x1, .int x2, .int (x3 + 1), u4]) dX11_byLaw_83 rfl rfl (by decide) rfl ?_
        refine st_goto (tgt := 2) dX11_byLaw_86 (by decide) ?_
        exact w
set_option maxRecDepth 20000 in
set_option maxHeartbeats 2000000 in
theorem sX11_holdsAny_0 {d : Nat} {h : am_H} {Z : Int32 → am_H → Prop} {x1 : Int32} (w : Ru mX11_holdsAny none d 2 [.ref 73, .int x1, .int 0] [] h Z) : Ru mX11_holdsAny none d 0 [.ref 73, .int x1, .null] [] h Z := by
  refine st_iconst (v := 0) dX11_holdsAny_0 (by decide) ?_
  refine st_istore_n (L' := [.ref 73, .int x1, .int 0]) dX11_holdsAny_1 (by decide) rfl ?_
  exact w
set_option maxRecDepth 20000 in
set_option maxHeartbeats 2000000 in
theorem sX11_holdsAny_2 {d : Nat} {h : am_H} {Z : Int32 → am_H → Prop} {x1 : Int32} {x2 : Int32} (w : ((h.1 73 18) ≤ x2 → Z 0 h) ∧ (¬ ((h.1 73 18) ≤ x2) → (vp_in x2 16 ∧ ((¬ (h.2.2 88 x2.toNatClampNeg) = x1 → Ru mX11_holdsAny none d 2 [.ref 73, .int x1, .int (x2 + 1)] [] h Z) ∧ ((h.2.2 88 x2.toNatClampNeg) = x1 → am_cl mX11_reckonsTo d [.ref 73, .int (h.2.2 90 x2.toNatClampNeg), .int (h.2.2 91 x2.toNatClampNeg)] h (fun r2 h3 => (¬ r2 = 1 → Ru mX11_holdsAny none d 2 [.ref 73, .int x1, .int (x2 + 1)] [] h3 Z) ∧ (r2 = 1 → Z 1 h3))))))) : Ru mX11_holdsAny none d 2 [.ref 73, .int x1, .int x2] [] h Z := by
  refine st_iload_n dX11_holdsAny_2 rfl ?_
  refine st_aload_n dX11_holdsAny_3 rfl ?_
  refine st_getI fl_X11_256 fk_11_18 dX11_holdsAny_4 sh_73 ?_
  refine st_icmp_ge (tgt := 48) dX11_holdsAny_7 (by decide) (fun c => ?_) (fun c => ?_)
  · replace w := w.1 c
    refine st_iconst (v := 0) dX11_holdsAny_48 (by decide) ?_
    exact st_ireturn rfl rfl dX11_holdsAny_49 w
  · replace w := w.2 c
    refine st_aload_n dX11_holdsAny_10 rfl ?_
    refine st_getF (q := 88) fl_X11_53 fk_11_26 rfl dX11_holdsAny_11 sh_73 ?_
    refine st_iload_n dX11_holdsAny_14 rfl ?_
    have hc1 := w.1
    replace w := w.2
    refine st_iald dX11_holdsAny_15 sh_88 hc1 ?_
    refine st_iload_n dX11_holdsAny_16 rfl ?_
    refine st_icmp_ne (tgt := 42) dX11_holdsAny_17 (by decide) (fun c => ?_) (fun c => ?_)
    · replace w := w.1 c
      refine st_iinc (L' := [.ref 73, .int x1, .int (x2 + 1)]) dX11_holdsAny_42 rfl rfl (by decide) rfl ?_
      refine st_goto (tgt := 2) dX11_holdsAny_45 (by decide) ?_
      exact w
    · replace w := w.2 c
      refine st_aload_n dX11_holdsAny_20 rfl ?_
      refine st_aload_n dX11_holdsAny_21 rfl ?_
      refine st_getF (q := 90) fl_X11_59 fk_11_28 rfl dX11_holdsAny_22 sh_73 ?_
      refine st_iload_n dX11_holdsAny_25 rfl ?_
      refine st_iald dX11_holdsAny_26 sh_90 hc1 ?_
      refine st_aload_n dX11_holdsAny_27 rfl ?_
      refine st_getF (q := 91) fl_X11_62 fk_11_29 rfl dX11_holdsAny_28 sh_73 ?_
      refine st_iload_n dX11_holdsAny_31 rfl ?_
      refine st_iald dX11_holdsAny_32 sh_91 hc1 ?_
      refine st_callV (M' := mX11_reckonsTo) [.int (h.2.2 90 x2.toNatClampNeg), .int (h.2.2 91 x2.toNatClampNeg)] [] dX11_holdsAny_33 ml_X11_263 mf_X11_reckonsTo mv_X11_reckonsTo sh_73 rfl rfl rfl w (fun r2 h3 w => ?_)
      show Ru mX11_holdsAny none d 36 [.ref 73, .int x1, .int x2] [.int r2] h3 Z
      refine st_iconst (v := 1) dX11_holdsAny_36 (by decide) ?_
      refine st_icmp_ne (tgt := 42) dX11_holdsAny_37 (by decide) (fun c => ?_) (fun c => ?_)
      · replace w := w.1 c
        refine st_iinc (L' := [.ref 73, .int x1, .int (x2 + 1)]) dX11_holdsAny_42 rfl rfl (by decide) rfl ?_
        refine st_goto (tgt := 2) dX11_holdsAny_45 (by decide) ?_
        exact w
      · replace w := w.2 c
        refine st_iconst (v := 1) dX11_holdsAny_40 (by decide) ?_
        exact st_ireturn rfl rfl dX11_holdsAny_41 w
/-- a piece of the codes, from a to b by the reference, from ca to cb by the class, that ends with height e -/
def q_pg (C : Nat → Int32) (P : Nat → Nat × Nat) (a b ca cb e : Nat) : Prop := ∃ pos ty : Nat → Nat, pos a = ca ∧ pos b = cb ∧ cb ≤ 512 ∧ ty a = 0 ∧ ty b = e ∧ a ≤ b ∧ b ≤ 260 ∧ ∀ k, a ≤ k → k < b → q_ins C pos ty P b k
def q_pr (P : Nat → Nat × Nat) (F : Nat → Int32) (a b : Nat) : Int32 := q_ev P F b (b - a) a 0 (fun _ => 0)
theorem q_ins_up {C : Nat → Int32} {pos ty : Nat → Nat} {P : Nat → Nat × Nat} {to k : Nat} (q : q_ins C pos ty P to k) : pos k < pos (k + 1) := by
  rcases q.2 with ⟨_, _, _, c, _⟩ | ⟨_, _, _, _, c, _⟩ | ⟨_, _, c, _⟩ | ⟨_, _, c, _⟩ | ⟨_, _, _, c, _⟩ <;> omega
theorem q_pg_lt {pos : Nat → Nat} {a b : Nat} (q : ∀ k, a ≤ k → k < b → pos k < pos (k + 1)) : ∀ (m k : Nat), a ≤ k → k + m + 1 = b → pos k < pos b
  | 0, k, h1, h2 => by have := q k h1 (by omega); rw [show k + 1 = b by omega] at this; exact this
  | m + 1, k, h1, h2 => Nat.lt_trans (q k h1 (by omega)) (q_pg_lt q m (k + 1) (by omega) (by omega))
theorem q_ev_b {C : Nat → Int32} {pos ty : Nat → Nat} {P : Nat → Nat × Nat} {F : Nat → Int32} {a to : Nat} (hC : ∀ k, a ≤ k → k < to → q_ins C pos ty P to k) (ht : ty to = 100) : ∀ (m k n : Nat) (s : Nat → Int32), a ≤ k → k ≤ to → to ≤ k + m → q_hs (ty k) n s → q_ev P F to m k n s = 0 ∨ q_ev P F to m k n s = 1 := by
  intro m
  induction m with
  | zero =>
    intro k n s h1 h2 h3 hs
    have ek : k = to := by omega
    subst ek
    rcases hs with ⟨_, q, q2⟩ | ⟨q1, q2⟩
    · subst q; exact q2
    · omega
  | succ m ih =>
    intro k n s h1 h2 h3 hs
    unfold q_ev
    rcases Nat.lt_or_ge k to with hk | hk
    · rw [if_neg (by omega)]
      rcases (hC k h1 hk).2 with ⟨o, c1, c2, c3, c4, c5⟩ | ⟨o, c0, c1, c2, c3, c4, c5⟩ | ⟨o, c1, c2, c3, c4⟩ | ⟨o, c1, c2, c3, c4, c5, c6, c7⟩ | ⟨o1, o2, c1, c2, c3, c4, c5, c6⟩
      · rw [if_pos o]
        exact ih _ _ _ (by omega) (by omega) (by omega) (by rcases hs with ⟨q, _⟩ | ⟨_, q⟩; omega; exact Or.inr ⟨by omega, by omega⟩)
      · rw [if_neg (by omega), if_pos o]
        exact ih _ _ _ (by omega) (by omega) (by omega) (by rcases hs with ⟨q, _⟩ | ⟨_, q⟩; omega; exact Or.inr ⟨by omega, by omega⟩)
      · rw [if_neg (by omega), if_neg (by omega), if_pos o]
        have hn : n = 1 := by rcases hs with ⟨_, q, _⟩ | ⟨q, _⟩ <;> omega
        subst hn
        refine ih _ _ _ (by omega) (by omega) (by omega) (Or.inl ⟨c4, rfl, ?_⟩)
        show upd s 0 _ 0 = 0 ∨ upd s 0 _ 0 = 1
        unfold upd
        rw [if_pos rfl]
        show (if s 0 = 0 then (1 : Int32) else 0) = 0 ∨ (if s 0 = 0 then (1 : Int32) else 0) = 1
        by_cases q : s 0 = 0
        · rw [if_pos q]; exact Or.inr rfl
        · rw [if_neg q]; exact Or.inl rfl
      · have hn : n = 1 := by rcases hs with ⟨_, q, _⟩ | ⟨q, _⟩ <;> omega
        subst hn
        have sb : s 0 = 0 ∨ s 0 = 1 := by rcases hs with ⟨_, _, q⟩ | ⟨q, _⟩ <;> first | exact q | omega
        have w0 := ih (k + 1) 0 s (by omega) (by omega) (by omega) (Or.inr ⟨by omega, by omega⟩)
        have w1 := ih (P k).2 1 s (by omega) c4 (by omega) (Or.inl ⟨c7, rfl, sb⟩)
        rcases o with ⟨o, _⟩ | ⟨o, _⟩
        · rw [if_neg (by omega), if_neg (by omega), if_neg (by omega), if_pos o]
          split
          · exact w1
          · exact w0
        · rw [if_neg (by omega), if_neg (by omega), if_neg (by omega), if_neg (by omega), if_pos o]
          split
          · exact w0
          · exact w1
      · rw [if_neg (by omega), if_neg (by omega), if_neg (by omega), if_neg (by omega), if_neg (by omega)]
        have hn : n = ty k := by rcases hs with ⟨q, _⟩ | ⟨_, q⟩ <;> omega
        split
        · exact Or.inl rfl
        · refine ih _ _ _ (by omega) (by omega) (by omega) ?_
          by_cases q : (P k).1 ≤ 6
          · rw [if_pos q] at c5; exact Or.inr ⟨by omega, by omega⟩
          · rw [if_neg q] at c5
            have := c6 (by omega)
            refine Or.inl ⟨c5, by omega, ?_⟩
            rw [show n - 2 = 0 by omega]
            show upd s 0 _ 0 = 0 ∨ upd s 0 _ 0 = 1
            unfold upd
            rw [if_pos rfl]
            have : (P k).1 = 7 ∨ (P k).1 = 8 ∨ (P k).1 = 9 := by omega
            rcases this with q | q | q <;> rw [q] <;> simp only [q_op, Nat.reduceEqDiff, reduceIte] <;> split <;> simp
    · rw [if_pos hk]
      have ek : k = to := by omega
      subst ek
      rcases hs with ⟨_, q, q2⟩ | ⟨q1, q2⟩
      · subst q; exact q2
      · omega
section
variable {d g : Nat} {h : am_H} {Z : Int32 → am_H → Prop} {P : Nat → Nat × Nat} {a b ca cb e : Nat}
theorem iX3_run (hd : 3 ≤ d) (hg : am_la g) (hq : q_pg (h.2.2 (g + 5)) P a b ca cb e) (he : e = 100 ∨ e = 1) (z : ∀ f, Z (q_pr P (h.2.2 (g + 7)) a b) (am_sR h (g + 6) f)) : Sp mX3_run d [.ref g, .int (nI ca), .int (nI cb)] h Z := by
  obtain ⟨pos, ty, p1, p2, p3, t1, t2, l1, l2, hC⟩ := hq
  have w := x_run (h := h) (d := d) (u1 := .int (nI ca)) (u6 := .null) (u7 := .null) (u8 := .null) hd hg hC (fun k h1 h2 => q_pg_lt (fun k h1 h2 => q_ins_up (hC k h1 h2)) (b - k - 1) k h1 (by omega)) (by rw [p2]; exact p3) (by rw [t2]; exact he) z (b - a) a 0 0 (fun _ => 0) (h.2.2 (g + 6)) (by omega) l1 (by omega) (by omega) (Or.inr ⟨by omega, by omega⟩) (fun i hi => absurd hi (Nat.not_lt_zero i)) rfl
  rw [am_sR_self, p1, p2] at w
  exact Sp_of mf_X3_run rfl (Nat.le_of_ble_eq_true rfl) rfl (sX3_run_0 hg w)
theorem iX11_reckonsTo {C : Nat → Int32} (hd : 3 ≤ d) (hq : q_pg C P a b ca cb e) (he : e = 100 ∨ e = 1) (hR : ∀ k, k < b → h.2.2 87 k = nI ((P k).1 * 2 ^ 20 + (P k).2)) (z : ∀ f, Z (q_pr P (h.2.2 93) a b) (am_sR h 92 f)) : Sp mX11_reckonsTo d [.ref 73, .int (nI a), .int (nI b)] h Z := by
  obtain ⟨pos, ty, p1, p2, p3, t1, t2, l1, l2, hC⟩ := hq
  have hab : a < b := by
    rcases Nat.lt_or_ge a b with q | q
    · exact q
    · have : a = b := by omega
      subst this; omega
  have w := m_rec (h := h) (d := d) (u1 := .int (nI a)) (u6 := .null) (u7 := .null) hd hC (fun k h1 h2 => hR k h2) l2 (by rw [t2]; exact he) z (b - a) a 0 (fun _ => 0) (h.2.2 92) (by omega) l1 (by omega) (Or.inr ⟨by omega, by omega⟩) (fun i hi => absurd hi (Nat.not_lt_zero i)) rfl
  rw [am_sR_self] at w
  refine Sp_of mf_X11_reckonsTo rfl (Nat.le_of_ble_eq_true rfl) rfl (sX11_reckonsTo_0 ?_)
  rw [show (260 : Int32) * (nI a / 260) = 0 by rw [show (260 : Int32) = nI 260 from rfl, pk_div (by omega) (by omega) (by omega), Nat.div_eq_of_lt (by omega)]; rfl]
  exact w
theorem q_pr_b {C : Nat → Int32} {F : Nat → Int32} (hq : q_pg C P a b ca cb 100) : q_pr P F a b = 0 ∨ q_pr P F a b = 1 := by
  obtain ⟨pos, ty, p1, p2, p3, t1, t2, l1, l2, hC⟩ := hq
  exact q_ev_b hC t2 _ _ _ _ (Nat.le_refl a) l1 (by omega) (Or.inr ⟨by omega, by omega⟩)
end
/-- a law: rules, their kinds, where they begin, part and end, codes -/
abbrev am_AL : Type := Nat × (Nat → Nat) × (Nat → Nat) × (Nat → Nat) × (Nat → Nat) × (Nat → Nat × Nat)
abbrev l_n (L : am_AL) : Nat := L.1
abbrev l_k (L : am_AL) : Nat → Nat := L.2.1
abbrev l_f (L : am_AL) : Nat → Nat := L.2.2.1
abbrev l_h (L : am_AL) : Nat → Nat := L.2.2.2.1
abbrev l_t (L : am_AL) : Nat → Nat := L.2.2.2.2.1
abbrev l_P (L : am_AL) : Nat → Nat × Nat := L.2.2.2.2.2
/-- one rule of the class and its codes -/
def q_LR (V1 V2 V3 C : Nat → Int32) (L : am_AL) (q : Nat) : Prop := ∃ cv ch ct, V1 q = nI cv ∧ V2 q = nI ch ∧ V3 q = nI ct ∧ q_pg C (l_P L) (l_h L q) (l_t L q) ch ct 100 ∧ (l_k L q = 120 → C cv = 1 ∧ C (cv + 1) = 1 ∧ ch = cv + 2 ∧ ch ≤ 512) ∧ (l_k L q ≠ 120 → q_pg C (l_P L) (l_f L q) (l_h L q) cv ch 1)
def q_LC (h : am_H) (g : Nat) (L : am_AL) : Prop := h.1 g 7 = nI (l_n L) ∧ l_n L ≤ 16 ∧ ∀ q, q < l_n L → (l_k L q = 101 ∨ l_k L q = 114 ∨ l_k L q = 120) ∧ h.2.2 (g + 1) q = nI (l_k L q) ∧ q_LR (h.2.2 (g + 2)) (h.2.2 (g + 3)) (h.2.2 (g + 4)) (h.2.2 (g + 5)) L q
def q_LM (h : am_H) (L : am_AL) : Prop := h.1 73 18 = nI (l_n L) ∧ ∀ q, q < l_n L → h.2.2 88 q = nI (l_k L q) ∧ h.2.2 89 q = nI (l_f L q) ∧ h.2.2 90 q = nI (l_h L q) ∧ h.2.2 91 q = nI (l_t L q) ∧ l_h L q ≤ l_t L q ∧ ∀ k, k < l_t L q → h.2.2 87 k = nI ((l_P L k).1 * 2 ^ 20 + (l_P L k).2)
/-- what the law says -/
def q_vl (L : am_AL) (F : Nat → Int32) (kd : Nat) : Nat → Nat → Int32
  | 0, _ => 0
  | m + 1, q => if l_k L q = kd ∧ q_pr (l_P L) F (l_h L q) (l_t L q) = 1 then (if kd = 120 then 1 else q_pr (l_P L) F (l_f L q) (l_h L q)) else q_vl L F kd m (q + 1)
section
variable {d g kd : Nat} {h : am_H} {Z : Int32 → am_H → Prop} {L : am_AL} {r : Int32}
theorem q_num {ca : Nat} (hd : 3 ≤ d) (hg : am_la g) (h1 : h.2.2 (g + 5) ca = 1) (h2 : h.2.2 (g + 5) (ca + 1) = 1) (h3 : ca + 2 ≤ 512) (z : ∀ f, Z 1 (am_sR h (g + 6) f)) : Sp mX3_run d [.ref g, .int (nI ca), .int (nI (ca + 2))] h Z := by
  refine iX3_run (P := fun _ => (0, 1)) (a := 0) (b := 1) (e := 1) hd hg ⟨fun k => ca + 2 * k, fun k => k, by simp, by simp, h3, rfl, rfl, by omega, by omega, fun k _ hk => ?_⟩ (Or.inr rfl) (fun f => ?_)
  · have : k = 0 := by omega
    subst this
    exact ⟨by decide, Or.inl ⟨rfl, h1, h2, by simp, by decide, by simp⟩⟩
  · exact z f
theorem x_val (hd : 5 ≤ d) (hg : am_la g) (hk : kd < 256) (hL : q_LC h g L) (z : ∀ f, Z r (am_sR h (g + 6) f)) : ∀ (m q : Nat) (S : Nat → Int32) (u2 u3 u4 u5 : Value), q + m = l_n L → q_vl L (h.2.2 (g + 7)) kd m q = r → Ru mX3_valueOf none d 13 [.ref g, .int (nI kd), u2, u3, u4, u5, .int (nI q)] [] (am_sR h (g + 6) S) Z
  | 0, q, S, u2, u3, u4, u5, hq, e => by
    have eq : q = l_n L := by omega
    subst eq
    have e' : (0 : Int32) = r := e
    refine sX3_valueOf_13 hg ⟨fun _ => e' ▸ z S, fun c => absurd ?_ c⟩
    rw [am_gRi, hL.1]; exact Int32.le_refl _
  | m + 1, q, S, u2, u3, u4, u5, hq, e => by
    have hn := hL.2.1
    obtain ⟨kk, k1, cv, ch, ct, v1, v2, v3, pt, px, pv⟩ := hL.2.2 q (by omega)
    have g1 : ∀ (S : Nat → Int32) (j : Nat), j ≠ 6 → (am_sR h (g + 6) S).2.2 (g + j) = h.2.2 (g + j) := fun S j hj => by rw [am_gRb, if_neg hj]
    have kb : l_k L q < 256 := by omega
    have go : ¬ (l_k L q = kd ∧ q_pr (l_P L) (h.2.2 (g + 7)) (l_h L q) (l_t L q) = 1) → ∀ S, Ru mX3_valueOf none d 13 [.ref g, .int (nI kd), u2, u3, u4, u5, .int (nI (q + 1))] [] (am_sR h (g + 6) S) Z := fun c S =>
      x_val hd hg hk hL z m (q + 1) S _ _ _ _ (by omega) (by unfold q_vl at e; rw [if_neg c] at e; exact e)
    refine sX3_valueOf_13 hg ⟨fun c => absurd c (by rw [am_gRi, hL.1]; exact nI_ge (by omega) (by omega)), fun _ => ⟨fun c => absurd c (nI_ge (b := 16) (by omega) (by omega)), fun _ => ⟨vp_in_nI (by omega) (by omega), ?_⟩⟩⟩
    rw [nI_clamp (by omega), g1 S 1 (by decide), g1 S 3 (by decide), g1 S 4 (by decide), k1, v2, v3, nI_1]
    refine ⟨fun c => go (fun c2 => c (by rw [c2.1])) S, fun c => ⟨4, by omega, iX3_run (P := l_P L) (a := l_h L q) (b := l_t L q) (by omega) hg (by rw [g1 S 5 (by decide)]; exact pt) (Or.inl rfl) (fun f => ?_)⟩⟩
    have ck : l_k L q = kd := (nI_eq (by omega) (by omega)).mp c
    rw [am_sR_2, g1 S 7 (by decide)]
    have bb := q_pr_b (F := h.2.2 (g + 7)) pt
    refine ⟨fun c2 => go (fun c3 => ?_) f, fun c2 => ?_⟩
    · rw [c2] at c3; exact absurd c3.2 (by decide)
    · have c3 : q_pr (l_P L) (h.2.2 (g + 7)) (l_h L q) (l_t L q) = 1 := by rcases bb with b0 | b1; exact absurd b0 c2; exact b1
      unfold q_vl at e
      rw [if_pos ⟨ck, c3⟩] at e
      rw [g1 f 2 (by decide), g1 f 3 (by decide), v1, v2]
      by_cases cx : kd = 120
      · rw [if_pos cx] at e
        have px' := px (by omega)
        refine ⟨4, by omega, ?_⟩
        rw [px'.2.2.1]
        refine q_num (by omega) hg (by rw [g1 f 5 (by decide)]; exact px'.1) (by rw [g1 f 5 (by decide)]; exact px'.2.1) (by omega) (fun f2 => ?_)
        rw [am_sR_2, e]; exact z f2
      · rw [if_neg cx] at e
        refine ⟨4, by omega, iX3_run (P := l_P L) (a := l_f L q) (b := l_h L q) (by omega) hg (by rw [g1 f 5 (by decide)]; exact pv (by omega)) (Or.inr rfl) (fun f2 => ?_)⟩
        rw [am_sR_2, g1 f 7 (by decide), e]; exact z f2
end
def q_cl (v hi : Int32) : Int32 := if 0 ≤ v then (if v ≤ hi then v else hi) else 0
section
variable {d g kd : Nat} {h : am_H} {Z : Int32 → am_H → Prop} {L : am_AL} {r : Int32}
theorem m_by {hi : Int32} (hd : 5 ≤ d) (hk : kd < 256) (hx : kd ≠ 120) (hh : 0 ≤ hi) (hL : q_LC h g L) (hM : q_LM h L) (z : ∀ f, Z (q_cl r hi) (am_sR h 92 f)) : ∀ (m q : Nat) (S : Nat → Int32) (u4 : Value), q + m = l_n L → q_vl L (h.2.2 93) kd m q = r → Ru mX11_byLaw none d 2 [.ref 73, .int (nI kd), .int hi, .int (nI q), u4] [] (am_sR h 92 S) Z
  | 0, q, S, u4, hq, e => by
    have eq : q = l_n L := by omega
    subst eq
    have e' : (0 : Int32) = r := e
    refine sX11_byLaw_2 ⟨fun _ => ?_, fun c => absurd ?_ c⟩
    · have := z S
      rw [← e', q_cl, if_pos (Int32.le_refl _), if_pos hh] at this; exact this
    · rw [am_gRi, hM.1]; exact Int32.le_refl _
  | m + 1, q, S, u4, hq, e => by
    have hn := hL.2.1
    obtain ⟨kk, k1, cv, ch, ct, v1, v2, v3, pt, px, pv⟩ := hL.2.2 q (by omega)
    obtain ⟨m1, m2, m3, m4, m5, m6⟩ := hM.2 q (by omega)
    have g1 : ∀ (S : Nat → Int32) (j : Nat), j ≠ 92 → (am_sR h 92 S).2.2 j = h.2.2 j := fun S j hj => by rw [am_gR, if_neg hj]
    have go : ¬ (l_k L q = kd ∧ q_pr (l_P L) (h.2.2 93) (l_h L q) (l_t L q) = 1) → ∀ S, Ru mX11_byLaw none d 2 [.ref 73, .int (nI kd), .int hi, .int (nI (q + 1)), u4] [] (am_sR h 92 S) Z := fun c S =>
      m_by hd hk hx hh hL hM z m (q + 1) S _ (by omega) (by unfold q_vl at e; rw [if_neg c] at e; exact e)
    refine sX11_byLaw_2 ⟨fun c => absurd c (by rw [am_gRi, hM.1]; exact nI_ge (by omega) (by omega)), fun _ => ⟨vp_in_nI (by omega) (by omega), ?_⟩⟩
    rw [nI_clamp (by omega), g1 S 88 (by decide), g1 S 90 (by decide), g1 S 91 (by decide), m1, m3, m4, nI_1]
    refine ⟨fun c => go (fun c2 => c (by rw [c2.1])) S, fun c => ⟨4, by omega, iX11_reckonsTo (P := l_P L) (a := l_h L q) (b := l_t L q) (by omega) pt (Or.inl rfl) (fun k hk => by rw [g1 S 87 (by decide)]; exact m6 k hk) (fun f => ?_)⟩⟩
    have ck : l_k L q = kd := (nI_eq (by omega) (by omega)).mp c
    rw [am_sR_2, g1 S 93 (by decide)]
    refine ⟨fun c3 => ?_, fun c2 => go (fun c3 => c2 c3.2) f⟩
    unfold q_vl at e
    rw [if_pos ⟨ck, c3⟩, if_neg hx] at e
    rw [g1 f 89 (by decide), g1 f 90 (by decide), m2, m3]
    refine ⟨4, by omega, iX11_reckonsTo (P := l_P L) (a := l_f L q) (b := l_h L q) (by omega) (pv (by omega)) (Or.inr rfl) (fun k hk => by rw [g1 f 87 (by decide)]; exact m6 k (by omega)) (fun f2 => ?_)⟩
    rw [am_sR_2, g1 f 93 (by decide), e]
    have := z f2
    unfold q_cl at this
    refine ⟨fun c1 => ⟨fun c2 => ?_, fun c2 => ?_⟩, fun c1 => ?_⟩
    · rw [if_pos c1, if_pos c2] at this; exact this
    · rw [if_pos c1, if_neg c2] at this; exact this
    · rw [if_neg c1] at this; exact this
theorem m_any (hd : 5 ≤ d) (hL : q_LC h g L) (hM : q_LM h L) (z : ∀ f, Z (if r = 0 then 0 else 1) (am_sR h 92 f)) : ∀ (m q : Nat) (S : Nat → Int32), q + m = l_n L → q_vl L (h.2.2 93) 120 m q = r → Ru mX11_holdsAny none d 2 [.ref 73, .int 120, .int (nI q)] [] (am_sR h 92 S) Z
  | 0, q, S, hq, e => by
    have eq : q = l_n L := by omega
    subst eq
    have e' : (0 : Int32) = r := e
    refine sX11_holdsAny_2 ⟨fun _ => ?_, fun c => absurd ?_ c⟩
    · have := z S
      rw [if_pos e'.symm] at this; exact this
    · rw [am_gRi, hM.1]; exact Int32.le_refl _
  | m + 1, q, S, hq, e => by
    have hn := hL.2.1
    obtain ⟨kk, k1, cv, ch, ct, v1, v2, v3, pt, px, pv⟩ := hL.2.2 q (by omega)
    obtain ⟨m1, m2, m3, m4, m5, m6⟩ := hM.2 q (by omega)
    have g1 : ∀ (S : Nat → Int32) (j : Nat), j ≠ 92 → (am_sR h 92 S).2.2 j = h.2.2 j := fun S j hj => by rw [am_gR, if_neg hj]
    have go : ¬ (l_k L q = 120 ∧ q_pr (l_P L) (h.2.2 93) (l_h L q) (l_t L q) = 1) → ∀ S, Ru mX11_holdsAny none d 2 [.ref 73, .int 120, .int (nI (q + 1))] [] (am_sR h 92 S) Z := fun c S =>
      m_any hd hL hM z m (q + 1) S (by omega) (by unfold q_vl at e; rw [if_neg c] at e; exact e)
    refine sX11_holdsAny_2 ⟨fun c => absurd c (by rw [am_gRi, hM.1]; exact nI_ge (by omega) (by omega)), fun _ => ⟨vp_in_nI (by omega) (by omega), ?_⟩⟩
    rw [nI_clamp (by omega), g1 S 88 (by decide), g1 S 90 (by decide), g1 S 91 (by decide), m1, m3, m4, nI_1]
    refine ⟨fun c => go (fun c2 => c (by rw [c2.1]; rfl)) S, fun c => ⟨4, by omega, iX11_reckonsTo (P := l_P L) (a := l_h L q) (b := l_t L q) (by omega) pt (Or.inl rfl) (fun k hk => by rw [g1 S 87 (by decide)]; exact m6 k hk) (fun f => ?_)⟩⟩
    have ck : l_k L q = 120 := (nI_eq (b := 120) (by omega) (by omega)).mp c
    rw [am_sR_2, g1 S 93 (by decide)]
    refine ⟨fun c2 => go (fun c3 => c2 c3.2) f, fun c3 => ?_⟩
    unfold q_vl at e
    rw [if_pos ⟨ck, c3⟩, if_pos rfl] at e
    have := z f
    rw [← e, if_neg (by decide)] at this; exact this
theorem iX11_byLaw {hi : Int32} (hd : 5 ≤ d) (hk : kd < 256) (hx : kd ≠ 120) (hh : 0 ≤ hi) (hL : q_LC h g L) (hM : q_LM h L) (z : ∀ f, Z (q_cl (q_vl L (h.2.2 93) kd (l_n L) 0) hi) (am_sR h 92 f)) : Sp mX11_byLaw d [.ref 73, .int (nI kd), .int hi] h Z := by
  have w := m_by (d := d) hd hk hx hh hL hM z (l_n L) 0 (h.2.2 92) .null (by omega) rfl
  rw [am_sR_self] at w
  exact Sp_of mf_X11_byLaw rfl (Nat.le_of_ble_eq_true rfl) rfl (sX11_byLaw_0 w)
theorem iX11_holdsAny (hd : 5 ≤ d) (hL : q_LC h g L) (hM : q_LM h L) (z : ∀ f, Z (if q_vl L (h.2.2 93) 120 (l_n L) 0 = 0 then 0 else 1) (am_sR h 92 f)) : Sp mX11_holdsAny d [.ref 73, .int 120] h Z := by
  have w := m_any (d := d) hd hL hM z (l_n L) 0 (h.2.2 92) (by omega) rfl
  rw [am_sR_self] at w
  exact Sp_of mf_X11_holdsAny rfl (Nat.le_of_ble_eq_true rfl) rfl (sX11_holdsAny_0 w)
end
