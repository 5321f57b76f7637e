-- heard
set_option maxRecDepth 20000 in
set_option maxHeartbeats 2000000 in
theorem sX6_waitOf_0 {d : Nat} {h : am_H} {Z : Int32 → am_H → Prop} {x1 : Int32} {x2 : Int32} (hd : 2 ≤ d) (w : Ru mX6_waitOf none d 17 [.ref 10, .int x1, .int x2, .int (am_at h (2 * x2)), .int 0, .int 0, .null] [] h Z) : Ru mX6_waitOf none d 0 [.ref 10, .int x1, .int x2, .null, .null, .null, .null] [] h Z := by
  refine st_aload_n dX6_waitOf_0 rfl ?_
  refine st_getF (q := 1) fl_X6_27 fk_6_0 rfl dX6_waitOf_1 sh_10 ?_
  refine st_iconst (v := 2) dX6_waitOf_4 (by decide) ?_
  refine st_iload_n dX6_waitOf_5 rfl ?_
  refine st_imul dX6_waitOf_6 ?_
  refine st_callV (M' := mX9_at) [.int (2 * x2)] [] dX6_waitOf_7 ml_X6_74 mf_X9_at mv_X9_at sh_1 rfl rfl rfl (K := fun r h' => (am_at h (2 * x2)) = r ∧ h = h') ⟨1, by omega, iX9_at ⟨rfl, rfl⟩⟩ (fun r1 h1 w1 => ?_)
  obtain ⟨rfl, rfl⟩ := w1
  show Ru mX6_waitOf none d 10 [.ref 10, .int x1, .int x2, .null, .null, .null, .null] [.int (am_at h (2 * x2))] h Z
  refine st_istore_n (L' := [.ref 10, .int x1, .int x2, .int (am_at h (2 * x2)), .null, .null, .null]) dX6_waitOf_10 (by decide) rfl ?_
  refine st_iconst (v := 0) dX6_waitOf_11 (by decide) ?_
  refine st_istore (L' := [.ref 10, .int x1, .int x2, .int (am_at h (2 * x2)), .int 0, .null, .null]) dX6_waitOf_12 (by decide) rfl ?_
  refine st_iconst (v := 0) dX6_waitOf_14 (by decide) ?_
  refine st_istore (L' := [.ref 10, .int x1, .int x2, .int (am_at h (2 * x2)), .int 0, .int 0, .null]) dX6_waitOf_15 (by decide) rfl ?_
  exact w
set_option maxRecDepth 20000 in
set_option maxHeartbeats 2000000 in
theorem sX6_waitOf_17 {d : Nat} {h : am_H} {Z : Int32 → am_H → Prop} {x1 : Int32} {x2 : Int32} {x3 : Int32} {x4 : Int32} {x5 : Int32} {u6 : Value} (hd : 2 ≤ d) (w : (x1 ≤ x5 → Z x4 h) ∧ (¬ (x1 ≤ x5) → (x3 < (am_at h (2 * x5)) → Ru mX6_waitOf none d 17 [.ref 10, .int x1, .int x2, .int x3, .int (x4 + (am_at h ((2 * x5) + 1))), .int (x5 + 1), .int (am_at h (2 * x5))] [] h Z) ∧ (¬ (x3 < (am_at h (2 * x5))) → (¬ (am_at h (2 * x5)) = x3 → Ru mX6_waitOf none d 17 [.ref 10, .int x1, .int x2, .int x3, .int x4, .int (x5 + 1), .int (am_at h (2 * x5))] [] h Z) ∧ ((am_at h (2 * x5)) = x3 → (x2 ≤ x5 → Ru mX6_waitOf none d 17 [.ref 10, .int x1, .int x2, .int x3, .int x4, .int (x5 + 1), .int (am_at h (2 * x5))] [] h Z) ∧ (¬ (x2 ≤ x5) → Ru mX6_waitOf none d 17 [.ref 10, .int x1, .int x2, .int x3, .int (x4 + (am_at h ((2 * x5) + 1))), .int (x5 + 1), .int (am_at h (2 * x5))] [] h Z))))) : Ru mX6_waitOf none d 17 [.ref 10, .int x1, .int x2, .int x3, .int x4, .int x5, u6] [] h Z := by
  refine st_iload dX6_waitOf_17 rfl ?_
  refine st_iload_n dX6_waitOf_19 rfl ?_
  refine st_icmp_ge (tgt := 78) dX6_waitOf_20 (by decide) (fun c => ?_) (fun c => ?_)
  · replace w := w.1 c
    refine st_iload dX6_waitOf_78 rfl ?_
    exact st_ireturn rfl rfl dX6_waitOf_80 w
  · replace w := w.2 c
    refine st_aload_n dX6_waitOf_23 rfl ?_
    refine st_getF (q := 1) fl_X6_27 fk_6_0 rfl dX6_waitOf_24 sh_10 ?_
    refine st_iconst (v := 2) dX6_waitOf_27 (by decide) ?_
    refine st_iload dX6_waitOf_28 rfl ?_
    refine st_imul dX6_waitOf_30 ?_
    refine st_callV (M' := mX9_at) [.int (2 * x5)] [] dX6_waitOf_31 ml_X6_74 mf_X9_at mv_X9_at sh_1 rfl rfl rfl (K := fun r h' => (am_at h (2 * x5)) = r ∧ h = h') ⟨1, by omega, iX9_at ⟨rfl, rfl⟩⟩ (fun r1 h1 w1 => ?_)
    obtain ⟨rfl, rfl⟩ := w1
    show Ru mX6_waitOf none d 34 [.ref 10, .int x1, .int x2, .int x3, .int x4, .int x5, u6] [.int (am_at h (2 * x5))] h Z
    refine st_istore (L' := [.ref 10, .int x1, .int x2, .int x3, .int x4, .int x5, .int (am_at h (2 * x5))]) dX6_waitOf_34 (by decide) rfl ?_
    refine st_iload dX6_waitOf_36 rfl ?_
    refine st_iload_n dX6_waitOf_38 rfl ?_
    refine st_icmp_gt (tgt := 54) dX6_waitOf_39 (by decide) (fun c => ?_) (fun c => ?_)
    · replace w := w.1 c
      refine st_iload dX6_waitOf_54 rfl ?_
      refine st_aload_n dX6_waitOf_56 rfl ?_
      refine st_getF (q := 1) fl_X6_27 fk_6_0 rfl dX6_waitOf_57 sh_10 ?_
      refine st_iconst (v := 2) dX6_waitOf_60 (by decide) ?_
      refine st_iload dX6_waitOf_61 rfl ?_
      refine st_imul dX6_waitOf_63 ?_
      refine st_iconst (v := 1) dX6_waitOf_64 (by decide) ?_
      refine st_iadd dX6_waitOf_65 ?_
      refine st_callV (M' := mX9_at) [.int ((2 * x5) + 1)] [.int x4] dX6_waitOf_66 ml_X6_74 mf_X9_at mv_X9_at sh_1 rfl rfl rfl (K := fun r h' => (am_at h ((2 * x5) + 1)) = r ∧ h = h') ⟨1, by omega, iX9_at ⟨rfl, rfl⟩⟩ (fun r1 h1 w1 => ?_)
      obtain ⟨rfl, rfl⟩ := w1
      show Ru mX6_waitOf none d 69 [.ref 10, .int x1, .int x2, .int x3, .int x4, .int x5, .int (am_at h (2 * x5))] [.int (am_at h ((2 * x5) + 1)), .int x4] h Z
      refine st_iadd dX6_waitOf_69 ?_
      refine st_istore (L' := [.ref 10, .int x1, .int x2, .int x3, .int (x4 + (am_at h ((2 * x5) + 1))), .int x5, .int (am_at h (2 * x5))]) dX6_waitOf_70 (by decide) rfl ?_
      refine st_iinc (L' := [.ref 10, .int x1, .int x2, .int x3, .int (x4 + (am_at h ((2 * x5) + 1))), .int (x5 + 1), .int (am_at h (2 * x5))]) dX6_waitOf_72 rfl rfl (by decide) rfl ?_
      refine st_goto (tgt := 17) dX6_waitOf_75 (by decide) ?_
      exact w
    · replace w := w.2 c
      refine st_iload dX6_waitOf_42 rfl ?_
      refine st_iload_n dX6_waitOf_44 rfl ?_
      refine st_icmp_ne (tgt := 72) dX6_waitOf_45 (by decide) (fun c => ?_) (fun c => ?_)
      · replace w := w.1 c
        refine st_iinc (L' := [.ref 10, .int x1, .int x2, .int x3, .int x4, .int (x5 + 1), .int (am_at h (2 * x5))]) dX6_waitOf_72 rfl rfl (by decide) rfl ?_
        refine st_goto (tgt := 17) dX6_waitOf_75 (by decide) ?_
        exact w
      · replace w := w.2 c
        refine st_iload dX6_waitOf_48 rfl ?_
        refine st_iload_n dX6_waitOf_50 rfl ?_
        refine st_icmp_ge (tgt := 72) dX6_waitOf_51 (by decide) (fun c => ?_) (fun c => ?_)
        · replace w := w.1 c
          refine st_iinc (L' := [.ref 10, .int x1, .int x2, .int x3, .int x4, .int (x5 + 1), .int (am_at h (2 * x5))]) dX6_waitOf_72 rfl rfl (by decide) rfl ?_
          refine st_goto (tgt := 17) dX6_waitOf_75 (by decide) ?_
          exact w
        · replace w := w.2 c
          refine st_iload dX6_waitOf_54 rfl ?_
          refine st_aload_n dX6_waitOf_56 rfl ?_
          refine st_getF (q := 1) fl_X6_27 fk_6_0 rfl dX6_waitOf_57 sh_10 ?_
          refine st_iconst (v := 2) dX6_waitOf_60 (by decide) ?_
          refine st_iload dX6_waitOf_61 rfl ?_
          refine st_imul dX6_waitOf_63 ?_
          refine st_iconst (v := 1) dX6_waitOf_64 (by decide) ?_
          refine st_iadd dX6_waitOf_65 ?_
          refine st_callV (M' := mX9_at) [.int ((2 * x5) + 1)] [.int x4] dX6_waitOf_66 ml_X6_74 mf_X9_at mv_X9_at sh_1 rfl rfl rfl (K := fun r h' => (am_at h ((2 * x5) + 1)) = r ∧ h = h') ⟨1, by omega, iX9_at ⟨rfl, rfl⟩⟩ (fun r1 h1 w1 => ?_)
          obtain ⟨rfl, rfl⟩ := w1
          show Ru mX6_waitOf none d 69 [.ref 10, .int x1, .int x2, .int x3, .int x4, .int x5, .int (am_at h (2 * x5))] [.int (am_at h ((2 * x5) + 1)), .int x4] h Z
          refine st_iadd dX6_waitOf_69 ?_
          refine st_istore (L' := [.ref 10, .int x1, .int x2, .int x3, .int (x4 + (am_at h ((2 * x5) + 1))), .int x5, .int (am_at h (2 * x5))]) dX6_waitOf_70 (by decide) rfl ?_
          refine st_iinc (L' := [.ref 10, .int x1, .int x2, .int x3, .int (x4 + (am_at h ((2 * x5) + 1))), .int (x5 + 1), .int (am_at h (2 * x5))]) dX6_waitOf_72 rfl rfl (by decide) rfl ?_
          refine st_goto (tgt := 17) dX6_waitOf_75 (by decide) ?_
          exact w
set_option maxRecDepth 20000 in
set_option maxHeartbeats 2000000 in
theorem sX6_heardToTheEnd_0 {d : Nat} {h : am_H} {Z : Int32 → am_H → Prop} {x1 : Int32} {x2 : Int32} (hd : 2 ≤ d) (w : am_cl mX6_waitOf d [.ref 10, .int x1, .int x2] h (fun r1 h2 => Z (r1 + (am_at h2 ((2 * x2) + 1))) h2)) : Ru mX6_heardToTheEnd none d 0 [.ref 10, .int x1, .int x2] [] h Z := by
  refine st_aload_n dX6_heardToTheEnd_0 rfl ?_
  refine st_iload_n dX6_heardToTheEnd_1 rfl ?_
  refine st_iload_n dX6_heardToTheEnd_2 rfl ?_
  refine st_callV (M' := mX6_waitOf) [.int x1, .int x2] [] dX6_heardToTheEnd_3 ml_X6_100 mf_X6_waitOf mv_X6_waitOf sh_10 rfl rfl rfl w (fun r1 h2 w => ?_)
  show Ru mX6_heardToTheEnd none d 6 [.ref 10, .int x1, .int x2] [.int r1] h2 Z
  refine st_aload_n dX6_heardToTheEnd_6 rfl ?_
  refine st_getF (q := 1) fl_X6_27 fk_6_0 rfl dX6_heardToTheEnd_7 sh_10 ?_
  refine st_iconst (v := 2) dX6_heardToTheEnd_10 (by decide) ?_
  refine st_iload_n dX6_heardToTheEnd_11 rfl ?_
  refine st_imul dX6_heardToTheEnd_12 ?_
  refine st_iconst (v := 1) dX6_heardToTheEnd_13 (by decide) ?_
  refine st_iadd dX6_heardToTheEnd_14 ?_
  refine st_callV (M' := mX9_at) [.int ((2 * x2) + 1)] [.int r1] dX6_heardToTheEnd_15 ml_X6_74 mf_X9_at mv_X9_at sh_1 rfl rfl rfl (K := fun r h' => (am_at h2 ((2 * x2) + 1)) = r ∧ h2 = h') ⟨1, by omega, iX9_at ⟨rfl, rfl⟩⟩ (fun r1 h1 w1 => ?_)
  obtain ⟨rfl, rfl⟩ := w1
  show Ru mX6_heardToTheEnd none d 18 [.ref 10, .int x1, .int x2] [.int (am_at h2 ((2 * x2) + 1)), .int r1] h2 Z
  refine st_iadd dX6_heardToTheEnd_18 ?_
  exact st_ireturn rfl rfl dX6_heardToTheEnd_19 w
set_option maxRecDepth 20000 in
set_option maxHeartbeats 2000000 in
theorem sX6_waitOfAll_0 {d : Nat} {h : am_H} {Z : Int32 → am_H → Prop} {x1 : Int32} (w : Ru mX6_waitOfAll none d 4 [.ref 10, .int x1, .int 0, .int 0] [] h Z) : Ru mX6_waitOfAll none d 0 [.ref 10, .int x1, .null, .null] [] h Z := by
  refine st_iconst (v := 0) dX6_waitOfAll_0 (by decide) ?_
  refine st_istore_n (L' := [.ref 10, .int x1, .int 0, .null]) dX6_waitOfAll_1 (by decide) rfl ?_
  refine st_iconst (v := 0) dX6_waitOfAll_2 (by decide) ?_
  refine st_istore_n (L' := [.ref 10, .int x1, .int 0, .int 0]) dX6_waitOfAll_3 (by decide) rfl ?_
  exact w
set_option maxRecDepth 20000 in
set_option maxHeartbeats 2000000 in
theorem sX6_waitOfAll_4 {d : Nat} {h : am_H} {Z : Int32 → am_H → Prop} {x1 : Int32} {x2 : Int32} {x3 : Int32} (w : (x1 ≤ x3 → Z x2 h) ∧ (¬ (x1 ≤ x3) → am_cl mX6_waitOf d [.ref 10, .int x1, .int x3] h (fun r1 h2 => Ru mX6_waitOfAll none d 4 [.ref 10, .int x1, .int (x2 + r1), .int (x3 + 1)] [] h2 Z))) : Ru mX6_waitOfAll none d 4 [.ref 10, .int x1, .int x2, .int x3] [] h Z := by
  refine st_iload_n dX6_waitOfAll_4 rfl ?_
  refine st_iload_n dX6_waitOfAll_5 rfl ?_
  refine st_icmp_ge (tgt := 24) dX6_waitOfAll_6 (by decide) (fun c => ?_) (fun c => ?_)
  · replace w := w.1 c
    refine st_iload_n dX6_waitOfAll_24 rfl ?_
    exact st_ireturn rfl rfl dX6_waitOfAll_25 w
  · replace w := w.2 c
    refine st_iload_n dX6_waitOfAll_9 rfl ?_
    refine st_aload_n dX6_waitOfAll_10 rfl ?_
    refine st_iload_n dX6_waitOfAll_11 rfl ?_
    refine st_iload_n dX6_waitOfAll_12 rfl ?_
    refine st_callV (M' := mX6_waitOf) [.int x1, .int x3] [.int x2] dX6_waitOfAll_13 ml_X6_100 mf_X6_waitOf mv_X6_waitOf sh_10 rfl rfl rfl w (fun r1 h2 w => ?_)
    show Ru mX6_waitOfAll none d 16 [.ref 10, .int x1, .int x2, .int x3] [.int r1, .int x2] h2 Z
    refine st_iadd dX6_waitOfAll_16 ?_
    refine st_istore_n (L' := [.ref 10, .int x1, .int (x2 + r1), .int x3]) dX6_waitOfAll_17 (by decide) rfl ?_
    refine st_iinc (L' := [.ref 10, .int x1, .int (x2 + r1), .int (x3 + 1)]) dX6_waitOfAll_18 rfl rfl (by decide) rfl ?_
    refine st_goto (tgt := 4) dX6_waitOfAll_21 (by decide) ?_
    exact w
set_option maxRecDepth 20000 in
set_option maxHeartbeats 2000000 in
theorem sX10_heard_0 {d : Nat} {h : am_H} {Z : Int32 → am_H → Prop} {x1 : Int32} {x2 : Int32} (hd : 2 ≤ d) (w : (¬ ((1 : Int32) ≤ x1 ∧ x1 ≤ (10 : Int32)) → Ru mX10_heard none d 31 [.ref 0, .int x1, .int x2, .null, .null] [] h Z) ∧ ((1 : Int32) ≤ x1 ∧ x1 ≤ (10 : Int32) → ((0 : Int32) ≤ x2 ∧ x2 ≤ (x1 - 1) → Ru mX10_heard none d 27 [.ref 0, .int x1, .int x2, .null, .null] [] h Z) ∧ (¬ ((0 : Int32) ≤ x2 ∧ x2 ≤ (x1 - 1)) → (¬ x2 = 100 → Ru mX10_heard none d 31 [.ref 0, .int x1, .int x2, .null, .null] [] h Z) ∧ (x2 = 100 → Ru mX10_heard none d 27 [.ref 0, .int x1, .int x2, .null, .null] [] h Z)))) : Ru mX10_heard none d 0 [.ref 0, .int x1, .int x2, .null, .null] [] h Z := by
  refine st_iload_n dX10_heard_0 rfl ?_
  refine st_iconst (v := 1) dX10_heard_1 (by decide) ?_
  refine st_bipush (v := 10) dX10_heard_2 (by decide) ?_
  refine st_callS (M' := mX10_isFromTo) [.int x1, .int 1, .int 10] [] dX10_heard_4 ml_X10_135 mf_X10_isFromTo ms_X10_isFromTo rfl rfl rfl (K := fun r h' => (am_b ((1 : Int32) ≤ x1 ∧ x1 ≤ (10 : Int32))) = r ∧ h = h') ⟨1, by omega, iX10_isFromTo ⟨rfl, rfl⟩⟩ (fun r1 h1 w1 => ?_)
  obtain ⟨rfl, rfl⟩ := w1
  show Ru mX10_heard none d 7 [.ref 0, .int x1, .int x2, .null, .null] [.int (am_b ((1 : Int32) ≤ x1 ∧ x1 ≤ (10 : Int32)))] h Z
  refine st_ifb_eq (tgt := 31) dX10_heard_7 (by decide) (fun c => ?_) (fun c => ?_)
  · replace w := w.1 c
    exact w
  · replace w := w.2 c
    refine st_iload_n dX10_heard_10 rfl ?_
    refine st_iconst (v := 0) dX10_heard_11 (by decide) ?_
    refine st_iload_n dX10_heard_12 rfl ?_
    refine st_iconst (v := 1) dX10_heard_13 (by decide) ?_
    refine st_isub dX10_heard_14 ?_
    refine st_callS (M' := mX10_isFromTo) [.int x2, .int 0, .int (x1 - 1)] [] dX10_heard_15 ml_X10_135 mf_X10_isFromTo ms_X10_isFromTo rfl rfl rfl (K := fun r h' => (am_b ((0 : Int32) ≤ x2 ∧ x2 ≤ (x1 - 1))) = r ∧ h = h') ⟨1, by omega, iX10_isFromTo ⟨rfl, rfl⟩⟩ (fun r1 h1 w1 => ?_)
    obtain ⟨rfl, rfl⟩ := w1
    show Ru mX10_heard none d 18 [.ref 0, .int x1, .int x2, .null, .null] [.int (am_b ((0 : Int32) ≤ x2 ∧ x2 ≤ (x1 - 1)))] h Z
    refine st_ifb_ne (tgt := 27) dX10_heard_18 (by decide) (fun c => ?_) (fun c => ?_)
    · replace w := w.1 c
      exact w
    · replace w := w.2 c
      refine st_iload_n dX10_heard_21 rfl ?_
      refine st_bipush (v := 100) dX10_heard_22 (by decide) ?_
      refine st_icmp_ne (tgt := 31) dX10_heard_24 (by decide) (fun c => ?_) (fun c => ?_)
      · replace w := w.1 c
        exact w
      · replace w := w.2 c
        exact w
set_option maxRecDepth 20000 in
set_option maxHeartbeats 2000000 in
theorem sX10_heard_31 {d : Nat} {h : am_H} {Z : Int32 → am_H → Prop} {x1 : Int32} {x2 : Int32} {u3 : Value} {u4 : Value} (w : Ru mX10_heard none d 32 [.ref 0, .int x1, .int x2, u3, u4] [.int 0] h Z) : Ru mX10_heard none d 31 [.ref 0, .int x1, .int x2, u3, u4] [] h Z := by
  refine st_iconst (v := 0) dX10_heard_31 (by decide) ?_
  exact w
set_option maxRecDepth 20000 in
set_option maxHeartbeats 2000000 in
theorem sX10_heard_27 {d : Nat} {h : am_H} {Z : Int32 → am_H → Prop} {x1 : Int32} {x2 : Int32} {u3 : Value} {u4 : Value} (w : Ru mX10_heard none d 32 [.ref 0, .int x1, .int x2, u3, u4] [.int 1] h Z) : Ru mX10_heard none d 27 [.ref 0, .int x1, .int x2, u3, u4] [] h Z := by
  refine st_iconst (v := 1) dX10_heard_27 (by decide) ?_
  refine st_goto (tgt := 32) dX10_heard_28 (by decide) ?_
  exact w
set_option maxRecDepth 20000 in
set_option maxHeartbeats 2000000 in
theorem sX10_heard_32 {d : Nat} {h : am_H} {Z : Int32 → am_H → Prop} {x1 : Int32} {x2 : Int32} {u3 : Value} {u4 : Value} {s0 : Int32} (hd : 2 ≤ d) (w : (s0 = 0 → Z (-1) h) ∧ (¬ (s0 = 0) → ((2 * x1) ≤ h.1 1 1 → (¬ x2 = 100 → am_cl mX6_heardToTheEnd d [.ref 10, .int x1, .int x2] h (fun r1 h2 => Z r1 (am_sI h2 1 1 0))) ∧ (x2 = 100 → am_cl mX6_waitOfAll d [.ref 10, .int x1] h (fun r3 h4 => Z r3 (am_sI h4 1 1 0)))) ∧ (¬ ((2 * x1) ≤ h.1 1 1) → Z (-1) h))) : Ru mX10_heard none d 32 [.ref 0, .int x1, .int x2, u3, u4] [.int s0] h Z := by
  refine st_istore_n (L' := [.ref 0, .int x1, .int x2, .int s0, u4]) dX10_heard_32 (by decide) rfl ?_
  refine st_iload_n dX10_heard_33 rfl ?_
  refine st_if_eq (tgt := 50) dX10_heard_34 (by decide) (fun c => ?_) (fun c => ?_)
  · replace w := w.1 c
    refine st_iconst (v := (-1)) dX10_heard_50 (by decide) ?_
    exact st_ireturn rfl rfl dX10_heard_51 w
  · replace w := w.2 c
    refine st_aload_n dX10_heard_37 rfl ?_
    refine st_getF (q := 1) fl_X10_10 fk_10_0 rfl dX10_heard_38 sh_0 ?_
    refine st_iconst (v := 2) dX10_heard_41 (by decide) ?_
    refine st_iload_n dX10_heard_42 rfl ?_
    refine st_imul dX10_heard_43 ?_
    refine st_callV (M' := mX9_holds) [.int (2 * x1)] [] dX10_heard_44 ml_X10_139 mf_X9_holds mv_X9_holds sh_1 rfl rfl rfl (K := fun r h' => (am_b ((2 * x1) ≤ h.1 1 1)) = r ∧ h = h') ⟨1, by omega, iX9_holds ⟨rfl, rfl⟩⟩ (fun r1 h1 w1 => ?_)
    obtain ⟨rfl, rfl⟩ := w1
    show Ru mX10_heard none d 47 [.ref 0, .int x1, .int x2, .int s0, u4] [.int (am_b ((2 * x1) ≤ h.1 1 1))] h Z
    refine st_ifb_ne (tgt := 52) dX10_heard_47 (by decide) (fun c => ?_) (fun c => ?_)
    · replace w := w.1 c
      refine st_iload_n dX10_heard_52 rfl ?_
      refine st_bipush (v := 100) dX10_heard_53 (by decide) ?_
      refine st_icmp_ne (tgt := 69) dX10_heard_55 (by decide) (fun c => ?_) (fun c => ?_)
      · replace w := w.1 c
        refine st_aload_n dX10_heard_69 rfl ?_
        refine st_getF (q := 10) fl_X10_51 fk_10_6 rfl dX10_heard_70 sh_0 ?_
        refine st_iload_n dX10_heard_73 rfl ?_
        refine st_iload_n dX10_heard_74 rfl ?_
        refine st_callV (M' := mX6_heardToTheEnd) [.int x1, .int x2] [] dX10_heard_75 ml_X10_256 mf_X6_heardToTheEnd mv_X6_heardToTheEnd sh_10 rfl rfl rfl w (fun r1 h2 w => ?_)
        show Ru mX10_heard none d 78 [.ref 0, .int x1, .int x2, .int s0, u4] [.int r1] h2 Z
        refine st_istore (L' := [.ref 0, .int x1, .int x2, .int s0, .int r1]) dX10_heard_78 (by decide) rfl ?_
        refine st_aload_n dX10_heard_80 rfl ?_
        refine st_getF (q := 1) fl_X10_10 fk_10_0 rfl dX10_heard_81 sh_0 ?_
        refine st_callV (M' := mX9_clear) [] [] dX10_heard_84 ml_X10_146 mf_X9_clear mv_X9_clear sh_1 rfl rfl rfl (K := fun r h' => 0 = r ∧ am_sI h2 1 1 0 = h') ⟨1, by omega, iX9_clear ⟨rfl, rfl⟩⟩ (fun r1 h1 w1 => ?_)
        obtain ⟨rfl, rfl⟩ := w1
        show Ru mX10_heard none d 87 [.ref 0, .int x1, .int x2, .int s0, .int r1] [] (am_sI h2 1 1 0) Z
        refine st_iload dX10_heard_87 rfl ?_
        exact st_ireturn rfl rfl dX10_heard_89 w
      · replace w := w.2 c
        refine st_aload_n dX10_heard_58 rfl ?_
        refine st_getF (q := 10) fl_X10_51 fk_10_6 rfl dX10_heard_59 sh_0 ?_
        refine st_iload_n dX10_heard_62 rfl ?_
        refine st_callV (M' := mX6_waitOfAll) [.int x1] [] dX10_heard_63 ml_X10_253 mf_X6_waitOfAll mv_X6_waitOfAll sh_10 rfl rfl rfl w (fun r3 h4 w => ?_)
        show Ru mX10_heard none d 66 [.ref 0, .int x1, .int x2, .int s0, u4] [.int r3] h4 Z
        refine st_goto (tgt := 78) dX10_heard_66 (by decide) ?_
        refine st_istore (L' := [.ref 0, .int x1, .int x2, .int s0, .int r3]) dX10_heard_78 (by decide) rfl ?_
        refine st_aload_n dX10_heard_80 rfl ?_
        refine st_getF (q := 1) fl_X10_10 fk_10_0 rfl dX10_heard_81 sh_0 ?_
        refine st_callV (M' := mX9_clear) [] [] dX10_heard_84 ml_X10_146 mf_X9_clear mv_X9_clear sh_1 rfl rfl rfl (K := fun r h' => 0 = r ∧ am_sI h4 1 1 0 = h') ⟨1, by omega, iX9_clear ⟨rfl, rfl⟩⟩ (fun r1 h1 w1 => ?_)
        obtain ⟨rfl, rfl⟩ := w1
        show Ru mX10_heard none d 87 [.ref 0, .int x1, .int x2, .int s0, .int r3] [] (am_sI h4 1 1 0) Z
        refine st_iload dX10_heard_87 rfl ?_
        exact st_ireturn rfl rfl dX10_heard_89 w
    · replace w := w.2 c
      refine st_iconst (v := (-1)) dX10_heard_50 (by decide) ?_
      exact st_ireturn rfl rfl dX10_heard_51 w
set_option maxRecDepth 20000 in
set_option maxHeartbeats 2000000 in
theorem sX11_isAhead_0 {d : Nat} {h : am_H} {Z : Int32 → am_H → Prop} {x1 : Int32} {x2 : Int32} (hd : 2 ≤ d) (w : (vp_in (2 * x1) 260 ∧ (vp_in (2 * x2) 260 ∧ (((h.2.2 80 (2 * x2).toNatClampNeg &&& 255) < (h.2.2 80 (2 * x1).toNatClampNeg &&& 255) → Z 1 h) ∧ (¬ ((h.2.2 80 (2 * x2).toNatClampNeg &&& 255) < (h.2.2 80 (2 * x1).toNatClampNeg &&& 255)) → (¬ (h.2.2 80 (2 * x1).toNatClampNeg &&& 255) = (h.2.2 80 (2 * x2).toNatClampNeg &&& 255) → Z 0 h) ∧ ((h.2.2 80 (2 * x1).toNatClampNeg &&& 255) = (h.2.2 80 (2 * x2).toNatClampNeg &&& 255) → (x2 ≤ x1 → Z 0 h) ∧ (¬ (x2 ≤ x1) → Z 1 h))))))) : Ru mX11_isAhead none d 0 [.ref 73, .int x1, .int x2] [] h Z := by
  refine st_aload_n dX11_isAhead_0 rfl ?_
  refine st_iconst (v := 2) dX11_isAhead_1 (by decide) ?_
  refine st_iload_n dX11_isAhead_2 rfl ?_
  refine st_imul dX11_isAhead_3 ?_
  have hc1 := w.1
  replace w := w.2
  refine st_callV (M' := mX11_octet) [.int (2 * x1)] [] dX11_isAhead_4 ml_X11_388 mf_X11_octet mv_X11_octet sh_73 rfl rfl rfl (K := fun r h' => (h.2.2 80 (2 * x1).toNatClampNeg &&& 255) = r ∧ h = h') ⟨1, by omega, iX11_octet hc1 ⟨rfl, rfl⟩⟩ (fun r1 h1 w1 => ?_)
  obtain ⟨rfl, rfl⟩ := w1
  show Ru mX11_isAhead none d 7 [.ref 73, .int x1, .int x2] [.int (h.2.2 80 (2 * x1).toNatClampNeg &&& 255)] h Z
  refine st_aload_n dX11_isAhead_7 rfl ?_
  refine st_iconst (v := 2) dX11_isAhead_8 (by decide) ?_
  refine st_iload_n dX11_isAhead_9 rfl ?_
  refine st_imul dX11_isAhead_10 ?_
  have hc2 := w.1
  replace w := w.2
  refine st_callV (M' := mX11_octet) [.int (2 * x2)] [.int (h.2.2 80 (2 * x1).toNatClampNeg &&& 255)] dX11_isAhead_11 ml_X11_388 mf_X11_octet mv_X11_octet sh_73 rfl rfl rfl (K := fun r h' => (h.2.2 80 (2 * x2).toNatClampNeg &&& 255) = r ∧ h = h') ⟨1, by omega, iX11_octet hc2 ⟨rfl, rfl⟩⟩ (fun r1 h1 w1 => ?_)
  obtain ⟨rfl, rfl⟩ := w1
  show Ru mX11_isAhead none d 14 [.ref 73, .int x1, .int x2] [.int (h.2.2 80 (2 * x2).toNatClampNeg &&& 255), .int (h.2.2 80 (2 * x1).toNatClampNeg &&& 255)] h Z
  refine st_icmp_gt (tgt := 39) dX11_isAhead_14 (by decide) (fun c => ?_) (fun c => ?_)
  · replace w := w.1 c
    refine st_iconst (v := 1) dX11_isAhead_39 (by decide) ?_
    refine st_goto (tgt := 44) dX11_isAhead_40 (by decide) ?_
    exact st_ireturn rfl rfl dX11_isAhead_44 w
  · replace w := w.2 c
    refine st_aload_n dX11_isAhead_17 rfl ?_
    refine st_iconst (v := 2) dX11_isAhead_18 (by decide) ?_
    refine st_iload_n dX11_isAhead_19 rfl ?_
    refine st_imul dX11_isAhead_20 ?_
    refine st_callV (M' := mX11_octet) [.int (2 * x1)] [] dX11_isAhead_21 ml_X11_388 mf_X11_octet mv_X11_octet sh_73 rfl rfl rfl (K := fun r h' => (h.2.2 80 (2 * x1).toNatClampNeg &&& 255) = r ∧ h = h') ⟨1, by omega, iX11_octet hc1 ⟨rfl, rfl⟩⟩ (fun r1 h1 w1 => ?_)
    obtain ⟨rfl, rfl⟩ := w1
    show Ru mX11_isAhead none d 24 [.ref 73, .int x1, .int x2] [.int (h.2.2 80 (2 * x1).toNatClampNeg &&& 255)] h Z
    refine st_aload_n dX11_isAhead_24 rfl ?_
    refine st_iconst (v := 2) dX11_isAhead_25 (by decide) ?_
    refine st_iload_n dX11_isAhead_26 rfl ?_
    refine st_imul dX11_isAhead_27 ?_
    refine st_callV (M' := mX11_octet) [.int (2 * x2)] [.int (h.2.2 80 (2 * x1).toNatClampNeg &&& 255)] dX11_isAhead_28 ml_X11_388 mf_X11_octet mv_X11_octet sh_73 rfl rfl rfl (K := fun r h' => (h.2.2 80 (2 * x2).toNatClampNeg &&& 255) = r ∧ h = h') ⟨1, by omega, iX11_octet hc2 ⟨rfl, rfl⟩⟩ (fun r1 h1 w1 => ?_)
    obtain ⟨rfl, rfl⟩ := w1
    show Ru mX11_isAhead none d 31 [.ref 73, .int x1, .int x2] [.int (h.2.2 80 (2 * x2).toNatClampNeg &&& 255), .int (h.2.2 80 (2 * x1).toNatClampNeg &&& 255)] h Z
    refine st_icmp_ne (tgt := 43) dX11_isAhead_31 (by decide) (fun c => ?_) (fun c => ?_)
    · replace w := w.1 c
      refine st_iconst (v := 0) dX11_isAhead_43 (by decide) ?_
      exact st_ireturn rfl rfl dX11_isAhead_44 w
    · replace w := w.2 c
      refine st_iload_n dX11_isAhead_34 rfl ?_
      refine st_iload_n dX11_isAhead_35 rfl ?_
      refine st_icmp_ge (tgt := 43) dX11_isAhead_36 (by decide) (fun c => ?_) (fun c => ?_)
      · replace w := w.1 c
        refine st_iconst (v := 0) dX11_isAhead_43 (by decide) ?_
        exact st_ireturn rfl rfl dX11_isAhead_44 w
      · replace w := w.2 c
        refine st_iconst (v := 1) dX11_isAhead_39 (by decide) ?_
        refine st_goto (tgt := 44) dX11_isAhead_40 (by decide) ?_
        exact st_ireturn rfl rfl dX11_isAhead_44 w
abbrev hr_a (T : Nat → Int32) (k q : Nat) : Prop := T (2 * q) < T (2 * k) ∨ (T (2 * k) = T (2 * q) ∧ k < q)
def hr_w (T : Nat → Int32) (n q : Nat) : Int32 := am_fd (fun k a => if hr_a T k q then a + T (2 * k + 1) else a) 0 n 0
theorem iX11_isAhead {d : Nat} {h : am_H} {Z : Int32 → am_H → Prop} {x1 x2 : Int32} (hd : 2 ≤ d) (v1 : vp_in (2 * x1) 260) (v2 : vp_in (2 * x2) 260) (z : Z (am_b (am_oc h (2 * x2) < am_oc h (2 * x1) ∨ (am_oc h (2 * x1) = am_oc h (2 * x2) ∧ x1 < x2))) h) : Sp mX11_isAhead d [.ref 73, .int x1, .int x2] h Z := by
  refine Sp_of mf_X11_isAhead rfl (Nat.le_of_ble_eq_true rfl) rfl ?_
  refine sX11_isAhead_0 hd ⟨v1, v2, fun c => ?_, fun c => ⟨fun c2 => ?_, fun c2 => ⟨fun c3 => ?_, fun c3 => ?_⟩⟩⟩
  · rwa [am_b1 (Or.inl c)] at z
  · rwa [am_b0 (fun q => q.elim (fun g => c g) (fun g => c2 g.1))] at z
  · rwa [am_b0 (fun q => q.elim (fun g => c g) (fun g => Int32.not_le.mpr g.2 c3))] at z
  · rwa [am_b1 (Or.inr ⟨c2, Int32.not_le.mp c3⟩)] at z
set_option maxRecDepth 20000 in
set_option maxHeartbeats 2000000 in
theorem sX11_beginsAt_0 {d : Nat} {h : am_H} {Z : Int32 → am_H → Prop} {x1 : Int32} {x2 : Int32} (w : Ru mX11_beginsAt none d 5 [.ref 73, .int x1, .int x2, .int 0, .int 0] [] h Z) : Ru mX11_beginsAt none d 0 [.ref 73, .int x1, .int x2, .null, .null] [] h Z := by
  refine st_iconst (v := 0) dX11_beginsAt_0 (by decide) ?_
  refine st_istore_n (L' := [.ref 73, .int x1, .int x2, .int 0, .null]) dX11_beginsAt_1 (by decide) rfl ?_
  refine st_iconst (v := 0) dX11_beginsAt_2 (by decide) ?_
  refine st_istore (L' := [.ref 73, .int x1, .int x2, .int 0, .int 0]) dX11_beginsAt_3 (by decide) rfl ?_
  exact w
set_option maxRecDepth 20000 in
set_option maxHeartbeats 2000000 in
theorem sX11_beginsAt_5 {d : Nat} {h : am_H} {Z : Int32 → am_H → Prop} {x1 : Int32} {x2 : Int32} {x3 : Int32} {x4 : Int32} (hd : 3 ≤ d) (w : (x2 ≤ x4 → Z x3 h) ∧ (¬ (x2 ≤ x4) → (x4 = x1 → Ru mX11_beginsAt none d 5 [.ref 73, .int x1, .int x2, .int x3, .int (x4 + 1)] [] h Z) ∧ (¬ (x4 = x1) → (vp_in (2 * x4) 260 ∧ (vp_in (2 * x1) 260 ∧ ((¬ (am_oc h (2 * x1) < am_oc h (2 * x4) ∨ (am_oc h (2 * x4) = am_oc h (2 * x1) ∧ x4 < x1)) → Ru mX11_beginsAt none d 5 [.ref 73, .int x1, .int x2, .int x3, .int (x4 + 1)] [] h Z) ∧ (am_oc h (2 * x1) < am_oc h (2 * x4) ∨ (am_oc h (2 * x4) = am_oc h (2 * x1) ∧ x4 < x1) → (vp_in ((2 * x4) + 1) 260 ∧ (Ru mX11_beginsAt none d 5 [.ref 73, .int x1, .int x2, .int (x3 + (h.2.2 80 ((2 * x4) + 1).toNatClampNeg &&& 255)), .int (x4 + 1)] [] h Z))))))))) : Ru mX11_beginsAt none d 5 [.ref 73, .int x1, .int x2, .int x3, .int x4] [] h Z := by
  refine st_iload dX11_beginsAt_5 rfl ?_
  refine st_iload_n dX11_beginsAt_7 rfl ?_
  refine st_icmp_ge (tgt := 46) dX11_beginsAt_8 (by decide) (fun c => ?_) (fun c => ?_)
  · replace w := w.1 c
    refine st_iload_n dX11_beginsAt_46 rfl ?_
    exact st_ireturn rfl rfl dX11_beginsAt_47 w
  · replace w := w.2 c
    refine st_iload dX11_beginsAt_11 rfl ?_
    refine st_iload_n dX11_beginsAt_13 rfl ?_
    refine st_icmp_eq (tgt := 40) dX11_beginsAt_14 (by decide) (fun c => ?_) (fun c => ?_)
    · replace w := w.1 c
      refine st_iinc (L' := [.ref 73, .int x1, .int x2, .int x3, .int (x4 + 1)]) dX11_beginsAt_40 rfl rfl (by decide) rfl ?_
      refine st_goto (tgt := 5) dX11_beginsAt_43 (by decide) ?_
      exact w
    · replace w := w.2 c
      refine st_aload_n dX11_beginsAt_17 rfl ?_
      refine st_iload dX11_beginsAt_18 rfl ?_
      refine st_iload_n dX11_beginsAt_20 rfl ?_
      have hc1 := w.1
      replace w := w.2
      have hc2 := w.1
      replace w := w.2
      refine st_callV (M' := mX11_isAhead) [.int x4, .int x1] [] dX11_beginsAt_21 ml_X11_418 mf_X11_isAhead mv_X11_isAhead sh_73 rfl rfl rfl (K := fun r h' => (am_b (am_oc h (2 * x1) < am_oc h (2 * x4) ∨ (am_oc h (2 * x4) = am_oc h (2 * x1) ∧ x4 < x1))) = r ∧ h = h') ⟨2, by omega, iX11_isAhead (by omega) hc1 hc2 ⟨rfl, rfl⟩⟩ (fun r1 h1 w1 => ?_)
      obtain ⟨rfl, rfl⟩ := w1
      show Ru mX11_beginsAt none d 24 [.ref 73, .int x1, .int x2, .int x3, .int x4] [.int (am_b (am_oc h (2 * x1) < am_oc h (2 * x4) ∨ (am_oc h (2 * x4) = am_oc h (2 * x1) ∧ x4 < x1)))] h Z
      refine st_ifb_eq (tgt := 40) dX11_beginsAt_24 (by decide) (fun c => ?_) (fun c => ?_)
      · replace w := w.1 c
        refine st_iinc (L' := [.ref 73, .int x1, .int x2, .int x3, .int (x4 + 1)]) dX11_beginsAt_40 rfl rfl (by decide) rfl ?_
        refine st_goto (tgt := 5) dX11_beginsAt_43 (by decide) ?_
        exact w
      · replace w := w.2 c
        refine st_iload_n dX11_beginsAt_27 rfl ?_
        refine st_aload_n dX11_beginsAt_28 rfl ?_
        refine st_iconst (v := 2) dX11_beginsAt_29 (by decide) ?_
        refine st_iload dX11_beginsAt_30 rfl ?_
        refine st_imul dX11_beginsAt_32 ?_
        refine st_iconst (v := 1) dX11_beginsAt_33 (by decide) ?_
        refine st_iadd dX11_beginsAt_34 ?_
        have hc3 := w.1
        replace w := w.2
        refine st_callV (M' := mX11_octet) [.int ((2 * x4) + 1)] [.int x3] dX11_beginsAt_35 ml_X11_388 mf_X11_octet mv_X11_octet sh_73 rfl rfl rfl (K := fun r h' => (h.2.2 80 ((2 * x4) + 1).toNatClampNeg &&& 255) = r ∧ h = h') ⟨1, by omega, iX11_octet hc3 ⟨rfl, rfl⟩⟩ (fun r1 h1 w1 => ?_)
        obtain ⟨rfl, rfl⟩ := w1
        show Ru mX11_beginsAt none d 38 [.ref 73, .int x1, .int x2, .int x3, .int x4] [.int (h.2.2 80 ((2 * x4) + 1).toNatClampNeg &&& 255), .int x3] h Z
        refine st_iadd dX11_beginsAt_38 ?_
        refine st_istore_n (L' := [.ref 73, .int x1, .int x2, .int (x3 + (h.2.2 80 ((2 * x4) + 1).toNatClampNeg &&& 255)), .int x4]) dX11_beginsAt_39 (by decide) rfl ?_
        refine st_iinc (L' := [.ref 73, .int x1, .int x2, .int (x3 + (h.2.2 80 ((2 * x4) + 1).toNatClampNeg &&& 255)), .int (x4 + 1)]) dX11_beginsAt_40 rfl rfl (by decide) rfl ?_
        refine st_goto (tgt := 5) dX11_beginsAt_43 (by decide) ?_
        exact w
set_option maxRecDepth 20000 in
set_option maxHeartbeats 2000000 in
theorem sX11_heard_0 {d : Nat} {h : am_H} {Z : Int32 → am_H → Prop} {x1 : Int32} {x2 : Int32} (hd : 2 ≤ d) (w : (¬ ((1 : Int32) ≤ x1 ∧ x1 ≤ (10 : Int32)) → Z (-1) h) ∧ ((1 : Int32) ≤ x1 ∧ x1 ≤ (10 : Int32) → ((0 : Int32) ≤ x2 ∧ x2 ≤ (x1 - 1) → Ru mX11_heard none d 27 [.ref 73, .int x1, .int x2, .null, .null] [] h Z) ∧ (¬ ((0 : Int32) ≤ x2 ∧ x2 ≤ (x1 - 1)) → (¬ x2 = 100 → Z (-1) h) ∧ (x2 = 100 → Ru mX11_heard none d 27 [.ref 73, .int x1, .int x2, .null, .null] [] h Z)))) : Ru mX11_heard none d 0 [.ref 73, .int x1, .int x2, .null, .null] [] h Z := by
  refine st_iload_n dX11_heard_0 rfl ?_
  refine st_iconst (v := 1) dX11_heard_1 (by decide) ?_
  refine st_bipush (v := 10) dX11_heard_2 (by decide) ?_
  refine st_callS (M' := mX11_in) [.int x1, .int 1, .int 10] [] dX11_heard_4 ml_X11_125 mf_X11_in ms_X11_in rfl rfl rfl (K := fun r h' => (am_b ((1 : Int32) ≤ x1 ∧ x1 ≤ (10 : Int32))) = r ∧ h = h') ⟨1, by omega, iX11_in ⟨rfl, rfl⟩⟩ (fun r1 h1 w1 => ?_)
  obtain ⟨rfl, rfl⟩ := w1
  show Ru mX11_heard none d 7 [.ref 73, .int x1, .int x2, .null, .null] [.int (am_b ((1 : Int32) ≤ x1 ∧ x1 ≤ (10 : Int32)))] h Z
  refine st_ifb_eq (tgt := 37) dX11_heard_7 (by decide) (fun c => ?_) (fun c => ?_)
  · replace w := w.1 c
    refine st_iconst (v := (-1)) dX11_heard_37 (by decide) ?_
    exact st_ireturn rfl rfl dX11_heard_38 w
  · replace w := w.2 c
    refine st_iload_n dX11_heard_10 rfl ?_
    refine st_iconst (v := 0) dX11_heard_11 (by decide) ?_
    refine st_iload_n dX11_heard_12 rfl ?_
    refine st_iconst (v := 1) dX11_heard_13 (by decide) ?_
    refine st_isub dX11_heard_14 ?_
    refine st_callS (M' := mX11_in) [.int x2, .int 0, .int (x1 - 1)] [] dX11_heard_15 ml_X11_125 mf_X11_in ms_X11_in rfl rfl rfl (K := fun r h' => (am_b ((0 : Int32) ≤ x2 ∧ x2 ≤ (x1 - 1))) = r ∧ h = h') ⟨1, by omega, iX11_in ⟨rfl, rfl⟩⟩ (fun r1 h1 w1 => ?_)
    obtain ⟨rfl, rfl⟩ := w1
    show Ru mX11_heard none d 18 [.ref 73, .int x1, .int x2, .null, .null] [.int (am_b ((0 : Int32) ≤ x2 ∧ x2 ≤ (x1 - 1)))] h Z
    refine st_ifb_ne (tgt := 27) dX11_heard_18 (by decide) (fun c => ?_) (fun c => ?_)
    · replace w := w.1 c
      exact w
    · replace w := w.2 c
      refine st_iload_n dX11_heard_21 rfl ?_
      refine st_bipush (v := 100) dX11_heard_22 (by decide) ?_
      refine st_icmp_ne (tgt := 37) dX11_heard_24 (by decide) (fun c => ?_) (fun c => ?_)
      · replace w := w.1 c
        refine st_iconst (v := (-1)) dX11_heard_37 (by decide) ?_
        exact st_ireturn rfl rfl dX11_heard_38 w
      · replace w := w.2 c
        exact w
set_option maxRecDepth 20000 in
set_option maxHeartbeats 2000000 in
theorem sX11_heard_27 {d : Nat} {h : am_H} {Z : Int32 → am_H → Prop} {x1 : Int32} {x2 : Int32} {u3 : Value} {u4 : Value} (hd : 2 ≤ d) (w : ((2 * x1) ≤ (h.1 73 9) → (∀ h1 : am_H, h1 = am_sI h 73 9 0 → ((x2 = 100 → Ru mX11_heard none d 72 [.ref 73, .int x1, .int x2, .int 0, .int 0] [] h1 Z) ∧ (¬ (x2 = 100) → am_cl mX11_beginsAt d [.ref 73, .int x2, .int x1] h1 (fun r2 h3 => (vp_in ((2 * x2) + 1) 260 ∧ (Z (r2 + (h3.2.2 80 ((2 * x2) + 1).toNatClampNeg &&& 255)) h3))))))) ∧ (¬ ((2 * x1) ≤ (h.1 73 9)) → Z (-1) h)) : Ru mX11_heard none d 27 [.ref 73, .int x1, .int x2, u3, u4] [] h Z := by
  refine st_iconst (v := 2) dX11_heard_27 (by decide) ?_
  refine st_iload_n dX11_heard_28 rfl ?_
  refine st_imul dX11_heard_29 ?_
  refine st_aload_n dX11_heard_30 rfl ?_
  refine st_getI fl_X11_158 fk_11_9 dX11_heard_31 sh_73 ?_
  refine st_icmp_le (tgt := 39) dX11_heard_34 (by decide) (fun c => ?_) (fun c => ?_)
  · replace w := w.1 c
    refine st_aload_n dX11_heard_39 rfl ?_
    refine st_iconst (v := 0) dX11_heard_40 (by decide) ?_
    refine st_putI flp_X11_158 fk_11_9 dX11_heard_41 sh_73 (fun h1 eh1 => ?_)
    replace w := w h1 eh1
    refine st_iload_n dX11_heard_44 rfl ?_
    refine st_bipush (v := 100) dX11_heard_45 (by decide) ?_
    refine st_icmp_eq (tgt := 67) dX11_heard_47 (by decide) (fun c => ?_) (fun c => ?_)
    · replace w := w.1 c
      refine st_iconst (v := 0) dX11_heard_67 (by decide) ?_
      refine st_istore_n (L' := [.ref 73, .int x1, .int x2, .int 0, u4]) dX11_heard_68 (by decide) rfl ?_
      refine st_iconst (v := 0) dX11_heard_69 (by decide) ?_
      refine st_istore (L' := [.ref 73, .int x1, .int x2, .int 0, .int 0]) dX11_heard_70 (by decide) rfl ?_
      exact w
    · replace w := w.2 c
      refine st_aload_n dX11_heard_50 rfl ?_
      refine st_iload_n dX11_heard_51 rfl ?_
      refine st_iload_n dX11_heard_52 rfl ?_
      refine st_callV (M' := mX11_beginsAt) [.int x2, .int x1] [] dX11_heard_53 ml_X11_421 mf_X11_beginsAt mv_X11_beginsAt sh_73 rfl rfl rfl w (fun r2 h3 w => ?_)
      show Ru mX11_heard none d 56 [.ref 73, .int x1, .int x2, u3, u4] [.int r2] h3 Z
      refine st_aload_n dX11_heard_56 rfl ?_
      refine st_iconst (v := 2) dX11_heard_57 (by decide) ?_
      refine st_iload_n dX11_heard_58 rfl ?_
      refine st_imul dX11_heard_59 ?_
      refine st_iconst (v := 1) dX11_heard_60 (by decide) ?_
      refine st_iadd dX11_heard_61 ?_
      have hc4 := w.1
      replace w := w.2
      refine st_callV (M' := mX11_octet) [.int ((2 * x2) + 1)] [.int r2] dX11_heard_62 ml_X11_388 mf_X11_octet mv_X11_octet sh_73 rfl rfl rfl (K := fun r h' => (h3.2.2 80 ((2 * x2) + 1).toNatClampNeg &&& 255) = r ∧ h3 = h') ⟨1, by omega, iX11_octet hc4 ⟨rfl, rfl⟩⟩ (fun r1 h1 w1 => ?_)
      obtain ⟨rfl, rfl⟩ := w1
      show Ru mX11_heard none d 65 [.ref 73, .int x1, .int x2, u3, u4] [.int (h3.2.2 80 ((2 * x2) + 1).toNatClampNeg &&& 255), .int r2] h3 Z
      refine st_iadd dX11_heard_65 ?_
      exact st_ireturn rfl rfl dX11_heard_66 w
  · replace w := w.2 c
    refine st_iconst (v := (-1)) dX11_heard_37 (by decide) ?_
    exact st_ireturn rfl rfl dX11_heard_38 w
set_option maxRecDepth 20000 in
set_option maxHeartbeats 2000000 in
theorem sX11_heard_72 {d : Nat} {h : am_H} {Z : Int32 → am_H → Prop} {x1 : Int32} {u2 : Value} {x3 : Int32} {x4 : Int32} (w : (x1 ≤ x4 → Z x3 h) ∧ (¬ (x1 ≤ x4) → am_cl mX11_beginsAt d [.ref 73, .int x4, .int x1] h (fun r1 h2 => Ru mX11_heard none d 72 [.ref 73, .int x1, u2, .int (x3 + r1), .int (x4 + 1)] [] h2 Z))) : Ru mX11_heard none d 72 [.ref 73, .int x1, u2, .int x3, .int x4] [] h Z := by
  refine st_iload dX11_heard_72 rfl ?_
  refine st_iload_n dX11_heard_74 rfl ?_
  refine st_icmp_ge (tgt := 94) dX11_heard_75 (by decide) (fun c => ?_) (fun c => ?_)
  · replace w := w.1 c
    refine st_iload_n dX11_heard_94 rfl ?_
    exact st_ireturn rfl rfl dX11_heard_95 w
  · replace w := w.2 c
    refine st_iload_n dX11_heard_78 rfl ?_
    refine st_aload_n dX11_heard_79 rfl ?_
    refine st_iload dX11_heard_80 rfl ?_
    refine st_iload_n dX11_heard_82 rfl ?_
    refine st_callV (M' := mX11_beginsAt) [.int x4, .int x1] [.int x3] dX11_heard_83 ml_X11_421 mf_X11_beginsAt mv_X11_beginsAt sh_73 rfl rfl rfl w (fun r1 h2 w => ?_)
    show Ru mX11_heard none d 86 [.ref 73, .int x1, u2, .int x3, .int x4] [.int r1, .int x3] h2 Z
    refine st_iadd dX11_heard_86 ?_
    refine st_istore_n (L' := [.ref 73, .int x1, u2, .int (x3 + r1), .int x4]) dX11_heard_87 (by decide) rfl ?_
    refine st_iinc (L' := [.ref 73, .int x1, u2, .int (x3 + r1), .int (x4 + 1)]) dX11_heard_88 rfl rfl (by decide) rfl ?_
    refine st_goto (tgt := 72) dX11_heard_91 (by decide) ?_
    exact w
section
variable {d : Nat} {h : am_H} {Z : Int32 → am_H → Prop} {n q : Nat} {T : Nat → Int32}
theorem hr_x (hd : 3 ≤ d) (hn : n ≤ 10) (hq : q < n) (hT : ∀ i, i < 2 * n → am_at h (nI i) = T i) : ∀ (m k : Nat) (a : Int32) (u : Value), k + m = n → Z (am_fd (fun k a => if hr_a T k q then a + T (2 * k + 1) else a) k m a) h → Ru mX6_waitOf none d 17 [.ref 10, .int (nI n), .int (nI q), .int (T (2 * q)), .int a, .int (nI k), u] [] h Z
  | 0, k, a, u, hk, z => by
    refine sX6_waitOf_17 (by omega) ⟨fun _ => z, fun c => absurd (nI_le (by omega) (by omega)) c⟩
  | m + 1, k, a, u, hk, z => by
    refine sX6_waitOf_17 (by omega) ⟨fun c => absurd c (nI_ge (by omega) (by omega)), fun _ => ?_⟩
    have ih := fun u => hr_x hd hn hq hT m (k + 1) _ u (by omega) z
    simp only [am_n2, nI_1, hT (2 * k) (by omega), hT (2 * k + 1) (by omega)]
    refine ⟨fun c => ?_, fun c => ⟨fun c2 => ?_, fun c2 => ⟨fun c3 => ?_, fun c3 => ?_⟩⟩⟩
    · simp only [show hr_a T k q from Or.inl c, if_true] at ih; exact ih _
    · simp only [show ¬ hr_a T k q from fun g => g.elim c (fun g => c2 g.1), if_false] at ih; exact ih _
    · simp only [show ¬ hr_a T k q from fun g => g.elim c (fun g => by have := (nI_leI (by omega) (by omega)).mp c3; omega), if_false] at ih; exact ih _
    · simp only [show hr_a T k q from Or.inr ⟨c2, (nI_ltI (by omega) (by omega)).mp (Int32.not_le.mp c3)⟩, if_true] at ih; exact ih _
theorem iX6_waitOf (hd : 3 ≤ d) (hn : n ≤ 10) (hq : q < n) (hT : ∀ i, i < 2 * n → am_at h (nI i) = T i) (z : Z (hr_w T n q) h) : Sp mX6_waitOf d [.ref 10, .int (nI n), .int (nI q)] h Z := by
  refine Sp_of mf_X6_waitOf rfl (Nat.le_of_ble_eq_true rfl) rfl (sX6_waitOf_0 (by omega) ?_)
  rw [am_n2, hT (2 * q) (by omega)]
  exact hr_x hd hn hq hT n 0 0 _ (by omega) z
theorem hr_xa (hd : 4 ≤ d) (hn : n ≤ 10) (hT : ∀ i, i < 2 * n → am_at h (nI i) = T i) : ∀ (m k : Nat) (a : Int32), k + m = n → Z (am_fd (fun k a => a + hr_w T n k) k m a) h → Ru mX6_waitOfAll none d 4 [.ref 10, .int (nI n), .int a, .int (nI k)] [] h Z
  | 0, k, a, hk, z => sX6_waitOfAll_4 ⟨fun _ => z, fun c => absurd (nI_le (by omega) (by omega)) c⟩
  | m + 1, k, a, hk, z => by
    refine sX6_waitOfAll_4 ⟨fun c => absurd c (nI_ge (by omega) (by omega)), fun _ => ⟨3, by omega, iX6_waitOf (by omega) hn (by omega) hT ?_⟩⟩
    rw [nI_1]
    exact hr_xa hd hn hT m (k + 1) _ (by omega) z
theorem hr_m (hd : 4 ≤ d) (hn : n ≤ 10) (hq : q < n) (hT : ∀ i, i < 2 * n → h.2.2 80 i &&& 255 = T i) : ∀ (m k : Nat) (a : Int32), k + m = n → Z (am_fd (fun k a => if hr_a T k q then a + T (2 * k + 1) else a) k m a) h → Ru mX11_beginsAt none d 5 [.ref 73, .int (nI q), .int (nI n), .int a, .int (nI k)] [] h Z
  | 0, k, a, hk, z => by
    refine sX11_beginsAt_5 (by omega) ⟨fun _ => z, fun c => absurd (nI_le (by omega) (by omega)) c⟩
  | m + 1, k, a, hk, z => by
    refine sX11_beginsAt_5 (by omega) ⟨fun c => absurd c (nI_ge (by omega) (by omega)), fun _ => ?_⟩
    have ih := hr_m hd hn hq hT m (k + 1) _ (by omega) z
    have l1 : nI k < nI q ↔ k < q := nI_ltI (by omega) (by omega)
    have l2 : nI k = nI q ↔ k = q := nI_eq (by omega) (by omega)
    simp only [am_n2, nI_1, am_oc, nI_clamp (show 2 * k < 2 ^ 31 by omega), nI_clamp (show 2 * q < 2 ^ 31 by omega), nI_clamp (show 2 * k + 1 < 2 ^ 31 by omega), hT (2 * k) (by omega), hT (2 * q) (by omega), hT (2 * k + 1) (by omega), l1, l2]
    have hv : ∀ x, x < 24 → vp_in (nI x) 260 := fun x hx => vp_in_nI (by omega) (by omega)
    refine ⟨fun c => ?_, fun c => ⟨hv _ (by omega), hv _ (by omega), fun c2 => ?_, fun c2 => ⟨hv _ (by omega), ?_⟩⟩⟩
    · subst c
      simp only [show ¬ hr_a T k k from fun g => g.elim (fun g => Int32.lt_irrefl g) (fun g => by omega), if_false] at ih
      exact ih
    · simp only [show ¬ hr_a T k q from c2, if_false] at ih
      exact ih
    · simp only [show hr_a T k q from c2, if_true] at ih
      exact ih
theorem iX11_beginsAt (hd : 4 ≤ d) (hn : n ≤ 10) (hq : q < n) (hT : ∀ i, i < 2 * n → h.2.2 80 i &&& 255 = T i) (z : Z (hr_w T n q) h) : Sp mX11_beginsAt d [.ref 73, .int (nI q), .int (nI n)] h Z :=
  Sp_of mf_X11_beginsAt rfl (Nat.le_of_ble_eq_true rfl) rfl (sX11_beginsAt_0 (hr_m hd hn hq hT n 0 0 (by omega) z))
theorem hr_ma (hd : 6 ≤ d) (hn : n ≤ 10) (hT : ∀ i, i < 2 * n → h.2.2 80 i &&& 255 = T i) {u : Value} : ∀ (m k : Nat) (a : Int32), k + m = n → Z (am_fd (fun k a => a + hr_w T n k) k m a) h → Ru mX11_heard none d 72 [.ref 73, .int (nI n), u, .int a, .int (nI k)] [] h Z
  | 0, k, a, hk, z => sX11_heard_72 ⟨fun _ => z, fun c => absurd (nI_le (by omega) (by omega)) c⟩
  | m + 1, k, a, hk, z => by
    refine sX11_heard_72 ⟨fun c => absurd c (nI_ge (by omega) (by omega)), fun _ => ⟨5, by omega, iX11_beginsAt (by omega) hn (by omega) hT ?_⟩⟩
    rw [nI_1]
    exact hr_ma hd hn hT m (k + 1) _ (by omega) z
end
theorem hr_ok {n : Nat} {x : Int32} (hn : n ≤ 10) (hn0 : 0 < n) (c : 0 ≤ x ∧ x ≤ nI n - 1) : ∃ q, q < n ∧ x = nI q := by
  obtain ⟨k, rfl⟩ : ∃ k, n = k + 1 := ⟨n - 1, by omega⟩
  rw [nI_pred] at c
  obtain ⟨q, hq, rfl⟩ := am_natle (by omega) c.1 c.2
  exact ⟨q, by omega, rfl⟩
theorem pp_heard {d : Nat} {h : am_H} {K : Int32 → Int32 → am_H → Prop} {x y : Int32} {N : Nat} (hd : 12 ≤ d) (ht : am_tape h N) (z : ∀ r h', am_step h h' → K r r h') : am_cl mX10_heard d [.ref 0, .int x, .int y] h (fun r1 h1 => am_cl mX11_heard d [.ref 73, .int x, .int y] h1 (fun r2 h2 => K r1 r2 h2)) := by
  have hN := ht.1
  have g9 : (am_sI h 1 1 0).1 73 9 = h.1 73 9 := by rw [am_gI, if_neg (by decide)]
  have z0 : K (-1) (-1) h := z _ _ (am_step_rf h)
  have zs : ∀ r h1, h1 = am_sI (am_sI h 1 1 0) 73 9 0 → K r r h1 := fun r h1 e1 => z _ _ (by
    rw [e1]
    refine am_step_x (am_keep_sI (am_keep_sI (am_keep_rf h) (by decide)) (by decide)) ?_ ?_
    · rw [am_gI, if_neg (by decide), am_gI, if_pos ⟨rfl, rfl⟩]
    · rw [am_gI, if_pos ⟨rfl, rfl⟩])
  have no : ∀ (w : Ru mX10_heard none 10 0 [.ref 0, .int x, .int y, .null, .null] [] h (fun r1 h1 => r1 = -1 ∧ h1 = h)) (v : Ru mX11_heard none 10 0 [.ref 73, .int x, .int y, .null, .null] [] h (fun r1 h1 => r1 = -1 ∧ h1 = h)), am_cl mX10_heard d [.ref 0, .int x, .int y] h (fun r1 h1 => am_cl mX11_heard d [.ref 73, .int x, .int y] h1 (fun r2 h2 => K r1 r2 h2)) := fun w v => by
    refine ⟨10, by omega, Sp_of mf_X10_heard rfl (Nat.le_of_ble_eq_true rfl) rfl (am_ru_mono w (fun r1 h1 q => ?_))⟩
    obtain ⟨rfl, rfl⟩ := q
    refine ⟨10, by omega, Sp_of mf_X11_heard rfl (Nat.le_of_ble_eq_true rfl) rfl (am_ru_mono v (fun r1 h1 q => ?_))⟩
    obtain ⟨rfl, rfl⟩ := q
    exact z0
  by_cases c1 : 1 ≤ x ∧ x ≤ 10
  · obtain ⟨n, hn, rfl⟩ := am_natle (N := 10) (by omega) (Int32.le_trans (by decide) c1.1) c1.2
    have hn0 : 0 < n := (nI_leI (a := 1) (by omega) (by omega)).mp c1.1
    by_cases c2 : 2 * n ≤ N
    · have p1 : 2 * nI n ≤ h.1 1 1 := by rw [am_n2, ht.2.1]; exact nI_le c2 (by omega)
      have p2 : 2 * nI n ≤ (am_sI h 1 1 0).1 73 9 := by rw [g9, am_n2, ht.2.2.1]; exact nI_le c2 (by omega)
      have hTx : ∀ i, i < 2 * n → am_at h (nI i) = (fun i => h.2.2 80 i &&& 255) i := fun i hi => am_at_n ht (by omega)
      by_cases c3 : 0 ≤ y ∧ y ≤ nI n - 1
      · obtain ⟨q, hq, rfl⟩ := hr_ok hn hn0 c3
        have ne : ¬ nI q = 100 := fun e => by have := (nI_eq (b := 100) (by omega) (by omega)).mp e; omega
        refine ⟨10, by omega, Sp_of mf_X10_heard rfl (Nat.le_of_ble_eq_true rfl) rfl (sX10_heard_0 (by omega) ⟨fun c => absurd c1 c, fun _ => ⟨fun _ => sX10_heard_27 (sX10_heard_32 (by omega) ⟨fun c => absurd c (by decide), fun _ => ⟨fun _ => ⟨fun _ => ⟨8, by omega, Sp_of mf_X6_heardToTheEnd rfl (Nat.le_of_ble_eq_true rfl) rfl (sX6_heardToTheEnd_0 (by omega) ⟨7, by omega, iX6_waitOf (by omega) hn hq hTx ?_⟩)⟩, fun c => absurd c ne⟩, fun c => absurd p1 c⟩⟩), fun c => absurd c3 c⟩⟩)⟩
        refine ⟨10, by omega, Sp_of mf_X11_heard rfl (Nat.le_of_ble_eq_true rfl) rfl (sX11_heard_0 (by omega) ⟨fun c => absurd c1 c, fun _ => ⟨fun _ => sX11_heard_27 (by omega) ⟨fun _ h1 e1 => ⟨fun c => absurd c ne, fun _ => ⟨7, by omega, iX11_beginsAt (by omega) hn hq (T := fun i => h.2.2 80 i &&& 255) (fun i _ => by rw [e1]; rfl) ⟨?_, ?_⟩⟩⟩, fun c => absurd p2 c⟩, fun c => absurd c3 c⟩⟩)⟩
        · rw [am_n2, nI_1]; exact vp_in_nI (by omega) (by omega)
        · rw [am_n2, nI_1, nI_clamp (by omega), am_at_n ht (by omega), show h1.2.2 80 (2 * q + 1) = h.2.2 80 (2 * q + 1) by rw [e1]; rfl]
          exact zs _ _ e1
      · by_cases c4 : y = 100
        · refine ⟨10, by omega, Sp_of mf_X10_heard rfl (Nat.le_of_ble_eq_true rfl) rfl (sX10_heard_0 (by omega) ⟨fun c => absurd c1 c, fun _ => ⟨fun c => absurd c c3, fun _ => ⟨fun c => absurd c4 c, fun _ => sX10_heard_27 (sX10_heard_32 (by omega) ⟨fun c => absurd c (by decide), fun _ => ⟨fun _ => ⟨fun c => absurd c4 c, fun _ => ⟨8, by omega, Sp_of mf_X6_waitOfAll rfl (Nat.le_of_ble_eq_true rfl) rfl (sX6_waitOfAll_0 (hr_xa (by omega) hn hTx n 0 0 (by omega) ?_))⟩⟩, fun c => absurd p1 c⟩⟩)⟩⟩⟩)⟩
          exact ⟨10, by omega, Sp_of mf_X11_heard rfl (Nat.le_of_ble_eq_true rfl) rfl (sX11_heard_0 (by omega) ⟨fun c => absurd c1 c, fun _ => ⟨fun c => absurd c c3, fun _ => ⟨fun c => absurd c4 c, fun _ => sX11_heard_27 (by omega) ⟨fun _ h1 e1 => ⟨fun _ => hr_ma (by omega) hn (T := fun i => h.2.2 80 i &&& 255) (fun i _ => by rw [e1]; rfl) n 0 0 (by omega) (zs _ _ e1), fun c => absurd c4 c⟩, fun c => absurd p2 c⟩⟩⟩⟩)⟩
        · exact no (sX10_heard_0 (by omega) ⟨fun c => absurd c1 c, fun _ => ⟨fun c => absurd c c3, fun _ => ⟨fun _ => sX10_heard_31 (sX10_heard_32 (by omega) ⟨fun _ => ⟨rfl, rfl⟩, fun c => absurd rfl c⟩), fun c => absurd c c4⟩⟩⟩) (sX11_heard_0 (by omega) ⟨fun c => absurd c1 c, fun _ => ⟨fun c => absurd c c3, fun _ => ⟨fun _ => ⟨rfl, rfl⟩, fun c => absurd c c4⟩⟩⟩)
    · have n1 : ¬ 2 * nI n ≤ h.1 1 1 := by rw [am_n2, ht.2.1]; exact nI_ge (by omega) (by omega)
      have n2 : ¬ 2 * nI n ≤ h.1 73 9 := by rw [am_n2, ht.2.2.1]; exact nI_ge (by omega) (by omega)
      have f1 : Ru mX10_heard none 10 27 [.ref 0, .int (nI n), .int y, .null, .null] [] h (fun r1 h1 => r1 = -1 ∧ h1 = h) := sX10_heard_27 (sX10_heard_32 (by omega) ⟨fun c => absurd c (by decide), fun _ => ⟨fun c => absurd c n1, fun _ => ⟨rfl, rfl⟩⟩⟩)
      have f2 : Ru mX10_heard none 10 31 [.ref 0, .int (nI n), .int y, .null, .null] [] h (fun r1 h1 => r1 = -1 ∧ h1 = h) := sX10_heard_31 (sX10_heard_32 (by omega) ⟨fun _ => ⟨rfl, rfl⟩, fun c => absurd rfl c⟩)
      have f3 : Ru mX11_heard none 10 27 [.ref 73, .int (nI n), .int y, .null, .null] [] h (fun r1 h1 => r1 = -1 ∧ h1 = h) := sX11_heard_27 (by omega) ⟨fun c => absurd c n2, fun _ => ⟨rfl, rfl⟩⟩
      exact no (sX10_heard_0 (by omega) ⟨fun c => absurd c1 c, fun _ => ⟨fun _ => f1, fun _ => ⟨fun _ => f2, fun _ => f1⟩⟩⟩) (sX11_heard_0 (by omega) ⟨fun c => absurd c1 c, fun _ => ⟨fun _ => f3, fun _ => ⟨fun _ => ⟨rfl, rfl⟩, fun _ => f3⟩⟩⟩)
  · exact no (sX10_heard_0 (by omega) ⟨fun _ => sX10_heard_31 (sX10_heard_32 (by omega) ⟨fun _ => ⟨rfl, rfl⟩, fun c => absurd rfl c⟩), fun c => absurd c c1⟩) (sX11_heard_0 (by omega) ⟨fun _ => ⟨rfl, rfl⟩, fun c => absurd c c1⟩)
