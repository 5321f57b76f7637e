set_option maxRecDepth 20000 in
set_option maxHeartbeats 2000000 in
theorem sX10_isFromTo_0 {d : Nat} {h : am_H} {Z : Int32 → am_H → Prop} {x0 : Int32} {x1 : Int32} {x2 : Int32} (w : (x0 < x1 → Z 0 h) ∧ (¬ (x0 < x1) → (x2 < x0 → Z 0 h) ∧ (¬ (x2 < x0) → Z 1 h))) : Ru mX10_isFromTo none d 0 [.int x0, .int x1, .int x2] [] h Z := by
  refine st_iload_n dX10_isFromTo_0 rfl ?_
  refine st_iload_n dX10_isFromTo_1 rfl ?_
  refine st_icmp_lt (tgt := 14) dX10_isFromTo_2 (by decide) (fun c => ?_) (fun c => ?_)
  · replace w := w.1 c
    refine st_iconst (v := 0) dX10_isFromTo_14 (by decide) ?_
    exact st_ireturn rfl rfl dX10_isFromTo_15 w
  · replace w := w.2 c
    refine st_iload_n dX10_isFromTo_5 rfl ?_
    refine st_iload_n dX10_isFromTo_6 rfl ?_
    refine st_icmp_gt (tgt := 14) dX10_isFromTo_7 (by decide) (fun c => ?_) (fun c => ?_)
    · replace w := w.1 c
      refine st_iconst (v := 0) dX10_isFromTo_14 (by decide) ?_
      exact st_ireturn rfl rfl dX10_isFromTo_15 w
    · replace w := w.2 c
      refine st_iconst (v := 1) dX10_isFromTo_10 (by decide) ?_
      refine st_goto (tgt := 15) dX10_isFromTo_11 (by decide) ?_
      exact st_ireturn rfl rfl dX10_isFromTo_15 w
theorem iX10_isFromTo {d : Nat} {h : am_H} {Z : Int32 → am_H → Prop} {x0 x1 x2 : Int32} (z : Z (am_b (x1 ≤ x0 ∧ x0 ≤ x2)) h) : Sp mX10_isFromTo d [.int x0, .int x1, .int x2] h Z := by
  refine Sp_of mf_X10_isFromTo rfl (Nat.le_of_ble_eq_true rfl) rfl ?_
  refine sX10_isFromTo_0 ⟨fun c => ?_, fun c => ⟨fun c2 => ?_, fun c2 => ?_⟩⟩
  · rwa [am_b0 (fun q => Int32.not_le.mpr c q.1)] at z
  · rwa [am_b0 (fun q => Int32.not_le.mpr c2 q.2)] at z
  · rwa [am_b1 ⟨Int32.not_lt.mp c, Int32.not_lt.mp c2⟩] at z
set_option maxRecDepth 20000 in
set_option maxHeartbeats 2000000 in
theorem sX9_hasSpaceForFive_0 {d : Nat} {h : am_H} {Z : Int32 → am_H → Prop}  (w : (260 < ((h.1 1 1) + 20) → Z 0 h) ∧ (¬ (260 < ((h.1 1 1) + 20)) → Z 1 h)) : Ru mX9_hasSpaceForFive none d 0 [.ref 1] [] h Z := by
  refine st_aload_n dX9_hasSpaceForFive_0 rfl ?_
  refine st_getI fl_X9_13 fk_9_1 dX9_hasSpaceForFive_1 sh_1 ?_
  refine st_bipush (v := 20) dX9_hasSpaceForFive_4 (by decide) ?_
  refine st_iadd dX9_hasSpaceForFive_6 ?_
  refine st_sipush (v := 260) dX9_hasSpaceForFive_7 (by decide) ?_
  refine st_icmp_gt (tgt := 17) dX9_hasSpaceForFive_10 (by decide) (fun c => ?_) (fun c => ?_)
  · replace w := w.1 c
    refine st_iconst (v := 0) dX9_hasSpaceForFive_17 (by decide) ?_
    exact st_ireturn rfl rfl dX9_hasSpaceForFive_18 w
  · replace w := w.2 c
    refine st_iconst (v := 1) dX9_hasSpaceForFive_13 (by decide) ?_
    refine st_goto (tgt := 18) dX9_hasSpaceForFive_14 (by decide) ?_
    exact st_ireturn rfl rfl dX9_hasSpaceForFive_18 w
set_option maxRecDepth 20000 in
set_option maxHeartbeats 2000000 in
theorem sX9_append_0 {d : Nat} {h : am_H} {Z : Int32 → am_H → Prop} {x1 : Int32} (w : ((h.1 1 1) < 0 → Z 0 h) ∧ (¬ ((h.1 1 1) < 0) → (((h.1 1 1) + 4) ≤ 260 → Ru mX9_append none d 22 [.ref 1, .int x1, .int 0] [] h Z) ∧ (¬ (((h.1 1 1) + 4) ≤ 260) → Z 0 h))) : Ru mX9_append none d 0 [.ref 1, .int x1, .null] [] h Z := by
  refine st_aload_n dX9_append_0 rfl ?_
  refine st_getI fl_X9_13 fk_9_1 dX9_append_1 sh_1 ?_
  refine st_if_lt (tgt := 19) dX9_append_4 (by decide) (fun c => ?_) (fun c => ?_)
  · replace w := w.1 c
    exact st_return rfl dX9_append_19 w
  · replace w := w.2 c
    refine st_aload_n dX9_append_7 rfl ?_
    refine st_getI fl_X9_13 fk_9_1 dX9_append_8 sh_1 ?_
    refine st_iconst (v := 4) dX9_append_11 (by decide) ?_
    refine st_iadd dX9_append_12 ?_
    refine st_sipush (v := 260) dX9_append_13 (by decide) ?_
    refine st_icmp_le (tgt := 20) dX9_append_16 (by decide) (fun c => ?_) (fun c => ?_)
    · replace w := w.1 c
      refine st_iconst (v := 0) dX9_append_20 (by decide) ?_
      refine st_istore_n (L' := [.ref 1, .int x1, .int 0]) dX9_append_21 (by decide) rfl ?_
      exact w
    · replace w := w.2 c
      exact st_return rfl dX9_append_19 w
set_option maxRecDepth 20000 in
set_option maxHeartbeats 2000000 in
theorem sX9_append_22 {d : Nat} {h : am_H} {Z : Int32 → am_H → Prop} {x1 : Int32} {x2 : Int32} (w : (4 ≤ x2 → (∀ h1 : am_H, h1 = am_sI h 1 1 ((h.1 1 1) + 4) → (Z 0 h1))) ∧ (¬ (4 ≤ x2) → (vp_in ((h.1 1 1) + x2) 260 ∧ (∀ h3 : am_H, h3 = am_sR h 2 (upd (h.2.2 2) ((h.1 1 1) + x2).toNatClampNeg (((x1.toUInt32 >>> ((24 - (8 * x2)).toUInt32 &&& Int32.toUInt32 31)).toInt32) &&& 255)) → (Ru mX9_append none d 22 [.ref 1, .int x1, .int (x2 + 1)] [] h3 Z))))) : Ru mX9_append none d 22 [.ref 1, .int x1, .int x2] [] h Z := by
  refine st_iload_n dX9_append_22 rfl ?_
  refine st_iconst (v := 4) dX9_append_23 (by decide) ?_
  refine st_icmp_ge (tgt := 57) dX9_append_24 (by decide) (fun c => ?_) (fun c => ?_)
  · replace w := w.1 c
    refine st_aload_n dX9_append_57 rfl ?_
    refine st_dup dX9_append_58 rfl ?_
    refine st_getI fl_X9_13 fk_9_1 dX9_append_59 sh_1 ?_
    refine st_iconst (v := 4) dX9_append_62 (by decide) ?_
    refine st_iadd dX9_append_63 ?_
    refine st_putI flp_X9_13 fk_9_1 dX9_append_64 sh_1 (fun h1 eh1 => ?_)
    replace w := w h1 eh1
    exact st_return rfl dX9_append_67 w
  · replace w := w.2 c
    refine st_aload_n dX9_append_27 rfl ?_
    refine st_getF (q := 2) fl_X9_9 fk_9_0 rfl dX9_append_28 sh_1 ?_
    refine st_aload_n dX9_append_31 rfl ?_
    refine st_getI fl_X9_13 fk_9_1 dX9_append_32 sh_1 ?_
    refine st_iload_n dX9_append_35 rfl ?_
    refine st_iadd dX9_append_36 ?_
    refine st_iload_n dX9_append_37 rfl ?_
    refine st_bipush (v := 24) dX9_append_38 (by decide) ?_
    refine st_bipush (v := 8) dX9_append_40 (by decide) ?_
    refine st_iload_n dX9_append_42 rfl ?_
    refine st_imul dX9_append_43 ?_
    refine st_isub dX9_append_44 ?_
    refine st_iushr dX9_append_45 ?_
    refine st_sipush (v := 255) dX9_append_46 (by decide) ?_
    refine st_iand dX9_append_49 ?_
    have hc2 := w.1
    replace w := w.2
    refine st_iast dX9_append_50 sh_2 hc2 (fun h3 eh3 => ?_)
    replace w := w h3 eh3
    refine st_iinc (L' := [.ref 1, .int x1, .int (x2 + 1)]) dX9_append_51 rfl rfl (by decide) rfl ?_
    refine st_goto (tgt := 22) dX9_append_54 (by decide) ?_
    exact w
set_option maxRecDepth 20000 in
set_option maxHeartbeats 2000000 in
theorem sX9_holds_0 {d : Nat} {h : am_H} {Z : Int32 → am_H → Prop} {x1 : Int32} (w : ((h.1 1 1) < x1 → Z 0 h) ∧ (¬ ((h.1 1 1) < x1) → Z 1 h)) : Ru mX9_holds none d 0 [.ref 1, .int x1] [] h Z := by
  refine st_iload_n dX9_holds_0 rfl ?_
  refine st_aload_n dX9_holds_1 rfl ?_
  refine st_getI fl_X9_13 fk_9_1 dX9_holds_2 sh_1 ?_
  refine st_icmp_gt (tgt := 12) dX9_holds_5 (by decide) (fun c => ?_) (fun c => ?_)
  · replace w := w.1 c
    refine st_iconst (v := 0) dX9_holds_12 (by decide) ?_
    exact st_ireturn rfl rfl dX9_holds_13 w
  · replace w := w.2 c
    refine st_iconst (v := 1) dX9_holds_8 (by decide) ?_
    refine st_goto (tgt := 13) dX9_holds_9 (by decide) ?_
    exact st_ireturn rfl rfl dX9_holds_13 w
set_option maxRecDepth 20000 in
set_option maxHeartbeats 2000000 in
theorem sX9_at_0 {d : Nat} {h : am_H} {Z : Int32 → am_H → Prop} {x1 : Int32} (w : (x1 < 0 → Z (-1) h) ∧ (¬ (x1 < 0) → ((h.1 1 1) ≤ x1 → Z (-1) h) ∧ (¬ ((h.1 1 1) ≤ x1) → (260 ≤ x1 → Z (-1) h) ∧ (¬ (260 ≤ x1) → (vp_in x1 260 ∧ (Z (h.2.2 2 x1.toNatClampNeg) h)))))) : Ru mX9_at none d 0 [.ref 1, .int x1] [] h Z := by
  refine st_iload_n dX9_at_0 rfl ?_
  refine st_if_lt (tgt := 28) dX9_at_1 (by decide) (fun c => ?_) (fun c => ?_)
  · replace w := w.1 c
    refine st_iconst (v := (-1)) dX9_at_28 (by decide) ?_
    exact st_ireturn rfl rfl dX9_at_29 w
  · replace w := w.2 c
    refine st_iload_n dX9_at_4 rfl ?_
    refine st_aload_n dX9_at_5 rfl ?_
    refine st_getI fl_X9_13 fk_9_1 dX9_at_6 sh_1 ?_
    refine st_icmp_ge (tgt := 28) dX9_at_9 (by decide) (fun c => ?_) (fun c => ?_)
    · replace w := w.1 c
      refine st_iconst (v := (-1)) dX9_at_28 (by decide) ?_
      exact st_ireturn rfl rfl dX9_at_29 w
    · replace w := w.2 c
      refine st_iload_n dX9_at_12 rfl ?_
      refine st_sipush (v := 260) dX9_at_13 (by decide) ?_
      refine st_icmp_ge (tgt := 28) dX9_at_16 (by decide) (fun c => ?_) (fun c => ?_)
      · replace w := w.1 c
        refine st_iconst (v := (-1)) dX9_at_28 (by decide) ?_
        exact st_ireturn rfl rfl dX9_at_29 w
      · replace w := w.2 c
        refine st_aload_n dX9_at_19 rfl ?_
        refine st_getF (q := 2) fl_X9_9 fk_9_0 rfl dX9_at_20 sh_1 ?_
        refine st_iload_n dX9_at_23 rfl ?_
        have hc1 := w.1
        replace w := w.2
        refine st_iald dX9_at_24 sh_2 hc1 ?_
        refine st_goto (tgt := 29) dX9_at_25 (by decide) ?_
        exact st_ireturn rfl rfl dX9_at_29 w
set_option maxRecDepth 20000 in
set_option maxHeartbeats 2000000 in
theorem sX9_clear_0 {d : Nat} {h : am_H} {Z : Int32 → am_H → Prop}  (w : (∀ h1 : am_H, h1 = am_sI h 1 1 0 → (Z 0 h1))) : Ru mX9_clear none d 0 [.ref 1] [] h Z := by
  refine st_aload_n dX9_clear_0 rfl ?_
  refine st_iconst (v := 0) dX9_clear_1 (by decide) ?_
  refine st_putI flp_X9_13 fk_9_1 dX9_clear_2 sh_1 (fun h1 eh1 => ?_)
  replace w := w h1 eh1
  exact st_return rfl dX9_clear_5 w
theorem iX9_hasSpace {d : Nat} {h : am_H} {Z : Int32 → am_H → Prop} (z : Z (am_b (h.1 1 1 + 20 ≤ 260)) h) : Sp mX9_hasSpaceForFive d [.ref 1] h Z := by
  refine Sp_of mf_X9_hasSpaceForFive rfl (Nat.le_of_ble_eq_true rfl) rfl ?_
  refine sX9_hasSpaceForFive_0 ⟨fun c => ?_, fun c => ?_⟩
  · rwa [am_b0 (Int32.not_le.mpr c)] at z
  · rwa [am_b1 (Int32.not_lt.mp c)] at z
theorem iX9_holds {d : Nat} {h : am_H} {Z : Int32 → am_H → Prop} {x1 : Int32} (z : Z (am_b (x1 ≤ h.1 1 1)) h) : Sp mX9_holds d [.ref 1, .int x1] h Z := by
  refine Sp_of mf_X9_holds rfl (Nat.le_of_ble_eq_true rfl) rfl ?_
  refine sX9_holds_0 ⟨fun c => ?_, fun c => ?_⟩
  · rwa [am_b0 (Int32.not_le.mpr c)] at z
  · rwa [am_b1 (Int32.not_lt.mp c)] at z
def am_at (h : am_H) (x : Int32) : Int32 := if 0 ≤ x ∧ x < h.1 1 1 ∧ x < 260 then h.2.2 2 x.toNatClampNeg else -1
theorem iX9_at {d : Nat} {h : am_H} {Z : Int32 → am_H → Prop} {x1 : Int32} (z : Z (am_at h x1) h) : Sp mX9_at d [.ref 1, .int x1] h Z := by
  refine Sp_of mf_X9_at rfl (Nat.le_of_ble_eq_true rfl) rfl ?_
  unfold am_at at z
  refine sX9_at_0 ⟨fun c => ?_, fun c => ⟨fun c2 => ?_, fun c2 => ⟨fun c3 => ?_, fun c3 => ⟨am_vin (by decide) c c3, ?_⟩⟩⟩⟩
  · rwa [if_neg (fun q => Int32.not_le.mpr c q.1)] at z
  · rwa [if_neg (fun q => Int32.not_le.mpr q.2.1 c2)] at z
  · rwa [if_neg (fun q => Int32.not_le.mpr q.2.2 c3)] at z
  · rwa [if_pos ⟨Int32.not_lt.mp c, Int32.not_le.mp c2, Int32.not_le.mp c3⟩] at z
theorem iX9_clear {d : Nat} {h : am_H} {Z : Int32 → am_H → Prop} (z : Z 0 (am_sI h 1 1 0)) : Sp mX9_clear d [.ref 1] h Z := by
  refine Sp_of mf_X9_clear rfl (Nat.le_of_ble_eq_true rfl) rfl ?_
  exact sX9_clear_0 (fun h1 e => e ▸ z)
