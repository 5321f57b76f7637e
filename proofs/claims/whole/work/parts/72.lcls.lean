-- the law's text: the class reads sums
set_option maxRecDepth 20000 in
set_option maxHeartbeats 2000000 in
theorem sX4_isComparison_0 {d : Nat} {h : am_H} {Z : Int32 → am_H → Prop} {x0 : Int32} (w : (x0 = 60 → Z 1 h) ∧ (¬ (x0 = 60) → (x0 = 62 → Z 1 h) ∧ (¬ (x0 = 62) → (¬ x0 = 61 → Z 0 h) ∧ (x0 = 61 → Z 1 h)))) : Ru mX4_isComparison none d 0 [.int x0] [] h Z := by
  refine st_iload_n dX4_isComparison_0 rfl ?_
  refine st_bipush (v := 60) dX4_isComparison_1 (by decide) ?_
  refine st_icmp_eq (tgt := 18) dX4_isComparison_3 (by decide) (fun c => ?_) (fun c => ?_)
  · replace w := w.1 c
    refine st_iconst (v := 1) dX4_isComparison_18 (by decide) ?_
    refine st_goto (tgt := 23) dX4_isComparison_19 (by decide) ?_
    exact st_ireturn rfl rfl dX4_isComparison_23 w
  · replace w := w.2 c
    refine st_iload_n dX4_isComparison_6 rfl ?_
    refine st_bipush (v := 62) dX4_isComparison_7 (by decide) ?_
    refine st_icmp_eq (tgt := 18) dX4_isComparison_9 (by decide) (fun c => ?_) (fun c => ?_)
    · replace w := w.1 c
      refine st_iconst (v := 1) dX4_isComparison_18 (by decide) ?_
      refine st_goto (tgt := 23) dX4_isComparison_19 (by decide) ?_
      exact st_ireturn rfl rfl dX4_isComparison_23 w
    · replace w := w.2 c
      refine st_iload_n dX4_isComparison_12 rfl ?_
      refine st_bipush (v := 61) dX4_isComparison_13 (by decide) ?_
      refine st_icmp_ne (tgt := 22) dX4_isComparison_15 (by decide) (fun c => ?_) (fun c => ?_)
      · replace w := w.1 c
        refine st_iconst (v := 0) dX4_isComparison_22 (by decide) ?_
        exact st_ireturn rfl rfl dX4_isComparison_23 w
      · replace w := w.2 c
        refine st_iconst (v := 1) dX4_isComparison_18 (by decide) ?_
        refine st_goto (tgt := 23) dX4_isComparison_19 (by decide) ?_
        exact st_ireturn rfl rfl dX4_isComparison_23 w
set_option maxRecDepth 20000 in
set_option maxHeartbeats 2000000 in
theorem sX4_isSumSign_0 {d : Nat} {h : am_H} {Z : Int32 → am_H → Prop} {x0 : Int32} (w : (x0 = 43 → Z 1 h) ∧ (¬ (x0 = 43) → (¬ x0 = 45 → Z 0 h) ∧ (x0 = 45 → Z 1 h))) : Ru mX4_isSumSign none d 0 [.int x0] [] h Z := by
  refine st_iload_n dX4_isSumSign_0 rfl ?_
  refine st_bipush (v := 43) dX4_isSumSign_1 (by decide) ?_
  refine st_icmp_eq (tgt := 12) dX4_isSumSign_3 (by decide) (fun c => ?_) (fun c => ?_)
  · replace w := w.1 c
    refine st_iconst (v := 1) dX4_isSumSign_12 (by decide) ?_
    refine st_goto (tgt := 17) dX4_isSumSign_13 (by decide) ?_
    exact st_ireturn rfl rfl dX4_isSumSign_17 w
  · replace w := w.2 c
    refine st_iload_n dX4_isSumSign_6 rfl ?_
    refine st_bipush (v := 45) dX4_isSumSign_7 (by decide) ?_
    refine st_icmp_ne (tgt := 16) dX4_isSumSign_9 (by decide) (fun c => ?_) (fun c => ?_)
    · replace w := w.1 c
      refine st_iconst (v := 0) dX4_isSumSign_16 (by decide) ?_
      exact st_ireturn rfl rfl dX4_isSumSign_17 w
    · replace w := w.2 c
      refine st_iconst (v := 1) dX4_isSumSign_12 (by decide) ?_
      refine st_goto (tgt := 17) dX4_isSumSign_13 (by decide) ?_
      exact st_ireturn rfl rfl dX4_isSumSign_17 w
set_option maxRecDepth 20000 in
set_option maxHeartbeats 2000000 in
theorem sX4_isTermSign_0 {d : Nat} {h : am_H} {Z : Int32 → am_H → Prop} {x0 : Int32} (w : (x0 = 42 → Z 1 h) ∧ (¬ (x0 = 42) → (x0 = 47 → Z 1 h) ∧ (¬ (x0 = 47) → (¬ x0 = 37 → Z 0 h) ∧ (x0 = 37 → Z 1 h)))) : Ru mX4_isTermSign none d 0 [.int x0] [] h Z := by
  refine st_iload_n dX4_isTermSign_0 rfl ?_
  refine st_bipush (v := 42) dX4_isTermSign_1 (by decide) ?_
  refine st_icmp_eq (tgt := 18) dX4_isTermSign_3 (by decide) (fun c => ?_) (fun c => ?_)
  · replace w := w.1 c
    refine st_iconst (v := 1) dX4_isTermSign_18 (by decide) ?_
    refine st_goto (tgt := 23) dX4_isTermSign_19 (by decide) ?_
    exact st_ireturn rfl rfl dX4_isTermSign_23 w
  · replace w := w.2 c
    refine st_iload_n dX4_isTermSign_6 rfl ?_
    refine st_bipush (v := 47) dX4_isTermSign_7 (by decide) ?_
    refine st_icmp_eq (tgt := 18) dX4_isTermSign_9 (by decide) (fun c => ?_) (fun c => ?_)
    · replace w := w.1 c
      refine st_iconst (v := 1) dX4_isTermSign_18 (by decide) ?_
      refine st_goto (tgt := 23) dX4_isTermSign_19 (by decide) ?_
      exact st_ireturn rfl rfl dX4_isTermSign_23 w
    · replace w := w.2 c
      refine st_iload_n dX4_isTermSign_12 rfl ?_
      refine st_bipush (v := 37) dX4_isTermSign_13 (by decide) ?_
      refine st_icmp_ne (tgt := 22) dX4_isTermSign_15 (by decide) (fun c => ?_) (fun c => ?_)
      · replace w := w.1 c
        refine st_iconst (v := 0) dX4_isTermSign_22 (by decide) ?_
        exact st_ireturn rfl rfl dX4_isTermSign_23 w
      · replace w := w.2 c
        refine st_iconst (v := 1) dX4_isTermSign_18 (by decide) ?_
        refine st_goto (tgt := 23) dX4_isTermSign_19 (by decide) ?_
        exact st_ireturn rfl rfl dX4_isTermSign_23 w
theorem iX4_isComparison {d : Nat} {h : am_H} {Z : Int32 → am_H → Prop} {x : Int32} (z : Z (am_b (x = 60 ∨ x = 62 ∨ x = 61)) h) : Sp mX4_isComparison d [.int x] h Z := by
  refine Sp_of mf_X4_isComparison rfl (Nat.le_of_ble_eq_true rfl) rfl (sX4_isComparison_0 ⟨fun c => ?_, fun c => ⟨fun c2 => ?_, fun c2 => ⟨fun c3 => ?_, fun c3 => ?_⟩⟩⟩)
  · rwa [am_b1 (Or.inl c)] at z
  · rwa [am_b1 (Or.inr (Or.inl c2))] at z
  · rwa [am_b0 (fun q => by rcases q with q | q | q; exact c q; exact c2 q; exact c3 q)] at z
  · rwa [am_b1 (Or.inr (Or.inr c3))] at z
theorem iX4_isSumSign {d : Nat} {h : am_H} {Z : Int32 → am_H → Prop} {x : Int32} (z : Z (am_b (x = 43 ∨ x = 45)) h) : Sp mX4_isSumSign d [.int x] h Z := by
  refine Sp_of mf_X4_isSumSign rfl (Nat.le_of_ble_eq_true rfl) rfl (sX4_isSumSign_0 ⟨fun c => ?_, fun c => ⟨fun c3 => ?_, fun c3 => ?_⟩⟩)
  · rwa [am_b1 (Or.inl c)] at z
  · rwa [am_b0 (fun q => by rcases q with q | q; exact c q; exact c3 q)] at z
  · rwa [am_b1 (Or.inr c3)] at z
theorem iX4_isTermSign {d : Nat} {h : am_H} {Z : Int32 → am_H → Prop} {x : Int32} (z : Z (am_b (x = 42 ∨ x = 47 ∨ x = 37)) h) : Sp mX4_isTermSign d [.int x] h Z := by
  refine Sp_of mf_X4_isTermSign rfl (Nat.le_of_ble_eq_true rfl) rfl (sX4_isTermSign_0 ⟨fun c => ?_, fun c => ⟨fun c2 => ?_, fun c2 => ⟨fun c3 => ?_, fun c3 => ?_⟩⟩⟩)
  · rwa [am_b1 (Or.inl c)] at z
  · rwa [am_b1 (Or.inr (Or.inl c2))] at z
  · rwa [am_b0 (fun q => by rcases q with q | q | q; exact c q; exact c2 q; exact c3 q)] at z
  · rwa [am_b1 (Or.inr (Or.inr c3))] at z
set_option maxRecDepth 20000 in
set_option maxHeartbeats 2000000 in
theorem sX3_emit_0 {d : Nat} {h : am_H} {Z : Int32 → am_H → Prop} {a0 : Nat} (hb0 : am_la a0) {x1 : Int32} (w : ((h.1 a0 8) < 0 → Z 0 h) ∧ (¬ ((h.1 a0 8) < 0) → (512 ≤ (h.1 a0 8) → Z 0 h) ∧ (¬ (512 ≤ (h.1 a0 8)) → (vp_in (h.1 a0 8) 512 ∧ (∀ h2 : am_H, h2 = am_sR h (a0 + 5) (upd (h.2.2 (a0 + 5)) (h.1 a0 8).toNatClampNeg x1) → (∀ h3 : am_H, h3 = am_sI h2 a0 8 ((h2.1 a0 8) + 1) → (Z 0 h3))))))) : Ru mX3_emit none d 0 [.ref a0, .int x1] [] h Z := by
  refine st_aload_n dX3_emit_0 rfl ?_
  refine st_getI fl_X3_37 fk_3_8 dX3_emit_1 (la_0 hb0) ?_
  refine st_if_lt (tgt := 37) dX3_emit_4 (by decide) (fun c => ?_) (fun c => ?_)
  · replace w := w.1 c
    exact st_return rfl dX3_emit_37 w
  · replace w := w.2 c
    refine st_aload_n dX3_emit_7 rfl ?_
    refine st_getI fl_X3_37 fk_3_8 dX3_emit_8 (la_0 hb0) ?_
    refine st_sipush (v := 512) dX3_emit_11 (by decide) ?_
    refine st_icmp_ge (tgt := 37) dX3_emit_14 (by decide) (fun c => ?_) (fun c => ?_)
    · replace w := w.1 c
      exact st_return rfl dX3_emit_37 w
    · replace w := w.2 c
      refine st_aload_n dX3_emit_17 rfl ?_
      refine st_getF (q := a0 + 5) fl_X3_24 fk_3_4 rfl dX3_emit_18 (la_0 hb0) ?_
      refine st_aload_n dX3_emit_21 rfl ?_
      refine st_getI fl_X3_37 fk_3_8 dX3_emit_22 (la_0 hb0) ?_
      refine st_iload_n dX3_emit_25 rfl ?_
      have hc1 := w.1
      replace w := w.2
      refine st_iast dX3_emit_26 (la_5 hb0) hc1 (fun h2 eh2 => ?_)
      replace w := w h2 eh2
      refine st_aload_n dX3_emit_27 rfl ?_
      refine st_dup dX3_emit_28 rfl ?_
      refine st_getI fl_X3_37 fk_3_8 dX3_emit_29 (la_0 hb0) ?_
      refine st_iconst (v := 1) dX3_emit_32 (by decide) ?_
      refine st_iadd dX3_emit_33 ?_
      refine st_putI flp_X3_37 fk_3_8 dX3_emit_34 (la_0 hb0) (fun h3 eh3 => ?_)
      replace w := w h3 eh3
      exact st_return rfl dX3_emit_37 w
set_option maxRecDepth 20000 in
set_option maxHeartbeats 2000000 in
theorem sX3_emitPair_0 {d : Nat} {h : am_H} {Z : Int32 → am_H → Prop} {a0 : Nat} (hb0 : am_la a0) {x1 : Int32} {x2 : Int32} (w : am_cl mX3_emit d [.ref a0, .int x1] h (fun r1 h2 => am_cl mX3_emit d [.ref a0, .int x2] h2 (fun r3 h4 => Z 0 h4))) : Ru mX3_emitPair none d 0 [.ref a0, .int x1, .int x2] [] h Z := by
  refine st_aload_n dX3_emitPair_0 rfl ?_
  refine st_iload_n dX3_emitPair_1 rfl ?_
  refine st_callV (M' := mX3_emit) [.int x1] [] dX3_emitPair_2 ml_X3_40 mf_X3_emit mv_X3_emit (la_0 hb0) rfl rfl rfl w (fun r1 h2 w => ?_)
  show Ru mX3_emitPair none d 5 [.ref a0, .int x1, .int x2] [] h2 Z
  refine st_aload_n dX3_emitPair_5 rfl ?_
  refine st_iload_n dX3_emitPair_6 rfl ?_
  refine st_callV (M' := mX3_emit) [.int x2] [] dX3_emitPair_7 ml_X3_40 mf_X3_emit mv_X3_emit (la_0 hb0) rfl rfl rfl w (fun r3 h4 w => ?_)
  show Ru mX3_emitPair none d 10 [.ref a0, .int x1, .int x2] [] h4 Z
  exact st_return rfl dX3_emitPair_10 w
set_option maxRecDepth 20000 in
set_option maxHeartbeats 2000000 in
theorem sX4_opens_0 {d : Nat} {h : am_H} {Z : Int32 → am_H → Prop} {x1 : Int32} (hd : 3 ≤ d) (w : (x1 < 6 → Z 1 (am_sI h 3 2 (h.1 3 2 + 1))) ∧ (¬ (x1 < 6) → Z 0 (am_fal h (5 : Int32) (h.1 3 2)))) : Ru mX4_opens none d 0 [.ref 72, .int x1] [] h Z := by
  refine st_iload_n dX4_opens_0 rfl ?_
  refine st_bipush (v := 6) dX4_opens_1 (by decide) ?_
  refine st_icmp_lt (tgt := 16) dX4_opens_3 (by decide) (fun c => ?_) (fun c => ?_)
  · replace w := w.1 c
    refine st_aload_n dX4_opens_16 rfl ?_
    refine st_getF (q := 3) fl_X4_9 fk_4_0 rfl dX4_opens_17 sh_72 ?_
    refine st_callV (M' := mX7_next) [] [] dX4_opens_20 ml_X4_51 mf_X7_next mv_X7_next sh_3 rfl rfl rfl (K := fun r h' => 0 = r ∧ am_sI h 3 2 (h.1 3 2 + 1) = h') ⟨1, by omega, iX7_next ⟨rfl, rfl⟩⟩ (fun r1 h1 w1 => ?_)
    obtain ⟨rfl, rfl⟩ := w1
    show Ru mX4_opens none d 23 [.ref 72, .int x1] [] (am_sI h 3 2 (h.1 3 2 + 1)) Z
    refine st_iconst (v := 1) dX4_opens_23 (by decide) ?_
    exact st_ireturn rfl rfl dX4_opens_24 w
  · replace w := w.2 c
    refine st_aload_n dX4_opens_6 rfl ?_
    refine st_getF (q := 3) fl_X4_9 fk_4_0 rfl dX4_opens_7 sh_72 ?_
    refine st_iconst (v := 5) dX4_opens_10 (by decide) ?_
    refine st_callV (M' := mX7_failHere) [.int 5] [] dX4_opens_11 ml_X4_48 mf_X7_failHere mv_X7_failHere sh_3 rfl rfl rfl (K := fun r h' => 0 = r ∧ am_fal h (5 : Int32) (h.1 3 2) = h') ⟨2, by omega, iX7_failHere (by omega) ⟨rfl, rfl⟩⟩ (fun r1 h1 w1 => ?_)
    obtain ⟨rfl, rfl⟩ := w1
    show Ru mX4_opens none d 14 [.ref 72, .int x1] [] (am_fal h (5 : Int32) (h.1 3 2)) Z
    refine st_iconst (v := 0) dX4_opens_14 (by decide) ?_
    exact st_ireturn rfl rfl dX4_opens_15 w
set_option maxRecDepth 20000 in
set_option maxHeartbeats 2000000 in
theorem sX4_readNumber_0 {d : Nat} {h : am_H} {Z : Int32 → am_H → Prop}  (w : Ru mX4_readNumber none d 4 [.ref 72, .int 0, .int 0] [] h Z) : Ru mX4_readNumber none d 0 [.ref 72, .null, .null] [] h Z := by
  refine st_iconst (v := 0) dX4_readNumber_0 (by decide) ?_
  refine st_istore_n (L' := [.ref 72, .int 0, .null]) dX4_readNumber_1 (by decide) rfl ?_
  refine st_iconst (v := 0) dX4_readNumber_2 (by decide) ?_
  refine st_istore_n (L' := [.ref 72, .int 0, .int 0]) dX4_readNumber_3 (by decide) rfl ?_
  exact w
set_option maxRecDepth 20000 in
set_option maxHeartbeats 2000000 in
theorem sX4_readNumber_4 {d : Nat} {h : am_H} {Z : Int32 → am_H → Prop} {x1 : Int32} {x2 : Int32} (hd : 3 ≤ d) (w : (5 ≤ x2 → Ru mX4_readNumber none d 51 [.ref 72, .int x1, .int x2] [] h Z) ∧ (¬ (5 ≤ x2) → (¬ (48 ≤ (am_pk h) ∧ (am_pk h) ≤ 57) → Ru mX4_readNumber none d 51 [.ref 72, .int x1, .int x2] [] h Z) ∧ (48 ≤ (am_pk h) ∧ (am_pk h) ≤ 57 → Ru mX4_readNumber none d 4 [.ref 72, .int (((10 * x1) + (am_pk h)) - 48), .int (x2 + 1)] [] (am_sI h 3 2 (h.1 3 2 + 1)) Z))) : Ru mX4_readNumber none d 4 [.ref 72, .int x1, .int x2] [] h Z := by
  refine st_iload_n dX4_readNumber_4 rfl ?_
  refine st_iconst (v := 5) dX4_readNumber_5 (by decide) ?_
  refine st_icmp_ge (tgt := 51) dX4_readNumber_6 (by decide) (fun c => ?_) (fun c => ?_)
  · replace w := w.1 c
    exact w
  · replace w := w.2 c
    refine st_aload_n dX4_readNumber_9 rfl ?_
    refine st_getF (q := 3) fl_X4_9 fk_4_0 rfl dX4_readNumber_10 sh_72 ?_
    refine st_callV (M' := mX7_peek) [] [] dX4_readNumber_13 ml_X4_37 mf_X7_peek mv_X7_peek sh_3 rfl rfl rfl (K := fun r h' => (am_pk h) = r ∧ h = h') ⟨2, by omega, iX7_peek (by omega) ⟨rfl, rfl⟩⟩ (fun r1 h1 w1 => ?_)
    obtain ⟨rfl, rfl⟩ := w1
    show Ru mX4_readNumber none d 16 [.ref 72, .int x1, .int x2] [.int (am_pk h)] h Z
    refine st_callS (M' := mX7_isDigit) [.int (am_pk h)] [] dX4_readNumber_16 ml_X4_106 mf_X7_isDigit ms_X7_isDigit rfl rfl rfl (K := fun r h' => (am_b (48 ≤ (am_pk h) ∧ (am_pk h) ≤ 57)) = r ∧ h = h') ⟨1, by omega, iX7_isDigit ⟨rfl, rfl⟩⟩ (fun r1 h1 w1 => ?_)
    obtain ⟨rfl, rfl⟩ := w1
    show Ru mX4_readNumber none d 19 [.ref 72, .int x1, .int x2] [.int (am_b (48 ≤ (am_pk h) ∧ (am_pk h) ≤ 57))] h Z
    refine st_ifb_eq (tgt := 51) dX4_readNumber_19 (by decide) (fun c => ?_) (fun c => ?_)
    · replace w := w.1 c
      exact w
    · replace w := w.2 c
      refine st_bipush (v := 10) dX4_readNumber_22 (by decide) ?_
      refine st_iload_n dX4_readNumber_24 rfl ?_
      refine st_imul dX4_readNumber_25 ?_
      refine st_aload_n dX4_readNumber_26 rfl ?_
      refine st_getF (q := 3) fl_X4_9 fk_4_0 rfl dX4_readNumber_27 sh_72 ?_
      refine st_callV (M' := mX7_peek) [] [.int (10 * x1)] dX4_readNumber_30 ml_X4_37 mf_X7_peek mv_X7_peek sh_3 rfl rfl rfl (K := fun r h' => (am_pk h) = r ∧ h = h') ⟨2, by omega, iX7_peek (by omega) ⟨rfl, rfl⟩⟩ (fun r1 h1 w1 => ?_)
      obtain ⟨rfl, rfl⟩ := w1
      show Ru mX4_readNumber none d 33 [.ref 72, .int x1, .int x2] [.int (am_pk h), .int (10 * x1)] h Z
      refine st_iadd dX4_readNumber_33 ?_
      refine st_bipush (v := 48) dX4_readNumber_34 (by decide) ?_
      refine st_isub dX4_readNumber_36 ?_
      refine st_istore_n (L' := [.ref 72, .int (((10 * x1) + (am_pk h)) - 48), .int x2]) dX4_readNumber_37 (by decide) rfl ?_
      refine st_aload_n dX4_readNumber_38 rfl ?_
      refine st_getF (q := 3) fl_X4_9 fk_4_0 rfl dX4_readNumber_39 sh_72 ?_
      refine st_callV (M' := mX7_next) [] [] dX4_readNumber_42 ml_X4_51 mf_X7_next mv_X7_next sh_3 rfl rfl rfl (K := fun r h' => 0 = r ∧ am_sI h 3 2 (h.1 3 2 + 1) = h') ⟨1, by omega, iX7_next ⟨rfl, rfl⟩⟩ (fun r1 h1 w1 => ?_)
      obtain ⟨rfl, rfl⟩ := w1
      show Ru mX4_readNumber none d 45 [.ref 72, .int (((10 * x1) + (am_pk h)) - 48), .int x2] [] (am_sI h 3 2 (h.1 3 2 + 1)) Z
      refine st_iinc (L' := [.ref 72, .int (((10 * x1) + (am_pk h)) - 48), .int (x2 + 1)]) dX4_readNumber_45 rfl rfl (by decide) rfl ?_
      refine st_goto (tgt := 4) dX4_readNumber_48 (by decide) ?_
      exact w
set_option maxRecDepth 20000 in
set_option maxHeartbeats 2000000 in
theorem sX4_readNumber_51 {d : Nat} {h : am_H} {Z : Int32 → am_H → Prop} {x1 : Int32} {u2 : Value} (hd : 3 ≤ d) (w : (¬ (48 ≤ (am_pk h) ∧ (am_pk h) ≤ 57) → (am_la (h.2.1 72 1) ∧ (am_cl mX3_emitPair d [.ref (h.2.1 72 1), .int 1, .int x1] h (fun r2 h3 => Z 0 h3)))) ∧ (48 ≤ (am_pk h) ∧ (am_pk h) ≤ 57 → (am_la ((am_fal h (2 : Int32) (h.1 3 2)).2.1 72 1) ∧ (am_cl mX3_emitPair d [.ref ((am_fal h (2 : Int32) (h.1 3 2)).2.1 72 1), .int 1, .int x1] (am_fal h (2 : Int32) (h.1 3 2)) (fun r5 h6 => Z 0 h6))))) : Ru mX4_readNumber none d 51 [.ref 72, .int x1, u2] [] h Z := by
  refine st_aload_n dX4_readNumber_51 rfl ?_
  refine st_getF (q := 3) fl_X4_9 fk_4_0 rfl dX4_readNumber_52 sh_72 ?_
  refine st_callV (M' := mX7_peek) [] [] dX4_readNumber_55 ml_X4_37 mf_X7_peek mv_X7_peek sh_3 rfl rfl rfl (K := fun r h' => (am_pk h) = r ∧ h = h') ⟨2, by omega, iX7_peek (by omega) ⟨rfl, rfl⟩⟩ (fun r1 h1 w1 => ?_)
  obtain ⟨rfl, rfl⟩ := w1
  show Ru mX4_readNumber none d 58 [.ref 72, .int x1, u2] [.int (am_pk h)] h Z
  refine st_callS (M' := mX7_isDigit) [.int (am_pk h)] [] dX4_readNumber_58 ml_X4_106 mf_X7_isDigit ms_X7_isDigit rfl rfl rfl (K := fun r h' => (am_b (48 ≤ (am_pk h) ∧ (am_pk h) ≤ 57)) = r ∧ h = h') ⟨1, by omega, iX7_isDigit ⟨rfl, rfl⟩⟩ (fun r1 h1 w1 => ?_)
  obtain ⟨rfl, rfl⟩ := w1
  show Ru mX4_readNumber none d 61 [.ref 72, .int x1, u2] [.int (am_b (48 ≤ (am_pk h) ∧ (am_pk h) ≤ 57))] h Z
  refine st_ifb_eq (tgt := 72) dX4_readNumber_61 (by decide) (fun c => ?_) (fun c => ?_)
  · replace w := w.1 c
    refine st_aload_n dX4_readNumber_72 rfl ?_
    refine st_getP fl_X4_15 fk_4_1 dX4_readNumber_73 sh_72 ?_
    have hc1 := w.1
    replace w := w.2
    refine st_iconst (v := 1) dX4_readNumber_76 (by decide) ?_
    refine st_iload_n dX4_readNumber_77 rfl ?_
    refine st_callV (M' := mX3_emitPair) [.int 1, .int x1] [] dX4_readNumber_78 ml_X4_57 mf_X3_emitPair mv_X3_emitPair (la_0 hc1) rfl rfl rfl w (fun r2 h3 w => ?_)
    show Ru mX4_readNumber none d 81 [.ref 72, .int x1, u2] [] h3 Z
    exact st_return rfl dX4_readNumber_81 w
  · replace w := w.2 c
    refine st_aload_n dX4_readNumber_64 rfl ?_
    refine st_getF (q := 3) fl_X4_9 fk_4_0 rfl dX4_readNumber_65 sh_72 ?_
    refine st_iconst (v := 2) dX4_readNumber_68 (by decide) ?_
    refine st_callV (M' := mX7_failHere) [.int 2] [] dX4_readNumber_69 ml_X4_48 mf_X7_failHere mv_X7_failHere sh_3 rfl rfl rfl (K := fun r h' => 0 = r ∧ am_fal h (2 : Int32) (h.1 3 2) = h') ⟨2, by omega, iX7_failHere (by omega) ⟨rfl, rfl⟩⟩ (fun r1 h1 w1 => ?_)
    obtain ⟨rfl, rfl⟩ := w1
    show Ru mX4_readNumber none d 72 [.ref 72, .int x1, u2] [] (am_fal h (2 : Int32) (h.1 3 2)) Z
    refine st_aload_n dX4_readNumber_72 rfl ?_
    refine st_getP fl_X4_15 fk_4_1 dX4_readNumber_73 sh_72 ?_
    have hc4 := w.1
    replace w := w.2
    refine st_iconst (v := 1) dX4_readNumber_76 (by decide) ?_
    refine st_iload_n dX4_readNumber_77 rfl ?_
    refine st_callV (M' := mX3_emitPair) [.int 1, .int x1] [] dX4_readNumber_78 ml_X4_57 mf_X3_emitPair mv_X3_emitPair (la_0 hc4) rfl rfl rfl w (fun r5 h6 w => ?_)
    show Ru mX4_readNumber none d 81 [.ref 72, .int x1, u2] [] h6 Z
    exact st_return rfl dX4_readNumber_81 w
set_option maxRecDepth 20000 in
set_option maxHeartbeats 2000000 in
theorem sX4_readFact_0 {d : Nat} {h : am_H} {Z : Int32 → am_H → Prop} {x1 : Int32} (w : (0 ≤ x1 → am_cl mJ0_indexOf_0f7a4 d [.retAddr 1, .int ((x1.toUInt32 % 65536).toInt32)] h (fun r1 h2 => Ru mX4_readFact none d 15 [.ref 72, .int x1, .null] [.int r1] h2 Z)) ∧ (¬ (0 ≤ x1) → Ru mX4_readFact none d 15 [.ref 72, .int x1, .null] [.int (-1)] h Z)) : Ru mX4_readFact none d 0 [.ref 72, .int x1, .null] [] h Z := by
  refine st_iload_n dX4_readFact_0 rfl ?_
  refine st_if_ge (tgt := 8) dX4_readFact_1 (by decide) (fun c => ?_) (fun c => ?_)
  · replace w := w.1 c
    refine st_ldcS rfl dX4_readFact_8 ?_
    refine st_iload_n dX4_readFact_10 rfl ?_
    refine st_i2c dX4_readFact_11 ?_
    refine st_callX (M' := mJ0_indexOf_0f7a4) [.int ((x1.toUInt32 % 65536).toInt32)] [] dX4_readFact_12 ml_X4_117 mf_J0_indexOf_0f7a4 mx_J0_indexOf_0f7a4 rfl rfl rfl w (fun r1 h2 w => ?_)
    show Ru mX4_readFact none d 15 [.ref 72, .int x1, .null] [.int r1] h2 Z
    exact w
  · replace w := w.2 c
    refine st_iconst (v := (-1)) dX4_readFact_4 (by decide) ?_
    refine st_goto (tgt := 15) dX4_readFact_5 (by decide) ?_
    exact w
set_option maxRecDepth 20000 in
set_option maxHeartbeats 2000000 in
theorem sX4_readFact_15 {d : Nat} {h : am_H} {Z : Int32 → am_H → Prop} {u1 : Value} {u2 : Value} {s0 : Int32} (hd : 3 ≤ d) (w : (0 ≤ s0 → (am_la ((am_sI h 3 2 (h.1 3 2 + 1)).2.1 72 1) ∧ (am_cl mX3_emitPair d [.ref ((am_sI h 3 2 (h.1 3 2 + 1)).2.1 72 1), .int 2, .int s0] (am_sI h 3 2 (h.1 3 2 + 1)) (fun r2 h3 => Z 0 h3)))) ∧ (¬ (0 ≤ s0) → Z 0 (am_fal h (1 : Int32) (h.1 3 2)))) : Ru mX4_readFact none d 15 [.ref 72, u1, u2] [.int s0] h Z := by
  refine st_istore_n (L' := [.ref 72, u1, .int s0]) dX4_readFact_15 (by decide) rfl ?_
  refine st_iload_n dX4_readFact_16 rfl ?_
  refine st_if_ge (tgt := 29) dX4_readFact_17 (by decide) (fun c => ?_) (fun c => ?_)
  · replace w := w.1 c
    refine st_aload_n dX4_readFact_29 rfl ?_
    refine st_getF (q := 3) fl_X4_9 fk_4_0 rfl dX4_readFact_30 sh_72 ?_
    refine st_callV (M' := mX7_next) [] [] dX4_readFact_33 ml_X4_51 mf_X7_next mv_X7_next sh_3 rfl rfl rfl (K := fun r h' => 0 = r ∧ am_sI h 3 2 (h.1 3 2 + 1) = h') ⟨1, by omega, iX7_next ⟨rfl, rfl⟩⟩ (fun r1 h1 w1 => ?_)
    obtain ⟨rfl, rfl⟩ := w1
    show Ru mX4_readFact none d 36 [.ref 72, u1, .int s0] [] (am_sI h 3 2 (h.1 3 2 + 1)) Z
    refine st_aload_n dX4_readFact_36 rfl ?_
    refine st_getP fl_X4_15 fk_4_1 dX4_readFact_37 sh_72 ?_
    have hc1 := w.1
    replace w := w.2
    refine st_iconst (v := 2) dX4_readFact_40 (by decide) ?_
    refine st_iload_n dX4_readFact_41 rfl ?_
    refine st_callV (M' := mX3_emitPair) [.int 2, .int s0] [] dX4_readFact_42 ml_X4_57 mf_X3_emitPair mv_X3_emitPair (la_0 hc1) rfl rfl rfl w (fun r2 h3 w => ?_)
    show Ru mX4_readFact none d 45 [.ref 72, u1, .int s0] [] h3 Z
    exact st_return rfl dX4_readFact_45 w
  · replace w := w.2 c
    refine st_aload_n dX4_readFact_20 rfl ?_
    refine st_getF (q := 3) fl_X4_9 fk_4_0 rfl dX4_readFact_21 sh_72 ?_
    refine st_iconst (v := 1) dX4_readFact_24 (by decide) ?_
    refine st_callV (M' := mX7_failHere) [.int 1] [] dX4_readFact_25 ml_X4_48 mf_X7_failHere mv_X7_failHere sh_3 rfl rfl rfl (K := fun r h' => 0 = r ∧ am_fal h (1 : Int32) (h.1 3 2) = h') ⟨2, by omega, iX7_failHere (by omega) ⟨rfl, rfl⟩⟩ (fun r1 h1 w1 => ?_)
    obtain ⟨rfl, rfl⟩ := w1
    show Ru mX4_readFact none d 28 [.ref 72, u1, .int s0] [] (am_fal h (1 : Int32) (h.1 3 2)) Z
    exact st_return rfl dX4_readFact_28 w
set_option maxRecDepth 20000 in
set_option maxHeartbeats 2000000 in
theorem sX4_readFactor_0 {d : Nat} {h : am_H} {Z : Int32 → am_H → Prop} {x1 : Int32} (hd : 4 ≤ d) (w : (¬ (am_pk h) = 91 → (¬ (48 ≤ (am_pk h) ∧ (am_pk h) ≤ 57) → am_cl mX4_readFact d [.ref 72, .int (am_pk h)] h (fun r1 h2 => Z 0 h2)) ∧ (48 ≤ (am_pk h) ∧ (am_pk h) ≤ 57 → am_cl mX4_readNumber d [.ref 72] h (fun r3 h4 => Z 0 h4))) ∧ ((am_pk h) = 91 → am_cl mX4_opens d [.ref 72, .int x1] h (fun r5 h6 => (r5 = 0 → Z 0 h6) ∧ (¬ (r5 = 0) → am_cl mX4_readSum d [.ref 72, .int (x1 + 1)] h6 (fun r7 h8 => Z 0 (am_exp h8 (93 : Int32))))))) : Ru mX4_readFactor none d 0 [.ref 72, .int x1, .null] [] h Z := by
  refine st_aload_n dX4_readFactor_0 rfl ?_
  refine st_getF (q := 3) fl_X4_9 fk_4_0 rfl dX4_readFactor_1 sh_72 ?_
  refine st_callV (M' := mX7_peek) [] [] dX4_readFactor_4 ml_X4_37 mf_X7_peek mv_X7_peek sh_3 rfl rfl rfl (K := fun r h' => (am_pk h) = r ∧ h = h') ⟨2, by omega, iX7_peek (by omega) ⟨rfl, rfl⟩⟩ (fun r1 h1 w1 => ?_)
  obtain ⟨rfl, rfl⟩ := w1
  show Ru mX4_readFactor none d 7 [.ref 72, .int x1, .null] [.int (am_pk h)] h Z
  refine st_istore_n (L' := [.ref 72, .int x1, .int (am_pk h)]) dX4_readFactor_7 (by decide) rfl ?_
  refine st_iload_n dX4_readFactor_8 rfl ?_
  refine st_bipush (v := 91) dX4_readFactor_9 (by decide) ?_
  refine st_icmp_ne (tgt := 41) dX4_readFactor_11 (by decide) (fun c => ?_) (fun c => ?_)
  · replace w := w.1 c
    refine st_iload_n dX4_readFactor_41 rfl ?_
    refine st_callS (M' := mX7_isDigit) [.int (am_pk h)] [] dX4_readFactor_42 ml_X4_106 mf_X7_isDigit ms_X7_isDigit rfl rfl rfl (K := fun r h' => (am_b (48 ≤ (am_pk h) ∧ (am_pk h) ≤ 57)) = r ∧ h = h') ⟨1, by omega, iX7_isDigit ⟨rfl, rfl⟩⟩ (fun r1 h1 w1 => ?_)
    obtain ⟨rfl, rfl⟩ := w1
    show Ru mX4_readFactor none d 45 [.ref 72, .int x1, .int (am_pk h)] [.int (am_b (48 ≤ (am_pk h) ∧ (am_pk h) ≤ 57))] h Z
    refine st_ifb_eq (tgt := 55) dX4_readFactor_45 (by decide) (fun c => ?_) (fun c => ?_)
    · replace w := w.1 c
      refine st_aload_n dX4_readFactor_55 rfl ?_
      refine st_iload_n dX4_readFactor_56 rfl ?_
      refine st_callV (M' := mX4_readFact) [.int (am_pk h)] [] dX4_readFactor_57 ml_X4_112 mf_X4_readFact mv_X4_readFact sh_72 rfl rfl rfl w (fun r1 h2 w => ?_)
      show Ru mX4_readFactor none d 60 [.ref 72, .int x1, .int (am_pk h)] [] h2 Z
      exact st_return rfl dX4_readFactor_60 w
    · replace w := w.2 c
      refine st_aload_n dX4_readFactor_48 rfl ?_
      refine st_callV (M' := mX4_readNumber) [] [] dX4_readFactor_49 ml_X4_109 mf_X4_readNumber mv_X4_readNumber sh_72 rfl rfl rfl w (fun r3 h4 w => ?_)
      show Ru mX4_readFactor none d 52 [.ref 72, .int x1, .int (am_pk h)] [] h4 Z
      refine st_goto (tgt := 60) dX4_readFactor_52 (by decide) ?_
      exact st_return rfl dX4_readFactor_60 w
  · replace w := w.2 c
    refine st_aload_n dX4_readFactor_14 rfl ?_
    refine st_iload_n dX4_readFactor_15 rfl ?_
    refine st_callV (M' := mX4_opens) [.int x1] [] dX4_readFactor_16 ml_X4_84 mf_X4_opens mv_X4_opens sh_72 rfl rfl rfl w (fun r5 h6 w => ?_)
    show Ru mX4_readFactor none d 19 [.ref 72, .int x1, .int (am_pk h)] [.int r5] h6 Z
    refine st_if_eq (tgt := 60) dX4_readFactor_19 (by decide) (fun c => ?_) (fun c => ?_)
    · replace w := w.1 c
      exact st_return rfl dX4_readFactor_60 w
    · replace w := w.2 c
      refine st_aload_n dX4_readFactor_22 rfl ?_
      refine st_iload_n dX4_readFactor_23 rfl ?_
      refine st_iconst (v := 1) dX4_readFactor_24 (by decide) ?_
      refine st_iadd dX4_readFactor_25 ?_
      refine st_callV (M' := mX4_readSum) [.int (x1 + 1)] [] dX4_readFactor_26 ml_X4_61 mf_X4_readSum mv_X4_readSum sh_72 rfl rfl rfl w (fun r7 h8 w => ?_)
      show Ru mX4_readFactor none d 29 [.ref 72, .int x1, .int (am_pk h)] [] h8 Z
      refine st_aload_n dX4_readFactor_29 rfl ?_
      refine st_getF (q := 3) fl_X4_9 fk_4_0 rfl dX4_readFactor_30 sh_72 ?_
      refine st_bipush (v := 93) dX4_readFactor_33 (by decide) ?_
      refine st_callV (M' := mX7_expect) [.int 93] [] dX4_readFactor_35 ml_X4_41 mf_X7_expect mv_X7_expect sh_3 rfl rfl rfl (K := fun r h' => 0 = r ∧ am_exp h8 (93 : Int32) = h') ⟨3, by omega, iX7_expect (by omega) ⟨rfl, rfl⟩⟩ (fun r1 h1 w1 => ?_)
      obtain ⟨rfl, rfl⟩ := w1
      show Ru mX4_readFactor none d 38 [.ref 72, .int x1, .int (am_pk h)] [] (am_exp h8 (93 : Int32)) Z
      refine st_goto (tgt := 60) dX4_readFactor_38 (by decide) ?_
      exact st_return rfl dX4_readFactor_60 w
set_option maxRecDepth 20000 in
set_option maxHeartbeats 2000000 in
theorem sX4_readTerm_0 {d : Nat} {h : am_H} {Z : Int32 → am_H → Prop} {x1 : Int32} (w : am_cl mX4_readFactor d [.ref 72, .int x1] h (fun r1 h2 => Ru mX4_readTerm none d 7 [.ref 72, .int x1, .int 0, .null] [] h2 Z)) : Ru mX4_readTerm none d 0 [.ref 72, .int x1, .null, .null] [] h Z := by
  refine st_aload_n dX4_readTerm_0 rfl ?_
  refine st_iload_n dX4_readTerm_1 rfl ?_
  refine st_callV (M' := mX4_readFactor) [.int x1] [] dX4_readTerm_2 ml_X4_100 mf_X4_readFactor mv_X4_readFactor sh_72 rfl rfl rfl w (fun r1 h2 w => ?_)
  show Ru mX4_readTerm none d 5 [.ref 72, .int x1, .null, .null] [] h2 Z
  refine st_iconst (v := 0) dX4_readTerm_5 (by decide) ?_
  refine st_istore_n (L' := [.ref 72, .int x1, .int 0, .null]) dX4_readTerm_6 (by decide) rfl ?_
  exact w
set_option maxRecDepth 20000 in
set_option maxHeartbeats 2000000 in
theorem sX4_readTerm_7 {d : Nat} {h : am_H} {Z : Int32 → am_H → Prop} {x1 : Int32} {x2 : Int32} {u3 : Value} (hd : 3 ≤ d) (w : (240 ≤ x2 → Z 0 h) ∧ (¬ (240 ≤ x2) → (¬ ((am_pk h) = 42 ∨ (am_pk h) = 47 ∨ (am_pk h) = 37) → Z 0 h) ∧ ((am_pk h) = 42 ∨ (am_pk h) = 47 ∨ (am_pk h) = 37 → am_cl mX4_readFactor d [.ref 72, .int x1] (am_sI h 3 2 (h.1 3 2 + 1)) (fun r1 h2 => (am_la (h2.2.1 72 1) ∧ (am_cl mX3_emit d [.ref (h2.2.1 72 1), .int (am_pk h)] h2 (fun r4 h5 => Ru mX4_readTerm none d 7 [.ref 72, .int x1, .int (x2 + 1), .int (am_pk h)] [] h5 Z))))))) : Ru mX4_readTerm none d 7 [.ref 72, .int x1, .int x2, u3] [] h Z := by
  refine st_iload_n dX4_readTerm_7 rfl ?_
  refine st_sipush (v := 240) dX4_readTerm_8 (by decide) ?_
  refine st_icmp_ge (tgt := 61) dX4_readTerm_11 (by decide) (fun c => ?_) (fun c => ?_)
  · replace w := w.1 c
    exact st_return rfl dX4_readTerm_61 w
  · replace w := w.2 c
    refine st_aload_n dX4_readTerm_14 rfl ?_
    refine st_getF (q := 3) fl_X4_9 fk_4_0 rfl dX4_readTerm_15 sh_72 ?_
    refine st_callV (M' := mX7_peek) [] [] dX4_readTerm_18 ml_X4_37 mf_X7_peek mv_X7_peek sh_3 rfl rfl rfl (K := fun r h' => (am_pk h) = r ∧ h = h') ⟨2, by omega, iX7_peek (by omega) ⟨rfl, rfl⟩⟩ (fun r1 h1 w1 => ?_)
    obtain ⟨rfl, rfl⟩ := w1
    show Ru mX4_readTerm none d 21 [.ref 72, .int x1, .int x2, u3] [.int (am_pk h)] h Z
    refine st_callS (M' := mX4_isTermSign) [.int (am_pk h)] [] dX4_readTerm_21 ml_X4_103 mf_X4_isTermSign ms_X4_isTermSign rfl rfl rfl (K := fun r h' => (am_b ((am_pk h) = 42 ∨ (am_pk h) = 47 ∨ (am_pk h) = 37)) = r ∧ h = h') ⟨1, by omega, iX4_isTermSign ⟨rfl, rfl⟩⟩ (fun r1 h1 w1 => ?_)
    obtain ⟨rfl, rfl⟩ := w1
    show Ru mX4_readTerm none d 24 [.ref 72, .int x1, .int x2, u3] [.int (am_b ((am_pk h) = 42 ∨ (am_pk h) = 47 ∨ (am_pk h) = 37))] h Z
    refine st_ifb_eq (tgt := 61) dX4_readTerm_24 (by decide) (fun c => ?_) (fun c => ?_)
    · replace w := w.1 c
      exact st_return rfl dX4_readTerm_61 w
    · replace w := w.2 c
      refine st_aload_n dX4_readTerm_27 rfl ?_
      refine st_getF (q := 3) fl_X4_9 fk_4_0 rfl dX4_readTerm_28 sh_72 ?_
      refine st_callV (M' := mX7_peek) [] [] dX4_readTerm_31 ml_X4_37 mf_X7_peek mv_X7_peek sh_3 rfl rfl rfl (K := fun r h' => (am_pk h) = r ∧ h = h') ⟨2, by omega, iX7_peek (by omega) ⟨rfl, rfl⟩⟩ (fun r1 h1 w1 => ?_)
      obtain ⟨rfl, rfl⟩ := w1
      show Ru mX4_readTerm none d 34 [.ref 72, .int x1, .int x2, u3] [.int (am_pk h)] h Z
      refine st_istore_n (L' := [.ref 72, .int x1, .int x2, .int (am_pk h)]) dX4_readTerm_34 (by decide) rfl ?_
      refine st_aload_n dX4_readTerm_35 rfl ?_
      refine st_getF (q := 3) fl_X4_9 fk_4_0 rfl dX4_readTerm_36 sh_72 ?_
      refine st_callV (M' := mX7_next) [] [] dX4_readTerm_39 ml_X4_51 mf_X7_next mv_X7_next sh_3 rfl rfl rfl (K := fun r h' => 0 = r ∧ am_sI h 3 2 (h.1 3 2 + 1) = h') ⟨1, by omega, iX7_next ⟨rfl, rfl⟩⟩ (fun r1 h1 w1 => ?_)
      obtain ⟨rfl, rfl⟩ := w1
      show Ru mX4_readTerm none d 42 [.ref 72, .int x1, .int x2, .int (am_pk h)] [] (am_sI h 3 2 (h.1 3 2 + 1)) Z
      refine st_aload_n dX4_readTerm_42 rfl ?_
      refine st_iload_n dX4_readTerm_43 rfl ?_
      refine st_callV (M' := mX4_readFactor) [.int x1] [] dX4_readTerm_44 ml_X4_100 mf_X4_readFactor mv_X4_readFactor sh_72 rfl rfl rfl w (fun r1 h2 w => ?_)
      show Ru mX4_readTerm none d 47 [.ref 72, .int x1, .int x2, .int (am_pk h)] [] h2 Z
      refine st_aload_n dX4_readTerm_47 rfl ?_
      refine st_getP fl_X4_15 fk_4_1 dX4_readTerm_48 sh_72 ?_
      have hc3 := w.1
      replace w := w.2
      refine st_iload_n dX4_readTerm_51 rfl ?_
      refine st_callV (M' := mX3_emit) [.int (am_pk h)] [] dX4_readTerm_52 ml_X4_88 mf_X3_emit mv_X3_emit (la_0 hc3) rfl rfl rfl w (fun r4 h5 w => ?_)
      show Ru mX4_readTerm none d 55 [.ref 72, .int x1, .int x2, .int (am_pk h)] [] h5 Z
      refine st_iinc (L' := [.ref 72, .int x1, .int (x2 + 1), .int (am_pk h)]) dX4_readTerm_55 rfl rfl (by decide) rfl ?_
      refine st_goto (tgt := 7) dX4_readTerm_58 (by decide) ?_
      exact w
set_option maxRecDepth 20000 in
set_option maxHeartbeats 2000000 in
theorem sX4_readSum_0 {d : Nat} {h : am_H} {Z : Int32 → am_H → Prop} {x1 : Int32} (w : am_cl mX4_readTerm d [.ref 72, .int x1] h (fun r1 h2 => Ru mX4_readSum none d 7 [.ref 72, .int x1, .int 0, .null] [] h2 Z)) : Ru mX4_readSum none d 0 [.ref 72, .int x1, .null, .null] [] h Z := by
  refine st_aload_n dX4_readSum_0 rfl ?_
  refine st_iload_n dX4_readSum_1 rfl ?_
  refine st_callV (M' := mX4_readTerm) [.int x1] [] dX4_readSum_2 ml_X4_94 mf_X4_readTerm mv_X4_readTerm sh_72 rfl rfl rfl w (fun r1 h2 w => ?_)
  show Ru mX4_readSum none d 5 [.ref 72, .int x1, .null, .null] [] h2 Z
  refine st_iconst (v := 0) dX4_readSum_5 (by decide) ?_
  refine st_istore_n (L' := [.ref 72, .int x1, .int 0, .null]) dX4_readSum_6 (by decide) rfl ?_
  exact w
set_option maxRecDepth 20000 in
set_option maxHeartbeats 2000000 in
theorem sX4_readSum_7 {d : Nat} {h : am_H} {Z : Int32 → am_H → Prop} {x1 : Int32} {x2 : Int32} {u3 : Value} (hd : 3 ≤ d) (w : (240 ≤ x2 → Z 0 h) ∧ (¬ (240 ≤ x2) → (¬ ((am_pk h) = 43 ∨ (am_pk h) = 45) → Z 0 h) ∧ ((am_pk h) = 43 ∨ (am_pk h) = 45 → am_cl mX4_readTerm d [.ref 72, .int x1] (am_sI h 3 2 (h.1 3 2 + 1)) (fun r1 h2 => (am_la (h2.2.1 72 1) ∧ (am_cl mX3_emit d [.ref (h2.2.1 72 1), .int (am_pk h)] h2 (fun r4 h5 => Ru mX4_readSum none d 7 [.ref 72, .int x1, .int (x2 + 1), .int (am_pk h)] [] h5 Z))))))) : Ru mX4_readSum none d 7 [.ref 72, .int x1, .int x2, u3] [] h Z := by
  refine st_iload_n dX4_readSum_7 rfl ?_
  refine st_sipush (v := 240) dX4_readSum_8 (by decide) ?_
  refine st_icmp_ge (tgt := 61) dX4_readSum_11 (by decide) (fun c => ?_) (fun c => ?_)
  · replace w := w.1 c
    exact st_return rfl dX4_readSum_61 w
  · replace w := w.2 c
    refine st_aload_n dX4_readSum_14 rfl ?_
    refine st_getF (q := 3) fl_X4_9 fk_4_0 rfl dX4_readSum_15 sh_72 ?_
    refine st_callV (M' := mX7_peek) [] [] dX4_readSum_18 ml_X4_37 mf_X7_peek mv_X7_peek sh_3 rfl rfl rfl (K := fun r h' => (am_pk h) = r ∧ h = h') ⟨2, by omega, iX7_peek (by omega) ⟨rfl, rfl⟩⟩ (fun r1 h1 w1 => ?_)
    obtain ⟨rfl, rfl⟩ := w1
    show Ru mX4_readSum none d 21 [.ref 72, .int x1, .int x2, u3] [.int (am_pk h)] h Z
    refine st_callS (M' := mX4_isSumSign) [.int (am_pk h)] [] dX4_readSum_21 ml_X4_97 mf_X4_isSumSign ms_X4_isSumSign rfl rfl rfl (K := fun r h' => (am_b ((am_pk h) = 43 ∨ (am_pk h) = 45)) = r ∧ h = h') ⟨1, by omega, iX4_isSumSign ⟨rfl, rfl⟩⟩ (fun r1 h1 w1 => ?_)
    obtain ⟨rfl, rfl⟩ := w1
    show Ru mX4_readSum none d 24 [.ref 72, .int x1, .int x2, u3] [.int (am_b ((am_pk h) = 43 ∨ (am_pk h) = 45))] h Z
    refine st_ifb_eq (tgt := 61) dX4_readSum_24 (by decide) (fun c => ?_) (fun c => ?_)
    · replace w := w.1 c
      exact st_return rfl dX4_readSum_61 w
    · replace w := w.2 c
      refine st_aload_n dX4_readSum_27 rfl ?_
      refine st_getF (q := 3) fl_X4_9 fk_4_0 rfl dX4_readSum_28 sh_72 ?_
      refine st_callV (M' := mX7_peek) [] [] dX4_readSum_31 ml_X4_37 mf_X7_peek mv_X7_peek sh_3 rfl rfl rfl (K := fun r h' => (am_pk h) = r ∧ h = h') ⟨2, by omega, iX7_peek (by omega) ⟨rfl, rfl⟩⟩ (fun r1 h1 w1 => ?_)
      obtain ⟨rfl, rfl⟩ := w1
      show Ru mX4_readSum none d 34 [.ref 72, .int x1, .int x2, u3] [.int (am_pk h)] h Z
      refine st_istore_n (L' := [.ref 72, .int x1, .int x2, .int (am_pk h)]) dX4_readSum_34 (by decide) rfl ?_
      refine st_aload_n dX4_readSum_35 rfl ?_
      refine st_getF (q := 3) fl_X4_9 fk_4_0 rfl dX4_readSum_36 sh_72 ?_
      refine st_callV (M' := mX7_next) [] [] dX4_readSum_39 ml_X4_51 mf_X7_next mv_X7_next sh_3 rfl rfl rfl (K := fun r h' => 0 = r ∧ am_sI h 3 2 (h.1 3 2 + 1) = h') ⟨1, by omega, iX7_next ⟨rfl, rfl⟩⟩ (fun r1 h1 w1 => ?_)
      obtain ⟨rfl, rfl⟩ := w1
      show Ru mX4_readSum none d 42 [.ref 72, .int x1, .int x2, .int (am_pk h)] [] (am_sI h 3 2 (h.1 3 2 + 1)) Z
      refine st_aload_n dX4_readSum_42 rfl ?_
      refine st_iload_n dX4_readSum_43 rfl ?_
      refine st_callV (M' := mX4_readTerm) [.int x1] [] dX4_readSum_44 ml_X4_94 mf_X4_readTerm mv_X4_readTerm sh_72 rfl rfl rfl w (fun r1 h2 w => ?_)
      show Ru mX4_readSum none d 47 [.ref 72, .int x1, .int x2, .int (am_pk h)] [] h2 Z
      refine st_aload_n dX4_readSum_47 rfl ?_
      refine st_getP fl_X4_15 fk_4_1 dX4_readSum_48 sh_72 ?_
      have hc3 := w.1
      replace w := w.2
      refine st_iload_n dX4_readSum_51 rfl ?_
      refine st_callV (M' := mX3_emit) [.int (am_pk h)] [] dX4_readSum_52 ml_X4_88 mf_X3_emit mv_X3_emit (la_0 hc3) rfl rfl rfl w (fun r4 h5 w => ?_)
      show Ru mX4_readSum none d 55 [.ref 72, .int x1, .int x2, .int (am_pk h)] [] h5 Z
      refine st_iinc (L' := [.ref 72, .int x1, .int (x2 + 1), .int (am_pk h)]) dX4_readSum_55 rfl rfl (by decide) rfl ?_
      refine st_goto (tgt := 7) dX4_readSum_58 (by decide) ?_
      exact w
/-- codes lie in the class's cells -/
def lp_enc (C : Nat → Int32) : List (Nat × Nat) → Nat → Prop
  | [], _ => True
  | o :: X, p => ((o.1 = 0 ∧ C p = 1 ∧ C (p + 1) = nI o.2) ∨ (o.1 = 1 ∧ C p = 2 ∧ C (p + 1) = nI o.2) ∨ (o.1 = 10 ∧ C p = 3) ∨ (((o.1 = 11 ∧ C p = 5) ∨ (o.1 = 12 ∧ C p = 4)) ∧ o.2 ≤ X.length ∧ C (p + 1) = nI (p + 2 + lp_cz (X.take o.2))) ∨ (2 ≤ o.1 ∧ o.1 ≤ 9 ∧ C p = q_sg o.1)) ∧ lp_enc C X (p + lp_z o.1)
theorem lp_enc_app {C : Nat → Int32} : ∀ {X Y : List (Nat × Nat)} {p : Nat}, lp_enc C X p → lp_enc C Y (p + lp_cz X) → lp_enc C (X ++ Y) p
  | [], Y, p, _, hy => hy
  | o :: X, Y, p, hx, hy => by
    refine ⟨?_, lp_enc_app hx.2 (by
      have e : p + lp_cz (o :: X) = p + lp_z o.1 + lp_cz X := by show p + (lp_z o.1 + lp_cz X) = _; omega
      rw [← e]; exact hy)⟩
    rcases hx.1 with w | w | w | ⟨w1, w2, w3⟩ | w
    · exact Or.inl w
    · exact Or.inr (Or.inl w)
    · exact Or.inr (Or.inr (Or.inl w))
    · refine Or.inr (Or.inr (Or.inr (Or.inl ⟨w1, ?_, ?_⟩)))
      · show o.2 ≤ (X ++ Y).length
        rw [List.length_append]; omega
      · show C (p + 1) = nI (p + 2 + lp_cz ((X ++ Y).take o.2))
        rw [List.take_append_of_le_length w2]; exact w3
    · exact Or.inr (Or.inr (Or.inr (Or.inr w)))
theorem lp_z_2 {o C : Nat} (h : o = 0 ∨ o = 1 ∨ o = 11 ∨ o = 12) : lp_z o = 2 := if_pos h
theorem lp_z_1 {o : Nat} (h : ¬ (o = 0 ∨ o = 1 ∨ o = 11 ∨ o = 12)) : lp_z o = 1 := if_neg h
theorem lp_enc_cg {C D : Nat → Int32} : ∀ {X : List (Nat × Nat)} {p : Nat}, (∀ j, p ≤ j → j < p + lp_cz X → D j = C j) → lp_enc C X p → lp_enc D X p
  | [], p, _, _ => trivial
  | o :: X, p, hc, hx => by
    have hc' : ∀ j, p ≤ j → j < p + (lp_z o.1 + lp_cz X) → D j = C j := hc
    refine ⟨?_, lp_enc_cg (fun j h1 h2 => hc' j (by omega) (by omega)) hx.2⟩
    rcases hx.1 with w | w | w | ⟨w1, w2, w3⟩ | w
    · have z := lp_z_2 (C := 0) (o := o.1) (by omega)
      exact Or.inl (by rw [hc' p (by omega) (by omega), hc' (p + 1) (by omega) (by omega)]; exact w)
    · have z := lp_z_2 (C := 0) (o := o.1) (by omega)
      exact Or.inr (Or.inl (by rw [hc' p (by omega) (by omega), hc' (p + 1) (by omega) (by omega)]; exact w))
    · have z := lp_z_1 (o := o.1) (by omega)
      exact Or.inr (Or.inr (Or.inl (by rw [hc' p (by omega) (by omega)]; exact w)))
    · have z := lp_z_2 (C := 0) (o := o.1) (by omega)
      exact Or.inr (Or.inr (Or.inr (Or.inl (by rw [hc' p (by omega) (by omega), hc' (p + 1) (by omega) (by omega)]; exact ⟨w1, w2, w3⟩))))
    · have z := lp_z_1 (o := o.1) (by omega)
      exact Or.inr (Or.inr (Or.inr (Or.inr (by rw [hc' p (by omega) (by omega)]; exact w))))
/-- what a reading changes -/
def lc_fr (g : Nat) (h h' : am_H) : Prop := (∀ a, a ≠ g + 5 → h'.2.2 a = h.2.2 a) ∧ (∀ a k, a ≠ 3 → ¬ (a = g ∧ k = 8) → h'.1 a k = h.1 a k) ∧ h'.2.1 = h.2.1
def lc_oc (t : Nat → Nat) (n g p : Nat) (h h' : am_H) (o : lp_O) : Prop := lc_fr g h h' ∧ ((o.1 = 0 ∧ am_ss t n o.2.1 h' ∧ h'.1 g 8 = nI (p + lp_cz o.2.2) ∧ (∀ j, j < p → h'.2.2 (g + 5) j = h.2.2 (g + 5) j) ∧ lp_enc (h'.2.2 (g + 5)) o.2.2 p) ∨ (¬ o.1 = 0 ∧ h'.1 3 3 = o.1))
theorem lc_fr_rf (g : Nat) (h : am_H) : lc_fr g h h := ⟨fun _ _ => rfl, fun _ _ _ _ => rfl, rfl⟩
theorem lc_fr_tr {g : Nat} {h h1 h2 : am_H} (p : lc_fr g h h1) (q : lc_fr g h1 h2) : lc_fr g h h2 := ⟨fun a n1 => (q.1 a n1).trans (p.1 a n1), fun a k n1 n2 => (q.2.1 a k n1 n2).trans (p.2.1 a k n1 n2), q.2.2.trans p.2.2⟩
theorem lc_fr_3 {g : Nat} {h h1 : am_H} {j : Nat} {x : Int32} (p : lc_fr g h h1) : lc_fr g h (am_sI h1 3 j x) := ⟨p.1, fun a k n1 n2 => by rw [am_gI, if_neg (fun e => n1 e.1)]; exact p.2.1 a k n1 n2, p.2.2⟩
section
variable {d n g : Nat} {h : am_H} {Z : Int32 → am_H → Prop} {t : Nat → Nat}
theorem lc_ss {k : Nat} {h' : am_H} (hg : am_la g) (f : lc_fr g h h') (e : h'.1 3 = h.1 3) (q : am_ss t n k h) : am_ss t n k h' := by
  obtain ⟨a1, a2, a3, a4, a5, a6, a7⟩ := q
  refine ⟨by rw [e]; exact a1, by rw [e]; exact a2, by rw [e]; exact a3, a4, a5, a6, fun i hi => ?_⟩
  have w := a7 i hi
  have g2 : ¬ 2 = g + 5 := by rcases hg with rfl | rfl <;> omega
  have g1 : ¬ (1 = g ∧ 1 = 8) := by omega
  unfold am_at at w ⊢
  rw [f.1 2 g2, f.2.1 1 1 (by decide) g1]; exact w
/-- a code is written -/
def lc_em (g : Nat) (x : Int32) (h h' : am_H) : Prop := lc_fr g h h' ∧ h'.1 3 = h.1 3 ∧ ∀ p, h.1 g 8 = nI p → p < 512 → h'.1 g 8 = nI (p + 1) ∧ h'.2.2 (g + 5) = upd (h.2.2 (g + 5)) p x
theorem iX3_emit {x : Int32} (hg : am_la g) (z : ∀ h', lc_em g x h h' → Z 0 h') : Sp mX3_emit d [.ref g, .int x] h Z := by
  have g3 : ¬ 3 = g := by rcases hg with rfl | rfl <;> omega
  refine Sp_of mf_X3_emit rfl (Nat.le_of_ble_eq_true rfl) rfl (sX3_emit_0 hg ⟨fun c => z h ⟨lc_fr_rf g h, rfl, fun p e hp => ?_⟩, fun c => ⟨fun c2 => z h ⟨lc_fr_rf g h, rfl, fun p e hp => ?_⟩, fun c2 => ⟨am_vin (n := 512) (by decide) c c2, fun h2 e2 h3 e3 => z h3 ?_⟩⟩⟩)
  · rw [e] at c; exact absurd c (nI_pos (by omega))
  · rw [e] at c2; exact absurd c2 (nI_ge (b := 512) hp (by omega))
  · rw [e3, e2]
    refine ⟨⟨fun a ha => by rw [am_gI2, am_gR, if_neg ha], fun a k n1 n2 => by rw [am_gI, if_neg n2]; rfl, rfl⟩, ?_, fun p e hp => ⟨?_, ?_⟩⟩
    · funext k; rw [am_gI, if_neg (fun e => g3 e.1)]; rfl
    · rw [am_gI, if_pos ⟨rfl, rfl⟩]
      show h.1 g 8 + 1 = _
      rw [e, nI_1]
    · rw [am_gI2, am_gRs, e, nI_clamp (by omega)]
def lc_e2 (g : Nat) (x y : Int32) (h h' : am_H) : Prop := lc_fr g h h' ∧ h'.1 3 = h.1 3 ∧ ∀ p, h.1 g 8 = nI p → p + 1 < 512 → h'.1 g 8 = nI (p + 2) ∧ h'.2.2 (g + 5) = upd (upd (h.2.2 (g + 5)) p x) (p + 1) y
theorem iX3_emitPair {x y : Int32} (hd : 2 ≤ d) (hg : am_la g) (z : ∀ h', lc_e2 g x y h h' → Z 0 h') : Sp mX3_emitPair d [.ref g, .int x, .int y] h Z := by
  refine Sp_of mf_X3_emitPair rfl (Nat.le_of_ble_eq_true rfl) rfl (sX3_emitPair_0 hg ⟨1, by omega, iX3_emit hg (fun h1 m1 => ⟨1, by omega, iX3_emit hg (fun h2 m2 => z h2 ⟨lc_fr_tr m1.1 m2.1, m2.2.1.trans m1.2.1, fun p e hp => ?_⟩)⟩)⟩)
  obtain ⟨a1, a2⟩ := m1.2.2 p e (by omega)
  obtain ⟨b1, b2⟩ := m2.2.2 (p + 1) a1 hp
  exact ⟨b1, by rw [b2, a2]⟩
/-- the contract of a reader -/
def lc_C (t : Nat → Nat) (n g : Nat) (M : am_M) (args : List Value) (d : Nat) (sp : Nat → lp_O) : Prop := ∀ (h : am_H) (k p : Nat) (Z : Int32 → am_H → Prop), am_ss t n k h → h.2.1 72 1 = g → h.1 g 8 = nI p → p ≤ 2 * k → (∀ h', lc_oc t n g p h h' (sp k) → Z 0 h') → Sp M d args h Z
/-- its contract where there is a fault already -/
def lc_F (M : am_M) (args : List Value) (d : Nat) : Prop := ∀ (h : am_H) (Z : Int32 → am_H → Prop), ¬ h.1 3 3 = 0 → Z 0 h → Sp M d args h Z
theorem lc_b {p : Nat} {h1 h2 : am_H} {o : lp_O} {f : Nat → lp_O} (A : lc_oc t n g p h h1 o) (e : o.1 = 0) (B : lc_oc t n g (p + lp_cz o.2.2) h1 h2 (f o.2.1)) : lc_oc t n g p h h2 (lp_b o f) := by
  refine ⟨lc_fr_tr A.1 B.1, ?_⟩
  rw [lp_b_0 e]
  rcases A.2 with ⟨_, a2, a3, a4, a5⟩ | w
  · rcases B.2 with ⟨b1, b2, b3, b4, b5⟩ | w
    · refine Or.inl ⟨b1, b2, ?_, fun j hj => (b4 j (by omega)).trans (a4 j hj), lp_enc_app (lp_enc_cg (fun j h1 h2 => b4 j h2) a5) b5⟩
      show h2.1 g 8 = nI (p + lp_cz (o.2.2 ++ (f o.2.1).2.2))
      rw [b3, lp_cz_app, Nat.add_assoc]
    · exact Or.inr w
  · exact absurd e w.1
theorem lc_bf {p : Nat} {h1 h2 : am_H} {o : lp_O} {f : Nat → lp_O} (A : lc_oc t n g p h h1 o) (e : ¬ o.1 = 0) (F : lc_fr g h1 h2) (E : h2.1 3 3 = h1.1 3 3) : lc_oc t n g p h h2 (lp_b o f) := by
  rw [lp_b_f e]
  refine ⟨lc_fr_tr A.1 F, Or.inr ?_⟩
  rcases A.2 with w | w
  · exact absurd w.1 e
  · exact ⟨e, E.trans w.2⟩
theorem lc_ft {x k p : Nat} {Y : List (Nat × Nat)} (hs : am_ss t n k h) (x1 : 1 ≤ x) (x8 : x ≤ 8) (o : lp_O) (e : o = (am_ft x k, Y.length, Y)) : lc_oc t n g p h (am_fal h (nI x) (h.1 3 2)) (am_ft x k, o.2) := by
  have e2 : h.1 3 2 = nI k := hs.2.1
  have hk : k ≤ n := hs.2.2.2.1
  have hn : n ≤ 260 := hs.2.2.2.2.1
  rw [am_ss_fal hs, e2]
  exact ⟨lc_fr_3 (lc_fr_rf g h), Or.inr ⟨(am_ft_n x1 x8 (by omega)).2, by rw [am_gI, if_pos ⟨rfl, rfl⟩]; rfl⟩⟩
theorem lc_f {x k p : Nat} (hs : am_ss t n k h) (x1 : 1 ≤ x) (x8 : x ≤ 8) (o : lp_O) (e : o.1 = am_ft x k) : lc_oc t n g p h (am_fal h (nI x) (h.1 3 2)) o := by
  have e2 : h.1 3 2 = nI k := hs.2.1
  have hk : k ≤ n := hs.2.2.2.1
  have hn : n ≤ 260 := hs.2.2.2.2.1
  rw [am_ss_fal hs, e2]
  exact ⟨lc_fr_3 (lc_fr_rf g h), Or.inr ⟨by rw [e]; exact (am_ft_n x1 x8 (by omega)).2, by rw [am_gI, if_pos ⟨rfl, rfl⟩, e]; rfl⟩⟩
/-- a byte is passed -/
theorem lc_nx {k p : Nat} (hs : am_ss t n k h) (hk : k < n) (hp : h.1 g 8 = nI p) (hg : am_la g) : lc_oc t n g p h (am_sI h 3 2 (h.1 3 2 + 1)) (0, k + 1, []) := ⟨lc_fr_3 (lc_fr_rf g h), Or.inl ⟨rfl, am_ss_nx hs hk, by rw [am_gI, if_neg (by rcases hg with rfl | rfl <;> omega)]; exact hp, fun j _ => rfl, trivial⟩⟩
/-- a code behind what was read -/
theorem lc_e {x : Int32} {op k p : Nat} {h' : am_H} (hg : am_la g) (hs : am_ss t n k h) (hp : h.1 g 8 = nI p) (pb : p < 512) (m : lc_em g x h h') (hz : lp_enc (upd (h.2.2 (g + 5)) p x) [(op, 0)] p) (z1 : lp_z op = 1) : lc_oc t n g p h h' (0, k, [(op, 0)]) := by
  obtain ⟨b1, b2⟩ := m.2.2 p hp pb
  refine ⟨m.1, Or.inl ⟨rfl, lc_ss hg m.1 m.2.1 hs, ?_, fun j hj => ?_, ?_⟩⟩
  · show h'.1 g 8 = nI (p + (lp_z op + 0))
    rw [b1, z1]
  · rw [b2]; unfold upd; rw [if_neg (by omega)]
  · show lp_enc (h'.2.2 (g + 5)) [(op, 0)] p
    rw [b2]; exact hz
theorem lc_p {x : Int32} {op v k p : Nat} {h' : am_H} (hg : am_la g) (hs : am_ss t n k h) (hp : h.1 g 8 = nI p) (pb : p + 1 < 512) (m : lc_e2 g x (nI v) h h') (hop : (op = 0 ∧ x = 1) ∨ (op = 1 ∧ x = 2)) : lc_oc t n g p h h' (0, k, [(op, v)]) := by
  obtain ⟨b1, b2⟩ := m.2.2 p hp pb
  refine ⟨m.1, Or.inl ⟨rfl, lc_ss hg m.1 m.2.1 hs, ?_, fun j hj => ?_, ?_⟩⟩
  · show h'.1 g 8 = nI (p + (lp_z op + 0))
    rw [b1, lp_z_2 (C := 0) (by omega)]
  · rw [b2]; unfold upd; rw [if_neg (by omega), if_neg (by omega)]
  · have u1 : (upd (upd (h.2.2 (g + 5)) p x) (p + 1) (nI v)) p = x := by unfold upd; rw [if_neg (by omega), if_pos rfl]
    have u2 : (upd (upd (h.2.2 (g + 5)) p x) (p + 1) (nI v)) (p + 1) = nI v := by unfold upd; rw [if_pos rfl]
    show lp_enc (h'.2.2 (g + 5)) [(op, v)] p
    rw [b2]
    refine ⟨?_, trivial⟩
    rcases hop with ⟨w1, w2⟩ | ⟨w1, w2⟩
    · exact Or.inl ⟨w1, u1.trans w2, u2⟩
    · exact Or.inr (Or.inl ⟨w1, u1.trans w2, u2⟩)
theorem lc_0 {k p : Nat} (hs : am_ss t n k h) (hp : h.1 g 8 = nI p) : lc_oc t n g p h h (0, k, []) := ⟨lc_fr_rf g h, Or.inl ⟨rfl, hs, hp, fun _ _ => rfl, trivial⟩⟩
/-- a number -/
theorem x_num (hd : 4 ≤ d) (hn : n ≤ 240) (hg : am_la g) {k0 p : Nat} (z : ∀ h', lc_oc t n g p h h' (lp_num t n k0) → Z 0 h') (hp : p + 1 < 512) : ∀ (f k v : Nat) (h1 : am_H), f ≤ 5 → lp_dd t n 5 k0 0 = lp_dd t n f k v → v < 10 ^ (5 - f) → am_ss t n k h1 → h1.2.1 72 1 = g → h1.1 g 8 = nI p → h1.2.2 = h.2.2 → lc_fr g h h1 → Ru mX4_readNumber none d 4 [.ref 72, .int (nI v), .int (nI (5 - f))] [] h1 Z := by
  have fin : ∀ (h1 : am_H) (k v : Nat) (u2 : Value), lp_dd t n 5 k0 0 = (k, v) → am_ss t n k h1 → h1.2.1 72 1 = g → h1.1 g 8 = nI p → h1.2.2 = h.2.2 → lc_fr g h h1 → Ru mX4_readNumber none d 51 [.ref 72, .int (nI v), u2] [] h1 Z := fun h1 k v u2 e hs h72 h8 eh fr => by
    have tb := hs.2.2.2.2.2.1
    have dgi : ((48 : Int32) ≤ am_rd t n k ∧ am_rd t n k ≤ 57) = cb_dg t n k := propext (am_rd_in (lo := 48) (hi := 57) (by omega) (by omega) tb)
    have en : lp_num t n k0 = if cb_dg t n k then (am_ft 2 k, k0, []) else (0, k, [(0, v)]) := by unfold lp_num; rw [e]
    refine sX4_readNumber_51 (by omega) ?_
    rw [am_ss_pk hs, dgi]
    refine ⟨fun c => ?_, fun c => ?_⟩
    · rw [h72]
      refine ⟨hg, 3, by omega, iX3_emitPair (by omega) hg (fun h3 m => z h3 ?_)⟩
      have w := lc_p (op := 0) hg hs h8 hp m (Or.inl ⟨rfl, rfl⟩)
      rw [en, if_neg c]
      refine ⟨lc_fr_tr fr w.1, ?_⟩
      rw [← eh]; exact w.2
    · have w := lc_f (g := g) (p := p) hs (x := 2) (by omega) (by omega) (lp_num t n k0) (by rw [en, if_pos c])
      have h72' : (am_fal h1 (2 : Int32) (h1.1 3 2)).2.1 72 1 = g := by rw [am_ss_fal hs]; exact h72
      rw [h72']
      refine ⟨hg, 3, by omega, iX3_emitPair (by omega) hg (fun h3 m => z h3 ⟨lc_fr_tr fr (lc_fr_tr w.1 m.1), Or.inr ?_⟩)⟩
      rcases w.2 with q | q
      · have : (lp_num t n k0).1 = am_ft 2 k := by rw [en, if_pos c]
        have hk : k ≤ n := hs.2.2.2.1
        exact absurd (this.symm.trans q.1) (am_ft_n (by omega) (by omega) (by omega)).2
      · exact ⟨q.1, by rw [m.2.1]; exact q.2⟩
  intro f
  induction f with
  | zero =>
    intro k v h1 _ e vb hs h72 h8 eh fr
    exact sX4_readNumber_4 (by omega) ⟨fun _ => fin h1 k v _ e hs h72 h8 eh fr, fun c => absurd (Int32.le_refl _) c⟩
  | succ f ih =>
    intro k v h1 hf e vb hs h72 h8 eh fr
    have tb := hs.2.2.2.2.2.1
    have dgi : ((48 : Int32) ≤ am_rd t n k ∧ am_rd t n k ≤ 57) = cb_dg t n k := propext (am_rd_in (lo := 48) (hi := 57) (by omega) (by omega) tb)
    refine sX4_readNumber_4 (by omega) ⟨fun c => absurd c (nI_ge (b := 5) (by omega) (by omega)), fun _ => ?_⟩
    rw [am_ss_pk hs, dgi]
    rw [lp_dd_s t n f k v] at e
    refine ⟨fun c => ?_, fun c => ?_⟩
    · rw [if_neg c] at e
      exact fin h1 k v _ e hs h72 h8 eh fr
    · rw [if_pos c] at e
      have c2 := c.2
      have rd : am_rd t n k = nI (t k) := if_pos c.1
      have ev : ((10 : Int32) * nI v + nI (t k)) - 48 = nI (10 * v + (t k - 48)) := by
        rw [show (10 : Int32) * nI v = nI (10 * v) from pk_mul 10 v, nI_add, show (48 : Int32) = nI 48 from rfl, am_sub_n (by omega)]
        congr 1; omega
      rw [rd, ev, nI_1, show 5 - (f + 1) + 1 = 5 - f by omega]
      refine ih (k + 1) _ _ (by omega) e ?_ (am_ss_nx hs c.1) h72 (by rw [am_gI, if_neg (by rcases hg with rfl | rfl <;> omega)]; exact h8) eh (lc_fr_3 fr)
      have : 10 ^ (5 - f) = 10 ^ (5 - (f + 1)) * 10 := by rw [← Nat.pow_succ]; congr 1; omega
      omega
theorem iX4_readNumber (hd : 4 ≤ d) (hn : n ≤ 240) (hg : am_la g) : lc_C t n g mX4_readNumber [.ref 72] d (lp_num t n) := fun h k p Z hs h72 h8 hp z => by
  have hk : k ≤ n := hs.2.2.2.1
  exact Sp_of mf_X4_readNumber rfl (Nat.le_of_ble_eq_true rfl) rfl (sX4_readNumber_0 (x_num hd hn hg z (by omega) 5 k 0 h (by omega) rfl (by omega) hs h72 h8 rfl (lc_fr_rf g h)))
/-- a fact's letter, or none -/
def lp_fa (t : Nat → Nat) (n k : Nat) : lp_O := if k < n ∧ lp_fi (t k) < 10 then (0, k + 1, [(1, lp_fi (t k))]) else (am_ft 1 k, k, [])
theorem iX4_readFact (hd : 7 ≤ d) (hn : n ≤ 240) (hg : am_la g) {k p : Nat} (hs : am_ss t n k h) (h72 : h.2.1 72 1 = g) (h8 : h.1 g 8 = nI p) (hp : p ≤ 2 * k) (z : ∀ h', lc_oc t n g p h h' (lp_fa t n k) → Z 0 h') : Sp mX4_readFact d [.ref 72, .int (am_rd t n k)] h Z := by
  have tb := hs.2.2.2.2.2.1
  have hk : k ≤ n := hs.2.2.2.1
  refine Sp_of mf_X4_readFact rfl (Nat.le_of_ble_eq_true rfl) rfl (sX4_readFact_0 ?_)
  have bad : ∀ u1 u2, ¬ (k < n ∧ lp_fi (t k) < 10) → Ru mX4_readFact none d 15 [.ref 72, u1, u2] [.int (-1)] h Z := fun u1 u2 c => by
    refine sX4_readFact_15 (by omega) ⟨fun q => absurd q (by decide), fun _ => z _ ?_⟩
    exact lc_f hs (x := 1) (by omega) (by omega) _ (by unfold lp_fa; rw [if_neg c])
  rcases Nat.lt_or_ge k n with c | c
  · have rd : am_rd t n k = nI (t k) := if_pos c
    have tk := tb k
    rw [rd]
    refine ⟨fun _ => ?_, fun q => absurd (Int32.not_lt.mp (nI_pos (by omega))) q⟩
    rw [lp_i2c (t k) tk]
    refine ⟨5, by omega, iJ0_indexOf (by omega) tk ?_⟩
    unfold lp_ix
    by_cases c2 : lp_fi (t k) < 10
    · rw [if_pos c2]
      refine sX4_readFact_15 (by omega) ⟨fun _ => ?_, fun q => absurd (Int32.not_lt.mp (nI_pos (by omega))) q⟩
      have nx := lc_nx (g := g) (p := p) hs c h8 hg
      rw [show (am_sI h 3 2 (h.1 3 2 + 1)).2.1 72 1 = g from h72]
      refine ⟨hg, 3, by omega, iX3_emitPair (by omega) hg (fun h3 m => z h3 ?_)⟩
      rcases nx.2 with ⟨_, n2, n3, _, _⟩ | w
      · have w := lc_p (op := 1) hg n2 (show _ = nI p from n3) (by omega) m (Or.inr ⟨rfl, rfl⟩)
        unfold lp_fa
        rw [if_pos ⟨c, c2⟩]
        exact ⟨lc_fr_tr nx.1 w.1, w.2⟩
      · exact absurd rfl w.1
    · rw [if_neg c2]
      exact bad _ _ (fun q => c2 q.2)
  · have rd : am_rd t n k = -1 := if_neg (by omega)
    rw [rd]
    exact ⟨fun q => absurd q (by decide), fun _ => bad _ _ (fun q => by omega)⟩
theorem fX4_readFact (hd : 4 ≤ d) (q : ¬ h.1 3 3 = 0) (z : Z 0 h) : Sp mX4_readFact d [.ref 72, .int (-1)] h Z := by
  refine Sp_of mf_X4_readFact rfl (Nat.le_of_ble_eq_true rfl) rfl (sX4_readFact_0 ⟨fun q => absurd q (by decide), fun _ => sX4_readFact_15 (by omega) ⟨fun q => absurd q (by decide), fun _ => ?_⟩⟩)
  rw [am_fal_no q]; exact z
theorem iX4_opens {x : Nat} (hd : 3 ≤ d) (hx : x ≤ 6) (z1 : x < 6 → Z 1 (am_sI h 3 2 (h.1 3 2 + 1))) (z0 : x = 6 → Z 0 (am_fal h (5 : Int32) (h.1 3 2))) : Sp mX4_opens d [.ref 72, .int (nI x)] h Z := by
  refine Sp_of mf_X4_opens rfl (Nat.le_of_ble_eq_true rfl) rfl (sX4_opens_0 hd ⟨fun q => z1 ((nI_ltI (b := 6) (by omega) (by omega)).mp q), fun q => z0 ?_⟩)
  rcases Nat.lt_or_ge x 6 with w | w
  · exact absurd (nI_lt (b := 6) w (by omega)) q
  · omega
theorem fX4_readFactor (hd : 5 ≤ d) {x : Int32} : lc_F mX4_readFactor [.ref 72, .int x] d := fun h Z q z => by
  refine Sp_of mf_X4_readFactor rfl (Nat.le_of_ble_eq_true rfl) rfl (sX4_readFactor_0 (by omega) ?_)
  rw [am_pk_no q]
  exact ⟨fun _ => ⟨fun _ => ⟨4, by omega, fX4_readFact (by omega) q z⟩, fun c => absurd c (by decide)⟩, fun c => absurd c (by decide)⟩
/-- behind something, a sign that is due -/
theorem lc_x {k p c : Nat} (hg : am_la g) (hs : am_ss t n k h) (hc : c < 256) (h8 : h.1 g 8 = nI p) : lc_oc t n g p h (am_exp h (nI c)) (lp_ex t n c k) := by
  have tb := hs.2.2.2.2.2.1
  have e := am_rd_eq (n := n) (k := k) hc tb
  unfold lp_ex
  by_cases q : k < n ∧ t k = c
  · rw [if_pos q, show am_exp h (nI c) = am_sI h 3 2 (h.1 3 2 + 1) from if_pos ((am_ss_pk hs).trans (e.mpr q))]
    exact lc_nx hs q.1 h8 hg
  · rw [if_neg q, show am_exp h (nI c) = am_fal h 1 (h.1 3 2) from if_neg (fun w => q (e.mp ((am_ss_pk hs).symm.trans w)))]
    exact lc_f hs (x := 1) (by omega) (by omega) _ rfl
theorem x_fac {c o : Nat} {last : Bool} {sum : Nat → lp_O} (hd : 8 ≤ d) (hn : n ≤ 240) (hg : am_la g) (hc : o + c = 6) (hl : last = true ↔ c = 0) (hS : 0 < c → lc_C t n g mX4_readSum [.ref 72, .int (nI (o + 1))] (d - 1) sum) : lc_C t n g mX4_readFactor [.ref 72, .int (nI o)] d (lp_fac t n last sum) := fun h k p Z hs h72 h8 hp z => by
  have tb := hs.2.2.2.2.2.1
  have hk : k ≤ n := hs.2.2.2.1
  have e91 : am_rd t n k = 91 ↔ (k < n ∧ t k = 91) := am_rd_eq (x := 91) (by omega) tb
  have dgi : ((48 : Int32) ≤ am_rd t n k ∧ am_rd t n k ≤ 57) = cb_dg t n k := propext (am_rd_in (lo := 48) (hi := 57) (by omega) (by omega) tb)
  refine Sp_of mf_X4_readFactor rfl (Nat.le_of_ble_eq_true rfl) rfl (sX4_readFactor_0 (by omega) ?_)
  rw [am_ss_pk hs, dgi]
  refine ⟨fun c1 => ?_, fun c1 => ?_⟩
  · have c1' : ¬ (k < n ∧ t k = 91) := fun q => c1 (e91.mpr q)
    refine ⟨fun c2 => ⟨7, by omega, iX4_readFact (by omega) hn hg hs h72 h8 hp (fun h2 oc => z h2 ?_)⟩, fun c2 => ⟨5, by omega, iX4_readNumber (by omega) hn hg _ k p _ hs h72 h8 hp (fun h2 oc => z h2 ?_)⟩⟩
    · unfold lp_fac; rw [if_neg c1', if_neg c2]; exact oc
    · unfold lp_fac; rw [if_neg c1', if_pos c2]; exact oc
  · have c1' := e91.mp c1
    refine ⟨4, by omega, iX4_opens (by omega) (by omega) (fun lt => ⟨fun q => absurd q (by decide), fun _ => ?_⟩) (fun eq => ⟨fun _ => z _ ?_, fun q => absurd rfl q⟩)⟩
    · have lf : last = false := by
        cases last with
        | false => rfl
        | true => have := hl.mp rfl; omega
      have nx := lc_nx (g := g) (p := p) hs c1'.1 h8 hg
      rcases nx.2 with ⟨_, n2, n3, n4, _⟩ | w
      · rw [nI_1]
        refine ⟨d - 1, by omega, hS (by omega) _ (k + 1) p _ n2 h72 (show _ = nI p from n3) (by omega) (fun h2 oc => z _ ?_)⟩
        have ee : lp_fac t n last sum k = lp_b (sum (k + 1)) (lp_ex t n 93) := by
          unfold lp_fac; rw [if_pos c1', lf]; rfl
        rw [ee]
        have oc' : lc_oc t n g p h h2 (sum (k + 1)) := by
          refine ⟨lc_fr_tr nx.1 oc.1, ?_⟩
          rcases oc.2 with ⟨a1, a2, a3, a4, a5⟩ | w
          · exact Or.inl ⟨a1, a2, a3, fun j hj => (a4 j hj).trans (n4 j hj), a5⟩
          · exact Or.inr w
        generalize sum (k + 1) = so at oc'
        rcases oc'.2 with ⟨a1, a2, a3, a4, a5⟩ | ⟨w1, w2⟩
        · exact lc_b oc' a1 (lc_x (c := 93) hg a2 (by omega) a3)
        · rw [am_exp_no (by decide) (by rw [w2]; exact w1)]
          exact lc_bf oc' w1 (lc_fr_rf g h2) rfl
      · exact absurd rfl w.1
    · have lt : last = true := hl.mpr (by omega)
      exact lc_f hs (x := 5) (by omega) (by omega) _ (by unfold lp_fac; rw [if_pos c1', lt]; rfl)
end
