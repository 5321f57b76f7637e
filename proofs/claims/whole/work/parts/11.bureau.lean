-- the bureau's small tests
set_option maxRecDepth 20000 in
set_option maxHeartbeats 2000000 in
theorem sX0_isTold_0 {d : Nat} {h : am_H} {Z : Int32 → am_H → Prop} {a0 : Nat} (hb0 : am_bu a0) {x1 : Int32} (w : (x1 < 0 → Z 0 h) ∧ (¬ (x1 < 0) → (12 ≤ x1 → Z 0 h) ∧ (¬ (12 ≤ x1) → (vp_in x1 12 ∧ (((h.2.2 (a0 + 1) x1.toNatClampNeg) ≤ 0 → Z 0 h) ∧ (¬ ((h.2.2 (a0 + 1) x1.toNatClampNeg) ≤ 0) → Z 1 h)))))) : Ru mX0_isTold none d 0 [.ref a0, .int x1] [] h Z := by
  refine st_iload_n dX0_isTold_0 rfl ?_
  refine st_if_lt (tgt := 23) dX0_isTold_1 (by decide) (fun c => ?_) (fun c => ?_)
  · replace w := w.1 c
    refine st_iconst (v := 0) dX0_isTold_23 (by decide) ?_
    exact st_ireturn rfl rfl dX0_isTold_24 w
  · replace w := w.2 c
    refine st_iload_n dX0_isTold_4 rfl ?_
    refine st_bipush (v := 12) dX0_isTold_5 (by decide) ?_
    refine st_icmp_ge (tgt := 23) dX0_isTold_7 (by decide) (fun c => ?_) (fun c => ?_)
    · replace w := w.1 c
      refine st_iconst (v := 0) dX0_isTold_23 (by decide) ?_
      exact st_ireturn rfl rfl dX0_isTold_24 w
    · replace w := w.2 c
      refine st_aload_n dX0_isTold_10 rfl ?_
      refine st_getF (q := a0 + 1) fl_X0_9 fk_0_0 rfl dX0_isTold_11 (bu_0 hb0) ?_
      refine st_iload_n dX0_isTold_14 rfl ?_
      have hc1 := w.1
      replace w := w.2
      refine st_iald dX0_isTold_15 (bu_1 hb0) hc1 ?_
      refine st_if_le (tgt := 23) dX0_isTold_16 (by decide) (fun c => ?_) (fun c => ?_)
      · replace w := w.1 c
        refine st_iconst (v := 0) dX0_isTold_23 (by decide) ?_
        exact st_ireturn rfl rfl dX0_isTold_24 w
      · replace w := w.2 c
        refine st_iconst (v := 1) dX0_isTold_19 (by decide) ?_
        refine st_goto (tgt := 24) dX0_isTold_20 (by decide) ?_
        exact st_ireturn rfl rfl dX0_isTold_24 w
set_option maxRecDepth 20000 in
set_option maxHeartbeats 2000000 in
theorem sX0_hasPaper_0 {d : Nat} {h : am_H} {Z : Int32 → am_H → Prop} {a0 : Nat} (hb0 : am_bu a0) {x1 : Int32} (w : (x1 < 0 → Z 0 h) ∧ (¬ (x1 < 0) → ((h.1 a0 8) ≤ x1 → Z 0 h) ∧ (¬ ((h.1 a0 8) ≤ x1) → (24 ≤ x1 → Z 0 h) ∧ (¬ (24 ≤ x1) → Z 1 h)))) : Ru mX0_hasPaper none d 0 [.ref a0, .int x1] [] h Z := by
  refine st_iload_n dX0_hasPaper_0 rfl ?_
  refine st_if_lt (tgt := 22) dX0_hasPaper_1 (by decide) (fun c => ?_) (fun c => ?_)
  · replace w := w.1 c
    refine st_iconst (v := 0) dX0_hasPaper_22 (by decide) ?_
    exact st_ireturn rfl rfl dX0_hasPaper_23 w
  · replace w := w.2 c
    refine st_iload_n dX0_hasPaper_4 rfl ?_
    refine st_aload_n dX0_hasPaper_5 rfl ?_
    refine st_getI fl_X0_36 fk_0_8 dX0_hasPaper_6 (bu_0 hb0) ?_
    refine st_icmp_ge (tgt := 22) dX0_hasPaper_9 (by decide) (fun c => ?_) (fun c => ?_)
    · replace w := w.1 c
      refine st_iconst (v := 0) dX0_hasPaper_22 (by decide) ?_
      exact st_ireturn rfl rfl dX0_hasPaper_23 w
    · replace w := w.2 c
      refine st_iload_n dX0_hasPaper_12 rfl ?_
      refine st_bipush (v := 24) dX0_hasPaper_13 (by decide) ?_
      refine st_icmp_ge (tgt := 22) dX0_hasPaper_15 (by decide) (fun c => ?_) (fun c => ?_)
      · replace w := w.1 c
        refine st_iconst (v := 0) dX0_hasPaper_22 (by decide) ?_
        exact st_ireturn rfl rfl dX0_hasPaper_23 w
      · replace w := w.2 c
        refine st_iconst (v := 1) dX0_hasPaper_18 (by decide) ?_
        refine st_goto (tgt := 23) dX0_hasPaper_19 (by decide) ?_
        exact st_ireturn rfl rfl dX0_hasPaper_23 w
abbrev am_told (h : am_H) (a : Nat) (x : Int32) : Prop := 0 ≤ x ∧ x < 12 ∧ 0 < h.2.2 (a + 1) x.toNatClampNeg
abbrev am_pap (h : am_H) (a : Nat) (x : Int32) : Prop := 0 ≤ x ∧ x < h.1 a 8 ∧ x < 24
theorem iX0_isTold {d : Nat} {h : am_H} {Z : Int32 → am_H → Prop} {a0 : Nat} (hb : am_bu a0) {x1 : Int32} (z : Z (am_b (am_told h a0 x1)) h) : Sp mX0_isTold d [.ref a0, .int x1] h Z := by
  refine Sp_of mf_X0_isTold rfl (Nat.le_of_ble_eq_true rfl) rfl ?_
  refine sX0_isTold_0 hb ⟨fun c => ?_, fun c => ⟨fun c2 => ?_, fun c2 => ⟨am_vin (by decide) c c2, fun c3 => ?_, fun c3 => ?_⟩⟩⟩
  · rwa [am_b0 (fun q => Int32.not_le.mpr c q.1)] at z
  · rwa [am_b0 (fun q => Int32.not_le.mpr q.2.1 c2)] at z
  · rwa [am_b0 (fun q => Int32.not_le.mpr q.2.2 c3)] at z
  · rwa [am_b1 ⟨Int32.not_lt.mp c, Int32.not_le.mp c2, Int32.not_le.mp c3⟩] at z
theorem iX0_hasPaper {d : Nat} {h : am_H} {Z : Int32 → am_H → Prop} {a0 : Nat} (hb : am_bu a0) {x1 : Int32} (z : Z (am_b (am_pap h a0 x1)) h) : Sp mX0_hasPaper d [.ref a0, .int x1] h Z := by
  refine Sp_of mf_X0_hasPaper rfl (Nat.le_of_ble_eq_true rfl) rfl ?_
  refine sX0_hasPaper_0 hb ⟨fun c => ?_, fun c => ⟨fun c2 => ?_, fun c2 => ⟨fun c3 => ?_, fun c3 => ?_⟩⟩⟩
  · rwa [am_b0 (fun q => Int32.not_le.mpr c q.1)] at z
  · rwa [am_b0 (fun q => Int32.not_le.mpr q.2.1 c2)] at z
  · rwa [am_b0 (fun q => Int32.not_le.mpr q.2.2 c3)] at z
  · rwa [am_b1 ⟨Int32.not_lt.mp c, Int32.not_le.mp c2, Int32.not_le.mp c3⟩] at z
set_option maxRecDepth 20000 in
set_option maxHeartbeats 2000000 in
theorem sX0_isIn_0 {d : Nat} {h : am_H} {Z : Int32 → am_H → Prop} {a0 : Nat} (hb0 : am_bu a0) {x1 : Int32} (hd : 2 ≤ d) (w : (¬ (am_pap h a0 x1) → Z 0 h) ∧ (am_pap h a0 x1 → (vp_in x1 24 ∧ ((¬ (am_told h a0 (h.2.2 (a0 + 6) x1.toNatClampNeg)) → Z 0 h) ∧ (am_told h a0 (h.2.2 (a0 + 6) x1.toNatClampNeg) → Z 1 h))))) : Ru mX0_isIn none d 0 [.ref a0, .int x1] [] h Z := by
  refine st_aload_n dX0_isIn_0 rfl ?_
  refine st_iload_n dX0_isIn_1 rfl ?_
  refine st_callV (M' := mX0_hasPaper) [.int x1] [] dX0_isIn_2 ml_X0_62 mf_X0_hasPaper mv_X0_hasPaper (bu_0 hb0) rfl rfl rfl (K := fun r h' => (am_b (am_pap h a0 x1)) = r ∧ h = h') ⟨1, by omega, iX0_hasPaper hb0 ⟨rfl, rfl⟩⟩ (fun r1 h1 w1 => ?_)
  obtain ⟨rfl, rfl⟩ := w1
  show Ru mX0_isIn none d 5 [.ref a0, .int x1] [.int (am_b (am_pap h a0 x1))] h Z
  refine st_ifb_eq (tgt := 25) dX0_isIn_5 (by decide) (fun c => ?_) (fun c => ?_)
  · replace w := w.1 c
    refine st_iconst (v := 0) dX0_isIn_25 (by decide) ?_
    exact st_ireturn rfl rfl dX0_isIn_26 w
  · replace w := w.2 c
    refine st_aload_n dX0_isIn_8 rfl ?_
    refine st_aload_n dX0_isIn_9 rfl ?_
    refine st_getF (q := a0 + 6) fl_X0_27 fk_0_5 rfl dX0_isIn_10 (bu_0 hb0) ?_
    refine st_iload_n dX0_isIn_13 rfl ?_
    have hc1 := w.1
    replace w := w.2
    refine st_iald dX0_isIn_14 (bu_6 hb0) hc1 ?_
    refine st_callV (M' := mX0_isTold) [.int (h.2.2 (a0 + 6) x1.toNatClampNeg)] [] dX0_isIn_15 ml_X0_66 mf_X0_isTold mv_X0_isTold (bu_0 hb0) rfl rfl rfl (K := fun r h' => (am_b (am_told h a0 (h.2.2 (a0 + 6) x1.toNatClampNeg))) = r ∧ h = h') ⟨1, by omega, iX0_isTold hb0 ⟨rfl, rfl⟩⟩ (fun r1 h1 w1 => ?_)
    obtain ⟨rfl, rfl⟩ := w1
    show Ru mX0_isIn none d 18 [.ref a0, .int x1] [.int (am_b (am_told h a0 (h.2.2 (a0 + 6) x1.toNatClampNeg)))] h Z
    refine st_ifb_eq (tgt := 25) dX0_isIn_18 (by decide) (fun c => ?_) (fun c => ?_)
    · replace w := w.1 c
      refine st_iconst (v := 0) dX0_isIn_25 (by decide) ?_
      exact st_ireturn rfl rfl dX0_isIn_26 w
    · replace w := w.2 c
      refine st_iconst (v := 1) dX0_isIn_21 (by decide) ?_
      refine st_goto (tgt := 26) dX0_isIn_22 (by decide) ?_
      exact st_ireturn rfl rfl dX0_isIn_26 w
set_option maxRecDepth 20000 in
set_option maxHeartbeats 2000000 in
theorem sX0_space_0 {d : Nat} {h : am_H} {Z : Int32 → am_H → Prop} {a0 : Nat} (hb0 : am_bu a0) {x1 : Int32} (hd : 2 ≤ d) (w : (¬ (am_told h a0 x1) → Z 0 h) ∧ (am_told h a0 x1 → (vp_in x1 12 ∧ (Z ((h.2.2 (a0 + 1) x1.toNatClampNeg) - (h.2.2 (a0 + 2) x1.toNatClampNeg)) h)))) : Ru mX0_space none d 0 [.ref a0, .int x1] [] h Z := by
  refine st_aload_n dX0_space_0 rfl ?_
  refine st_iload_n dX0_space_1 rfl ?_
  refine st_callV (M' := mX0_isTold) [.int x1] [] dX0_space_2 ml_X0_66 mf_X0_isTold mv_X0_isTold (bu_0 hb0) rfl rfl rfl (K := fun r h' => (am_b (am_told h a0 x1)) = r ∧ h = h') ⟨1, by omega, iX0_isTold hb0 ⟨rfl, rfl⟩⟩ (fun r1 h1 w1 => ?_)
  obtain ⟨rfl, rfl⟩ := w1
  show Ru mX0_space none d 5 [.ref a0, .int x1] [.int (am_b (am_told h a0 x1))] h Z
  refine st_ifb_eq (tgt := 24) dX0_space_5 (by decide) (fun c => ?_) (fun c => ?_)
  · replace w := w.1 c
    refine st_iconst (v := 0) dX0_space_24 (by decide) ?_
    exact st_ireturn rfl rfl dX0_space_25 w
  · replace w := w.2 c
    refine st_aload_n dX0_space_8 rfl ?_
    refine st_getF (q := a0 + 1) fl_X0_9 fk_0_0 rfl dX0_space_9 (bu_0 hb0) ?_
    refine st_iload_n dX0_space_12 rfl ?_
    have hc1 := w.1
    replace w := w.2
    refine st_iald dX0_space_13 (bu_1 hb0) hc1 ?_
    refine st_aload_n dX0_space_14 rfl ?_
    refine st_getF (q := a0 + 2) fl_X0_15 fk_0_1 rfl dX0_space_15 (bu_0 hb0) ?_
    refine st_iload_n dX0_space_18 rfl ?_
    refine st_iald dX0_space_19 (bu_2 hb0) hc1 ?_
    refine st_isub dX0_space_20 ?_
    refine st_goto (tgt := 25) dX0_space_21 (by decide) ?_
    exact st_ireturn rfl rfl dX0_space_25 w
set_option maxRecDepth 20000 in
set_option maxHeartbeats 2000000 in
theorem sX0_fits_0 {d : Nat} {h : am_H} {Z : Int32 → am_H → Prop} {a0 : Nat} (hb0 : am_bu a0) {x1 : Int32} {x2 : Int32} (hd : 2 ≤ d) (w : (¬ (am_pap h a0 x1) → Z 0 h) ∧ (am_pap h a0 x1 → (¬ (am_told h a0 x2) → Z 0 h) ∧ (am_told h a0 x2 → (vp_in x1 24 ∧ (vp_in x2 12 ∧ ((((h.2.2 (a0 + 1) x2.toNatClampNeg) - (h.2.2 (a0 + 2) x2.toNatClampNeg)) < (h.2.2 (a0 + 5) x1.toNatClampNeg) → Z 0 h) ∧ (¬ (((h.2.2 (a0 + 1) x2.toNatClampNeg) - (h.2.2 (a0 + 2) x2.toNatClampNeg)) < (h.2.2 (a0 + 5) x1.toNatClampNeg)) → Z 1 h))))))) : Ru mX0_fits none d 0 [.ref a0, .int x1, .int x2] [] h Z := by
  refine st_aload_n dX0_fits_0 rfl ?_
  refine st_iload_n dX0_fits_1 rfl ?_
  refine st_callV (M' := mX0_hasPaper) [.int x1] [] dX0_fits_2 ml_X0_62 mf_X0_hasPaper mv_X0_hasPaper (bu_0 hb0) rfl rfl rfl (K := fun r h' => (am_b (am_pap h a0 x1)) = r ∧ h = h') ⟨1, by omega, iX0_hasPaper hb0 ⟨rfl, rfl⟩⟩ (fun r1 h1 w1 => ?_)
  obtain ⟨rfl, rfl⟩ := w1
  show Ru mX0_fits none d 5 [.ref a0, .int x1, .int x2] [.int (am_b (am_pap h a0 x1))] h Z
  refine st_ifb_eq (tgt := 42) dX0_fits_5 (by decide) (fun c => ?_) (fun c => ?_)
  · replace w := w.1 c
    refine st_iconst (v := 0) dX0_fits_42 (by decide) ?_
    exact st_ireturn rfl rfl dX0_fits_43 w
  · replace w := w.2 c
    refine st_aload_n dX0_fits_8 rfl ?_
    refine st_iload_n dX0_fits_9 rfl ?_
    refine st_callV (M' := mX0_isTold) [.int x2] [] dX0_fits_10 ml_X0_66 mf_X0_isTold mv_X0_isTold (bu_0 hb0) rfl rfl rfl (K := fun r h' => (am_b (am_told h a0 x2)) = r ∧ h = h') ⟨1, by omega, iX0_isTold hb0 ⟨rfl, rfl⟩⟩ (fun r1 h1 w1 => ?_)
    obtain ⟨rfl, rfl⟩ := w1
    show Ru mX0_fits none d 13 [.ref a0, .int x1, .int x2] [.int (am_b (am_told h a0 x2))] h Z
    refine st_ifb_eq (tgt := 42) dX0_fits_13 (by decide) (fun c => ?_) (fun c => ?_)
    · replace w := w.1 c
      refine st_iconst (v := 0) dX0_fits_42 (by decide) ?_
      exact st_ireturn rfl rfl dX0_fits_43 w
    · replace w := w.2 c
      refine st_aload_n dX0_fits_16 rfl ?_
      refine st_getF (q := a0 + 5) fl_X0_24 fk_0_4 rfl dX0_fits_17 (bu_0 hb0) ?_
      refine st_iload_n dX0_fits_20 rfl ?_
      have hc1 := w.1
      replace w := w.2
      refine st_iald dX0_fits_21 (bu_5 hb0) hc1 ?_
      refine st_aload_n dX0_fits_22 rfl ?_
      refine st_getF (q := a0 + 1) fl_X0_9 fk_0_0 rfl dX0_fits_23 (bu_0 hb0) ?_
      refine st_iload_n dX0_fits_26 rfl ?_
      have hc2 := w.1
      replace w := w.2
      refine st_iald dX0_fits_27 (bu_1 hb0) hc2 ?_
      refine st_aload_n dX0_fits_28 rfl ?_
      refine st_getF (q := a0 + 2) fl_X0_15 fk_0_1 rfl dX0_fits_29 (bu_0 hb0) ?_
      refine st_iload_n dX0_fits_32 rfl ?_
      refine st_iald dX0_fits_33 (bu_2 hb0) hc2 ?_
      refine st_isub dX0_fits_34 ?_
      refine st_icmp_gt (tgt := 42) dX0_fits_35 (by decide) (fun c => ?_) (fun c => ?_)
      · replace w := w.1 c
        refine st_iconst (v := 0) dX0_fits_42 (by decide) ?_
        exact st_ireturn rfl rfl dX0_fits_43 w
      · replace w := w.2 c
        refine st_iconst (v := 1) dX0_fits_38 (by decide) ?_
        refine st_goto (tgt := 43) dX0_fits_39 (by decide) ?_
        exact st_ireturn rfl rfl dX0_fits_43 w
abbrev am_inn (h : am_H) (a : Nat) (x : Int32) : Prop := am_pap h a x ∧ am_told h a (h.2.2 (a + 6) x.toNatClampNeg)
abbrev am_fit (h : am_H) (a : Nat) (x y : Int32) : Prop := am_pap h a x ∧ am_told h a y ∧ h.2.2 (a + 5) x.toNatClampNeg ≤ h.2.2 (a + 1) y.toNatClampNeg - h.2.2 (a + 2) y.toNatClampNeg
theorem iX0_isIn {d : Nat} {h : am_H} {Z : Int32 → am_H → Prop} {a0 : Nat} (hb : am_bu a0) {x1 : Int32} (hd : 2 ≤ d) (z : Z (am_b (am_inn h a0 x1)) h) : Sp mX0_isIn d [.ref a0, .int x1] h Z := by
  refine Sp_of mf_X0_isIn rfl (Nat.le_of_ble_eq_true rfl) rfl ?_
  refine sX0_isIn_0 hb hd ⟨fun c => ?_, fun c => ⟨am_vin (N := 24) (by decide) (Int32.not_lt.mpr c.1) (Int32.not_le.mpr c.2.2), fun c2 => ?_, fun c2 => ?_⟩⟩
  · rwa [am_b0 (fun q => c q.1)] at z
  · rwa [am_b0 (fun q => c2 q.2)] at z
  · rwa [am_b1 ⟨c, c2⟩] at z
theorem iX0_space {d : Nat} {h : am_H} {Z : Int32 → am_H → Prop} {a0 : Nat} (hb : am_bu a0) {x1 : Int32} (hd : 2 ≤ d) (z : Z (if am_told h a0 x1 then h.2.2 (a0 + 1) x1.toNatClampNeg - h.2.2 (a0 + 2) x1.toNatClampNeg else 0) h) : Sp mX0_space d [.ref a0, .int x1] h Z := by
  refine Sp_of mf_X0_space rfl (Nat.le_of_ble_eq_true rfl) rfl ?_
  refine sX0_space_0 hb hd ⟨fun c => ?_, fun c => ⟨am_vin (N := 12) (by decide) (Int32.not_lt.mpr c.1) (Int32.not_le.mpr c.2.1), ?_⟩⟩
  · rwa [if_neg c] at z
  · rwa [if_pos c] at z
theorem iX0_fits {d : Nat} {h : am_H} {Z : Int32 → am_H → Prop} {a0 : Nat} (hb : am_bu a0) {x1 x2 : Int32} (hd : 2 ≤ d) (z : Z (am_b (am_fit h a0 x1 x2)) h) : Sp mX0_fits d [.ref a0, .int x1, .int x2] h Z := by
  refine Sp_of mf_X0_fits rfl (Nat.le_of_ble_eq_true rfl) rfl ?_
  refine sX0_fits_0 hb hd ⟨fun c => ?_, fun c => ⟨fun c2 => ?_, fun c2 => ⟨am_vin (N := 24) (by decide) (Int32.not_lt.mpr c.1) (Int32.not_le.mpr c.2.2), am_vin (N := 12) (by decide) (Int32.not_lt.mpr c2.1) (Int32.not_le.mpr c2.2.1), fun c3 => ?_, fun c3 => ?_⟩⟩⟩
  · rwa [am_b0 (fun q => c q.1)] at z
  · rwa [am_b0 (fun q => c2 q.2.1)] at z
  · rwa [am_b0 (fun q => Int32.not_le.mpr c3 q.2.2)] at z
  · rwa [am_b1 ⟨c, c2, Int32.not_lt.mp c3⟩] at z
set_option maxRecDepth 20000 in
set_option maxHeartbeats 2000000 in
theorem sX0_tellDrawer_0 {d : Nat} {h : am_H} {Z : Int32 → am_H → Prop} {a0 : Nat} (hb0 : am_bu a0) {x1 : Int32} {x2 : Int32} (w : (x1 < 0 → Z 0 h) ∧ (¬ (x1 < 0) → (12 ≤ x1 → Z 0 h) ∧ (¬ (12 ≤ x1) → (vp_in x1 12 ∧ (∀ h2 : am_H, h2 = am_sR h (a0 + 1) (upd (h.2.2 (a0 + 1)) x1.toNatClampNeg x2) → (Z 0 h2)))))) : Ru mX0_tellDrawer none d 0 [.ref a0, .int x1, .int x2] [] h Z := by
  refine st_iload_n dX0_tellDrawer_0 rfl ?_
  refine st_if_lt (tgt := 17) dX0_tellDrawer_1 (by decide) (fun c => ?_) (fun c => ?_)
  · replace w := w.1 c
    exact st_return rfl dX0_tellDrawer_17 w
  · replace w := w.2 c
    refine st_iload_n dX0_tellDrawer_4 rfl ?_
    refine st_bipush (v := 12) dX0_tellDrawer_5 (by decide) ?_
    refine st_icmp_ge (tgt := 17) dX0_tellDrawer_7 (by decide) (fun c => ?_) (fun c => ?_)
    · replace w := w.1 c
      exact st_return rfl dX0_tellDrawer_17 w
    · replace w := w.2 c
      refine st_aload_n dX0_tellDrawer_10 rfl ?_
      refine st_getF (q := a0 + 1) fl_X0_9 fk_0_0 rfl dX0_tellDrawer_11 (bu_0 hb0) ?_
      refine st_iload_n dX0_tellDrawer_14 rfl ?_
      refine st_iload_n dX0_tellDrawer_15 rfl ?_
      have hc1 := w.1
      replace w := w.2
      refine st_iast dX0_tellDrawer_16 (bu_1 hb0) hc1 (fun h2 eh2 => ?_)
      replace w := w h2 eh2
      exact st_return rfl dX0_tellDrawer_17 w
set_option maxRecDepth 20000 in
set_option maxHeartbeats 2000000 in
theorem sX0_addPaper_0 {d : Nat} {h : am_H} {Z : Int32 → am_H → Prop} {a0 : Nat} (hb0 : am_bu a0) {x1 : Int32} {x2 : Int32} (w : ((h.1 a0 8) < 0 → Z 0 h) ∧ (¬ ((h.1 a0 8) < 0) → ((h.1 a0 8) < 24 → (vp_in (h.1 a0 8) 24 ∧ (∀ h2 : am_H, h2 = am_sR h (a0 + 4) (upd (h.2.2 (a0 + 4)) (h.1 a0 8).toNatClampNeg x1) → (vp_in (h2.1 a0 8) 24 ∧ (∀ h4 : am_H, h4 = am_sR h2 (a0 + 5) (upd (h2.2.2 (a0 + 5)) (h2.1 a0 8).toNatClampNeg x2) → (vp_in (h4.1 a0 8) 24 ∧ (∀ h6 : am_H, h6 = am_sR h4 (a0 + 6) (upd (h4.2.2 (a0 + 6)) (h4.1 a0 8).toNatClampNeg (-2)) → (vp_in (h6.1 a0 8) 24 ∧ (∀ h8 : am_H, h8 = am_sR h6 (a0 + 7) (upd (h6.2.2 (a0 + 7)) (h6.1 a0 8).toNatClampNeg 0) → (vp_in (h8.1 a0 8) 24 ∧ (∀ h10 : am_H, h10 = am_sR h8 (a0 + 8) (upd (h8.2.2 (a0 + 8)) (h8.1 a0 8).toNatClampNeg 0) → (∀ h11 : am_H, h11 = am_sI h10 a0 8 ((h10.1 a0 8) + 1) → (Z 0 h11))))))))))))) ∧ (¬ ((h.1 a0 8) < 24) → Z 0 h))) : Ru mX0_addPaper none d 0 [.ref a0, .int x1, .int x2] [] h Z := by
  refine st_aload_n dX0_addPaper_0 rfl ?_
  refine st_getI fl_X0_36 fk_0_8 dX0_addPaper_1 (bu_0 hb0) ?_
  refine st_if_lt (tgt := 16) dX0_addPaper_4 (by decide) (fun c => ?_) (fun c => ?_)
  · replace w := w.1 c
    exact st_return rfl dX0_addPaper_16 w
  · replace w := w.2 c
    refine st_aload_n dX0_addPaper_7 rfl ?_
    refine st_getI fl_X0_36 fk_0_8 dX0_addPaper_8 (bu_0 hb0) ?_
    refine st_bipush (v := 24) dX0_addPaper_11 (by decide) ?_
    refine st_icmp_lt (tgt := 17) dX0_addPaper_13 (by decide) (fun c => ?_) (fun c => ?_)
    · replace w := w.1 c
      refine st_aload_n dX0_addPaper_17 rfl ?_
      refine st_getF (q := a0 + 4) fl_X0_21 fk_0_3 rfl dX0_addPaper_18 (bu_0 hb0) ?_
      refine st_aload_n dX0_addPaper_21 rfl ?_
      refine st_getI fl_X0_36 fk_0_8 dX0_addPaper_22 (bu_0 hb0) ?_
      refine st_iload_n dX0_addPaper_25 rfl ?_
      have hc1 := w.1
      replace w := w.2
      refine st_iast dX0_addPaper_26 (bu_4 hb0) hc1 (fun h2 eh2 => ?_)
      replace w := w h2 eh2
      refine st_aload_n dX0_addPaper_27 rfl ?_
      refine st_getF (q := a0 + 5) fl_X0_24 fk_0_4 rfl dX0_addPaper_28 (bu_0 hb0) ?_
      refine st_aload_n dX0_addPaper_31 rfl ?_
      refine st_getI fl_X0_36 fk_0_8 dX0_addPaper_32 (bu_0 hb0) ?_
      refine st_iload_n dX0_addPaper_35 rfl ?_
      have hc3 := w.1
      replace w := w.2
      refine st_iast dX0_addPaper_36 (bu_5 hb0) hc3 (fun h4 eh4 => ?_)
      replace w := w h4 eh4
      refine st_aload_n dX0_addPaper_37 rfl ?_
      refine st_getF (q := a0 + 6) fl_X0_27 fk_0_5 rfl dX0_addPaper_38 (bu_0 hb0) ?_
      refine st_aload_n dX0_addPaper_41 rfl ?_
      refine st_getI fl_X0_36 fk_0_8 dX0_addPaper_42 (bu_0 hb0) ?_
      refine st_bipush (v := (-2)) dX0_addPaper_45 (by decide) ?_
      have hc5 := w.1
      replace w := w.2
      refine st_iast dX0_addPaper_47 (bu_6 hb0) hc5 (fun h6 eh6 => ?_)
      replace w := w h6 eh6
      refine st_aload_n dX0_addPaper_48 rfl ?_
      refine st_getF (q := a0 + 7) fl_X0_30 fk_0_6 rfl dX0_addPaper_49 (bu_0 hb0) ?_
      refine st_aload_n dX0_addPaper_52 rfl ?_
      refine st_getI fl_X0_36 fk_0_8 dX0_addPaper_53 (bu_0 hb0) ?_
      refine st_iconst (v := 0) dX0_addPaper_56 (by decide) ?_
      have hc7 := w.1
      replace w := w.2
      refine st_iast dX0_addPaper_57 (bu_7 hb0) hc7 (fun h8 eh8 => ?_)
      replace w := w h8 eh8
      refine st_aload_n dX0_addPaper_58 rfl ?_
      refine st_getF (q := a0 + 8) fl_X0_33 fk_0_7 rfl dX0_addPaper_59 (bu_0 hb0) ?_
      refine st_aload_n dX0_addPaper_62 rfl ?_
      refine st_getI fl_X0_36 fk_0_8 dX0_addPaper_63 (bu_0 hb0) ?_
      refine st_iconst (v := 0) dX0_addPaper_66 (by decide) ?_
      have hc9 := w.1
      replace w := w.2
      refine st_iast dX0_addPaper_67 (bu_8 hb0) hc9 (fun h10 eh10 => ?_)
      replace w := w h10 eh10
      refine st_aload_n dX0_addPaper_68 rfl ?_
      refine st_dup dX0_addPaper_69 rfl ?_
      refine st_getI fl_X0_36 fk_0_8 dX0_addPaper_70 (bu_0 hb0) ?_
      refine st_iconst (v := 1) dX0_addPaper_73 (by decide) ?_
      refine st_iadd dX0_addPaper_74 ?_
      refine st_putI flp_X0_36 fk_0_8 dX0_addPaper_75 (bu_0 hb0) (fun h11 eh11 => ?_)
      replace w := w h11 eh11
      exact st_return rfl dX0_addPaper_78 w
    · replace w := w.2 c
      exact st_return rfl dX0_addPaper_16 w
set_option maxRecDepth 20000 in
set_option maxHeartbeats 2000000 in
theorem sX0_takeOut_0 {d : Nat} {h : am_H} {Z : Int32 → am_H → Prop} {a0 : Nat} (hb0 : am_bu a0) {x1 : Int32} (hd : 2 ≤ d) (w : (am_pap h a0 x1 → am_cl mX0_lift d [.ref a0, .int x1] h (fun r1 h2 => (vp_in x1 24 ∧ (∀ h4 : am_H, h4 = am_sR h2 (a0 + 7) (upd (h2.2.2 (a0 + 7)) x1.toNatClampNeg 0) → (∀ h5 : am_H, h5 = am_sR h4 (a0 + 8) (upd (h4.2.2 (a0 + 8)) x1.toNatClampNeg 0) → (Z 0 h5)))))) ∧ (¬ (am_pap h a0 x1) → Z 0 h)) : Ru mX0_takeOut none d 0 [.ref a0, .int x1] [] h Z := by
  refine st_aload_n dX0_takeOut_0 rfl ?_
  refine st_iload_n dX0_takeOut_1 rfl ?_
  refine st_callV (M' := mX0_hasPaper) [.int x1] [] dX0_takeOut_2 ml_X0_62 mf_X0_hasPaper mv_X0_hasPaper (bu_0 hb0) rfl rfl rfl (K := fun r h' => (am_b (am_pap h a0 x1)) = r ∧ h = h') ⟨1, by omega, iX0_hasPaper hb0 ⟨rfl, rfl⟩⟩ (fun r1 h1 w1 => ?_)
  obtain ⟨rfl, rfl⟩ := w1
  show Ru mX0_takeOut none d 5 [.ref a0, .int x1] [.int (am_b (am_pap h a0 x1))] h Z
  refine st_ifb_ne (tgt := 9) dX0_takeOut_5 (by decide) (fun c => ?_) (fun c => ?_)
  · replace w := w.1 c
    refine st_aload_n dX0_takeOut_9 rfl ?_
    refine st_iload_n dX0_takeOut_10 rfl ?_
    refine st_callV (M' := mX0_lift) [.int x1] [] dX0_takeOut_11 ml_X0_69 mf_X0_lift mv_X0_lift (bu_0 hb0) rfl rfl rfl w (fun r1 h2 w => ?_)
    show Ru mX0_takeOut none d 14 [.ref a0, .int x1] [] h2 Z
    refine st_aload_n dX0_takeOut_14 rfl ?_
    refine st_getF (q := a0 + 7) fl_X0_30 fk_0_6 rfl dX0_takeOut_15 (bu_0 hb0) ?_
    refine st_iload_n dX0_takeOut_18 rfl ?_
    refine st_iconst (v := 0) dX0_takeOut_19 (by decide) ?_
    have hc3 := w.1
    replace w := w.2
    refine st_iast dX0_takeOut_20 (bu_7 hb0) hc3 (fun h4 eh4 => ?_)
    replace w := w h4 eh4
    refine st_aload_n dX0_takeOut_21 rfl ?_
    refine st_getF (q := a0 + 8) fl_X0_33 fk_0_7 rfl dX0_takeOut_22 (bu_0 hb0) ?_
    refine st_iload_n dX0_takeOut_25 rfl ?_
    refine st_iconst (v := 0) dX0_takeOut_26 (by decide) ?_
    refine st_iast dX0_takeOut_27 (bu_8 hb0) hc3 (fun h5 eh5 => ?_)
    replace w := w h5 eh5
    exact st_return rfl dX0_takeOut_28 w
  · replace w := w.2 c
    exact st_return rfl dX0_takeOut_8 w
set_option maxRecDepth 20000 in
set_option maxHeartbeats 2000000 in
theorem sX0_move_0 {d : Nat} {h : am_H} {Z : Int32 → am_H → Prop} {a0 : Nat} (hb0 : am_bu a0) {x1 : Int32} {x2 : Int32} (hd : 3 ≤ d) (w : (am_fit h a0 x1 x2 → am_cl mX0_lift d [.ref a0, .int x1] h (fun r1 h2 => (vp_in x1 24 ∧ (∀ h4 : am_H, h4 = am_sR h2 (a0 + 6) (upd (h2.2.2 (a0 + 6)) x1.toNatClampNeg x2) → (∀ h5 : am_H, h5 = am_sR h4 (a0 + 8) (upd (h4.2.2 (a0 + 8)) x1.toNatClampNeg 0) → (vp_in x2 12 ∧ (∀ h7 : am_H, h7 = am_sR h5 (a0 + 2) (upd (h5.2.2 (a0 + 2)) x2.toNatClampNeg ((h5.2.2 (a0 + 2) x2.toNatClampNeg) + (h5.2.2 (a0 + 5) x1.toNatClampNeg))) → (∀ h8 : am_H, h8 = am_sR h7 (a0 + 3) (upd (h7.2.2 (a0 + 3)) x2.toNatClampNeg ((h7.2.2 (a0 + 3) x2.toNatClampNeg) + 1)) → (Z 0 h8))))))))) ∧ (¬ (am_fit h a0 x1 x2) → Z 0 h)) : Ru mX0_move none d 0 [.ref a0, .int x1, .int x2] [] h Z := by
  refine st_aload_n dX0_move_0 rfl ?_
  refine st_iload_n dX0_move_1 rfl ?_
  refine st_iload_n dX0_move_2 rfl ?_
  refine st_callV (M' := mX0_fits) [.int x1, .int x2] [] dX0_move_3 ml_X0_73 mf_X0_fits mv_X0_fits (bu_0 hb0) rfl rfl rfl (K := fun r h' => (am_b (am_fit h a0 x1 x2)) = r ∧ h = h') ⟨2, by omega, iX0_fits hb0 (by omega) ⟨rfl, rfl⟩⟩ (fun r1 h1 w1 => ?_)
  obtain ⟨rfl, rfl⟩ := w1
  show Ru mX0_move none d 6 [.ref a0, .int x1, .int x2] [.int (am_b (am_fit h a0 x1 x2))] h Z
  refine st_ifb_ne (tgt := 10) dX0_move_6 (by decide) (fun c => ?_) (fun c => ?_)
  · replace w := w.1 c
    refine st_aload_n dX0_move_10 rfl ?_
    refine st_iload_n dX0_move_11 rfl ?_
    refine st_callV (M' := mX0_lift) [.int x1] [] dX0_move_12 ml_X0_69 mf_X0_lift mv_X0_lift (bu_0 hb0) rfl rfl rfl w (fun r1 h2 w => ?_)
    show Ru mX0_move none d 15 [.ref a0, .int x1, .int x2] [] h2 Z
    refine st_aload_n dX0_move_15 rfl ?_
    refine st_getF (q := a0 + 6) fl_X0_27 fk_0_5 rfl dX0_move_16 (bu_0 hb0) ?_
    refine st_iload_n dX0_move_19 rfl ?_
    refine st_iload_n dX0_move_20 rfl ?_
    have hc3 := w.1
    replace w := w.2
    refine st_iast dX0_move_21 (bu_6 hb0) hc3 (fun h4 eh4 => ?_)
    replace w := w h4 eh4
    refine st_aload_n dX0_move_22 rfl ?_
    refine st_getF (q := a0 + 8) fl_X0_33 fk_0_7 rfl dX0_move_23 (bu_0 hb0) ?_
    refine st_iload_n dX0_move_26 rfl ?_
    refine st_iconst (v := 0) dX0_move_27 (by decide) ?_
    refine st_iast dX0_move_28 (bu_8 hb0) hc3 (fun h5 eh5 => ?_)
    replace w := w h5 eh5
    refine st_aload_n dX0_move_29 rfl ?_
    refine st_getF (q := a0 + 2) fl_X0_15 fk_0_1 rfl dX0_move_30 (bu_0 hb0) ?_
    refine st_iload_n dX0_move_33 rfl ?_
    refine st_dup2 dX0_move_34 rfl rfl ?_
    have hc6 := w.1
    replace w := w.2
    refine st_iald dX0_move_35 (bu_2 hb0) hc6 ?_
    refine st_aload_n dX0_move_36 rfl ?_
    refine st_getF (q := a0 + 5) fl_X0_24 fk_0_4 rfl dX0_move_37 (bu_0 hb0) ?_
    refine st_iload_n dX0_move_40 rfl ?_
    refine st_iald dX0_move_41 (bu_5 hb0) hc3 ?_
    refine st_iadd dX0_move_42 ?_
    refine st_iast dX0_move_43 (bu_2 hb0) hc6 (fun h7 eh7 => ?_)
    replace w := w h7 eh7
    refine st_aload_n dX0_move_44 rfl ?_
    refine st_getF (q := a0 + 3) fl_X0_18 fk_0_2 rfl dX0_move_45 (bu_0 hb0) ?_
    refine st_iload_n dX0_move_48 rfl ?_
    refine st_dup2 dX0_move_49 rfl rfl ?_
    refine st_iald dX0_move_50 (bu_3 hb0) hc6 ?_
    refine st_iconst (v := 1) dX0_move_51 (by decide) ?_
    refine st_iadd dX0_move_52 ?_
    refine st_iast dX0_move_53 (bu_3 hb0) hc6 (fun h8 eh8 => ?_)
    replace w := w h8 eh8
    exact st_return rfl dX0_move_54 w
  · replace w := w.2 c
    exact st_return rfl dX0_move_9 w
set_option maxRecDepth 20000 in
set_option maxHeartbeats 2000000 in
theorem sX0_lift_0 {d : Nat} {h : am_H} {Z : Int32 → am_H → Prop} {a0 : Nat} (hb0 : am_bu a0) {x1 : Int32} (hd : 2 ≤ d) (w : (¬ (am_pap h a0 x1) → Z 0 h) ∧ (am_pap h a0 x1 → (vp_in x1 24 ∧ ((am_told h a0 (h.2.2 (a0 + 6) x1.toNatClampNeg) → (vp_in (h.2.2 (a0 + 6) x1.toNatClampNeg) 12 ∧ (∀ h3 : am_H, h3 = am_sR h (a0 + 2) (upd (h.2.2 (a0 + 2)) (h.2.2 (a0 + 6) x1.toNatClampNeg).toNatClampNeg ((h.2.2 (a0 + 2) (h.2.2 (a0 + 6) x1.toNatClampNeg).toNatClampNeg) - (h.2.2 (a0 + 5) x1.toNatClampNeg))) → (∀ h4 : am_H, h4 = am_sR h3 (a0 + 3) (upd (h3.2.2 (a0 + 3)) (h.2.2 (a0 + 6) x1.toNatClampNeg).toNatClampNeg ((h3.2.2 (a0 + 3) (h.2.2 (a0 + 6) x1.toNatClampNeg).toNatClampNeg) - 1)) → (∀ h5 : am_H, h5 = am_sR h4 (a0 + 6) (upd (h4.2.2 (a0 + 6)) x1.toNatClampNeg (-2)) → (Z 0 h5)))))) ∧ (¬ (am_told h a0 (h.2.2 (a0 + 6) x1.toNatClampNeg)) → Z 0 h))))) : Ru mX0_lift none d 0 [.ref a0, .int x1, .null] [] h Z := by
  refine st_aload_n dX0_lift_0 rfl ?_
  refine st_iload_n dX0_lift_1 rfl ?_
  refine st_callV (M' := mX0_hasPaper) [.int x1] [] dX0_lift_2 ml_X0_62 mf_X0_hasPaper mv_X0_hasPaper (bu_0 hb0) rfl rfl rfl (K := fun r h' => (am_b (am_pap h a0 x1)) = r ∧ h = h') ⟨1, by omega, iX0_hasPaper hb0 ⟨rfl, rfl⟩⟩ (fun r1 h1 w1 => ?_)
  obtain ⟨rfl, rfl⟩ := w1
  show Ru mX0_lift none d 5 [.ref a0, .int x1, .null] [.int (am_b (am_pap h a0 x1))] h Z
  refine st_ifb_eq (tgt := 21) dX0_lift_5 (by decide) (fun c => ?_) (fun c => ?_)
  · replace w := w.1 c
    exact st_return rfl dX0_lift_21 w
  · replace w := w.2 c
    refine st_aload_n dX0_lift_8 rfl ?_
    refine st_aload_n dX0_lift_9 rfl ?_
    refine st_getF (q := a0 + 6) fl_X0_27 fk_0_5 rfl dX0_lift_10 (bu_0 hb0) ?_
    refine st_iload_n dX0_lift_13 rfl ?_
    have hc1 := w.1
    replace w := w.2
    refine st_iald dX0_lift_14 (bu_6 hb0) hc1 ?_
    refine st_callV (M' := mX0_isTold) [.int (h.2.2 (a0 + 6) x1.toNatClampNeg)] [] dX0_lift_15 ml_X0_66 mf_X0_isTold mv_X0_isTold (bu_0 hb0) rfl rfl rfl (K := fun r h' => (am_b (am_told h a0 (h.2.2 (a0 + 6) x1.toNatClampNeg))) = r ∧ h = h') ⟨1, by omega, iX0_isTold hb0 ⟨rfl, rfl⟩⟩ (fun r1 h1 w1 => ?_)
    obtain ⟨rfl, rfl⟩ := w1
    show Ru mX0_lift none d 18 [.ref a0, .int x1, .null] [.int (am_b (am_told h a0 (h.2.2 (a0 + 6) x1.toNatClampNeg)))] h Z
    refine st_ifb_ne (tgt := 22) dX0_lift_18 (by decide) (fun c => ?_) (fun c => ?_)
    · replace w := w.1 c
      refine st_aload_n dX0_lift_22 rfl ?_
      refine st_getF (q := a0 + 6) fl_X0_27 fk_0_5 rfl dX0_lift_23 (bu_0 hb0) ?_
      refine st_iload_n dX0_lift_26 rfl ?_
      refine st_iald dX0_lift_27 (bu_6 hb0) hc1 ?_
      refine st_istore_n (L' := [.ref a0, .int x1, .int (h.2.2 (a0 + 6) x1.toNatClampNeg)]) dX0_lift_28 (by decide) rfl ?_
      refine st_aload_n dX0_lift_29 rfl ?_
      refine st_getF (q := a0 + 2) fl_X0_15 fk_0_1 rfl dX0_lift_30 (bu_0 hb0) ?_
      refine st_iload_n dX0_lift_33 rfl ?_
      refine st_dup2 dX0_lift_34 rfl rfl ?_
      have hc2 := w.1
      replace w := w.2
      refine st_iald dX0_lift_35 (bu_2 hb0) hc2 ?_
      refine st_aload_n dX0_lift_36 rfl ?_
      refine st_getF (q := a0 + 5) fl_X0_24 fk_0_4 rfl dX0_lift_37 (bu_0 hb0) ?_
      refine st_iload_n dX0_lift_40 rfl ?_
      refine st_iald dX0_lift_41 (bu_5 hb0) hc1 ?_
      refine st_isub dX0_lift_42 ?_
      refine st_iast dX0_lift_43 (bu_2 hb0) hc2 (fun h3 eh3 => ?_)
      replace w := w h3 eh3
      refine st_aload_n dX0_lift_44 rfl ?_
      refine st_getF (q := a0 + 3) fl_X0_18 fk_0_2 rfl dX0_lift_45 (bu_0 hb0) ?_
      refine st_iload_n dX0_lift_48 rfl ?_
      refine st_dup2 dX0_lift_49 rfl rfl ?_
      refine st_iald dX0_lift_50 (bu_3 hb0) hc2 ?_
      refine st_iconst (v := 1) dX0_lift_51 (by decide) ?_
      refine st_isub dX0_lift_52 ?_
      refine st_iast dX0_lift_53 (bu_3 hb0) hc2 (fun h4 eh4 => ?_)
      replace w := w h4 eh4
      refine st_aload_n dX0_lift_54 rfl ?_
      refine st_getF (q := a0 + 6) fl_X0_27 fk_0_5 rfl dX0_lift_55 (bu_0 hb0) ?_
      refine st_iload_n dX0_lift_58 rfl ?_
      refine st_bipush (v := (-2)) dX0_lift_59 (by decide) ?_
      refine st_iast dX0_lift_61 (bu_6 hb0) hc1 (fun h5 eh5 => ?_)
      replace w := w h5 eh5
      exact st_return rfl dX0_lift_62 w
    · replace w := w.2 c
      exact st_return rfl dX0_lift_21 w
set_option maxRecDepth 20000 in
set_option maxHeartbeats 2000000 in
theorem sX0_putBack_0 {d : Nat} {h : am_H} {Z : Int32 → am_H → Prop} {a0 : Nat} (hb0 : am_bu a0) {a1 : Nat} (hb1 : am_bu a1) (hd : 1 ≤ d) (w : Ru mX0_putBack none d 14 [.ref a0, .ref a1, .int (am_min (h.1 a0 8) (h.1 a1 8)), .int 0] [] h Z) : Ru mX0_putBack none d 0 [.ref a0, .ref a1, .null, .null] [] h Z := by
  refine st_aload_n dX0_putBack_0 rfl ?_
  refine st_getI fl_X0_36 fk_0_8 dX0_putBack_1 (bu_0 hb0) ?_
  refine st_aload_n dX0_putBack_4 rfl ?_
  refine st_getI fl_X0_36 fk_0_8 dX0_putBack_5 (bu_0 hb1) ?_
  refine st_mmin dX0_putBack_8 mk_min_X0_77 (by omega) rfl ?_
  refine st_istore_n (L' := [.ref a0, .ref a1, .int (am_min (h.1 a0 8) (h.1 a1 8)), .null]) dX0_putBack_11 (by decide) rfl ?_
  refine st_iconst (v := 0) dX0_putBack_12 (by decide) ?_
  refine st_istore_n (L' := [.ref a0, .ref a1, .int (am_min (h.1 a0 8) (h.1 a1 8)), .int 0]) dX0_putBack_13 (by decide) rfl ?_
  exact w
set_option maxRecDepth 20000 in
set_option maxHeartbeats 2000000 in
theorem sX0_putBack_14 {d : Nat} {h : am_H} {Z : Int32 → am_H → Prop} {a0 : Nat} (hb0 : am_bu a0) {a1 : Nat} (hb1 : am_bu a1) {x2 : Int32} {x3 : Int32} (w : (x2 ≤ x3 → Ru mX0_putBack none d 32 [.ref a0, .ref a1, .int x2, .int 0] [] h Z) ∧ (¬ (x2 ≤ x3) → am_cl mX0_takeOut d [.ref a0, .int x3] h (fun r1 h2 => Ru mX0_putBack none d 14 [.ref a0, .ref a1, .int x2, .int (x3 + 1)] [] h2 Z))) : Ru mX0_putBack none d 14 [.ref a0, .ref a1, .int x2, .int x3] [] h Z := by
  refine st_iload_n dX0_putBack_14 rfl ?_
  refine st_iload_n dX0_putBack_15 rfl ?_
  refine st_icmp_ge (tgt := 30) dX0_putBack_16 (by decide) (fun c => ?_) (fun c => ?_)
  · replace w := w.1 c
    refine st_iconst (v := 0) dX0_putBack_30 (by decide) ?_
    refine st_istore_n (L' := [.ref a0, .ref a1, .int x2, .int 0]) dX0_putBack_31 (by decide) rfl ?_
    exact w
  · replace w := w.2 c
    refine st_aload_n dX0_putBack_19 rfl ?_
    refine st_iload_n dX0_putBack_20 rfl ?_
    refine st_callV (M' := mX0_takeOut) [.int x3] [] dX0_putBack_21 ml_X0_83 mf_X0_takeOut mv_X0_takeOut (bu_0 hb0) rfl rfl rfl w (fun r1 h2 w => ?_)
    show Ru mX0_putBack none d 24 [.ref a0, .ref a1, .int x2, .int x3] [] h2 Z
    refine st_iinc (L' := [.ref a0, .ref a1, .int x2, .int (x3 + 1)]) dX0_putBack_24 rfl rfl (by decide) rfl ?_
    refine st_goto (tgt := 14) dX0_putBack_27 (by decide) ?_
    exact w
set_option maxRecDepth 20000 in
set_option maxHeartbeats 2000000 in
theorem sX0_putBack_32 {d : Nat} {h : am_H} {Z : Int32 → am_H → Prop} {a0 : Nat} (hb0 : am_bu a0) {a1 : Nat} (hb1 : am_bu a1) {x2 : Int32} {x3 : Int32} (hd : 3 ≤ d) (w : (x2 ≤ x3 → Z 0 h) ∧ (¬ (x2 ≤ x3) → (¬ (am_inn h a1 x3) → Ru mX0_putBack none d 32 [.ref a0, .ref a1, .int x2, .int (x3 + 1)] [] h Z) ∧ (am_inn h a1 x3 → (vp_in x3 24 ∧ ((¬ (am_fit h a0 x3 (h.2.2 (a1 + 6) x3.toNatClampNeg)) → Ru mX0_putBack none d 32 [.ref a0, .ref a1, .int x2, .int (x3 + 1)] [] h Z) ∧ (am_fit h a0 x3 (h.2.2 (a1 + 6) x3.toNatClampNeg) → am_cl mX0_move d [.ref a0, .int x3, .int (h.2.2 (a1 + 6) x3.toNatClampNeg)] h (fun r2 h3 => (∀ h4 : am_H, h4 = am_sR h3 (a0 + 7) (upd (h3.2.2 (a0 + 7)) x3.toNatClampNeg (h3.2.2 (a1 + 7) x3.toNatClampNeg)) → (∀ h5 : am_H, h5 = am_sR h4 (a0 + 8) (upd (h4.2.2 (a0 + 8)) x3.toNatClampNeg (h4.2.2 (a1 + 8) x3.toNatClampNeg)) → (Ru mX0_putBack none d 32 [.ref a0, .ref a1, .int x2, .int (x3 + 1)] [] h5 Z)))))))))) : Ru mX0_putBack none d 32 [.ref a0, .ref a1, .int x2, .int x3] [] h Z := by
  refine st_iload_n dX0_putBack_32 rfl ?_
  refine st_iload_n dX0_putBack_33 rfl ?_
  refine st_icmp_ge (tgt := 100) dX0_putBack_34 (by decide) (fun c => ?_) (fun c => ?_)
  · replace w := w.1 c
    exact st_return rfl dX0_putBack_100 w
  · replace w := w.2 c
    refine st_aload_n dX0_putBack_37 rfl ?_
    refine st_iload_n dX0_putBack_38 rfl ?_
    refine st_callV (M' := mX0_isIn) [.int x3] [] dX0_putBack_39 ml_X0_86 mf_X0_isIn mv_X0_isIn (bu_0 hb1) rfl rfl rfl (K := fun r h' => (am_b (am_inn h a1 x3)) = r ∧ h = h') ⟨2, by omega, iX0_isIn hb1 (by omega) ⟨rfl, rfl⟩⟩ (fun r1 h1 w1 => ?_)
    obtain ⟨rfl, rfl⟩ := w1
    show Ru mX0_putBack none d 42 [.ref a0, .ref a1, .int x2, .int x3] [.int (am_b (am_inn h a1 x3))] h Z
    refine st_ifb_eq (tgt := 94) dX0_putBack_42 (by decide) (fun c => ?_) (fun c => ?_)
    · replace w := w.1 c
      refine st_iinc (L' := [.ref a0, .ref a1, .int x2, .int (x3 + 1)]) dX0_putBack_94 rfl rfl (by decide) rfl ?_
      refine st_goto (tgt := 32) dX0_putBack_97 (by decide) ?_
      exact w
    · replace w := w.2 c
      refine st_aload_n dX0_putBack_45 rfl ?_
      refine st_iload_n dX0_putBack_46 rfl ?_
      refine st_aload_n dX0_putBack_47 rfl ?_
      refine st_getF (q := a1 + 6) fl_X0_27 fk_0_5 rfl dX0_putBack_48 (bu_0 hb1) ?_
      refine st_iload_n dX0_putBack_51 rfl ?_
      have hc1 := w.1
      replace w := w.2
      refine st_iald dX0_putBack_52 (bu_6 hb1) hc1 ?_
      refine st_callV (M' := mX0_fits) [.int x3, .int (h.2.2 (a1 + 6) x3.toNatClampNeg)] [] dX0_putBack_53 ml_X0_73 mf_X0_fits mv_X0_fits (bu_0 hb0) rfl rfl rfl (K := fun r h' => (am_b (am_fit h a0 x3 (h.2.2 (a1 + 6) x3.toNatClampNeg))) = r ∧ h = h') ⟨2, by omega, iX0_fits hb0 (by omega) ⟨rfl, rfl⟩⟩ (fun r1 h1 w1 => ?_)
      obtain ⟨rfl, rfl⟩ := w1
      show Ru mX0_putBack none d 56 [.ref a0, .ref a1, .int x2, .int x3] [.int (am_b (am_fit h a0 x3 (h.2.2 (a1 + 6) x3.toNatClampNeg)))] h Z
      refine st_ifb_eq (tgt := 94) dX0_putBack_56 (by decide) (fun c => ?_) (fun c => ?_)
      · replace w := w.1 c
        refine st_iinc (L' := [.ref a0, .ref a1, .int x2, .int (x3 + 1)]) dX0_putBack_94 rfl rfl (by decide) rfl ?_
        refine st_goto (tgt := 32) dX0_putBack_97 (by decide) ?_
        exact w
      · replace w := w.2 c
        refine st_aload_n dX0_putBack_59 rfl ?_
        refine st_iload_n dX0_putBack_60 rfl ?_
        refine st_aload_n dX0_putBack_61 rfl ?_
        refine st_getF (q := a1 + 6) fl_X0_27 fk_0_5 rfl dX0_putBack_62 (bu_0 hb1) ?_
        refine st_iload_n dX0_putBack_65 rfl ?_
        refine st_iald dX0_putBack_66 (bu_6 hb1) hc1 ?_
        refine st_callV (M' := mX0_move) [.int x3, .int (h.2.2 (a1 + 6) x3.toNatClampNeg)] [] dX0_putBack_67 ml_X0_89 mf_X0_move mv_X0_move (bu_0 hb0) rfl rfl rfl w (fun r2 h3 w => ?_)
        show Ru mX0_putBack none d 70 [.ref a0, .ref a1, .int x2, .int x3] [] h3 Z
        refine st_aload_n dX0_putBack_70 rfl ?_
        refine st_getF (q := a0 + 7) fl_X0_30 fk_0_6 rfl dX0_putBack_71 (bu_0 hb0) ?_
        refine st_iload_n dX0_putBack_74 rfl ?_
        refine st_aload_n dX0_putBack_75 rfl ?_
        refine st_getF (q := a1 + 7) fl_X0_30 fk_0_6 rfl dX0_putBack_76 (bu_0 hb1) ?_
        refine st_iload_n dX0_putBack_79 rfl ?_
        refine st_iald dX0_putBack_80 (bu_7 hb1) hc1 ?_
        refine st_iast dX0_putBack_81 (bu_7 hb0) hc1 (fun h4 eh4 => ?_)
        replace w := w h4 eh4
        refine st_aload_n dX0_putBack_82 rfl ?_
        refine st_getF (q := a0 + 8) fl_X0_33 fk_0_7 rfl dX0_putBack_83 (bu_0 hb0) ?_
        refine st_iload_n dX0_putBack_86 rfl ?_
        refine st_aload_n dX0_putBack_87 rfl ?_
        refine st_getF (q := a1 + 8) fl_X0_33 fk_0_7 rfl dX0_putBack_88 (bu_0 hb1) ?_
        refine st_iload_n dX0_putBack_91 rfl ?_
        refine st_iald dX0_putBack_92 (bu_8 hb1) hc1 ?_
        refine st_iast dX0_putBack_93 (bu_8 hb0) hc1 (fun h5 eh5 => ?_)
        replace w := w h5 eh5
        refine st_iinc (L' := [.ref a0, .ref a1, .int x2, .int (x3 + 1)]) dX0_putBack_94 rfl rfl (by decide) rfl ?_
        refine st_goto (tgt := 32) dX0_putBack_97 (by decide) ?_
        exact w
set_option maxRecDepth 20000 in
set_option maxHeartbeats 2000000 in
theorem sX0_draw_0 {d : Nat} {h : am_H} {Z : Int32 → am_H → Prop} {a0 : Nat} (hb0 : am_bu a0) (w : (∀ h1 : am_H, h1 = am_sI h a0 10 (am_rem ((25173 * (h.1 a0 10)) + 13849) 65536) → (Z (am_rem (h1.1 a0 10) 10) h1))) : Ru mX0_draw none d 0 [.ref a0] [] h Z := by
  refine st_aload_n dX0_draw_0 rfl ?_
  refine st_sipush (v := 25173) dX0_draw_1 (by decide) ?_
  refine st_aload_n dX0_draw_4 rfl ?_
  refine st_getI fl_X0_43 fk_0_10 dX0_draw_5 (bu_0 hb0) ?_
  refine st_imul dX0_draw_8 ?_
  refine st_sipush (v := 13849) dX0_draw_9 (by decide) ?_
  refine st_iadd dX0_draw_12 ?_
  refine st_ldc dX0_draw_13 kc_X0_93 ?_
  refine st_irem dX0_draw_15 (by decide) ?_
  refine st_putI flp_X0_43 fk_0_10 dX0_draw_16 (bu_0 hb0) (fun h1 eh1 => ?_)
  replace w := w h1 eh1
  refine st_aload_n dX0_draw_19 rfl ?_
  refine st_getI fl_X0_43 fk_0_10 dX0_draw_20 (bu_0 hb0) ?_
  refine st_bipush (v := 10) dX0_draw_23 (by decide) ?_
  refine st_irem dX0_draw_25 (by decide) ?_
  exact st_ireturn rfl rfl dX0_draw_26 w
set_option maxRecDepth 20000 in
set_option maxHeartbeats 2000000 in
theorem sX0_bitsTold_0 {d : Nat} {h : am_H} {Z : Int32 → am_H → Prop} {a0 : Nat} (hb0 : am_bu a0) (w : Ru mX0_bitsTold none d 4 [.ref a0, .int 0, .int 0] [] h Z) : Ru mX0_bitsTold none d 0 [.ref a0, .null, .null] [] h Z := by
  refine st_iconst (v := 0) dX0_bitsTold_0 (by decide) ?_
  refine st_istore_n (L' := [.ref a0, .int 0, .null]) dX0_bitsTold_1 (by decide) rfl ?_
  refine st_iconst (v := 0) dX0_bitsTold_2 (by decide) ?_
  refine st_istore_n (L' := [.ref a0, .int 0, .int 0]) dX0_bitsTold_3 (by decide) rfl ?_
  exact w
set_option maxRecDepth 20000 in
set_option maxHeartbeats 2000000 in
theorem sX0_bitsTold_4 {d : Nat} {h : am_H} {Z : Int32 → am_H → Prop} {a0 : Nat} (hb0 : am_bu a0) {x1 : Int32} {x2 : Int32} (hd : 2 ≤ d) (w : (12 ≤ x2 → Z x1 h) ∧ (¬ (12 ≤ x2) → (¬ (am_told h a0 x2) → Ru mX0_bitsTold none d 4 [.ref a0, .int (x1 ||| 0), .int (x2 + 1)] [] h Z) ∧ (am_told h a0 x2 → Ru mX0_bitsTold none d 4 [.ref a0, .int (x1 ||| (1 <<< (x2 &&& 31))), .int (x2 + 1)] [] h Z))) : Ru mX0_bitsTold none d 4 [.ref a0, .int x1, .int x2] [] h Z := by
  refine st_iload_n dX0_bitsTold_4 rfl ?_
  refine st_bipush (v := 12) dX0_bitsTold_5 (by decide) ?_
  refine st_icmp_ge (tgt := 34) dX0_bitsTold_7 (by decide) (fun c => ?_) (fun c => ?_)
  · replace w := w.1 c
    refine st_iload_n dX0_bitsTold_34 rfl ?_
    exact st_ireturn rfl rfl dX0_bitsTold_35 w
  · replace w := w.2 c
    refine st_iload_n dX0_bitsTold_10 rfl ?_
    refine st_aload_n dX0_bitsTold_11 rfl ?_
    refine st_iload_n dX0_bitsTold_12 rfl ?_
    refine st_callV (M' := mX0_isTold) [.int x2] [.int x1] dX0_bitsTold_13 ml_X0_66 mf_X0_isTold mv_X0_isTold (bu_0 hb0) rfl rfl rfl (K := fun r h' => (am_b (am_told h a0 x2)) = r ∧ h = h') ⟨1, by omega, iX0_isTold hb0 ⟨rfl, rfl⟩⟩ (fun r1 h1 w1 => ?_)
    obtain ⟨rfl, rfl⟩ := w1
    show Ru mX0_bitsTold none d 16 [.ref a0, .int x1, .int x2] [.int (am_b (am_told h a0 x2)), .int x1] h Z
    refine st_ifb_eq (tgt := 25) dX0_bitsTold_16 (by decide) (fun c => ?_) (fun c => ?_)
    · replace w := w.1 c
      refine st_iconst (v := 0) dX0_bitsTold_25 (by decide) ?_
      refine st_ior dX0_bitsTold_26 ?_
      refine st_istore_n (L' := [.ref a0, .int (x1 ||| 0), .int x2]) dX0_bitsTold_27 (by decide) rfl ?_
      refine st_iinc (L' := [.ref a0, .int (x1 ||| 0), .int (x2 + 1)]) dX0_bitsTold_28 rfl rfl (by decide) rfl ?_
      refine st_goto (tgt := 4) dX0_bitsTold_31 (by decide) ?_
      exact w
    · replace w := w.2 c
      refine st_iconst (v := 1) dX0_bitsTold_19 (by decide) ?_
      refine st_iload_n dX0_bitsTold_20 rfl ?_
      refine st_ishl dX0_bitsTold_21 ?_
      refine st_goto (tgt := 26) dX0_bitsTold_22 (by decide) ?_
      refine st_ior dX0_bitsTold_26 ?_
      refine st_istore_n (L' := [.ref a0, .int (x1 ||| (1 <<< (x2 &&& 31))), .int x2]) dX0_bitsTold_27 (by decide) rfl ?_
      refine st_iinc (L' := [.ref a0, .int (x1 ||| (1 <<< (x2 &&& 31))), .int (x2 + 1)]) dX0_bitsTold_28 rfl rfl (by decide) rfl ?_
      refine st_goto (tgt := 4) dX0_bitsTold_31 (by decide) ?_
      exact w
set_option maxRecDepth 20000 in
set_option maxHeartbeats 2000000 in
theorem sX0_bitsIn_0 {d : Nat} {h : am_H} {Z : Int32 → am_H → Prop} {a0 : Nat} (hb0 : am_bu a0) {x1 : Int32} (w : Ru mX0_bitsIn none d 4 [.ref a0, .int x1, .int 0, .int 0] [] h Z) : Ru mX0_bitsIn none d 0 [.ref a0, .int x1, .null, .null] [] h Z := by
  refine st_iconst (v := 0) dX0_bitsIn_0 (by decide) ?_
  refine st_istore_n (L' := [.ref a0, .int x1, .int 0, .null]) dX0_bitsIn_1 (by decide) rfl ?_
  refine st_iconst (v := 0) dX0_bitsIn_2 (by decide) ?_
  refine st_istore_n (L' := [.ref a0, .int x1, .int 0, .int 0]) dX0_bitsIn_3 (by decide) rfl ?_
  exact w
set_option maxRecDepth 20000 in
set_option maxHeartbeats 2000000 in
theorem sX0_bitsIn_4 {d : Nat} {h : am_H} {Z : Int32 → am_H → Prop} {a0 : Nat} (hb0 : am_bu a0) {x1 : Int32} {x2 : Int32} {x3 : Int32} (hd : 2 ≤ d) (w : ((h.1 a0 8) ≤ x3 → Z x2 h) ∧ (¬ ((h.1 a0 8) ≤ x3) → (¬ (am_pap h a0 x3) → Ru mX0_bitsIn none d 4 [.ref a0, .int x1, .int (x2 ||| 0), .int (x3 + 1)] [] h Z) ∧ (am_pap h a0 x3 → (vp_in x3 24 ∧ ((¬ (h.2.2 (a0 + 6) x3.toNatClampNeg) = x1 → Ru mX0_bitsIn none d 4 [.ref a0, .int x1, .int (x2 ||| 0), .int (x3 + 1)] [] h Z) ∧ ((h.2.2 (a0 + 6) x3.toNatClampNeg) = x1 → Ru mX0_bitsIn none d 4 [.ref a0, .int x1, .int (x2 ||| (1 <<< (x3 &&& 31))), .int (x3 + 1)] [] h Z)))))) : Ru mX0_bitsIn none d 4 [.ref a0, .int x1, .int x2, .int x3] [] h Z := by
  refine st_iload_n dX0_bitsIn_4 rfl ?_
  refine st_aload_n dX0_bitsIn_5 rfl ?_
  refine st_getI fl_X0_36 fk_0_8 dX0_bitsIn_6 (bu_0 hb0) ?_
  refine st_icmp_ge (tgt := 46) dX0_bitsIn_9 (by decide) (fun c => ?_) (fun c => ?_)
  · replace w := w.1 c
    refine st_iload_n dX0_bitsIn_46 rfl ?_
    exact st_ireturn rfl rfl dX0_bitsIn_47 w
  · replace w := w.2 c
    refine st_iload_n dX0_bitsIn_12 rfl ?_
    refine st_aload_n dX0_bitsIn_13 rfl ?_
    refine st_iload_n dX0_bitsIn_14 rfl ?_
    refine st_callV (M' := mX0_hasPaper) [.int x3] [.int x2] dX0_bitsIn_15 ml_X0_62 mf_X0_hasPaper mv_X0_hasPaper (bu_0 hb0) rfl rfl rfl (K := fun r h' => (am_b (am_pap h a0 x3)) = r ∧ h = h') ⟨1, by omega, iX0_hasPaper hb0 ⟨rfl, rfl⟩⟩ (fun r1 h1 w1 => ?_)
    obtain ⟨rfl, rfl⟩ := w1
    show Ru mX0_bitsIn none d 18 [.ref a0, .int x1, .int x2, .int x3] [.int (am_b (am_pap h a0 x3)), .int x2] h Z
    refine st_ifb_eq (tgt := 37) dX0_bitsIn_18 (by decide) (fun c => ?_) (fun c => ?_)
    · replace w := w.1 c
      refine st_iconst (v := 0) dX0_bitsIn_37 (by decide) ?_
      refine st_ior dX0_bitsIn_38 ?_
      refine st_istore_n (L' := [.ref a0, .int x1, .int (x2 ||| 0), .int x3]) dX0_bitsIn_39 (by decide) rfl ?_
      refine st_iinc (L' := [.ref a0, .int x1, .int (x2 ||| 0), .int (x3 + 1)]) dX0_bitsIn_40 rfl rfl (by decide) rfl ?_
      refine st_goto (tgt := 4) dX0_bitsIn_43 (by decide) ?_
      exact w
    · replace w := w.2 c
      refine st_aload_n dX0_bitsIn_21 rfl ?_
      refine st_getF (q := a0 + 6) fl_X0_27 fk_0_5 rfl dX0_bitsIn_22 (bu_0 hb0) ?_
      refine st_iload_n dX0_bitsIn_25 rfl ?_
      have hc1 := w.1
      replace w := w.2
      refine st_iald dX0_bitsIn_26 (bu_6 hb0) hc1 ?_
      refine st_iload_n dX0_bitsIn_27 rfl ?_
      refine st_icmp_ne (tgt := 37) dX0_bitsIn_28 (by decide) (fun c => ?_) (fun c => ?_)
      · replace w := w.1 c
        refine st_iconst (v := 0) dX0_bitsIn_37 (by decide) ?_
        refine st_ior dX0_bitsIn_38 ?_
        refine st_istore_n (L' := [.ref a0, .int x1, .int (x2 ||| 0), .int x3]) dX0_bitsIn_39 (by decide) rfl ?_
        refine st_iinc (L' := [.ref a0, .int x1, .int (x2 ||| 0), .int (x3 + 1)]) dX0_bitsIn_40 rfl rfl (by decide) rfl ?_
        refine st_goto (tgt := 4) dX0_bitsIn_43 (by decide) ?_
        exact w
      · replace w := w.2 c
        refine st_iconst (v := 1) dX0_bitsIn_31 (by decide) ?_
        refine st_iload_n dX0_bitsIn_32 rfl ?_
        refine st_ishl dX0_bitsIn_33 ?_
        refine st_goto (tgt := 38) dX0_bitsIn_34 (by decide) ?_
        refine st_ior dX0_bitsIn_38 ?_
        refine st_istore_n (L' := [.ref a0, .int x1, .int (x2 ||| (1 <<< (x3 &&& 31))), .int x3]) dX0_bitsIn_39 (by decide) rfl ?_
        refine st_iinc (L' := [.ref a0, .int x1, .int (x2 ||| (1 <<< (x3 &&& 31))), .int (x3 + 1)]) dX0_bitsIn_40 rfl rfl (by decide) rfl ?_
        refine st_goto (tgt := 4) dX0_bitsIn_43 (by decide) ?_
        exact w
set_option maxRecDepth 20000 in
set_option maxHeartbeats 2000000 in
theorem sX0_bitsOut_0 {d : Nat} {h : am_H} {Z : Int32 → am_H → Prop} {a0 : Nat} (hb0 : am_bu a0) (w : am_cl mX0_bitsIn d [.ref a0, .int (-2)] h (fun r1 h2 => Z r1 h2)) : Ru mX0_bitsOut none d 0 [.ref a0] [] h Z := by
  refine st_aload_n dX0_bitsOut_0 rfl ?_
  refine st_bipush (v := (-2)) dX0_bitsOut_1 (by decide) ?_
  refine st_callV (M' := mX0_bitsIn) [.int (-2)] [] dX0_bitsOut_3 ml_X0_94 mf_X0_bitsIn mv_X0_bitsIn (bu_0 hb0) rfl rfl rfl w (fun r1 h2 w => ?_)
  show Ru mX0_bitsOut none d 6 [.ref a0] [.int r1] h2 Z
  exact st_ireturn rfl rfl dX0_bitsOut_6 w
set_option maxRecDepth 20000 in
set_option maxHeartbeats 2000000 in
theorem sX0_bitsRead_0 {d : Nat} {h : am_H} {Z : Int32 → am_H → Prop} {a0 : Nat} (hb0 : am_bu a0) (w : Ru mX0_bitsRead none d 4 [.ref a0, .int 0, .int 0] [] h Z) : Ru mX0_bitsRead none d 0 [.ref a0, .null, .null] [] h Z := by
  refine st_iconst (v := 0) dX0_bitsRead_0 (by decide) ?_
  refine st_istore_n (L' := [.ref a0, .int 0, .null]) dX0_bitsRead_1 (by decide) rfl ?_
  refine st_iconst (v := 0) dX0_bitsRead_2 (by decide) ?_
  refine st_istore_n (L' := [.ref a0, .int 0, .int 0]) dX0_bitsRead_3 (by decide) rfl ?_
  exact w
set_option maxRecDepth 20000 in
set_option maxHeartbeats 2000000 in
theorem sX0_bitsRead_4 {d : Nat} {h : am_H} {Z : Int32 → am_H → Prop} {a0 : Nat} (hb0 : am_bu a0) {x1 : Int32} {x2 : Int32} (hd : 2 ≤ d) (w : ((h.1 a0 8) ≤ x2 → Z x1 h) ∧ (¬ ((h.1 a0 8) ≤ x2) → (¬ (am_pap h a0 x2) → Ru mX0_bitsRead none d 4 [.ref a0, .int (x1 ||| 0), .int (x2 + 1)] [] h Z) ∧ (am_pap h a0 x2 → (vp_in x2 24 ∧ (((h.2.2 (a0 + 7) x2.toNatClampNeg) = 0 → Ru mX0_bitsRead none d 4 [.ref a0, .int (x1 ||| 0), .int (x2 + 1)] [] h Z) ∧ (¬ ((h.2.2 (a0 + 7) x2.toNatClampNeg) = 0) → Ru mX0_bitsRead none d 4 [.ref a0, .int (x1 ||| (1 <<< (x2 &&& 31))), .int (x2 + 1)] [] h Z)))))) : Ru mX0_bitsRead none d 4 [.ref a0, .int x1, .int x2] [] h Z := by
  refine st_iload_n dX0_bitsRead_4 rfl ?_
  refine st_aload_n dX0_bitsRead_5 rfl ?_
  refine st_getI fl_X0_36 fk_0_8 dX0_bitsRead_6 (bu_0 hb0) ?_
  refine st_icmp_ge (tgt := 45) dX0_bitsRead_9 (by decide) (fun c => ?_) (fun c => ?_)
  · replace w := w.1 c
    refine st_iload_n dX0_bitsRead_45 rfl ?_
    exact st_ireturn rfl rfl dX0_bitsRead_46 w
  · replace w := w.2 c
    refine st_iload_n dX0_bitsRead_12 rfl ?_
    refine st_aload_n dX0_bitsRead_13 rfl ?_
    refine st_iload_n dX0_bitsRead_14 rfl ?_
    refine st_callV (M' := mX0_hasPaper) [.int x2] [.int x1] dX0_bitsRead_15 ml_X0_62 mf_X0_hasPaper mv_X0_hasPaper (bu_0 hb0) rfl rfl rfl (K := fun r h' => (am_b (am_pap h a0 x2)) = r ∧ h = h') ⟨1, by omega, iX0_hasPaper hb0 ⟨rfl, rfl⟩⟩ (fun r1 h1 w1 => ?_)
    obtain ⟨rfl, rfl⟩ := w1
    show Ru mX0_bitsRead none d 18 [.ref a0, .int x1, .int x2] [.int (am_b (am_pap h a0 x2)), .int x1] h Z
    refine st_ifb_eq (tgt := 36) dX0_bitsRead_18 (by decide) (fun c => ?_) (fun c => ?_)
    · replace w := w.1 c
      refine st_iconst (v := 0) dX0_bitsRead_36 (by decide) ?_
      refine st_ior dX0_bitsRead_37 ?_
      refine st_istore_n (L' := [.ref a0, .int (x1 ||| 0), .int x2]) dX0_bitsRead_38 (by decide) rfl ?_
      refine st_iinc (L' := [.ref a0, .int (x1 ||| 0), .int (x2 + 1)]) dX0_bitsRead_39 rfl rfl (by decide) rfl ?_
      refine st_goto (tgt := 4) dX0_bitsRead_42 (by decide) ?_
      exact w
    · replace w := w.2 c
      refine st_aload_n dX0_bitsRead_21 rfl ?_
      refine st_getF (q := a0 + 7) fl_X0_30 fk_0_6 rfl dX0_bitsRead_22 (bu_0 hb0) ?_
      refine st_iload_n dX0_bitsRead_25 rfl ?_
      have hc1 := w.1
      replace w := w.2
      refine st_iald dX0_bitsRead_26 (bu_7 hb0) hc1 ?_
      refine st_if_eq (tgt := 36) dX0_bitsRead_27 (by decide) (fun c => ?_) (fun c => ?_)
      · replace w := w.1 c
        refine st_iconst (v := 0) dX0_bitsRead_36 (by decide) ?_
        refine st_ior dX0_bitsRead_37 ?_
        refine st_istore_n (L' := [.ref a0, .int (x1 ||| 0), .int x2]) dX0_bitsRead_38 (by decide) rfl ?_
        refine st_iinc (L' := [.ref a0, .int (x1 ||| 0), .int (x2 + 1)]) dX0_bitsRead_39 rfl rfl (by decide) rfl ?_
        refine st_goto (tgt := 4) dX0_bitsRead_42 (by decide) ?_
        exact w
      · replace w := w.2 c
        refine st_iconst (v := 1) dX0_bitsRead_30 (by decide) ?_
        refine st_iload_n dX0_bitsRead_31 rfl ?_
        refine st_ishl dX0_bitsRead_32 ?_
        refine st_goto (tgt := 37) dX0_bitsRead_33 (by decide) ?_
        refine st_ior dX0_bitsRead_37 ?_
        refine st_istore_n (L' := [.ref a0, .int (x1 ||| (1 <<< (x2 &&& 31))), .int x2]) dX0_bitsRead_38 (by decide) rfl ?_
        refine st_iinc (L' := [.ref a0, .int (x1 ||| (1 <<< (x2 &&& 31))), .int (x2 + 1)]) dX0_bitsRead_39 rfl rfl (by decide) rfl ?_
        refine st_goto (tgt := 4) dX0_bitsRead_42 (by decide) ?_
        exact w
set_option maxRecDepth 20000 in
set_option maxHeartbeats 2000000 in
theorem sX0_fullOfAll_0 {d : Nat} {h : am_H} {Z : Int32 → am_H → Prop} {a0 : Nat} (hb0 : am_bu a0) (w : Ru mX0_fullOfAll none d 4 [.ref a0, .int 0, .int 0] [] h Z) : Ru mX0_fullOfAll none d 0 [.ref a0, .null, .null] [] h Z := by
  refine st_iconst (v := 0) dX0_fullOfAll_0 (by decide) ?_
  refine st_istore_n (L' := [.ref a0, .int 0, .null]) dX0_fullOfAll_1 (by decide) rfl ?_
  refine st_iconst (v := 0) dX0_fullOfAll_2 (by decide) ?_
  refine st_istore_n (L' := [.ref a0, .int 0, .int 0]) dX0_fullOfAll_3 (by decide) rfl ?_
  exact w
set_option maxRecDepth 20000 in
set_option maxHeartbeats 2000000 in
theorem sX0_fullOfAll_4 {d : Nat} {h : am_H} {Z : Int32 → am_H → Prop} {a0 : Nat} (hb0 : am_bu a0) {x1 : Int32} {x2 : Int32} (w : (12 ≤ x2 → Z x1 h) ∧ (¬ (12 ≤ x2) → (vp_in x2 12 ∧ (Ru mX0_fullOfAll none d 4 [.ref a0, .int (x1 + (h.2.2 (a0 + 2) x2.toNatClampNeg)), .int (x2 + 1)] [] h Z)))) : Ru mX0_fullOfAll none d 4 [.ref a0, .int x1, .int x2] [] h Z := by
  refine st_iload_n dX0_fullOfAll_4 rfl ?_
  refine st_bipush (v := 12) dX0_fullOfAll_5 (by decide) ?_
  refine st_icmp_ge (tgt := 25) dX0_fullOfAll_7 (by decide) (fun c => ?_) (fun c => ?_)
  · replace w := w.1 c
    refine st_iload_n dX0_fullOfAll_25 rfl ?_
    exact st_ireturn rfl rfl dX0_fullOfAll_26 w
  · replace w := w.2 c
    refine st_iload_n dX0_fullOfAll_10 rfl ?_
    refine st_aload_n dX0_fullOfAll_11 rfl ?_
    refine st_getF (q := a0 + 2) fl_X0_15 fk_0_1 rfl dX0_fullOfAll_12 (bu_0 hb0) ?_
    refine st_iload_n dX0_fullOfAll_15 rfl ?_
    have hc1 := w.1
    replace w := w.2
    refine st_iald dX0_fullOfAll_16 (bu_2 hb0) hc1 ?_
    refine st_iadd dX0_fullOfAll_17 ?_
    refine st_istore_n (L' := [.ref a0, .int (x1 + (h.2.2 (a0 + 2) x2.toNatClampNeg)), .int x2]) dX0_fullOfAll_18 (by decide) rfl ?_
    refine st_iinc (L' := [.ref a0, .int (x1 + (h.2.2 (a0 + 2) x2.toNatClampNeg)), .int (x2 + 1)]) dX0_fullOfAll_19 rfl rfl (by decide) rfl ?_
    refine st_goto (tgt := 4) dX0_fullOfAll_22 (by decide) ?_
    exact w
set_option maxRecDepth 20000 in
set_option maxHeartbeats 2000000 in
theorem sX0_roomOfAll_0 {d : Nat} {h : am_H} {Z : Int32 → am_H → Prop} {a0 : Nat} (hb0 : am_bu a0) (w : Ru mX0_roomOfAll none d 4 [.ref a0, .int 0, .int 0] [] h Z) : Ru mX0_roomOfAll none d 0 [.ref a0, .null, .null] [] h Z := by
  refine st_iconst (v := 0) dX0_roomOfAll_0 (by decide) ?_
  refine st_istore_n (L' := [.ref a0, .int 0, .null]) dX0_roomOfAll_1 (by decide) rfl ?_
  refine st_iconst (v := 0) dX0_roomOfAll_2 (by decide) ?_
  refine st_istore_n (L' := [.ref a0, .int 0, .int 0]) dX0_roomOfAll_3 (by decide) rfl ?_
  exact w
set_option maxRecDepth 20000 in
set_option maxHeartbeats 2000000 in
theorem sX0_roomOfAll_4 {d : Nat} {h : am_H} {Z : Int32 → am_H → Prop} {a0 : Nat} (hb0 : am_bu a0) {x1 : Int32} {x2 : Int32} (w : (12 ≤ x2 → Z x1 h) ∧ (¬ (12 ≤ x2) → (vp_in x2 12 ∧ (Ru mX0_roomOfAll none d 4 [.ref a0, .int (x1 + (h.2.2 (a0 + 1) x2.toNatClampNeg)), .int (x2 + 1)] [] h Z)))) : Ru mX0_roomOfAll none d 4 [.ref a0, .int x1, .int x2] [] h Z := by
  refine st_iload_n dX0_roomOfAll_4 rfl ?_
  refine st_bipush (v := 12) dX0_roomOfAll_5 (by decide) ?_
  refine st_icmp_ge (tgt := 25) dX0_roomOfAll_7 (by decide) (fun c => ?_) (fun c => ?_)
  · replace w := w.1 c
    refine st_iload_n dX0_roomOfAll_25 rfl ?_
    exact st_ireturn rfl rfl dX0_roomOfAll_26 w
  · replace w := w.2 c
    refine st_iload_n dX0_roomOfAll_10 rfl ?_
    refine st_aload_n dX0_roomOfAll_11 rfl ?_
    refine st_getF (q := a0 + 1) fl_X0_9 fk_0_0 rfl dX0_roomOfAll_12 (bu_0 hb0) ?_
    refine st_iload_n dX0_roomOfAll_15 rfl ?_
    have hc1 := w.1
    replace w := w.2
    refine st_iald dX0_roomOfAll_16 (bu_1 hb0) hc1 ?_
    refine st_iadd dX0_roomOfAll_17 ?_
    refine st_istore_n (L' := [.ref a0, .int (x1 + (h.2.2 (a0 + 1) x2.toNatClampNeg)), .int x2]) dX0_roomOfAll_18 (by decide) rfl ?_
    refine st_iinc (L' := [.ref a0, .int (x1 + (h.2.2 (a0 + 1) x2.toNatClampNeg)), .int (x2 + 1)]) dX0_roomOfAll_19 rfl rfl (by decide) rfl ?_
    refine st_goto (tgt := 4) dX0_roomOfAll_22 (by decide) ?_
    exact w
set_option maxRecDepth 20000 in
set_option maxHeartbeats 2000000 in
theorem sX0_freest_0 {d : Nat} {h : am_H} {Z : Int32 → am_H → Prop} {a0 : Nat} (hb0 : am_bu a0) (w : Ru mX0_freest none d 5 [.ref a0, .int (-2), .int 0] [] h Z) : Ru mX0_freest none d 0 [.ref a0, .null, .null] [] h Z := by
  refine st_bipush (v := (-2)) dX0_freest_0 (by decide) ?_
  refine st_istore_n (L' := [.ref a0, .int (-2), .null]) dX0_freest_2 (by decide) rfl ?_
  refine st_iconst (v := 0) dX0_freest_3 (by decide) ?_
  refine st_istore_n (L' := [.ref a0, .int (-2), .int 0]) dX0_freest_4 (by decide) rfl ?_
  exact w
set_option maxRecDepth 20000 in
set_option maxHeartbeats 2000000 in
theorem sX0_freest_5 {d : Nat} {h : am_H} {Z : Int32 → am_H → Prop} {a0 : Nat} (hb0 : am_bu a0) {x1 : Int32} {x2 : Int32} (hd : 3 ≤ d) (w : (12 ≤ x2 → Z x1 h) ∧ (¬ (12 ≤ x2) → (¬ (am_told h a0 x2) → Ru mX0_freest none d 5 [.ref a0, .int x1, .int (x2 + 1)] [] h Z) ∧ (am_told h a0 x2 → (x1 < 0 → Ru mX0_freest none d 5 [.ref a0, .int x2, .int (x2 + 1)] [] h Z) ∧ (¬ (x1 < 0) → ((if am_told h a0 x2 then h.2.2 (a0 + 1) x2.toNatClampNeg - h.2.2 (a0 + 2) x2.toNatClampNeg else 0) ≤ (if am_told h a0 x1 then h.2.2 (a0 + 1) x1.toNatClampNeg - h.2.2 (a0 + 2) x1.toNatClampNeg else 0) → Ru mX0_freest none d 5 [.ref a0, .int x1, .int (x2 + 1)] [] h Z) ∧ (¬ ((if am_told h a0 x2 then h.2.2 (a0 + 1) x2.toNatClampNeg - h.2.2 (a0 + 2) x2.toNatClampNeg else 0) ≤ (if am_told h a0 x1 then h.2.2 (a0 + 1) x1.toNatClampNeg - h.2.2 (a0 + 2) x1.toNatClampNeg else 0)) → Ru mX0_freest none d 5 [.ref a0, .int x2, .int (x2 + 1)] [] h Z))))) : Ru mX0_freest none d 5 [.ref a0, .int x1, .int x2] [] h Z := by
  refine st_iload_n dX0_freest_5 rfl ?_
  refine st_bipush (v := 12) dX0_freest_6 (by decide) ?_
  refine st_icmp_ge (tgt := 44) dX0_freest_8 (by decide) (fun c => ?_) (fun c => ?_)
  · replace w := w.1 c
    refine st_iload_n dX0_freest_44 rfl ?_
    exact st_ireturn rfl rfl dX0_freest_45 w
  · replace w := w.2 c
    refine st_aload_n dX0_freest_11 rfl ?_
    refine st_iload_n dX0_freest_12 rfl ?_
    refine st_callV (M' := mX0_isTold) [.int x2] [] dX0_freest_13 ml_X0_66 mf_X0_isTold mv_X0_isTold (bu_0 hb0) rfl rfl rfl (K := fun r h' => (am_b (am_told h a0 x2)) = r ∧ h = h') ⟨1, by omega, iX0_isTold hb0 ⟨rfl, rfl⟩⟩ (fun r1 h1 w1 => ?_)
    obtain ⟨rfl, rfl⟩ := w1
    show Ru mX0_freest none d 16 [.ref a0, .int x1, .int x2] [.int (am_b (am_told h a0 x2))] h Z
    refine st_ifb_eq (tgt := 38) dX0_freest_16 (by decide) (fun c => ?_) (fun c => ?_)
    · replace w := w.1 c
      refine st_iinc (L' := [.ref a0, .int x1, .int (x2 + 1)]) dX0_freest_38 rfl rfl (by decide) rfl ?_
      refine st_goto (tgt := 5) dX0_freest_41 (by decide) ?_
      exact w
    · replace w := w.2 c
      refine st_iload_n dX0_freest_19 rfl ?_
      refine st_if_lt (tgt := 36) dX0_freest_20 (by decide) (fun c => ?_) (fun c => ?_)
      · replace w := w.1 c
        refine st_iload_n dX0_freest_36 rfl ?_
        refine st_istore_n (L' := [.ref a0, .int x2, .int x2]) dX0_freest_37 (by decide) rfl ?_
        refine st_iinc (L' := [.ref a0, .int x2, .int (x2 + 1)]) dX0_freest_38 rfl rfl (by decide) rfl ?_
        refine st_goto (tgt := 5) dX0_freest_41 (by decide) ?_
        exact w
      · replace w := w.2 c
        refine st_aload_n dX0_freest_23 rfl ?_
        refine st_iload_n dX0_freest_24 rfl ?_
        refine st_callV (M' := mX0_space) [.int x2] [] dX0_freest_25 ml_X0_98 mf_X0_space mv_X0_space (bu_0 hb0) rfl rfl rfl (K := fun r h' => (if am_told h a0 x2 then h.2.2 (a0 + 1) x2.toNatClampNeg - h.2.2 (a0 + 2) x2.toNatClampNeg else 0) = r ∧ h = h') ⟨2, by omega, iX0_space hb0 (by omega) ⟨rfl, rfl⟩⟩ (fun r1 h1 w1 => ?_)
        obtain ⟨rfl, rfl⟩ := w1
        show Ru mX0_freest none d 28 [.ref a0, .int x1, .int x2] [.int (if am_told h a0 x2 then h.2.2 (a0 + 1) x2.toNatClampNeg - h.2.2 (a0 + 2) x2.toNatClampNeg else 0)] h Z
        refine st_aload_n dX0_freest_28 rfl ?_
        refine st_iload_n dX0_freest_29 rfl ?_
        refine st_callV (M' := mX0_space) [.int x1] [.int (if am_told h a0 x2 then h.2.2 (a0 + 1) x2.toNatClampNeg - h.2.2 (a0 + 2) x2.toNatClampNeg else 0)] dX0_freest_30 ml_X0_98 mf_X0_space mv_X0_space (bu_0 hb0) rfl rfl rfl (K := fun r h' => (if am_told h a0 x1 then h.2.2 (a0 + 1) x1.toNatClampNeg - h.2.2 (a0 + 2) x1.toNatClampNeg else 0) = r ∧ h = h') ⟨2, by omega, iX0_space hb0 (by omega) ⟨rfl, rfl⟩⟩ (fun r1 h1 w1 => ?_)
        obtain ⟨rfl, rfl⟩ := w1
        show Ru mX0_freest none d 33 [.ref a0, .int x1, .int x2] [.int (if am_told h a0 x1 then h.2.2 (a0 + 1) x1.toNatClampNeg - h.2.2 (a0 + 2) x1.toNatClampNeg else 0), .int (if am_told h a0 x2 then h.2.2 (a0 + 1) x2.toNatClampNeg - h.2.2 (a0 + 2) x2.toNatClampNeg else 0)] h Z
        refine st_icmp_le (tgt := 38) dX0_freest_33 (by decide) (fun c => ?_) (fun c => ?_)
        · replace w := w.1 c
          refine st_iinc (L' := [.ref a0, .int x1, .int (x2 + 1)]) dX0_freest_38 rfl rfl (by decide) rfl ?_
          refine st_goto (tgt := 5) dX0_freest_41 (by decide) ?_
          exact w
        · replace w := w.2 c
          refine st_iload_n dX0_freest_36 rfl ?_
          refine st_istore_n (L' := [.ref a0, .int x2, .int x2]) dX0_freest_37 (by decide) rfl ?_
          refine st_iinc (L' := [.ref a0, .int x2, .int (x2 + 1)]) dX0_freest_38 rfl rfl (by decide) rfl ?_
          refine st_goto (tgt := 5) dX0_freest_41 (by decide) ?_
          exact w
set_option maxRecDepth 20000 in
set_option maxHeartbeats 2000000 in
theorem sX0_papersOf_0 {d : Nat} {h : am_H} {Z : Int32 → am_H → Prop} {a0 : Nat} (hb0 : am_bu a0) {x1 : Int32} (w : Ru mX0_papersOf none d 4 [.ref a0, .int x1, .int 0, .int 0] [] h Z) : Ru mX0_papersOf none d 0 [.ref a0, .int x1, .null, .null] [] h Z := by
  refine st_iconst (v := 0) dX0_papersOf_0 (by decide) ?_
  refine st_istore_n (L' := [.ref a0, .int x1, .int 0, .null]) dX0_papersOf_1 (by decide) rfl ?_
  refine st_iconst (v := 0) dX0_papersOf_2 (by decide) ?_
  refine st_istore_n (L' := [.ref a0, .int x1, .int 0, .int 0]) dX0_papersOf_3 (by decide) rfl ?_
  exact w
set_option maxRecDepth 20000 in
set_option maxHeartbeats 2000000 in
theorem sX0_papersOf_4 {d : Nat} {h : am_H} {Z : Int32 → am_H → Prop} {a0 : Nat} (hb0 : am_bu a0) {x1 : Int32} {x2 : Int32} {x3 : Int32} (hd : 2 ≤ d) (w : ((h.1 a0 8) ≤ x3 → Z x2 h) ∧ (¬ ((h.1 a0 8) ≤ x3) → (¬ (am_pap h a0 x3) → Ru mX0_papersOf none d 4 [.ref a0, .int x1, .int (x2 + 0), .int (x3 + 1)] [] h Z) ∧ (am_pap h a0 x3 → (vp_in x3 24 ∧ ((¬ (h.2.2 (a0 + 4) x3.toNatClampNeg) = x1 → Ru mX0_papersOf none d 4 [.ref a0, .int x1, .int (x2 + 0), .int (x3 + 1)] [] h Z) ∧ ((h.2.2 (a0 + 4) x3.toNatClampNeg) = x1 → Ru mX0_papersOf none d 4 [.ref a0, .int x1, .int (x2 + 1), .int (x3 + 1)] [] h Z)))))) : Ru mX0_papersOf none d 4 [.ref a0, .int x1, .int x2, .int x3] [] h Z := by
  refine st_iload_n dX0_papersOf_4 rfl ?_
  refine st_aload_n dX0_papersOf_5 rfl ?_
  refine st_getI fl_X0_36 fk_0_8 dX0_papersOf_6 (bu_0 hb0) ?_
  refine st_icmp_ge (tgt := 44) dX0_papersOf_9 (by decide) (fun c => ?_) (fun c => ?_)
  · replace w := w.1 c
    refine st_iload_n dX0_papersOf_44 rfl ?_
    exact st_ireturn rfl rfl dX0_papersOf_45 w
  · replace w := w.2 c
    refine st_iload_n dX0_papersOf_12 rfl ?_
    refine st_aload_n dX0_papersOf_13 rfl ?_
    refine st_iload_n dX0_papersOf_14 rfl ?_
    refine st_callV (M' := mX0_hasPaper) [.int x3] [.int x2] dX0_papersOf_15 ml_X0_62 mf_X0_hasPaper mv_X0_hasPaper (bu_0 hb0) rfl rfl rfl (K := fun r h' => (am_b (am_pap h a0 x3)) = r ∧ h = h') ⟨1, by omega, iX0_hasPaper hb0 ⟨rfl, rfl⟩⟩ (fun r1 h1 w1 => ?_)
    obtain ⟨rfl, rfl⟩ := w1
    show Ru mX0_papersOf none d 18 [.ref a0, .int x1, .int x2, .int x3] [.int (am_b (am_pap h a0 x3)), .int x2] h Z
    refine st_ifb_eq (tgt := 35) dX0_papersOf_18 (by decide) (fun c => ?_) (fun c => ?_)
    · replace w := w.1 c
      refine st_iconst (v := 0) dX0_papersOf_35 (by decide) ?_
      refine st_iadd dX0_papersOf_36 ?_
      refine st_istore_n (L' := [.ref a0, .int x1, .int (x2 + 0), .int x3]) dX0_papersOf_37 (by decide) rfl ?_
      refine st_iinc (L' := [.ref a0, .int x1, .int (x2 + 0), .int (x3 + 1)]) dX0_papersOf_38 rfl rfl (by decide) rfl ?_
      refine st_goto (tgt := 4) dX0_papersOf_41 (by decide) ?_
      exact w
    · replace w := w.2 c
      refine st_aload_n dX0_papersOf_21 rfl ?_
      refine st_getF (q := a0 + 4) fl_X0_21 fk_0_3 rfl dX0_papersOf_22 (bu_0 hb0) ?_
      refine st_iload_n dX0_papersOf_25 rfl ?_
      have hc1 := w.1
      replace w := w.2
      refine st_iald dX0_papersOf_26 (bu_4 hb0) hc1 ?_
      refine st_iload_n dX0_papersOf_27 rfl ?_
      refine st_icmp_ne (tgt := 35) dX0_papersOf_28 (by decide) (fun c => ?_) (fun c => ?_)
      · replace w := w.1 c
        refine st_iconst (v := 0) dX0_papersOf_35 (by decide) ?_
        refine st_iadd dX0_papersOf_36 ?_
        refine st_istore_n (L' := [.ref a0, .int x1, .int (x2 + 0), .int x3]) dX0_papersOf_37 (by decide) rfl ?_
        refine st_iinc (L' := [.ref a0, .int x1, .int (x2 + 0), .int (x3 + 1)]) dX0_papersOf_38 rfl rfl (by decide) rfl ?_
        refine st_goto (tgt := 4) dX0_papersOf_41 (by decide) ?_
        exact w
      · replace w := w.2 c
        refine st_iconst (v := 1) dX0_papersOf_31 (by decide) ?_
        refine st_goto (tgt := 36) dX0_papersOf_32 (by decide) ?_
        refine st_iadd dX0_papersOf_36 ?_
        refine st_istore_n (L' := [.ref a0, .int x1, .int (x2 + 1), .int x3]) dX0_papersOf_37 (by decide) rfl ?_
        refine st_iinc (L' := [.ref a0, .int x1, .int (x2 + 1), .int (x3 + 1)]) dX0_papersOf_38 rfl rfl (by decide) rfl ?_
        refine st_goto (tgt := 4) dX0_papersOf_41 (by decide) ?_
        exact w
set_option maxRecDepth 20000 in
set_option maxHeartbeats 2000000 in
theorem sX0_sizesInOf_0 {d : Nat} {h : am_H} {Z : Int32 → am_H → Prop} {a0 : Nat} (hb0 : am_bu a0) {x1 : Int32} (w : Ru mX0_sizesInOf none d 4 [.ref a0, .int x1, .int 0, .int 0] [] h Z) : Ru mX0_sizesInOf none d 0 [.ref a0, .int x1, .null, .null] [] h Z := by
  refine st_iconst (v := 0) dX0_sizesInOf_0 (by decide) ?_
  refine st_istore_n (L' := [.ref a0, .int x1, .int 0, .null]) dX0_sizesInOf_1 (by decide) rfl ?_
  refine st_iconst (v := 0) dX0_sizesInOf_2 (by decide) ?_
  refine st_istore_n (L' := [.ref a0, .int x1, .int 0, .int 0]) dX0_sizesInOf_3 (by decide) rfl ?_
  exact w
set_option maxRecDepth 20000 in
set_option maxHeartbeats 2000000 in
theorem sX0_sizesInOf_4 {d : Nat} {h : am_H} {Z : Int32 → am_H → Prop} {a0 : Nat} (hb0 : am_bu a0) {x1 : Int32} {x2 : Int32} {x3 : Int32} (hd : 3 ≤ d) (w : ((h.1 a0 8) ≤ x3 → Z x2 h) ∧ (¬ ((h.1 a0 8) ≤ x3) → (¬ (am_inn h a0 x3) → Ru mX0_sizesInOf none d 4 [.ref a0, .int x1, .int (x2 + 0), .int (x3 + 1)] [] h Z) ∧ (am_inn h a0 x3 → (vp_in x3 24 ∧ ((¬ (h.2.2 (a0 + 4) x3.toNatClampNeg) = x1 → Ru mX0_sizesInOf none d 4 [.ref a0, .int x1, .int (x2 + 0), .int (x3 + 1)] [] h Z) ∧ ((h.2.2 (a0 + 4) x3.toNatClampNeg) = x1 → Ru mX0_sizesInOf none d 4 [.ref a0, .int x1, .int (x2 + (h.2.2 (a0 + 5) x3.toNatClampNeg)), .int (x3 + 1)] [] h Z)))))) : Ru mX0_sizesInOf none d 4 [.ref a0, .int x1, .int x2, .int x3] [] h Z := by
  refine st_iload_n dX0_sizesInOf_4 rfl ?_
  refine st_aload_n dX0_sizesInOf_5 rfl ?_
  refine st_getI fl_X0_36 fk_0_8 dX0_sizesInOf_6 (bu_0 hb0) ?_
  refine st_icmp_ge (tgt := 49) dX0_sizesInOf_9 (by decide) (fun c => ?_) (fun c => ?_)
  · replace w := w.1 c
    refine st_iload_n dX0_sizesInOf_49 rfl ?_
    exact st_ireturn rfl rfl dX0_sizesInOf_50 w
  · replace w := w.2 c
    refine st_iload_n dX0_sizesInOf_12 rfl ?_
    refine st_aload_n dX0_sizesInOf_13 rfl ?_
    refine st_iload_n dX0_sizesInOf_14 rfl ?_
    refine st_callV (M' := mX0_isIn) [.int x3] [.int x2] dX0_sizesInOf_15 ml_X0_86 mf_X0_isIn mv_X0_isIn (bu_0 hb0) rfl rfl rfl (K := fun r h' => (am_b (am_inn h a0 x3)) = r ∧ h = h') ⟨2, by omega, iX0_isIn hb0 (by omega) ⟨rfl, rfl⟩⟩ (fun r1 h1 w1 => ?_)
    obtain ⟨rfl, rfl⟩ := w1
    show Ru mX0_sizesInOf none d 18 [.ref a0, .int x1, .int x2, .int x3] [.int (am_b (am_inn h a0 x3)), .int x2] h Z
    refine st_ifb_eq (tgt := 40) dX0_sizesInOf_18 (by decide) (fun c => ?_) (fun c => ?_)
    · replace w := w.1 c
      refine st_iconst (v := 0) dX0_sizesInOf_40 (by decide) ?_
      refine st_iadd dX0_sizesInOf_41 ?_
      refine st_istore_n (L' := [.ref a0, .int x1, .int (x2 + 0), .int x3]) dX0_sizesInOf_42 (by decide) rfl ?_
      refine st_iinc (L' := [.ref a0, .int x1, .int (x2 + 0), .int (x3 + 1)]) dX0_sizesInOf_43 rfl rfl (by decide) rfl ?_
      refine st_goto (tgt := 4) dX0_sizesInOf_46 (by decide) ?_
      exact w
    · replace w := w.2 c
      refine st_aload_n dX0_sizesInOf_21 rfl ?_
      refine st_getF (q := a0 + 4) fl_X0_21 fk_0_3 rfl dX0_sizesInOf_22 (bu_0 hb0) ?_
      refine st_iload_n dX0_sizesInOf_25 rfl ?_
      have hc1 := w.1
      replace w := w.2
      refine st_iald dX0_sizesInOf_26 (bu_4 hb0) hc1 ?_
      refine st_iload_n dX0_sizesInOf_27 rfl ?_
      refine st_icmp_ne (tgt := 40) dX0_sizesInOf_28 (by decide) (fun c => ?_) (fun c => ?_)
      · replace w := w.1 c
        refine st_iconst (v := 0) dX0_sizesInOf_40 (by decide) ?_
        refine st_iadd dX0_sizesInOf_41 ?_
        refine st_istore_n (L' := [.ref a0, .int x1, .int (x2 + 0), .int x3]) dX0_sizesInOf_42 (by decide) rfl ?_
        refine st_iinc (L' := [.ref a0, .int x1, .int (x2 + 0), .int (x3 + 1)]) dX0_sizesInOf_43 rfl rfl (by decide) rfl ?_
        refine st_goto (tgt := 4) dX0_sizesInOf_46 (by decide) ?_
        exact w
      · replace w := w.2 c
        refine st_aload_n dX0_sizesInOf_31 rfl ?_
        refine st_getF (q := a0 + 5) fl_X0_24 fk_0_4 rfl dX0_sizesInOf_32 (bu_0 hb0) ?_
        refine st_iload_n dX0_sizesInOf_35 rfl ?_
        refine st_iald dX0_sizesInOf_36 (bu_5 hb0) hc1 ?_
        refine st_goto (tgt := 41) dX0_sizesInOf_37 (by decide) ?_
        refine st_iadd dX0_sizesInOf_41 ?_
        refine st_istore_n (L' := [.ref a0, .int x1, .int (x2 + (h.2.2 (a0 + 5) x3.toNatClampNeg)), .int x3]) dX0_sizesInOf_42 (by decide) rfl ?_
        refine st_iinc (L' := [.ref a0, .int x1, .int (x2 + (h.2.2 (a0 + 5) x3.toNatClampNeg)), .int (x3 + 1)]) dX0_sizesInOf_43 rfl rfl (by decide) rfl ?_
        refine st_goto (tgt := 4) dX0_sizesInOf_46 (by decide) ?_
        exact w
set_option maxRecDepth 20000 in
set_option maxHeartbeats 2000000 in
theorem sX0_longestIn_0 {d : Nat} {h : am_H} {Z : Int32 → am_H → Prop} {a0 : Nat} (hb0 : am_bu a0) (w : Ru mX0_longestIn none d 5 [.ref a0, .int (-2), .int 0] [] h Z) : Ru mX0_longestIn none d 0 [.ref a0, .null, .null] [] h Z := by
  refine st_bipush (v := (-2)) dX0_longestIn_0 (by decide) ?_
  refine st_istore_n (L' := [.ref a0, .int (-2), .null]) dX0_longestIn_2 (by decide) rfl ?_
  refine st_iconst (v := 0) dX0_longestIn_3 (by decide) ?_
  refine st_istore_n (L' := [.ref a0, .int (-2), .int 0]) dX0_longestIn_4 (by decide) rfl ?_
  exact w
set_option maxRecDepth 20000 in
set_option maxHeartbeats 2000000 in
theorem sX0_longestIn_5 {d : Nat} {h : am_H} {Z : Int32 → am_H → Prop} {a0 : Nat} (hb0 : am_bu a0) {x1 : Int32} {x2 : Int32} (hd : 3 ≤ d) (w : ((h.1 a0 8) ≤ x2 → Z x1 h) ∧ (¬ ((h.1 a0 8) ≤ x2) → (¬ (am_inn h a0 x2) → Ru mX0_longestIn none d 5 [.ref a0, .int x1, .int (x2 + 1)] [] h Z) ∧ (am_inn h a0 x2 → (x1 < 0 → Ru mX0_longestIn none d 5 [.ref a0, .int x2, .int (x2 + 1)] [] h Z) ∧ (¬ (x1 < 0) → (vp_in x2 24 ∧ (vp_in x1 24 ∧ (((h.2.2 (a0 + 8) x2.toNatClampNeg) ≤ (h.2.2 (a0 + 8) x1.toNatClampNeg) → Ru mX0_longestIn none d 5 [.ref a0, .int x1, .int (x2 + 1)] [] h Z) ∧ (¬ ((h.2.2 (a0 + 8) x2.toNatClampNeg) ≤ (h.2.2 (a0 + 8) x1.toNatClampNeg)) → Ru mX0_longestIn none d 5 [.ref a0, .int x2, .int (x2 + 1)] [] h Z)))))))) : Ru mX0_longestIn none d 5 [.ref a0, .int x1, .int x2] [] h Z := by
  refine st_iload_n dX0_longestIn_5 rfl ?_
  refine st_aload_n dX0_longestIn_6 rfl ?_
  refine st_getI fl_X0_36 fk_0_8 dX0_longestIn_7 (bu_0 hb0) ?_
  refine st_icmp_ge (tgt := 48) dX0_longestIn_10 (by decide) (fun c => ?_) (fun c => ?_)
  · replace w := w.1 c
    refine st_iload_n dX0_longestIn_48 rfl ?_
    exact st_ireturn rfl rfl dX0_longestIn_49 w
  · replace w := w.2 c
    refine st_aload_n dX0_longestIn_13 rfl ?_
    refine st_iload_n dX0_longestIn_14 rfl ?_
    refine st_callV (M' := mX0_isIn) [.int x2] [] dX0_longestIn_15 ml_X0_86 mf_X0_isIn mv_X0_isIn (bu_0 hb0) rfl rfl rfl (K := fun r h' => (am_b (am_inn h a0 x2)) = r ∧ h = h') ⟨2, by omega, iX0_isIn hb0 (by omega) ⟨rfl, rfl⟩⟩ (fun r1 h1 w1 => ?_)
    obtain ⟨rfl, rfl⟩ := w1
    show Ru mX0_longestIn none d 18 [.ref a0, .int x1, .int x2] [.int (am_b (am_inn h a0 x2))] h Z
    refine st_ifb_eq (tgt := 42) dX0_longestIn_18 (by decide) (fun c => ?_) (fun c => ?_)
    · replace w := w.1 c
      refine st_iinc (L' := [.ref a0, .int x1, .int (x2 + 1)]) dX0_longestIn_42 rfl rfl (by decide) rfl ?_
      refine st_goto (tgt := 5) dX0_longestIn_45 (by decide) ?_
      exact w
    · replace w := w.2 c
      refine st_iload_n dX0_longestIn_21 rfl ?_
      refine st_if_lt (tgt := 40) dX0_longestIn_22 (by decide) (fun c => ?_) (fun c => ?_)
      · replace w := w.1 c
        refine st_iload_n dX0_longestIn_40 rfl ?_
        refine st_istore_n (L' := [.ref a0, .int x2, .int x2]) dX0_longestIn_41 (by decide) rfl ?_
        refine st_iinc (L' := [.ref a0, .int x2, .int (x2 + 1)]) dX0_longestIn_42 rfl rfl (by decide) rfl ?_
        refine st_goto (tgt := 5) dX0_longestIn_45 (by decide) ?_
        exact w
      · replace w := w.2 c
        refine st_aload_n dX0_longestIn_25 rfl ?_
        refine st_getF (q := a0 + 8) fl_X0_33 fk_0_7 rfl dX0_longestIn_26 (bu_0 hb0) ?_
        refine st_iload_n dX0_longestIn_29 rfl ?_
        have hc1 := w.1
        replace w := w.2
        refine st_iald dX0_longestIn_30 (bu_8 hb0) hc1 ?_
        refine st_aload_n dX0_longestIn_31 rfl ?_
        refine st_getF (q := a0 + 8) fl_X0_33 fk_0_7 rfl dX0_longestIn_32 (bu_0 hb0) ?_
        refine st_iload_n dX0_longestIn_35 rfl ?_
        have hc2 := w.1
        replace w := w.2
        refine st_iald dX0_longestIn_36 (bu_8 hb0) hc2 ?_
        refine st_icmp_le (tgt := 42) dX0_longestIn_37 (by decide) (fun c => ?_) (fun c => ?_)
        · replace w := w.1 c
          refine st_iinc (L' := [.ref a0, .int x1, .int (x2 + 1)]) dX0_longestIn_42 rfl rfl (by decide) rfl ?_
          refine st_goto (tgt := 5) dX0_longestIn_45 (by decide) ?_
          exact w
        · replace w := w.2 c
          refine st_iload_n dX0_longestIn_40 rfl ?_
          refine st_istore_n (L' := [.ref a0, .int x2, .int x2]) dX0_longestIn_41 (by decide) rfl ?_
          refine st_iinc (L' := [.ref a0, .int x2, .int (x2 + 1)]) dX0_longestIn_42 rfl rfl (by decide) rfl ?_
          refine st_goto (tgt := 5) dX0_longestIn_45 (by decide) ?_
          exact w
set_option maxRecDepth 20000 in
set_option maxHeartbeats 2000000 in
theorem sX0_takeTime_0 {d : Nat} {h : am_H} {Z : Int32 → am_H → Prop} {a0 : Nat} (hb0 : am_bu a0) {a1 : Nat} (hb1 : am_bu a1) (w : (∀ h1 : am_H, h1 = am_sI h a0 9 (h.1 a1 9) → (∀ h2 : am_H, h2 = am_sI h1 a0 10 (h1.1 a1 10) → (Z 0 h2)))) : Ru mX0_takeTime none d 0 [.ref a0, .ref a1] [] h Z := by
  refine st_aload_n dX0_takeTime_0 rfl ?_
  refine st_aload_n dX0_takeTime_1 rfl ?_
  refine st_getI fl_X0_40 fk_0_9 dX0_takeTime_2 (bu_0 hb1) ?_
  refine st_putI flp_X0_40 fk_0_9 dX0_takeTime_5 (bu_0 hb0) (fun h1 eh1 => ?_)
  replace w := w h1 eh1
  refine st_aload_n dX0_takeTime_8 rfl ?_
  refine st_aload_n dX0_takeTime_9 rfl ?_
  refine st_getI fl_X0_43 fk_0_10 dX0_takeTime_10 (bu_0 hb1) ?_
  refine st_putI flp_X0_43 fk_0_10 dX0_takeTime_13 (bu_0 hb0) (fun h2 eh2 => ?_)
  replace w := w h2 eh2
  exact st_return rfl dX0_takeTime_16 w
set_option maxRecDepth 20000 in
set_option maxHeartbeats 2000000 in
theorem sX0_copyFrom_0 {d : Nat} {h : am_H} {Z : Int32 → am_H → Prop} {a0 : Nat} (hb0 : am_bu a0) {a1 : Nat} (hb1 : am_bu a1) (hd : 1 ≤ d) (w : (∀ h1 : am_H, h1 = am_sR h (a0 + 1) (va_cpy (h.2.2 (a1 + 1)) (h.2.2 (a0 + 1)) 0 0 12) → (∀ h2 : am_H, h2 = am_sR h1 (a0 + 2) (va_cpy (h1.2.2 (a1 + 2)) (h1.2.2 (a0 + 2)) 0 0 12) → (∀ h3 : am_H, h3 = am_sR h2 (a0 + 3) (va_cpy (h2.2.2 (a1 + 3)) (h2.2.2 (a0 + 3)) 0 0 12) → (∀ h4 : am_H, h4 = am_sR h3 (a0 + 4) (va_cpy (h3.2.2 (a1 + 4)) (h3.2.2 (a0 + 4)) 0 0 24) → (∀ h5 : am_H, h5 = am_sR h4 (a0 + 5) (va_cpy (h4.2.2 (a1 + 5)) (h4.2.2 (a0 + 5)) 0 0 24) → (∀ h6 : am_H, h6 = am_sR h5 (a0 + 6) (va_cpy (h5.2.2 (a1 + 6)) (h5.2.2 (a0 + 6)) 0 0 24) → (∀ h7 : am_H, h7 = am_sR h6 (a0 + 7) (va_cpy (h6.2.2 (a1 + 7)) (h6.2.2 (a0 + 7)) 0 0 24) → (∀ h8 : am_H, h8 = am_sR h7 (a0 + 8) (va_cpy (h7.2.2 (a1 + 8)) (h7.2.2 (a0 + 8)) 0 0 24) → (∀ h9 : am_H, h9 = am_sI h8 a0 8 (h8.1 a1 8) → (am_cl mX0_takeTime d [.ref a0, .ref a1] h9 (fun r10 h11 => Z 0 h11)))))))))))) : Ru mX0_copyFrom none d 0 [.ref a0, .ref a1] [] h Z := by
  refine st_aload_n dX0_copyFrom_0 rfl ?_
  refine st_getF (q := a1 + 1) fl_X0_9 fk_0_0 rfl dX0_copyFrom_1 (bu_0 hb1) ?_
  refine st_iconst (v := 0) dX0_copyFrom_4 (by decide) ?_
  refine st_aload_n dX0_copyFrom_5 rfl ?_
  refine st_getF (q := a0 + 1) fl_X0_9 fk_0_0 rfl dX0_copyFrom_6 (bu_0 hb0) ?_
  refine st_iconst (v := 0) dX0_copyFrom_9 (by decide) ?_
  refine st_bipush (v := 12) dX0_copyFrom_10 (by decide) ?_
  refine st_copy (L := [.ref a0, .ref a1]) dX0_copyFrom_12 al_X0_52 ac_native ac_static ac_init (bu_1 hb1) (bu_1 hb0) (by decide) (by decide) (by decide) (by decide) (by decide) (by omega) rfl (fun h1 eh1 => ?_)
  replace w := w h1 eh1
  refine st_aload_n dX0_copyFrom_15 rfl ?_
  refine st_getF (q := a1 + 2) fl_X0_15 fk_0_1 rfl dX0_copyFrom_16 (bu_0 hb1) ?_
  refine st_iconst (v := 0) dX0_copyFrom_19 (by decide) ?_
  refine st_aload_n dX0_copyFrom_20 rfl ?_
  refine st_getF (q := a0 + 2) fl_X0_15 fk_0_1 rfl dX0_copyFrom_21 (bu_0 hb0) ?_
  refine st_iconst (v := 0) dX0_copyFrom_24 (by decide) ?_
  refine st_bipush (v := 12) dX0_copyFrom_25 (by decide) ?_
  refine st_copy (L := [.ref a0, .ref a1]) dX0_copyFrom_27 al_X0_52 ac_native ac_static ac_init (bu_2 hb1) (bu_2 hb0) (by decide) (by decide) (by decide) (by decide) (by decide) (by omega) rfl (fun h2 eh2 => ?_)
  replace w := w h2 eh2
  refine st_aload_n dX0_copyFrom_30 rfl ?_
  refine st_getF (q := a1 + 3) fl_X0_18 fk_0_2 rfl dX0_copyFrom_31 (bu_0 hb1) ?_
  refine st_iconst (v := 0) dX0_copyFrom_34 (by decide) ?_
  refine st_aload_n dX0_copyFrom_35 rfl ?_
  refine st_getF (q := a0 + 3) fl_X0_18 fk_0_2 rfl dX0_copyFrom_36 (bu_0 hb0) ?_
  refine st_iconst (v := 0) dX0_copyFrom_39 (by decide) ?_
  refine st_bipush (v := 12) dX0_copyFrom_40 (by decide) ?_
  refine st_copy (L := [.ref a0, .ref a1]) dX0_copyFrom_42 al_X0_52 ac_native ac_static ac_init (bu_3 hb1) (bu_3 hb0) (by decide) (by decide) (by decide) (by decide) (by decide) (by omega) rfl (fun h3 eh3 => ?_)
  replace w := w h3 eh3
  refine st_aload_n dX0_copyFrom_45 rfl ?_
  refine st_getF (q := a1 + 4) fl_X0_21 fk_0_3 rfl dX0_copyFrom_46 (bu_0 hb1) ?_
  refine st_iconst (v := 0) dX0_copyFrom_49 (by decide) ?_
  refine st_aload_n dX0_copyFrom_50 rfl ?_
  refine st_getF (q := a0 + 4) fl_X0_21 fk_0_3 rfl dX0_copyFrom_51 (bu_0 hb0) ?_
  refine st_iconst (v := 0) dX0_copyFrom_54 (by decide) ?_
  refine st_bipush (v := 24) dX0_copyFrom_55 (by decide) ?_
  refine st_copy (L := [.ref a0, .ref a1]) dX0_copyFrom_57 al_X0_52 ac_native ac_static ac_init (bu_4 hb1) (bu_4 hb0) (by decide) (by decide) (by decide) (by decide) (by decide) (by omega) rfl (fun h4 eh4 => ?_)
  replace w := w h4 eh4
  refine st_aload_n dX0_copyFrom_60 rfl ?_
  refine st_getF (q := a1 + 5) fl_X0_24 fk_0_4 rfl dX0_copyFrom_61 (bu_0 hb1) ?_
  refine st_iconst (v := 0) dX0_copyFrom_64 (by decide) ?_
  refine st_aload_n dX0_copyFrom_65 rfl ?_
  refine st_getF (q := a0 + 5) fl_X0_24 fk_0_4 rfl dX0_copyFrom_66 (bu_0 hb0) ?_
  refine st_iconst (v := 0) dX0_copyFrom_69 (by decide) ?_
  refine st_bipush (v := 24) dX0_copyFrom_70 (by decide) ?_
  refine st_copy (L := [.ref a0, .ref a1]) dX0_copyFrom_72 al_X0_52 ac_native ac_static ac_init (bu_5 hb1) (bu_5 hb0) (by decide) (by decide) (by decide) (by decide) (by decide) (by omega) rfl (fun h5 eh5 => ?_)
  replace w := w h5 eh5
  refine st_aload_n dX0_copyFrom_75 rfl ?_
  refine st_getF (q := a1 + 6) fl_X0_27 fk_0_5 rfl dX0_copyFrom_76 (bu_0 hb1) ?_
  refine st_iconst (v := 0) dX0_copyFrom_79 (by decide) ?_
  refine st_aload_n dX0_copyFrom_80 rfl ?_
  refine st_getF (q := a0 + 6) fl_X0_27 fk_0_5 rfl dX0_copyFrom_81 (bu_0 hb0) ?_
  refine st_iconst (v := 0) dX0_copyFrom_84 (by decide) ?_
  refine st_bipush (v := 24) dX0_copyFrom_85 (by decide) ?_
  refine st_copy (L := [.ref a0, .ref a1]) dX0_copyFrom_87 al_X0_52 ac_native ac_static ac_init (bu_6 hb1) (bu_6 hb0) (by decide) (by decide) (by decide) (by decide) (by decide) (by omega) rfl (fun h6 eh6 => ?_)
  replace w := w h6 eh6
  refine st_aload_n dX0_copyFrom_90 rfl ?_
  refine st_getF (q := a1 + 7) fl_X0_30 fk_0_6 rfl dX0_copyFrom_91 (bu_0 hb1) ?_
  refine st_iconst (v := 0) dX0_copyFrom_94 (by decide) ?_
  refine st_aload_n dX0_copyFrom_95 rfl ?_
  refine st_getF (q := a0 + 7) fl_X0_30 fk_0_6 rfl dX0_copyFrom_96 (bu_0 hb0) ?_
  refine st_iconst (v := 0) dX0_copyFrom_99 (by decide) ?_
  refine st_bipush (v := 24) dX0_copyFrom_100 (by decide) ?_
  refine st_copy (L := [.ref a0, .ref a1]) dX0_copyFrom_102 al_X0_52 ac_native ac_static ac_init (bu_7 hb1) (bu_7 hb0) (by decide) (by decide) (by decide) (by decide) (by decide) (by omega) rfl (fun h7 eh7 => ?_)
  replace w := w h7 eh7
  refine st_aload_n dX0_copyFrom_105 rfl ?_
  refine st_getF (q := a1 + 8) fl_X0_33 fk_0_7 rfl dX0_copyFrom_106 (bu_0 hb1) ?_
  refine st_iconst (v := 0) dX0_copyFrom_109 (by decide) ?_
  refine st_aload_n dX0_copyFrom_110 rfl ?_
  refine st_getF (q := a0 + 8) fl_X0_33 fk_0_7 rfl dX0_copyFrom_111 (bu_0 hb0) ?_
  refine st_iconst (v := 0) dX0_copyFrom_114 (by decide) ?_
  refine st_bipush (v := 24) dX0_copyFrom_115 (by decide) ?_
  refine st_copy (L := [.ref a0, .ref a1]) dX0_copyFrom_117 al_X0_52 ac_native ac_static ac_init (bu_8 hb1) (bu_8 hb0) (by decide) (by decide) (by decide) (by decide) (by decide) (by omega) rfl (fun h8 eh8 => ?_)
  replace w := w h8 eh8
  refine st_aload_n dX0_copyFrom_120 rfl ?_
  refine st_aload_n dX0_copyFrom_121 rfl ?_
  refine st_getI fl_X0_36 fk_0_8 dX0_copyFrom_122 (bu_0 hb1) ?_
  refine st_putI flp_X0_36 fk_0_8 dX0_copyFrom_125 (bu_0 hb0) (fun h9 eh9 => ?_)
  replace w := w h9 eh9
  refine st_aload_n dX0_copyFrom_128 rfl ?_
  refine st_aload_n dX0_copyFrom_129 rfl ?_
  refine st_callV (M' := mX0_takeTime) [.ref a1] [] dX0_copyFrom_130 ml_X0_58 mf_X0_takeTime mv_X0_takeTime (bu_0 hb0) rfl rfl rfl w (fun r10 h11 w => ?_)
  show Ru mX0_copyFrom none d 133 [.ref a0, .ref a1] [] h11 Z
  exact st_return rfl dX0_copyFrom_133 w
