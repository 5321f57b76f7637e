-- the reference's small functions
set_option maxRecDepth 20000 in
set_option maxHeartbeats 2000000 in
theorem sX11_in_0 {d : Nat} {h : am_H} {Z : Int32 → am_H → Prop} {x0 : Int32} {x1 : Int32} {x2 : Int32} (w : (x0 < x1 → Z 0 h) ∧ (¬ (x0 < x1) → (x2 < x0 → Z 0 h) ∧ (¬ (x2 < x0) → Z 1 h))) : Ru mX11_in none d 0 [.int x0, .int x1, .int x2] [] h Z := by
  refine st_iload_n dX11_in_0 rfl ?_
  refine st_iload_n dX11_in_1 rfl ?_
  refine st_icmp_lt (tgt := 14) dX11_in_2 (by decide) (fun c => ?_) (fun c => ?_)
  · replace w := w.1 c
    refine st_iconst (v := 0) dX11_in_14 (by decide) ?_
    exact st_ireturn rfl rfl dX11_in_15 w
  · replace w := w.2 c
    refine st_iload_n dX11_in_5 rfl ?_
    refine st_iload_n dX11_in_6 rfl ?_
    refine st_icmp_gt (tgt := 14) dX11_in_7 (by decide) (fun c => ?_) (fun c => ?_)
    · replace w := w.1 c
      refine st_iconst (v := 0) dX11_in_14 (by decide) ?_
      exact st_ireturn rfl rfl dX11_in_15 w
    · replace w := w.2 c
      refine st_iconst (v := 1) dX11_in_10 (by decide) ?_
      refine st_goto (tgt := 15) dX11_in_11 (by decide) ?_
      exact st_ireturn rfl rfl dX11_in_15 w
set_option maxRecDepth 20000 in
set_option maxHeartbeats 2000000 in
theorem sX11_min_0 {d : Nat} {h : am_H} {Z : Int32 → am_H → Prop} {x0 : Int32} {x1 : Int32} (w : (x1 ≤ x0 → Z x1 h) ∧ (¬ (x1 ≤ x0) → Z x0 h)) : Ru mX11_min none d 0 [.int x0, .int x1] [] h Z := by
  refine st_iload_n dX11_min_0 rfl ?_
  refine st_iload_n dX11_min_1 rfl ?_
  refine st_icmp_ge (tgt := 9) dX11_min_2 (by decide) (fun c => ?_) (fun c => ?_)
  · replace w := w.1 c
    refine st_iload_n dX11_min_9 rfl ?_
    exact st_ireturn rfl rfl dX11_min_10 w
  · replace w := w.2 c
    refine st_iload_n dX11_min_5 rfl ?_
    refine st_goto (tgt := 10) dX11_min_6 (by decide) ?_
    exact st_ireturn rfl rfl dX11_min_10 w
set_option maxRecDepth 20000 in
set_option maxHeartbeats 2000000 in
theorem sX11_max_0 {d : Nat} {h : am_H} {Z : Int32 → am_H → Prop} {x0 : Int32} {x1 : Int32} (w : (x0 ≤ x1 → Z x1 h) ∧ (¬ (x0 ≤ x1) → Z x0 h)) : Ru mX11_max none d 0 [.int x0, .int x1] [] h Z := by
  refine st_iload_n dX11_max_0 rfl ?_
  refine st_iload_n dX11_max_1 rfl ?_
  refine st_icmp_le (tgt := 9) dX11_max_2 (by decide) (fun c => ?_) (fun c => ?_)
  · replace w := w.1 c
    refine st_iload_n dX11_max_9 rfl ?_
    exact st_ireturn rfl rfl dX11_max_10 w
  · replace w := w.2 c
    refine st_iload_n dX11_max_5 rfl ?_
    refine st_goto (tgt := 10) dX11_max_6 (by decide) ?_
    exact st_ireturn rfl rfl dX11_max_10 w
set_option maxRecDepth 20000 in
set_option maxHeartbeats 2000000 in
theorem sX11_has_0 {d : Nat} {h : am_H} {Z : Int32 → am_H → Prop} {x0 : Int32} {x1 : Int32} (w : (¬ ((x0 >>> (x1 &&& 31)) &&& 1) = 1 → Z 0 h) ∧ (((x0 >>> (x1 &&& 31)) &&& 1) = 1 → Z 1 h)) : Ru mX11_has none d 0 [.int x0, .int x1] [] h Z := by
  refine st_iload_n dX11_has_0 rfl ?_
  refine st_iload_n dX11_has_1 rfl ?_
  refine st_ishr dX11_has_2 ?_
  refine st_iconst (v := 1) dX11_has_3 (by decide) ?_
  refine st_iand dX11_has_4 ?_
  refine st_iconst (v := 1) dX11_has_5 (by decide) ?_
  refine st_icmp_ne (tgt := 13) dX11_has_6 (by decide) (fun c => ?_) (fun c => ?_)
  · replace w := w.1 c
    refine st_iconst (v := 0) dX11_has_13 (by decide) ?_
    exact st_ireturn rfl rfl dX11_has_14 w
  · replace w := w.2 c
    refine st_iconst (v := 1) dX11_has_9 (by decide) ?_
    refine st_goto (tgt := 14) dX11_has_10 (by decide) ?_
    exact st_ireturn rfl rfl dX11_has_14 w
set_option maxRecDepth 20000 in
set_option maxHeartbeats 2000000 in
theorem sX11_octet_0 {d : Nat} {h : am_H} {Z : Int32 → am_H → Prop} {x1 : Int32} (w : (vp_in x1 260 ∧ (Z ((h.2.2 80 x1.toNatClampNeg) &&& 255) h))) : Ru mX11_octet none d 0 [.ref 73, .int x1] [] h Z := by
  refine st_aload_n dX11_octet_0 rfl ?_
  refine st_getF (q := 80) fl_X11_28 fk_11_8 rfl dX11_octet_1 sh_73 ?_
  refine st_iload_n dX11_octet_4 rfl ?_
  have hc1 := w.1
  replace w := w.2
  refine st_bald dX11_octet_5 sh_80 hc1 ?_
  refine st_sipush (v := 255) dX11_octet_6 (by decide) ?_
  refine st_iand dX11_octet_9 ?_
  exact st_ireturn rfl rfl dX11_octet_10 w
set_option maxRecDepth 20000 in
set_option maxHeartbeats 2000000 in
theorem sX11_here_0 {d : Nat} {h : am_H} {Z : Int32 → am_H → Prop}  (w : ((h.1 73 11) ≤ (h.1 73 10) → Z (-1) h) ∧ (¬ ((h.1 73 11) ≤ (h.1 73 10)) → (vp_in (h.1 73 10) 260 ∧ (Z ((h.2.2 80 (h.1 73 10).toNatClampNeg) &&& 255) h)))) : Ru mX11_here none d 0 [.ref 73] [] h Z := by
  refine st_aload_n dX11_here_0 rfl ?_
  refine st_getI fl_X11_164 fk_11_10 dX11_here_1 sh_73 ?_
  refine st_aload_n dX11_here_4 rfl ?_
  refine st_getI fl_X11_167 fk_11_11 dX11_here_5 sh_73 ?_
  refine st_icmp_ge (tgt := 27) dX11_here_8 (by decide) (fun c => ?_) (fun c => ?_)
  · replace w := w.1 c
    refine st_iconst (v := (-1)) dX11_here_27 (by decide) ?_
    exact st_ireturn rfl rfl dX11_here_28 w
  · replace w := w.2 c
    refine st_aload_n dX11_here_11 rfl ?_
    refine st_getF (q := 80) fl_X11_28 fk_11_8 rfl dX11_here_12 sh_73 ?_
    refine st_aload_n dX11_here_15 rfl ?_
    refine st_getI fl_X11_164 fk_11_10 dX11_here_16 sh_73 ?_
    have hc1 := w.1
    replace w := w.2
    refine st_bald dX11_here_19 sh_80 hc1 ?_
    refine st_sipush (v := 255) dX11_here_20 (by decide) ?_
    refine st_iand dX11_here_23 ?_
    refine st_goto (tgt := 28) dX11_here_24 (by decide) ?_
    exact st_ireturn rfl rfl dX11_here_28 w
set_option maxRecDepth 20000 in
set_option maxHeartbeats 2000000 in
theorem sX11_orNone_0 {d : Nat} {h : am_H} {Z : Int32 → am_H → Prop} {x0 : Int32} (w : (¬ x0 = (-1) → Z x0 h) ∧ (x0 = (-1) → Z (-2) h)) : Ru mX11_orNone none d 0 [.int x0] [] h Z := by
  refine st_iload_n dX11_orNone_0 rfl ?_
  refine st_iconst (v := (-1)) dX11_orNone_1 (by decide) ?_
  refine st_icmp_ne (tgt := 10) dX11_orNone_2 (by decide) (fun c => ?_) (fun c => ?_)
  · replace w := w.1 c
    refine st_iload_n dX11_orNone_10 rfl ?_
    exact st_ireturn rfl rfl dX11_orNone_11 w
  · replace w := w.2 c
    refine st_bipush (v := (-2)) dX11_orNone_5 (by decide) ?_
    refine st_goto (tgt := 11) dX11_orNone_7 (by decide) ?_
    exact st_ireturn rfl rfl dX11_orNone_11 w
theorem iX11_in {d : Nat} {h : am_H} {Z : Int32 → am_H → Prop} {x0 x1 x2 : Int32} (z : Z (am_b (x1 ≤ x0 ∧ x0 ≤ x2)) h) : Sp mX11_in d [.int x0, .int x1, .int x2] h Z := by
  refine Sp_of mf_X11_in rfl (Nat.le_of_ble_eq_true rfl) rfl ?_
  refine sX11_in_0 ⟨fun c => ?_, fun c => ⟨fun c2 => ?_, fun c2 => ?_⟩⟩
  · rwa [am_b0 (fun q => Int32.not_le.mpr c q.1)] at z
  · rwa [am_b0 (fun q => Int32.not_le.mpr c2 q.2)] at z
  · rwa [am_b1 ⟨Int32.not_lt.mp c, Int32.not_lt.mp c2⟩] at z
theorem iX11_min {d : Nat} {h : am_H} {Z : Int32 → am_H → Prop} {x0 x1 : Int32} (z : Z (am_min x0 x1) h) : Sp mX11_min d [.int x0, .int x1] h Z := by
  rw [← am_mn] at z
  refine Sp_of mf_X11_min rfl (Nat.le_of_ble_eq_true rfl) rfl ?_
  refine sX11_min_0 ⟨fun c => ?_, fun c => ?_⟩
  · rwa [if_neg (Int32.not_lt.mpr c)] at z
  · rwa [if_pos (Int32.not_le.mp c)] at z
theorem iX11_max {d : Nat} {h : am_H} {Z : Int32 → am_H → Prop} {x0 x1 : Int32} (z : Z (am_max x0 x1) h) : Sp mX11_max d [.int x0, .int x1] h Z := by
  rw [← am_mx] at z
  refine Sp_of mf_X11_max rfl (Nat.le_of_ble_eq_true rfl) rfl ?_
  refine sX11_max_0 ⟨fun c => ?_, fun c => ?_⟩
  · rwa [if_neg (Int32.not_lt.mpr c)] at z
  · rwa [if_pos (Int32.not_le.mp c)] at z
abbrev am_has (s k : Int32) : Prop := (s >>> (k &&& 31)) &&& 1 = 1
theorem iX11_has {d : Nat} {h : am_H} {Z : Int32 → am_H → Prop} {x0 x1 : Int32} (z : Z (am_b (am_has x0 x1)) h) : Sp mX11_has d [.int x0, .int x1] h Z := by
  refine Sp_of mf_X11_has rfl (Nat.le_of_ble_eq_true rfl) rfl ?_
  refine sX11_has_0 ⟨fun c => ?_, fun c => ?_⟩
  · rwa [am_b0 c] at z
  · rwa [am_b1 c] at z
theorem iX11_octet {d : Nat} {h : am_H} {Z : Int32 → am_H → Prop} {x1 : Int32} (hi : vp_in x1 260) (z : Z (h.2.2 80 x1.toNatClampNeg &&& 255) h) : Sp mX11_octet d [.ref 73, .int x1] h Z := by
  refine Sp_of mf_X11_octet rfl (Nat.le_of_ble_eq_true rfl) rfl ?_
  exact sX11_octet_0 ⟨hi, z⟩
theorem iX11_orNone {d : Nat} {h : am_H} {Z : Int32 → am_H → Prop} {x0 : Int32} (z : Z (if x0 = -1 then -2 else x0) h) : Sp mX11_orNone d [.int x0] h Z := by
  refine Sp_of mf_X11_orNone rfl (Nat.le_of_ble_eq_true rfl) rfl ?_
  refine sX11_orNone_0 ⟨fun c => ?_, fun c => ?_⟩
  · rwa [if_neg c] at z
  · rwa [if_pos c] at z
set_option maxRecDepth 20000 in
set_option maxHeartbeats 2000000 in
theorem sX11_isDrawer_0 {d : Nat} {h : am_H} {Z : Int32 → am_H → Prop} {x1 : Int32} (hd : 2 ≤ d) (w : (¬ ((0 : Int32) ≤ x1 ∧ x1 ≤ (11 : Int32)) → Z 0 h) ∧ ((0 : Int32) ≤ x1 ∧ x1 ≤ (11 : Int32) → (¬ (am_has (h.1 73 6) x1) → Z 0 h) ∧ (am_has (h.1 73 6) x1 → Z 1 h))) : Ru mX11_isDrawer none d 0 [.ref 73, .int x1] [] h Z := by
  refine st_iload_n dX11_isDrawer_0 rfl ?_
  refine st_iconst (v := 0) dX11_isDrawer_1 (by decide) ?_
  refine st_bipush (v := 11) dX11_isDrawer_2 (by decide) ?_
  refine st_callS (M' := mX11_in) [.int x1, .int 0, .int 11] [] dX11_isDrawer_4 ml_X11_125 mf_X11_in ms_X11_in rfl rfl rfl (K := fun r h' => (am_b ((0 : Int32) ≤ x1 ∧ x1 ≤ (11 : Int32))) = r ∧ h = h') ⟨1, by omega, iX11_in ⟨rfl, rfl⟩⟩ (fun r1 h1 w1 => ?_)
  obtain ⟨rfl, rfl⟩ := w1
  show Ru mX11_isDrawer none d 7 [.ref 73, .int x1] [.int (am_b ((0 : Int32) ≤ x1 ∧ x1 ≤ (11 : Int32)))] h Z
  refine st_ifb_eq (tgt := 25) dX11_isDrawer_7 (by decide) (fun c => ?_) (fun c => ?_)
  · replace w := w.1 c
    refine st_iconst (v := 0) dX11_isDrawer_25 (by decide) ?_
    exact st_ireturn rfl rfl dX11_isDrawer_26 w
  · replace w := w.2 c
    refine st_aload_n dX11_isDrawer_10 rfl ?_
    refine st_getI fl_X11_129 fk_11_6 dX11_isDrawer_11 sh_73 ?_
    refine st_iload_n dX11_isDrawer_14 rfl ?_
    refine st_callS (M' := mX11_has) [.int (h.1 73 6), .int x1] [] dX11_isDrawer_15 ml_X11_133 mf_X11_has ms_X11_has rfl rfl rfl (K := fun r h' => (am_b (am_has (h.1 73 6) x1)) = r ∧ h = h') ⟨1, by omega, iX11_has ⟨rfl, rfl⟩⟩ (fun r1 h1 w1 => ?_)
    obtain ⟨rfl, rfl⟩ := w1
    show Ru mX11_isDrawer none d 18 [.ref 73, .int x1] [.int (am_b (am_has (h.1 73 6) x1))] h Z
    refine st_ifb_eq (tgt := 25) dX11_isDrawer_18 (by decide) (fun c => ?_) (fun c => ?_)
    · replace w := w.1 c
      refine st_iconst (v := 0) dX11_isDrawer_25 (by decide) ?_
      exact st_ireturn rfl rfl dX11_isDrawer_26 w
    · replace w := w.2 c
      refine st_iconst (v := 1) dX11_isDrawer_21 (by decide) ?_
      refine st_goto (tgt := 26) dX11_isDrawer_22 (by decide) ?_
      exact st_ireturn rfl rfl dX11_isDrawer_26 w
set_option maxRecDepth 20000 in
set_option maxHeartbeats 2000000 in
theorem sX11_isPaper_0 {d : Nat} {h : am_H} {Z : Int32 → am_H → Prop} {x1 : Int32} (hd : 2 ≤ d) (w : Z (am_b ((0 : Int32) ≤ x1 ∧ x1 ≤ ((h.1 73 7) - 1))) h) : Ru mX11_isPaper none d 0 [.ref 73, .int x1] [] h Z := by
  refine st_iload_n dX11_isPaper_0 rfl ?_
  refine st_iconst (v := 0) dX11_isPaper_1 (by decide) ?_
  refine st_aload_n dX11_isPaper_2 rfl ?_
  refine st_getI fl_X11_137 fk_11_7 dX11_isPaper_3 sh_73 ?_
  refine st_iconst (v := 1) dX11_isPaper_6 (by decide) ?_
  refine st_isub dX11_isPaper_7 ?_
  refine st_callS (M' := mX11_in) [.int x1, .int 0, .int ((h.1 73 7) - 1)] [] dX11_isPaper_8 ml_X11_125 mf_X11_in ms_X11_in rfl rfl rfl (K := fun r h' => (am_b ((0 : Int32) ≤ x1 ∧ x1 ≤ ((h.1 73 7) - 1))) = r ∧ h = h') ⟨1, by omega, iX11_in ⟨rfl, rfl⟩⟩ (fun r1 h1 w1 => ?_)
  obtain ⟨rfl, rfl⟩ := w1
  show Ru mX11_isPaper none d 11 [.ref 73, .int x1] [.int (am_b ((0 : Int32) ≤ x1 ∧ x1 ≤ ((h.1 73 7) - 1)))] h Z
  exact st_ireturn rfl (am_nbc _) dX11_isPaper_11 w
abbrev am_mT (h : am_H) (x : Int32) : Prop := (0 ≤ x ∧ x ≤ 11) ∧ am_has (h.1 73 6) x
theorem iX11_isDrawer {d : Nat} {h : am_H} {Z : Int32 → am_H → Prop} {x1 : Int32} (hd : 2 ≤ d) (z : Z (am_b (am_mT h x1)) h) : Sp mX11_isDrawer d [.ref 73, .int x1] h Z := by
  refine Sp_of mf_X11_isDrawer rfl (Nat.le_of_ble_eq_true rfl) rfl ?_
  refine sX11_isDrawer_0 hd ⟨fun c => ?_, fun c => ⟨fun c2 => ?_, fun c2 => ?_⟩⟩
  · rwa [am_b0 (fun q => c q.1)] at z
  · rwa [am_b0 (fun q => c2 q.2)] at z
  · rwa [am_b1 ⟨c, c2⟩] at z
abbrev am_mP (h : am_H) (x : Int32) : Prop := 0 ≤ x ∧ x ≤ h.1 73 7 - 1
theorem iX11_isPaper {d : Nat} {h : am_H} {Z : Int32 → am_H → Prop} {x1 : Int32} (hd : 2 ≤ d) (z : Z (am_b (am_mP h x1)) h) : Sp mX11_isPaper d [.ref 73, .int x1] h Z := by
  refine Sp_of mf_X11_isPaper rfl (Nat.le_of_ble_eq_true rfl) rfl ?_
  exact sX11_isPaper_0 hd z
