-- the reference's small functions over its cabinet
set_option maxRecDepth 20000 in
set_option maxHeartbeats 2000000 in
theorem sX11_fullOf_0 {d : Nat} {h : am_H} {Z : Int32 → am_H → Prop} {x1 : Int32} (w : Ru mX11_fullOf none d 4 [.ref 73, .int x1, .int 0, .int 0] [] h Z) : Ru mX11_fullOf none d 0 [.ref 73, .int x1, .null, .null] [] h Z := by
  refine st_iconst (v := 0) dX11_fullOf_0 (by decide) ?_
  refine st_istore_n (L' := [.ref 73, .int x1, .int 0, .null]) dX11_fullOf_1 (by decide) rfl ?_
  refine st_iconst (v := 0) dX11_fullOf_2 (by decide) ?_
  refine st_istore_n (L' := [.ref 73, .int x1, .int 0, .int 0]) dX11_fullOf_3 (by decide) rfl ?_
  exact w
set_option maxRecDepth 20000 in
set_option maxHeartbeats 2000000 in
theorem sX11_fullOf_4 {d : Nat} {h : am_H} {Z : Int32 → am_H → Prop} {x1 : Int32} {x2 : Int32} {x3 : Int32} (w : ((h.1 73 7) ≤ x3 → Z x2 h) ∧ (¬ ((h.1 73 7) ≤ x3) → (vp_in x3 74 ∧ ((¬ (h.2.2 74 x3.toNatClampNeg) = x1 → Ru mX11_fullOf none d 4 [.ref 73, .int x1, .int x2, .int (x3 + 1)] [] h Z) ∧ ((h.2.2 74 x3.toNatClampNeg) = x1 → (vp_in x3 24 ∧ (Ru mX11_fullOf none d 4 [.ref 73, .int x1, .int (x2 + (h.2.2 79 x3.toNatClampNeg)), .int (x3 + 1)] [] h Z))))))) : Ru mX11_fullOf none d 4 [.ref 73, .int x1, .int x2, .int x3] [] h Z := by
  refine st_iload_n dX11_fullOf_4 rfl ?_
  refine st_aload_n dX11_fullOf_5 rfl ?_
  refine st_getI fl_X11_137 fk_11_7 dX11_fullOf_6 sh_73 ?_
  refine st_icmp_ge (tgt := 39) dX11_fullOf_9 (by decide) (fun c => ?_) (fun c => ?_)
  · replace w := w.1 c
    refine st_iload_n dX11_fullOf_39 rfl ?_
    exact st_ireturn rfl rfl dX11_fullOf_40 w
  · replace w := w.2 c
    refine st_aload_n dX11_fullOf_12 rfl ?_
    refine st_getF (q := 74) fl_X11_7 fk_11_0 rfl dX11_fullOf_13 sh_73 ?_
    refine st_iconst (v := 0) dX11_fullOf_16 (by decide) ?_
    refine st_iload_n dX11_fullOf_17 rfl ?_
    refine st_iadd0 dX11_fullOf_18 ?_
    have hc1 := w.1
    replace w := w.2
    refine st_iald dX11_fullOf_19 sh_74 hc1 ?_
    refine st_iload_n dX11_fullOf_20 rfl ?_
    refine st_icmp_ne (tgt := 33) dX11_fullOf_21 (by decide) (fun c => ?_) (fun c => ?_)
    · replace w := w.1 c
      refine st_iinc (L' := [.ref 73, .int x1, .int x2, .int (x3 + 1)]) dX11_fullOf_33 rfl rfl (by decide) rfl ?_
      refine st_goto (tgt := 4) dX11_fullOf_36 (by decide) ?_
      exact w
    · replace w := w.2 c
      refine st_iload_n dX11_fullOf_24 rfl ?_
      refine st_aload_n dX11_fullOf_25 rfl ?_
      refine st_getF (q := 79) fl_X11_25 fk_11_5 rfl dX11_fullOf_26 sh_73 ?_
      refine st_iload_n dX11_fullOf_29 rfl ?_
      have hc2 := w.1
      replace w := w.2
      refine st_iald dX11_fullOf_30 sh_79 hc2 ?_
      refine st_iadd dX11_fullOf_31 ?_
      refine st_istore_n (L' := [.ref 73, .int x1, .int (x2 + (h.2.2 79 x3.toNatClampNeg)), .int x3]) dX11_fullOf_32 (by decide) rfl ?_
      refine st_iinc (L' := [.ref 73, .int x1, .int (x2 + (h.2.2 79 x3.toNatClampNeg)), .int (x3 + 1)]) dX11_fullOf_33 rfl rfl (by decide) rfl ?_
      refine st_goto (tgt := 4) dX11_fullOf_36 (by decide) ?_
      exact w
theorem q_w1_in {k : Nat} (h : k < 12) : q_w1 k = nI k := if_pos h
theorem q_w1_out : q_w1 12 = -1 := by decide
theorem q_w1_eq {B : am_AB} (hB : q_ok B) {p i : Nat} (hp : p < q_n B) (hi : i < 12) : q_w1 (q_w B p) = nI i ↔ q_w B p = i := by
  rcases (hB.2.2.2.2 p hp).2.2.1 with e | ⟨e, -⟩
  · rw [e, q_w1_out]
    exact ⟨fun q => absurd (show (-1 : Int32) < 0 by decide) (by rw [q]; exact nI_pos (by omega)), fun q => by omega⟩
  · rw [q_w1_in e]; exact nI_eq (by omega) (by omega)
theorem q_w1_o {B : am_AB} (hB : q_ok B) {p : Nat} (hp : p < q_n B) : q_w1 (q_w B p) = -1 ↔ q_w B p = 12 := by
  rcases (hB.2.2.2.2 p hp).2.2.1 with e | ⟨e, -⟩
  · rw [e, q_w1_out]; simp
  · rw [q_w1_in e]
    exact ⟨fun q => absurd (show (-1 : Int32) < 0 by decide) (by rw [← q]; exact nI_pos (by omega)), fun q => by omega⟩
theorem q_w2_eq {B : am_AB} (hB : q_ok B) {p i : Nat} (hp : p < q_n B) (hi : i < 12) : q_w2 (q_w B p) = nI i ↔ q_w B p = i := by
  rcases (hB.2.2.2.2 p hp).2.2.1 with e | ⟨e, -⟩
  · rw [e, q_w2_out]
    exact ⟨fun q => absurd (show (-2 : Int32) < 0 by decide) (by rw [q]; exact nI_pos (by omega)), fun q => by omega⟩
  · rw [q_w2_in e]; exact nI_eq (by omega) (by omega)
theorem q_w2_o {B : am_AB} (hB : q_ok B) {p : Nat} (hp : p < q_n B) : q_w2 (q_w B p) = -2 ↔ q_w B p = 12 := by
  rcases (hB.2.2.2.2 p hp).2.2.1 with e | ⟨e, -⟩
  · rw [e, q_w2_out]; simp
  · rw [q_w2_in e]
    exact ⟨fun q => absurd (show (-2 : Int32) < 0 by decide) (by rw [← q]; exact nI_pos (by omega)), fun q => by omega⟩
section
variable {d : Nat} {h : am_H} {Z : Int32 → am_H → Prop} {B : am_AB} {i p : Nat}
theorem m_full (hN : q_IN h 74 B) (hM : q_IM h B) (hB : q_ok B) (hi : i < 12) (z : Z (nI (q_F B i)) h) : ∀ (m k : Nat), k + m = q_n B → Ru mX11_fullOf none d 4 [.ref 73, .int (nI i), .int (nI (am_sm (fun p => if q_w B p = i then q_si B p else 0) k)), .int (nI k)] [] h Z
  | 0, k, hk => by
    have hn := hB.1
    have e : k = q_n B := by omega
    subst e
    refine sX11_fullOf_4 ⟨fun _ => z, fun c => absurd (by rw [hM.1]; exact Int32.le_refl _) c⟩
  | m + 1, k, hk => by
    have hn := hB.1
    have ih := m_full hN hM hB hi z m (k + 1) (by omega)
    refine sX11_fullOf_4 ⟨fun c => absurd c (by rw [hM.1]; exact nI_ge (by omega) (by omega)), fun _ => ⟨vp_in_nI (by omega) (by omega), ?_⟩⟩
    rw [nI_clamp (by omega), (hN.2.2 k (by omega)).1, (hM.2.2.2 k (by omega)).2, nI_1, nI_add, q_w1_eq hB (by omega) hi]
    rw [am_sm_s] at ih
    refine ⟨fun c => ?_, fun c => ⟨vp_in_nI (by omega) (by omega), ?_⟩⟩
    · rw [if_neg c] at ih; exact ih
    · rw [if_pos c] at ih; exact ih
theorem iX11_fullOf (hN : q_IN h 74 B) (hM : q_IM h B) (hB : q_ok B) (hi : i < 12) (z : Z (nI (q_F B i)) h) : Sp mX11_fullOf d [.ref 73, .int (nI i)] h Z :=
  Sp_of mf_X11_fullOf rfl (Nat.le_of_ble_eq_true rfl) rfl (sX11_fullOf_0 (m_full hN hM hB hi z (q_n B) 0 (by omega)))
end
set_option maxRecDepth 20000 in
set_option maxHeartbeats 2000000 in
theorem sX11_roomLeft_0 {d : Nat} {h : am_H} {Z : Int32 → am_H → Prop} {x1 : Int32} (w : (vp_in x1 12 ∧ (am_cl mX11_fullOf d [.ref 73, .int x1] h (fun r2 h3 => Z ((h.2.2 77 x1.toNatClampNeg) - r2) h3)))) : Ru mX11_roomLeft none d 0 [.ref 73, .int x1] [] h Z := by
  refine st_aload_n dX11_roomLeft_0 rfl ?_
  refine st_getF (q := 77) fl_X11_19 fk_11_3 rfl dX11_roomLeft_1 sh_73 ?_
  refine st_iload_n dX11_roomLeft_4 rfl ?_
  have hc1 := w.1
  replace w := w.2
  refine st_iald dX11_roomLeft_5 sh_77 hc1 ?_
  refine st_aload_n dX11_roomLeft_6 rfl ?_
  refine st_iload_n dX11_roomLeft_7 rfl ?_
  refine st_callV (M' := mX11_fullOf) [.int x1] [.int (h.2.2 77 x1.toNatClampNeg)] dX11_roomLeft_8 ml_X11_140 mf_X11_fullOf mv_X11_fullOf sh_73 rfl rfl rfl w (fun r2 h3 w => ?_)
  show Ru mX11_roomLeft none d 11 [.ref 73, .int x1] [.int r2, .int (h.2.2 77 x1.toNatClampNeg)] h3 Z
  refine st_isub dX11_roomLeft_11 ?_
  exact st_ireturn rfl rfl dX11_roomLeft_12 w
set_option maxRecDepth 20000 in
set_option maxHeartbeats 2000000 in
theorem sX11_takesOut_0 {d : Nat} {h : am_H} {Z : Int32 → am_H → Prop} {x1 : Int32} (w : (vp_in x1 74 ∧ (∀ h2 : am_H, h2 = am_sR h 74 (upd (h.2.2 74) x1.toNatClampNeg (-1)) → (vp_in (24 + x1) 74 ∧ (∀ h4 : am_H, h4 = am_sR h2 74 (upd (h2.2.2 74) (24 + x1).toNatClampNeg 0) → (vp_in (48 + x1) 74 ∧ (∀ h6 : am_H, h6 = am_sR h4 74 (upd (h4.2.2 74) (48 + x1).toNatClampNeg 0) → (Z 0 h6)))))))) : Ru mX11_takesOut none d 0 [.ref 73, .int x1] [] h Z := by
  refine st_aload_n dX11_takesOut_0 rfl ?_
  refine st_getF (q := 74) fl_X11_7 fk_11_0 rfl dX11_takesOut_1 sh_73 ?_
  refine st_iconst (v := 0) dX11_takesOut_4 (by decide) ?_
  refine st_iload_n dX11_takesOut_5 rfl ?_
  refine st_iadd0 dX11_takesOut_6 ?_
  refine st_iconst (v := (-1)) dX11_takesOut_7 (by decide) ?_
  have hc1 := w.1
  replace w := w.2
  refine st_iast dX11_takesOut_8 sh_74 hc1 (fun h2 eh2 => ?_)
  replace w := w h2 eh2
  refine st_aload_n dX11_takesOut_9 rfl ?_
  refine st_getF (q := 74) fl_X11_7 fk_11_0 rfl dX11_takesOut_10 sh_73 ?_
  refine st_bipush (v := 24) dX11_takesOut_13 (by decide) ?_
  refine st_iload_n dX11_takesOut_15 rfl ?_
  refine st_iadd dX11_takesOut_16 ?_
  refine st_iconst (v := 0) dX11_takesOut_17 (by decide) ?_
  have hc3 := w.1
  replace w := w.2
  refine st_iast dX11_takesOut_18 sh_74 hc3 (fun h4 eh4 => ?_)
  replace w := w h4 eh4
  refine st_aload_n dX11_takesOut_19 rfl ?_
  refine st_getF (q := 74) fl_X11_7 fk_11_0 rfl dX11_takesOut_20 sh_73 ?_
  refine st_bipush (v := 48) dX11_takesOut_23 (by decide) ?_
  refine st_iload_n dX11_takesOut_25 rfl ?_
  refine st_iadd dX11_takesOut_26 ?_
  refine st_iconst (v := 0) dX11_takesOut_27 (by decide) ?_
  have hc5 := w.1
  replace w := w.2
  refine st_iast dX11_takesOut_28 sh_74 hc5 (fun h6 eh6 => ?_)
  replace w := w h6 eh6
  exact st_return rfl dX11_takesOut_29 w
section
variable {d : Nat} {h : am_H} {Z : Int32 → am_H → Prop} {B : am_AB} {i p : Nat}
theorem iX11_roomLeft (hd : 2 ≤ d) (hN : q_IN h 74 B) (hM : q_IM h B) (hB : q_ok B) (hi : i < 12) (hr : 0 < q_r B i) (z : Z (nI (q_r B i - q_F B i)) h) : Sp mX11_roomLeft d [.ref 73, .int (nI i)] h Z := by
  refine Sp_of mf_X11_roomLeft rfl (Nat.le_of_ble_eq_true rfl) rfl (sX11_roomLeft_0 ⟨vp_in_nI (by omega) (by omega), ⟨1, by omega, iX11_fullOf hN hM hB hi ?_⟩⟩)
  rw [nI_clamp (by omega), hM.2.2.1 i hi hr, pk_sub (hB.2.2.2.1 i hi).2]
  exact z
theorem q_mT (hM : q_IM h B) {x : Int32} : am_mT h x ↔ ∃ i, i < 12 ∧ x = nI i ∧ 0 < q_r B i := by
  obtain ⟨S, hS, e, hb⟩ := hM.2.1
  unfold am_mT
  rw [e]
  constructor
  · intro q
    obtain ⟨i, hi, rfl⟩ := am_natle (N := 11) (by omega) q.1.1 q.1.2
    refine ⟨i, by omega, rfl, (hb i (by omega)).mp ?_⟩
    exact (am_bit_n (by omega) (by omega)).mp q.2
  · rintro ⟨i, hi, rfl, hr⟩
    exact ⟨⟨nI_pos' (by omega), nI_le (b := 11) (by omega) (by omega)⟩, (am_bit_n (by omega) (by omega)).mpr ((hb i hi).mpr hr)⟩
theorem q_mP (hM : q_IM h B) (hB : q_ok B) {x : Int32} : am_mP h x ↔ ∃ p, p < q_n B ∧ x = nI p := by
  have hn := hB.1
  unfold am_mP
  rw [hM.1]
  rcases Nat.eq_zero_or_pos (q_n B) with e | e
  · rw [e]
    constructor
    · intro q
      exact absurd (Int32.le_trans q.1 q.2) (by decide)
    · rintro ⟨p, hp, -⟩; omega
  · obtain ⟨k, hk⟩ : ∃ k, q_n B = k + 1 := ⟨q_n B - 1, by omega⟩
    rw [hk, nI_pred]
    constructor
    · intro q
      obtain ⟨p, hp, rfl⟩ := am_natle (by omega) q.1 q.2
      exact ⟨p, by omega, rfl⟩
    · rintro ⟨p, hp, rfl⟩
      exact ⟨nI_pos' (by omega), nI_le (by omega) (by omega)⟩
theorem iX11_takesOut (hN : q_IN h 74 B) (hB : q_ok B) (hp : p < q_n B) (z : ∀ f, q_IN (am_sR h 74 f) 74 (q_out B p) → Z 0 (am_sR h 74 f)) : Sp mX11_takesOut d [.ref 73, .int (nI p)] h Z := by
  have hn := hB.1
  have e24 : (24 : Int32) + nI p = nI (24 + p) := nI_add 24 p
  have e48 : (48 : Int32) + nI p = nI (48 + p) := nI_add 48 p
  refine Sp_of mf_X11_takesOut rfl (Nat.le_of_ble_eq_true rfl) rfl (sX11_takesOut_0 ⟨vp_in_nI (by omega) (by omega), fun h2 e2 => ⟨by rw [e24]; exact vp_in_nI (by omega) (by omega), fun h4 e4 => ⟨by rw [e48]; exact vp_in_nI (by omega) (by omega), fun h6 e6 => ?_⟩⟩⟩)
  rw [nI_clamp (by omega)] at e2
  rw [e24, nI_clamp (by omega), e2, am_gRs, am_sR_2] at e4
  rw [e48, nI_clamp (by omega), e4, am_gRs, am_sR_2] at e6
  rw [e6]
  refine z _ ⟨?_, ?_, fun q hq => ?_⟩
  · rw [am_gRs]; simp only [upd, show ¬ 72 = 48 + p by omega, show ¬ 72 = 24 + p by omega, show ¬ 72 = p by omega, if_false]; exact hN.1
  · rw [am_gRs]; simp only [upd, show ¬ 73 = 48 + p by omega, show ¬ 73 = 24 + p by omega, show ¬ 73 = p by omega, if_false]; exact hN.2.1
  · have hq' : q < q_n B := hq
    have h9 := hN.2.2 q hq
    rw [am_gRs]
    by_cases c : q = p
    · subst c
      refine ⟨?_, ?_, ?_⟩
      · simp only [upd, show ¬ q = 48 + q by omega, show ¬ q = 24 + q by omega, if_false, if_true]
        show -1 = q_w1 (am_un _ _ _ q); rw [am_un_s, q_w1_out]
      · simp only [upd, show ¬ 24 + q = 48 + q by omega, if_false, if_true]
        show 0 = nI (am_un _ _ _ q); rw [am_un_s]; rfl
      · simp only [upd, if_true]
        show 0 = nI (am_un _ _ _ q); rw [am_un_s]; rfl
    · refine ⟨?_, ?_, ?_⟩
      · simp only [upd, show ¬ q = 48 + p by omega, show ¬ q = 24 + p by omega, show ¬ q = p from c, if_false]
        show _ = q_w1 (am_un _ _ _ q); rw [am_un_n _ _ c]; exact h9.1
      · simp only [upd, show ¬ 24 + q = 48 + p by omega, show ¬ 24 + q = 24 + p by omega, show ¬ 24 + q = p by omega, if_false]
        show _ = nI (am_un _ _ _ q); rw [am_un_n _ _ c]; exact h9.2.1
      · simp only [upd, show ¬ 48 + q = 48 + p by omega, show ¬ 48 + q = 24 + p by omega, show ¬ 48 + q = p by omega, if_false]
        show _ = nI (am_un _ _ _ q); rw [am_un_n _ _ c]; exact h9.2.2
end
set_option maxRecDepth 20000 in
set_option maxHeartbeats 2000000 in
theorem sX10_put_0 {d : Nat} {h : am_H} {Z : Int32 → am_H → Prop} {x1 : Int32} {x2 : Int32} (hd : 3 ≤ d) (w : (am_bu (h.2.1 0 10) ∧ ((am_pap h (h.2.1 0 10) x1 → (¬ x2 = (-1) → (am_told h (h.2.1 0 10) x2 → (vp_in x1 24 ∧ ((¬ (h.2.2 (h.2.1 0 10 + 6) x1.toNatClampNeg) = x2 → (am_fit h (h.2.1 0 10) x1 x2 → am_cl mX0_move d [.ref (h.2.1 0 10), .int x1, .int x2] h (fun r3 h4 => Z 1 h4)) ∧ (¬ (am_fit h (h.2.1 0 10) x1 x2) → Z 0 h)) ∧ ((h.2.2 (h.2.1 0 10 + 6) x1.toNatClampNeg) = x2 → Z 1 h)))) ∧ (¬ (am_told h (h.2.1 0 10) x2) → Z 0 h)) ∧ (x2 = (-1) → am_cl mX0_takeOut d [.ref (h.2.1 0 10), .int x1] h (fun r5 h6 => Z 1 h6))) ∧ (¬ (am_pap h (h.2.1 0 10) x1) → Z 0 h)))) : Ru mX10_put none d 0 [.ref 0, .int x1, .int x2] [] h Z := by
  refine st_aload_n dX10_put_0 rfl ?_
  refine st_getP fl_X10_72 fk_10_10 dX10_put_1 sh_0 ?_
  have hc1 := w.1
  replace w := w.2
  refine st_iload_n dX10_put_4 rfl ?_
  refine st_callV (M' := mX0_hasPaper) [.int x1] [] dX10_put_5 ml_X10_101 mf_X0_hasPaper mv_X0_hasPaper (bu_0 hc1) rfl rfl rfl (K := fun r h' => (am_b (am_pap h (h.2.1 0 10) x1)) = r ∧ h = h') ⟨1, by omega, iX0_hasPaper hc1 ⟨rfl, rfl⟩⟩ (fun r1 h1 w1 => ?_)
  obtain ⟨rfl, rfl⟩ := w1
  show Ru mX10_put none d 8 [.ref 0, .int x1, .int x2] [.int (am_b (am_pap h (h.2.1 0 10) x1))] h Z
  refine st_ifb_ne (tgt := 13) dX10_put_8 (by decide) (fun c => ?_) (fun c => ?_)
  · replace w := w.1 c
    refine st_iload_n dX10_put_13 rfl ?_
    refine st_iconst (v := (-1)) dX10_put_14 (by decide) ?_
    refine st_icmp_ne (tgt := 28) dX10_put_15 (by decide) (fun c => ?_) (fun c => ?_)
    · replace w := w.1 c
      refine st_aload_n dX10_put_28 rfl ?_
      refine st_getP fl_X10_72 fk_10_10 dX10_put_29 sh_0 ?_
      refine st_iload_n dX10_put_32 rfl ?_
      refine st_callV (M' := mX0_isTold) [.int x2] [] dX10_put_33 ml_X10_109 mf_X0_isTold mv_X0_isTold (bu_0 hc1) rfl rfl rfl (K := fun r h' => (am_b (am_told h (h.2.1 0 10) x2)) = r ∧ h = h') ⟨1, by omega, iX0_isTold hc1 ⟨rfl, rfl⟩⟩ (fun r1 h1 w1 => ?_)
      obtain ⟨rfl, rfl⟩ := w1
      show Ru mX10_put none d 36 [.ref 0, .int x1, .int x2] [.int (am_b (am_told h (h.2.1 0 10) x2))] h Z
      refine st_ifb_ne (tgt := 41) dX10_put_36 (by decide) (fun c => ?_) (fun c => ?_)
      · replace w := w.1 c
        refine st_aload_n dX10_put_41 rfl ?_
        refine st_getP fl_X10_72 fk_10_10 dX10_put_42 sh_0 ?_
        refine st_getF (q := h.2.1 0 10 + 6) fl_X10_112 fk_0_5 rfl dX10_put_45 (bu_0 hc1) ?_
        refine st_iload_n dX10_put_48 rfl ?_
        have hc2 := w.1
        replace w := w.2
        refine st_iald dX10_put_49 (bu_6 hc1) hc2 ?_
        refine st_iload_n dX10_put_50 rfl ?_
        refine st_icmp_ne (tgt := 56) dX10_put_51 (by decide) (fun c => ?_) (fun c => ?_)
        · replace w := w.1 c
          refine st_aload_n dX10_put_56 rfl ?_
          refine st_getP fl_X10_72 fk_10_10 dX10_put_57 sh_0 ?_
          refine st_iload_n dX10_put_60 rfl ?_
          refine st_iload_n dX10_put_61 rfl ?_
          refine st_callV (M' := mX0_fits) [.int x1, .int x2] [] dX10_put_62 ml_X10_116 mf_X0_fits mv_X0_fits (bu_0 hc1) rfl rfl rfl (K := fun r h' => (am_b (am_fit h (h.2.1 0 10) x1 x2)) = r ∧ h = h') ⟨2, by omega, iX0_fits hc1 (by omega) ⟨rfl, rfl⟩⟩ (fun r1 h1 w1 => ?_)
          obtain ⟨rfl, rfl⟩ := w1
          show Ru mX10_put none d 65 [.ref 0, .int x1, .int x2] [.int (am_b (am_fit h (h.2.1 0 10) x1 x2))] h Z
          refine st_ifb_ne (tgt := 70) dX10_put_65 (by decide) (fun c => ?_) (fun c => ?_)
          · replace w := w.1 c
            refine st_aload_n dX10_put_70 rfl ?_
            refine st_getP fl_X10_72 fk_10_10 dX10_put_71 sh_0 ?_
            refine st_iload_n dX10_put_74 rfl ?_
            refine st_iload_n dX10_put_75 rfl ?_
            refine st_callV (M' := mX0_move) [.int x1, .int x2] [] dX10_put_76 ml_X10_120 mf_X0_move mv_X0_move (bu_0 hc1) rfl rfl rfl w (fun r3 h4 w => ?_)
            show Ru mX10_put none d 79 [.ref 0, .int x1, .int x2] [] h4 Z
            refine st_iconst (v := 1) dX10_put_79 (by decide) ?_
            exact st_ireturn rfl rfl dX10_put_80 w
          · replace w := w.2 c
            refine st_iconst (v := 0) dX10_put_68 (by decide) ?_
            exact st_ireturn rfl rfl dX10_put_69 w
        · replace w := w.2 c
          refine st_iconst (v := 1) dX10_put_54 (by decide) ?_
          exact st_ireturn rfl rfl dX10_put_55 w
      · replace w := w.2 c
        refine st_iconst (v := 0) dX10_put_39 (by decide) ?_
        exact st_ireturn rfl rfl dX10_put_40 w
    · replace w := w.2 c
      refine st_aload_n dX10_put_18 rfl ?_
      refine st_getP fl_X10_72 fk_10_10 dX10_put_19 sh_0 ?_
      refine st_iload_n dX10_put_22 rfl ?_
      refine st_callV (M' := mX0_takeOut) [.int x1] [] dX10_put_23 ml_X10_105 mf_X0_takeOut mv_X0_takeOut (bu_0 hc1) rfl rfl rfl w (fun r5 h6 w => ?_)
      show Ru mX10_put none d 26 [.ref 0, .int x1, .int x2] [] h6 Z
      refine st_iconst (v := 1) dX10_put_26 (by decide) ?_
      exact st_ireturn rfl rfl dX10_put_27 w
  · replace w := w.2 c
    refine st_iconst (v := 0) dX10_put_11 (by decide) ?_
    exact st_ireturn rfl rfl dX10_put_12 w
set_option maxRecDepth 20000 in
set_option maxHeartbeats 2000000 in
theorem sX11_put_0 {d : Nat} {h : am_H} {Z : Int32 → am_H → Prop} {x1 : Int32} {x2 : Int32} (hd : 3 ≤ d) (w : (am_mP h x1 → (¬ x2 = (-1) → (am_mT h x2 → (vp_in x1 74 ∧ ((¬ (h.2.2 74 x1.toNatClampNeg) = x2 → am_cl mX11_roomLeft d [.ref 73, .int x2] h (fun r2 h3 => (vp_in x1 24 ∧ (((h3.2.2 79 x1.toNatClampNeg) ≤ r2 → (∀ h5 : am_H, h5 = am_sR h3 74 (upd (h3.2.2 74) x1.toNatClampNeg x2) → (vp_in (48 + x1) 74 ∧ (∀ h7 : am_H, h7 = am_sR h5 74 (upd (h5.2.2 74) (48 + x1).toNatClampNeg 0) → (Z 1 h7))))) ∧ (¬ ((h3.2.2 79 x1.toNatClampNeg) ≤ r2) → Z 0 h3))))) ∧ ((h.2.2 74 x1.toNatClampNeg) = x2 → Z 1 h)))) ∧ (¬ (am_mT h x2) → Z 0 h)) ∧ (x2 = (-1) → am_cl mX11_takesOut d [.ref 73, .int x1] h (fun r8 h9 => Z 1 h9))) ∧ (¬ (am_mP h x1) → Z 0 h)) : Ru mX11_put none d 0 [.ref 73, .int x1, .int x2] [] h Z := by
  refine st_aload_n dX11_put_0 rfl ?_
  refine st_iload_n dX11_put_1 rfl ?_
  refine st_callV (M' := mX11_isPaper) [.int x1] [] dX11_put_2 ml_X11_144 mf_X11_isPaper mv_X11_isPaper sh_73 rfl rfl rfl (K := fun r h' => (am_b (am_mP h x1)) = r ∧ h = h') ⟨2, by omega, iX11_isPaper (by omega) ⟨rfl, rfl⟩⟩ (fun r1 h1 w1 => ?_)
  obtain ⟨rfl, rfl⟩ := w1
  show Ru mX11_put none d 5 [.ref 73, .int x1, .int x2] [.int (am_b (am_mP h x1))] h Z
  refine st_ifb_ne (tgt := 10) dX11_put_5 (by decide) (fun c => ?_) (fun c => ?_)
  · replace w := w.1 c
    refine st_iload_n dX11_put_10 rfl ?_
    refine st_iconst (v := (-1)) dX11_put_11 (by decide) ?_
    refine st_icmp_ne (tgt := 22) dX11_put_12 (by decide) (fun c => ?_) (fun c => ?_)
    · replace w := w.1 c
      refine st_aload_n dX11_put_22 rfl ?_
      refine st_iload_n dX11_put_23 rfl ?_
      refine st_callV (M' := mX11_isDrawer) [.int x2] [] dX11_put_24 ml_X11_152 mf_X11_isDrawer mv_X11_isDrawer sh_73 rfl rfl rfl (K := fun r h' => (am_b (am_mT h x2)) = r ∧ h = h') ⟨2, by omega, iX11_isDrawer (by omega) ⟨rfl, rfl⟩⟩ (fun r1 h1 w1 => ?_)
      obtain ⟨rfl, rfl⟩ := w1
      show Ru mX11_put none d 27 [.ref 73, .int x1, .int x2] [.int (am_b (am_mT h x2))] h Z
      refine st_ifb_ne (tgt := 32) dX11_put_27 (by decide) (fun c => ?_) (fun c => ?_)
      · replace w := w.1 c
        refine st_aload_n dX11_put_32 rfl ?_
        refine st_getF (q := 74) fl_X11_7 fk_11_0 rfl dX11_put_33 sh_73 ?_
        refine st_iconst (v := 0) dX11_put_36 (by decide) ?_
        refine st_iload_n dX11_put_37 rfl ?_
        refine st_iadd0 dX11_put_38 ?_
        have hc1 := w.1
        replace w := w.2
        refine st_iald dX11_put_39 sh_74 hc1 ?_
        refine st_iload_n dX11_put_40 rfl ?_
        refine st_icmp_ne (tgt := 46) dX11_put_41 (by decide) (fun c => ?_) (fun c => ?_)
        · replace w := w.1 c
          refine st_aload_n dX11_put_46 rfl ?_
          refine st_iload_n dX11_put_47 rfl ?_
          refine st_callV (M' := mX11_roomLeft) [.int x2] [] dX11_put_48 ml_X11_155 mf_X11_roomLeft mv_X11_roomLeft sh_73 rfl rfl rfl w (fun r2 h3 w => ?_)
          show Ru mX11_put none d 51 [.ref 73, .int x1, .int x2] [.int r2] h3 Z
          refine st_aload_n dX11_put_51 rfl ?_
          refine st_getF (q := 79) fl_X11_25 fk_11_5 rfl dX11_put_52 sh_73 ?_
          refine st_iload_n dX11_put_55 rfl ?_
          have hc4 := w.1
          replace w := w.2
          refine st_iald dX11_put_56 sh_79 hc4 ?_
          refine st_icmp_ge (tgt := 62) dX11_put_57 (by decide) (fun c => ?_) (fun c => ?_)
          · replace w := w.1 c
            refine st_aload_n dX11_put_62 rfl ?_
            refine st_getF (q := 74) fl_X11_7 fk_11_0 rfl dX11_put_63 sh_73 ?_
            refine st_iconst (v := 0) dX11_put_66 (by decide) ?_
            refine st_iload_n dX11_put_67 rfl ?_
            refine st_iadd0 dX11_put_68 ?_
            refine st_iload_n dX11_put_69 rfl ?_
            refine st_iast dX11_put_70 sh_74 hc1 (fun h5 eh5 => ?_)
            replace w := w h5 eh5
            refine st_aload_n dX11_put_71 rfl ?_
            refine st_getF (q := 74) fl_X11_7 fk_11_0 rfl dX11_put_72 sh_73 ?_
            refine st_bipush (v := 48) dX11_put_75 (by decide) ?_
            refine st_iload_n dX11_put_77 rfl ?_
            refine st_iadd dX11_put_78 ?_
            refine st_iconst (v := 0) dX11_put_79 (by decide) ?_
            have hc6 := w.1
            replace w := w.2
            refine st_iast dX11_put_80 sh_74 hc6 (fun h7 eh7 => ?_)
            replace w := w h7 eh7
            refine st_iconst (v := 1) dX11_put_81 (by decide) ?_
            exact st_ireturn rfl rfl dX11_put_82 w
          · replace w := w.2 c
            refine st_iconst (v := 0) dX11_put_60 (by decide) ?_
            exact st_ireturn rfl rfl dX11_put_61 w
        · replace w := w.2 c
          refine st_iconst (v := 1) dX11_put_44 (by decide) ?_
          exact st_ireturn rfl rfl dX11_put_45 w
      · replace w := w.2 c
        refine st_iconst (v := 0) dX11_put_30 (by decide) ?_
        exact st_ireturn rfl rfl dX11_put_31 w
    · replace w := w.2 c
      refine st_aload_n dX11_put_15 rfl ?_
      refine st_iload_n dX11_put_16 rfl ?_
      refine st_callV (M' := mX11_takesOut) [.int x1] [] dX11_put_17 ml_X11_148 mf_X11_takesOut mv_X11_takesOut sh_73 rfl rfl rfl w (fun r8 h9 w => ?_)
      show Ru mX11_put none d 20 [.ref 73, .int x1, .int x2] [] h9 Z
      refine st_iconst (v := 1) dX11_put_20 (by decide) ?_
      exact st_ireturn rfl rfl dX11_put_21 w
  · replace w := w.2 c
    refine st_iconst (v := 0) dX11_put_8 (by decide) ?_
    exact st_ireturn rfl rfl dX11_put_9 w
/-- what the invariant sees is kept but for some cells -/
def am_kp (e : Nat → Bool) (h h' : am_H) : Prop := (∀ a, am_relR a = true → e a = false → h'.2.2 a = h.2.2 a) ∧ (∀ a k, am_relI a k = true → e a = false → h'.1 a k = h.1 a k) ∧ h'.2.1 0 = h.2.1 0 ∧ h'.1 1 1 = h.1 1 1 ∧ h'.1 73 9 = h.1 73 9
def q_eb (b : Nat) (a : Nat) : Bool := (decide (b ≤ a) && decide (a ≤ b + 8)) || a == 74
theorem am_kp_fr {b : Nat} {h h' : am_H} (hb : 20 ≤ b) (hb2 : b ≤ 47) (f : am_fr b h h') (g : Nat → Int32) : am_kp (q_eb b) h (am_sR h' 74 g) := by
  have key : ∀ a, q_eb b a = false → (a < b ∨ b + 8 < a) ∧ a ≠ 74 := fun a ha => by
    unfold q_eb at ha
    simp only [Bool.or_eq_false_iff, Bool.and_eq_false_iff, decide_eq_false_iff_not, beq_eq_false_iff_ne] at ha
    omega
  refine ⟨fun a _ ha => ?_, fun a k _ ha => ?_, ?_, ?_, ?_⟩
  · rw [am_gR, if_neg (key a ha).2]; exact (f.1 a (key a ha).1).2
  · rw [am_gRi, (f.1 a (key a ha).1).1]
  · rw [am_gR2, f.2]
  · rw [am_gRi, (f.1 1 (by omega)).1]
  · rw [am_gRi, (f.1 73 (by omega)).1]
theorem q_IC_s74 {h : am_H} {b : Nat} {B : am_AB} {g : Nat → Int32} (hb2 : b ≤ 47) (hI : q_IC h b B) : q_IC (am_sR h 74 g) b B := by
  have e : ∀ k, k ≤ 8 → (am_sR h 74 g).2.2 (b + k) = h.2.2 (b + k) := fun k hk => by rw [am_gR, if_neg (by omega)]
  unfold q_IC
  simp only [am_gRi, e 1 (by omega), e 2 (by omega), e 3 (by omega), e 4 (by omega), e 5 (by omega), e 6 (by omega), e 7 (by omega), e 8 (by omega)]
  exact hI
theorem q_IN_fr {h h' : am_H} {b a : Nat} {B : am_AB} (ha : a < b ∨ b + 8 < a) (f : am_fr b h h') (hN : q_IN h a B) : q_IN h' a B := by
  unfold q_IN; rw [(f.1 a ha).2]; exact hN
theorem q_IM_fr {h h' : am_H} {b : Nat} {B : am_AB} (hb2 : b ≤ 47) (f : am_fr b h h') (hM : q_IM h B) : q_IM h' B := by
  unfold q_IM; rw [(f.1 73 (by omega)).1, (f.1 77 (by omega)).2, (f.1 78 (by omega)).2, (f.1 79 (by omega)).2]; exact hM
theorem q_IM_s74 {h : am_H} {B : am_AB} {g : Nat → Int32} (hM : q_IM h B) : q_IM (am_sR h 74 g) B := hM
theorem pp_put {d : Nat} {h : am_H} {K : Int32 → Int32 → am_H → Prop} {x y : Int32} {b : Nat} {B : am_AB} (hd : 12 ≤ d) (eb : h.2.1 0 10 = b) (hb : am_bu b) (hI : q_IC h b B) (hN : q_IN h 74 B) (hM : q_IM h B) (hB : q_ok B)
    (z0 : ∀ r, K r r h) (z : ∀ r h' B', am_kp (q_eb b) h h' → q_IC h' b B' → q_IN h' 74 B' → q_IM h' B' → q_ok B' → K r r h') : am_cl mX10_put d [.ref 0, .int x, .int y] h (fun r1 h1 => am_cl mX11_put d [.ref 73, .int x, .int y] h1 (fun r2 h2 => K r1 r2 h2)) := by
  have hn := hB.1
  have hb1 : 20 ≤ b ∧ b ≤ 47 := by rcases hb with rfl | rfl | rfl | rfl <;> omega
  subst eb
  generalize eb : h.2.1 0 10 = b at *
  have start : ∀ {Z : Int32 → am_H → Prop}, _ → Sp mX10_put 10 [.ref 0, .int x, .int y] h Z := fun {Z} w => Sp_of mf_X10_put rfl (Nat.le_of_ble_eq_true rfl) rfl (sX10_put_0 (by omega) w)
  have mstart : ∀ {h0 : am_H} {Z : Int32 → am_H → Prop}, _ → Sp mX11_put 10 [.ref 73, .int x, .int y] h0 Z := fun {h0 Z} w => Sp_of mf_X11_put rfl (Nat.le_of_ble_eq_true rfl) rfl (sX11_put_0 (by omega) w)
  rw [eb] at start
  by_cases c1 : ∃ p, p < q_n B ∧ x = nI p
  · obtain ⟨p, hp, rfl⟩ := c1
    have p1 : am_pap h b (nI p) := (q_pap hI hB).mpr ⟨p, hp, rfl⟩
    have p2 : ∀ {h0}, q_IM h0 B → am_mP h0 (nI p) := fun hM0 => (q_mP hM0 hB).mpr ⟨p, hp, rfl⟩
    by_cases c2 : y = -1
    · refine ⟨10, by omega, start ⟨hb, fun _ => ⟨fun c => absurd c2 c, fun _ => ⟨8, by omega, iX0_takeOut (by omega) hb hI hB hp (fun h1 hI1 hf1 => ?_)⟩⟩, fun c => absurd p1 c⟩⟩
      have hN1 := q_IN_fr (a := 74) (by omega) hf1 hN
      have hM1 := q_IM_fr (by omega) hf1 hM
      refine ⟨10, by omega, mstart ⟨fun _ => ⟨fun c => absurd c2 c, fun _ => ⟨8, by omega, iX11_takesOut hN1 hB hp (fun f hN2 => ?_)⟩⟩, fun c => absurd (p2 hM1) c⟩⟩
      exact z 1 _ (q_out B p) (am_kp_fr hb1.1 hb1.2 hf1 f) (q_IC_s74 hb1.2 hI1) hN2 (q_IM_s74 hM1) (q_ok_out hB hp)
    · by_cases c3 : ∃ i, i < 12 ∧ y = nI i ∧ 0 < q_r B i
      · obtain ⟨i, hi, rfl, hr⟩ := c3
        have t1 : am_told h b (nI i) := (q_told hI hB hi).mpr hr
        have t2 : ∀ {h0}, q_IM h0 B → am_mT h0 (nI i) := fun hM0 => (q_mT hM0).mpr ⟨i, hi, rfl, hr⟩
        have w1 : h.2.2 (b + 6) (nI p).toNatClampNeg = nI i ↔ q_w B p = i := by rw [nI_clamp (by omega), (hI.2.2.2.2 p hp).2.2.1]; exact q_w2_eq hB hp hi
        have w2 : ∀ {h0}, q_IN h0 74 B → (h0.2.2 74 (nI p).toNatClampNeg = nI i ↔ q_w B p = i) := fun {h0} hN0 => by rw [nI_clamp (by omega), (hN0.2.2 p hp).1]; exact q_w1_eq hB hp hi
        have v1 : vp_in (nI p) 24 := vp_in_nI (by omega) (by omega)
        have v2 : vp_in (nI p) 74 := vp_in_nI (by omega) (by omega)
        by_cases c4 : q_w B p = i
        · refine ⟨10, by omega, start ⟨hb, fun _ => ⟨fun _ => ⟨fun _ => ⟨v1, fun c => absurd (w1.mpr c4) c, fun _ => ?_⟩, fun c => absurd t1 c⟩, fun c => absurd c c2⟩, fun c => absurd p1 c⟩⟩
          exact ⟨10, by omega, mstart ⟨fun _ => ⟨fun _ => ⟨fun _ => ⟨v2, fun c => absurd ((w2 hN).mpr c4) c, fun _ => z0 1⟩, fun c => absurd (t2 hM) c⟩, fun c => absurd c c2⟩, fun c => absurd (p2 hM) c⟩⟩
        · have hs := (hB.2.2.2.2 p hp).1
          have hrr := hB.2.2.2.1 i hi
          have le1 : ∀ {h0}, q_IM h0 B → (h0.2.2 79 (nI p).toNatClampNeg ≤ nI (q_r B i - q_F B i) ↔ q_si B p + q_F B i ≤ q_r B i) := fun {h0} hM0 => by
            rw [nI_clamp (by omega), (hM0.2.2.2 p hp).2, nI_leI (by omega) (by omega)]; omega
          by_cases c5 : q_si B p + q_F B i ≤ q_r B i
          · refine ⟨10, by omega, start ⟨hb, fun _ => ⟨fun _ => ⟨fun _ => ⟨v1, fun _ => ⟨fun _ => ⟨8, by omega, iX0_move (by omega) hb hI hB hp hi hr c5 (fun h1 hI1 hf1 => ?_)⟩, fun c => absurd ((q_fit hI hB hp hi).mpr ⟨hr, c5⟩) c⟩, fun c => absurd (w1.mp c) c4⟩, fun c => absurd t1 c⟩, fun c => absurd c c2⟩, fun c => absurd p1 c⟩⟩
            have hN1 := q_IN_fr (a := 74) (by omega) hf1 hN
            have hM1 := q_IM_fr (by omega) hf1 hM
            have e48 : (48 : Int32) + nI p = nI (48 + p) := nI_add 48 p
            refine ⟨10, by omega, mstart ⟨fun _ => ⟨fun _ => ⟨fun _ => ⟨v2, fun _ => ⟨8, by omega, iX11_roomLeft (by omega) hN1 hM1 hB hi hr ⟨v1, fun _ h5 e5 => ⟨by rw [e48]; exact vp_in_nI (by omega) (by omega), fun h7 e7 => ?_⟩, fun c => absurd ((le1 hM1).mpr c5) c⟩⟩, fun c => absurd ((w2 hN1).mp c) c4⟩, fun c => absurd (t2 hM1) c⟩, fun c => absurd c c2⟩, fun c => absurd (p2 hM1) c⟩⟩
            rw [nI_clamp (by omega)] at e5
            rw [e48, nI_clamp (by omega), e5, am_gRs, am_sR_2] at e7
            rw [e7]
            refine z 1 _ (q_mv B p i) (am_kp_fr hb1.1 hb1.2 hf1 _) (q_IC_s74 hb1.2 hI1) ⟨?_, ?_, fun q hq => ?_⟩ (q_IM_s74 hM1) (q_ok_mv hB hp hi hr c5)
            · rw [am_gRs]; simp only [upd, show ¬ 72 = 48 + p by omega, show ¬ 72 = p by omega, if_false]; exact hN1.1
            · rw [am_gRs]; simp only [upd, show ¬ 73 = 48 + p by omega, show ¬ 73 = p by omega, if_false]; exact hN1.2.1
            · have hq' : q < q_n B := hq
              have h9 := hN1.2.2 q hq
              rw [am_gRs]
              by_cases c : q = p
              · subst c
                refine ⟨?_, ?_, ?_⟩
                · simp only [upd, show ¬ q = 48 + q by omega, if_false, if_true]
                  show _ = q_w1 (am_un _ _ _ q); rw [am_un_s, q_w1_in hi]
                · simp only [upd, show ¬ 24 + q = 48 + q by omega, show ¬ 24 + q = q by omega, if_false]; exact h9.2.1
                · simp only [upd, if_true]
                  show 0 = nI (am_un _ _ _ q); rw [am_un_s]; rfl
              · refine ⟨?_, ?_, ?_⟩
                · simp only [upd, show ¬ q = 48 + p by omega, show ¬ q = p from c, if_false]
                  show _ = q_w1 (am_un _ _ _ q); rw [am_un_n _ _ c]; exact h9.1
                · simp only [upd, show ¬ 24 + q = 48 + p by omega, show ¬ 24 + q = p by omega, if_false]; exact h9.2.1
                · simp only [upd, show ¬ 48 + q = 48 + p by omega, show ¬ 48 + q = p by omega, if_false]
                  show _ = nI (am_un _ _ _ q); rw [am_un_n _ _ c]; exact h9.2.2
          · refine ⟨10, by omega, start ⟨hb, fun _ => ⟨fun _ => ⟨fun _ => ⟨v1, fun _ => ⟨fun c => absurd ((q_fit hI hB hp hi).mp c).2 c5, fun _ => ?_⟩, fun c => absurd (w1.mp c) c4⟩, fun c => absurd t1 c⟩, fun c => absurd c c2⟩, fun c => absurd p1 c⟩⟩
            exact ⟨10, by omega, mstart ⟨fun _ => ⟨fun _ => ⟨fun _ => ⟨v2, fun _ => ⟨8, by omega, iX11_roomLeft (by omega) hN hM hB hi hr ⟨v1, fun c => absurd ((le1 hM).mp c) c5, fun _ => z0 0⟩⟩, fun c => absurd ((w2 hN).mp c) c4⟩, fun c => absurd (t2 hM) c⟩, fun c => absurd c c2⟩, fun c => absurd (p2 hM) c⟩⟩
      · have t1 : ¬ am_told h b y := fun q => by
          obtain ⟨i, hi, rfl⟩ := am_nat (N := 12) (by omega) q.1 q.2.1
          exact c3 ⟨i, hi, rfl, (q_told hI hB hi).mp q⟩
        refine ⟨10, by omega, start ⟨hb, fun _ => ⟨fun _ => ⟨fun c => absurd c t1, fun _ => ?_⟩, fun c => absurd c c2⟩, fun c => absurd p1 c⟩⟩
        exact ⟨10, by omega, mstart ⟨fun _ => ⟨fun _ => ⟨fun c => absurd ((q_mT hM).mp c) c3, fun _ => z0 0⟩, fun c => absurd c c2⟩, fun c => absurd (p2 hM) c⟩⟩
  · refine ⟨10, by omega, start ⟨hb, fun c => absurd ((q_pap hI hB).mp c) c1, fun _ => ?_⟩⟩
    exact ⟨10, by omega, mstart ⟨fun c => absurd ((q_mP hM hB).mp c) c1, fun _ => z0 0⟩⟩
