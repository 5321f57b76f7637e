-- law: both
set_option maxRecDepth 20000 in
set_option maxHeartbeats 2000000 in
theorem sX10_law_0 {d : Nat} {h : am_H} {Z : Int32 → am_H → Prop} {x1 : Int32} (hd : 2 ≤ d) (w : (¬ ((1 : Int32) ≤ x1 ∧ x1 ≤ (240 : Int32)) → Z (-1) h) ∧ ((1 : Int32) ≤ x1 ∧ x1 ≤ (240 : Int32) → (x1 ≤ h.1 1 1 → (am_la (h.2.1 0 13) ∧ (am_cl mX4_read d [.ref 72, .int x1, .ref (h.2.1 0 13)] h (fun r2 h3 => (r2 ≤ 0 → Z r2 (am_sI h3 1 1 0)) ∧ (¬ (r2 ≤ 0) → (am_la ((am_sI h3 1 1 0).2.1 0 12) ∧ (am_la ((am_sI h3 1 1 0).2.1 0 13) ∧ (∀ h6 : am_H, h6 = am_sP (am_sI h3 1 1 0) 0 12 ((am_sI h3 1 1 0).2.1 0 13) → (∀ h7 : am_H, h7 = am_sP h6 0 13 ((am_sI h3 1 1 0).2.1 0 12) → (Z r2 h7)))))))))) ∧ (¬ (x1 ≤ h.1 1 1) → Z (-1) h))) : Ru mX10_law none d 0 [.ref 0, .int x1, .null, .null] [] h Z := by
  refine st_iload_n dX10_law_0 rfl ?_
  refine st_iconst (v := 1) dX10_law_1 (by decide) ?_
  refine st_sipush (v := 240) dX10_law_2 (by decide) ?_
  refine st_callS (M' := mX10_isFromTo) [.int x1, .int 1, .int 240] [] dX10_law_5 ml_X10_135 mf_X10_isFromTo ms_X10_isFromTo rfl rfl rfl (K := fun r h' => (am_b ((1 : Int32) ≤ x1 ∧ x1 ≤ (240 : Int32))) = r ∧ h = h') ⟨1, by omega, iX10_isFromTo ⟨rfl, rfl⟩⟩ (fun r1 h1 w1 => ?_)
  obtain ⟨rfl, rfl⟩ := w1
  show Ru mX10_law none d 8 [.ref 0, .int x1, .null, .null] [.int (am_b ((1 : Int32) ≤ x1 ∧ x1 ≤ (240 : Int32)))] h Z
  refine st_ifb_eq (tgt := 22) dX10_law_8 (by decide) (fun c => ?_) (fun c => ?_)
  · replace w := w.1 c
    refine st_iconst (v := (-1)) dX10_law_22 (by decide) ?_
    exact st_ireturn rfl rfl dX10_law_23 w
  · replace w := w.2 c
    refine st_aload_n dX10_law_11 rfl ?_
    refine st_getF (q := 1) fl_X10_10 fk_10_0 rfl dX10_law_12 sh_0 ?_
    refine st_iload_n dX10_law_15 rfl ?_
    refine st_callV (M' := mX9_holds) [.int x1] [] dX10_law_16 ml_X10_139 mf_X9_holds mv_X9_holds sh_1 rfl rfl rfl (K := fun r h' => (am_b (x1 ≤ h.1 1 1)) = r ∧ h = h') ⟨1, by omega, iX9_holds ⟨rfl, rfl⟩⟩ (fun r1 h1 w1 => ?_)
    obtain ⟨rfl, rfl⟩ := w1
    show Ru mX10_law none d 19 [.ref 0, .int x1, .null, .null] [.int (am_b (x1 ≤ h.1 1 1))] h Z
    refine st_ifb_ne (tgt := 24) dX10_law_19 (by decide) (fun c => ?_) (fun c => ?_)
    · replace w := w.1 c
      refine st_aload_n dX10_law_24 rfl ?_
      refine st_getF (q := 72) fl_X10_93 fk_10_3 rfl dX10_law_25 sh_0 ?_
      refine st_iload_n dX10_law_28 rfl ?_
      refine st_aload_n dX10_law_29 rfl ?_
      refine st_getP fl_X10_85 fk_10_13 dX10_law_30 sh_0 ?_
      have hc1 := w.1
      replace w := w.2
      refine st_callV (M' := mX4_read) [.int x1, .ref (h.2.1 0 13)] [] dX10_law_33 ml_X10_142 mf_X4_read mv_X4_read sh_72 rfl rfl rfl w (fun r2 h3 w => ?_)
      show Ru mX10_law none d 36 [.ref 0, .int x1, .null, .null] [.int r2] h3 Z
      refine st_istore_n (L' := [.ref 0, .int x1, .int r2, .null]) dX10_law_36 (by decide) rfl ?_
      refine st_aload_n dX10_law_37 rfl ?_
      refine st_getF (q := 1) fl_X10_10 fk_10_0 rfl dX10_law_38 sh_0 ?_
      refine st_callV (M' := mX9_clear) [] [] dX10_law_41 ml_X10_146 mf_X9_clear mv_X9_clear sh_1 rfl rfl rfl (K := fun r h' => 0 = r ∧ am_sI h3 1 1 0 = h') ⟨1, by omega, iX9_clear ⟨rfl, rfl⟩⟩ (fun r1 h1 w1 => ?_)
      obtain ⟨rfl, rfl⟩ := w1
      show Ru mX10_law none d 44 [.ref 0, .int x1, .int r2, .null] [] (am_sI h3 1 1 0) Z
      refine st_iload_n dX10_law_44 rfl ?_
      refine st_if_le (tgt := 66) dX10_law_45 (by decide) (fun c => ?_) (fun c => ?_)
      · replace w := w.1 c
        refine st_iload_n dX10_law_66 rfl ?_
        exact st_ireturn rfl rfl dX10_law_67 w
      · replace w := w.2 c
        refine st_aload_n dX10_law_48 rfl ?_
        refine st_getP fl_X10_81 fk_10_12 dX10_law_49 sh_0 ?_
        have hc4 := w.1
        replace w := w.2
        refine st_astore_n (L' := [.ref 0, .int x1, .int r2, .ref ((am_sI h3 1 1 0).2.1 0 12)]) dX10_law_52 (by decide) rfl ?_
        refine st_aload_n dX10_law_53 rfl ?_
        refine st_aload_n dX10_law_54 rfl ?_
        refine st_getP fl_X10_85 fk_10_13 dX10_law_55 sh_0 ?_
        have hc5 := w.1
        replace w := w.2
        refine st_putP flp_X10_81 fk_10_12 dX10_law_58 sh_0 (fun h6 eh6 => ?_)
        replace w := w h6 eh6
        refine st_aload_n dX10_law_61 rfl ?_
        refine st_aload_n dX10_law_62 rfl ?_
        refine st_putP flp_X10_85 fk_10_13 dX10_law_63 sh_0 (fun h7 eh7 => ?_)
        replace w := w h7 eh7
        refine st_iload_n dX10_law_66 rfl ?_
        exact st_ireturn rfl rfl dX10_law_67 w
    · replace w := w.2 c
      refine st_iconst (v := (-1)) dX10_law_22 (by decide) ?_
      exact st_ireturn rfl rfl dX10_law_23 w
/-- what law may change -/
def lw_F (g : Nat) (h h' : am_H) : Prop := (∀ a, ¬ (g + 1 ≤ a ∧ a ≤ g + 5) → ¬ (81 ≤ a ∧ a ≤ 91) → h'.2.2 a = h.2.2 a) ∧ (∀ a k, a ≠ 3 → ¬ (a = g ∧ (k = 7 ∨ k = 8)) → ¬ (a = 1 ∧ k = 1) → ¬ (a = 73 ∧ 9 ≤ k ∧ k ≤ 18) → h'.1 a k = h.1 a k) ∧ h'.1 1 1 = 0 ∧ h'.1 73 9 = 0 ∧ ∀ a, a ≠ 0 → a ≠ 72 → h'.2.1 a = h.2.1 a
section
variable {d : Nat} {Z : Int32 → am_H → Prop}
/-- the reference's law at a text of n letters -/
theorem m_law (hd : 20 ≤ d) {n N : Nat} {h : am_H} {t : Nat → Nat} (hn : n ≤ 240) (n1 : 1 ≤ n) (h9 : h.1 73 9 = nI N) (hnN : n ≤ N) (hN : N ≤ 260) (tb : ∀ i, t i < 256) (ht : ∀ i, i < n → h.2.2 80 i &&& 255 = nI (t i))
    (zf : ∀ h', ¬ (lp_lw t n 17 0 0).1 = 0 → (∀ a, ¬ (81 ≤ a ∧ a ≤ 86) → h'.2.2 a = h.2.2 a) → (∀ a k, ¬ (a = 73 ∧ 9 ≤ k ∧ k ≤ 17) → h'.1 a k = h.1 a k) → h'.1 73 9 = 0 → h'.2.1 = h.2.1 → Z (lp_lw t n 17 0 0).1 h')
    (zs : ∀ h', (lp_lw t n 17 0 0).1 = 0 → (∀ a, ¬ (81 ≤ a ∧ a ≤ 91) → h'.2.2 a = h.2.2 a) → (∀ a k, ¬ (a = 73 ∧ 9 ≤ k ∧ k ≤ 18) → h'.1 a k = h.1 a k) → h'.1 73 9 = 0 → h'.2.1 = h.2.1 → h'.1 73 18 = nI (lp_lw t n 17 0 0).2.length → ∀ W0 W1 W2 W3 S, lr_rs W0 W1 W2 W3 S (lp_lw t n 17 0 0).2 0 0 → (∀ i, i < (lp_lw t n 17 0 0).2.length → h'.2.2 88 i = W0 i ∧ h'.2.2 89 i = W1 i ∧ h'.2.2 90 i = W2 i ∧ h'.2.2 91 i = W3 i) → (∀ k, k < lr_ln (lp_lw t n 17 0 0).2 → h'.2.2 87 k = S k) → Z (nI (lp_lw t n 17 0 0).2.length) h') : am_cl mX11_law d [.ref 73, .int (nI n)] h Z := by
  have w17 := lp_lw_g (t := t) hn 17 0 0 (by omega) (by omega) (Nat.zero_le _)
  refine ⟨19, by omega, Sp_of mf_X11_law rfl (Nat.le_of_ble_eq_true rfl) rfl (sX11_law_0 (by omega) ⟨fun c => absurd ⟨nI_le (a := 1) n1 (by omega), nI_le (b := 240) hn (by omega)⟩ c, fun _ => ⟨fun _ => ⟨18, by omega, Sp_of mf_X11_beginsText rfl (Nat.le_of_ble_eq_true rfl) rfl (sX11_beginsText_0 (fun h1 e1 h2 e2 h3 e3 h4 e4 => ?_))⟩, fun c => absurd (by rw [h9]; exact nI_le hnN (by omega)) c⟩⟩)⟩
  have I4 : ∀ a k, ¬ (a = 73 ∧ (k = 10 ∨ k = 11 ∨ k = 15 ∨ k = 17)) → h4.1 a k = h.1 a k := fun a k q => by
    rw [e4, am_gI, if_neg (fun e => q (by omega)), e3, am_gI, if_neg (fun e => q (by omega)), e2, am_gI, if_neg (fun e => q (by omega)), e1, am_gI, if_neg (fun e => q (by omega))]
  have A4 : h4.2 = h.2 := by rw [e4, e3, e2, e1]; rfl
  have M4 : am_ms t n 0 h4 := by
    refine ⟨?_, ?_, Nat.zero_le _, by omega, tb, fun i hi => ?_⟩
    · rw [e4, am_gI, if_neg (by decide), e3, am_gI, if_neg (by decide), e2, am_gI, if_pos ⟨rfl, rfl⟩]
    · rw [e4, am_gI, if_neg (by decide), e3, am_gI, if_neg (by decide), e2, am_gI, if_neg (by decide), e1, am_gI, if_pos ⟨rfl, rfl⟩]; rfl
    · rw [A4]; exact ht i hi
  have i15 : h4.1 73 15 = nI 0 := by rw [e4, am_gI, if_neg (by decide), e3, am_gI, if_pos ⟨rfl, rfl⟩]; rfl
  have i17 : h4.1 73 17 = nI 0 := by rw [e4, am_gI, if_pos ⟨rfl, rfl⟩]; rfl
  refine ⟨15, by omega, am_sp_mono (m_lr (t := t) (d := 19) (Z := Z) (u1 := .int (nI n)) (u3 := .null) (by omega) hn 17 0 0 0 h4 (by omega) (by omega) M4 i15 i17 (by omega) (fun h' y1 y2 y3 => ?_) (fun h' y1 y2 y3 y4 y5 _ _ y8 => ?_)) (fun r hh w => w.2)⟩
  · refine sX11_law_71 (fun h5 e5 => ⟨fun w => absurd rfl w, fun _ => ?_⟩)
    have e : h5.1 73 12 = (lp_lw t n 17 0 0).1 := by rw [e5, am_gI, if_neg (by decide)]; exact y3
    rw [e]
    refine zf h5 y1 (fun a q => ?_) (fun a k q => ?_) (by rw [e5, am_gI, if_pos ⟨rfl, rfl⟩]) (by rw [e5]; show h'.2.1 = _; rw [y2.2.2, A4])
    · rw [e5]; show h'.2.2 a = _; rw [y2.1 a q, A4]
    · rw [e5, am_gI, if_neg (fun e => q (by omega)), y2.2.1 a k (fun e => q (by omega)), I4 a k (fun e => q (by omega))]
  · obtain ⟨v1, v2, v3, v4, v5⟩ := w17.1 y1
    rw [Nat.zero_add] at y3 y4 v2
    generalize (lp_lw t n 17 0 0).2 = R at *
    refine sX11_law_71 (fun h5 e5 => ⟨fun _ h6 e6 => ?_, fun w => absurd w (by decide)⟩)
    have k6 : ∀ a k, ¬ (a = 73 ∧ (k = 9 ∨ k = 18)) → h6.1 a k = h'.1 a k := fun a k q => by
      rw [e6, am_gI, if_neg (fun e => q (by omega)), e5, am_gI, if_neg (fun e => q (by omega))]
    have k69 : h6.1 73 9 = 0 := by rw [e6, am_gI, if_neg (by decide), e5, am_gI, if_pos ⟨rfl, rfl⟩]
    have k618 : h6.1 73 18 = nI R.length := by rw [e6, am_gI, if_pos ⟨rfl, rfl⟩, e5, am_gI, if_neg (by decide)]; exact y3
    have a6 : h6.2 = h'.2 := by rw [e6, e5]; rfl
    have w := m_l95 (d := 19) (h := h6) (u1 := .int (nI n)) (u2 := .int 1) (Z := Z) (m := lr_ln R) (by omega) (by rw [k6 73 15 (by omega)]; exact y4) (fun f hf => ?_) (lr_ln R) 0 (h6.2.2 87) (by omega) (fun i hi => absurd hi (Nat.not_lt_zero i))
    · rw [am_sR_self] at w; exact w
    · refine m_l123 (h := am_sR h6 87 f) (m := R.length) (by omega) (by show h6.1 73 17 = _; rw [k6 73 17 (by omega)]; exact y3) (fun h7 f7 hp => ?_) R.length 0 _ (by omega) ⟨fun _ _ => rfl, rfl, rfl⟩ (fun i hi => absurd hi (Nat.not_lt_zero i))
      refine zs h7 y1 (fun a q => ?_) (fun a k q => ?_) ?_ ?_ ?_ (h'.2.2 83) (h'.2.2 84) (h'.2.2 85) (h'.2.2 86) (h'.2.2 81) y8 (fun i hi => ?_) (fun k hk => ?_)
      · rw [f7.1 a (by omega), am_gR, if_neg (by omega), a6, y2.1 a (by omega), A4]
      · rw [f7.2.1]; show h6.1 a k = _; rw [k6 a k (fun e => q (by omega)), y2.2.1 a k (fun e => q (by omega)), I4 a k (fun e => q (by omega))]
      · rw [f7.2.1]; exact k69
      · rw [f7.2.2]; show h6.2.1 = _; rw [a6, y2.2.2, A4]
      · rw [f7.2.1]; exact k618
      · have q := hp i hi
        rw [am_gR, if_neg (by decide), am_gR, if_neg (by decide), am_gR, if_neg (by decide), am_gR, if_neg (by decide), a6] at q
        exact q
      · rw [f7.1 87 (by omega), am_gRs, hf k hk, a6]
end
theorem q_pg_cg {C : Nat → Int32} {P Q : Nat → Nat × Nat} {a b ca cb e : Nat} (h : ∀ k, k < b → Q k = P k) (p : q_pg C P a b ca cb e) : q_pg C Q a b ca cb e := by
  obtain ⟨pos, ty, p1, p2, p3, p4, p5, p6, p7, p8⟩ := p
  refine ⟨pos, ty, p1, p2, p3, p4, p5, p6, p7, fun k h1 h2 => ?_⟩
  have w := p8 k h1 h2
  unfold q_ins at w ⊢
  rw [h k h2]; exact w
theorem pp_law {d g g' N : Nat} {h : am_H} {K : Int32 → Int32 → am_H → Prop} {x : Int32} (hd : 40 ≤ d) (eg : h.2.1 0 12 = g) (eg' : h.2.1 0 13 = g') (hgg : (g = 56 ∧ g' = 64) ∨ (g = 64 ∧ g' = 56)) (ht : am_tape h N) (z0 : ∀ r, K r r h)
    (zf : ∀ r h', lw_F g' h h' → (∀ a, 87 ≤ a → a ≤ 91 → h'.2.2 a = h.2.2 a) → h'.1 73 18 = h.1 73 18 → h'.2.1 0 = h.2.1 0 → K r r h')
    (zg : ∀ r h' L, lw_F g' h h' → q_LC h' g' L → q_LM h' L → h'.2.1 0 12 = g' → h'.2.1 0 13 = g → (∀ j, j ≠ 12 → j ≠ 13 → h'.2.1 0 j = h.2.1 0 j) → K r r h') : am_cl mX10_law d [.ref 0, .int x] h (fun r1 h1 => am_cl mX11_law d [.ref 73, .int x] h1 (fun r2 h2 => K r1 r2 h2)) := by
  have hg1 : am_la g := by rcases hgg with ⟨rfl, _⟩ | ⟨rfl, _⟩ <;> simp [am_la]
  have hg2 : am_la g' := by rcases hgg with ⟨_, rfl⟩ | ⟨_, rfl⟩ <;> simp [am_la]
  have gb : g' = 56 ∨ g' = 64 := by omega
  have hNN := ht.1
  have m0 : ∀ {h0 : am_H} {Z : Int32 → am_H → Prop}, _ → am_cl mX11_law d [.ref 73, .int x] h0 Z := fun {h0 Z} w => ⟨38, by omega, Sp_of mf_X11_law rfl (Nat.le_of_ble_eq_true rfl) rfl (sX11_law_0 (by omega) w)⟩
  refine ⟨38, by omega, Sp_of mf_X10_law rfl (Nat.le_of_ble_eq_true rfl) rfl (sX10_law_0 (by omega) ⟨fun c1 => m0 ⟨fun _ => z0 _, fun q => absurd q c1⟩, fun c1 => ⟨fun c2 => ?_, fun c2 => m0 ⟨fun q => absurd c1 q, fun _ => ⟨fun q => absurd (by rw [ht.2.1, ← ht.2.2.1]; exact q) c2, fun _ => z0 _⟩⟩⟩⟩)⟩
  obtain ⟨n, hn, rfl⟩ := am_natle (N := 240) (by omega) (Int32.le_trans (by decide) c1.1) c1.2
  have hnN : n ≤ N := by rw [ht.2.1] at c2; exact (nI_leI (by omega) (by omega)).mp c2
  have n1 : 1 ≤ n := (nI_leI (a := 1) (by omega) (by omega)).mp c1.1
  clear m0
  rw [eg']
  have w17 := lp_lw_g (t := am_bt h) hn 17 0 0 (by omega) (by omega) (Nat.zero_le _)
  refine ⟨hg2, 37, by omega, iX4_read (by omega) hn hg2 ht hnN (fun h3 nz f3 => ?_) (fun h3 e0 f3 l3 rs => ?_)⟩
  · have lt := w17.2 nz
    refine ⟨fun _ => ?_, fun w => absurd (Int32.le_of_lt lt) w⟩
    refine m_law (t := am_bt h) (N := N) (by omega) hn n1 ?_ hnN hNN (am_bt_lt h) (fun i hi => ?_) (fun h' _ a1 a2 a3 a4 => ?_) (fun _ w => absurd w nz)
    · rw [am_gI, if_neg (by decide), f3.2.1 73 9 (by decide) (by omega)]; exact ht.2.2.1
    · rw [am_gI2, f3.1 80 (by omega)]; exact am_bt_e h i
    · refine zf _ h' ⟨fun a q1 q2 => ?_, fun a k q1 q2 q3 q4 => ?_, ?_, a3, fun a q1 q2 => ?_⟩ (fun a q1 q2 => ?_) ?_ ?_
      · rw [a1 a (by omega), am_gI2]; exact f3.1 a q1
      · rw [a2 a k (by omega), am_gI, if_neg q3]; exact f3.2.1 a k q1 q2
      · rw [a2 1 1 (by omega), am_gI, if_pos ⟨rfl, rfl⟩]
      · rw [a4]; exact f3.2.2 a q2
      · rw [a1 a (by omega), am_gI2]; exact f3.1 a (by omega)
      · rw [a2 73 18 (by omega), am_gI, if_neg (by decide)]; exact f3.2.1 73 18 (by decide) (by omega)
      · rw [a4]; exact f3.2.2 0 (by decide)
  · obtain ⟨v1, v2, v3, v4, v5⟩ := w17.1 e0
    have vx := lp_lw_x (t := am_bt h) (n := n) 17 0 0
    refine ⟨fun w => absurd w (nI_ge (a := 0) (by omega) (by omega)), fun _ => ?_⟩
    have P3 : ∀ j, (am_sI h3 1 1 0).2.1 0 j = h.2.1 0 j := fun j => by
      show h3.2.1 0 j = _
      rw [f3.2.2 0 (by decide)]
    rw [P3, P3, eg, eg']
    refine ⟨hg1, hg2, fun h6 e6 h7 e7 => ?_⟩
    have A7 : h7.2.2 = h3.2.2 := by rw [e7, e6]; rfl
    have I7 : h7.1 = (am_sI h3 1 1 0).1 := by rw [e7, e6]; rfl
    have P7 : ∀ j, h7.2.1 0 j = if j = 13 then g else if j = 12 then g' else h.2.1 0 j := fun j => by
      rw [e7, am_gP, e6, am_gP]
      by_cases c1 : j = 13
      · rw [if_pos ⟨rfl, c1⟩, if_pos c1]
      · rw [if_neg (fun e => c1 e.2), if_neg c1]
        by_cases c2 : j = 12
        · rw [if_pos ⟨rfl, c2⟩, if_pos c2]
        · rw [if_neg (fun e => c2 e.2), if_neg c2]; exact P3 j
    have Q7 : ∀ a, a ≠ 0 → a ≠ 72 → h7.2.1 a = h.2.1 a := fun a q1 q2 => by
      funext j
      rw [e7, am_gP, if_neg (fun e => q1 e.1), e6, am_gP, if_neg (fun e => q1 e.1)]
      show h3.2.1 a j = _
      rw [f3.2.2 a q2]
    refine m_law (t := am_bt h) (N := N) (by omega) hn n1 ?_ hnN hNN (am_bt_lt h) (fun i hi => ?_) (fun _ w => absurd e0 w) (fun h' _ a1 a2 a3 a4 a5 W0 W1 W2 W3 S a6 a7 a8 => ?_)
    · rw [I7, am_gI, if_neg (by decide), f3.2.1 73 9 (by decide) (by omega)]; exact ht.2.2.1
    · rw [A7, f3.1 80 (by omega)]; exact am_bt_e h i
    · have mk := lw_mk (T := lr_ln (lp_lw (am_bt h) n 17 0 0).2) (by omega) _ 0 0 0 rs a6 v5 (by omega) (by omega) (fun k hk => absurd hk (Nat.not_lt_zero k)) vx
      have v2' : (lp_lw (am_bt h) n 17 0 0).2.length ≤ 16 := by omega
      have g7 : h3.1 g' 7 = nI (lp_lw (am_bt h) n 17 0 0).2.length := l3
      have v4' : lr_ln (lp_lw (am_bt h) n 17 0 0).2 ≤ 240 := by omega
      generalize (lp_lw (am_bt h) n 17 0 0).2 = R at *
      have ar : ∀ i, 1 ≤ i → i ≤ 5 → h'.2.2 (g' + i) = h3.2.2 (g' + i) := fun i i1 i2 => by rw [a1 (g' + i) (by omega), A7]
      refine zg _ h' (R.length, fun q => (W0 q).toNatClampNeg, fun q => (W1 q).toNatClampNeg, fun q => (W2 q).toNatClampNeg, fun q => (W3 q).toNatClampNeg, lw_P' S) ⟨fun a q1 q2 => ?_, fun a k q1 q2 q3 q4 => ?_, ?_, a3, fun a q1 q2 => ?_⟩ ⟨?_, v2', fun q hq => ?_⟩ ⟨a5, fun q hq => ?_⟩ (by rw [a4, P7, if_neg (by decide), if_pos rfl]) (by rw [a4, P7, if_pos rfl]) (fun j j1 j2 => by rw [a4, P7, if_neg j2, if_neg j1])
      · rw [a1 a q2, A7]; exact f3.1 a q1
      · rw [a2 a k q4, I7, am_gI, if_neg q3]; exact f3.2.1 a k q1 q2
      · rw [a2 1 1 (by omega), I7, am_gI, if_pos ⟨rfl, rfl⟩]
      · rw [a4]; exact Q7 a q1 q2
      · rw [a2 g' 7 (by omega), I7, am_gI, if_neg (by omega)]; exact g7
      · have hq' : q < R.length := hq
        have m := mk q hq'
        rw [Nat.zero_add] at m
        obtain ⟨c, f, a, b, m1, m2, m3, m4, m5, m6, m7, m8, m9, m10, cv, ch, ct, m11, m12, m13, m14, m15, m16⟩ := m
        have kc : (W0 q).toNatClampNeg = c := by rw [m3, nI_clamp (by omega)]
        have kf : (W1 q).toNatClampNeg = f := by rw [m4, nI_clamp (by omega)]
        have ka : (W2 q).toNatClampNeg = a := by rw [m5, nI_clamp (by omega)]
        have kb : (W3 q).toNatClampNeg = b := by rw [m6, nI_clamp (by omega)]
        unfold q_LR
        show ((W0 q).toNatClampNeg = 101 ∨ (W0 q).toNatClampNeg = 114 ∨ (W0 q).toNatClampNeg = 120) ∧ h'.2.2 (g' + 1) q = nI (W0 q).toNatClampNeg ∧ ∃ cv ch ct, h'.2.2 (g' + 2) q = nI cv ∧ h'.2.2 (g' + 3) q = nI ch ∧ h'.2.2 (g' + 4) q = nI ct ∧ q_pg (h'.2.2 (g' + 5)) (lw_P' S) (W2 q).toNatClampNeg (W3 q).toNatClampNeg ch ct 100 ∧ ((W0 q).toNatClampNeg = 120 → h'.2.2 (g' + 5) cv = 1 ∧ h'.2.2 (g' + 5) (cv + 1) = 1 ∧ ch = cv + 2 ∧ ch ≤ 512) ∧ ((W0 q).toNatClampNeg ≠ 120 → q_pg (h'.2.2 (g' + 5)) (lw_P' S) (W1 q).toNatClampNeg (W2 q).toNatClampNeg cv ch 1)
        rw [kc, kf, ka, kb, ar 1 (by omega) (by omega), ar 2 (by omega) (by omega), ar 3 (by omega) (by omega), ar 4 (by omega) (by omega), ar 5 (by omega) (by omega)]
        exact ⟨m1, m2, cv, ch, ct, m11, m12, m13, m14, m15, m16⟩
      · have hq' : q < R.length := hq
        have m := mk q hq'
        rw [Nat.zero_add] at m
        obtain ⟨c, f, a, b, m1, m2, m3, m4, m5, m6, m7, m8, m9, m10, _⟩ := m
        have kc : (W0 q).toNatClampNeg = c := by rw [m3, nI_clamp (by omega)]
        have kf : (W1 q).toNatClampNeg = f := by rw [m4, nI_clamp (by omega)]
        have ka : (W2 q).toNatClampNeg = a := by rw [m5, nI_clamp (by omega)]
        have kb : (W3 q).toNatClampNeg = b := by rw [m6, nI_clamp (by omega)]
        have r := a7 q hq'
        show h'.2.2 88 q = nI (W0 q).toNatClampNeg ∧ h'.2.2 89 q = nI (W1 q).toNatClampNeg ∧ h'.2.2 90 q = nI (W2 q).toNatClampNeg ∧ h'.2.2 91 q = nI (W3 q).toNatClampNeg ∧ (W2 q).toNatClampNeg ≤ (W3 q).toNatClampNeg ∧ ∀ k, k < (W3 q).toNatClampNeg → h'.2.2 87 k = nI ((lw_P' S k).1 * 2 ^ 20 + (lw_P' S k).2)
        rw [kc, kf, ka, kb, r.1, r.2.1, r.2.2.1, r.2.2.2]
        refine ⟨m3, m4, m5, m6, m7, fun k hk => ?_⟩
        rw [a8 k ?_]
        · exact m10 k hk
        · omega
