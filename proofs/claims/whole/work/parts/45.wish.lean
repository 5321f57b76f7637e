-- a day: the drawer that a paper wishes most
set_option maxRecDepth 20000 in
set_option maxHeartbeats 2000000 in
theorem sX2_mostWished_0 {d : Nat} {h : am_H} {Z : Int32 → am_H → Prop} {a1 : Nat} (hb1 : am_bu a1) {a2 : Nat} (hb2 : am_la a2) {x3 : Int32} (w : Ru mX2_mostWished none d 9 [.ref 8, .ref a1, .ref a2, .int x3, .int (-1), .int 0, .int 0, .null] [] h Z) : Ru mX2_mostWished none d 0 [.ref 8, .ref a1, .ref a2, .int x3, .null, .null, .null, .null] [] h Z := by
  refine st_iconst (v := (-1)) dX2_mostWished_0 (by decide) ?_
  refine st_istore (L' := [.ref 8, .ref a1, .ref a2, .int x3, .int (-1), .null, .null, .null]) dX2_mostWished_1 (by decide) rfl ?_
  refine st_iconst (v := 0) dX2_mostWished_3 (by decide) ?_
  refine st_istore (L' := [.ref 8, .ref a1, .ref a2, .int x3, .int (-1), .int 0, .null, .null]) dX2_mostWished_4 (by decide) rfl ?_
  refine st_iconst (v := 0) dX2_mostWished_6 (by decide) ?_
  refine st_istore (L' := [.ref 8, .ref a1, .ref a2, .int x3, .int (-1), .int 0, .int 0, .null]) dX2_mostWished_7 (by decide) rfl ?_
  exact w
set_option maxRecDepth 20000 in
set_option maxHeartbeats 2000000 in
theorem sX2_mostWished_9 {d : Nat} {h : am_H} {Z : Int32 → am_H → Prop} {a1 : Nat} (hb1 : am_bu a1) {a2 : Nat} (hb2 : am_la a2) {x3 : Int32} {x4 : Int32} {x5 : Int32} {x6 : Int32} {u7 : Value} (hd : 3 ≤ d) (w : (12 ≤ x6 → Z x4 h) ∧ (¬ (12 ≤ x6) → (vp_in x6 12 ∧ ((¬ (h.2.2 9 x6.toNatClampNeg) = 0 → Ru mX2_mostWished none d 9 [.ref 8, .ref a1, .ref a2, .int x3, .int x4, .int x5, .int (x6 + 1), u7] [] h Z) ∧ ((h.2.2 9 x6.toNatClampNeg) = 0 → (¬ (am_fit h a1 x3 x6) → Ru mX2_mostWished none d 9 [.ref 8, .ref a1, .ref a2, .int x3, .int x4, .int x5, .int (x6 + 1), u7] [] h Z) ∧ (am_fit h a1 x3 x6 → am_cl mX3_valueOf d [.ref a2, .int 101, .ref a1, .int x3, .int x6, .int 0] h (fun r2 h3 => ((am_min 9999 r2) ≤ x5 → Ru mX2_mostWished none d 9 [.ref 8, .ref a1, .ref a2, .int x3, .int x4, .int x5, .int (x6 + 1), .int (am_min 9999 r2)] [] h3 Z) ∧ (¬ ((am_min 9999 r2) ≤ x5) → Ru mX2_mostWished none d 9 [.ref 8, .ref a1, .ref a2, .int x3, .int x6, .int (am_min 9999 r2), .int (x6 + 1), .int (am_min 9999 r2)] [] h3 Z)))))))) : Ru mX2_mostWished none d 9 [.ref 8, .ref a1, .ref a2, .int x3, .int x4, .int x5, .int x6, u7] [] h Z := by
  refine st_iload dX2_mostWished_9 rfl ?_
  refine st_bipush (v := 12) dX2_mostWished_11 (by decide) ?_
  refine st_icmp_ge (tgt := 76) dX2_mostWished_13 (by decide) (fun c => ?_) (fun c => ?_)
  · replace w := w.1 c
    refine st_iload dX2_mostWished_76 rfl ?_
    exact st_ireturn rfl rfl dX2_mostWished_78 w
  · replace w := w.2 c
    refine st_aload_n dX2_mostWished_16 rfl ?_
    refine st_getF (q := 9) fl_X2_9 fk_2_0 rfl dX2_mostWished_17 sh_8 ?_
    refine st_iload dX2_mostWished_20 rfl ?_
    have hc1 := w.1
    replace w := w.2
    refine st_zald dX2_mostWished_22 sh_9 hc1 ?_
    refine st_if_ne (tgt := 70) dX2_mostWished_23 (by decide) (fun c => ?_) (fun c => ?_)
    · replace w := w.1 c
      refine st_iinc (L' := [.ref 8, .ref a1, .ref a2, .int x3, .int x4, .int x5, .int (x6 + 1), u7]) dX2_mostWished_70 rfl rfl (by decide) rfl ?_
      refine st_goto (tgt := 9) dX2_mostWished_73 (by decide) ?_
      exact w
    · replace w := w.2 c
      refine st_aload_n dX2_mostWished_26 rfl ?_
      refine st_iload_n dX2_mostWished_27 rfl ?_
      refine st_iload dX2_mostWished_28 rfl ?_
      refine st_callV (M' := mX0_fits) [.int x3, .int x6] [] dX2_mostWished_30 ml_X2_65 mf_X0_fits mv_X0_fits (bu_0 hb1) rfl rfl rfl (K := fun r h' => (am_b (am_fit h a1 x3 x6)) = r ∧ h = h') ⟨2, by omega, iX0_fits hb1 (by omega) ⟨rfl, rfl⟩⟩ (fun r1 h1 w1 => ?_)
      obtain ⟨rfl, rfl⟩ := w1
      show Ru mX2_mostWished none d 33 [.ref 8, .ref a1, .ref a2, .int x3, .int x4, .int x5, .int x6, u7] [.int (am_b (am_fit h a1 x3 x6))] h Z
      refine st_ifb_eq (tgt := 70) dX2_mostWished_33 (by decide) (fun c => ?_) (fun c => ?_)
      · replace w := w.1 c
        refine st_iinc (L' := [.ref 8, .ref a1, .ref a2, .int x3, .int x4, .int x5, .int (x6 + 1), u7]) dX2_mostWished_70 rfl rfl (by decide) rfl ?_
        refine st_goto (tgt := 9) dX2_mostWished_73 (by decide) ?_
        exact w
      · replace w := w.2 c
        refine st_sipush (v := 9999) dX2_mostWished_36 (by decide) ?_
        refine st_aload_n dX2_mostWished_39 rfl ?_
        refine st_bipush (v := 101) dX2_mostWished_40 (by decide) ?_
        refine st_aload_n dX2_mostWished_42 rfl ?_
        refine st_iload_n dX2_mostWished_43 rfl ?_
        refine st_iload dX2_mostWished_44 rfl ?_
        refine st_iconst (v := 0) dX2_mostWished_46 (by decide) ?_
        refine st_callV (M' := mX3_valueOf) [.int 101, .ref a1, .int x3, .int x6, .int 0] [.int 9999] dX2_mostWished_47 ml_X2_45 mf_X3_valueOf mv_X3_valueOf (la_0 hb2) rfl rfl rfl w (fun r2 h3 w => ?_)
        show Ru mX2_mostWished none d 50 [.ref 8, .ref a1, .ref a2, .int x3, .int x4, .int x5, .int x6, u7] [.int r2, .int 9999] h3 Z
        refine st_mmin dX2_mostWished_50 mk_min_X2_69 (by omega) rfl ?_
        refine st_istore (L' := [.ref 8, .ref a1, .ref a2, .int x3, .int x4, .int x5, .int x6, .int (am_min 9999 r2)]) dX2_mostWished_53 (by decide) rfl ?_
        refine st_iload dX2_mostWished_55 rfl ?_
        refine st_iload dX2_mostWished_57 rfl ?_
        refine st_icmp_le (tgt := 70) dX2_mostWished_59 (by decide) (fun c => ?_) (fun c => ?_)
        · replace w := w.1 c
          refine st_iinc (L' := [.ref 8, .ref a1, .ref a2, .int x3, .int x4, .int x5, .int (x6 + 1), .int (am_min 9999 r2)]) dX2_mostWished_70 rfl rfl (by decide) rfl ?_
          refine st_goto (tgt := 9) dX2_mostWished_73 (by decide) ?_
          exact w
        · replace w := w.2 c
          refine st_iload dX2_mostWished_62 rfl ?_
          refine st_istore (L' := [.ref 8, .ref a1, .ref a2, .int x3, .int x4, .int (am_min 9999 r2), .int x6, .int (am_min 9999 r2)]) dX2_mostWished_64 (by decide) rfl ?_
          refine st_iload dX2_mostWished_66 rfl ?_
          refine st_istore (L' := [.ref 8, .ref a1, .ref a2, .int x3, .int x6, .int (am_min 9999 r2), .int x6, .int (am_min 9999 r2)]) dX2_mostWished_68 (by decide) rfl ?_
          refine st_iinc (L' := [.ref 8, .ref a1, .ref a2, .int x3, .int x6, .int (am_min 9999 r2), .int (x6 + 1), .int (am_min 9999 r2)]) dX2_mostWished_70 rfl rfl (by decide) rfl ?_
          refine st_goto (tgt := 9) dX2_mostWished_73 (by decide) ?_
          exact w
def q_mw (L : am_AL) (B : am_AB) (t : Nat → Bool) (p i : Nat) (s : Int32 × Int32) : Int32 × Int32 := if t i = false ∧ (0 < q_r B i ∧ q_si B p + q_F B i ≤ q_r B i) ∧ s.2 < q_cl (q_sy L B 101 p i 0) 9999 then (nI i, q_cl (q_sy L B 101 p i 0) 9999) else s
theorem q_wm {v most : Int32} (h : 0 ≤ most) : (am_min 9999 v ≤ most ↔ ¬ most < q_cl v 9999) ∧ (¬ am_min 9999 v ≤ most → am_min 9999 v = q_cl v 9999) := by
  rw [← am_mn]
  unfold q_cl
  by_cases c : 0 ≤ v
  · rw [if_pos c]
    by_cases c2 : v ≤ 9999
    · rw [if_pos c2, if_neg (Int32.not_lt.mpr c2)]
      exact ⟨⟨fun q => Int32.not_lt.mpr q, fun q => Int32.not_lt.mp q⟩, fun _ => rfl⟩
    · rw [if_neg c2, if_pos (Int32.not_le.mp c2)]
      exact ⟨⟨fun q => Int32.not_lt.mpr q, fun q => Int32.not_lt.mp q⟩, fun _ => rfl⟩
  · rw [if_neg c]
    have c3 : v < 0 := Int32.not_le.mp c
    have c4 : ¬ (9999 : Int32) < v := fun q => Int32.not_le.mpr (Int32.lt_trans q c3) (by decide)
    rw [if_neg c4]
    have c5 : v ≤ most := Int32.le_of_lt (Int32.lt_of_lt_of_le c3 h)
    exact ⟨⟨fun _ => Int32.not_lt.mpr h, fun _ => c5⟩, fun q => absurd c5 q⟩
section
variable {d b g p : Nat} {h : am_H} {Z : Int32 → am_H → Prop} {B : am_AB} {L : am_AL} {t : Nat → Bool}
theorem x_mw {r : Int32} (hd : 10 ≤ d) (hb : am_bu b) (hg : am_la g) (hL : q_LC h g L) (hB : q_ok B) (hp : p < q_n B) (z : ∀ h', q_IC h' b B → q_fd b g h h' → (∀ j, j < 12 → (h'.2.2 9 j = 0 ↔ t j = false)) → h'.1 = h.1 → Z r h') : ∀ (m k : Nat) (s : Int32 × Int32) (h1 : am_H) (u7 : Value), k + m = 12 → 0 ≤ s.2 → q_IC h1 b B → q_fd b g h h1 → (∀ j, j < 12 → (h1.2.2 9 j = 0 ↔ t j = false)) → h1.1 = h.1 → (am_fd (q_mw L B t p) k m s).1 = r → Ru mX2_mostWished none d 9 [.ref 8, .ref b, .ref g, .int (nI p), .int s.1, .int s.2, .int (nI k), u7] [] h1 Z
  | 0, k, s, h1, u7, hk, h0, hI, hf, ht, hi1, e => by
    have ek : k = 12 := by omega
    subst ek
    have e' : s.1 = r := e
    refine sX2_mostWished_9 hb hg (by omega) ⟨fun _ => ?_, fun c => absurd (Int32.le_refl _) c⟩
    rw [e']; exact z h1 hI hf ht hi1
  | m + 1, k, s, h1, u7, hk, h0, hI, hf, ht, hi1, e => by
    have hn := hB.1
    have hbg : b + 8 < g ∧ 9 < b := by rcases hb with rfl | rfl | rfl | rfl <;> rcases hg with rfl | rfl <;> omega
    rw [am_fd_s] at e
    have skip : ∀ (h1 : am_H) (u7 : Value), q_IC h1 b B → q_fd b g h h1 → (∀ j, j < 12 → (h1.2.2 9 j = 0 ↔ t j = false)) → h1.1 = h.1 → q_mw L B t p k s = s → Ru mX2_mostWished none d 9 [.ref 8, .ref b, .ref g, .int (nI p), .int s.1, .int s.2, .int (nI (k + 1)), u7] [] h1 Z := fun h1 u7 hI hf ht hi1 es =>
      x_mw hd hb hg hL hB hp z m (k + 1) s h1 u7 (by omega) h0 hI hf ht hi1 (by rw [es] at e; exact e)
    refine sX2_mostWished_9 hb hg (by omega) ⟨fun c => absurd c (nI_ge (b := 12) (by omega) (by omega)), fun _ => ⟨vp_in_nI (by omega) (by omega), ?_⟩⟩
    rw [nI_clamp (by omega), ht k (by omega), q_fit hI hB hp (by omega), nI_1]
    refine ⟨fun c => skip h1 u7 hI hf ht hi1 (if_neg (fun q => c q.1)), fun c => ⟨fun c2 => skip h1 u7 hI hf ht hi1 (if_neg (fun q => c2 q.2.1)), fun c2 => ⟨8, by omega, iX3_valueOf (kd := 101) (p := p) (i := k) (by omega) hg hb hI hB (q_LC_fd hb hg hf hL) (by omega) (by omega) (Or.inl hp) (by omega) c2.1 (fun f1 f2 => ?_)⟩⟩⟩
    have hI2 : q_IC (am_sR (am_sR h1 (g + 7) f1) (g + 6) f2) b B := q_IC_r (by omega) (q_IC_r (by omega) hI)
    have hf2 : q_fd b g h (am_sR (am_sR h1 (g + 7) f1) (g + 6) f2) := q_fd_sR (q_fd_sR hf (by omega)) (by omega)
    have ht2 : ∀ j, j < 12 → ((am_sR (am_sR h1 (g + 7) f1) (g + 6) f2).2.2 9 j = 0 ↔ t j = false) := fun j hj => by
      rw [am_gR, if_neg (by omega), am_gR, if_neg (by omega)]; exact ht j hj
    obtain ⟨w1, w2⟩ := q_wm (v := q_sy L B 101 p k 0) h0
    refine ⟨fun c3 => skip _ _ hI2 hf2 ht2 hi1 (if_neg (fun q => w1.mp c3 q.2.2)), fun c3 => ?_⟩
    have c4 : s.2 < q_cl (q_sy L B 101 p k 0) 9999 := Decidable.byContradiction (fun q => c3 (w1.mpr q))
    have es : q_mw L B t p k s = (nI k, q_cl (q_sy L B 101 p k 0) 9999) := if_pos ⟨c, c2, c4⟩
    rw [w2 c3]
    exact x_mw hd hb hg hL hB hp z m (k + 1) (nI k, q_cl (q_sy L B 101 p k 0) 9999) _ _ (by omega) (Int32.le_of_lt (Int32.lt_of_le_of_lt h0 c4)) hI2 hf2 ht2 hi1 (by rw [es] at e; exact e)
end
