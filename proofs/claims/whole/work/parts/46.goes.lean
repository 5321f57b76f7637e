-- a day of the reference: a paper that goes in
set_option maxRecDepth 20000 in
set_option maxHeartbeats 2000000 in
theorem sX11_goesIn_0 {d : Nat} {h : am_H} {Z : Int32 → am_H → Prop} {x1 : Int32} (w : Ru mX11_goesIn none d 7 [.ref 73, .int x1, .int (-1), .int 0, .int 0, .null] [] h Z) : Ru mX11_goesIn none d 0 [.ref 73, .int x1, .null, .null, .null, .null] [] h Z := by
  refine st_iconst (v := (-1)) dX11_goesIn_0 (by decide) ?_
  refine st_istore_n (L' := [.ref 73, .int x1, .int (-1), .null, .null, .null]) dX11_goesIn_1 (by decide) rfl ?_
  refine st_iconst (v := 0) dX11_goesIn_2 (by decide) ?_
  refine st_istore_n (L' := [.ref 73, .int x1, .int (-1), .int 0, .null, .null]) dX11_goesIn_3 (by decide) rfl ?_
  refine st_iconst (v := 0) dX11_goesIn_4 (by decide) ?_
  refine st_istore (L' := [.ref 73, .int x1, .int (-1), .int 0, .int 0, .null]) dX11_goesIn_5 (by decide) rfl ?_
  exact w
set_option maxRecDepth 20000 in
set_option maxHeartbeats 2000000 in
theorem sX11_goesIn_7 {d : Nat} {h : am_H} {Z : Int32 → am_H → Prop} {x1 : Int32} {x2 : Int32} {x3 : Int32} {x4 : Int32} {u5 : Value} (hd : 3 ≤ d) (w : (12 ≤ x4 → (¬ x2 = (-1) → (vp_in x1 74 ∧ (∀ h2 : am_H, h2 = am_sR h 74 (upd (h.2.2 74) x1.toNatClampNeg x2) → (vp_in (48 + x1) 74 ∧ (∀ h4 : am_H, h4 = am_sR h2 74 (upd (h2.2.2 74) (48 + x1).toNatClampNeg 0) → (∀ h5 : am_H, h5 = am_sI h4 73 40 ((h4.1 73 40) + 1) → (Z 0 h5))))))) ∧ (x2 = (-1) → Z 0 h)) ∧ (¬ (12 ≤ x4) → (¬ (am_mT h x4) → Ru mX11_goesIn none d 7 [.ref 73, .int x1, .int x2, .int x3, .int (x4 + 1), u5] [] h Z) ∧ (am_mT h x4 → (am_has (h.1 73 42) x4 → Ru mX11_goesIn none d 7 [.ref 73, .int x1, .int x2, .int x3, .int (x4 + 1), u5] [] h Z) ∧ (¬ (am_has (h.1 73 42) x4) → am_cl mX11_roomLeft d [.ref 73, .int x4] h (fun r6 h7 => (vp_in x1 24 ∧ (((h7.2.2 79 x1.toNatClampNeg) ≤ r6 → am_cl mX11_feelsPaper d [.ref 73, .int x1, .int x4, .int 0] h7 (fun r9 h10 => am_cl mX11_byLaw d [.ref 73, .int 101, .int 9999] h10 (fun r11 h12 => (x3 < r11 → Ru mX11_goesIn none d 7 [.ref 73, .int x1, .int x4, .int r11, .int (x4 + 1), .int r11] [] h12 Z) ∧ (¬ (x3 < r11) → Ru mX11_goesIn none d 7 [.ref 73, .int x1, .int x2, .int x3, .int (x4 + 1), .int r11] [] h12 Z)))) ∧ (¬ ((h7.2.2 79 x1.toNatClampNeg) ≤ r6) → Ru mX11_goesIn none d 7 [.ref 73, .int x1, .int x2, .int x3, .int (x4 + 1), u5] [] h7 Z)))))))) : Ru mX11_goesIn none d 7 [.ref 73, .int x1, .int x2, .int x3, .int x4, u5] [] h Z := by
  refine st_iload dX11_goesIn_7 rfl ?_
  refine st_bipush (v := 12) dX11_goesIn_9 (by decide) ?_
  refine st_icmp_ge (tgt := 93) dX11_goesIn_11 (by decide) (fun c => ?_) (fun c => ?_)
  · replace w := w.1 c
    refine st_iload_n dX11_goesIn_93 rfl ?_
    refine st_iconst (v := (-1)) dX11_goesIn_94 (by decide) ?_
    refine st_icmp_ne (tgt := 99) dX11_goesIn_95 (by decide) (fun c => ?_) (fun c => ?_)
    · replace w := w.1 c
      refine st_aload_n dX11_goesIn_99 rfl ?_
      refine st_getF (q := 74) fl_X11_7 fk_11_0 rfl dX11_goesIn_100 sh_73 ?_
      refine st_iconst (v := 0) dX11_goesIn_103 (by decide) ?_
      refine st_iload_n dX11_goesIn_104 rfl ?_
      refine st_iadd0 dX11_goesIn_105 ?_
      refine st_iload_n dX11_goesIn_106 rfl ?_
      have hc1 := w.1
      replace w := w.2
      refine st_iast dX11_goesIn_107 sh_74 hc1 (fun h2 eh2 => ?_)
      replace w := w h2 eh2
      refine st_aload_n dX11_goesIn_108 rfl ?_
      refine st_getF (q := 74) fl_X11_7 fk_11_0 rfl dX11_goesIn_109 sh_73 ?_
      refine st_bipush (v := 48) dX11_goesIn_112 (by decide) ?_
      refine st_iload_n dX11_goesIn_114 rfl ?_
      refine st_iadd dX11_goesIn_115 ?_
      refine st_iconst (v := 0) dX11_goesIn_116 (by decide) ?_
      have hc3 := w.1
      replace w := w.2
      refine st_iast dX11_goesIn_117 sh_74 hc3 (fun h4 eh4 => ?_)
      replace w := w h4 eh4
      refine st_aload_n dX11_goesIn_118 rfl ?_
      refine st_aload_n dX11_goesIn_119 rfl ?_
      refine st_getI fl_X11_305 fk_11_40 dX11_goesIn_120 sh_73 ?_
      refine st_iconst (v := 1) dX11_goesIn_123 (by decide) ?_
      refine st_iadd dX11_goesIn_124 ?_
      refine st_putI flp_X11_305 fk_11_40 dX11_goesIn_125 sh_73 (fun h5 eh5 => ?_)
      replace w := w h5 eh5
      exact st_return rfl dX11_goesIn_128 w
    · replace w := w.2 c
      exact st_return rfl dX11_goesIn_98 w
  · replace w := w.2 c
    refine st_aload_n dX11_goesIn_14 rfl ?_
    refine st_iload dX11_goesIn_15 rfl ?_
    refine st_callV (M' := mX11_isDrawer) [.int x4] [] dX11_goesIn_17 ml_X11_152 mf_X11_isDrawer mv_X11_isDrawer sh_73 rfl rfl rfl (K := fun r h' => (am_b (am_mT h x4)) = r ∧ h = h') ⟨2, by omega, iX11_isDrawer (by omega) ⟨rfl, rfl⟩⟩ (fun r1 h1 w1 => ?_)
    obtain ⟨rfl, rfl⟩ := w1
    show Ru mX11_goesIn none d 20 [.ref 73, .int x1, .int x2, .int x3, .int x4, u5] [.int (am_b (am_mT h x4))] h Z
    refine st_ifb_eq (tgt := 87) dX11_goesIn_20 (by decide) (fun c => ?_) (fun c => ?_)
    · replace w := w.1 c
      refine st_iinc (L' := [.ref 73, .int x1, .int x2, .int x3, .int (x4 + 1), u5]) dX11_goesIn_87 rfl rfl (by decide) rfl ?_
      refine st_goto (tgt := 7) dX11_goesIn_90 (by decide) ?_
      exact w
    · replace w := w.2 c
      refine st_aload_n dX11_goesIn_23 rfl ?_
      refine st_getI fl_X11_295 fk_11_42 dX11_goesIn_24 sh_73 ?_
      refine st_iload dX11_goesIn_27 rfl ?_
      refine st_callS (M' := mX11_has) [.int (h.1 73 42), .int x4] [] dX11_goesIn_29 ml_X11_133 mf_X11_has ms_X11_has rfl rfl rfl (K := fun r h' => (am_b (am_has (h.1 73 42) x4)) = r ∧ h = h') ⟨1, by omega, iX11_has ⟨rfl, rfl⟩⟩ (fun r1 h1 w1 => ?_)
      obtain ⟨rfl, rfl⟩ := w1
      show Ru mX11_goesIn none d 32 [.ref 73, .int x1, .int x2, .int x3, .int x4, u5] [.int (am_b (am_has (h.1 73 42) x4))] h Z
      refine st_ifb_ne (tgt := 87) dX11_goesIn_32 (by decide) (fun c => ?_) (fun c => ?_)
      · replace w := w.1 c
        refine st_iinc (L' := [.ref 73, .int x1, .int x2, .int x3, .int (x4 + 1), u5]) dX11_goesIn_87 rfl rfl (by decide) rfl ?_
        refine st_goto (tgt := 7) dX11_goesIn_90 (by decide) ?_
        exact w
      · replace w := w.2 c
        refine st_aload_n dX11_goesIn_35 rfl ?_
        refine st_iload dX11_goesIn_36 rfl ?_
        refine st_callV (M' := mX11_roomLeft) [.int x4] [] dX11_goesIn_38 ml_X11_155 mf_X11_roomLeft mv_X11_roomLeft sh_73 rfl rfl rfl w (fun r6 h7 w => ?_)
        show Ru mX11_goesIn none d 41 [.ref 73, .int x1, .int x2, .int x3, .int x4, u5] [.int r6] h7 Z
        refine st_aload_n dX11_goesIn_41 rfl ?_
        refine st_getF (q := 79) fl_X11_25 fk_11_5 rfl dX11_goesIn_42 sh_73 ?_
        refine st_iload_n dX11_goesIn_45 rfl ?_
        have hc8 := w.1
        replace w := w.2
        refine st_iald dX11_goesIn_46 sh_79 hc8 ?_
        refine st_icmp_ge (tgt := 53) dX11_goesIn_47 (by decide) (fun c => ?_) (fun c => ?_)
        · replace w := w.1 c
          refine st_aload_n dX11_goesIn_53 rfl ?_
          refine st_iload_n dX11_goesIn_54 rfl ?_
          refine st_iload dX11_goesIn_55 rfl ?_
          refine st_iconst (v := 0) dX11_goesIn_57 (by decide) ?_
          refine st_callV (M' := mX11_feelsPaper) [.int x1, .int x4, .int 0] [] dX11_goesIn_58 ml_X11_298 mf_X11_feelsPaper mv_X11_feelsPaper sh_73 rfl rfl rfl w (fun r9 h10 w => ?_)
          show Ru mX11_goesIn none d 61 [.ref 73, .int x1, .int x2, .int x3, .int x4, u5] [] h10 Z
          refine st_aload_n dX11_goesIn_61 rfl ?_
          refine st_bipush (v := 101) dX11_goesIn_62 (by decide) ?_
          refine st_sipush (v := 9999) dX11_goesIn_64 (by decide) ?_
          refine st_callV (M' := mX11_byLaw) [.int 101, .int 9999] [] dX11_goesIn_67 ml_X11_302 mf_X11_byLaw mv_X11_byLaw sh_73 rfl rfl rfl w (fun r11 h12 w => ?_)
          show Ru mX11_goesIn none d 70 [.ref 73, .int x1, .int x2, .int x3, .int x4, u5] [.int r11] h12 Z
          refine st_istore (L' := [.ref 73, .int x1, .int x2, .int x3, .int x4, .int r11]) dX11_goesIn_70 (by decide) rfl ?_
          refine st_iload dX11_goesIn_72 rfl ?_
          refine st_iload_n dX11_goesIn_74 rfl ?_
          refine st_icmp_gt (tgt := 81) dX11_goesIn_75 (by decide) (fun c => ?_) (fun c => ?_)
          · replace w := w.1 c
            refine st_iload dX11_goesIn_81 rfl ?_
            refine st_istore_n (L' := [.ref 73, .int x1, .int x2, .int r11, .int x4, .int r11]) dX11_goesIn_83 (by decide) rfl ?_
            refine st_iload dX11_goesIn_84 rfl ?_
            refine st_istore_n (L' := [.ref 73, .int x1, .int x4, .int r11, .int x4, .int r11]) dX11_goesIn_86 (by decide) rfl ?_
            refine st_iinc (L' := [.ref 73, .int x1, .int x4, .int r11, .int (x4 + 1), .int r11]) dX11_goesIn_87 rfl rfl (by decide) rfl ?_
            refine st_goto (tgt := 7) dX11_goesIn_90 (by decide) ?_
            exact w
          · replace w := w.2 c
            refine st_goto (tgt := 87) dX11_goesIn_78 (by decide) ?_
            refine st_iinc (L' := [.ref 73, .int x1, .int x2, .int x3, .int (x4 + 1), .int r11]) dX11_goesIn_87 rfl rfl (by decide) rfl ?_
            refine st_goto (tgt := 7) dX11_goesIn_90 (by decide) ?_
            exact w
        · replace w := w.2 c
          refine st_goto (tgt := 87) dX11_goesIn_50 (by decide) ?_
          refine st_iinc (L' := [.ref 73, .int x1, .int x2, .int x3, .int (x4 + 1), u5]) dX11_goesIn_87 rfl rfl (by decide) rfl ?_
          refine st_goto (tgt := 7) dX11_goesIn_90 (by decide) ?_
          exact w
def q_f2 (h h1 : am_H) : Prop := (∀ a, a ≠ 92 → a ≠ 93 → h1.2.2 a = h.2.2 a) ∧ h1.1 = h.1 ∧ h1.2.1 = h.2.1
section
variable {d g p : Nat} {h h1 : am_H} {Z : Int32 → am_H → Prop} {B : am_AB} {L : am_AL} {t : Nat → Bool}
theorem q_f2_s {f1 f2 : Nat → Int32} (hf : q_f2 h h1) : q_f2 h (am_sR (am_sR h1 93 f1) 92 f2) := ⟨fun a n1 n2 => by rw [am_gR, if_neg n1, am_gR, if_neg n2]; exact hf.1 a n1 n2, hf.2.1, hf.2.2⟩
theorem q_IN_f2 (hf : q_f2 h h1) (hN : q_IN h 74 B) : q_IN h1 74 B := by unfold q_IN; rw [hf.1 74 (by omega) (by omega)]; exact hN
theorem q_IM_f2 (hf : q_f2 h h1) (hM : q_IM h B) : q_IM h1 B := by unfold q_IM; rw [hf.2.1, hf.1 77 (by omega) (by omega), hf.1 78 (by omega) (by omega), hf.1 79 (by omega) (by omega)]; exact hM
theorem q_LM_f2 (hf : q_f2 h h1) (hM : q_LM h L) : q_LM h1 L := by unfold q_LM; rw [hf.2.1, hf.1 87 (by omega) (by omega), hf.1 88 (by omega) (by omega), hf.1 89 (by omega) (by omega), hf.1 90 (by omega) (by omega), hf.1 91 (by omega) (by omega)]; exact hM
theorem q_LC_f2 (hg : am_la g) (hf : q_f2 h h1) (hL : q_LC h g L) : q_LC h1 g L := by
  have hg2 : g ≤ 64 := by rcases hg with rfl | rfl <;> omega
  unfold q_LC
  rw [hf.2.1, hf.1 (g + 1) (by omega) (by omega), hf.1 (g + 2) (by omega) (by omega), hf.1 (g + 3) (by omega) (by omega), hf.1 (g + 4) (by omega) (by omega), hf.1 (g + 5) (by omega) (by omega)]; exact hL
theorem m_gi {r : Int32} (hd : 10 ≤ d) (hg : am_la g) (hL : q_LC h g L) (hLM : q_LM h L) (hN : q_IN h 74 B) (hM : q_IM h B) (hB : q_ok B) (hp : p < q_n B) (hst : ∀ j, j < 12 → (am_has (h.1 73 42) (nI j) ↔ t j = true)) (z : ∀ h1, q_f2 h h1 → (¬ r = -1 → Z 0 (am_sI (am_sR h1 74 (upd (upd (h1.2.2 74) p r) (48 + p) 0)) 73 40 (h1.1 73 40 + 1))) ∧ (r = -1 → Z 0 h1)) : ∀ (m k : Nat) (s : Int32 × Int32) (h1 : am_H) (u5 : Value), k + m = 12 → q_f2 h h1 → (am_fd (q_mw L B t p) k m s).1 = r → Ru mX11_goesIn none d 7 [.ref 73, .int (nI p), .int s.1, .int s.2, .int (nI k), u5] [] h1 Z
  | 0, k, s, h1, u5, hk, hf, e => by
    have ek : k = 12 := by omega
    subst ek
    have e' : s.1 = r := e
    have hn := hB.1
    have e48 : (48 : Int32) + nI p = nI (48 + p) := nI_add 48 p
    refine sX11_goesIn_7 (by omega) ⟨fun _ => ?_, fun c => absurd (Int32.le_refl _) c⟩
    rw [e', e48, nI_clamp (by omega), nI_clamp (by omega)]
    refine ⟨fun c => ⟨vp_in_nI (by omega) (by omega), fun h2 e2 => ⟨vp_in_nI (by omega) (by omega), fun h4 e4 h5 e5 => ?_⟩⟩, fun c => (z h1 hf).2 c⟩
    subst e2
    rw [am_gRs, am_sR_2] at e4
    subst e4
    subst e5
    exact (z h1 hf).1 c
  | m + 1, k, s, h1, u5, hk, hf, e => by
    have hn := hB.1
    rw [am_fd_s] at e
    have hN1 := q_IN_f2 hf hN
    have hM1 := q_IM_f2 hf hM
    have skip : ∀ (h1 : am_H) (u5 : Value), q_f2 h h1 → q_mw L B t p k s = s → Ru mX11_goesIn none d 7 [.ref 73, .int (nI p), .int s.1, .int s.2, .int (nI (k + 1)), u5] [] h1 Z := fun h1 u5 hf es =>
      m_gi hd hg hL hLM hN hM hB hp hst z m (k + 1) s h1 u5 (by omega) hf (by rw [es] at e; exact e)
    have hs := (hB.2.2.2.2 p hp).1
    have hrr := hB.2.2.2.1 k (by omega)
    refine sX11_goesIn_7 (by omega) ⟨fun c => absurd c (nI_ge (b := 12) (by omega) (by omega)), fun _ => ?_⟩
    rw [nI_1, nI_clamp (by omega), hf.2.1, hst k (by omega)]
    refine ⟨fun c => skip h1 u5 hf (if_neg (fun q => c ((q_mT hM1).mpr ⟨k, by omega, rfl, q.2.1.1⟩))), fun c => ?_⟩
    have hr : 0 < q_r B k := by
      obtain ⟨i, hi, e2, g⟩ := (q_mT hM1).mp c
      rw [(nI_eq (by omega) (by omega)).mp e2]; exact g
    refine ⟨fun c2 => skip h1 u5 hf (if_neg (fun q => by rw [c2] at q; exact absurd q.1 (by decide))), fun c2 => ⟨8, by omega, iX11_roomLeft (by omega) hN1 hM1 hB (by omega) hr ⟨vp_in_nI (by omega) (by omega), ?_⟩⟩⟩
    rw [(hM1.2.2.2 p hp).2, nI_leI (by omega) (by omega)]
    refine ⟨fun c3 => ⟨8, by omega, iX11_feelsPaper (by omega) hN1 hM1 hB hp (by omega) hr (fun f hff => ⟨8, by omega, iX11_says (kd := 101) (by omega) hg (by omega) (by omega) (by decide) (q_LC_f2 hg hf hL) (q_LM_f2 hf hLM) hff (fun f2 => ?_)⟩)⟩, fun c3 => skip h1 u5 hf (if_neg (fun q => by omega))⟩
    have hf2 : q_f2 h (am_sR (am_sR h1 93 f) 92 f2) := q_f2_s hf
    have c2' : t k = false := by simpa using c2
    refine ⟨fun c4 => ?_, fun c4 => skip _ _ hf2 (if_neg (fun q => c4 q.2.2))⟩
    have es : q_mw L B t p k s = (nI k, q_cl (q_sy L B 101 p k 0) 9999) := if_pos ⟨c2', ⟨hr, by omega⟩, c4⟩
    exact m_gi hd hg hL hLM hN hM hB hp hst z m (k + 1) (nI k, q_cl (q_sy L B 101 p k 0) 9999) _ _ (by omega) hf2 (by rw [es] at e; exact e)
end
