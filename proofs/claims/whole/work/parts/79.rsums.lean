-- the law's text: the reference's loop over a sum
section
variable {d n k m w o base w0 c a b : Nat} {h h0 : am_H} {Z : Int32 → am_H → Prop} {t : Nat → Nat} {S A : Nat → Int32} {fs : List (Nat × Nat)}
theorem lr_K_T {x y : Nat} (hi : lp_G n (lp_f t n c) x y) (h1 : k < n ∧ ¬ lp_sT (t k) = 0) : lp_K t n c a b fs k = lp_b (0, k, lp_e b) (fun _ => lp_FK t n c a (lp_sT (t k)) fs (k + 1)) := by
  unfold lp_K
  rw [lp_rs_T hi h1, lp_b_as]
  refine lp_b_cg (fun _ => ?_)
  show lp_b (lp_b _ _) _ = lp_b _ _
  rw [lp_b_as]; rfl
theorem lr_K_S {x y x2 y2 : Nat} (hi : lp_G n (lp_f t n c) x y) (ht : lp_G n (lp_tm t n (lp_f t n c)) x2 y2) (h1 : k < n ∧ ¬ lp_sS (t k) = 0) (h0 : lp_sT (t k) = 0) : lp_K t n c a b fs k = lp_b (0, k, lp_e b ++ lp_e a) (fun _ => lp_FK t n c (lp_sS (t k)) 0 fs (k + 1)) := by
  unfold lp_K
  rw [lp_rs_S hi ht h1 h0, lp_b_as]
  refine lp_b_cg (fun _ => ?_)
  show lp_b (lp_b _ _) _ = lp_b _ _
  rw [lp_b_as]; rfl
theorem lr_K_N (h1 : ¬ (k < n ∧ ¬ lp_sT (t k) = 0)) (h2 : ¬ (k < n ∧ ¬ lp_sS (t k) = 0)) (hk : k ≤ n) : lp_K t n c a b fs k = lp_b (0, k, lp_e b ++ lp_e a) (lp_J t n c fs) := by
  unfold lp_K
  rw [lp_rs_N h1 h2 hk]
/-- codes of signs that waited -/
theorem lr_en_w1 (hk : lr_ok a b) : lr_en (lr_w S m b) (lp_e b) m := by
  have := hk.2
  exact lr_en_e (by omega) (fun q => lr_w_at q)
theorem lr_en_w2 (hk : lr_ok a b) : lr_en (lr_w (lr_w S m b) (m + lr_e b) a) (lp_e b ++ lp_e a) m := by
  have k1 := hk.1
  have k2 := hk.2
  refine lr_en_app (lr_en_e (by omega) (fun q => ?_)) ?_
  · rw [lr_w_lt (by rw [lr_e_1 q]; omega)]; exact lr_w_at q
  · rw [lp_e_l]; exact lr_en_e (by omega) (fun q => lr_w_at q)
theorem lr_e_le (x : Nat) : lr_e x ≤ 1 := by unfold lr_e; split <;> omega
/-- the loop -/
theorem x_rs {cb : Nat} (hd : 8 ≤ d) (hn : n ≤ 240) (hcb : cb ≤ 6) : ∀ (f c a b : Nat) (fs : List (Nat × Nat)) (k m w w0 : Nat) (S A : Nat → Int32) (h : am_H) (Z : Int32 → am_H → Prop) (u2 : Value), n + 1 ≤ k + f → lr_H t n h0 h k m w (6 - c) S A → c + fs.length = cb → lr_ok a b → lr_f A w0 a b w → lr_tl A base fs w0 → lr_bt A base → m + w ≤ k + 14 → (∀ h', lr_oc t n h0 m base (6 - cb) S A h' (lp_K t n c a b fs k) → Z (lr_r (lp_K t n c a b fs k)) h') → Ru mX11_readsSum none d 14 [.ref 73, .int (nI base), u2] [] h Z
  | 0, c, a, b, fs, k, m, w, w0, S, A, h, Z, u2, hf, H, _, _, _, _, _, _, _ => by have := H.1.2.2.1; omega
  | f + 1, c, a, b, fs, k, m, w, w0, S, A, h, Z, u2, hf, H, hc, ok, hfr, htl, hbt, hmw, z => by
    have tb := H.1.2.2.2.2.1
    have kn := H.1.2.2.1
    have gf : lp_G n (lp_f t n c) 0 1 := lp_f_g (by omega) c 0 (by omega)
    have gt : lp_G n (lp_tm t n (lp_f t n c)) 0 1 := lp_tm_g (a := 0) (by omega) gf (lp_f_g (by omega) c 1 (by omega))
    have b0 := lr_tl_bt hbt htl
    have l3 := hfr.2.2
    have lb := lr_tl_le htl
    have ea := lr_e_le a
    have eb := lr_e_le b
    -- a sign: what waits, the sign, a factor
    have go : ∀ (s a' b' m' w' : Nat) (S' : Nat → Int32) (h2 : am_H) (Y : List (Nat × Nat)), k < n → lr_H t n h0 h2 k m' w' (6 - c) S' A → w0 ≤ w' → w' ≤ w → m' + w' ≤ m + w → m' = m + Y.length → (∀ j, j < m → S' j = S j) → lr_en S' Y m → lr_ok a' b' → (∀ A', (∀ j, j < w' → A' j = A j) → A' w' = nI (s * 2 ^ 20) → lr_f A' w0 a' b' (w' + 1)) → lp_K t n c a b fs k = lp_b (0, k, Y) (fun _ => lp_FK t n c a' b' fs (k + 1)) →
        (vp_in (h2.1 73 16) 260 ∧ (∀ h4 : am_H, h4 = am_sR h2 82 (upd (h2.2.2 82) (h2.1 73 16).toNatClampNeg (1048576 * nI s)) → (∀ h5 : am_H, h5 = am_sI h4 73 16 ((h4.1 73 16) + 1) → (∀ h6 : am_H, h6 = am_sI h5 73 10 ((h5.1 73 10) + 1) → (am_cl mX11_readsFactor d [.ref 73] h6 (fun r7 h8 => (¬ r7 = 0 → Ru mX11_readsSum none d 14 [.ref 73, .int (nI base), .int (nI s)] [] h8 Z) ∧ (r7 = 0 → Z 0 h8))))))) := fun s a' b' m' w' S' h2 Y hk H2 g1 g2 g3 g4 g5 g6 g7 g8 g9 => by
      rw [H2.2.2.2.1]
      refine ⟨vp_in_nI (by omega) (by omega), fun h4 e4 h5 e5 h6 e6 => ?_⟩
      rw [nI_clamp (by omega), lr_u, H2.2.2.2.2.2.1] at e4
      have H4 : lr_H t n h0 h4 k m' w' (6 - c) S' (upd A w' (nI (s * 2 ^ 20))) := by rw [e4]; exact lr_82 H2
      rw [H4.2.2.2.1, nI_1] at e5
      have H5 : lr_H t n h0 h5 k m' (w' + 1) (6 - c) S' (upd A w' (nI (s * 2 ^ 20))) := by rw [e5]; exact lr_16 H4 rfl
      have H6 : lr_H t n h0 h6 (k + 1) m' (w' + 1) (6 - c) S' (upd A w' (nI (s * 2 ^ 20))) := by rw [e6]; exact lr_nx H5 hk
      have au : ∀ j, j < w' → upd A w' (nI (s * 2 ^ 20)) j = A j := fun j hj => by unfold upd; rw [if_neg (by omega)]
      have aw : upd A w' (nI (s * 2 ^ 20)) w' = nI (s * 2 ^ 20) := by unfold upd; rw [if_pos rfl]
      generalize upd A w' (nI (s * 2 ^ 20)) = A1 at H6 au aw
      rw [g9] at z
      refine ⟨6, by omega, Sp_of mf_X11_readsFactor rfl (Nat.le_of_ble_eq_true rfl) rfl (x_rf (base := base) (by omega) hn c a' b' fs (k + 1) (w' + 1) w0 A1 h6 _ (by omega) H6 g7 (g8 A1 au aw) (lr_tl_cg (fun j hj => au j (by omega)) htl) (by omega) (fun h' nz f' e' => ⟨fun q => absurd rfl q, fun _ => ?_⟩) (fun c' a2 b2 fs2 k' w2 w02 A' x v h' y1 y2 y3 y4 y5 y6 y7 y8 y9 y10 => ⟨fun _ => ?_, fun q => absurd q (by decide)⟩))⟩
      · have e0 : (lp_b (0, k, Y) (fun _ => lp_FK t n c a' b' fs (k + 1))).1 = (lp_FK t n c a' b' fs (k + 1)).1 := by rw [lp_b_0 rfl]
        have w := z h' (Or.inr ⟨by rw [e0]; exact nz, f', by rw [e0]; exact e'⟩)
        have e1 : lr_r (lp_b (0, k, Y) (fun _ => lp_FK t n c a' b' fs (k + 1))) = 0 := if_neg (by rw [e0]; exact nz)
        rw [e1] at w; exact w
      · have en : lr_en (upd S' m' (nI (x * 2 ^ 20 + v))) (Y ++ [(x, v)]) m := by
          refine lr_en_app (lr_en_cg (fun j h1 h2 => ?_) g6) ⟨?_, trivial⟩
          · unfold upd; rw [if_neg (by omega)]
          · rw [← g4, if_neg (by show ¬ (x = 11 ∨ x = 12); omega)]
            unfold upd; rw [if_pos rfl]
        have ns : ∀ j, j < m → upd S' m' (nI (x * 2 ^ 20 + v)) j = S j := fun j hj => by
          unfold upd; rw [if_neg (by omega)]; exact g5 j hj
        have na : ∀ j, j < base → A' j = A j := fun j hj => (y10 j hj).trans (au j (by omega))
        have ek : lp_b (0, k, Y) (fun _ => lp_FK t n c a' b' fs (k + 1)) = lp_b (0, k', Y ++ [(x, v)]) (lp_K t n c' a2 b2 fs2) := by
          rw [lp_b_0 rfl]
          show ((lp_FK t n c a' b' fs (k + 1)).1, (lp_FK t n c a' b' fs (k + 1)).2.1, Y ++ (lp_FK t n c a' b' fs (k + 1)).2.2) = _
          rw [y1, lp_b_0 rfl, lp_b_0 rfl]
          show (_, _, Y ++ ([(x, v)] ++ _)) = (_, _, (Y ++ [(x, v)]) ++ _)
          rw [List.append_assoc]
        generalize upd S' m' (nI (x * 2 ^ 20 + v)) = S2 at y3 en ns
        have ln : (Y ++ [(x, v)]).length = Y.length + 1 := by rw [List.length_append]; rfl
        have e1 : lr_r (lp_b (0, k', Y ++ [(x, v)]) (lp_K t n c' a2 b2 fs2)) = lr_r (lp_K t n c' a2 b2 fs2 k') := by unfold lr_r; rw [lp_b_0 rfl]
        rw [ek, e1] at z
        refine x_rs hd hn hcb f c' a2 b2 fs2 k' (m' + 1) w2 w02 S2 A' h' Z _ (by omega) y3 (by rw [y5]; exact hc) y6 y7 y8 ?_ y9 (fun h9 oc => z h9 (lr_pre (k := k') ?_ ns en na))
        · rcases hbt with q | ⟨x1, v1, q1, q2, q3, q4⟩
          · exact Or.inl q
          · by_cases bz : base = 0
            · exact Or.inl bz
            · exact Or.inr ⟨x1, v1, q1, q2, q3, (na (base - 1) (by omega)).trans q4⟩
        · rw [ln, ← Nat.add_assoc, ← g4]; exact oc
    -- the end, or a bracket
    have fin : ∀ (u2 : Value), ¬ (k < n ∧ ¬ lp_sT (t k) = 0) → ¬ (k < n ∧ ¬ lp_sS (t k) = 0) → (¬ (k < n ∧ t k = 93) ∨ fs = []) → Ru mX11_readsSum none d 138 [.ref 73, .int (nI base), u2] [] h Z := fun u2 n1 n2 n3 => by
      have eK := lr_K_N (c := c) (a := a) (b := b) (fs := fs) n1 n2 kn
      rw [eK] at z
      refine sX11_readsSum_138 (by omega) ⟨2, by omega, iX11_hasOpenSum (by omega) H hfr ok htl (fun ne => ⟨fun q => absurd q (by decide), fun _ => ⟨Or.inl rfl, ?_⟩⟩) (fun e => ⟨fun _ => ?_, fun q => absurd rfl q⟩)⟩
      · cases fs with
        | nil => exact absurd rfl ne
        | cons g gs =>
          have n3' : ¬ (k < n ∧ t k = 93) := by
            rcases n3 with q | q
            · exact q
            · cases q
          have nz := (am_ft_n (x := 1) (k := k) (by omega) (by omega) (by omega)).2
          have eJ : lp_J t n c (g :: gs) k = (am_ft 1 k, k, []) := by
            show lp_b (lp_ex t n 93 k) _ = _
            rw [show lp_ex t n 93 k = (am_ft 1 k, k, []) from if_neg n3']
            exact lp_b_f nz
          have e0 : (lp_b (0, k, lp_e b ++ lp_e a) (lp_J t n c (g :: gs))).1 = am_ft 1 k := by rw [lp_b_0 rfl, eJ]
          have e1 : lr_r (lp_b (0, k, lp_e b ++ lp_e a) (lp_J t n c (g :: gs))) = 0 := if_neg (by rw [e0]; exact nz)
          rw [e1] at z
          refine z _ (Or.inr ⟨by rw [e0]; exact nz, lr_fr_sI H.2.2.2.2.2.2 (by omega), ?_⟩)
          rw [am_gI, if_pos ⟨rfl, rfl⟩, H.1.2.1, e0]; rfl
      · refine ⟨5, by omega, iX11_closes1 (by omega) (by omega) (by omega) H hfr ok b0 (fun h4 H4 => ?_)⟩
        subst e
        have eb0 : w0 = base := htl
        have ec : c = cb := by rw [← hc]; rfl
        have e1 : lr_r (lp_b (0, k, lp_e b ++ lp_e a) (lp_J t n c [])) = 1 := if_pos (by rw [lp_b_0 rfl]; rfl)
        rw [e1] at z
        refine z h4 (lr_pre (S1 := lr_w (lr_w S m b) (m + lr_e b) a) (A1 := A) (Or.inl ⟨rfl, _, _, ?_, fun _ _ => rfl, trivial, fun _ _ => rfl⟩) (fun j hj => by rw [lr_w_lt (by omega), lr_w_lt hj]) (lr_en_w2 ok) (fun _ _ => rfl))
        show lr_H t n h0 h4 k (m + (lp_e b ++ lp_e a).length + 0) base (6 - cb) _ A
        rw [List.length_append, lp_e_l, lp_e_l, Nat.add_zero, ← Nat.add_assoc, ← ec, ← eb0]; exact H4
    refine sX11_readsSum_14 (by omega) ⟨am_ms_ok H.1, 1, by omega, iX11_sumSign ?_⟩
    rw [am_ms_hr H.1]
    by_cases c1 : k < n ∧ ¬ lp_sT (t k) = 0
    · have er : lr_sn (am_rd t n k) = nI (lp_sT (t k)) := by
        rw [show am_rd t n k = nI (t k) from if_pos c1.1, lr_sn_n _ (tb k), if_neg c1.2]
      have sb := lp_sT_b _ c1.2
      have s4 : 4 ≤ lp_sT (t k) := by
        have q := c1.2
        unfold lp_sT at q ⊢
        repeat' split
        all_goals first | omega | skip
        rename_i q1 q2 q3
        rw [if_neg q1, if_neg q2, if_neg q3] at q
        exact absurd rfl q
      rw [er]
      refine ⟨fun q => absurd (show (-1 : Int32) < 0 by decide) (by rw [← q]; exact nI_pos (by omega)), fun _ => ⟨fun _ => ?_, fun q => absurd (nI_le (a := 4) s4 (by omega)) q⟩⟩
      refine sX11_readsSum_38 ⟨5, by omega, iX11_closes0 (by omega) (by omega) (by omega) H hfr ok b0 (fun h2 H2 => ?_)⟩
      refine go (lp_sT (t k)) a (lp_sT (t k)) (m + lr_e b) (w0 + lr_e a) (lr_w S m b) h2 (lp_e b) c1.1 H2 (by omega) (by omega) (by omega) (by rw [lp_e_l]) (fun j hj => lr_w_lt hj) (lr_en_w1 ok) ⟨ok.1, by omega⟩ (fun A' y1 y2 => ⟨fun q => ?_, fun q => y2, by rw [lr_e_1 c1.2]⟩) (lr_K_T gf c1)
      rw [y1 w0 (by rw [lr_e_1 q]; omega)]; exact hfr.1 q
    · by_cases c2 : k < n ∧ ¬ lp_sS (t k) = 0
      · have t0 := lr_sTS _ (tb k) c2.2
        have er : lr_sn (am_rd t n k) = nI (lp_sS (t k)) := by
          rw [show am_rd t n k = nI (t k) from if_pos c2.1, lr_sn_n _ (tb k), if_pos t0, if_neg c2.2]
        have sb := lp_sS_b _ c2.2
        have s3 : lp_sS (t k) ≤ 3 := by
          unfold lp_sS
          repeat' split
          all_goals omega
        rw [er]
        refine ⟨fun q => absurd (show (-1 : Int32) < 0 by decide) (by rw [← q]; exact nI_pos (by omega)), fun _ => ⟨fun q => absurd q (nI_ge (b := 4) (by omega) (by omega)), fun _ => ?_⟩⟩
        refine sX11_readsSum_38 ⟨5, by omega, iX11_closes1 (by omega) (by omega) (by omega) H hfr ok b0 (fun h2 H2 => ?_)⟩
        exact go (lp_sS (t k)) (lp_sS (t k)) 0 (m + lr_e b + lr_e a) w0 _ h2 (lp_e b ++ lp_e a) c2.1 H2 (by omega) (by omega) (by omega) (by rw [List.length_append, lp_e_l, lp_e_l]; omega) (fun j hj => by rw [lr_w_lt (by omega), lr_w_lt hj]) (lr_en_w2 ok) ⟨by omega, Or.inl rfl⟩ (fun A' y1 y2 => ⟨fun q => y2, fun q => absurd rfl q, by rw [lr_e_1 c2.2, lr_e_0]⟩) (lr_K_S gf gt c2 t0)
      · have er : lr_sn (am_rd t n k) = -1 := by
          rcases Nat.lt_or_ge k n with q | q
          · have z1 : lp_sT (t k) = 0 := by
              by_cases q2 : lp_sT (t k) = 0
              · exact q2
              · exact absurd ⟨q, q2⟩ c1
            have z2 : lp_sS (t k) = 0 := by
              by_cases q2 : lp_sS (t k) = 0
              · exact q2
              · exact absurd ⟨q, q2⟩ c2
            rw [show am_rd t n k = nI (t k) from if_pos q, lr_sn_n _ (tb k), if_pos z1, if_pos z2]
          · rw [show am_rd t n k = -1 from if_neg (by omega)]; decide
        rw [er]
        have e93 : am_rd t n k = 93 ↔ (k < n ∧ t k = 93) := am_rd_eq (x := 93) (by omega) tb
        refine ⟨fun _ => ⟨am_ms_ok H.1, ?_⟩, fun q => absurd rfl q⟩
        refine ⟨fun q => fin _ c1 c2 (Or.inl (fun w => q (e93.mpr w))), fun q => ?_⟩
        have q' := e93.mp q
        refine ⟨2, by omega, iX11_hasOpenSum (by omega) H hfr ok htl (fun ne => ⟨fun q => absurd q (by decide), fun _ => ?_⟩) (fun e => ⟨fun _ => fin _ c1 c2 (Or.inr e), fun q => absurd rfl q⟩)⟩
        refine ⟨5, by omega, iX11_closes1 (by omega) (by omega) (by omega) H hfr ok b0 (fun h8 H8 h9 e9 h10 e10 h11 e11 => ?_)⟩
        cases fs with
        | nil => exact absurd rfl ne
        | cons g gs =>
          obtain ⟨w1, w', p1, p2, p3, p4, p5⟩ := htl
          rw [H8.2.2.2.1, show nI w0 - 1 = nI (w0 - 1) from am_sub_n (c := 1) (by omega)] at e9
          have H9 := lr_16 (w' := w0 - 1) H8 rfl
          rw [← e9] at H9
          have lc : c + 1 ≤ 6 := by rw [List.length_cons] at hc; omega
          rw [H9.2.1, show nI (6 - c) - 1 = nI (6 - (c + 1)) by rw [show nI (6 - c) - 1 = nI (6 - c - 1) from am_sub_n (c := 1) (by omega)]; congr 1] at e10
          have H10 := lr_14 (o' := 6 - (c + 1)) H9 rfl
          rw [← e10] at H10
          have H11 := lr_nx H10 q'.1
          rw [← e11] at H11
          have eK := lr_K_N (c := c) (a := a) (b := b) (fs := g :: gs) c1 c2 kn
          have eJ : lp_J t n c (g :: gs) k = lp_K t n (c + 1) g.1 g.2 gs (k + 1) := by
            show lp_b (lp_ex t n 93 k) _ = _
            rw [show lp_ex t n 93 k = (0, k + 1, []) from if_pos q', lp_b_n]; rfl
          have l2 := p2.2.2
          have e1 : lr_r (lp_b (0, k, lp_e b ++ lp_e a) (lp_J t n c (g :: gs))) = lr_r (lp_K t n (c + 1) g.1 g.2 gs (k + 1)) := by unfold lr_r; rw [lp_b_0 rfl, eJ]
          rw [eK, e1] at z
          refine x_rs hd hn hcb f (c + 1) g.1 g.2 gs (k + 1) (m + lr_e b + lr_e a) (w0 - 1) w1 _ A h11 Z _ (by omega) H11 (by rw [List.length_cons] at hc; omega) p3 (by rw [p5, Nat.add_sub_cancel]; exact p2) p1 hbt (by omega) (fun h' oc => z h' (lr_pre (S1 := lr_w (lr_w S m b) (m + lr_e b) a) (A1 := A) ?_ (fun j hj => by rw [lr_w_lt (by omega), lr_w_lt hj]) (lr_en_w2 ok) (fun _ _ => rfl)))
          rw [eJ, List.length_append, lp_e_l, lp_e_l, ← Nat.add_assoc]; exact oc
theorem iX11_readsSum (hd : 9 ≤ d) (hn : n ≤ 240) (hc : c ≤ 6) (H : lr_H t n h0 h k m w (6 - c) S A) (hbt : lr_bt A w) (hmw : m + w ≤ k + 14) (z : ∀ h', lr_oc t n h0 m w (6 - c) S A h' (lp_sum t n c k) → Z (lr_r (lp_sum t n c k)) h') : Sp mX11_readsSum d [.ref 73] h Z := by
  refine Sp_of mf_X11_readsSum rfl (Nat.le_of_ble_eq_true rfl) rfl (sX11_readsSum_0 ?_)
  rw [lp_FK_sum] at z
  rw [H.2.2.2.1]
  refine ⟨6, by omega, Sp_of mf_X11_readsFactor rfl (Nat.le_of_ble_eq_true rfl) rfl (x_rf (base := w) (by omega) hn c 0 0 [] k w w A h _ (by omega) H ⟨Or.inl rfl, Or.inl rfl⟩ ⟨fun q => absurd rfl q, fun q => absurd rfl q, rfl⟩ rfl hmw (fun h' nz f' e' => ⟨fun q => absurd rfl q, fun _ => ?_⟩) (fun c' a2 b2 fs2 k' w2 w02 A' x v h' y1 y2 y3 y4 y5 y6 y7 y8 y9 y10 => ⟨fun _ => ?_, fun q => absurd q (by decide)⟩))⟩
  · have q := z h' (Or.inr ⟨nz, f', e'⟩)
    rw [show lr_r (lp_FK t n c 0 0 [] k) = 0 from if_neg nz] at q
    exact q
  · have e1 : lr_r (lp_b (0, k', [(x, v)]) (lp_K t n c' a2 b2 fs2)) = lr_r (lp_K t n c' a2 b2 fs2 k') := by unfold lr_r; rw [lp_b_0 rfl]
    rw [y1, e1] at z
    have en : lr_en (upd S m (nI (x * 2 ^ 20 + v))) [(x, v)] m := by
      refine ⟨?_, trivial⟩
      rw [if_neg (by show ¬ (x = 11 ∨ x = 12); omega)]
      unfold upd; rw [if_pos rfl]
    have ns : ∀ j, j < m → upd S m (nI (x * 2 ^ 20 + v)) j = S j := fun j hj => by unfold upd; rw [if_neg (by omega)]
    generalize upd S m (nI (x * 2 ^ 20 + v)) = S2 at y3 en ns
    refine x_rs (base := w) (cb := c) (by omega) hn hc (n + 1 - k') c' a2 b2 fs2 k' (m + 1) w2 w02 S2 A' h' Z _ (by have := y3.1.2.2.1; omega) y3 y5 y6 y7 y8 ?_ y9 (fun h9 oc => z h9 (lr_pre (k := k') oc ns en y10))
    rcases hbt with q | ⟨x1, v1, q1, q2, q3, q4⟩
    · exact Or.inl q
    · by_cases bz : w = 0
      · exact Or.inl bz
      · exact Or.inr ⟨x1, v1, q1, q2, q3, (y10 (w - 1) (by omega)).trans q4⟩
end
