-- the law's text: the reference reads a condition
section
variable {d n k m w o c q : Nat} {h h0 : am_H} {Z : Int32 → am_H → Prop} {t : Nat → Nat} {S A : Nat → Int32}
theorem lr_top_n (h : lr_top A w) : ¬ lr_tp A w = 10 := by
  obtain ⟨x, v, h1, h2, h3, h4⟩ := h
  rw [lr_tpv h2 (by omega) h3 h4]
  intro e
  have := (nI_eq (a := x) (b := 10) (by omega) (by omega)).mp e
  omega
theorem lr_top_b (h : lr_top A w) (hA : ∀ i, i < q → A (w + i) = nI (10 * 2 ^ 20)) : lr_bt A (w + q) := by
  obtain ⟨x, v, h1, h2, h3, h4⟩ := h
  cases q with
  | zero => exact Or.inr ⟨x, v, by omega, by omega, h2, h4⟩
  | succ q => exact Or.inr ⟨10, 0, by omega, by omega, by omega, hA q (by omega)⟩
theorem lr_top_cg {A' : Nat → Int32} (h : lr_top A w) (hA : ∀ j, j < w → A' j = A j) : lr_top A' w := by
  obtain ⟨x, v, h1, h2, h3, h4⟩ := h
  exact ⟨x, v, h1, h2, h3, (hA _ (by omega)).trans h4⟩
/-- a test that is a comparison -/
theorem x_tc (hd : 13 ≤ d) (hn : n ≤ 240) (hc : c + q ≤ 5) (e : lp_t t n c k = lp_cmp t n (lp_sum t n c) k) (H : lr_H t n h0 h k m (w + q) (6 - c) S A) (hA : ∀ i, i < q → A (w + i) = nI (10 * 2 ^ 20)) (ht : lr_top A w) (hmw : m + (w + q) ≤ k + 2 * (5 - (c + q)) + 2)
    (zf : ∀ h', ¬ (lp_t t n c k).1 = 0 → lr_fr h0 h' → h'.1 73 12 = (lp_t t n c k).1 → Z 0 h')
    (zs : ∀ k' X h' S' A', lp_t t n c k = (0, k', X) → lr_H t n h0 h' k' (m + X.length + q) w (6 - (c + q)) S' A' → (∀ j, j < m → S' j = S j) → lr_en S' (X ++ lr_nt q) m → (∀ j, j < w → A' j = A j) → Ru mX11_readsCondition none d 92 [.ref 73] [] h' Z) :
    am_cl mX11_readsCompared d [.ref 73] h (fun r2 h3 => (¬ r2 = 0 → Ru mX11_readsCondition none d 92 [.ref 73] [] h3 Z) ∧ (r2 = 0 → Z 0 h3)) := by
  rw [e] at zf zs
  exact ⟨12, by omega, iX11_readsCompared (by omega) hn hc H hA (lr_top_n ht) (lr_top_b ht hA) (by omega) (fun h' nz f' e' => ⟨fun q => absurd rfl q, fun _ => zf h' nz f' e'⟩) (fun k' X h' S' A' y1 y2 y3 y4 y5 => ⟨fun _ => zs k' X h' S' A' y1 y2 y3 y4 y5, fun q => absurd q (by decide)⟩)⟩
theorem lr_tc (hd : 13 ≤ d) (hn : n ≤ 240) : ∀ c, lr_TC t n h0 Z d c
  | 0 => fun k m w q S A h hc H hA ht hmw zf zs => by
    have tb := H.1.2.2.2.2.1
    have kn := H.1.2.2.1
    have e33 : am_rd t n k = 33 ↔ (k < n ∧ t k = 33) := am_rd_eq (x := 33) (by omega) tb
    have e40 : am_rd t n k = 40 ↔ (k < n ∧ t k = 40) := am_rd_eq (x := 40) (by omega) tb
    suffices go : ∀ (qq : (k < n ∧ t k = 33) ∨ (k < n ∧ t k = 40)) (qk : k < n), Ru mX11_readsCondition none d 58 [.ref 73] [] h Z by
      refine sX11_readsCondition_40 (by omega) ⟨am_ms_ok H.1, ?_⟩
      rw [am_ms_hr H.1]
      exact ⟨fun w1 => go (Or.inl (e33.mp w1)) (e33.mp w1).1, fun w1 => ⟨fun w2 => x_tc hd hn hc (by show lp_ts t n true _ _ k = _; unfold lp_ts; rw [if_neg (fun y => w1 (e33.mpr y)), if_neg (fun y => w2 (e40.mpr y))]) H hA ht hmw zf zs, fun w2 => go (Or.inr (e40.mp w2)) (e40.mp w2).1⟩⟩
    intro qq qk
    · have nz := (am_ft_n (x := 5) (k := k) (by omega) (by omega) (by omega)).2
      have bad : lp_t t n 0 k = (am_ft 5 k, k, []) → ∀ x, am_cl mX11_opens d [.ref 73, .int (nI x)] h (fun r2 h3 => (¬ r2 = 0 → Ru mX11_readsCondition none d 40 [.ref 73] [] h3 Z) ∧ (r2 = 0 → Z 0 h3)) := fun e x => ⟨3, by omega, iX11_opens (by omega) (by omega) (by omega) qk H (fun lt => absurd lt (by omega)) (fun _ h' f' e' => ⟨fun w => absurd rfl w, fun _ => zf h' (by rw [e]; exact nz) f' (by rw [e]; exact e')⟩)⟩
      refine sX11_readsCondition_58 (by omega) ⟨am_ms_ok H.1, ?_⟩
      rw [am_ms_hr H.1]
      refine ⟨fun w => ?_, fun w => ?_⟩
      · have w' : ¬ (k < n ∧ t k = 33) := fun y => w (e33.mpr y)
        have q40 : k < n ∧ t k = 40 := by
          rcases qq with y | y
          · exact absurd y w'
          · exact y
        exact bad (by show lp_ts t n true _ _ k = _; unfold lp_ts; rw [if_neg w', if_pos q40]; rfl) 13
      · exact bad (by show lp_ts t n true _ _ k = _; unfold lp_ts; rw [if_pos (e33.mp w)]; rfl) 10
  | c + 1 => fun k m w q S A h hc H hA ht hmw zf zs => by
    have tb := H.1.2.2.2.2.1
    have kn := H.1.2.2.1
    have e33 : am_rd t n k = 33 ↔ (k < n ∧ t k = 33) := am_rd_eq (x := 33) (by omega) tb
    have e40 : am_rd t n k = 40 ↔ (k < n ∧ t k = 40) := am_rd_eq (x := 40) (by omega) tb
    suffices go : ∀ (qq : (k < n ∧ t k = 33) ∨ (k < n ∧ t k = 40)) (qk : k < n), Ru mX11_readsCondition none d 58 [.ref 73] [] h Z by
      refine sX11_readsCondition_40 (by omega) ⟨am_ms_ok H.1, ?_⟩
      rw [am_ms_hr H.1]
      exact ⟨fun w1 => go (Or.inl (e33.mp w1)) (e33.mp w1).1, fun w1 => ⟨fun w2 => x_tc hd hn hc (by show lp_ts t n false _ _ k = _; unfold lp_ts; rw [if_neg (fun y => w1 (e33.mpr y)), if_neg (fun y => w2 (e40.mpr y))]) H hA ht hmw zf zs, fun w2 => go (Or.inr (e40.mp w2)) (e40.mp w2).1⟩⟩
    intro qq qk
    · have gT := lp_t_g (t := t) (n := n) (by omega) c (by omega)
      have gk := gT (k + 1) qk
      have t0 : 0 < w := by obtain ⟨x, v, h1, h2, h3, h4⟩ := ht; exact h3
      refine sX11_readsCondition_58 (by omega) ⟨am_ms_ok H.1, ?_⟩
      rw [am_ms_hr H.1]
      refine ⟨fun w3 => ⟨3, by omega, iX11_opens (x := 13) (by omega) (by omega) (by omega) qk H (fun lt h' H' => ⟨fun _ => ?_, fun w => absurd w (by decide)⟩) (fun w => by omega)⟩, fun w3 => ⟨3, by omega, iX11_opens (x := 10) (by omega) (by omega) (by omega) qk H (fun lt h' H' => ⟨fun _ => ?_, fun w => absurd w (by decide)⟩) (fun w => by omega)⟩⟩
      · -- a bracket
        have w' : ¬ (k < n ∧ t k = 33) := fun y => w3 (e33.mpr y)
        have q40 : k < n ∧ t k = 40 := by
          rcases qq with y | y
          · exact absurd y w'
          · exact y
        rw [show 6 - (c + 1) + 1 = 6 - c by omega] at H'
        have au : ∀ j, j < w + q → upd A (w + q) (nI (13 * 2 ^ 20)) j = A j := fun j hj => by unfold upd; rw [if_neg (by omega)]
        have aw : upd A (w + q) (nI (13 * 2 ^ 20)) (w + q) = nI (13 * 2 ^ 20) := by unfold upd; rw [if_pos rfl]
        generalize upd A (w + q) (nI (13 * 2 ^ 20)) = A1 at H' au aw
        have es : lp_t t n (c + 1) k = lp_b (lp_t t n c (k + 1)) (fun k => lp_Cn t n (lp_t t n c) false [] [] k) := by
          show lp_ts t n false _ _ k = _
          unfold lp_ts
          rw [if_neg w', if_pos q40, if_neg (by decide)]
          exact lp_Cn_s (k + 1)
        rw [es] at zf zs
        refine lr_tc hd hn c (k + 1) m (w + q + 1) 0 S A1 h' (by omega) H' (fun i hi => by omega) ⟨13, 0, Or.inr (Or.inr rfl), by omega, by omega, aw⟩ (by omega) (fun h2 nz f2 e2 => ?_) (fun k2 X h2 S2 A2 ex H2 s2 n2 a2 => ?_)
        · rw [lp_b_f nz] at zf
          exact zf h2 nz f2 e2
        · rw [ex] at gk
          have g1 : k + 1 < k2 := (gk.1 rfl).1
          have g4 : X.length + (k + 1) ≤ k2 := (gk.1 rfl).2.2.2.1
          rw [ex, lp_Cn_q] at zf zs
          have n2 : lr_en S2 X m := by
            have : X ++ lr_nt 0 = X := List.append_nil X
            rw [this] at n2; exact n2
          refine x_cl (m0 := m) (w := w + q + 1) (S0 := S) (A0 := A1) (by omega) hn (by omega) (lr_tc hd hn c) ⟨by omega, aw⟩ (n + 1 - k2) k2 (m + X.length) (w + q + 1) (w + q + 1) m false [] X S2 A2 h2 (by have := H2.1.2.2.1; omega) H2 (Or.inl ⟨rfl, n2⟩) (Or.inl ⟨rfl, rfl, rfl, rfl⟩) rfl s2 a2 (by omega) zf (fun k3 X3 h3 S3 A3 e3 l3 H3 s3 n3 a3 => ?_)
          intro h5 e5 h6 e6 h7 e7
          have gb := (lp_t_g (t := t) (n := n) (by omega) (c + 1) (by omega) k (by omega)).1 (by rw [es, ex, lp_Cn_q, e3])
          rw [es, ex, lp_Cn_q, e3] at gb
          have gl : X3.length + k ≤ k3 + 1 := gb.2.2.2.1
          rw [H3.2.2.2.1, show nI (w + q + 1) - 1 = nI (w + q) from am_sub_n (a := w + q + 1) (c := 1) (by omega)] at e5
          have H5 := lr_16 (w' := w + q) H3 rfl
          rw [← e5] at H5
          rw [H5.2.1, show nI (6 - c) - 1 = nI (6 - (c + 1 + q) + q) by rw [show nI (6 - c) - 1 = nI (6 - c - 1) from am_sub_n (a := 6 - c) (c := 1) (by omega)]; congr 1; omega] at e6
          have H6 := lr_14 (o' := 6 - (c + 1 + q) + q) H5 rfl
          rw [← e6] at H6
          have H7 := lr_nx H6 l3
          rw [← e7] at H7
          have as : ∀ j, j < w + q → A3 j = A j := fun j hj => (a3 j (by omega)).trans (au j hj)
          refine ⟨fun _ => ⟨4, by omega, iX11_endsPiece (by omega) hn (by omega) (by omega) (by omega) H7 (fun i hi => (as _ (by omega)).trans (hA i hi)) (lr_top_n (lr_top_cg ht (fun j hj => as j (by omega)))) (fun h9 S9 H9 s9 n9 => ?_)⟩, fun y => ?_⟩
          · exact zs (k3 + 1) X3 h9 S9 A3 e3 H9 (fun j hj => (s9 j (by omega)).trans (s3 j hj)) (lr_en_app (lr_en_cg (fun j h1 h2 => s9 j h2) n3) n9) (fun j hj => as j (by omega))
          · rw [H7.2.2.2.1] at y
            have := (nI_eq (a := w + q) (b := 0) (by omega) (by omega)).mp y
            omega
      · -- a not
        have q33 := e33.mp w3
        rw [show 6 - (c + 1) + 1 = 6 - c by omega] at H'
        have au : ∀ j, j < w + q → upd A (w + q) (nI (10 * 2 ^ 20)) j = A j := fun j hj => by unfold upd; rw [if_neg (by omega)]
        have aw : upd A (w + q) (nI (10 * 2 ^ 20)) (w + q) = nI (10 * 2 ^ 20) := by unfold upd; rw [if_pos rfl]
        generalize upd A (w + q) (nI (10 * 2 ^ 20)) = A1 at H' au aw
        have es : lp_t t n (c + 1) k = lp_b (lp_t t n c (k + 1)) (fun k2 => (0, k2, [(10, 0)])) := by
          show lp_ts t n false _ _ k = _
          unfold lp_ts
          rw [if_pos q33, if_neg (by decide)]; rfl
        rw [es] at zf zs
        refine lr_tc hd hn c (k + 1) m w (q + 1) S A1 h' (by omega) H' (fun i hi => ?_) (lr_top_cg ht (fun j hj => au j (by omega))) (by omega) (fun h2 nz f2 e2 => ?_) (fun k2 X h2 S2 A2 ex H2 s2 n2 a2 => ?_)
        · rcases Nat.lt_or_ge i q with y | y
          · rw [au _ (by omega)]; exact hA i y
          · rw [show i = q by omega]; exact aw
        · rw [lp_b_f nz] at zf
          exact zf h2 nz f2 e2
        · have eo : lp_b (lp_t t n c (k + 1)) (fun k2 => (0, k2, [(10, 0)])) = (0, k2, X ++ [(10, 0)]) := by rw [ex, lp_b_0 rfl]
          have ln : (X ++ [(10, 0)] : List (Nat × Nat)).length = X.length + 1 := by rw [List.length_append]; rfl
          have er : (X ++ [(10, 0)]) ++ lr_nt q = X ++ lr_nt (q + 1) := by rw [List.append_assoc]; rfl
          refine zs k2 (X ++ [(10, 0)]) h2 S2 A2 eo ?_ s2 (by rw [er]; exact n2) (fun j hj => (a2 j hj).trans (au j (by omega)))
          rw [ln, show m + (X.length + 1) + q = m + X.length + (q + 1) by omega, show 6 - (c + 1 + q) = 6 - (c + (q + 1)) by omega]; exact H2
/-- a condition in its brackets -/
def lp_q (t : Nat → Nat) (n k : Nat) : lp_O := lp_b (lp_ex t n 40 k) (fun k => lp_b (lp_ch t n (lp_t t n 5) k) (lp_ex t n 41))
theorem iX11_readsCondition (hd : 13 ≤ d) (hn : n ≤ 240) (H : lr_H t n h0 h k m w o S A) (hm : m ≤ k) (zf : ∀ h', ¬ (lp_q t n k).1 = 0 → lr_fr h0 h' → h'.1 73 12 = (lp_q t n k).1 → Z 0 h') (zs : ∀ k' X h' S' A', lp_q t n k = (0, k', X) → lr_H t n h0 h' k' (m + X.length) 0 0 S' A' → (∀ j, j < m → S' j = S j) → lr_en S' X m → Z 1 h') : Sp mX11_readsCondition d [.ref 73] h Z := by
  have tb := H.1.2.2.2.2.1
  have kn := H.1.2.2.1
  have e40 : am_rd t n k = 40 ↔ (k < n ∧ t k = 40) := am_rd_eq (x := 40) (by omega) tb
  refine Sp_of mf_X11_readsCondition rfl (Nat.le_of_ble_eq_true rfl) rfl (sX11_readsCondition_0 (by omega) ⟨am_ms_ok H.1, ?_⟩)
  rw [am_ms_hr H.1]
  refine ⟨fun c1 h2 e2 h3 e3 => ?_, fun c1 => ⟨Or.inl rfl, ?_⟩⟩
  · have q := e40.mp c1
    have H2 := lr_14 (o' := 0) H rfl
    have H2 : lr_H t n h0 h2 k m w 0 S A := by rw [e2]; exact H2
    have H3 := lr_16 (w' := 0) H2 rfl
    have H3 : lr_H t n h0 h3 k m 0 0 S A := by rw [e3]; exact H3
    have eq : lp_q t n k = lp_b (lp_t t n 5 (k + 1)) (fun k => lp_Cn t n (lp_t t n 5) false [] [] k) := by
      unfold lp_q
      rw [show lp_ex t n 40 k = (0, k + 1, []) from if_pos q, lp_b_n]
      exact lp_Cn_s (k + 1)
    rw [eq] at zf zs
    refine ⟨3, by omega, iX11_opens (x := 13) (by omega) (by omega) (by omega) q.1 H3 (fun _ h5 H5 => ⟨fun _ => ?_, fun w => absurd w (by decide)⟩) (fun w => by omega)⟩
    have aw : upd A 0 (nI (13 * 2 ^ 20)) 0 = nI (13 * 2 ^ 20) := by unfold upd; rw [if_pos rfl]
    generalize upd A 0 (nI (13 * 2 ^ 20)) = A1 at H5 aw
    have gk := lp_t_g (t := t) (n := n) (by omega) 5 (by omega) (k + 1) q.1
    have T5 : lr_TC t n h0 Z d 5 := lr_tc hd hn 5
    refine T5 (k + 1) m 1 0 S A1 h5 (by omega) H5 (fun i hi => by omega) ⟨13, 0, Or.inr (Or.inr rfl), by omega, by omega, aw⟩ (by omega) (fun h2 nz f2 e2 => ?_) (fun k2 X h2 S2 A2 ex H2 s2 n2 a2 => ?_)
    · rw [lp_b_f nz] at zf
      exact zf h2 nz f2 e2
    · rw [ex] at gk
      have g1 : k + 1 < k2 := (gk.1 rfl).1
      have g4 : X.length + (k + 1) ≤ k2 := (gk.1 rfl).2.2.2.1
      rw [ex, lp_Cn_q] at zf zs
      have n2 : lr_en S2 X m := by
        have : X ++ lr_nt 0 = X := List.append_nil X
        rw [this] at n2; exact n2
      refine x_cl (m0 := m) (w := 1) (S0 := S) (A0 := A1) (by omega) hn (by omega) T5 ⟨by omega, aw⟩ (n + 1 - k2) k2 (m + X.length) 1 1 m false [] X S2 A2 h2 (by have := H2.1.2.2.1; omega) H2 (Or.inl ⟨rfl, n2⟩) (Or.inl ⟨rfl, rfl, rfl, rfl⟩) rfl s2 a2 (by omega) zf (fun k3 X3 h3 S3 A3 e3 l3 H3 s3 n3 a3 => ?_)
      intro h5 e5 h6 e6 h7 e7
      have H5 := lr_16 (w' := 0) (x := h3.1 73 16 - 1) H3 (by rw [H3.2.2.2.1]; rfl)
      rw [← e5] at H5
      have H6 := lr_14 (o' := 0) (x := h5.1 73 14 - 1) H5 (by rw [H5.2.1]; rfl)
      rw [← e6] at H6
      have H7 := lr_nx H6 l3
      rw [← e7] at H7
      exact ⟨fun y => absurd H7.2.2.2.1 y, fun _ => zs (k3 + 1) X3 h7 S3 A3 e3 H7 s3 n3⟩
  · have q : ¬ (k < n ∧ t k = 40) := fun y => c1 (e40.mpr y)
    have nz := (am_ft_n (x := 1) (k := k) (by omega) (by omega) (by omega)).2
    have e0 : lp_q t n k = (am_ft 1 k, k, []) := by
      unfold lp_q
      rw [show lp_ex t n 40 k = (am_ft 1 k, k, []) from if_neg q]
      exact lp_b_f nz
    refine zf _ (by rw [e0]; exact nz) (lr_fr_sI H.2.2.2.2.2.2 (by omega)) ?_
    rw [am_gI, if_pos ⟨rfl, rfl⟩, H.1.2.1, e0]; rfl
end
