-- the law's text: the reference's loop over a condition
def lr_J (S A : Nat → Int32) (wj ww mq m : Nat) (Q : List (Nat × Nat)) : Prop := (ww = wj ∧ lr_en S Q mq) ∨ (ww = wj + 1 ∧ ∃ pj, mq ≤ pj ∧ pj < m ∧ S pj = nI (11 * 2 ^ 20) ∧ A wj = nI (11 * 2 ^ 20 + pj) ∧ lr_en (upd S pj (nI (11 * 2 ^ 20 + m))) Q mq)
def lr_I2 (S A : Nat → Int32) (i : Bool) (w wj m0 mq : Nat) (P : List (Nat × Nat)) : Prop := (i = false ∧ wj = w ∧ mq = m0 ∧ P = []) ∨ (i = true ∧ wj = w + 1 ∧ mq = m0 + P.length + 1 ∧ lr_en S P m0 ∧ S (m0 + P.length) = nI (12 * 2 ^ 20) ∧ A w = nI (12 * 2 ^ 20 + (m0 + P.length)))
/-- on top of what waits: a jump, or an open bracket -/
def lr_top (A : Nat → Int32) (w : Nat) : Prop := ∃ x v, (x = 11 ∨ x = 12 ∨ x = 13) ∧ v < 2 ^ 20 ∧ 0 < w ∧ A (w - 1) = nI (x * 2 ^ 20 + v)
section
variable {d n k m w o c q wj ww mq m0 : Nat} {h h0 : am_H} {Z : Int32 → am_H → Prop} {t : Nat → Nat} {S A : Nat → Int32} {i : Bool} {P Q : List (Nat × Nat)}
/-- lands, what an and left -/
theorem x_ld_j {x1 : Int32} (hd : 3 ≤ d) (hw : ww ≤ 260) (hm : m ≤ 260) (H : lr_H t n h0 h k m ww o S A) (hJ : lr_J S A wj ww mq m Q) (u2 : Value) (z : ∀ h' S' u2, lr_H t n h0 h' k m wj o S' A → (∀ j, j < mq → S' j = S j) → lr_en S' Q mq → Ru mX11_lands none d 0 [.ref 73, .int x1, u2] [] h' Z) : Ru mX11_lands none d 0 [.ref 73, .int x1, u2] [] h Z := by
  rcases hJ with ⟨e, hE⟩ | ⟨e, pj, h1, h2, h3, h4, h5⟩
  · subst e; exact z h S u2 H (fun _ _ => rfl) hE
  · subst e
    refine x_ld_pop (x := 11) hd hw (by omega) H h4 h3 (Or.inl rfl) (fun h' u2 H' => z h' _ u2 H' (fun j hj => ?_) h5)
    unfold upd; rw [if_neg (by omega)]
theorem iX11_lands0 (hd : 4 ≤ d) (hw : ww ≤ 260) (hm : m ≤ 260) (H : lr_H t n h0 h k m ww o S A) (hJ : lr_J S A wj ww mq m Q) (hwj : wj ≤ ww) (ht : ¬ lr_tp A wj = 11) (z : ∀ h' S', lr_H t n h0 h' k m wj o S' A → (∀ j, j < mq → S' j = S j) → lr_en S' Q mq → Z 0 h') : Sp mX11_lands d [.ref 73, .int 0] h Z :=
  Sp_of mf_X11_lands rfl (Nat.le_of_ble_eq_true rfl) rfl (x_ld_j (by omega) hw hm H hJ _ (fun h' S' u2 H' s' e' => x_ld_stop (by omega) (by omega) H' ht (Or.inl rfl) (z h' S' H' s' e')))
theorem iX11_lands1 (hd : 4 ≤ d) (hw : ww ≤ 260) (hm : m ≤ 260) (hmq : m = mq + Q.length) (H : lr_H t n h0 h k m ww o S A) (hJ : lr_J S A wj ww mq m Q) (hwj : wj ≤ ww) (hI : lr_I2 S A i w wj m0 mq P) (ht : lr_tp A w = 13) (z : ∀ h' S', lr_H t n h0 h' k m w o S' A → (∀ j, j < m0 → S' j = S j) → lr_en S' (lp_cp i P Q) m0 → Z 0 h') : Sp mX11_lands d [.ref 73, .int 1] h Z := by
  refine Sp_of mf_X11_lands rfl (Nat.le_of_ble_eq_true rfl) rfl (x_ld_j (by omega) hw hm H hJ _ (fun h' S' u2 H' s' e' => ?_))
  have stop : ∀ (S2 : Nat → Int32) (h2 : am_H) (u2 : Value), lr_H t n h0 h2 k m w o S2 A → (∀ j, j < m0 → S2 j = S j) → lr_en S2 (lp_cp i P Q) m0 → w ≤ 260 → Ru mX11_lands none d 0 [.ref 73, .int 1, u2] [] h2 Z := fun S2 h2 u2 H2 s2 e2 w2 => x_ld_stop (by omega) w2 H2 (by rw [ht]; decide) (Or.inr (by rw [ht]; decide)) (z h2 S2 H2 s2 e2)
  rcases hI with ⟨rfl, e1, e2, e3⟩ | ⟨rfl, e1, e2, e3, e4, e5⟩
  · subst e1; subst e2
    exact stop S' h' u2 H' s' e' (by omega)
  · subst e1
    refine x_ld_pop (x := 12) (by omega) (by omega) (p := m0 + P.length) (by omega) H' e5 ((s' _ (by omega)).trans e4) (Or.inr ⟨rfl, by decide⟩) (fun h2 u3 H2 => stop _ h2 u3 H2 (fun j hj => ?_) ?_ (by omega))
    · unfold upd; rw [if_neg (by omega)]; exact s' j (by omega)
    · have ec : lp_cp true P Q = P ++ (12, Q.length) :: Q := if_pos rfl
      rw [ec]
      refine lr_en_app (lr_en_cg (fun j h1 h2 => ?_) e3) ⟨?_, lr_en_cg (fun j h1 h2 => ?_) (by rw [e2] at e'; exact e')⟩
      · unfold upd; rw [if_neg (by omega)]; exact s' j (by omega)
      · unfold upd
        rw [if_pos rfl, if_pos (Or.inr rfl)]
        show nI (12 * 2 ^ 20 + m) = nI (12 * 2 ^ 20 + (m0 + P.length + 1 + Q.length))
        rw [hmq, e2]
      · unfold upd; rw [if_neg (by omega)]
/-- the contract of a test -/
def lr_TC (t : Nat → Nat) (n : Nat) (h0 : am_H) (Z : Int32 → am_H → Prop) (d c : Nat) : Prop := ∀ (k m w q : Nat) (S A : Nat → Int32) (h : am_H), c + q ≤ 5 → lr_H t n h0 h k m (w + q) (6 - c) S A → (∀ i, i < q → A (w + i) = nI (10 * 2 ^ 20)) → lr_top A w → m + (w + q) ≤ k + 2 * (5 - (c + q)) + 2 →
  (∀ h', ¬ (lp_t t n c k).1 = 0 → lr_fr h0 h' → h'.1 73 12 = (lp_t t n c k).1 → Z 0 h') →
  (∀ k' X h' S' A', lp_t t n c k = (0, k', X) → lr_H t n h0 h' k' (m + X.length + q) w (6 - (c + q)) S' A' → (∀ j, j < m → S' j = S j) → lr_en S' (X ++ lr_nt q) m → (∀ j, j < w → A' j = A j) → Ru mX11_readsCondition none d 92 [.ref 73] [] h' Z) →
  Ru mX11_readsCondition none d 40 [.ref 73] [] h Z
/-- behind lands, where a bracket closes -/
def lr_cl (d : Nat) (Z : Int32 → am_H → Prop) (h4 : am_H) : Prop := ∀ h5 : am_H, h5 = am_sI h4 73 16 ((h4.1 73 16) - 1) → (∀ h6 : am_H, h6 = am_sI h5 73 14 ((h5.1 73 14) - 1) → (∀ h7 : am_H, h7 = am_sI h6 73 10 ((h6.1 73 10) + 1) → ((¬ (h7.1 73 16) = 0 → am_cl mX11_endsPiece d [.ref 73] h7 (fun r8 h9 => Ru mX11_readsCondition none d 92 [.ref 73] [] h9 Z)) ∧ ((h7.1 73 16) = 0 → Z 1 h7))))
theorem x_cl (hd : 6 ≤ d) (hn : n ≤ 240) (hc : c ≤ 5) (hT : lr_TC t n h0 Z d c) {S0 A0 : Nat → Int32} (h13 : 0 < w ∧ A0 (w - 1) = nI (13 * 2 ^ 20)) : ∀ (f k m wj ww mq : Nat) (i : Bool) (P Q : List (Nat × Nat)) (S A : Nat → Int32) (h : am_H), n + 1 ≤ k + f → lr_H t n h0 h k m ww (6 - c) S A → lr_J S A wj ww mq m Q → lr_I2 S A i w wj m0 mq P → m = mq + Q.length → (∀ j, j < m0 → S j = S0 j) → (∀ j, j < w → A j = A0 j) → m + w ≤ k + 2 * (5 - c) →
    (∀ h', ¬ (lp_Cn t n (lp_t t n c) i P Q k).1 = 0 → lr_fr h0 h' → h'.1 73 12 = (lp_Cn t n (lp_t t n c) i P Q k).1 → Z 0 h') →
    (∀ k' X h' S' A', lp_Cn t n (lp_t t n c) i P Q k = (0, k' + 1, X) → k' < n → lr_H t n h0 h' k' (m0 + X.length) w (6 - c) S' A' → (∀ j, j < m0 → S' j = S0 j) → lr_en S' X m0 → (∀ j, j < w → A' j = A0 j) → lr_cl d Z h') →
    Ru mX11_readsCondition none d 92 [.ref 73] [] h Z
  | 0, k, m, wj, ww, mq, i, P, Q, S, A, h, hf, H, _, _, _, _, _, _, _, _ => by have := H.1.2.2.1; omega
  | f + 1, k, m, wj, ww, mq, i, P, Q, S, A, h, hf, H, hJ, hI, hm, hS, hA, hmw, zf, zs => by
    have tb := H.1.2.2.2.2.1
    have kn := H.1.2.2.1
    have gT := lp_t_g (t := t) (n := n) (by omega) c (by omega)
    have wjb : w ≤ wj ∧ wj ≤ w + 1 := by rcases hI with ⟨_, e, _⟩ | ⟨_, e, _⟩ <;> omega
    have wwb : wj ≤ ww ∧ ww ≤ wj + 1 := by rcases hJ with ⟨e, _⟩ | ⟨e, _⟩ <;> omega
    have t13 : lr_tp A w = 13 := by
      have := lr_tpv (A := A) (w := w) (x := 13) (v := 0) (by omega) (by omega) h13.1 (by rw [hA _ (by omega), h13.2])
      exact this
    have lcp : m0 + (lp_cp i P Q).length = m := by
      rcases hI with ⟨rfl, e1, e2, e3⟩ | ⟨rfl, e1, e2, e3⟩
      · show m0 + Q.length = m
        omega
      · show m0 + (P ++ (12, Q.length) :: Q).length = m
        rw [List.length_append, List.length_cons]; omega
    have e41 : am_rd t n k = 41 ↔ (k < n ∧ t k = 41) := am_rd_eq (x := 41) (by omega) tb
    have e38 : am_rd t n k = 38 ↔ (k < n ∧ t k = 38) := am_rd_eq (x := 38) (by omega) tb
    have e124 : am_rd t n k = 124 ↔ (k < n ∧ t k = 124) := am_rd_eq (x := 124) (by omega) tb
    refine sX11_readsCondition_92 (by omega) ⟨am_ms_ok H.1, ?_⟩
    rw [am_ms_hr H.1]
    refine ⟨fun c1 => ⟨fun c2 => ?_, fun c2 => ⟨fun c3 => ?_, fun c3 => ⟨Or.inl rfl, ?_⟩⟩⟩, fun c1 => ?_⟩
    · -- and
      have q := e38.mp c2
      refine sX11_readsCondition_180 (by omega) ⟨am_ms_ok H.1, ?_⟩
      rw [am_ms_hr H.1, c2]
      refine ⟨fun _ => ?_, fun w => absurd w (by decide)⟩
      have t11 : ¬ lr_tp A wj = 11 := by
        rcases hI with ⟨_, e1, _⟩ | ⟨_, e1, _, _, _, e5⟩
        · rw [e1, t13]; decide
        · rw [lr_tpv (x := 12) (v := m0 + P.length) (by omega) (by omega) (by omega) (by rw [e1, Nat.add_sub_cancel]; exact e5)]; decide
      refine sX11_readsCondition_195 (by omega) ⟨5, by omega, iX11_lands0 (by omega) (by omega) (by omega) H hJ wwb.1 t11 (fun h2 S2 H2 s2 n2 => ⟨am_ms_ok H2.1, ?_⟩)⟩
      rw [am_ms_hr H2.1, c2]
      refine ⟨fun w => absurd rfl w, fun _ => ⟨3, by omega, iX11_jumps (x := 11) (by omega) q.1 (by omega) (by omega) H2 (fun h5 H5 => ?_)⟩⟩
      have aw : ∀ j, j < wj → upd A wj (nI (11 * 2 ^ 20 + m)) j = A j := fun j hj => by unfold upd; rw [if_neg (by omega)]
      have aj : upd A wj (nI (11 * 2 ^ 20 + m)) wj = nI (11 * 2 ^ 20 + m) := by unfold upd; rw [if_pos rfl]
      generalize upd A wj (nI (11 * 2 ^ 20 + m)) = A5 at H5 aw aj
      refine hT (k + 1) (m + 1) (wj + 1) 0 _ A5 h5 (by omega) H5 (fun i hi => by omega) ⟨11, m, Or.inl rfl, by omega, by omega, by rw [Nat.add_sub_cancel]; exact aj⟩ (by omega) (fun h' nz f' e' => ?_) (fun k' X h' S' A' ex H' s' n' a' => ?_)
      · have e0 := lp_Cn_af (i := i) (P := P) (Q := Q) q nz
        exact zf h' (by rw [e0]; exact nz) f' (by rw [e0]; exact e')
      · have g := (gT (k + 1) q.1).1 (by rw [ex])
        rw [ex] at g
        have g1 : k + 1 < k' := g.1
        have g4 : X.length + (k + 1) ≤ k' := g.2.2.2.1
        have n' : lr_en S' X (m + 1) := by
          have : X ++ lr_nt 0 = X := List.append_nil X
          rw [this] at n'; exact n'
        have e0 := lp_Cn_a (i := i) (P := P) (Q := Q) gT q ex
        rw [e0] at zf zs
        have sm : S' m = nI (11 * 2 ^ 20) := by rw [s' m (by omega)]; unfold upd; rw [if_pos rfl]
        have sl : ∀ j, j < m → S' j = S2 j := fun j hj => by rw [s' j (by omega)]; unfold upd; rw [if_neg (by omega)]
        have ln : (Q ++ (11, X.length) :: X).length = Q.length + 1 + X.length := by rw [List.length_append, List.length_cons]; omega
        refine x_cl hd hn hc hT h13 f k' (m + 1 + X.length) wj (wj + 1) mq i P (Q ++ (11, X.length) :: X) S' A' h' (by omega) H' (Or.inr ⟨rfl, m, by omega, by omega, sm, (a' wj (by omega)).trans aj, lr_en_app (lr_en_cg (fun j h1 h2 => ?_) n2) ⟨?_, lr_en_cg (fun j h1 h2 => ?_) (by rw [← hm]; exact n')⟩⟩) ?_ (by rw [ln]; omega) (fun j hj => ?_) (fun j hj => by rw [a' j (by omega), aw j (by omega)]; exact hA j hj) (by omega) zf zs
        · unfold upd; rw [if_neg (by omega)]; exact sl j (by omega)
        · rw [← hm]
          unfold upd
          rw [if_pos rfl, if_pos (Or.inl rfl)]
        · rw [← hm] at h1
          unfold upd; rw [if_neg (by omega)]
        · rcases hI with ⟨y1, y2, y3, y4⟩ | ⟨y1, y2, y3, y4, y5, y6⟩
          · exact Or.inl ⟨y1, y2, y3, y4⟩
          · exact Or.inr ⟨y1, y2, y3, lr_en_cg (fun j h1 h2 => by rw [sl j (by omega), s2 j (by omega)]) y4, by rw [sl _ (by omega), s2 _ (by omega)]; exact y5, by rw [a' w (by omega), aw w (by omega)]; exact y6⟩
        · have m0q : m0 ≤ mq := by rcases hI with ⟨_, _, y3, _⟩ | ⟨_, _, y3, _⟩ <;> omega
          rw [sl j (by omega), s2 j (by omega)]; exact hS j hj
    · -- or
      have q := e124.mp c3
      refine sX11_readsCondition_180 (by omega) ⟨am_ms_ok H.1, ?_⟩
      rw [am_ms_hr H.1, c3]
      refine ⟨fun w => absurd rfl w, fun _ => ?_⟩
      refine sX11_readsCondition_195 (by omega) ⟨5, by omega, iX11_lands1 (by omega) (by omega) (by omega) hm H hJ wwb.1 hI t13 (fun h2 S2 H2 s2 n2 => ⟨am_ms_ok H2.1, ?_⟩)⟩
      rw [am_ms_hr H2.1, c3]
      refine ⟨fun _ => ⟨3, by omega, iX11_jumps (x := 12) (by omega) q.1 (by omega) (by omega) H2 (fun h5 H5 => ?_)⟩, fun w => absurd w (by decide)⟩
      have aw : ∀ j, j < w → upd A w (nI (12 * 2 ^ 20 + m)) j = A j := fun j hj => by unfold upd; rw [if_neg (by omega)]
      have aj : upd A w (nI (12 * 2 ^ 20 + m)) w = nI (12 * 2 ^ 20 + m) := by unfold upd; rw [if_pos rfl]
      generalize upd A w (nI (12 * 2 ^ 20 + m)) = A5 at H5 aw aj
      refine hT (k + 1) (m + 1) (w + 1) 0 _ A5 h5 (by omega) H5 (fun i hi => by omega) ⟨12, m, Or.inr (Or.inl rfl), by omega, by omega, by rw [Nat.add_sub_cancel]; exact aj⟩ (by omega) (fun h' nz f' e' => ?_) (fun k' X h' S' A' ex H' s' n' a' => ?_)
      · have e0 := lp_Cn_of (i := i) (P := P) (Q := Q) q nz
        exact zf h' (by rw [e0]; exact nz) f' (by rw [e0]; exact e')
      · have g := (gT (k + 1) q.1).1 (by rw [ex])
        rw [ex] at g
        have g1 : k + 1 < k' := g.1
        have g4 : X.length + (k + 1) ≤ k' := g.2.2.2.1
        have n' : lr_en S' X (m + 1) := by
          have : X ++ lr_nt 0 = X := List.append_nil X
          rw [this] at n'; exact n'
        have e0 := lp_Cn_o (i := i) (P := P) (Q := Q) (by omega) gT q ex
        rw [e0] at zf zs
        have sm : S' m = nI (12 * 2 ^ 20) := by rw [s' m (by omega)]; unfold upd; rw [if_pos rfl]
        have sl : ∀ j, j < m → S' j = S2 j := fun j hj => by rw [s' j (by omega)]; unfold upd; rw [if_neg (by omega)]
        refine x_cl hd hn hc hT h13 f k' (m + 1 + X.length) (w + 1) (w + 1) (m + 1) true (lp_cp i P Q) X S' A' h' (by omega) H' (Or.inl ⟨rfl, n'⟩) (Or.inr ⟨rfl, rfl, by rw [lcp], lr_en_cg (fun j h1 h2 => sl j (by omega)) n2, by rw [lcp]; exact sm, by rw [lcp, a' w (by omega)]; exact aj⟩) rfl (fun j hj => ?_) (fun j hj => by rw [a' j (by omega), aw j hj]; exact hA j hj) (by omega) zf zs
        rw [sl j (by omega), s2 j hj]; exact hS j hj
    · have e0 := lp_Cn_x (tst := lp_t t n c) (i := i) (P := P) (Q := Q) kn (fun w => c2 (e38.mpr w)) (fun w => c3 (e124.mpr w)) (fun w => c1 (e41.mpr w))
      have nz := (am_ft_n (x := 1) (k := k) (by omega) (by omega) (by omega)).2
      refine zf _ (by rw [e0]; exact nz) (lr_fr_sI H.2.2.2.2.2.2 (by omega)) ?_
      rw [am_gI, if_pos ⟨rfl, rfl⟩, H.1.2.1, e0]; rfl
    · have q := e41.mp c1
      have e0 := lp_Cn_c (tst := lp_t t n c) (i := i) (P := P) (Q := Q) q
      refine ⟨5, by omega, iX11_lands1 (by omega) (by omega) (by omega) hm H hJ wwb.1 hI t13 (fun h2 S2 H2 s2 n2 => ?_)⟩
      exact zs k _ h2 S2 A e0 q.1 (by rw [lcp]; exact H2) (fun j hj => (s2 j hj).trans (hS j hj)) n2 hA
end
