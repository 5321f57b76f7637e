-- the law's text: the class reads it whole
section
variable {d n g : Nat} {h : am_H} {Z : Int32 → am_H → Prop} {t : Nat → Nat}
theorem lp_q_g (hn : n ≤ 240) {k : Nat} (hk : k ≤ n) : lp_G0 n (lp_q t n k) k 0 100 :=
  lp_G0_b (lp_ex_g (by omega) hk) (fun k' _ h2 => lp_G0_b (lp_G_0 (lp_ch_g (by omega) (lp_t_g (by omega) 5 (by omega))) h2) (fun k'' _ h4 => lp_ex_g (by omega) h4))
/-- what is sure of a rule -/
theorem lp_rg (hn : n ≤ 240) {q k : Nat} (hk : k ≤ n) (e : lp_rf t n q k = 0) : q < 16 ∧ lp_lt t n k ∧ k < (lp_q t n (lp_v t n k).2.1).2.1 ∧ (lp_q t n (lp_v t n k).2.1).2.1 ≤ n ∧ lp_cz (lp_vc (t k) (lp_v t n k).2.2) + lp_cz (lp_q t n (lp_v t n k).2.1).2.2 + 2 * k ≤ 2 * (lp_q t n (lp_v t n k).2.1).2.1 ∧ (lp_v t n k).2.2.length + (lp_q t n (lp_v t n k).2.1).2.2.length + k ≤ (lp_q t n (lp_v t n k).2.1).2.1 ∧ (¬ t k = 120 → lp_T (lp_v t n k).2.2 0 1) ∧ lp_T (lp_q t n (lp_v t n k).2.1).2.2 0 100 := by
  unfold lp_rf at e
  by_cases c1 : lp_lt t n k
  · rw [if_neg (fun w => w c1)] at e
    by_cases c2 : 16 ≤ q
    · rw [if_pos c2] at e
      exact absurd e (am_ft_n (by omega) (by omega) (by omega)).2
    · rw [if_neg c2] at e
      by_cases c3 : (lp_v t n k).1 = 0
      · rw [if_neg (fun w => w c3)] at e
        have hv : k < (lp_v t n k).2.1 ∧ (lp_v t n k).2.1 ≤ n ∧ lp_cz (lp_vc (t k) (lp_v t n k).2.2) + 2 * k ≤ 2 * (lp_v t n k).2.1 ∧ (lp_v t n k).2.2.length + k ≤ (lp_v t n k).2.1 ∧ (¬ t k = 120 → lp_T (lp_v t n k).2.2 0 1) := by
          by_cases c4 : t k = 120
          · have ev : lp_v t n k = (0, k + 1, []) := if_pos c4
            have hk := c1.1
            rw [ev, show lp_vc (t k) (0, k + 1, ([] : List (Nat × Nat))).2.2 = [(0, 1)] from if_pos c4]
            refine ⟨by show k < k + 1; omega, by show k + 1 ≤ n; omega, by show 2 + 2 * k ≤ 2 * (k + 1); omega, by show 0 + k ≤ k + 1; omega, fun q => absurd c4 q⟩
          · have ev : lp_v t n k = lp_sum t n 6 (k + 1) := if_neg c4
            have gk := lp_sum_g (t := t) (n := n) (c := 6) (a := 0) (by omega) (by omega) (k + 1) c1.1
            rw [← ev] at gk
            obtain ⟨g1, g2, g3, g4, g5⟩ := gk.1 c3
            rw [show lp_vc (t k) (lp_v t n k).2.2 = (lp_v t n k).2.2 from if_neg c4]
            exact ⟨by omega, g2, by omega, by omega, fun _ => g5⟩
        obtain ⟨v1, v2, v3, v4, v5⟩ := hv
        obtain ⟨w1, w2, w3, w4, w5⟩ := (lp_q_g (t := t) hn v2).1 e
        exact ⟨by omega, c1, by omega, w2, by omega, by omega, v5, w5⟩
      · rw [if_pos c3] at e; exact absurd e c3
  · rw [if_pos c1] at e
    exact absurd e (am_ft_n (by omega) (by omega) (by omega)).2
/-- the next rules, seen from behind a rule -/
def lp_nx (t : Nat → Nat) (n f q k : Nat) : Int32 × List lp_R := if k < n then (if t k = 59 then lp_lw t n f (q + 1) (k + 1) else (am_ft 1 k, [])) else (0, [])
theorem lp_lw_f {f q k : Nat} (e : ¬ lp_rf t n q k = 0) : lp_lw t n (f + 1) q k = (lp_rf t n q k, []) := if_pos e
theorem lp_lw_s {f q k : Nat} (e : lp_rf t n q k = 0) : lp_lw t n (f + 1) q k = ((lp_nx t n f q (lp_q t n (lp_v t n k).2.1).2.1).1, (t k, (lp_v t n k).2.2, (lp_q t n (lp_v t n k).2.1).2.2) :: (lp_nx t n f q (lp_q t n (lp_v t n k).2.1).2.1).2) := by
  refine (if_neg (fun w => w e)).trans ?_
  generalize (lp_q t n (lp_v t n k).2.1).2.1 = K
  unfold lp_nx
  by_cases c1 : K < n
  · rw [if_pos c1, if_pos c1]
    by_cases c2 : t K = 59
    · rw [if_pos c2, if_pos ⟨c1, c2⟩, if_pos c2]
    · rw [if_neg c2, if_neg (fun w => c2 w.2), if_neg c2]
  · rw [if_neg c1, if_neg (fun w => c1 w.1), if_neg c1]
/-- after a fault the loop ends -/
theorem x_l22 (hd : 4 ≤ d) {x3 : Int32} {u1 u2 : Value} (nz : ¬ h.1 3 3 = 0) (z : Z (h.1 3 3) h) : Ru mX4_read none d 22 [.ref 72, u1, u2, .int x3] [] h Z :=
  sX4_read_22 hd ⟨fun _ => z, fun _ => ⟨fun _ => z, fun w => absurd nz w⟩⟩
theorem x_lr (hd : 35 ≤ d) (hn : n ≤ 240) (hg : am_la g) : ∀ (f q k p : Nat) (h : am_H) (u1 u2 : Value), q + f = 17 → q ≤ 16 → am_ss t n k h → h.2.1 72 1 = g → h.1 g 8 = nI p → h.1 g 7 = nI q → p ≤ 2 * k →
    (∀ h', ¬ (lp_lw t n f q k).1 = 0 → lc_f2 g h h' → Z (lp_lw t n f q k).1 h') →
    (∀ h', (lp_lw t n f q k).1 = 0 → lc_f2 g h h' → h'.1 g 7 = nI (q + (lp_lw t n f q k).2.length) → (∀ j, j < p → h'.2.2 (g + 5) j = h.2.2 (g + 5) j) → (∀ i, 1 ≤ i → i ≤ 4 → ∀ j, j < q → h'.2.2 (g + i) j = h.2.2 (g + i) j) → lc_rs (h'.2.2 (g + 1)) (h'.2.2 (g + 2)) (h'.2.2 (g + 3)) (h'.2.2 (g + 4)) (h'.2.2 (g + 5)) (lp_lw t n f q k).2 q p → Z (nI (q + (lp_lw t n f q k).2.length)) h') →
    Ru mX4_read none d 22 [.ref 72, u1, u2, .int (nI q)] [] h Z
  | 0, q, _, _, _, _, _, hq, hq2, _, _, _, _, _, _, _ => absurd hq (by omega)
  | f + 1, q, k, p, h, u1, u2, hq, hq2, hs, h72, h8, h7, hp, zf, zs => by
    have hk := hs.2.2.2.1
    have tb := hs.2.2.2.2.2.1
    refine sX4_read_22 (by omega) ⟨fun c => absurd c (Int32.not_lt.mpr (nI_le (b := 16) hq2 (by omega))), fun _ => ⟨fun c => absurd hs.2.2.1 c, fun _ => ⟨33, by omega, iX4_readRule (by omega) hn hg hs h72 h8 h7 hq2 hp (fun h2 nz f2 e2 => ?_) (fun h2 e0 ru => ?_)⟩⟩⟩
    · rw [lp_lw_f nz] at zf
      have nz2 : ¬ h2.1 3 3 = 0 := by rw [e2]; exact nz
      refine ⟨fun _ => ?_, fun w => absurd nz2 w⟩
      rw [am_exp_no (by decide) nz2]
      exact x_l22 (by omega) nz2 (by rw [e2]; exact zf h2 nz f2)
    · rw [lp_lw_s e0] at zf zs
      obtain ⟨g1, g2, g3, g4, g5, g6, g7, g8⟩ := lp_rg hn hk e0
      unfold lc_ru at ru
      generalize (lp_q t n (lp_v t n k).2.1).2.2 = X2 at *
      generalize (lp_v t n k).2.2 = X1 at *
      generalize (lp_q t n (lp_v t n k).2.1).2.1 = K at *
      obtain ⟨r1, r2, r3, r4, r5, r6, r7, r8, r9, r10, r11⟩ := ru
      have z2 : h2.1 3 3 = 0 := r2.2.2.1
      rw [am_ss_pk r2]
      refine ⟨fun w => absurd z2 w, fun _ => ⟨fun c => ?_, fun c => ?_⟩⟩
      · have hK : K < n := by
          rcases Nat.lt_or_ge K n with w | w
          · exact w
          · exact absurd ((am_rd_no tb).mpr w) c
        have ox := lc_x (c := 59) hg r2 (by omega) r4
        rw [show nI 59 = (59 : Int32) from rfl] at ox
        rw [nI_1]
        generalize am_exp h2 59 = h3 at ox ⊢
        have f3 : lc_f2 g h h3 := lc_f2_tr r1 (lc_f2_of ox.1)
        unfold lp_ex at ox
        by_cases c59 : t K = 59
        · rw [if_pos ⟨hK, c59⟩] at ox
          have en : lp_nx t n f q K = lp_lw t n f (q + 1) (K + 1) := by unfold lp_nx; rw [if_pos hK, if_pos c59]
          rw [en] at zf zs
          rcases ox.2 with ⟨_, a2, a3, a4, _⟩ | ⟨w, _⟩
          · have gr : ∀ i, 1 ≤ i → i ≤ 4 → h3.2.2 (g + i) = h2.2.2 (g + i) := fun i i1 i2 => ox.1.1 _ (by omega)
            refine x_lr hd hn hg f (q + 1) (K + 1) _ h3 u1 u2 (by omega) (by omega) a2 (by rw [f3.2.2]; exact h72) a3 (by rw [ox.1.2.1 g 7 (by rcases hg with rfl | rfl <;> omega) (by omega)]; exact r3) (by show p + _ + _ + 0 ≤ _; omega) (fun h' w1 w2 => zf h' w1 (lc_f2_tr f3 w2)) (fun h' w1 w2 w3 w4 w5 w6 => ?_)
            have w4' : ∀ j, j < p + lp_cz (lp_vc (t k) X1) + lp_cz X2 → h'.2.2 (g + 5) j = h2.2.2 (g + 5) j := fun j hj => (w4 j hj).trans (a4 j hj)
            have el : q + 1 + (lp_lw t n f (q + 1) (K + 1)).2.length = q + ((t k, X1, X2) :: (lp_lw t n f (q + 1) (K + 1)).2).length := by rw [List.length_cons]; omega
            rw [el] at w3 ⊢
            have row : ∀ i, 1 ≤ i → i ≤ 4 → h'.2.2 (g + i) q = h2.2.2 (g + i) q := fun i i1 i2 => (w5 i i1 i2 q (by omega)).trans (by rw [gr i i1 i2])
            have rowj : ∀ i, 1 ≤ i → i ≤ 4 → ∀ j, j < q → h2.2.2 (g + i) j = h.2.2 (g + i) j := fun i i1 i2 j hj => by
              rcases (by omega : i = 1 ∨ i = 2 ∨ i = 3 ∨ i = 4) with rfl | rfl | rfl | rfl
              · rw [r8]; exact if_neg (by omega)
              · rw [r9]; exact if_neg (by omega)
              · rw [r10]; exact if_neg (by omega)
              · rw [r11]; exact if_neg (by omega)
            refine zs h' w1 (lc_f2_tr f3 w2) w3 (fun j hj => (w4' j (by omega)).trans (r5 j hj)) (fun i i1 i2 j hj => ((w5 i i1 i2 j (by omega)).trans (by rw [gr i i1 i2])).trans (rowj i i1 i2 j hj)) ⟨?_, ?_, ?_, ?_, ?_, ?_, w6⟩
            · rw [row 1 (by omega) (by omega), r8]; exact if_pos rfl
            · rw [row 2 (by omega) (by omega), r9]; exact if_pos rfl
            · rw [row 3 (by omega) (by omega), r10]; exact if_pos rfl
            · rw [row 4 (by omega) (by omega), r11]; exact if_pos rfl
            · exact lp_enc_cg (fun j h1 h2 => w4' j (Nat.lt_of_lt_of_le h2 (Nat.le_add_right _ _))) r6
            · exact lp_enc_cg (fun j h1 h2 => w4' j h2) r7
          · exact absurd rfl w
        · rw [if_neg (fun w => c59 w.2)] at ox
          have en : lp_nx t n f q K = (am_ft 1 K, []) := by unfold lp_nx; rw [if_pos hK, if_neg c59]
          rw [en] at zf
          have nz := (am_ft_n (x := 1) (k := K) (by omega) (by omega) (by omega)).2
          rcases ox.2 with ⟨w, _⟩ | ⟨_, w⟩
          · exact absurd w nz
          · have w' : h3.1 3 3 = am_ft 1 K := w
            exact x_l22 (by omega) (by rw [w']; exact nz) (by rw [w']; exact zf h3 nz f3)
      · have hK : ¬ K < n := by have := (am_rd_no tb).mp c; omega
        have en : lp_nx t n f q K = (0, []) := by unfold lp_nx; rw [if_neg hK]
        rw [en] at zs
        rw [nI_1]
        refine zs h2 rfl r1 r3 r5 (fun i i1 i2 j hj => ?_) ⟨?_, ?_, ?_, ?_, r6, r7, trivial⟩
        · rcases (by omega : i = 1 ∨ i = 2 ∨ i = 3 ∨ i = 4) with rfl | rfl | rfl | rfl
          · rw [r8]; exact if_neg (by omega)
          · rw [r9]; exact if_neg (by omega)
          · rw [r10]; exact if_neg (by omega)
          · rw [r11]; exact if_neg (by omega)
        · rw [r8]; exact if_pos rfl
        · rw [r9]; exact if_pos rfl
        · rw [r10]; exact if_pos rfl
        · rw [r11]; exact if_pos rfl
/-- what the class's reading of a law may change -/
def lc_f3 (g : Nat) (h h' : am_H) : Prop := (∀ a, ¬ (g + 1 ≤ a ∧ a ≤ g + 5) → h'.2.2 a = h.2.2 a) ∧ (∀ a k, a ≠ 3 → ¬ (a = g ∧ (k = 7 ∨ k = 8)) → h'.1 a k = h.1 a k) ∧ ∀ a, a ≠ 72 → h'.2.1 a = h.2.1 a
theorem iX4_read (hd : 36 ≤ d) (hn : n ≤ 240) (hg : am_la g) {N : Nat} (ht : am_tape h N) (hnN : n ≤ N)
    (zf : ∀ h', ¬ (lp_lw (am_bt h) n 17 0 0).1 = 0 → lc_f3 g h h' → Z (lp_lw (am_bt h) n 17 0 0).1 h')
    (zs : ∀ h', (lp_lw (am_bt h) n 17 0 0).1 = 0 → lc_f3 g h h' → h'.1 g 7 = nI (lp_lw (am_bt h) n 17 0 0).2.length → lc_rs (h'.2.2 (g + 1)) (h'.2.2 (g + 2)) (h'.2.2 (g + 3)) (h'.2.2 (g + 4)) (h'.2.2 (g + 5)) (lp_lw (am_bt h) n 17 0 0).2 0 0 → Z (nI (lp_lw (am_bt h) n 17 0 0).2.length) h') : Sp mX4_read d [.ref 72, .int (nI n), .ref g] h Z := by
  have g3 : g ≠ 3 ∧ g ≠ 1 := by rcases hg with rfl | rfl <;> omega
  refine Sp_of mf_X4_read rfl (Nat.le_of_ble_eq_true rfl) rfl (sX4_read_0 hg (by omega) (fun h1 e1 => ?_))
  have p1 : h1.2.1 72 1 = g := by rw [e1, am_gP, if_pos ⟨rfl, rfl⟩]
  rw [p1]
  refine ⟨hg, 1, by omega, Sp_of mf_X3_clear rfl (Nat.le_of_ble_eq_true rfl) rfl (sX3_clear_0 hg (fun h2 e2 h3 e3 => ?_))⟩
  have i3 : h3.1 g 7 = 0 ∧ h3.1 g 8 = 0 := by
    rw [e3, e2]
    exact ⟨by rw [am_gI, if_neg (by omega), am_gI, if_pos ⟨rfl, rfl⟩], by rw [am_gI, if_pos ⟨rfl, rfl⟩]⟩
  have j3 : ∀ a k, ¬ (a = g ∧ (k = 7 ∨ k = 8)) → h3.1 a k = h.1 a k := fun a k w => by
    rw [e3, am_gI, if_neg (by omega), e2, am_gI, if_neg (by omega), e1]; rfl
  have a3 : h3.2.2 = h.2.2 := by rw [e3, e2, e1]; rfl
  have p3 : h3.2.1 = h1.2.1 := by rw [e3, e2]; rfl
  have px : ∀ a, a ≠ 72 → h3.2.1 a = h.2.1 a := fun a ha => by
    funext j
    rw [p3, e1, am_gP, if_neg (fun e => ha e.1)]
  have S : am_ss (am_bt h) n 0 (am_sI (am_sI (am_sI h3 3 1 (nI n)) 3 2 0) 3 3 0) := by
    refine ⟨?_, ?_, ?_, Nat.zero_le _, by omega, am_bt_lt h, fun i hi => ?_⟩
    · simp only [am_gI, Nat.reduceEqDiff, and_false, and_true, reduceIte]
    · simp only [am_gI, Nat.reduceEqDiff, and_false, and_true, reduceIte]; rfl
    · simp only [am_gI, Nat.reduceEqDiff, and_false, and_true, reduceIte]
    · have w : am_at h (nI i) = nI (am_bt h i) := am_at_b ht (by omega)
      unfold am_at at w ⊢
      rw [show (am_sI (am_sI (am_sI h3 3 1 (nI n)) 3 2 0) 3 3 0).2.2 2 = h.2.2 2 from by rw [am_gI2, am_gI2, am_gI2, a3], show (am_sI (am_sI (am_sI h3 3 1 (nI n)) 3 2 0) 3 3 0).1 1 1 = h.1 1 1 from by rw [am_gI, if_neg (by decide), am_gI, if_neg (by decide), am_gI, if_neg (by decide)]; exact j3 1 1 (by omega)]
      exact w
  have fr : ∀ h', lc_f2 g (am_sI (am_sI (am_sI h3 3 1 (nI n)) 3 2 0) 3 3 0) h' → lc_f3 g h h' := fun h' f => by
    refine ⟨fun a w => ?_, fun a k n1 w => ?_, fun a ha => ?_⟩
    · rw [f.1 a w, am_gI2, am_gI2, am_gI2, a3]
    · rw [f.2.1 a k n1 w, am_gI, if_neg (fun e => n1 e.1), am_gI, if_neg (fun e => n1 e.1), am_gI, if_neg (fun e => n1 e.1)]; exact j3 a k w
    · rw [f.2.2]; exact px a ha
  refine x_lr (t := am_bt h) (by omega) hn hg 17 0 0 0 _ _ _ (by omega) (by omega) S ?_ ?_ ?_ (by omega) (fun h' w1 w2 => zf h' w1 (fr h' w2)) (fun h' w1 w2 w3 _ _ w6 => ?_)
  · show h3.2.1 72 1 = g
    rw [p3]; exact p1
  · rw [am_gI, if_neg (by omega), am_gI, if_neg (by omega), am_gI, if_neg (by omega)]; exact i3.2
  · rw [am_gI, if_neg (by omega), am_gI, if_neg (by omega), am_gI, if_neg (by omega)]; exact i3.1
  · rw [Nat.zero_add] at w3 ⊢
    exact zs h' w1 (fr h' w2) w3 w6
end
