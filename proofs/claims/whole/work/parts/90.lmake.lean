-- the law's text: the law that both hold behind it
theorem lp_cz_tk : ∀ {X : List (Nat × Nat)} {j : Nat}, j < X.length → lp_cz (X.take (j + 1)) = lp_cz (X.take j) + lp_z (X.getD j (0, 0)).1
  | o :: X, 0, _ => by
    show lp_z o.1 + lp_cz (X.take 0) = 0 + lp_z o.1
    rw [List.take_zero]; show lp_z o.1 + 0 = _; omega
  | o :: X, j + 1, h => by
    have w := lp_cz_tk (X := X) (j := j) (by rw [List.length_cons] at h; omega)
    show lp_z o.1 + lp_cz (X.take (j + 1)) = lp_z o.1 + lp_cz (X.take j) + lp_z (X.getD j (0, 0)).1
    omega
theorem lp_enc_at {C : Nat → Int32} : ∀ {X : List (Nat × Nat)} {p : Nat}, lp_enc C X p → ∀ j, j < X.length → ((X.getD j (0, 0)).1 = 0 ∧ C (p + lp_cz (X.take j)) = 1 ∧ C (p + lp_cz (X.take j) + 1) = nI (X.getD j (0, 0)).2) ∨ ((X.getD j (0, 0)).1 = 1 ∧ C (p + lp_cz (X.take j)) = 2 ∧ C (p + lp_cz (X.take j) + 1) = nI (X.getD j (0, 0)).2) ∨ ((X.getD j (0, 0)).1 = 10 ∧ C (p + lp_cz (X.take j)) = 3) ∨ ((((X.getD j (0, 0)).1 = 11 ∧ C (p + lp_cz (X.take j)) = 5) ∨ ((X.getD j (0, 0)).1 = 12 ∧ C (p + lp_cz (X.take j)) = 4)) ∧ C (p + lp_cz (X.take j) + 1) = nI (p + lp_cz (X.take (j + 1 + (X.getD j (0, 0)).2)))) ∨ (2 ≤ (X.getD j (0, 0)).1 ∧ (X.getD j (0, 0)).1 ≤ 9 ∧ C (p + lp_cz (X.take j)) = q_sg (X.getD j (0, 0)).1)
  | [], _, _, j, h => absurd h (Nat.not_lt_zero j)
  | o :: X, p, hx, 0, _ => by
    show (o.1 = 0 ∧ C p = 1 ∧ C (p + 1) = nI o.2) ∨ (o.1 = 1 ∧ C p = 2 ∧ C (p + 1) = nI o.2) ∨ (o.1 = 10 ∧ C p = 3) ∨ (((o.1 = 11 ∧ C p = 5) ∨ (o.1 = 12 ∧ C p = 4)) ∧ C (p + 1) = nI (p + lp_cz ((o :: X).take (0 + 1 + o.2)))) ∨ (2 ≤ o.1 ∧ o.1 ≤ 9 ∧ C p = q_sg o.1)
    rcases hx.1 with w | w | w | ⟨w1, w2, w3⟩ | w
    · exact Or.inl w
    · exact Or.inr (Or.inl w)
    · exact Or.inr (Or.inr (Or.inl w))
    · refine Or.inr (Or.inr (Or.inr (Or.inl ⟨w1, ?_⟩)))
      rw [w3, show 0 + 1 + o.2 = o.2 + 1 by omega]
      show nI (p + 2 + lp_cz (X.take o.2)) = nI (p + (lp_z o.1 + lp_cz (X.take o.2)))
      rw [lp_z_2 (C := 0) (o := o.1) (by omega), Nat.add_assoc]
    · exact Or.inr (Or.inr (Or.inr (Or.inr w)))
  | o :: X, p, hx, j + 1, h => by
    have w := lp_enc_at (X := X) hx.2 j (by rw [List.length_cons] at h; omega)
    have e : ∀ i, p + lp_cz ((o :: X).take (i + 1)) = p + lp_z o.1 + lp_cz (X.take i) := fun i => by
      show p + (lp_z o.1 + lp_cz (X.take i)) = _
      omega
    rw [show (o :: X).getD (j + 1) (0, 0) = X.getD j (0, 0) from rfl, e j, show j + 1 + 1 + (X.getD j (0, 0)).2 = j + 1 + (X.getD j (0, 0)).2 + 1 by omega, e]
    exact w
theorem lr_en_at {S : Nat → Int32} : ∀ {X : List (Nat × Nat)} {m : Nat}, lr_en S X m → ∀ j, j < X.length → S (m + j) = nI ((X.getD j (0, 0)).1 * 2 ^ 20 + (if (X.getD j (0, 0)).1 = 11 ∨ (X.getD j (0, 0)).1 = 12 then m + j + 1 + (X.getD j (0, 0)).2 else (X.getD j (0, 0)).2))
  | [], _, _, j, h => absurd h (Nat.not_lt_zero j)
  | o :: X, m, hx, 0, _ => hx.1
  | o :: X, m, hx, j + 1, h => by
    have w := lr_en_at (X := X) hx.2 j (by rw [List.length_cons] at h; omega)
    rw [show m + (j + 1) = m + 1 + j by omega]
    exact w
/-- the pairs of the reference's codes -/
def lw_P' (S : Nat → Int32) (k : Nat) : Nat × Nat := ((S k).toNatClampNeg / 2 ^ 20, (S k).toNatClampNeg % 2 ^ 20)
theorem lw_P'_e {S : Nat → Int32} {k a v : Nat} (e : S k = nI (a * 2 ^ 20 + v)) (ha : a < 64) (hv : v < 2 ^ 20) : lw_P' S k = (a, v) := by
  unfold lw_P'
  rw [e, nI_clamp (by omega)]
  exact Prod.ext (by show _ / _ = a; omega) (by show _ % _ = v; omega)
theorem lp_pg {C S : Nat → Int32} {X : List (Nat × Nat)} {m p e : Nat} (he : lp_enc C X p) (hr : lr_en S X m) (hT : lp_T X 0 e) (hm : m + X.length ≤ 260) (hp : p + lp_cz X ≤ 512) : q_pg C (lw_P' S) m (m + X.length) p (p + lp_cz X) e := by
  obtain ⟨ty, t0, t1, t2⟩ := hT
  refine ⟨fun k => p + lp_cz (X.take (k - m)), fun k => ty (k - m), ?_, ?_, hp, ?_, ?_, by omega, hm, fun k h1 h2 => ?_⟩
  · show p + lp_cz (X.take (m - m)) = p
    rw [Nat.sub_self]; rfl
  · show p + lp_cz (X.take (m + X.length - m)) = _
    rw [Nat.add_sub_cancel_left, List.take_length]
  · show ty (m - m) = 0
    rw [Nat.sub_self]; exact t0
  · show ty (m + X.length - m) = e
    rw [Nat.add_sub_cancel_left]; exact t1
  · obtain ⟨j, rfl⟩ : ∃ j, k = m + j := ⟨k - m, by omega⟩
    have hj : j < X.length := by omega
    have E := lp_enc_at he j hj
    have R := lr_en_at hr j hj
    have T := t2 j hj
    have Z := lp_cz_tk hj
    have s1 : m + j - m = j := by omega
    have s2 : m + j + 1 - m = j + 1 := by omega
    unfold q_ins
    show (lw_P' S (m + j)).2 < 2 ^ 20 ∧ (((lw_P' S (m + j)).1 = 0 ∧ C (p + lp_cz (X.take (m + j - m))) = 1 ∧ C (p + lp_cz (X.take (m + j - m)) + 1) = nI (lw_P' S (m + j)).2 ∧ p + lp_cz (X.take (m + j + 1 - m)) = p + lp_cz (X.take (m + j - m)) + 2 ∧ ty (m + j - m) < 60 ∧ ty (m + j + 1 - m) = ty (m + j - m) + 1) ∨ ((lw_P' S (m + j)).1 = 1 ∧ (lw_P' S (m + j)).2 < 10 ∧ C (p + lp_cz (X.take (m + j - m))) = 2 ∧ C (p + lp_cz (X.take (m + j - m)) + 1) = nI (lw_P' S (m + j)).2 ∧ p + lp_cz (X.take (m + j + 1 - m)) = p + lp_cz (X.take (m + j - m)) + 2 ∧ ty (m + j - m) < 60 ∧ ty (m + j + 1 - m) = ty (m + j - m) + 1) ∨ ((lw_P' S (m + j)).1 = 10 ∧ C (p + lp_cz (X.take (m + j - m))) = 3 ∧ p + lp_cz (X.take (m + j + 1 - m)) = p + lp_cz (X.take (m + j - m)) + 1 ∧ ty (m + j - m) = 100 ∧ ty (m + j + 1 - m) = 100) ∨ ((((lw_P' S (m + j)).1 = 11 ∧ C (p + lp_cz (X.take (m + j - m))) = 5) ∨ ((lw_P' S (m + j)).1 = 12 ∧ C (p + lp_cz (X.take (m + j - m))) = 4)) ∧ C (p + lp_cz (X.take (m + j - m)) + 1) = nI (p + lp_cz (X.take ((lw_P' S (m + j)).2 - m))) ∧ p + lp_cz (X.take (m + j + 1 - m)) = p + lp_cz (X.take (m + j - m)) + 2 ∧ m + j < (lw_P' S (m + j)).2 ∧ (lw_P' S (m + j)).2 ≤ m + X.length ∧ ty (m + j - m) = 100 ∧ ty (m + j + 1 - m) = 0 ∧ ty ((lw_P' S (m + j)).2 - m) = 100) ∨ (2 ≤ (lw_P' S (m + j)).1 ∧ (lw_P' S (m + j)).1 ≤ 9 ∧ C (p + lp_cz (X.take (m + j - m))) = q_sg (lw_P' S (m + j)).1 ∧ p + lp_cz (X.take (m + j + 1 - m)) = p + lp_cz (X.take (m + j - m)) + 1 ∧ 2 ≤ ty (m + j - m) ∧ ty (m + j - m) ≤ 60 ∧ ty (m + j + 1 - m) = (if (lw_P' S (m + j)).1 ≤ 6 then ty (m + j - m) - 1 else 100) ∧ (6 < (lw_P' S (m + j)).1 → ty (m + j - m) = 2)))
    rw [s1, s2]
    clear t2
    generalize X.getD j (0, 0) = o at E R T Z
    obtain ⟨tv, T⟩ := T
    rw [Z]
    rcases T with ⟨o1, a1, a2⟩ | ⟨o1, o2, a1, a2⟩ | ⟨o1, a1, a2⟩ | ⟨o1, o2, a1, a2, a3⟩ | ⟨o1, o2, a1, a2, a3, a4⟩
    · rw [if_neg (by omega)] at R
      rw [lw_P'_e R (by omega) (by omega)]
      have z := lp_z_2 (C := 0) (o := o.1) (by omega)
      rw [z]
      rcases E with w | w | w | w | w
      · exact ⟨by show o.2 < 2 ^ 20; omega, Or.inl ⟨o1, w.2.1, w.2.2, by omega, a1, a2⟩⟩
      all_goals exact absurd o1 (by omega)
    · rw [if_neg (by omega)] at R
      rw [lw_P'_e R (by omega) (by omega)]
      have z := lp_z_2 (C := 0) (o := o.1) (by omega)
      rw [z]
      rcases E with w | w | w | w | w
      · exact absurd o1 (by omega)
      · exact ⟨by show o.2 < 2 ^ 20; omega, Or.inr (Or.inl ⟨o1, o2, w.2.1, w.2.2, by omega, a1, a2⟩)⟩
      all_goals exact absurd o1 (by omega)
    · rw [if_neg (by omega)] at R
      rw [lw_P'_e R (by omega) (by omega)]
      have z := lp_z_1 (o := o.1) (by omega)
      rw [z]
      rcases E with w | w | w | w | w
      · exact absurd o1 (by omega)
      · exact absurd o1 (by omega)
      · exact ⟨by show o.2 < 2 ^ 20; omega, Or.inr (Or.inr (Or.inl ⟨o1, w.2, by omega, a1, a2⟩))⟩
      all_goals exact absurd o1 (by omega)
    · rw [if_pos o1] at R
      rw [lw_P'_e R (by omega) (by omega)]
      have z := lp_z_2 (C := 0) (o := o.1) (by omega)
      rw [z]
      rcases E with w | w | w | w | w
      · exact absurd o1 (by omega)
      · exact absurd o1 (by omega)
      · exact absurd o1 (by omega)
      · have s3 : m + j + 1 + o.2 - m = j + 1 + o.2 := by omega
        refine ⟨by show m + j + 1 + o.2 < 2 ^ 20; omega, Or.inr (Or.inr (Or.inr (Or.inl ⟨w.1, ?_, by omega, by show m + j < m + j + 1 + o.2; omega, by show m + j + 1 + o.2 ≤ _; omega, a1, a2, ?_⟩)))⟩
        · show _ = nI (p + lp_cz (X.take (m + j + 1 + o.2 - m)))
          rw [s3]; exact w.2
        · show ty (m + j + 1 + o.2 - m) = 100
          rw [s3]; exact a3
      · exact absurd o1 (by omega)
    · rw [if_neg (by omega)] at R
      rw [lw_P'_e R (by omega) (by omega)]
      have z := lp_z_1 (o := o.1) (by omega)
      rw [z]
      rcases E with w | w | w | w | w
      · exact absurd o1 (by omega)
      · exact absurd o1 (by omega)
      · exact absurd o1 (by omega)
      · exact absurd o1 (by omega)
      · exact ⟨by show o.2 < 2 ^ 20; omega, Or.inr (Or.inr (Or.inr (Or.inr ⟨o1, o2, w.2.2, by omega, a1, a2, a3, a4⟩)))⟩
/-- rules are as they must be -/
def lp_ok : List lp_R → Prop
  | [] => True
  | r :: R => ((r.1 = 101 ∨ r.1 = 114 ∨ r.1 = 120) ∧ (¬ r.1 = 120 → lp_T r.2.1 0 1) ∧ lp_T r.2.2 0 100) ∧ lp_ok R
def lc_ln : List lp_R → Nat
  | [] => 0
  | r :: R => lp_cz (lp_vc r.1 r.2.1) + lp_cz r.2.2 + lc_ln R
section
variable {t : Nat → Nat} {n : Nat}
theorem lp_rf_n (hn : n ≤ 240) {q k : Nat} (hk : k ≤ n) (e : ¬ lp_rf t n q k = 0) : lp_rf t n q k < 0 := by
  unfold lp_rf at e ⊢
  by_cases c1 : lp_lt t n k
  · rw [if_neg (fun w => w c1)] at e ⊢
    by_cases c2 : 16 ≤ q
    · rw [if_pos c2]; exact (am_ft_n (by omega) (by omega) (by omega)).1
    · rw [if_neg c2] at e ⊢
      have hv : (¬ (lp_v t n k).1 = 0 → (lp_v t n k).1 < 0) ∧ ((lp_v t n k).1 = 0 → (lp_v t n k).2.1 ≤ n) := by
        have hk := c1.1
        by_cases c4 : t k = 120
        · have ev : lp_v t n k = (0, k + 1, []) := if_pos c4
          rw [ev]; exact ⟨fun w => absurd rfl w, fun _ => by show k + 1 ≤ n; omega⟩
        · have ev : lp_v t n k = lp_sum t n 6 (k + 1) := if_neg c4
          have gk := lp_sum_g (t := t) (n := n) (c := 6) (a := 0) (by omega) (by omega) (k + 1) c1.1
          rw [← ev] at gk
          exact ⟨gk.2, fun w => (gk.1 w).2.1⟩
      by_cases c3 : (lp_v t n k).1 = 0
      · rw [if_neg (fun w => w c3)] at e ⊢
        exact (lp_q_g (t := t) hn (hv.2 c3)).2 e
      · rw [if_pos c3]; exact hv.1 c3
  · rw [if_pos c1]; exact (am_ft_n (by omega) (by omega) (by omega)).1
theorem lp_lw_g (hn : n ≤ 240) : ∀ (f q k : Nat), q + f = 17 → q ≤ 16 → k ≤ n → ((lp_lw t n f q k).1 = 0 → 1 ≤ (lp_lw t n f q k).2.length ∧ q + (lp_lw t n f q k).2.length ≤ 16 ∧ 2 * k + lc_ln (lp_lw t n f q k).2 ≤ 2 * n ∧ k + lr_ln (lp_lw t n f q k).2 ≤ n ∧ lp_ok (lp_lw t n f q k).2) ∧ (¬ (lp_lw t n f q k).1 = 0 → (lp_lw t n f q k).1 < 0)
  | 0, q, _, hq, hq2, _ => absurd hq (by omega)
  | f + 1, q, k, hq, hq2, hk => by
    by_cases e0 : lp_rf t n q k = 0
    · rw [lp_lw_s e0]
      obtain ⟨g1, g2, g3, g4, g5, g6, g7, g8⟩ := lp_rg hn hk e0
      generalize (lp_q t n (lp_v t n k).2.1).2.2 = X2 at *
      generalize (lp_v t n k).2.2 = X1 at *
      generalize (lp_q t n (lp_v t n k).2.1).2.1 = K at *
      unfold lp_nx
      by_cases c1 : K < n
      · rw [if_pos c1]
        by_cases c2 : t K = 59
        · rw [if_pos c2]
          have w := lp_lw_g hn f (q + 1) (K + 1) (by omega) (by omega) (by omega)
          refine ⟨fun e => ?_, w.2⟩
          obtain ⟨w1, w2, w3, w4, w5⟩ := w.1 e
          refine ⟨by rw [List.length_cons]; omega, by rw [List.length_cons]; omega, ?_, ?_, ⟨⟨g2.2, g7, g8⟩, w5⟩⟩
          · show 2 * k + (lp_cz (lp_vc (t k) X1) + lp_cz X2 + lc_ln (lp_lw t n f (q + 1) (K + 1)).2) ≤ _
            omega
          · show k + (X1.length + X2.length + lr_ln (lp_lw t n f (q + 1) (K + 1)).2) ≤ _
            omega
        · rw [if_neg c2]
          have f1 := am_ft_n (x := 1) (k := K) (by omega) (by omega) (by omega)
          exact ⟨fun e => absurd e f1.2, fun _ => f1.1⟩
      · rw [if_neg c1]
        refine ⟨fun _ => ⟨Nat.le_refl _, by show q + 1 ≤ 16; omega, ?_, ?_, ⟨⟨g2.2, g7, g8⟩, trivial⟩⟩, fun e => absurd rfl e⟩
        · show 2 * k + (lp_cz (lp_vc (t k) X1) + lp_cz X2 + 0) ≤ _
          omega
        · show k + (X1.length + X2.length + 0) ≤ _
          omega
    · rw [lp_lw_f e0]
      exact ⟨fun e => absurd e e0, fun _ => lp_rf_n hn hk e0⟩
end
theorem lr_en_p {S : Nat → Int32} {X : List (Nat × Nat)} {m a b : Nat} (hr : lr_en S X m) (hT : lp_T X a b) (hm : m + X.length ≤ 260) {k : Nat} (h1 : m ≤ k) (h2 : k < m + X.length) : S k = nI ((lw_P' S k).1 * 2 ^ 20 + (lw_P' S k).2) := by
  obtain ⟨j, rfl⟩ : ∃ j, k = m + j := ⟨k - m, by omega⟩
  have R := lr_en_at hr j (by omega)
  obtain ⟨ty, _, _, t2⟩ := hT
  obtain ⟨tv, T⟩ := t2 j (by omega)
  generalize X.getD j (0, 0) = o at R T tv
  by_cases c : o.1 = 11 ∨ o.1 = 12
  · rw [if_pos c] at R
    rw [lw_P'_e R (by omega) (by omega)]; exact R
  · rw [if_neg c] at R
    rw [lw_P'_e R (by omega) (by omega)]; exact R
/-- what both hold of a rule -/
def lw_ru (T : Nat) (V0 V1 V2 V3 C W0 W1 W2 W3 S : Nat → Int32) (q : Nat) : Prop := ∃ c f a b, (c = 101 ∨ c = 114 ∨ c = 120) ∧ V0 q = nI c ∧ W0 q = nI c ∧ W1 q = nI f ∧ W2 q = nI a ∧ W3 q = nI b ∧ a ≤ b ∧ f ≤ a ∧ b ≤ T ∧ (∀ k, k < b → S k = nI ((lw_P' S k).1 * 2 ^ 20 + (lw_P' S k).2)) ∧ ∃ cv ch ct, V1 q = nI cv ∧ V2 q = nI ch ∧ V3 q = nI ct ∧ q_pg C (lw_P' S) a b ch ct 100 ∧ (c = 120 → C cv = 1 ∧ C (cv + 1) = 1 ∧ ch = cv + 2 ∧ ch ≤ 512) ∧ (c ≠ 120 → q_pg C (lw_P' S) f a cv ch 1)
theorem lw_mk {T : Nat} (hT : T ≤ 240) {V0 V1 V2 V3 C W0 W1 W2 W3 S : Nat → Int32} : ∀ (R : List lp_R) (q p m : Nat), lc_rs V0 V1 V2 V3 C R q p → lr_rs W0 W1 W2 W3 S R q m → lp_ok R → p + lc_ln R ≤ 512 → m + lr_ln R ≤ T → (∀ k, k < m → S k = nI ((lw_P' S k).1 * 2 ^ 20 + (lw_P' S k).2)) → (∀ r ∈ R, r.1 = 120 → r.2.1 = []) → ∀ i, i < R.length → lw_ru T V0 V1 V2 V3 C W0 W1 W2 W3 S (q + i)
  | [], _, _, _, _, _, _, _, _, _, _, i, hi => absurd hi (Nat.not_lt_zero i)
  | r :: R, q, p, m, hc, hr, ho, hp, hm, hS, hx, i, hi => by
    obtain ⟨c1, c2, c3, c4, c5, c6, c7⟩ := hc
    obtain ⟨r1, r2, r3, r4, r5, r6, r7⟩ := hr
    have hp' : p + (lp_cz (lp_vc r.1 r.2.1) + lp_cz r.2.2 + lc_ln R) ≤ 512 := hp
    have hm' : m + (r.2.1.length + r.2.2.length + lr_ln R) ≤ T := hm
    obtain ⟨⟨o1, o2, o3⟩, o4⟩ := ho
    have s1 : ∀ k, k < m + r.2.1.length → S k = nI ((lw_P' S k).1 * 2 ^ 20 + (lw_P' S k).2) := fun k hk => by
      rcases Nat.lt_or_ge k m with w | w
      · exact hS k w
      · by_cases c : r.1 = 120
        · have e := hx r List.mem_cons_self c
          rw [e] at hk
          exact absurd hk (by show ¬ k < m + 0; omega)
        · exact lr_en_p r5 (o2 c) (by omega) w hk
    have s2 : ∀ k, k < m + r.2.1.length + r.2.2.length → S k = nI ((lw_P' S k).1 * 2 ^ 20 + (lw_P' S k).2) := fun k hk => by
      rcases Nat.lt_or_ge k (m + r.2.1.length) with w | w
      · exact s1 k w
      · exact lr_en_p r6 o3 (by omega) w hk
    cases i with
    | zero =>
      refine ⟨r.1, m, m + r.2.1.length, m + r.2.1.length + r.2.2.length, o1, c1, r1, r2, r3, r4, by omega, by omega, by omega, s2, p, p + lp_cz (lp_vc r.1 r.2.1), p + lp_cz (lp_vc r.1 r.2.1) + lp_cz r.2.2, c2, c3, c4, lp_pg c6 r6 o3 (by omega) (by omega), fun c => ?_, fun c => ?_⟩
      · have e : lp_vc r.1 r.2.1 = [(0, 1)] := if_pos c
        rw [e] at c5 ⊢
        rcases c5.1 with w | w | w | w | w
        · exact ⟨w.2.1, w.2.2, rfl, by show p + 2 ≤ 512; rw [e] at hp'; have : lp_cz [(0, 1)] = 2 := rfl; omega⟩
        · exact absurd w.1 (by decide)
        · exact absurd w.1 (by decide)
        · rcases w.1 with w | w
          · exact absurd w.1 (by decide)
          · exact absurd w.1 (by decide)
        · exact absurd w.1 (by decide)
      · have e : lp_vc r.1 r.2.1 = r.2.1 := if_neg c
        rw [e] at c5 hp' ⊢
        exact lp_pg c5 r5 (o2 c) (by omega) (by omega)
    | succ i =>
      rw [show q + (i + 1) = q + 1 + i by omega]
      exact lw_mk hT R (q + 1) _ _ c7 r7 o4 (by omega) (by omega) s2 (fun r' h' => hx r' (List.mem_cons_of_mem _ h')) i (by rw [List.length_cons] at hi; omega)
theorem lp_lw_x {t : Nat → Nat} {n : Nat} : ∀ (f q k : Nat), ∀ r ∈ (lp_lw t n f q k).2, r.1 = 120 → r.2.1 = []
  | 0, _, _, r, h => absurd h List.not_mem_nil
  | f + 1, q, k, r, h => by
    by_cases e0 : lp_rf t n q k = 0
    · rw [lp_lw_s e0] at h
      rcases List.mem_cons.mp h with w | w
      · rw [w]
        intro c
        have ev : lp_v t n k = (0, k + 1, []) := if_pos c
        show (lp_v t n k).2.2 = []
        rw [ev]
      · unfold lp_nx at w
        by_cases c1 : (lp_q t n (lp_v t n k).2.1).2.1 < n
        · rw [if_pos c1] at w
          by_cases c2 : t (lp_q t n (lp_v t n k).2.1).2.1 = 59
          · rw [if_pos c2] at w; exact lp_lw_x f _ _ r w
          · rw [if_neg c2] at w; exact absurd w List.not_mem_nil
        · rw [if_neg c1] at w; exact absurd w List.not_mem_nil
    · rw [lp_lw_f e0] at h; exact absurd h List.not_mem_nil
