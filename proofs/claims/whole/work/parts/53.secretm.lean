-- secret, the reference; both
/-- the reference's rows -/
def sc_RM (h : am_H) (n : Nat) (A : sc_A) : Prop := (∀ i, i < sc_m A → h.2.2 106 i = nI (sc_q A i)) ∧ ∀ x, x < 2 ^ n → (sc_v A x = true → h.2.2 105 x = nI (sc_c A x)) ∧ (sc_v A x = false → h.2.2 105 x = -1)
def sc_fm (h h' : am_H) : Prop := (∀ a, a ≠ 105 → a ≠ 106 → h'.2.2 a = h.2.2 a) ∧ h'.1 = h.1 ∧ h'.2.1 = h.2.1
theorem sc_N1 (c p : Nat) : sc_N 1 0 c p = c + 1 := by
  unfold sc_N
  split
  · rename_i q; rw [q]; omega
  · rfl
section
variable {d : Nat} {h : am_H} {Z : Int32 → am_H → Prop} {t : Nat → Nat} {n : Nat} {P S : Nat → Bool} {Φ : Nat → Nat → Prop}
theorem sc_fm_tr {h1 h2 : am_H} (p : sc_fm h h1) (q : sc_fm h1 h2) : sc_fm h h2 := ⟨fun a n1 n2 => (q.1 a n1 n2).trans (p.1 a n1 n2), q.2.1.trans p.2.1, q.2.2.trans p.2.2⟩
theorem sc_fm_sR {h1 : am_H} {a : Nat} {f : Nat → Int32} (p : sc_fm h h1) (ha : a = 105 ∨ a = 106) : sc_fm h (am_sR h1 a f) := ⟨fun a' n1 n2 => by rw [am_gR, if_neg (by omega)]; exact p.1 a' n1 n2, p.2.1, p.2.2⟩
theorem m_w76 {k : Nat} {u2 : Value} (hd : 4 ≤ d) (hn : n ≤ 8) (tb : ∀ i, t i < 256) (hat : ∀ i, i < 2 * n → h.2.2 80 i &&& 255 = nI (t i)) (hΦ : ∀ s p c, p < n → sc_E t s p = true → Φ s c → Φ (s ^^^ 2 ^ p) (sc_N 1 0 c p)) (z : ∀ h' A', sc_I Φ S 1 0 n A' → sc_J (sc_E t) 1 0 n A' k n → k < sc_m A' → sc_RM h' n A' → sc_fm h h' → ∀ u5 u6, Ru mX11_laysMoves none d 67 [.ref 73, .int (nI n), u2, .int (nI (sc_m A')), .int (nI k + 1), u5, u6] [] h' Z) : ∀ (r p : Nat) (A : sc_A) (h1 : am_H) (u6 : Value), p + r = n → sc_I Φ S 1 0 n A → sc_J (sc_E t) 1 0 n A k p → k < sc_m A → sc_RM h1 n A → sc_fm h h1 → Ru mX11_laysMoves none d 76 [.ref 73, .int (nI n), u2, .int (nI (sc_m A)), .int (nI k), .int (nI p), u6] [] h1 Z
  | 0, p, A, h1, u6, hp, hI, hJ, hk, hR, hf => by
    have ep : p = n := by omega
    subst ep
    exact sX11_laysMoves_76 ⟨fun _ => z h1 A hI hJ hk hR hf _ _, fun c => absurd (Int32.le_refl _) c⟩
  | r + 1, p, A, h1, u6, hp, hI, hJ, hk, hR, hf => by
    have h8 := pl_8 hn
    have mb := sc_mb hI
    have hs := hI.1 k hk
    have hT : sc_q A k ^^^ 2 ^ p < 2 ^ n := pl_xor hs.1 (by omega)
    have st := sc_step (E := sc_E t) (by decide) (by omega) hΦ hI hJ hk (show p < n by omega)
    have e80 : h1.2.2 80 = h.2.2 80 := hf.1 80 (by decide) (by decide)
    refine sX11_laysMoves_76 ⟨fun c => absurd c (nI_ge (by omega) (by omega)), fun _ => ⟨vp_in_nI (by omega) (by omega), ?_⟩⟩
    rw [nI_clamp (by omega), hR.1 k hk, am_shl1 (by omega), fb_xorI, nI_clamp (by omega), nI_1]
    refine ⟨3, by omega, iX11_canMove (t := t) (by omega) (by omega) (by omega) (by rw [e80]; exact hat _ (by omega)) (by rw [e80]; exact hat _ (by omega)) tb ?_⟩
    rw [hR.1 k hk, nI_clamp (by omega)]
    generalize eT : sc_q A k ^^^ 2 ^ p = T at hT
    have hTv := hR.2 T hT
    have same : ∀ u6, sc_st (sc_E t) 1 0 (sc_q A k) p A = A → Ru mX11_laysMoves none d 76 [.ref 73, .int (nI n), u2, .int (nI (sc_m A)), .int (nI k), .int (nI (p + 1)), u6] [] h1 Z := fun u6 es => by
      rw [es] at st
      exact m_w76 hd hn tb hat hΦ z r (p + 1) A h1 u6 (by omega) hI st.2.1 hk hR hf
    by_cases cE : sc_E t (sc_q A k) p = true
    · rw [if_pos cE]
      refine ⟨fun q => absurd q (by decide), fun _ => ⟨vp_in_nI (by omega) (by omega), fun q => ⟨vp_in_nI (by omega) (by omega), fun h6 e6 => ?_⟩, fun q => ?_⟩⟩
      · have hv : sc_v A T = false := by
          cases hv : sc_v A T with
          | false => rfl
          | true =>
            have cb := sc_cb hn hI hv
            rw [hTv.1 hv] at q
            exact absurd (show (-1 : Int32) < 0 by decide) (by rw [← q]; exact nI_pos (by omega))
        have es : sc_st (sc_E t) 1 0 (sc_q A k) p A = (sc_m A + 1, am_un (sc_q A) (sc_m A) T, am_un (sc_c A) T (sc_c A (sc_q A k) + 1), fun x => decide (x = T) || sc_v A x) := by
          unfold sc_st; rw [eT, if_pos ⟨cE, hv⟩, sc_N1]
        have mb2 := sc_mb st.1
        rw [es] at mb2
        have mb2' : sc_m A + 1 ≤ 2 ^ n := mb2
        rw [(hR.2 (sc_q A k) hs.1).1 hs.2, nI_1] at e6
        refine ⟨vp_in_nI (by omega) (by omega), fun h8' e8 => ?_⟩
        rw [nI_clamp (by omega)] at e8
        have hf8 : sc_fm h h8' := by rw [e8, e6]; exact sc_fm_sR (sc_fm_sR hf (Or.inl rfl)) (Or.inr rfl)
        have hR8 : sc_RM h8' n (sc_m A + 1, am_un (sc_q A) (sc_m A) T, am_un (sc_c A) T (sc_c A (sc_q A k) + 1), fun x => decide (x = T) || sc_v A x) := by
          rw [e8, e6]
          refine ⟨fun i hi => ?_, fun x hx => ⟨fun hxv => ?_, fun hxv => ?_⟩⟩
          · have hi' : i < sc_m A + 1 := hi
            rw [am_gRs, am_gR, if_neg (by decide)]
            show upd _ _ _ i = nI (am_un _ _ _ i)
            unfold upd am_un
            by_cases ci : i = sc_m A
            · rw [if_pos ci, if_pos ci]
            · rw [if_neg ci, if_neg ci]; exact hR.1 i (by omega)
          · have hxv' : (decide (x = T) || sc_v A x) = true := hxv
            rw [am_gR, if_neg (by decide), am_gRs]
            show upd _ _ _ x = nI (am_un _ _ _ x)
            unfold upd am_un
            by_cases cx : x = T
            · rw [if_pos cx, if_pos cx]
            · rw [if_neg cx, if_neg cx]
              rw [decide_eq_false cx, Bool.false_or] at hxv'
              exact (hR.2 x hx).1 hxv'
          · have hxv' : (decide (x = T) || sc_v A x) = false := hxv
            have cx : ¬ x = T := fun e => by rw [decide_eq_true e] at hxv'; cases hxv'
            rw [decide_eq_false cx, Bool.false_or] at hxv'
            rw [am_gR, if_neg (by decide), am_gRs]
            unfold upd
            rw [if_neg cx]; exact (hR.2 x hx).2 hxv'
        rw [nI_1]
        rw [← es] at hR8
        have w := m_w76 hd hn tb hat hΦ z r (p + 1) (sc_st (sc_E t) 1 0 (sc_q A k) p A) h8' (.int (nI T)) (by omega) st.1 st.2.1 (by omega) hR8 hf8
        rw [show sc_m (sc_st (sc_E t) 1 0 (sc_q A k) p A) = sc_m A + 1 by rw [es]] at w
        exact w
      · refine same _ (if_neg (fun q2 => q ?_))
        rw [eT] at q2
        exact hTv.2 q2.2
    · rw [if_neg cE]
      exact ⟨fun _ => same _ (if_neg (fun q => cE q.1)), fun q => absurd rfl q⟩
theorem m_w67 {u2 : Value} (hd : 4 ≤ d) (hn : n ≤ 8) (tb : ∀ i, t i < 256) (hat : ∀ i, i < 2 * n → h.2.2 80 i &&& 255 = nI (t i)) (hΦ : ∀ s p c, p < n → sc_E t s p = true → Φ s c → Φ (s ^^^ 2 ^ p) (sc_N 1 0 c p)) (z : ∀ h' A', sc_I Φ S 1 0 n A' → sc_J (sc_E t) 1 0 n A' (sc_m A') 0 → sc_RM h' n A' → sc_fm h h' → Z 0 h') : ∀ (r k : Nat) (A : sc_A) (h1 : am_H) (u5 u6 : Value), k + r = 257 → sc_I Φ S 1 0 n A → sc_J (sc_E t) 1 0 n A k 0 → sc_RM h1 n A → sc_fm h h1 → Ru mX11_laysMoves none d 67 [.ref 73, .int (nI n), u2, .int (nI (sc_m A)), .int (nI k), u5, u6] [] h1 Z
  | 0, k, A, h1, u5, u6, hk, hI, hJ, hR, hf => by
    have h8 := pl_8 hn
    have mb := sc_mb hI
    exact sX11_laysMoves_67 ⟨fun _ => z h1 A hI ⟨fun q => absurd q (Nat.lt_irrefl _), fun i p' a1 a2 a3 a4 => hJ.2 i p' a1 (by omega) a3 a4⟩ hR hf, fun c => absurd (nI_le (by omega) (by omega)) c⟩
  | r + 1, k, A, h1, u5, u6, hk, hI, hJ, hR, hf => by
    have h8 := pl_8 hn
    have mb := sc_mb hI
    rcases Nat.lt_or_ge k (sc_m A) with q | q
    · refine sX11_laysMoves_67 ⟨fun c => absurd c (nI_ge q (by omega)), fun _ => ?_⟩
      refine m_w76 hd hn tb hat hΦ (fun h' A' hI' hJ' hk' hR' hf' u5 u6 => ?_) n 0 A h1 _ (by omega) hI hJ q hR hf
      rw [nI_1]
      exact m_w67 hd hn tb hat hΦ z r (k + 1) A' h' u5 u6 (by omega) hI' (sc_next (by decide) (by omega) hI' hJ') hR' hf'
    · exact sX11_laysMoves_67 ⟨fun _ => z h1 A hI ⟨fun q => absurd q (Nat.lt_irrefl _), fun i p' a1 a2 a3 a4 => hJ.2 i p' a1 (by omega) a3 a4⟩ hR hf, fun c => absurd (nI_le q (by omega)) c⟩
theorem m_w5 {pn : Nat} {u5 u6 : Value} (hd : 2 ≤ d) (hn : n ≤ 8) (hpn : pn < n) (z : ∀ (h' : am_H) (m : Nat) (q : Nat → Nat), (∀ i, i < m → q i < 2 ^ n ∧ (q i).testBit pn = true) → (∀ x, x < 2 ^ n → x.testBit pn = true → ∃ i, i < m ∧ q i = x) → am_sm (fun x => if x < 2 ^ n ∧ x.testBit pn = true then 1 else 0) (2 ^ n) = m → (∀ i, i < m → h'.2.2 106 i = nI (q i)) → (∀ x, x < 2 ^ n → h'.2.2 105 x = if x.testBit pn = true then 0 else -1) → sc_fm h h' → Ru mX11_laysMoves none d 67 [.ref 73, .int (nI n), .int (nI pn), .int (nI m), .int 0, u5, u6] [] h' Z) : ∀ (r x m : Nat) (q : Nat → Nat) (h1 : am_H), x + r = 2 ^ n → (∀ i, i < m → q i < x ∧ (q i).testBit pn = true) → (∀ y, y < x → y.testBit pn = true → ∃ i, i < m ∧ q i = y) → am_sm (fun y => if y < x ∧ y.testBit pn = true then 1 else 0) (2 ^ n) = m → (∀ i, i < m → h1.2.2 106 i = nI (q i)) → (∀ y, y < x → h1.2.2 105 y = if y.testBit pn = true then 0 else -1) → sc_fm h h1 → Ru mX11_laysMoves none d 5 [.ref 73, .int (nI n), .int (nI pn), .int (nI m), .int (nI x), u5, u6] [] h1 Z
  | 0, x, m, q, h1, hx, q1, q2, q3, r1, r2, hf => by
    have h8 := pl_8 hn
    have ex : x = 2 ^ n := by omega
    refine sX11_laysMoves_5 hd ?_
    rw [am_shl1 (by omega)]
    rw [ex] at q1 q2 q3 r2 ⊢
    exact ⟨fun _ => z h1 m q q1 q2 q3 r1 r2 hf, fun c => absurd (Int32.le_refl _) c⟩
  | r + 1, x, m, q, h1, hx, q1, q2, q3, r1, r2, hf => by
    have h8 := pl_8 hn
    have xl : x < 2 ^ n := by omega
    have mb : m ≤ 2 ^ n := by
      have := am_sm_le (f := fun y => if y < x ∧ y.testBit pn = true then 1 else 0) (g := fun _ => 1) (2 ^ n) (fun k _ => by split <;> omega)
      rw [am_sm_c] at this
      omega
    have a := am_sm_up (fun y => if y < x ∧ y.testBit pn = true then 1 else 0) (if x.testBit pn = true then 1 else 0) xl
    rw [q3] at a
    have a0 : (if x < x ∧ x.testBit pn = true then 1 else 0) = 0 := if_neg (fun q => Nat.lt_irrefl _ q.1)
    have e2 : am_sm (fun y => if y < x + 1 ∧ y.testBit pn = true then 1 else 0) (2 ^ n) = am_sm (fun k => if k = x then (if x.testBit pn = true then 1 else 0) else (fun y => if y < x ∧ y.testBit pn = true then 1 else 0) k) (2 ^ n) := am_sm_cg _ (fun y _ => by
      by_cases c : y = x
      · subst c; simp
      · show (if y < x + 1 ∧ y.testBit pn = true then 1 else 0) = if y = x then _ else if y < x ∧ y.testBit pn = true then 1 else 0
        rw [if_neg c]
        by_cases c2 : y < x
        · simp [c2, show y < x + 1 by omega]
        · simp [c2, show ¬ y < x + 1 by omega])
    have a' : am_sm (fun k => if k = x then (if x.testBit pn = true then 1 else 0) else (fun y => if y < x ∧ y.testBit pn = true then 1 else 0) k) (2 ^ n) + (if x < x ∧ x.testBit pn = true then 1 else 0) = m + (if x.testBit pn = true then 1 else 0) := a
    have tot : am_sm (fun y => if y < x + 1 ∧ y.testBit pn = true then 1 else 0) (2 ^ n) = m + (if x.testBit pn = true then 1 else 0) := by rw [e2]; omega
    have ms : m + (if x.testBit pn = true then 1 else 0) ≤ 2 ^ n := by
      have := am_sm_le (f := fun y => if y < x + 1 ∧ y.testBit pn = true then 1 else 0) (g := fun _ => 1) (2 ^ n) (fun k _ => by split <;> omega)
      rw [am_sm_c] at this
      omega
    have u105 : ∀ (v : Int32) (h2 : am_H), (v = if x.testBit pn = true then 0 else -1) → h2 = am_sR h1 105 (upd (h1.2.2 105) x v) → ∀ y, y < x + 1 → h2.2.2 105 y = if y.testBit pn = true then 0 else -1 := fun v h2 ev e y hy => by
      rw [e, am_gRs]
      unfold upd
      by_cases c : y = x
      · rw [if_pos c, c]; exact ev
      · rw [if_neg c]; exact r2 y (by omega)
    refine sX11_laysMoves_5 hd ?_
    have hb : am_has (nI x) (nI pn) ↔ x.testBit pn = true := am_bit_n (by omega) (by omega)
    rw [am_shl1 (by omega), hb]
    refine ⟨fun c => absurd c (nI_ge (by omega) (by omega)), fun _ => ⟨fun c => ?_, fun c => ?_⟩⟩
    · refine sX11_laysMoves_33 hd ⟨vp_in_nI (by omega) (by omega), fun h2 e2' => ?_⟩
      rw [hb]
      rw [nI_clamp (by omega)] at e2'
      refine ⟨fun q => absurd q c, fun _ => ?_⟩
      rw [nI_1]
      rw [if_neg c, Nat.add_zero] at tot
      refine m_w5 hd hn hpn z r (x + 1) m q h2 (by omega) (fun i hi => ⟨by have := (q1 i hi).1; omega, (q1 i hi).2⟩) (fun y hy hyb => ?_) tot (fun i hi => by rw [e2', am_gR, if_neg (by decide)]; exact r1 i hi) (u105 _ h2 (by rw [if_neg c]) e2') (by rw [e2']; exact sc_fm_sR hf (Or.inl rfl))
      by_cases cy : y = x
      · rw [cy] at hyb; exact absurd hyb c
      · exact q2 y (by omega) hyb
    · refine sX11_laysMoves_33 hd ⟨vp_in_nI (by omega) (by omega), fun h2 e2' => ?_⟩
      rw [if_pos c] at ms
      rw [if_pos c] at tot
      rw [hb]
      rw [nI_clamp (by omega)] at e2'
      refine ⟨fun _ => ⟨vp_in_nI (by omega) (by omega), fun h4 e4 => ?_⟩, fun q => absurd c q⟩
      rw [nI_clamp (by omega)] at e4
      rw [nI_1, nI_1]
      refine m_w5 hd hn hpn z r (x + 1) (m + 1) (am_un q m x) h4 (by omega) (fun i hi => ?_) (fun y hy hyb => ?_) tot (fun i hi => ?_) (fun y hy => ?_) (by rw [e4, e2']; exact sc_fm_sR (sc_fm_sR hf (Or.inl rfl)) (Or.inr rfl))
      · unfold am_un
        by_cases ci : i = m
        · rw [if_pos ci]; exact ⟨by omega, c⟩
        · rw [if_neg ci]; have := q1 i (by omega); exact ⟨by omega, this.2⟩
      · by_cases cy : y = x
        · exact ⟨m, by omega, by rw [am_un_s, cy]⟩
        · obtain ⟨i, hi, e⟩ := q2 y (by omega) hyb
          exact ⟨i, by omega, by rw [am_un_n _ _ (by omega)]; exact e⟩
      · rw [e4, am_gRs, e2', am_gR, if_neg (by decide)]
        unfold upd am_un
        by_cases ci : i = m
        · rw [if_pos ci, if_pos ci]
        · rw [if_neg ci, if_neg ci]; exact r1 i (by omega)
      · rw [e4, am_gR, if_neg (by decide)]
        exact u105 _ h2 (by rw [if_pos c]) e2' y hy
theorem sc_sym {o s p : Nat} (hb : o.testBit p = false) : (s ^^^ 2 ^ p) &&& o = s &&& o := by
  apply Nat.eq_of_testBit_eq
  intro i
  rw [Nat.testBit_and, Nat.testBit_and, fb_bit_flip]
  by_cases c : i = p
  · rw [c, hb, Bool.and_false, Bool.and_false]
  · rw [decide_eq_false c, Bool.xor_false]
theorem sc_E_sym (ok : sc_ok t n) (s p : Nat) (hp : p < n) : sc_E t (s ^^^ 2 ^ p) p = sc_E t s p := by
  have o := (ok p hp).2
  rw [Nat.testBit_or] at o
  have o1 : (t (2 * p)).testBit p = false := by
    cases q : (t (2 * p)).testBit p with
    | false => rfl
    | true => rw [q] at o; cases o
  have o2 : (t (2 * p + 1)).testBit p = false := by
    cases q : (t (2 * p + 1)).testBit p with
    | false => rfl
    | true => rw [q, Bool.or_true] at o; cases o
  unfold sc_E
  rw [sc_sym o1, sc_sym o2]
/-- what the reference lays -/
def sc_M (h : am_H) (t : Nat → Nat) (n pn : Nat) : Prop := ∃ A : sc_A, sc_RM h n A ∧ (∀ x, sc_v A x = true → sc_c A x ≤ 512 ∧ sc_G (sc_E t) (fun x => x.testBit pn) n (sc_c A x) x) ∧ ∀ j x, x < 2 ^ n → sc_G (sc_E t) (fun x => x.testBit pn) n j x → sc_v A x = true ∧ sc_c A x ≤ j
theorem iX11_laysMoves {pn : Nat} (hd : 4 ≤ d) (hn : n ≤ 8) (hpn : pn < n) (tb : ∀ i, t i < 256) (hat : ∀ i, i < 2 * n → h.2.2 80 i &&& 255 = nI (t i)) (ok : sc_ok t n) (z : ∀ h', sc_M h' t n pn → sc_fm h h' → Z 0 h') : Sp mX11_laysMoves d [.ref 73, .int (nI n), .int (nI pn)] h Z := by
  have h8 := pl_8 hn
  refine Sp_of mf_X11_laysMoves rfl (Nat.le_of_ble_eq_true rfl) rfl (sX11_laysMoves_0 (m_w5 (h := h) (by omega) hn hpn (fun h1 m q q1 q2 q3 r1 r2 hf => ?_) (2 ^ n) 0 0 (fun _ => 0) h (by omega) (fun i hi => absurd hi (Nat.not_lt_zero i)) (fun y hy => absurd hy (Nat.not_lt_zero y)) ?_ (fun i hi => absurd hi (Nat.not_lt_zero i)) (fun y hy => absurd hy (Nat.not_lt_zero y)) ⟨fun _ _ _ => rfl, rfl, rfl⟩))
  · have sum : am_sm (fun x => if (decide (x < 2 ^ n) && x.testBit pn) = true then 1 else 0) (2 ^ n) = m := by
      rw [← q3]
      exact am_sm_cg _ (fun x _ => by by_cases a1 : x < 2 ^ n <;> simp [a1])
    have I1 : sc_I (fun x c => sc_G (sc_E t) (fun x => x.testBit pn) n c x) (fun x => decide (x < 2 ^ n) && x.testBit pn) 1 0 n (m, q, fun _ => 0, fun x => decide (x < 2 ^ n) && x.testBit pn) := by
      refine ⟨fun i hi => ⟨(q1 i hi).1, ?_⟩, fun x hx => ?_, fun _ _ _ _ => Nat.le_refl _, sum, Or.inl rfl, fun x hx => ⟨hx, rfl⟩, fun x hx => ?_, fun j _ => Nat.zero_le _⟩
      · show (decide (q i < 2 ^ n) && (q i).testBit pn) = true
        rw [decide_eq_true (q1 i hi).1, (q1 i hi).2]; rfl
      · have hx' : (decide (x < 2 ^ n) && x.testBit pn) = true := hx
        rw [Bool.and_eq_true, decide_eq_true_iff] at hx'
        exact q2 x hx'.1 hx'.2
      · have hx' : (decide (x < 2 ^ n) && x.testBit pn) = true := hx
        rw [Bool.and_eq_true] at hx'
        exact hx'.2
    have R1 : sc_RM h1 n (m, q, fun _ => 0, fun x => decide (x < 2 ^ n) && x.testBit pn) := by
      refine ⟨r1, fun x hx => ⟨fun hv => ?_, fun hv => ?_⟩⟩
      · have hv' : (decide (x < 2 ^ n) && x.testBit pn) = true := hv
        rw [Bool.and_eq_true] at hv'
        rw [r2 x hx, if_pos hv'.2]; rfl
      · have hv' : (decide (x < 2 ^ n) && x.testBit pn) = false := hv
        rw [decide_eq_true hx, Bool.true_and] at hv'
        rw [r2 x hx, if_neg (by rw [hv']; decide)]
    refine m_w67 (h := h) (t := t) hd hn tb hat (fun s p c hp hE g => ?_) (fun h' A hI hJ hR hf' => z h' ⟨A, hR, fun x hx => ⟨?_, hI.2.2.2.2.2.2.1 x hx⟩, fun j x hx g => ?_⟩ hf') 257 0 _ h1 _ _ (by omega) I1 ⟨fun _ _ _ => Nat.zero_le _, fun i p' _ q => by omega⟩ R1 hf
    · show sc_G (sc_E t) (fun x => x.testBit pn) n (sc_N 1 0 c p) (s ^^^ 2 ^ p)
      rw [sc_N1]
      exact ⟨p, hp, by rw [sc_E_sym ok s p hp]; exact hE, by rw [sc_xx]; exact g⟩
    · have := sc_cb hn hI hx; omega
    · exact sc_ref (S := fun x => decide (x < 2 ^ n) && x.testBit pn) (fun x hx hP => by
        show (decide (x < 2 ^ n) && x.testBit pn) = true
        have hP' : x.testBit pn = true := hP
        rw [decide_eq_true hx, hP']; rfl) (fun s p hp => sc_E_sym ok s p hp) hI hJ j x hx g
  · rw [am_sm_cg (g := fun _ => 0) _ (fun y _ => if_neg (fun q => Nat.not_lt_zero _ q.1)), am_sm_c]; rfl
theorem m_w136 {D f pn : Nat} {u1 u2 u3 u5 : Value} (hd : 3 ≤ d) (hn : n ≤ 8) (tb : ∀ i, t i < 256) (hat : ∀ i, i < 2 * n → h.2.2 80 i &&& 255 = nI (t i)) (fd : sc_Fd (sc_E t) (fun x => x.testBit pn) n D f) (hM : sc_M h t n pn) (e0 : h.2.2 105 0 = nI D) (z : Z (nI f) h) : ∀ (r p : Nat), p + r = f → Ru mX11_secret none d 136 [.ref 73, u1, u2, u3, .int (nI p), u5] [] h Z
  | r, p, hp => by
    have h8 := pl_8 hn
    obtain ⟨g1, g2, g3, g4, g5, g6⟩ := fd
    obtain ⟨A, hR, m1, m2⟩ := hM
    have p2 : 2 ^ p < 2 ^ n := Nat.pow_lt_pow_right (by decide) (by omega)
    have ed : nI D - 1 = nI (D - 1) := pk_sub (b := 1) g1
    have go : p < f → Ru mX11_secret none d 136 [.ref 73, u1, u2, u3, .int (nI (p + 1)), u5] [] h Z := fun hpf => by
      cases r with
      | zero => omega
      | succ r => exact m_w136 hd hn tb hat ⟨g1, g2, g3, g4, g5, g6⟩ ⟨A, hR, m1, m2⟩ e0 z r (p + 1) (by omega)
    refine sX11_secret_136 ⟨2, by omega, iX11_canMove (s := 0) (t := t) (by omega) (by omega) (by omega) (hat _ (by omega)) (hat _ (by omega)) tb ?_⟩
    rw [am_shl1 (by omega), nI_clamp (by omega), nI_1, e0, ed]
    by_cases cE : sc_E t 0 p = true
    · rw [if_pos cE]
      refine ⟨fun q => absurd q (by decide), fun _ => ⟨vp_in_nI (by omega) (by omega), fun q => ?_, fun q => ?_⟩⟩
      · have hv : sc_v A (2 ^ p) = true := by
          cases hv : sc_v A (2 ^ p) with
          | true => rfl
          | false =>
            rw [(hR.2 _ p2).2 hv] at q
            exact absurd (show (-1 : Int32) < 0 by decide) (by rw [q]; exact nI_pos (by omega))
        have mm := m1 _ hv
        rw [(hR.2 _ p2).1 hv, nI_eq (by omega) (by omega)] at q
        rw [q] at mm
        have := g6 (D - 1) p (by omega) cE mm.2
        have e : p = f := by omega
        rw [e]; exact z
      · by_cases e : p = f
        · subst e
          have a := m2 _ _ p2 g5
          have mm := m1 _ a.1
          have := g6 _ p (by omega) cE mm.2
          refine absurd ?_ q
          rw [(hR.2 _ p2).1 a.1, show sc_c A (2 ^ p) = D - 1 by omega]
        · exact go (by omega)
    · rw [if_neg cE]
      refine ⟨fun _ => go ?_, fun q => absurd rfl q⟩
      rcases Nat.lt_or_ge p f with q | q
      · exact q
      · rw [show p = f by omega] at cE; exact absurd g4 cE
theorem m_sec {pn : Nat} {x3 : Int32} (hd : 6 ≤ d) (h2 : 2 ≤ n) (hn : n ≤ 8) (hpn : pn < n) (tb : ∀ i, t i < 256) (hat : ∀ i, i < 2 * n → h.2.2 80 i &&& 255 = nI (t i))
    (z1 : ∀ h' D f, sc_ok t n → sc_Fd (sc_E t) (fun x => x.testBit pn) n D f → sc_fm h h' → (¬ ∃ D f, sc_Fd (sc_E t) (fun x => x.testBit pn) n D f) ∨ True → Z (if x3 = 0 then nI D else nI f) h') (z2 : ∀ h', sc_ok t n → (∀ j, ¬ sc_G (sc_E t) (fun x => x.testBit pn) n j 0) → sc_fm h h' → Z (-2) h') (z3 : ¬ sc_ok t n → Z (-3) h)
    (cl : sc_ok t n → (∃ D f, sc_Fd (sc_E t) (fun x => x.testBit pn) n D f) ∨ ∀ j, ¬ sc_G (sc_E t) (fun x => x.testBit pn) n j 0) : ∀ (r k : Nat) (u5 : Value), k + r = n → (∀ i, i < k → (nI (t (2 * i) ||| t (2 * i + 1)) >>> (nI n &&& 31)) = 0 ∧ (t (2 * i) ||| t (2 * i + 1)).testBit i = false) → Ru mX11_secret none d 50 [.ref 73, .int (nI n), .int (nI pn), .int x3, .int (nI k), u5] [] h Z
  | 0, k, u5, hk, hv => by
    have ek : k = n := by omega
    subst ek
    have h8 := pl_8 hn
    refine sX11_secret_50 (by omega) ⟨fun _ => ⟨5, by omega, iX11_laysMoves (t := t) (by omega) hn hpn tb hat hv (fun h' hM hf => ?_)⟩, fun c => absurd (Int32.le_refl _) c⟩
    obtain ⟨A, hR, m1, m2⟩ := hM
    have p0 : 0 < 2 ^ k := Nat.two_pow_pos k
    rcases cl hv with ⟨D, f, fd⟩ | no
    · obtain ⟨g1, g2, g3, g4, g5, g6⟩ := fd
      have gD : sc_G (sc_E t) (fun x => x.testBit pn) k D 0 := by
        rw [show D = D - 1 + 1 by omega]
        exact ⟨f, g3, g4, by rw [Nat.zero_xor]; exact g5⟩
      have a := m2 _ _ p0 gD
      have mm := m1 _ a.1
      have ce : sc_c A 0 = D := by
        have g := mm.2
        cases q : sc_c A 0 with
        | zero =>
          rw [q] at g
          have g' : (0 : Nat).testBit pn = true := g
          rw [Nat.zero_testBit] at g'; cases g'
        | succ j =>
          rw [q] at g
          obtain ⟨r, hr, hE, g'⟩ := g
          rw [Nat.zero_xor] at g'
          have := g6 j r hr hE g'
          omega
      have e0 : h'.2.2 105 0 = nI D := by rw [(hR.2 0 p0).1 a.1, ce]
      have fd : sc_Fd (sc_E t) (fun x => x.testBit pn) k D f := ⟨g1, g2, g3, g4, g5, g6⟩
      have w := z1 h' D f hv fd hf (Or.inr trivial)
      rw [e0]
      refine ⟨fun _ => ⟨fun c => ?_, fun c => ?_⟩, fun q => absurd (show (-1 : Int32) < 0 by decide) (by rw [← q]; exact nI_pos (by omega))⟩
      · rw [if_neg c] at w
        exact m_w136 (t := t) (by omega) hn tb (fun i hi => by rw [hf.1 80 (by decide) (by decide)]; exact hat i hi) fd ⟨A, hR, m1, m2⟩ e0 w f 0 (by omega)
      · rw [if_pos c] at w; exact w
    · have v0 : sc_v A 0 = false := by
        cases q : sc_v A 0 with
        | false => rfl
        | true => exact absurd (m1 0 q).2 (no _)
      rw [(hR.2 0 p0).2 v0]
      exact ⟨fun q => absurd rfl q, fun _ => z2 h' hv no hf⟩
  | r + 1, k, u5, hk, hv => by
    have b : t (2 * k) ||| t (2 * k + 1) < 2 ^ 8 := Nat.or_lt_two_pow (tb _) (tb _)
    refine sX11_secret_50 (by omega) ⟨fun c => absurd c (nI_ge (by omega) (by omega)), fun _ => ?_⟩
    have hb : am_has (nI (t (2 * k) ||| t (2 * k + 1))) (nI k) ↔ (t (2 * k) ||| t (2 * k + 1)).testBit k = true := am_bit_n (by omega) (by omega)
    rw [am_n2, nI_1, nI_clamp (by omega), nI_clamp (by omega), hat _ (by omega), hat _ (by omega), fa_or, hb, nI_1]
    refine ⟨vp_in_nI (by omega) (by omega), vp_in_nI (by omega) (by omega), fun c => z3 (fun q => c (q k (by omega)).1), fun c => ⟨fun c2 => ?_, fun c2 => z3 (fun q => by rw [(q k (by omega)).2] at c2; cases c2)⟩⟩
    refine m_sec hd h2 hn hpn tb hat z1 z2 z3 cl r (k + 1) _ (by omega) (fun i hi => ?_)
    by_cases ci : i = k
    · subst ci; exact ⟨c, by simpa using c2⟩
    · exact hv i (by omega)
theorem sc_Fd_u {E : Nat → Nat → Bool} {D f D' f' : Nat} (hn : n ≤ 8) (a : sc_Fd E P n D f) (b : sc_Fd E P n D' f') : D = D' ∧ f = f' := by
  obtain ⟨a1, a2, a3, a4, a5, a6⟩ := a
  obtain ⟨b1, b2, b3, b4, b5, b6⟩ := b
  have x := a6 _ _ b3 b4 b5
  have y := b6 _ _ a3 a4 a5
  omega
theorem sc_Fd_no {E : Nat → Nat → Bool} {D f : Nat} (a : sc_Fd E P n D f) (no : ∀ j, ¬ sc_G E P n j 0) : False := no (D - 1 + 1) ⟨f, a.2.2.1, a.2.2.2.1, by rw [Nat.zero_xor]; exact a.2.2.2.2.1⟩
end
theorem pp_secret {d : Nat} {h : am_H} {K : Int32 → Int32 → am_H → Prop} {x y w : Int32} {N : Nat} (hd : 12 ≤ d) (ht : am_tape h N) (z : ∀ r h', am_step h h' → K r r h') : am_cl mX10_secret d [.ref 0, .int x, .int y, .int w] h (fun r1 h1 => am_cl mX11_secret d [.ref 73, .int x, .int y, .int w] h1 (fun r2 h2 => K r1 r2 h2)) := by
  have hN := ht.1
  have z0 : K (-1) (-1) h := z _ _ (am_step_rf h)
  have m0 : ∀ {h0 : am_H} {Z : Int32 → am_H → Prop}, _ → am_cl mX11_secret d [.ref 73, .int x, .int y, .int w] h0 Z := fun {h0 Z} w => ⟨10, by omega, Sp_of mf_X11_secret rfl (Nat.le_of_ble_eq_true rfl) rfl (sX11_secret_0 (by omega) w)⟩
  have f34 : ∀ (v : am_cl mX11_secret d [.ref 73, .int x, .int y, .int w] h (fun r2 h2 => K (-1) r2 h2)), Ru mX10_secret none 10 34 [.ref 0, .int x, .int y, .int w, .null, .null] [] h (fun r1 h1 => am_cl mX11_secret d [.ref 73, .int x, .int y, .int w] h1 (fun r2 h2 => K r1 r2 h2)) := fun v => sX10_secret_34 (sX10_secret_35 (by omega) ⟨fun _ => v, fun c => absurd rfl c⟩)
  refine ⟨10, by omega, Sp_of mf_X10_secret rfl (Nat.le_of_ble_eq_true rfl) rfl (sX10_secret_0 (by omega) ⟨fun c1 => f34 (m0 ⟨fun _ => z0, fun q => absurd q c1⟩), fun c1 => ⟨fun c2 => f34 (m0 ⟨fun q => absurd c1 q, fun _ => ⟨fun _ => z0, fun q => absurd q c2⟩⟩), fun c2 => ⟨fun c3 => f34 (m0 ⟨fun q => absurd c1 q, fun _ => ⟨fun q => absurd c2 q, fun _ => ⟨fun _ => z0, fun q => absurd q c3⟩⟩⟩), fun c3 => sX10_secret_35 (by omega) ⟨fun q => absurd q (by decide), fun _ => ⟨fun c4 => ?_, fun c4 => m0 ⟨fun q => absurd c1 q, fun _ => ⟨fun q => absurd c2 q, fun _ => ⟨fun q => absurd c3 q, fun _ => ⟨fun q => absurd (by rw [ht.2.1, ← ht.2.2.1]; exact q) c4, fun _ => z0⟩⟩⟩⟩⟩⟩⟩⟩⟩)⟩
  obtain ⟨n, hn, rfl⟩ := am_natle (N := 8) (by omega) (Int32.le_trans (by decide) c1.1) c1.2
  have h2 : 2 ≤ n := (nI_leI (a := 2) (by omega) (by omega)).mp c1.1
  have ej : nI n - 1 = nI (n - 1) := pk_sub (b := 1) (by omega)
  have c2' := c2
  rw [ej] at c2'
  obtain ⟨pn, hpn, rfl⟩ := am_natle (N := n - 1) (by omega) c2'.1 c2'.2
  have c5 : 2 * n ≤ N := by
    rw [am_n2, ht.2.1] at c4
    exact (nI_leI (by omega) (by omega)).mp c4
  have tb := am_bt_lt h
  have hat : ∀ i, i < 2 * n → am_at h (nI i) = nI (am_bt h i) := fun i hi => am_at_b ht (by omega)
  have stp : ∀ {h1 h3 : am_H}, sc_fr h h1 → sc_fm (am_sI (am_sI h1 1 1 0) 73 9 0) h3 → am_step h h3 := fun {h1 h3} p q => by
    refine am_step_x ⟨fun a ha => ?_, fun a k ha => ?_, ?_⟩ ?_ ?_
    · have ne : ∀ x, am_relR x = false → a ≠ x := fun x hx e => by rw [e, hx] at ha; cases ha
      rw [q.1 a (ne _ rfl) (ne _ rfl), am_gI2, am_gI2]
      exact p.1 a (ne _ rfl) (ne _ rfl) (ne _ rfl)
    · have ne : ∀ x y, am_relI x y = false → ¬ (a = x ∧ k = y) := fun x y hx e => by rw [e.1, e.2, hx] at ha; cases ha
      rw [q.2.1, am_gI, if_neg (ne _ _ rfl), am_gI, if_neg (ne _ _ rfl)]
      exact p.2.1 a k (ne _ _ rfl)
    · rw [q.2.2]; exact congrFun p.2.2 0
    · rw [q.2.1, am_gI, if_neg (by decide), am_gI, if_pos ⟨rfl, rfl⟩]
    · rw [q.2.1, am_gI, if_pos ⟨rfl, rfl⟩]
  have fin : ∀ r h1, sc_fr h h1 → (sc_ok (am_bt h) n → (∃ D f, sc_Fd (sc_E (am_bt h)) (fun x => x.testBit pn) n D f) ∨ ∀ j, ¬ sc_G (sc_E (am_bt h)) (fun x => x.testBit pn) n j 0) → (∀ D f, sc_ok (am_bt h) n → sc_Fd (sc_E (am_bt h)) (fun x => x.testBit pn) n D f → r = if w = 0 then nI D else nI f) → (sc_ok (am_bt h) n → (∀ j, ¬ sc_G (sc_E (am_bt h)) (fun x => x.testBit pn) n j 0) → r = -2) → (¬ sc_ok (am_bt h) n → r = -3) → am_cl mX11_secret d [.ref 73, .int (nI n), .int (nI pn), .int w] (am_sI h1 1 1 0) (fun r2 h2 => K r r2 h2) := by
    intro r h1 hf cl r1 r2 r3
    refine m0 ⟨fun q => absurd c1 q, fun _ => ⟨fun q => absurd c2 q, fun _ => ⟨fun q => absurd c3 q, fun _ => ⟨fun _ h3 e3 => ?_, fun q => absurd ?_ q⟩⟩⟩⟩
    · subst e3
      refine m_sec (t := am_bt h) (by omega) h2 hn (by omega) tb (fun i hi => by rw [am_gI2, am_gI2, hf.1 80 (by decide) (by decide) (by decide)]; exact am_bt_e h i) (fun h' D f ok fd hf2 _ => ?_) (fun h' ok no hf2 => ?_) (fun nok => ?_) cl n 0 _ (by omega) (fun i hi => absurd hi (Nat.not_lt_zero i))
      · rw [← r1 D f ok fd]; exact z _ _ (stp hf hf2)
      · rw [r2 ok no]; exact z _ _ (stp hf hf2)
      · rw [r3 nok]; exact z _ _ (stp hf ⟨fun _ _ _ => rfl, rfl, rfl⟩)
    · rw [am_gI, if_neg (by decide), hf.2.1 73 9 (by decide), ht.2.2.1, ← ht.2.1]; exact c4
  refine ⟨9, by omega, iX5_solve (t := am_bt h) (by omega) h2 hn (by omega) tb hat (fun h1 D f ok fd hf => ?_) (fun h1 ok no hf => ?_) (fun nok => ?_)⟩
  · refine fin _ h1 hf (fun _ => Or.inl ⟨D, f, fd⟩) (fun D' f' _ fd' => ?_) (fun _ no => absurd no (fun no => sc_Fd_no fd no)) (fun nok => absurd ok nok)
    obtain ⟨rfl, rfl⟩ := sc_Fd_u hn fd fd'
    rfl
  · exact fin _ h1 hf (fun _ => Or.inr no) (fun D' f' _ fd' => absurd no (fun no => sc_Fd_no fd' no)) (fun _ _ => rfl) (fun nok => absurd ok nok)
  · exact fin _ h ⟨fun _ _ _ _ => rfl, fun _ _ _ => rfl, rfl⟩ (fun ok => absurd ok nok) (fun _ _ ok => absurd ok nok) (fun ok => absurd ok nok) (fun _ => rfl)
