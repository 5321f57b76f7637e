-- the slip: the class reads
def sl_H (t : Nat → Nat) (n : Nat) (h : am_H) (S : sl_S) : Prop := am_ss t n S.1 h ∧ h.1 5 3 = nI S.2.1 ∧ ∀ i, i < S.2.1 → h.2.2 6 i = nI (S.2.2 i)
def sl_fr (h h' : am_H) : Prop := (∀ a, a ≠ 6 → a ≠ 7 → h'.2.2 a = h.2.2 a) ∧ (∀ a k, a ≠ 3 → ¬ (a = 5 ∧ k = 3) → h'.1 a k = h.1 a k) ∧ h'.2.1 = h.2.1
def sl_oc (t : Nat → Nat) (n : Nat) (h h' : am_H) (o : sl_O) : Prop := sl_fr h h' ∧ ((o.1 = 0 ∧ sl_H t n h' o.2) ∨ (¬ o.1 = 0 ∧ h'.1 3 3 = o.1))
theorem sl_fr_rf (h : am_H) : sl_fr h h := ⟨fun _ _ _ => rfl, fun _ _ _ _ => rfl, rfl⟩
theorem sl_fr_tr {h h1 h2 : am_H} (p : sl_fr h h1) (q : sl_fr h1 h2) : sl_fr h h2 := ⟨fun a n1 n2 => (q.1 a n1 n2).trans (p.1 a n1 n2), fun a k n1 n2 => (q.2.1 a k n1 n2).trans (p.2.1 a k n1 n2), q.2.2.trans p.2.2⟩
theorem sl_fr_3 {h h1 : am_H} {j : Nat} {x : Int32} (p : sl_fr h h1) : sl_fr h (am_sI h1 3 j x) := ⟨p.1, fun a k n1 n2 => by rw [am_gI, if_neg (fun e => n1 e.1)]; exact p.2.1 a k n1 n2, p.2.2⟩
section
variable {d n : Nat} {h : am_H} {Z : Int32 → am_H → Prop} {t : Nat → Nat} {S : sl_S}
theorem sl_fal {x y : Nat} (hS : am_ss t n S.1 h) (x1 : 1 ≤ x) (x8 : x ≤ 8) (yb : y ≤ 260) (o : sl_O) (e : o.1 = am_ft x y) : sl_oc t n h (am_fal h (nI x) (nI y)) o := by
  rw [am_ss_fal hS]
  exact ⟨sl_fr_3 (sl_fr_rf h), Or.inr ⟨by rw [e]; exact (am_ft_n x1 x8 yb).2, by rw [am_gI, if_pos ⟨rfl, rfl⟩, e]; rfl⟩⟩
theorem sl_H_nx (hH : sl_H t n h S) (hk : S.1 < n) : sl_H t n (am_sI h 3 2 (h.1 3 2 + 1)) (S.1 + 1, S.2) := ⟨am_ss_nx hH.1 hk, by rw [am_gI, if_neg (by decide)]; exact hH.2.1, hH.2.2⟩
theorem sl_H_ad {c : Nat} (hH : sl_H t n h S) : sl_H t n (am_sI (am_sR h 6 (upd (h.2.2 6) S.2.1 (nI c))) 5 3 (nI (S.2.1 + 1))) (S.1, S.2.1 + 1, am_un S.2.2 S.2.1 c) := by
  obtain ⟨⟨a1, a2, a3, a4, a5, a6, a7⟩, b, c'⟩ := hH
  refine ⟨⟨by rw [am_gI, if_neg (by decide)]; exact a1, by rw [am_gI, if_neg (by decide)]; exact a2, by rw [am_gI, if_neg (by decide)]; exact a3, a4, a5, a6, fun i hi => ?_⟩, by rw [am_gI, if_pos ⟨rfl, rfl⟩], fun i hi => ?_⟩
  · rw [am_at_sI _ _ _ (by decide), am_at_sR _ _ _ (by decide)]; exact a7 i hi
  · have hi' : i < S.2.1 + 1 := hi
    rw [am_gI2, am_gRs]
    show upd _ _ _ i = nI (am_un _ _ _ i)
    unfold upd am_un
    by_cases q : i = S.2.1
    · rw [if_pos q, if_pos q]
    · rw [if_neg q, if_neg q]; exact c' i (by omega)
theorem iX8_add {c y : Nat} (hd : 2 ≤ d) (hH : sl_H t n h S) (hm : S.2.1 ≤ 64) (hy : y ≤ 260) (z1 : S.2.1 < 64 → ∀ h', sl_H t n h' (S.1, S.2.1 + 1, am_un S.2.2 S.2.1 c) → sl_fr h h' → Z 0 h') (z0 : S.2.1 = 64 → ∀ h', sl_fr h h' → h'.1 3 3 = am_ft 6 y → Z 0 h') : Sp mX8_add d [.ref 5, .int (nI c), .int (nI y)] h Z := by
  refine Sp_of mf_X8_add rfl (Nat.le_of_ble_eq_true rfl) rfl (sX8_add_0 hd ?_)
  have ob := sl_fal (y := y) hH.1 (x := 6) (by omega) (by omega) hy (am_ft 6 y, S) rfl
  rw [hH.2.1]
  refine ⟨fun q => absurd q (nI_pos (by omega)), fun _ => ⟨fun q => ⟨vp_in_nI (by have := (nI_ltI (b := 64) (by omega) (by omega)).mp q; omega) (by omega), fun h2 e2 h3 e3 => ?_⟩, fun q => ?_⟩⟩
  · have q' : S.2.1 < 64 := (nI_ltI (b := 64) (by omega) (by omega)).mp q
    rw [nI_clamp (by omega)] at e2
    have e53 : h2.1 5 3 = nI S.2.1 := by rw [e2]; exact hH.2.1
    rw [e53, nI_1, e2] at e3
    rw [e3]
    exact z1 q' _ (sl_H_ad hH) ⟨fun a n1 n2 => by rw [am_gI2, am_gR, if_neg n1], fun a k n1 n2 => by rw [am_gI, if_neg n2]; rfl, rfl⟩
  · have q' : S.2.1 = 64 := by
      rcases Nat.lt_or_ge S.2.1 64 with w | w
      · exact absurd (nI_lt (b := 64) w (by omega)) q
      · omega
    rcases ob.2 with w | w
    · exact absurd w.1 (am_ft_n (by omega) (by omega) hy).2
    · exact z0 q' _ ob.1 w.2
theorem x_rp0 {x1 x2 x3 x4 x5 : Int32} (hd : 2 ≤ d) (q : ¬ h.1 3 3 = 0) (z : Z 0 h) : Ru mX8_repeat none d 11 [.ref 5, .int x1, .int x2, .int x3, .int x4, .int x5] [] h Z := sX8_repeat_11 hd ⟨fun _ => z, fun _ => ⟨fun _ => z, fun _ => ⟨fun _ => z, fun c => absurd q c⟩⟩⟩
theorem iX8_rep0 {x1 x2 x3 : Int32} (hd : 2 ≤ d) (q : ¬ h.1 3 3 = 0) (z : Z 0 h) : Sp mX8_repeat d [.ref 5, .int x1, .int x2, .int x3] h Z := Sp_of mf_X8_repeat rfl (Nat.le_of_ble_eq_true rfl) rfl (sX8_repeat_0 (x_rp0 hd q z))
theorem x_rp {a x y m0 k0 : Nat} {L0 : Nat → Nat} (hd : 3 ≤ d) (ha : a ≤ m0) (hm0 : m0 ≤ 64) (hx : 1 ≤ x) (hx9 : x ≤ 9) (hy : y ≤ 260) (z : ∀ h', sl_oc t n h h' (sl_rp a x y (k0, m0, L0)) → Z 0 h') : ∀ (r j : Nat) (h1 : am_H), j + r = (m0 - a) * (x - 1) → m0 + j ≤ 64 → sl_H t n h1 (k0, m0 + j, am_fd (fun j L => am_un L (m0 + j) (L (a + j))) 0 j L0) → sl_fr h h1 → Ru mX8_repeat none d 11 [.ref 5, .int (nI a), .int (nI x), .int (nI y), .int (nI (m0 - a)), .int (nI j)] [] h1 Z := by
  have mx : (m0 - a) * x = (m0 - a) * (x - 1) + (m0 - a) := by
    obtain ⟨x', rfl⟩ : ∃ x', x = x' + 1 := ⟨x - 1, by omega⟩
    rw [Nat.mul_succ]; rfl
  have mb : (m0 - a) * (x - 1) ≤ 64 * 8 := Nat.mul_le_mul (by omega) (by omega)
  have e1 : nI x - 1 = nI (x - 1) := am_sub_n (c := 1) hx
  have e2 : nI (m0 - a) * nI (x - 1) = nI ((m0 - a) * (x - 1)) := pk_mul _ _
  intro r
  induction r with
  | zero =>
    intro j h1 hj hm hH hf
    refine sX8_repeat_11 (by omega) ?_
    rw [e1, e2, show (m0 - a) * (x - 1) = j by omega]
    refine ⟨fun _ => z h1 ⟨hf, Or.inl ?_⟩, fun c => absurd (Int32.le_refl _) c⟩
    have er : sl_rp a x y (k0, m0, L0) = (0, (k0, m0 + j, am_fd (fun j L => am_un L (m0 + j) (L (a + j))) 0 j L0)) := by
      unfold sl_rp
      rw [if_neg (by show ¬ 64 < a + (m0 - a) * x; omega)]
      show (0, (k0, a + (m0 - a) * x, am_fd (fun j L => am_un L (m0 + j) (L (a + j))) 0 ((m0 - a) * (x - 1)) L0)) = _
      rw [show a + (m0 - a) * x = m0 + j by omega, show (m0 - a) * (x - 1) = j by omega]
    rw [er]; exact ⟨rfl, hH⟩
  | succ r ih =>
    intro j h1 hj hm hH hf
    have ne : ¬ m0 - a = 0 := fun e => by rw [e, Nat.zero_mul] at hj; omega
    refine sX8_repeat_11 (by omega) ?_
    rw [e1, e2, nI_add, hH.2.1, nI_clamp (by omega), hH.2.2 (a + j) (by show a + j < m0 + j; omega), nI_1]
    refine ⟨fun c => absurd c (nI_ge (by omega) (by omega)), fun _ => ⟨fun c => absurd c (nI_ge (by show a + j < m0 + j; omega) (by show m0 + j < 2 ^ 31; omega)), fun _ => ⟨fun c => absurd hH.1.2.2.1 c, fun _ => ⟨vp_in_nI (by omega) (by omega), 2, by omega, iX8_add (by omega) hH hm hy (fun lt h2 hH2 f2 => ?_) (fun eq h2 f2 e33 => ?_)⟩⟩⟩⟩
    · have lt' : m0 + j < 64 := lt
      refine ih (j + 1) h2 (by omega) (by omega) ?_ (sl_fr_tr hf f2)
      rw [am_fd_end, Nat.zero_add]; exact hH2
    · have eq' : m0 + j = 64 := eq
      have er : sl_rp a x y (k0, m0, L0) = (am_ft 6 y, (k0, m0, L0)) := by
        unfold sl_rp
        rw [if_pos (by show 64 < a + (m0 - a) * x; omega)]
      have nz := (am_ft_n (x := 6) (k := y) (by omega) (by omega) hy).2
      exact x_rp0 (by omega) (by rw [e33]; exact nz) (z h2 ⟨sl_fr_tr hf f2, Or.inr (by rw [er]; exact ⟨nz, e33⟩)⟩)
theorem iX8_repeat {a x y : Nat} (hd : 3 ≤ d) (hH : sl_H t n h S) (ha : a ≤ S.2.1) (hm : S.2.1 ≤ 64) (hx : 1 ≤ x) (hx9 : x ≤ 9) (hy : y ≤ 260) (z : ∀ h', sl_oc t n h h' (sl_rp a x y S) → Z 0 h') : Sp mX8_repeat d [.ref 5, .int (nI a), .int (nI x), .int (nI y)] h Z := by
  refine Sp_of mf_X8_repeat rfl (Nat.le_of_ble_eq_true rfl) rfl (sX8_repeat_0 ?_)
  rw [hH.2.1, am_sub_n ha]
  exact x_rp (m0 := S.2.1) (k0 := S.1) (L0 := S.2.2) hd ha hm hx hx9 hy z ((S.2.1 - a) * (x - 1)) 0 h (by omega) (by omega) hH (sl_fr_rf h)
/-- the contract of a row -/
def sl_CR (t : Nat → Nat) (n r d : Nat) (row : sl_S → sl_O) : Prop := ∀ (h : am_H) (S : sl_S) (Z : Int32 → am_H → Prop), sl_H t n h S → sl_ok n S → (∀ h', sl_oc t n h h' (row S) → Z 0 h') → Sp mX8_readRow d [.ref 5, .int (nI r)] h Z
theorem x_one {r : Nat} {row : sl_S → sl_O} {last : Bool} (hd : 6 ≤ d) (hn : n ≤ 200) (hr : r ≤ 2) (hl : last = true ↔ r = 2) (hrow : r < 2 → sl_CR t n (r + 1) (d - 1) row) (hrp : last = false → ∀ S, sl_ok n S → (row S).1 = 0 → sl_ok n (row S).2 ∧ am_rd t n (row S).2.1 = 41 ∧ S.2.1 ≤ (row S).2.2.1) (hH : sl_H t n h S) (ok : sl_ok n S) (z : ∀ h', sl_oc t n h h' (sl_el row last t n S) → Z 0 h') : Sp mX8_readOne d [.ref 5, .int (nI r)] h Z := by
  have tb := hH.1.2.2.2.2.2.1
  have hkn := hH.1.2.2.2.1
  have xx := sl_x_1 (t := t) (n := n) S.1
  have kk := sl_k_le (t := t) ok.1
  have dgi : ((48 : Int32) ≤ am_rd t n S.1 ∧ am_rd t n S.1 ≤ 57) = cb_dg t n S.1 := propext (am_rd_in (lo := 48) (hi := 57) (by omega) (by omega) tb)
  -- behind the digit
  have rest : ∀ (g : am_H), sl_H t n g (sl_k t n S.1, S.2) → sl_fr h g → ∀ u4 u5, Ru mX8_readOne none d 53 [.ref 5, .int (nI r), .int (nI S.1), .int (nI (sl_x t n S.1)), u4, u5] [] g Z := fun g hg fg u4 u5 => by
    have pk : am_pk g = am_rd t n (sl_k t n S.1) := am_ss_pk hg.1
    have lti : (97 : Int32) ≤ am_rd t n (sl_k t n S.1) ∧ am_rd t n (sl_k t n S.1) ≤ 122 ↔ sl_lt t n (sl_k t n S.1) := am_rd_in (lo := 97) (hi := 122) (by omega) (by omega) tb
    have e40 : am_rd t n (sl_k t n S.1) = 40 ↔ (sl_k t n S.1 < n ∧ t (sl_k t n S.1) = 40) := am_rd_eq (x := 40) (by omega) tb
    have other : ¬ sl_lt t n (sl_k t n S.1) → Ru mX8_readOne none d 102 [.ref 5, .int (nI r), .int (nI S.1), .int (nI (sl_x t n S.1)), .int (nI S.2.1), .int (am_rd t n (sl_k t n S.1))] [] g Z := fun c1 => by
      have bad : ∀ x, 1 ≤ x → x ≤ 8 → sl_el row last t n S = (am_ft x (sl_k t n S.1), S) → am_cl mX8_repeat d [.ref 5, .int (nI S.2.1), .int (nI (sl_x t n S.1)), .int (nI S.1)] (am_fal g (nI x) (g.1 3 2)) (fun r5 h6 => Z 0 h6) := fun x h1 h8 e => by
        have oc := sl_fal (x := x) (y := sl_k t n S.1) (S := (sl_k t n S.1, S.2)) hg.1 h1 h8 (by omega) (sl_el row last t n S) (by rw [e])
        have nz := (am_ft_n (x := x) (k := sl_k t n S.1) h1 h8 (by omega)).2
        have e32 : g.1 3 2 = nI (sl_k t n S.1) := hg.1.2.1
        rw [e32]
        rcases oc.2 with w | w
        · exact absurd (by rw [e] at w; exact w.1) nz
        · exact ⟨4, by omega, iX8_rep0 (by omega) (by rw [w.2]; exact w.1) (z _ ⟨sl_fr_tr fg oc.1, Or.inr w⟩)⟩
      refine sX8_readOne_102 (by omega) ?_
      rw [show (am_rd t n (sl_k t n S.1) = 40) = (sl_k t n S.1 < n ∧ t (sl_k t n S.1) = 40) from propext e40]
      refine ⟨fun c2 => ⟨fun c3 => ?_, fun c3 => bad 5 (by omega) (by omega) ?_⟩, fun c2 => bad 1 (by omega) (by omega) ?_⟩
      · have r2 : r < 2 := (nI_ltI (b := 2) (by omega) (by omega)).mp c3
        have lf : last = false := by
          cases last with
          | false => rfl
          | true => have := hl.mp rfl; omega
        have ee : sl_el row last t n S = sl_b (row (sl_k t n S.1 + 1, S.2)) (fun S2 => sl_rp S.2.1 (sl_x t n S.1) S.1 (S2.1 + 1, S2.2)) := by
          unfold sl_el
          rw [if_neg c1, if_pos c2, lf]; rfl
        have okk : sl_ok n (sl_k t n S.1 + 1, S.2) := ⟨by show sl_k t n S.1 + 1 ≤ n; omega, ok.2⟩
        have pr := hrp lf (sl_k t n S.1 + 1, S.2) okk
        rw [ee] at z
        rw [nI_1]
        refine ⟨d - 1, by omega, hrow r2 _ _ _ (sl_H_nx hg c2.1) okk (fun h2 oc => ?_)⟩
        generalize row (sl_k t n S.1 + 1, S.2) = o at oc pr z
        have f2 : sl_fr h h2 := sl_fr_tr (sl_fr_3 fg) oc.1
        rcases oc.2 with ⟨o0, H2⟩ | ⟨o1, e33⟩
        · obtain ⟨ok2, r41, le⟩ := pr o0
          have le' : S.2.1 ≤ o.2.2.1 := le
          have k2 := am_rd_lt r41 (by decide)
          have pk2 : am_pk h2 = 41 := (am_ss_pk H2.1).trans r41
          rw [show am_exp h2 41 = am_sI h2 3 2 (h2.1 3 2 + 1) from if_pos pk2]
          rw [sl_b_0 o0] at z
          refine ⟨4, by omega, iX8_repeat (by omega) (sl_H_nx H2 k2) le' ok2.2.1 xx.1 xx.2 (by omega) (fun h4 oc4 => z h4 ⟨sl_fr_tr (sl_fr_3 f2) oc4.1, oc4.2⟩)⟩
        · have nz : ¬ h2.1 3 3 = 0 := by rw [e33]; exact o1
          rw [am_exp_no (by decide) nz]
          rw [sl_b_f o1] at z
          exact ⟨4, by omega, iX8_rep0 (by omega) nz (z h2 ⟨f2, Or.inr ⟨o1, e33⟩⟩)⟩
      · have r2 : r = 2 := by
          rcases Nat.lt_or_ge r 2 with q | q
          · exact absurd (nI_lt (b := 2) q (by omega)) c3
          · omega
        unfold sl_el
        rw [if_neg c1, if_pos c2, if_pos (hl.mpr r2)]
      · unfold sl_el
        rw [if_neg c1, if_neg c2]
    refine sX8_readOne_53 (by omega) ?_
    have e53 : g.1 5 3 = nI S.2.1 := hg.2.1
    rw [pk, e53]
    refine ⟨fun c => other (fun q => absurd c (Int32.not_lt.mpr (lti.mpr q).1)), fun c => ⟨fun c2 => other (fun q => absurd c2 (Int32.not_lt.mpr (lti.mpr q).2)), fun c2 => ?_⟩⟩
    have c1 : sl_lt t n (sl_k t n S.1) := lti.mp ⟨Int32.not_lt.mp c, Int32.not_lt.mp c2⟩
    have er : am_rd t n (sl_k t n S.1) = nI (t (sl_k t n S.1)) := if_pos c1.1
    rw [er, show nI (t (sl_k t n S.1)) - 97 = nI (t (sl_k t n S.1) - 97) from am_sub_n (c := 97) c1.2.1]
    have ee : sl_el row last t n S = sl_1 (sl_x t n S.1) S.1 (sl_k t n S.1 + 1) (t (sl_k t n S.1) - 97) S := by
      unfold sl_el; rw [if_pos c1]
    rw [ee] at z
    have Hn := sl_H_nx hg c1.1
    have fn : sl_fr h (am_sI g 3 2 (g.1 3 2 + 1)) := sl_fr_3 fg
    have m64 : S.2.1 ≤ 64 := ok.2.1
    refine ⟨4, by omega, iX8_add (S := (sl_k t n S.1 + 1, S.2)) (by omega) Hn m64 (by omega) (fun lt h2 H2 f2 => ?_) (fun eq h2 f2 e33 => ?_)⟩
    · have lt' : S.2.1 < 64 := lt
      refine ⟨4, by omega, iX8_repeat (S := (sl_k t n S.1 + 1, S.2.1 + 1, am_un S.2.2 S.2.1 (t (sl_k t n S.1) - 97))) (by omega) H2 (Nat.le_succ _) (by show S.2.1 + 1 ≤ 64; omega) xx.1 xx.2 (by omega) (fun h4 oc4 => z h4 ⟨sl_fr_tr (sl_fr_tr fn f2) oc4.1, ?_⟩)⟩
      unfold sl_1
      by_cases cc : 64 < S.2.1 + sl_x t n S.1
      · rw [if_pos cc]
        have oo := oc4.2
        unfold sl_rp at oo
        rw [if_pos (by show 64 < S.2.1 + (S.2.1 + 1 - S.2.1) * sl_x t n S.1; rw [show S.2.1 + 1 - S.2.1 = 1 by omega]; omega)] at oo
        rcases oo with w | w
        · exact absurd w.1 (am_ft_n (x := 6) (k := S.1) (by omega) (by omega) (by omega)).2
        · exact Or.inr w
      · rw [if_neg cc]; exact oc4.2
    · have eq' : S.2.1 = 64 := eq
      have nz := (am_ft_n (x := 6) (k := S.1) (by omega) (by omega) (by omega)).2
      have es : sl_1 (sl_x t n S.1) S.1 (sl_k t n S.1 + 1) (t (sl_k t n S.1) - 97) S = (am_ft 6 S.1, S) := by unfold sl_1; rw [if_pos (by omega)]
      refine ⟨4, by omega, iX8_rep0 (by omega) (by rw [e33]; exact nz) (z h2 ⟨sl_fr_tr fn f2, Or.inr (by rw [es]; exact ⟨nz, e33⟩)⟩)⟩
  have pk0 : am_pk h = am_rd t n S.1 := am_ss_pk hH.1
  refine Sp_of mf_X8_readOne rfl (Nat.le_of_ble_eq_true rfl) rfl (sX8_readOne_0 (by omega) ?_)
  rw [pk0, dgi, hH.1.2.1]
  have nodg : ¬ sl_dg t n S.1 → sl_x t n S.1 = 1 ∧ sl_k t n S.1 = S.1 := fun c => ⟨if_neg c, if_neg c⟩
  have go1 : ¬ sl_dg t n S.1 → ∀ u4 u5, Ru mX8_readOne none d 53 [.ref 5, .int (nI r), .int (nI S.1), .int 1, u4, u5] [] h Z := fun c u4 u5 => by
    have e := nodg c
    have w := rest h (by rw [e.2]; exact hH) (sl_fr_rf h) u4 u5
    rw [e.1] at w; exact w
  refine ⟨fun c => go1 (fun q => c ⟨q.1, by omega, by omega⟩) _ _, fun c => ⟨fun c2 => go1 (fun q => ?_) _ _, fun c2 => ?_⟩⟩
  · have er : am_rd t n S.1 = nI (t S.1) := if_pos q.1
    rw [er] at c2
    have := (nI_ltI (b := 50) (by have := tb S.1; omega) (by omega)).mp c2
    omega
  · have er : am_rd t n S.1 = nI (t S.1) := if_pos c.1
    have dg : sl_dg t n S.1 := by
      refine ⟨c.1, ?_, c.2.2⟩
      rw [er] at c2
      rcases Nat.lt_or_ge (t S.1) 50 with q | q
      · exact absurd (nI_lt (b := 50) q (by omega)) c2
      · exact q
    have ex : sl_x t n S.1 = t S.1 - 48 := if_pos dg
    have ek : sl_k t n S.1 = S.1 + 1 := if_pos dg
    rw [er, show nI (t S.1) - 48 = nI (t S.1 - 48) from am_sub_n (c := 48) c.2.1, ← ex]
    have Hn := sl_H_nx hH c.1
    rw [hH.1.2.1] at Hn
    exact rest _ (by rw [ek]; exact Hn) (sl_fr_3 (sl_fr_rf h)) _ _
/-- the contract of an element -/
def sl_CE (t : Nat → Nat) (n r d : Nat) (el : sl_S → sl_O) : Prop := ∀ (h : am_H) (S : sl_S) (Z : Int32 → am_H → Prop), sl_H t n h S → sl_ok n S → (∀ h', sl_oc t n h h' (el S) → Z 0 h') → Sp mX8_readOne d [.ref 5, .int (nI r)] h Z
theorem x_lp {r : Nat} {el : sl_S → sl_O} {cl : Int32} {o : sl_O} (hd : 8 ≤ d) (hn : n ≤ 80) (hp : sl_pg n el) (ce : sl_CE t n r (d - 1) el) (z : ∀ h', sl_oc t n h h' o → Z 0 h') : ∀ (f j : Nat) (S : sl_S) (h1 : am_H), j + f = 80 → sl_H t n h1 S → sl_ok n S → sl_fr h h1 → n + 1 ≤ S.1 + f → sl_lf el cl t n (n + 1 - S.1) S = o → Ru mX8_readRow none d 18 [.ref 5, .int (nI r), .int cl, .int (nI j)] [] h1 Z
  | 0, j, S, h1, hj, hH, ok, hf, hfu, e => by have := ok.1; omega
  | f + 1, j, S, h1, hj, hH, ok, hf, hfu, e => by
    have ok1 := ok.1
    rw [show n + 1 - S.1 = (n - S.1) + 1 by omega, sl_lf_s] at e
    refine sX8_readRow_18 (by omega) ⟨fun c => absurd c (nI_ge (b := 80) (by omega) (by omega)), fun _ => ⟨fun c => absurd hH.1.2.2.1 c, fun _ => ?_⟩⟩
    rw [am_ss_pk hH.1, nI_1]
    refine ⟨fun c => ?_, fun c => ?_⟩
    · rw [if_pos c] at e
      exact z h1 ⟨hf, Or.inl (by rw [← e]; exact ⟨rfl, hH⟩)⟩
    · rw [if_neg c] at e
      refine ⟨d - 1, by omega, ce h1 S _ hH ok (fun h2 oc => ?_)⟩
      have p := hp S ok
      generalize el S = o2 at oc p e
      rcases oc.2 with ⟨o0, H2⟩ | ⟨o1, e33⟩
      · have p1 := p.1 o0
        rw [sl_b_0 o0] at e
        refine x_lp hd hn hp ce z f (j + 1) o2.2 h2 (by omega) H2 p1.1 (sl_fr_tr hf oc.1) (by omega) ?_
        rw [← e]
        exact sl_lf_f hp _ _ _ p1.1 (by have := p1.1.1; omega) (by omega)
      · rw [sl_b_f o1] at e
        have nz : ¬ h2.1 3 3 = 0 := by rw [e33]; exact o1
        have w := z h2 ⟨sl_fr_tr hf oc.1, Or.inr (by rw [← e]; exact ⟨o1, e33⟩)⟩
        exact sX8_readRow_18 (by omega) ⟨fun _ => w, fun _ => ⟨fun _ => w, fun c => absurd nz c⟩⟩
theorem x_row {r : Nat} {el : sl_S → sl_O} {cl : Int32} (hd : 8 ≤ d) (hn : n ≤ 80) (hr : r ≤ 2) (hcl : cl = if r = 0 then -1 else 41) (hp : sl_pg n el) (ce : sl_CE t n r (d - 1) el) : sl_CR t n r d (sl_rw el cl t n) := fun h S Z hH ok z => by
  have go : am_cl mX8_readOne d [.ref 5, .int (nI r)] h (fun r1 h2 => Ru mX8_readRow none d 18 [.ref 5, .int (nI r), .int cl, .int 0] [] h2 Z) := by
    refine ⟨d - 1, by omega, ce h S _ hH ok (fun h2 oc => ?_)⟩
    have p := hp S ok
    unfold sl_rw at z
    generalize el S = o2 at oc p z
    rcases oc.2 with ⟨o0, H2⟩ | ⟨o1, e33⟩
    · have p1 := p.1 o0
      rw [sl_b_0 o0] at z
      exact x_lp (h := h) (o := sl_lf el cl t n (n + 1 - o2.2.1) o2.2) hd hn hp ce z 80 0 o2.2 h2 (by omega) H2 p1.1 oc.1 (by omega) rfl
    · rw [sl_b_f o1] at z
      have nz : ¬ h2.1 3 3 = 0 := by rw [e33]; exact o1
      have w := z h2 ⟨oc.1, Or.inr ⟨o1, e33⟩⟩
      exact sX8_readRow_18 (by omega) ⟨fun _ => w, fun _ => ⟨fun _ => w, fun c => absurd nz c⟩⟩
  refine Sp_of mf_X8_readRow rfl (Nat.le_of_ble_eq_true rfl) rfl (sX8_readRow_0 ?_)
  rw [show nI r = 0 ↔ r = 0 from nI_eq (b := 0) (by omega) (by omega)]
  refine ⟨fun c => ?_, fun c => ?_⟩
  · rw [if_neg c] at hcl; rw [hcl] at go; exact go
  · rw [if_pos c] at hcl; rw [hcl] at go; exact go
theorem sl_r41 {el : sl_S → sl_O} (hn : n ≤ 80) (tb : ∀ i, t i < 256) (hp : sl_pg n el) (hg : ∀ S, sl_ok n S → (el S).1 = 0 → S.2.1 ≤ (el S).2.2.1) (S : sl_S) (ok : sl_ok n S) (h0 : (sl_rw el 41 t n S).1 = 0) : sl_ok n (sl_rw el 41 t n S).2 ∧ am_rd t n (sl_rw el 41 t n S).2.1 = 41 ∧ S.2.1 ≤ (sl_rw el 41 t n S).2.2.1 := by
  have w := (sl_rw_p tb hp hg S ok).1 h0
  refine ⟨w.1, ?_, w.2.2.2⟩
  unfold sl_rw at h0 ⊢
  have p := hp S ok
  generalize el S = o at p h0
  by_cases c2 : o.1 = 0
  · rw [sl_b_0 c2] at h0 ⊢
    have p1 := p.1 c2
    exact ((sl_lf_p (t := t) (cl := 41) hp hg (n + 1 - o.2.1) o.2 p1.1 (by have := p1.1.1; omega)).1 h0).2.2.1
  · rw [sl_b_f c2] at h0; exact absurd h0 c2
theorem iX8_readRow0 (hd : 14 ≤ d) (hn : n ≤ 80) (tb : ∀ i, t i < 256) : sl_CR t n 0 d (sl_r0 t n) := by
  have p2 := sl_p2 (t := t) (n := n) (by omega)
  have p1 := sl_p1 (t := t) (n := n) (by omega) tb
  have p0 := sl_p0 (t := t) (n := n) (by omega) tb
  have g2 := sl_g2 (t := t) (n := n)
  have g1 := sl_g1 (t := t) (n := n) (by omega) tb
  have E2 : sl_CE t n 2 (d - 5) (sl_e2 t n) := fun h S Z hH ok z => x_one (r := 2) (by omega) (by omega) (by omega) ⟨fun _ => rfl, fun _ => rfl⟩ (fun q => by omega) (fun q => by cases q) hH ok z
  have R2 : sl_CR t n 2 (d - 4) (sl_rw (sl_e2 t n) 41 t n) := x_row (by omega) hn (by omega) rfl p2 E2
  have E1 : sl_CE t n 1 (d - 3) (sl_e1 t n) := fun h S Z hH ok z => x_one (r := 1) (by omega) (by omega) (by omega) ⟨fun q => (by cases q), fun q => (by omega)⟩ (fun _ => R2) (fun _ S ok h0 => sl_r41 hn tb p2 g2 S ok h0) hH ok z
  have R1 : sl_CR t n 1 (d - 2) (sl_rw (sl_e1 t n) 41 t n) := x_row (by omega) hn (by omega) rfl p1 E1
  have E0 : sl_CE t n 0 (d - 1) (sl_e0 t n) := fun h S Z hH ok z => x_one (r := 0) (by omega) (by omega) (by omega) ⟨fun q => (by cases q), fun q => (by omega)⟩ (fun _ => R1) (fun _ S ok h0 => sl_r41 hn tb p1 g1 S ok h0) hH ok z
  exact x_row (by omega) hn (by omega) rfl p0 E0
end
