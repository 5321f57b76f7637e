-- cabinet: both
def cb_g (B : am_AB) : Prop := q_ok B ∧ ∀ p, p < q_n B → q_rd B p = 0 ∧ q_ag B p = 0
def cb_tl (t : Nat → Nat) (n m ln : Nat) (B : am_AB) (o : Int32 × Nat × am_AB) : Int32 × am_AB := if ¬ o.1 = 0 then (o.1, B) else if n ≤ o.2.1 then (nI (ln + 1), o.2.2) else if t o.2.1 = 59 then cb_tx t n m (ln + 1) (o.2.1 + 1) o.2.2 else (am_ft 1 o.2.1, B)
theorem cb_tl_e (t : Nat → Nat) (n m ln k : Nat) (B : am_AB) : cb_tx t n (m + 1) ln k B = cb_tl t n m ln B (cb_ln t n ln k B) := rfl
section
variable {t : Nat → Nat} {n ln k : Nat} {B : am_AB}
theorem cb_rm_g (hk : 97 ≤ t k ∧ t k ≤ 108) (h0 : q_r B (t k - 97) = 0) (g : cb_g B) : cb_g (cb_rm t n k B).2.2 := by
  have go : ∀ v, 1 ≤ v → v ≤ 99 → cb_g (q_tl B (t k - 97) v) := fun v h1 h2 => ⟨q_ok_tl g.1 (by omega) h0 h2 h1, g.2⟩
  unfold cb_rm
  by_cases c1 : cb_dg t n (k + 1)
  · rw [if_neg (fun q => q c1)]
    by_cases c2 : cb_dg t n (k + 2)
    · rw [if_pos c2]
      by_cases c3 : cb_dg t n (k + 3)
      · rw [if_pos c3]; exact g
      · rw [if_neg c3]
        by_cases c4 : 10 * (t (k + 1) - 48) + (t (k + 2) - 48) = 0
        · rw [if_pos c4]; exact g
        · rw [if_neg c4]; exact go _ (by omega) (by have := c1.2; have := c2.2; omega)
    · rw [if_neg c2]
      by_cases c4 : t (k + 1) - 48 = 0
      · rw [if_pos c4]; exact g
      · rw [if_neg c4]; exact go _ (by omega) (by have := c1.2; omega)
  · rw [if_pos c1]; exact g
theorem cb_pp_g (hk : 65 ≤ t k ∧ t k ≤ 80) (hn : q_n B < 24) (g : cb_g B) : cb_g (cb_pp t n k B).2.2 := by
  have ga : 49 ≤ t (k + 1) ∧ t (k + 1) ≤ 57 → cb_g (q_ap B (t k - 65) (t (k + 1) - 48)) := fun h1 => ⟨q_ok_ap g.1 hn (by omega) (by omega) (by omega), fun p hp => by
    have hp' : p < q_n B + 1 := hp
    show am_un _ _ _ p = 0 ∧ am_un _ _ _ p = 0
    unfold am_un
    by_cases c : p = B.1.1
    · rw [if_pos c, if_pos c]; exact ⟨rfl, rfl⟩
    · rw [if_neg c, if_neg c]; exact g.2 p (by have : ¬ p = q_n B := c; omega)⟩
  unfold cb_pp
  by_cases c1 : k + 1 < n ∧ 49 ≤ t (k + 1) ∧ t (k + 1) ≤ 57
  · rw [if_neg (fun q => q c1)]
    have ga' := ga c1.2
    by_cases c2 : k + 2 < n ∧ t (k + 2) = 62
    · rw [if_pos c2]
      by_cases c3 : cb_dl t n (k + 3)
      · rw [if_neg (fun q => q c3)]
        by_cases c4 : 0 < q_r B (t (k + 3) - 97)
        · rw [if_neg (fun q => q c4)]
          by_cases c5 : (t (k + 1) - 48) + q_F B (t (k + 3) - 97) ≤ q_r B (t (k + 3) - 97)
          · rw [if_neg (fun q => q c5)]
            have hd : t (k + 3) - 97 < 12 := by have := c3.2; omega
            have esz : q_si (q_ap B (t k - 65) (t (k + 1) - 48)) (q_n B) = t (k + 1) - 48 := am_un_s _ _ _
            refine ⟨q_ok_mv ga'.1 (Nat.lt_succ_self _) hd c4 (by rw [esz, q_F_ap B _ _ hd]; exact c5), fun p hp => ?_⟩
            have := ga'.2 p hp
            refine ⟨this.1, ?_⟩
            show am_un _ _ _ p = 0
            unfold am_un
            split
            · rfl
            · exact this.2
          · rw [if_pos c5]; exact g
        · rw [if_pos c4]; exact g
      · rw [if_pos c3]; exact g
    · rw [if_neg c2]; exact ga'
  · rw [if_pos c1]; exact g
theorem cb_ln_g (g : cb_g B) : cb_g (cb_ln t n ln k B).2.2 := by
  unfold cb_ln
  by_cases c1 : cb_dl t n k
  · rw [if_pos c1]
    by_cases c2 : 36 ≤ ln
    · rw [if_pos c2]; exact g
    · rw [if_neg c2]
      by_cases c3 : 0 < q_r B (t k - 97)
      · rw [if_pos c3]; exact g
      · rw [if_neg c3]; exact cb_rm_g c1.2 (by omega) g
  · rw [if_neg c1]
    by_cases c2 : k < n ∧ 65 ≤ t k ∧ t k ≤ 80
    · rw [if_pos c2]
      by_cases c3 : 36 ≤ ln ∨ 24 ≤ q_n B
      · rw [if_pos c3]; exact g
      · rw [if_neg c3]; exact cb_pp_g c2.2 (by omega) g
    · rw [if_neg c2]; exact g
end
section
variable {d n : Nat} {h : am_H} {Z : Int32 → am_H → Prop} {t : Nat → Nat} {u1 u3 : Value}
theorem iX11_takes (hd : 3 ≤ d) {k x : Nat} (hx : x < 256) (hS : am_ms t n k h) (z1 : k < n → t k = x → Z 1 (am_sI h 73 10 (h.1 73 10 + 1))) (z0 : ¬ (k < n ∧ t k = x) → Z 0 (am_sI h 73 12 (am_ft 1 k))) : Sp mX11_takes d [.ref 73, .int (nI x)] h Z := by
  have tb := hS.2.2.2.2.1
  refine Sp_of mf_X11_takes rfl (Nat.le_of_ble_eq_true rfl) rfl (sX11_takes_0 (by omega) ?_)
  rw [am_ms_hr hS, show (am_rd t n k = nI x) = (k < n ∧ t k = x) from propext (am_rd_eq hx tb), hS.2.1]
  refine ⟨am_ms_ok hS, fun c h2 e2 => ?_, fun c => ⟨Or.inl rfl, z0 c⟩⟩
  subst e2
  have := z1 c.1 c.2
  rw [hS.2.1] at this; exact this
theorem m_c46 {r : Int32 × am_AB} (hd : 8 ≤ d) (hn : n ≤ 250) (tb : ∀ i, t i < 256) (zf : ∀ h', cm_fr h h' → r.1 < 0 → h'.1 73 12 = r.1 → Ru mX11_cabinet none d 86 [.ref 73, u1, .int 0, u3] [] h' Z) (zg : ∀ h', cm_fr h h' → 0 < r.1 → cm_I h' r.2 → h'.1 73 39 = r.1 → cb_g r.2 → Ru mX11_cabinet none d 86 [.ref 73, u1, .int 1, u3] [] h' Z) (e11 : h.1 73 11 = nI n) : ∀ (m ln : Nat) (B : am_AB) (o : Int32 × Nat × am_AB) (h1 : am_H), ln + m = 36 → cm_oc t n ln h h1 o → (o.1 = 0 ∨ o.1 < 0) → cb_g o.2.2 → (ln = 36 → ¬ o.1 = 0) → cb_tl t n m ln B o = r → Ru mX11_cabinet none d 46 [.ref 73, u1, .int (cm_r o), u3] [] h1 Z
  | m, ln, B, o, h1, hm, oc, neg, g, l36, e => by
    obtain ⟨f1, oc⟩ := oc
    unfold cb_tl at e
    rcases oc with ⟨o0, S1, I1, l1⟩ | ⟨o1, e12⟩
    · have cr : cm_r o = 1 := if_pos o0
      rw [if_neg (fun q => q o0)] at e
      rw [cr]
      have hk := S1.2.2.1
      refine sX11_cabinet_46 ⟨fun q => absurd q (by decide), fun _ => ?_⟩
      rw [S1.1, S1.2.1, nI_leI (by omega) (by omega)]
      refine ⟨fun c => ?_, fun c => ?_⟩
      · rw [if_pos c] at e
        have er1 : r.1 = nI (ln + 1) := by rw [← e]
        have er2 : r.2 = o.2.2 := by rw [← e]
        exact zg h1 f1 (by rw [er1]; exact nI_lt (a := 0) (by omega) (by omega)) (by rw [er2]; exact I1) (by rw [er1]; exact l1) (by rw [er2]; exact g)
      · rw [if_neg c] at e
        cases m with
        | zero => exact absurd o0 (l36 (by omega))
        | succ m =>
          refine ⟨7, by omega, iX11_takes (x := 59) (by omega) (by omega) S1 (fun c1 c2 => ⟨fun q => absurd q (by decide), fun _ => ?_⟩) (fun c1 => ⟨fun _ => ?_, fun q => absurd rfl q⟩)⟩
          · rw [if_pos c2, cb_tl_e] at e
            have S2 := am_ms_nx S1 c1
            have I2 : cm_I (am_sI h1 73 10 (h1.1 73 10 + 1)) o.2.2 := cm_I_sI I1 (by decide) (by decide)
            have f2 : cm_fr h (am_sI h1 73 10 (h1.1 73 10 + 1)) := cm_fr_sI f1 (by omega)
            refine ⟨7, by omega, iX11_readsLine (ln := ln + 1) (by omega) (by omega) S2 I2 g.1 (by rw [am_gI, if_neg (by decide)]; exact l1) (fun h3 oc3 => ?_)⟩
            have nx := m_c46 hd hn tb zf zg e11 m (ln + 1) o.2.2 (cb_ln t n (ln + 1) (o.2.1 + 1) o.2.2) h3 (by omega) ⟨cm_fr_tr f2 oc3.1, oc3.2⟩ (cb_ln_n (by omega) _) (cb_ln_g g) (fun q => by rw [q]; exact (cb_ln_36 (by omega) _).1) e
            by_cases c0 : (cb_ln t n (ln + 1) (o.2.1 + 1) o.2.2).1 = 0
            · have c1' : cm_r (cb_ln t n (ln + 1) (o.2.1 + 1) o.2.2) = 1 := if_pos c0
              rw [c1'] at nx ⊢
              exact ⟨fun q => absurd q (by decide), fun _ => nx⟩
            · have c1' : cm_r (cb_ln t n (ln + 1) (o.2.1 + 1) o.2.2) = 0 := if_neg c0
              rw [c1'] at nx ⊢
              exact ⟨fun _ => nx, fun q => absurd rfl q⟩
          · rw [if_neg (fun q => c1 ⟨by omega, q⟩)] at e
            have er : r.1 = am_ft 1 o.2.1 := by rw [← e]
            refine sX11_cabinet_46 ⟨fun _ => zf _ (cm_fr_sI f1 (by omega)) (by rw [er]; exact (am_ft_n (by omega) (by omega) (by omega)).1) (by rw [am_gI, if_pos ⟨rfl, rfl⟩, er]), fun q => absurd rfl q⟩
    · have cr : cm_r o = 0 := if_neg o1
      rw [if_pos o1] at e
      have er : r.1 = o.1 := by rw [← e]
      rw [cr]
      refine sX11_cabinet_46 ⟨fun _ => zf h1 f1 ?_ (by rw [er]; exact e12), fun q => absurd rfl q⟩
      rw [er]; rcases neg with q | q
      · exact absurd q o1
      · exact q
/-- what is changed behind the reading -/
def cm_f4 (h h' : am_H) : Prop := (∀ a, a ≠ 74 → a ≠ 77 → a ≠ 78 → a ≠ 79 → h'.2.2 a = h.2.2 a) ∧ h'.1 = h.1 ∧ h'.2.1 = h.2.1
theorem cm_f4_sR {h1 : am_H} {a : Nat} {f : Nat → Int32} (p : cm_f4 h h1) (ha : a = 74 ∨ a = 77 ∨ a = 78 ∨ a = 79) : cm_f4 h (am_sR h1 a f) := ⟨fun a' n1 n2 n3 n4 => by rw [am_gR, if_neg (by omega)]; exact p.1 a' n1 n2 n3 n4, p.2.1, p.2.2⟩
theorem m_c144 {B : am_AB} {u2 : Value} {D X : Int32} (hd : 2 ≤ d) (hn : q_n B ≤ 24) (e7 : h.1 73 7 = nI (q_n B)) (hA : ∀ p, p < q_n B → h.2.2 96 p = nI (q_su B p) ∧ h.2.2 97 p = nI (q_si B p) ∧ h.2.2 98 p = q_w1 (q_w B p)) (z : ∀ h', cm_f4 h h' → h'.2.2 77 = h.2.2 77 → h'.2.2 74 72 = D → h'.2.2 74 73 = X → (∀ p, p < q_n B → h'.2.2 78 p = nI (q_su B p) ∧ h'.2.2 79 p = nI (q_si B p) ∧ h'.2.2 74 p = q_w1 (q_w B p) ∧ h'.2.2 74 (24 + p) = 0 ∧ h'.2.2 74 (48 + p) = 0) → Z (h'.1 73 39) h') : ∀ (m j : Nat) (h1 : am_H), j + m = q_n B → cm_f4 h h1 → h1.2.2 77 = h.2.2 77 → h1.2.2 74 72 = D → h1.2.2 74 73 = X → (∀ p, p < j → h1.2.2 78 p = nI (q_su B p) ∧ h1.2.2 79 p = nI (q_si B p) ∧ h1.2.2 74 p = q_w1 (q_w B p) ∧ h1.2.2 74 (24 + p) = 0 ∧ h1.2.2 74 (48 + p) = 0) → Ru mX11_cabinet none d 144 [.ref 73, u1, u2, .int (nI j)] [] h1 Z
  | 0, j, h1, hj, f1, e77, eD, eX, hp => by
    have ej : j = q_n B := by omega
    subst ej
    refine sX11_cabinet_144 ⟨fun _ => z h1 f1 e77 eD eX hp, fun c => absurd ?_ c⟩
    rw [f1.2.1, e7]; exact Int32.le_refl _
  | m + 1, j, h1, hj, f1, e77, eD, eX, hp => by
    have e24 : (24 : Int32) + nI j = nI (24 + j) := nI_add 24 j
    have e48 : (48 : Int32) + nI j = nI (48 + j) := nI_add 48 j
    refine sX11_cabinet_144 ⟨fun c => absurd c (by rw [f1.2.1, e7]; exact nI_ge (by omega) (by omega)), fun _ => ⟨vp_in_nI (by omega) (by omega), fun h2 e2 h3 e3 => ⟨1, by omega, Sp_of mf_X11_takesOut rfl (Nat.le_of_ble_eq_true rfl) rfl (sX11_takesOut_0 ?_)⟩⟩⟩
    rw [e24, e48]
    refine ⟨vp_in_nI (by omega) (by omega), fun h4 e4 => ⟨vp_in_nI (by omega) (by omega), fun h5 e5 => ⟨vp_in_nI (by omega) (by omega), fun h6 e6 => ⟨vp_in_nI (by omega) (by omega), fun h7 e7' => ?_⟩⟩⟩⟩
    rw [nI_clamp (by omega)] at e2 e3 e4 e5 e6 e7'
    rw [nI_1]
    have A := hA j (by omega)
    have g96 : h1.2.2 96 j = nI (q_su B j) := by rw [f1.1 96 (by decide) (by decide) (by decide) (by decide)]; exact A.1
    have f7 : cm_f4 h h7 := by
      rw [e7', e6, e5, e4, e3, e2]
      exact cm_f4_sR (cm_f4_sR (cm_f4_sR (cm_f4_sR (cm_f4_sR (cm_f4_sR f1 (by omega)) (by omega)) (by omega)) (by omega)) (by omega)) (by omega)
    have g97 : h2.2.2 97 j = nI (q_si B j) := by rw [e2, am_gR, if_neg (by decide), f1.1 97 (by decide) (by decide) (by decide) (by decide)]; exact A.2.1
    have g98 : h6.2.2 98 j = q_w1 (q_w B j) := by rw [e6, am_gR, if_neg (by decide), e5, am_gR, if_neg (by decide), e4, am_gR, if_neg (by decide), e3, am_gR, if_neg (by decide), e2, am_gR, if_neg (by decide), f1.1 98 (by decide) (by decide) (by decide) (by decide)]; exact A.2.2
    have k78 : h7.2.2 78 = upd (h1.2.2 78) j (nI (q_su B j)) := by rw [e7', am_gR, if_neg (by decide), e6, am_gR, if_neg (by decide), e5, am_gR, if_neg (by decide), e4, am_gR, if_neg (by decide), e3, am_gR, if_neg (by decide), e2, am_gRs, g96]
    have k79 : h7.2.2 79 = upd (h1.2.2 79) j (nI (q_si B j)) := by rw [e7', am_gR, if_neg (by decide), e6, am_gR, if_neg (by decide), e5, am_gR, if_neg (by decide), e4, am_gR, if_neg (by decide), e3, am_gRs, g97, e2, am_gR, if_neg (by decide)]
    have k74 : h7.2.2 74 = upd (upd (upd (upd (h1.2.2 74) j (-1)) (24 + j) 0) (48 + j) 0) j (q_w1 (q_w B j)) := by rw [e7', am_gRs, g98, e6, am_gRs, e5, am_gRs, e4, am_gRs, e3, am_gR, if_neg (by decide), e2, am_gR, if_neg (by decide)]
    have k77 : h7.2.2 77 = h.2.2 77 := by rw [e7', am_gR, if_neg (by decide), e6, am_gR, if_neg (by decide), e5, am_gR, if_neg (by decide), e4, am_gR, if_neg (by decide), e3, am_gR, if_neg (by decide), e2, am_gR, if_neg (by decide)]; exact e77
    refine m_c144 hd hn e7 hA z m (j + 1) h7 (by omega) f7 k77 ?_ ?_ (fun p hp1 => ?_)
    · rw [k74]; simp only [upd, show ¬ 72 = j by omega, show ¬ 72 = 24 + j by omega, show ¬ 72 = 48 + j by omega, if_false]; exact eD
    · rw [k74]; simp only [upd, show ¬ 73 = j by omega, show ¬ 73 = 24 + j by omega, show ¬ 73 = 48 + j by omega, if_false]; exact eX
    · rw [k78, k79, k74]
      by_cases c : p = j
      · subst c
        refine ⟨?_, ?_, ?_, ?_, ?_⟩
        · unfold upd; rw [if_pos rfl]
        · unfold upd; rw [if_pos rfl]
        · unfold upd; rw [if_pos rfl]
        · simp only [upd, show ¬ 24 + p = p by omega, show ¬ 24 + p = 48 + p by omega, if_false, if_true]
        · simp only [upd, show ¬ 48 + p = p by omega, if_false, if_true]
      · have q := hp p (by omega)
        refine ⟨?_, ?_, ?_, ?_, ?_⟩
        · unfold upd; rw [if_neg c]; exact q.1
        · unfold upd; rw [if_neg c]; exact q.2.1
        · simp only [upd, c, show ¬ p = 24 + j by omega, show ¬ p = 48 + j by omega, if_false]; exact q.2.2.1
        · simp only [upd, show ¬ 24 + p = j by omega, show ¬ 24 + p = 24 + j by omega, show ¬ 24 + p = 48 + j by omega, if_false]; exact q.2.2.2.1
        · simp only [upd, show ¬ 48 + p = j by omega, show ¬ 48 + p = 24 + j by omega, show ¬ 48 + p = 48 + j by omega, if_false]; exact q.2.2.2.2
theorem m_c118 {u2 : Value} (z : ∀ f, (∀ i, i < 12 → f i = h.2.2 94 i) → Ru mX11_cabinet none d 144 [.ref 73, u1, u2, .int 0] [] (am_sR h 77 f) Z) : ∀ (m j : Nat) (f : Nat → Int32), j + m = 12 → (∀ i, i < j → f i = h.2.2 94 i) → Ru mX11_cabinet none d 118 [.ref 73, u1, u2, .int (nI j)] [] (am_sR h 77 f) Z
  | 0, j, f, hj, hf => by
    have ej : j = 12 := by omega
    subst ej
    exact sX11_cabinet_118 ⟨fun _ => z f hf, fun c => absurd (Int32.le_refl _) c⟩
  | m + 1, j, f, hj, hf => by
    refine sX11_cabinet_118 ⟨fun c => absurd c (nI_ge (b := 12) (by omega) (by omega)), fun _ => ⟨vp_in_nI (by omega) (by omega), fun h2 e2 => ?_⟩⟩
    rw [nI_clamp (by omega), am_gRs, am_sR_2, am_gR, if_neg (by decide)] at e2
    subst e2
    rw [nI_1]
    refine m_c118 z m (j + 1) _ (by omega) (fun i hi => ?_)
    unfold upd
    by_cases c : i = j
    · rw [if_pos c, c]
    · rw [if_neg c]; exact hf i (by omega)
end
/-- what cabinet may change -/
def cb_F (b : Nat) (h h' : am_H) : Prop := (∀ a, (a < b ∨ b + 8 < a) → ¬ (a = 74 ∨ a = 77 ∨ a = 78 ∨ a = 79) → ¬ (94 ≤ a ∧ a ≤ 98) → h'.2.2 a = h.2.2 a) ∧ (∀ a k, (a < b ∨ b + 8 < a) → a ≠ 3 → ¬ (a = 1 ∧ k = 1) → ¬ (a = 73 ∧ k ≠ 18 ∧ k ≠ 60 ∧ k ≠ 61) → h'.1 a k = h.1 a k) ∧ h'.1 1 1 = 0 ∧ h'.1 73 9 = 0
theorem pp_cabinet {d b c N D X : Nat} {h : am_H} {K : Int32 → Int32 → am_H → Prop} {B : am_AB} {x : Int32} (hd : 16 ≤ d) (eb : h.2.1 0 10 = b) (ec : h.2.1 0 11 = c) (hbc : (b = 38 ∧ c = 47) ∨ (b = 47 ∧ c = 38)) (hI : q_IC h b B) (hN : q_IN h 74 B) (hM : q_IM h B) (hB : q_ok B) (ht : am_tape h N) (h9 : h.1 c 9 = nI D) (h10 : h.1 c 10 = nI X) (hD : D ≤ 9999) (hX : X < 65536) (z0 : ∀ r, K r r h)
    (zf : ∀ r h', cb_F c h h' → h'.2.2 74 = h.2.2 74 → h'.2.2 77 = h.2.2 77 → h'.2.2 78 = h.2.2 78 → h'.2.2 79 = h.2.2 79 → h'.1 73 6 = h.1 73 6 → h'.1 73 7 = h.1 73 7 → h'.1 c 9 = h.1 c 9 → h'.1 c 10 = h.1 c 10 → h'.2.1 = h.2.1 → K r r h')
    (zg : ∀ r h' B', cb_F c h h' → q_IC h' c B' → q_IN h' 74 B' → q_IM h' B' → q_ok B' → h'.2.1 0 10 = c → h'.2.1 0 11 = b → (∀ j, j ≠ 10 → j ≠ 11 → h'.2.1 0 j = h.2.1 0 j) → K r r h') : am_cl mX10_cabinet d [.ref 0, .int x] h (fun r1 h1 => am_cl mX11_cabinet d [.ref 73, .int x] h1 (fun r2 h2 => K r1 r2 h2)) := by
  have hbb : am_bu b := by rcases hbc with ⟨rfl, _⟩ | ⟨rfl, _⟩ <;> simp [am_bu]
  have hcc : am_bu c := by rcases hbc with ⟨_, rfl⟩ | ⟨_, rfl⟩ <;> simp [am_bu]
  have cb2 : 38 ≤ c ∧ c ≤ 47 ∧ 38 ≤ b ∧ b ≤ 47 ∧ (b < c ∨ c + 8 < b) := by omega
  have hNN := ht.1
  have m0 : ∀ {h0 : am_H} {Z : Int32 → am_H → Prop}, _ → am_cl mX11_cabinet d [.ref 73, .int x] h0 Z := fun {h0 Z} w => ⟨14, by omega, Sp_of mf_X11_cabinet rfl (Nat.le_of_ble_eq_true rfl) rfl (sX11_cabinet_0 (by omega) w)⟩
  refine ⟨14, by omega, Sp_of mf_X10_cabinet rfl (Nat.le_of_ble_eq_true rfl) rfl (sX10_cabinet_0 (by omega) ⟨fun c1 => m0 ⟨fun _ => z0 _, fun q => absurd q c1⟩, fun c1 => ⟨fun c2 => ?_, fun c2 => m0 ⟨fun q => absurd c1 q, fun _ => ⟨fun q => absurd (by rw [ht.2.1, ← ht.2.2.1]; exact q) c2, fun _ => z0 _⟩⟩⟩⟩)⟩
  obtain ⟨n, hn, rfl⟩ := am_natle (N := 160) (by omega) (Int32.le_trans (by decide) c1.1) c1.2
  have hnN : n ≤ N := by rw [ht.2.1] at c2; exact (nI_leI (by omega) (by omega)).mp c2
  have n1 : 1 ≤ n := (nI_leI (a := 1) (by omega) (by omega)).mp c1.1
  rw [ec]
  have tb := am_bt_lt h
  generalize er : cb_tx (am_bt h) n 37 0 0 ((0, D, X), fun _ => 0, fun _ => 0, fun _ => 0, fun _ => 12, fun _ => 0, fun _ => 0) = r
  have g0 : cb_g ((0, D, X), fun _ => 0, fun _ => 0, fun _ => 0, fun _ => 12, fun _ => 0, fun _ => 0) := ⟨⟨Nat.zero_le _, hD, hX, fun i _ => ⟨Nat.zero_le _, Nat.le_refl _⟩, fun p hp => absurd hp (Nat.not_lt_zero p)⟩, fun p hp => absurd hp (Nat.not_lt_zero p)⟩
  -- the reference, from a heap whose tape and rows are as they were
  have ref : ∀ (h0 : am_H) (Z : Int32 → am_H → Prop), h0.1 73 = h.1 73 → h0.2.2 80 = h.2.2 80 → (∀ h', cm_fr (am_sI (am_sI (am_sI (am_sI (am_sI (am_sI (am_sI h0 73 10 0) 73 11 (nI n)) 73 15 0) 73 17 0) 73 37 0) 73 38 0) 73 39 0) h' → r.1 < 0 → h'.1 73 12 = r.1 → Z r.1 (am_sI h' 73 9 0)) → (∀ h', cm_fr (am_sI (am_sI (am_sI (am_sI (am_sI (am_sI (am_sI h0 73 10 0) 73 11 (nI n)) 73 15 0) 73 17 0) 73 37 0) 73 38 0) 73 39 0) h' → 0 < r.1 → cm_I h' r.2 → cb_g r.2 → ∀ h'', cm_f4 (am_sI (am_sI (am_sI h' 73 9 0) 73 6 (h'.1 73 37)) 73 7 (h'.1 73 38)) h'' → h''.2.2 74 72 = h'.2.2 74 72 → h''.2.2 74 73 = h'.2.2 74 73 → (∀ i, i < 12 → h''.2.2 77 i = h'.2.2 94 i) → (∀ p, p < q_n r.2 → h''.2.2 78 p = nI (q_su r.2 p) ∧ h''.2.2 79 p = nI (q_si r.2 p) ∧ h''.2.2 74 p = q_w1 (q_w r.2 p) ∧ h''.2.2 74 (24 + p) = 0 ∧ h''.2.2 74 (48 + p) = 0) → Z r.1 h'') → am_cl mX11_cabinet d [.ref 73, .int (nI n)] h0 Z := by
    intro h0 Z e73 e80 yf yg
    refine m0 ⟨fun q => absurd c1 q, fun _ => ⟨fun _ => ⟨13, by omega, Sp_of mf_X11_beginsText rfl (Nat.le_of_ble_eq_true rfl) rfl (sX11_beginsText_0 (fun h1 e1 h2 e2 h3 e3 h4 e4 h5 e5 h6 e6 h7 e7 => ?_))⟩, fun q => absurd (by rw [e73, ht.2.2.1, ← ht.2.1]; exact c2) q⟩⟩
    subst e1; subst e2; subst e3; subst e4; subst e5; subst e6; subst e7
    have S7 : am_ms (am_bt h) n 0 (am_sI (am_sI (am_sI (am_sI (am_sI (am_sI (am_sI h0 73 10 0) 73 11 (nI n)) 73 15 0) 73 17 0) 73 37 0) 73 38 0) 73 39 0) := by
      refine ⟨?_, ?_, Nat.zero_le _, by omega, tb, fun i hi => ?_⟩
      · simp only [am_gI, Nat.reduceEqDiff, and_false, and_true, reduceIte]
      · simp only [am_gI, Nat.reduceEqDiff, and_false, and_true, reduceIte]; rfl
      · show h0.2.2 80 i &&& 255 = _
        rw [e80]; exact am_bt_e h i
    have I7 : cm_I (am_sI (am_sI (am_sI (am_sI (am_sI (am_sI (am_sI h0 73 10 0) 73 11 (nI n)) 73 15 0) 73 17 0) 73 37 0) 73 38 0) 73 39 0) ((0, D, X), fun _ => 0, fun _ => 0, fun _ => 0, fun _ => 12, fun _ => 0, fun _ => 0) := by
      refine ⟨?_, ⟨0, by decide, ?_, fun i _ => ?_⟩, fun i _ q => absurd q (Nat.lt_irrefl 0), fun p hp => absurd hp (Nat.not_lt_zero p)⟩
      · simp only [am_gI, Nat.reduceEqDiff, and_false, and_true, reduceIte]; rfl
      · simp only [am_gI, Nat.reduceEqDiff, and_false, and_true, reduceIte]; rfl
      · rw [Nat.zero_testBit]; exact ⟨fun q => (by cases q), fun q => absurd q (Nat.lt_irrefl 0)⟩
    have l7 : (am_sI (am_sI (am_sI (am_sI (am_sI (am_sI (am_sI h0 73 10 0) 73 11 (nI n)) 73 15 0) 73 17 0) 73 37 0) 73 38 0) 73 39 0).1 73 39 = nI 0 := by
      rw [am_gI, if_pos ⟨rfl, rfl⟩]; rfl
    generalize am_sI (am_sI (am_sI (am_sI (am_sI (am_sI (am_sI h0 73 10 0) 73 11 (nI n)) 73 15 0) 73 17 0) 73 37 0) 73 38 0) 73 39 0 = g at S7 I7 l7 yf yg ⊢
    refine ⟨13, by omega, iX11_readsLine (ln := 0) (by omega) (by omega) S7 I7 g0.1 l7 (fun h3 oc => ?_)⟩
    refine m_c46 (d := 14) (n := n) (t := am_bt h) (h := g) (Z := Z) (r := r) (by omega) (by omega) tb (fun h' fq lt e12 => ?_) (fun h' fq gt I' l' g' => ?_) S7.1 36 0 ((0, D, X), fun _ => 0, fun _ => 0, fun _ => 0, fun _ => 12, fun _ => 0, fun _ => 0) (cb_ln (am_bt h) n 0 0 ((0, D, X), fun _ => 0, fun _ => 0, fun _ => 0, fun _ => 12, fun _ => 0, fun _ => 0)) h3 (by omega) oc (cb_ln_n (by omega) _) (cb_ln_g g0) (fun q => absurd q (by decide)) er
    · refine sX11_cabinet_86 (fun h1 e1 => ⟨fun q => absurd rfl q, fun _ => ?_⟩)
      subst e1
      have e : (am_sI h' 73 9 0).1 73 12 = r.1 := by rw [am_gI, if_neg (by decide)]; exact e12
      rw [e]; exact yf h' fq lt e12
    · refine sX11_cabinet_86 (fun h1 e1 => ⟨fun _ h2 e2 h3 e3 => ?_, fun q => absurd q (by decide)⟩)
      subst e1
      rw [am_gI, if_neg (by decide)] at e2
      rw [e2, am_gI, if_neg (by decide), am_gI, if_neg (by decide)] at e3
      have k39 : h3.1 73 39 = r.1 := by rw [e3]; simp only [am_gI, Nat.reduceEqDiff, and_false, and_true, reduceIte]; exact l'
      have k7 : h3.1 73 7 = nI (q_n r.2) := by rw [e3, am_gI, if_pos ⟨rfl, rfl⟩]; exact I'.1
      have A3 : h3.2.2 = h'.2.2 := by rw [e3]; rfl
      have w := m_c118 (d := 14) (h := h3) (u1 := .int (nI n)) (u2 := .int 1) (Z := Z) (fun f hf => ?_) 12 0 (h3.2.2 77) (by omega) (fun i hi => absurd hi (Nat.not_lt_zero i))
      · rw [am_sR_self] at w; exact w
      · refine m_c144 (h := am_sR h3 77 f) (B := r.2) (D := h'.2.2 74 72) (X := h'.2.2 74 73) (by omega) g'.1.1 k7 (fun p hp => ?_) (fun h4 f4 e77 eD eX hp => ?_) (q_n r.2) 0 _ (by omega) ⟨fun _ _ _ _ _ => rfl, rfl, rfl⟩ rfl (by rw [am_gR, if_neg (by decide), A3]) (by rw [am_gR, if_neg (by decide), A3]) (fun p hp => absurd hp (Nat.not_lt_zero p))
        · rw [am_gR, if_neg (by decide), am_gR, if_neg (by decide), am_gR, if_neg (by decide), A3]; exact I'.2.2.2 p hp
        · have k : h4.1 73 39 = r.1 := by rw [f4.2.1]; exact k39
          rw [k]
          have f5 : cm_f4 h3 h4 := ⟨fun a n1 n2 n3 n4 => by rw [f4.1 a n1 n2 n3 n4, am_gR, if_neg n2], f4.2.1, f4.2.2⟩
          rw [e3] at f5
          refine yg h' fq gt I' g' h4 f5 eD eX (fun i hi => ?_) hp
          rw [e77, am_gRs, hf i hi, A3]
  refine ⟨hcc, 13, by omega, iX1_read (N := N) (D := D) (X := X) (by omega) hcc ht hnN (by omega) h9 h10 hD hX r er.symm (fun h3 f3 lt => ?_) (fun h3 f3 gt I3 ok3 => ?_)⟩
  · refine ⟨fun _ => ?_, fun q => absurd (Int32.le_of_lt lt) q⟩
    refine ref (am_sI h3 1 1 0) _ ?_ ?_ (fun h' f' _ e12 => ?_) (fun _ _ gt => absurd lt (Int32.lt_asymm gt))
    · funext k; rw [am_gI, if_neg (by omega)]; exact f3.2.1 73 k (by omega) (by decide)
    · rw [am_gI2]; exact f3.1 80 (by omega)
    · have base : ∀ a k, ¬ (a = 73 ∧ (k = 10 ∨ k = 11 ∨ k = 15 ∨ k = 17 ∨ k = 37 ∨ k = 38 ∨ k = 39)) → (am_sI (am_sI (am_sI (am_sI (am_sI (am_sI (am_sI (am_sI h3 1 1 0) 73 10 0) 73 11 (nI n)) 73 15 0) 73 17 0) 73 37 0) 73 38 0) 73 39 0).1 a k = (am_sI h3 1 1 0).1 a k := fun a k q => by
        rw [am_gI, if_neg (fun e => q (by omega)), am_gI, if_neg (fun e => q (by omega)), am_gI, if_neg (fun e => q (by omega)), am_gI, if_neg (fun e => q (by omega)), am_gI, if_neg (fun e => q (by omega)), am_gI, if_neg (fun e => q (by omega)), am_gI, if_neg (fun e => q (by omega))]
      have ints : ∀ a k, ¬ (a = 73 ∧ (k = 9 ∨ k = 10 ∨ k = 11 ∨ k = 12 ∨ k = 13 ∨ k = 15 ∨ k = 17 ∨ k = 37 ∨ k = 38 ∨ k = 39)) → (am_sI h' 73 9 0).1 a k = (am_sI h3 1 1 0).1 a k := fun a k q => by
        rw [am_gI, if_neg (fun e => q (by omega)), f'.2.1 a k (fun e => q (by omega))]
        exact base a k (fun e => q (by omega))
      have arr : ∀ a, (a < c ∨ c + 8 < a) → ¬ (94 ≤ a ∧ a ≤ 98) → (am_sI h' 73 9 0).2.2 a = h.2.2 a := fun a ha q => by
        rw [am_gI2, f'.1 a q]
        exact f3.1 a ha
      refine zf _ _ ⟨fun a ha _ q => arr a ha q, fun a k ha n3 n1 n73 => ?_, ?_, ?_⟩ (arr 74 (by omega) (by omega)) (arr 77 (by omega) (by omega)) (arr 78 (by omega) (by omega)) (arr 79 (by omega) (by omega)) ?_ ?_ ?_ ?_ ?_
      · rw [ints a k (fun e => n73 (by omega)), am_gI, if_neg n1]; exact f3.2.1 a k ha n3
      · rw [ints 1 1 (by omega), am_gI, if_pos ⟨rfl, rfl⟩]
      · rw [am_gI, if_pos ⟨rfl, rfl⟩]
      · rw [ints 73 6 (by omega), am_gI, if_neg (by omega)]; exact f3.2.1 73 6 (by omega) (by decide)
      · rw [ints 73 7 (by omega), am_gI, if_neg (by omega)]; exact f3.2.1 73 7 (by omega) (by decide)
      · rw [ints c 9 (by omega), am_gI, if_neg (by omega)]; exact f3.2.2.1
      · rw [ints c 10 (by omega), am_gI, if_neg (by omega)]; exact f3.2.2.2.1
      · show h'.2.1 = _
        rw [f'.2.2]; exact f3.2.2.2.2
  · refine ⟨fun q => absurd gt (Int32.not_lt.mpr q), fun _ => ?_⟩
    have P3 : (am_sI h3 1 1 0).2.1 = h.2.1 := f3.2.2.2.2
    rw [P3, ec, eb]
    refine ⟨hcc, hbb, 13, by omega, iX0_takeTime hcc hbb ?_⟩
    have kb9 : (am_sI h3 1 1 0).1 b 9 = nI (q_d B) := by rw [am_gI, if_neg (by omega), f3.2.1 b 9 (by omega) (by omega)]; exact hI.2.1
    have kb10 : (am_sI h3 1 1 0).1 b 10 = nI (q_x B) := by rw [am_gI, if_neg (by omega), f3.2.1 b 10 (by omega) (by omega)]; exact hI.2.2.1
    rw [kb9, kb10]
    have P7 : (am_sI (am_sI (am_sI h3 1 1 0) c 9 (nI (q_d B))) c 10 (nI (q_x B))).2.1 = h.2.1 := P3
    rw [P7, ec, eb]
    refine ⟨hbb, hcc, fun h10' e10 h11 e11 => ?_⟩
    have A11 : h11.2.2 = h3.2.2 := by rw [e11, e10]; rfl
    have I11 : ∀ a k, h11.1 a k = (am_sI (am_sI (am_sI h3 1 1 0) c 9 (nI (q_d B))) c 10 (nI (q_x B))).1 a k := fun a k => by rw [e11, e10]; rfl
    have P11 : ∀ j, h11.2.1 0 j = if j = 11 then b else if j = 10 then c else h.2.1 0 j := fun j => by
      rw [e11, am_gP, e10, am_gP, P7]
      by_cases c1 : j = 11
      · rw [if_pos ⟨rfl, c1⟩, if_pos c1]
      · rw [if_neg (fun e => c1 e.2), if_neg c1]
        by_cases c2 : j = 10
        · rw [if_pos ⟨rfl, c2⟩, if_pos c2]
        · rw [if_neg (fun e => c2 e.2), if_neg c2]
    have Px : ∀ a, a ≠ 0 → h11.2.1 a = h.2.1 a := fun a ha => by
      funext j
      rw [e11, am_gP, if_neg (fun e => ha e.1), e10, am_gP, if_neg (fun e => ha e.1), P7]
    refine ref h11 _ ?_ ?_ (fun _ _ lt => absurd lt (Int32.lt_asymm gt)) (fun h' f' _ I' g' h4 f4 eD eX e77 hp => ?_)
    · funext k; rw [I11, am_gI, if_neg (by omega), am_gI, if_neg (by omega), am_gI, if_neg (by omega)]; exact f3.2.1 73 k (by omega) (by decide)
    · rw [A11]; exact f3.1 80 (by omega)
    · have base : ∀ a k, ¬ (a = 73 ∧ (k = 10 ∨ k = 11 ∨ k = 15 ∨ k = 17 ∨ k = 37 ∨ k = 38 ∨ k = 39)) → (am_sI (am_sI (am_sI (am_sI (am_sI (am_sI (am_sI h11 73 10 0) 73 11 (nI n)) 73 15 0) 73 17 0) 73 37 0) 73 38 0) 73 39 0).1 a k = h11.1 a k := fun a k q => by
        rw [am_gI, if_neg (fun e => q (by omega)), am_gI, if_neg (fun e => q (by omega)), am_gI, if_neg (fun e => q (by omega)), am_gI, if_neg (fun e => q (by omega)), am_gI, if_neg (fun e => q (by omega)), am_gI, if_neg (fun e => q (by omega)), am_gI, if_neg (fun e => q (by omega))]
      have ints : ∀ a k, ¬ (a = 73 ∧ (k = 6 ∨ k = 7 ∨ k = 9 ∨ k = 10 ∨ k = 11 ∨ k = 12 ∨ k = 13 ∨ k = 15 ∨ k = 17 ∨ k = 37 ∨ k = 38 ∨ k = 39)) → h4.1 a k = (am_sI (am_sI (am_sI h3 1 1 0) c 9 (nI (q_d B))) c 10 (nI (q_x B))).1 a k := fun a k q => by
        rw [f4.2.1, am_gI, if_neg (fun e => q (by omega)), am_gI, if_neg (fun e => q (by omega)), am_gI, if_neg (fun e => q (by omega)), f'.2.1 a k (fun e => q (by omega)), base a k (fun e => q (by omega))]
        exact I11 a k
      have arr : ∀ a, ¬ (a = 74 ∨ a = 77 ∨ a = 78 ∨ a = 79) → ¬ (94 ≤ a ∧ a ≤ 98) → h4.2.2 a = h3.2.2 a := fun a q1 q2 => by
        rw [f4.1 a (by omega) (by omega) (by omega) (by omega)]
        show h'.2.2 a = _
        rw [f'.1 a q2]
        show h11.2.2 a = _
        rw [A11]
      have ptr : h4.2.1 = h11.2.1 := by rw [f4.2.2]; exact f'.2.2
      have a74 : h'.2.2 74 = h.2.2 74 := by
        rw [f'.1 74 (by omega)]
        show h11.2.2 74 = _
        rw [A11]; exact f3.1 74 (by omega)
      have okF : q_ok (q_st r.2 B) := ⟨ok3.1, hB.2.1, hB.2.2.1, ok3.2.2.2⟩
      refine zg _ h4 (q_st r.2 B) ⟨fun a ha q1 q2 => ?_, fun a k ha n3 n1 n73 => ?_, ?_, ?_⟩ ⟨?_, ?_, ?_, fun i hi => ?_, fun p hp' => ?_⟩ ⟨?_, ?_, fun p hp' => ?_⟩ ⟨?_, ?_, fun i hi hr => ?_, fun p hp' => ?_⟩ okF (by rw [ptr, P11, if_neg (by decide), if_pos rfl]) (by rw [ptr, P11, if_pos rfl]) (fun j n1 n2 => by rw [ptr, P11, if_neg n2, if_neg n1])
      · rw [arr a q1 q2]; exact f3.1 a ha
      · rw [ints a k (fun e => n73 (by omega)), am_gI, if_neg (by omega), am_gI, if_neg (by omega), am_gI, if_neg n1]; exact f3.2.1 a k ha n3
      · rw [ints 1 1 (by omega), am_gI, if_neg (by omega), am_gI, if_neg (by omega), am_gI, if_pos ⟨rfl, rfl⟩]
      · rw [f4.2.1]; simp only [am_gI, Nat.reduceEqDiff, and_false, and_true, reduceIte]
      · rw [ints c 8 (by omega), am_gI, if_neg (by omega), am_gI, if_neg (by omega), am_gI, if_neg (by omega)]; exact I3.1
      · rw [ints c 9 (by omega), am_gI, if_neg (by omega), am_gI, if_pos ⟨rfl, rfl⟩]
      · rw [ints c 10 (by omega), am_gI, if_pos ⟨rfl, rfl⟩]
      · rw [arr (c + 1) (by omega) (by omega), arr (c + 2) (by omega) (by omega), arr (c + 3) (by omega) (by omega)]; exact I3.2.2.2.1 i hi
      · rw [arr (c + 4) (by omega) (by omega), arr (c + 5) (by omega) (by omega), arr (c + 6) (by omega) (by omega), arr (c + 7) (by omega) (by omega), arr (c + 8) (by omega) (by omega)]; exact I3.2.2.2.2 p hp'
      · rw [eD, a74]; exact hN.1
      · rw [eX, a74]; exact hN.2.1
      · have q := hp p hp'
        have gz := g'.2 p hp'
        refine ⟨q.2.2.1, ?_, ?_⟩
        · rw [q.2.2.2.1]
          show (0 : Int32) = nI (q_rd r.2 p)
          rw [gz.1]; rfl
        · rw [q.2.2.2.2]
          show (0 : Int32) = nI (q_ag r.2 p)
          rw [gz.2]; rfl
      · rw [f4.2.1, am_gI, if_pos ⟨rfl, rfl⟩]; exact I'.1
      · obtain ⟨S, s1, s2, s3⟩ := I'.2.1
        exact ⟨S, s1, by rw [f4.2.1, am_gI, if_neg (by omega), am_gI, if_pos ⟨rfl, rfl⟩]; exact s2, s3⟩
      · rw [e77 i hi]; exact (I'.2.2.1 i hi hr).1
      · have q := hp p hp'
        exact ⟨q.1, q.2.1⟩
