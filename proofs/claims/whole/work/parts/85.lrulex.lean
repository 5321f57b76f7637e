-- the law's text: a rule of the class, whole
abbrev lp_lt (t : Nat → Nat) (n k : Nat) : Prop := k < n ∧ (t k = 101 ∨ t k = 114 ∨ t k = 120)
/-- a rule's fault, or 0 -/
def lp_rf (t : Nat → Nat) (n q k : Nat) : Int32 := if ¬ lp_lt t n k then am_ft 1 k else if 16 ≤ q then am_ft 4 k else if ¬ (lp_v t n k).1 = 0 then (lp_v t n k).1 else (lp_q t n (lp_v t n k).2.1).1
def lc_ru (t : Nat → Nat) (n g q p k : Nat) (V X : List (Nat × Nat)) (h h' : am_H) : Prop := lc_f2 g h h' ∧ am_ss t n (lp_q t n (lp_v t n k).2.1).2.1 h' ∧ h'.1 g 7 = nI (q + 1) ∧ h'.1 g 8 = nI (p + lp_cz V + lp_cz X) ∧ (∀ j, j < p → h'.2.2 (g + 5) j = h.2.2 (g + 5) j) ∧ lp_enc (h'.2.2 (g + 5)) V p ∧ lp_enc (h'.2.2 (g + 5)) X (p + lp_cz V) ∧ h'.2.2 (g + 1) = upd (h.2.2 (g + 1)) q (nI (t k)) ∧ h'.2.2 (g + 2) = upd (h.2.2 (g + 2)) q (nI p) ∧ h'.2.2 (g + 3) = upd (h.2.2 (g + 3)) q (nI (p + lp_cz V)) ∧ h'.2.2 (g + 4) = upd (h.2.2 (g + 4)) q (nI (p + lp_cz V + lp_cz X))
section
variable {d n g : Nat} {h : am_H} {Z : Int32 → am_H → Prop} {t : Nat → Nat}
/-- from a value that was read -/
theorem x_rv (hd : 30 ≤ d) (hn : n ≤ 240) (hg : am_la g) {k p q k1 : Nat} {V : List (Nat × Nat)} {u1 u4 : Value} {h3 : am_H} (h72 : h.2.1 72 1 = g) (h7 : h.1 g 7 = nI q) (hq : q < 16) (ev : (lp_v t n k).2.1 = k1) (eF : lp_rf t n q k = (lp_q t n k1).1) (hV : V = lp_vc (t k) (lp_v t n k).2.2) (hp1 : p + lp_cz V ≤ 2 * k1) (oc : lc_oc t n g p h h3 (0, k1, V)) (zf : ∀ h', ¬ lp_rf t n q k = 0 → lc_f2 g h h' → h'.1 3 3 = lp_rf t n q k → Z 0 h') (zs : ∀ h', lp_rf t n q k = 0 → lc_ru t n g q p k (lp_vc (t k) (lp_v t n k).2.2) (lp_q t n (lp_v t n k).2.1).2.2 h h' → Z 0 h') : Ru mX4_readRule none d 88 [.ref 72, u1, .int (nI (t k)), .int (nI p), u4] [] h3 Z := by
  have g0 : ∀ j, 1 ≤ j → j ≤ 4 → h3.2.2 (g + j) = h.2.2 (g + j) := fun j h1 h2 => oc.1.1 _ (by omega)
  have g7 : h3.1 g 7 = nI q := by rw [oc.1.2.1 g 7 (by rcases hg with rfl | rfl <;> omega) (by omega)]; exact h7
  rcases oc.2 with ⟨_, a2, a3, a4, a5⟩ | ⟨w1, _⟩
  · refine x_88 hd hn hg a2 (by rw [oc.1.2.2]; exact h72) a3 hp1 (fun hE h6 o2 ad => ?_)
    have fE : lc_f2 g h hE := lc_f2_of (lc_fr_tr oc.1 o2.1)
    have f6 : lc_f2 g h h6 := lc_f2_tr fE ad.1
    have gE : ∀ j, 1 ≤ j → j ≤ 4 → hE.2.2 (g + j) = h.2.2 (g + j) := fun j h1 h2 => (o2.1.1 _ (by omega)).trans (g0 j h1 h2)
    have gE7 : hE.1 g 7 = nI q := by rw [o2.1.2.1 g 7 (by rcases hg with rfl | rfl <;> omega) (by omega)]; exact g7
    obtain ⟨d1, d2, d3, d4, d5⟩ := ad.2.2.2.2 q gE7 hq
    rcases o2.2 with ⟨b1, b2, b3, b4, b5⟩ | ⟨w1, w2⟩
    · refine zs h6 (by rw [eF]; exact b1) ?_
      unfold lc_ru
      rw [← hV, ev]
      have e5 := ad.2.2.2.1
      refine ⟨f6, ?_, d1, by rw [ad.2.2.1]; exact b3, fun j hj => ?_, ?_, by rw [e5]; exact b5, ?_, ?_, ?_, ?_⟩
      · obtain ⟨s1, s2, s3, s4, s5, s6, s7⟩ := b2
        refine ⟨by rw [ad.2.1]; exact s1, by rw [ad.2.1]; exact s2, by rw [ad.2.1]; exact s3, s4, s5, s6, fun i hi => ?_⟩
        have w := s7 i hi
        have g2 : ¬ (g + 1 ≤ 2 ∧ 2 ≤ g + 5) := by rcases hg with rfl | rfl <;> omega
        have g1 : ¬ (1 = g ∧ (1 = 7 ∨ 1 = 8)) := by omega
        unfold am_at at w ⊢
        rw [ad.1.1 2 g2, ad.1.2.1 1 1 (by decide) g1]; exact w
      · rw [e5, b4 j (by omega)]; exact a4 j hj
      · rw [e5]; exact lp_enc_cg (fun j h1 h2 => b4 j h2) a5
      · rw [d2, gE 1 (by omega) (by omega)]
      · rw [d3, gE 2 (by omega) (by omega)]
      · rw [d4, gE 3 (by omega) (by omega)]
      · rw [d5, gE 4 (by omega) (by omega), b3]
    · exact zf h6 (by rw [eF]; exact w1) f6 (by rw [ad.2.1, eF]; exact w2)
  · exact absurd rfl w1
theorem iX4_readRule (hd : 33 ≤ d) (hn : n ≤ 240) (hg : am_la g) {k p q : Nat} (hs : am_ss t n k h) (h72 : h.2.1 72 1 = g) (h8 : h.1 g 8 = nI p) (h7 : h.1 g 7 = nI q) (hq : q ≤ 16) (hp : p ≤ 2 * k) (zf : ∀ h', ¬ lp_rf t n q k = 0 → lc_f2 g h h' → h'.1 3 3 = lp_rf t n q k → Z 0 h') (zs : ∀ h', lp_rf t n q k = 0 → lc_ru t n g q p k (lp_vc (t k) (lp_v t n k).2.2) (lp_q t n (lp_v t n k).2.1).2.2 h h' → Z 0 h') : Sp mX4_readRule d [.ref 72, .int (nI q)] h Z := by
  have tb := hs.2.2.2.2.2.1
  have hk : k ≤ n := hs.2.2.2.1
  have e101 : am_rd t n k = 101 ↔ (k < n ∧ t k = 101) := am_rd_eq (x := 101) (by omega) tb
  have e114 : am_rd t n k = 114 ↔ (k < n ∧ t k = 114) := am_rd_eq (x := 114) (by omega) tb
  have e120 : am_rd t n k = 120 ↔ (k < n ∧ t k = 120) := am_rd_eq (x := 120) (by omega) tb
  have fail : ∀ x, 1 ≤ x → x ≤ 8 → lp_rf t n q k = am_ft x k → Z 0 (am_fal h (nI x) (h.1 3 2)) := fun x h1 h2 e => by
    have w := lc_f (g := g) (p := p) hs h1 h2 (am_ft x k, 0, []) rfl
    have nz := (am_ft_n (x := x) (k := k) h1 h2 (by omega)).2
    rcases w.2 with y | y
    · exact absurd y.1 nz
    · exact zf _ (by rw [e]; exact nz) (lc_f2_of w.1) (by rw [e]; exact y.2)
  have go : lp_lt t n k → Ru mX4_readRule none d 35 [.ref 72, .int (nI q), .int (am_rd t n k), .null, .null] [] h Z := fun lt => by
    rw [show am_rd t n k = nI (t k) from if_pos lt.1]
    refine sX4_readRule_35 (by omega) ⟨fun c => ?_, fun c => fail 4 (by omega) (by omega) ?_⟩
    · have q16 : q < 16 := (nI_ltI (b := 16) (by omega) (by omega)).mp c
      have nx := lc_nx (g := g) (p := p) hs lt.1 h8 hg
      have P1 : (am_sI h 3 2 (h.1 3 2 + 1)).2.1 72 1 = g := h72
      have Q1 : (am_sI h 3 2 (h.1 3 2 + 1)).1 g 8 = nI p := by rw [am_gI, if_neg (by rcases hg with rfl | rfl <;> omega)]; exact h8
      rw [P1, Q1]
      rcases nx.2 with ⟨_, n2, n3, n4, _⟩ | w
      · refine ⟨hg, fun c2 => ?_, fun c2 => ?_⟩
        · have c2' : ¬ t k = 120 := fun e => c2 (by rw [e]; rfl)
          have ev : lp_v t n k = lp_sum t n 6 (k + 1) := if_neg c2'
          have gk := lp_sum_g (t := t) (n := n) (c := 6) (a := 0) (by omega) (by omega) (k + 1) lt.1
          have eF : lp_rf t n q k = if ¬ (lp_v t n k).1 = 0 then (lp_v t n k).1 else (lp_q t n (lp_v t n k).2.1).1 := by
            unfold lp_rf; rw [if_neg (fun w => w lt), if_neg (by omega)]
          refine ⟨d - 1, by omega, lc_sum hn hg (c := 6) (o := 0) (by omega) (by omega) _ (k + 1) p _ n2 h72 (show _ = nI p from n3) (by omega) (fun h3 oc => ?_)⟩
          have oc' := lc_pre nx.1 n4 oc
          rw [← ev] at oc' gk
          rcases oc'.2 with ⟨a1, _⟩ | ⟨w1, w2⟩
          · obtain ⟨g1, g2, g3, g4, _⟩ := gk.1 a1
            have et : lp_v t n k = (0, (lp_v t n k).2.1, (lp_v t n k).2.2) := by rw [← a1]
            have oc2 : lc_oc t n g p h h3 (0, (lp_v t n k).2.1, (lp_v t n k).2.2) := by rw [← et]; exact oc'
            exact x_rv (by omega) hn hg h72 h7 q16 rfl (by rw [eF, if_neg (fun w => w a1)]) (show (lp_v t n k).2.2 = lp_vc (t k) (lp_v t n k).2.2 from (if_neg c2').symm) (by omega) oc2 zf zs
          · have eG : lp_rf t n q k = (lp_v t n k).1 := by rw [eF, if_pos w1]
            refine f_88 (by omega) hg (by rw [oc'.1.2.2]; exact h72) (by rw [w2]; exact w1) (fun h6 ad => zf h6 (by rw [eG]; exact w1) (lc_f2_tr (lc_f2_of oc'.1) ad.1) (by rw [ad.2.1, eG]; exact w2))
        · have tk := tb k
          have c2' : t k = 120 := (nI_eq (b := 120) (by omega) (by omega)).mp c2
          have ev : lp_v t n k = (0, k + 1, []) := if_pos c2'
          refine ⟨4, by omega, iX3_emitPair (by omega) hg (fun h5 m => ?_)⟩
          have w := lc_p (op := 0) (v := 1) hg n2 (show _ = nI p from n3) (by omega) m (Or.inl ⟨rfl, rfl⟩)
          have oc' := lc_pre nx.1 n4 w
          refine x_rv (by omega) hn hg h72 h7 q16 (by rw [ev]) ?_ ?_ ?_ oc' zf zs
          · unfold lp_rf; rw [if_neg (fun w => w lt), if_neg (by omega), ev, if_neg (fun w => w rfl)]
          · rw [ev]; exact (if_pos c2').symm
          · show p + 2 ≤ 2 * (k + 1)
            omega
      · exact absurd rfl w.1
    · have q16 : 16 ≤ q := by
        rcases Nat.lt_or_ge q 16 with w | w
        · exact absurd (nI_lt (b := 16) w (by omega)) c
        · exact w
      unfold lp_rf; rw [if_neg (fun w => w lt), if_pos q16]
  refine Sp_of mf_X4_readRule rfl (Nat.le_of_ble_eq_true rfl) rfl (sX4_readRule_0 (by omega) ?_)
  rw [am_ss_pk hs]
  refine ⟨fun c => go ⟨(e101.mp c).1, Or.inl (e101.mp c).2⟩, fun c => ⟨fun c2 => go ⟨(e114.mp c2).1, Or.inr (Or.inl (e114.mp c2).2)⟩, fun c2 => ⟨fun c3 => go ⟨(e120.mp c3).1, Or.inr (Or.inr (e120.mp c3).2)⟩, fun c3 => fail 1 (by omega) (by omega) ?_⟩⟩⟩
  unfold lp_rf
  rw [if_pos (fun w => ?_)]
  rcases w.2 with y | y | y
  · exact c (e101.mpr ⟨w.1, y⟩)
  · exact c2 (e114.mpr ⟨w.1, y⟩)
  · exact c3 (e120.mpr ⟨w.1, y⟩)
end
