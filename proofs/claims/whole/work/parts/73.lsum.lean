-- the law's text: the class reads terms and sums
section
variable {d n g : Nat} {h : am_H} {Z : Int32 → am_H → Prop} {t : Nat → Nat}
/-- the loop of readTerm -/
theorem x_lt {o : Nat} {it : Nat → lp_O} (hd : 4 ≤ d) (hn : n ≤ 240) (hg : am_la g) {a b : Nat} (hi : lp_G n it a b) (hI : lc_C t n g mX4_readFactor [.ref 72, .int (nI o)] (d - 1) it) : ∀ (f j k p : Nat) (h : am_H) (Z : Int32 → am_H → Prop) (u3 : Value), n + 1 ≤ k + f → j < k → am_ss t n k h → h.2.1 72 1 = g → h.1 g 8 = nI p → p ≤ 2 * k → (∀ h', lc_oc t n g p h h' (lp_lf it lp_sT t n f k) → Z 0 h') → Ru mX4_readTerm none d 7 [.ref 72, .int (nI o), .int (nI j), u3] [] h Z
  | 0, j, k, p, h, Z, u3, hf, hj, hs, h72, h8, hp, z => by have := hs.2.2.2.1; omega
  | f + 1, j, k, p, h, Z, u3, hf, hj, hs, h72, h8, hp, z => by
    have tb := hs.2.2.2.2.2.1
    have hk : k ≤ n := hs.2.2.2.1
    refine sX4_readTerm_7 (by omega) ⟨fun q => absurd q (nI_ge (b := 240) (by omega) (by omega)), fun _ => ?_⟩
    rw [am_ss_pk hs]
    have sgi : (am_rd t n k = 42 ∨ am_rd t n k = 47 ∨ am_rd t n k = 37) ↔ (k < n ∧ ¬ lp_sT (t k) = 0) := by
      rcases Nat.lt_or_ge k n with c | c
      · have tk := tb k
        rw [show am_rd t n k = nI (t k) from if_pos c]
        rw [show (nI (t k) = (42 : Int32)) = (t k = 42) from propext (nI_eq (b := 42) (by omega) (by omega)), show (nI (t k) = (47 : Int32)) = (t k = 47) from propext (nI_eq (b := 47) (by omega) (by omega)), show (nI (t k) = (37 : Int32)) = (t k = 37) from propext (nI_eq (b := 37) (by omega) (by omega))]
        unfold lp_sT
        constructor
        · intro q; refine ⟨c, ?_⟩; rcases q with q | q | q <;> (rw [q]; decide)
        · intro q
          have q := q.2
          repeat' split at q
          all_goals first | (exact absurd rfl q) | omega
      · rw [show am_rd t n k = -1 from if_neg (by omega)]
        exact ⟨fun q => absurd q (by decide), fun q => by omega⟩
    rw [lp_lf_s] at z
    refine ⟨fun c => ?_, fun c => ?_⟩
    · rw [if_neg (fun q => c (sgi.mpr q))] at z
      exact z h (lc_0 hs h8)
    · have c' := sgi.mp c
      rw [if_pos c'] at z
      have nx := lc_nx (g := g) (p := p) hs c'.1 h8 hg
      have gi := hi (k + 1) c'.1
      rcases nx.2 with ⟨_, n2, n3, n4, _⟩ | w
      · refine ⟨d - 1, by omega, hI _ (k + 1) p _ n2 h72 (show _ = nI p from n3) (by omega) (fun h4 oc => ?_)⟩
        have oc' : lc_oc t n g p h h4 (it (k + 1)) := by
          refine ⟨lc_fr_tr nx.1 oc.1, ?_⟩
          rcases oc.2 with ⟨a1, a2, a3, a4, a5⟩ | w
          · exact Or.inl ⟨a1, a2, a3, fun j hj => (a4 j hj).trans (n4 j hj), a5⟩
          · exact Or.inr w
        unfold lp_el at z
        generalize it (k + 1) = io at oc' gi z
        have e72 : h4.2.1 72 1 = g := by rw [oc'.1.2.2]; exact h72
        rw [e72, show am_rd t n k = nI (t k) from if_pos c'.1]
        refine ⟨hg, 2, by omega, iX3_emit hg (fun h7 m => ?_)⟩
        rw [nI_1]
        rcases oc'.2 with ⟨a1, a2, a3, a4, a5⟩ | ⟨w1, w2⟩
        · obtain ⟨g1, g2, g3, g4, _⟩ := gi.1 a1
          have pb : p + lp_cz io.2.2 < 512 := by omega
          have sg := lp_sT_b _ c'.2
          have oe := lc_e (op := lp_sT (t k)) hg a2 a3 pb m ⟨Or.inr (Or.inr (Or.inr (Or.inr ⟨by omega, by omega, by
            show upd _ _ _ _ = _
            unfold upd; rw [if_pos rfl]
            have q := c'.2
            unfold lp_sT at q ⊢
            repeat' split at q
            all_goals first | (exact absurd rfl q) | skip
            all_goals (rename_i w; first | (rw [w]; rfl) | skip)⟩))), trivial⟩ (lp_z_1 (by omega))
          have o2 := lc_b (f := fun k2 => (0, k2, [(lp_sT (t k), 0)])) oc' a1 oe
          have e8 : h7.1 g 8 = nI (p + lp_cz io.2.2 + 1) := (m.2.2 _ a3 pb).1
          have e0 : (lp_b io (fun k2 => (0, k2, [(lp_sT (t k), 0)]))).1 = 0 := by rw [lp_b_0 a1]
          have ek : (lp_b io (fun k2 => (0, k2, [(lp_sT (t k), 0)]))).2.1 = io.2.1 := by rw [lp_b_0 a1]
          have ez : lp_cz (lp_b io (fun k2 => (0, k2, [(lp_sT (t k), 0)]))).2.2 = lp_cz io.2.2 + 1 := by
            rw [lp_b_0 a1]
            show lp_cz (io.2.2 ++ [(lp_sT (t k), 0)]) = _
            rw [lp_cz_app]
            show _ + (lp_z (lp_sT (t k)) + 0) = _
            rw [lp_z_1 (by omega)]
          refine x_lt hd hn hg hi hI f (j + 1) io.2.1 (p + lp_cz io.2.2 + 1) h7 Z _ (by omega) (by omega) (lc_ss hg m.1 m.2.1 a2) (by rw [m.1.2.2]; exact e72) e8 (by omega) (fun h' oc2 => z h' ?_)
          refine lc_b o2 e0 ?_
          rw [ek, ez, ← Nat.add_assoc]; exact oc2
        · have q7 : h7.1 3 3 = h4.1 3 3 := by rw [m.2.1]
          have nz : ¬ h7.1 3 3 = 0 := by rw [q7, w2]; exact w1
          refine sX4_readTerm_7 (by omega) ⟨fun q => absurd q (nI_ge (b := 240) (by omega) (by omega)), fun _ => ?_⟩
          rw [am_pk_no nz]
          refine ⟨fun _ => z h7 ?_, fun q => absurd q (by decide)⟩
          have o2 := lc_bf (f := fun k2 => (0, k2, [(lp_sT (t k), 0)])) oc' w1 m.1 q7
          have e1 : ¬ (lp_b io (fun k2 => (0, k2, [(lp_sT (t k), 0)]))).1 = 0 := by rw [lp_b_f w1]; exact w1
          exact lc_bf o2 e1 (lc_fr_rf g h7) rfl
      · exact absurd rfl w.1
theorem iX4_readTerm {o : Nat} {it : Nat → lp_O} (hd : 4 ≤ d) (hn : n ≤ 240) (hg : am_la g) {a b : Nat} (hi : lp_G n it a b) {a2 b2 : Nat} (hi2 : lp_G n it a2 b2) (hI : lc_C t n g mX4_readFactor [.ref 72, .int (nI o)] (d - 1) it) : lc_C t n g mX4_readTerm [.ref 72, .int (nI o)] d (fun k => lp_b (it k) (fun k' => lp_lf it lp_sT t n (n + 1 - k') k')) := fun h k p Z hs h72 h8 hp z => by
  have hk : k ≤ n := hs.2.2.2.1
  have gi := hi k hk
  have z : ∀ h', lc_oc t n g p h h' (lp_b (it k) (fun k' => lp_lf it lp_sT t n (n + 1 - k') k')) → Z 0 h' := z
  refine Sp_of mf_X4_readTerm rfl (Nat.le_of_ble_eq_true rfl) rfl (sX4_readTerm_0 ⟨d - 1, by omega, hI h k p _ hs h72 h8 hp (fun h2 oc => ?_)⟩)
  generalize it k = io at oc gi z
  rcases oc.2 with ⟨a1, a2, a3, a4, a5⟩ | ⟨w1, w2⟩
  · obtain ⟨g1, g2, g3, g4, _⟩ := gi.1 a1
    exact x_lt hd hn hg hi2 hI (n + 1 - io.2.1) 0 io.2.1 (p + lp_cz io.2.2) h2 Z _ (by omega) (by omega) a2 (by rw [oc.1.2.2]; exact h72) a3 (by omega) (fun h' oc2 => z h' (lc_b oc a1 oc2))
  · refine sX4_readTerm_7 (by omega) ⟨fun q => absurd q (by decide), fun _ => ?_⟩
    rw [am_pk_no (by rw [w2]; exact w1)]
    exact ⟨fun _ => z h2 (lc_bf oc w1 (lc_fr_rf g h2) rfl), fun q => absurd q (by decide)⟩
theorem fX4_readTerm {x : Int32} (hd : 4 ≤ d) (hF : lc_F mX4_readFactor [.ref 72, .int x] (d - 1)) : lc_F mX4_readTerm [.ref 72, .int x] d := fun h Z q z => by
  refine Sp_of mf_X4_readTerm rfl (Nat.le_of_ble_eq_true rfl) rfl (sX4_readTerm_0 ⟨d - 1, by omega, hF h _ q ?_⟩)
  refine sX4_readTerm_7 (by omega) ⟨fun q => absurd q (by decide), fun _ => ?_⟩
  rw [am_pk_no q]
  exact ⟨fun _ => z, fun q => absurd q (by decide)⟩
/-- the loop of readSum -/
theorem x_ls {o : Nat} {it : Nat → lp_O} (hd : 4 ≤ d) (hn : n ≤ 240) (hg : am_la g) {a b : Nat} (hi : lp_G n it a b) (hI : lc_C t n g mX4_readTerm [.ref 72, .int (nI o)] (d - 1) it) : ∀ (f j k p : Nat) (h : am_H) (Z : Int32 → am_H → Prop) (u3 : Value), n + 1 ≤ k + f → j < k → am_ss t n k h → h.2.1 72 1 = g → h.1 g 8 = nI p → p ≤ 2 * k → (∀ h', lc_oc t n g p h h' (lp_lf it lp_sS t n f k) → Z 0 h') → Ru mX4_readSum none d 7 [.ref 72, .int (nI o), .int (nI j), u3] [] h Z
  | 0, j, k, p, h, Z, u3, hf, hj, hs, h72, h8, hp, z => by have := hs.2.2.2.1; omega
  | f + 1, j, k, p, h, Z, u3, hf, hj, hs, h72, h8, hp, z => by
    have tb := hs.2.2.2.2.2.1
    have hk : k ≤ n := hs.2.2.2.1
    refine sX4_readSum_7 (by omega) ⟨fun q => absurd q (nI_ge (b := 240) (by omega) (by omega)), fun _ => ?_⟩
    rw [am_ss_pk hs]
    have sgi : (am_rd t n k = 43 ∨ am_rd t n k = 45) ↔ (k < n ∧ ¬ lp_sS (t k) = 0) := by
      rcases Nat.lt_or_ge k n with c | c
      · have tk := tb k
        rw [show am_rd t n k = nI (t k) from if_pos c]
        rw [show (nI (t k) = (43 : Int32)) = (t k = 43) from propext (nI_eq (b := 43) (by omega) (by omega)), show (nI (t k) = (45 : Int32)) = (t k = 45) from propext (nI_eq (b := 45) (by omega) (by omega))]
        unfold lp_sS
        constructor
        · intro q; refine ⟨c, ?_⟩; rcases q with q | q <;> (rw [q]; decide)
        · intro q
          have q := q.2
          repeat' split at q
          all_goals first | (exact absurd rfl q) | omega
      · rw [show am_rd t n k = -1 from if_neg (by omega)]
        exact ⟨fun q => absurd q (by decide), fun q => by omega⟩
    rw [lp_lf_s] at z
    refine ⟨fun c => ?_, fun c => ?_⟩
    · rw [if_neg (fun q => c (sgi.mpr q))] at z
      exact z h (lc_0 hs h8)
    · have c' := sgi.mp c
      rw [if_pos c'] at z
      have nx := lc_nx (g := g) (p := p) hs c'.1 h8 hg
      have gi := hi (k + 1) c'.1
      rcases nx.2 with ⟨_, n2, n3, n4, _⟩ | w
      · refine ⟨d - 1, by omega, hI _ (k + 1) p _ n2 h72 (show _ = nI p from n3) (by omega) (fun h4 oc => ?_)⟩
        have oc' : lc_oc t n g p h h4 (it (k + 1)) := by
          refine ⟨lc_fr_tr nx.1 oc.1, ?_⟩
          rcases oc.2 with ⟨a1, a2, a3, a4, a5⟩ | w
          · exact Or.inl ⟨a1, a2, a3, fun j hj => (a4 j hj).trans (n4 j hj), a5⟩
          · exact Or.inr w
        unfold lp_el at z
        generalize it (k + 1) = io at oc' gi z
        have e72 : h4.2.1 72 1 = g := by rw [oc'.1.2.2]; exact h72
        rw [e72, show am_rd t n k = nI (t k) from if_pos c'.1]
        refine ⟨hg, 2, by omega, iX3_emit hg (fun h7 m => ?_)⟩
        rw [nI_1]
        rcases oc'.2 with ⟨a1, a2, a3, a4, a5⟩ | ⟨w1, w2⟩
        · obtain ⟨g1, g2, g3, g4, _⟩ := gi.1 a1
          have pb : p + lp_cz io.2.2 < 512 := by omega
          have sg := lp_sS_b _ c'.2
          have oe := lc_e (op := lp_sS (t k)) hg a2 a3 pb m ⟨Or.inr (Or.inr (Or.inr (Or.inr ⟨by omega, by omega, by
            show upd _ _ _ _ = _
            unfold upd; rw [if_pos rfl]
            have q := c'.2
            unfold lp_sS at q ⊢
            repeat' split at q
            all_goals first | (exact absurd rfl q) | skip
            all_goals (rename_i w; first | (rw [w]; rfl) | skip)⟩))), trivial⟩ (lp_z_1 (by omega))
          have o2 := lc_b (f := fun k2 => (0, k2, [(lp_sS (t k), 0)])) oc' a1 oe
          have e8 : h7.1 g 8 = nI (p + lp_cz io.2.2 + 1) := (m.2.2 _ a3 pb).1
          have e0 : (lp_b io (fun k2 => (0, k2, [(lp_sS (t k), 0)]))).1 = 0 := by rw [lp_b_0 a1]
          have ek : (lp_b io (fun k2 => (0, k2, [(lp_sS (t k), 0)]))).2.1 = io.2.1 := by rw [lp_b_0 a1]
          have ez : lp_cz (lp_b io (fun k2 => (0, k2, [(lp_sS (t k), 0)]))).2.2 = lp_cz io.2.2 + 1 := by
            rw [lp_b_0 a1]
            show lp_cz (io.2.2 ++ [(lp_sS (t k), 0)]) = _
            rw [lp_cz_app]
            show _ + (lp_z (lp_sS (t k)) + 0) = _
            rw [lp_z_1 (by omega)]
          refine x_ls hd hn hg hi hI f (j + 1) io.2.1 (p + lp_cz io.2.2 + 1) h7 Z _ (by omega) (by omega) (lc_ss hg m.1 m.2.1 a2) (by rw [m.1.2.2]; exact e72) e8 (by omega) (fun h' oc2 => z h' ?_)
          refine lc_b o2 e0 ?_
          rw [ek, ez, ← Nat.add_assoc]; exact oc2
        · have q7 : h7.1 3 3 = h4.1 3 3 := by rw [m.2.1]
          have nz : ¬ h7.1 3 3 = 0 := by rw [q7, w2]; exact w1
          refine sX4_readSum_7 (by omega) ⟨fun q => absurd q (nI_ge (b := 240) (by omega) (by omega)), fun _ => ?_⟩
          rw [am_pk_no nz]
          refine ⟨fun _ => z h7 ?_, fun q => absurd q (by decide)⟩
          have o2 := lc_bf (f := fun k2 => (0, k2, [(lp_sS (t k), 0)])) oc' w1 m.1 q7
          have e1 : ¬ (lp_b io (fun k2 => (0, k2, [(lp_sS (t k), 0)]))).1 = 0 := by rw [lp_b_f w1]; exact w1
          exact lc_bf o2 e1 (lc_fr_rf g h7) rfl
      · exact absurd rfl w.1
theorem iX4_readSum {o : Nat} {it : Nat → lp_O} (hd : 4 ≤ d) (hn : n ≤ 240) (hg : am_la g) {a b : Nat} (hi : lp_G n it a b) {a2 b2 : Nat} (hi2 : lp_G n it a2 b2) (hI : lc_C t n g mX4_readTerm [.ref 72, .int (nI o)] (d - 1) it) : lc_C t n g mX4_readSum [.ref 72, .int (nI o)] d (fun k => lp_b (it k) (fun k' => lp_lf it lp_sS t n (n + 1 - k') k')) := fun h k p Z hs h72 h8 hp z => by
  have hk : k ≤ n := hs.2.2.2.1
  have gi := hi k hk
  have z : ∀ h', lc_oc t n g p h h' (lp_b (it k) (fun k' => lp_lf it lp_sS t n (n + 1 - k') k')) → Z 0 h' := z
  refine Sp_of mf_X4_readSum rfl (Nat.le_of_ble_eq_true rfl) rfl (sX4_readSum_0 ⟨d - 1, by omega, hI h k p _ hs h72 h8 hp (fun h2 oc => ?_)⟩)
  generalize it k = io at oc gi z
  rcases oc.2 with ⟨a1, a2, a3, a4, a5⟩ | ⟨w1, w2⟩
  · obtain ⟨g1, g2, g3, g4, _⟩ := gi.1 a1
    exact x_ls hd hn hg hi2 hI (n + 1 - io.2.1) 0 io.2.1 (p + lp_cz io.2.2) h2 Z _ (by omega) (by omega) a2 (by rw [oc.1.2.2]; exact h72) a3 (by omega) (fun h' oc2 => z h' (lc_b oc a1 oc2))
  · refine sX4_readSum_7 (by omega) ⟨fun q => absurd q (by decide), fun _ => ?_⟩
    rw [am_pk_no (by rw [w2]; exact w1)]
    exact ⟨fun _ => z h2 (lc_bf oc w1 (lc_fr_rf g h2) rfl), fun q => absurd q (by decide)⟩
theorem fX4_readSum {x : Int32} (hd : 4 ≤ d) (hF : lc_F mX4_readTerm [.ref 72, .int x] (d - 1)) : lc_F mX4_readSum [.ref 72, .int x] d := fun h Z q z => by
  refine Sp_of mf_X4_readSum rfl (Nat.le_of_ble_eq_true rfl) rfl (sX4_readSum_0 ⟨d - 1, by omega, hF h _ q ?_⟩)
  refine sX4_readSum_7 (by omega) ⟨fun q => absurd q (by decide), fun _ => ?_⟩
  rw [am_pk_no q]
  exact ⟨fun _ => z, fun q => absurd q (by decide)⟩
theorem lc_fac (hn : n ≤ 240) (hg : am_la g) : ∀ (c o d : Nat), o + c = 6 → 8 + 3 * c ≤ d → lc_C t n g mX4_readFactor [.ref 72, .int (nI o)] d (lp_f t n c)
  | 0, o, d, ho, hd => x_fac (c := 0) (by omega) hn hg ho ⟨fun _ => rfl, fun _ => rfl⟩ (fun q => by omega)
  | c + 1, o, d, ho, hd => x_fac (c := c + 1) (by omega) hn hg ho ⟨fun q => (by cases q), fun q => by omega⟩ (fun _ => iX4_readSum (by omega) hn hg (lp_tm_g (a := 0) (by omega) (lp_f_g (by omega) c 0 (by omega)) (lp_f_g (by omega) c 1 (by omega))) (lp_tm_g (a := 0) (by omega) (lp_f_g (by omega) c 0 (by omega)) (lp_f_g (by omega) c 1 (by omega))) (iX4_readTerm (by omega) hn hg (lp_f_g (by omega) c 0 (by omega)) (lp_f_g (by omega) c 0 (by omega)) (lc_fac hn hg c (o + 1) (d - 1 - 1 - 1) (by omega) (by omega))))
theorem lc_sum (hn : n ≤ 240) (hg : am_la g) {c o d : Nat} (ho : o + c = 6) (hd : 10 + 3 * c ≤ d) : lc_C t n g mX4_readSum [.ref 72, .int (nI o)] d (lp_sum t n c) := iX4_readSum (by omega) hn hg (lp_tm_g (a := 0) (by omega) (lp_f_g (by omega) c 0 (by omega)) (lp_f_g (by omega) c 1 (by omega))) (lp_tm_g (a := 0) (by omega) (lp_f_g (by omega) c 0 (by omega)) (lp_f_g (by omega) c 1 (by omega))) (iX4_readTerm (by omega) hn hg (lp_f_g (by omega) c 0 (by omega)) (lp_f_g (by omega) c 0 (by omega)) (lc_fac hn hg c o (d - 1 - 1) ho (by omega)))
theorem lf_sum {d : Nat} {x : Int32} (hd : 8 ≤ d) : lc_F mX4_readSum [.ref 72, .int x] d := fX4_readSum (by omega) (fX4_readTerm (by omega) (fX4_readFactor (by omega)))
end
