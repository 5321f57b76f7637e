-- the law's text: the reference reads factors and sums
def lr_fo (x : Int32) : Int32 := if x = 97 then 6 else if x = 98 then (-1) else if x = 99 then (-1) else if x = 100 then 3 else if x = 101 then (-1) else if x = 102 then 4 else if x = 103 then (-1) else if x = 104 then (-1) else if x = 105 then 7 else if x = 106 then (-1) else if x = 107 then (-1) else if x = 108 then (-1) else if x = 109 then (-1) else if x = 110 then 5 else if x = 111 then (-1) else if x = 112 then 0 else if x = 113 then (-1) else if x = 114 then (-1) else if x = 115 then 1 else if x = 116 then 8 else if x = 117 then (-1) else if x = 118 then (-1) else if x = 119 then 9 else if x = 120 then (-1) else if x = 121 then (-1) else if x = 122 then 2 else (-1)
theorem iX11_factOf {d : Nat} {h : am_H} {Z : Int32 → am_H → Prop} {x : Int32} (z : Z (lr_fo x) h) : Sp mX11_factOf d [.int x] h Z := by
  refine Sp_of mf_X11_factOf rfl (Nat.le_of_ble_eq_true rfl) rfl (sX11_factOf_0 ?_)
  unfold lr_fo at z
  refine ⟨fun e => by rw [if_pos e] at z; exact z, fun e => ?_⟩
  rw [if_neg e] at z
  refine ⟨fun e => by rw [if_pos e] at z; exact z, fun e => ?_⟩
  rw [if_neg e] at z
  refine ⟨fun e => by rw [if_pos e] at z; exact z, fun e => ?_⟩
  rw [if_neg e] at z
  refine ⟨fun e => by rw [if_pos e] at z; exact z, fun e => ?_⟩
  rw [if_neg e] at z
  refine ⟨fun e => by rw [if_pos e] at z; exact z, fun e => ?_⟩
  rw [if_neg e] at z
  refine ⟨fun e => by rw [if_pos e] at z; exact z, fun e => ?_⟩
  rw [if_neg e] at z
  refine ⟨fun e => by rw [if_pos e] at z; exact z, fun e => ?_⟩
  rw [if_neg e] at z
  refine ⟨fun e => by rw [if_pos e] at z; exact z, fun e => ?_⟩
  rw [if_neg e] at z
  refine ⟨fun e => by rw [if_pos e] at z; exact z, fun e => ?_⟩
  rw [if_neg e] at z
  refine ⟨fun e => by rw [if_pos e] at z; exact z, fun e => ?_⟩
  rw [if_neg e] at z
  refine ⟨fun e => by rw [if_pos e] at z; exact z, fun e => ?_⟩
  rw [if_neg e] at z
  refine ⟨fun e => by rw [if_pos e] at z; exact z, fun e => ?_⟩
  rw [if_neg e] at z
  refine ⟨fun e => by rw [if_pos e] at z; exact z, fun e => ?_⟩
  rw [if_neg e] at z
  refine ⟨fun e => by rw [if_pos e] at z; exact z, fun e => ?_⟩
  rw [if_neg e] at z
  refine ⟨fun e => by rw [if_pos e] at z; exact z, fun e => ?_⟩
  rw [if_neg e] at z
  refine ⟨fun e => by rw [if_pos e] at z; exact z, fun e => ?_⟩
  rw [if_neg e] at z
  refine ⟨fun e => by rw [if_pos e] at z; exact z, fun e => ?_⟩
  rw [if_neg e] at z
  refine ⟨fun e => by rw [if_pos e] at z; exact z, fun e => ?_⟩
  rw [if_neg e] at z
  refine ⟨fun e => by rw [if_pos e] at z; exact z, fun e => ?_⟩
  rw [if_neg e] at z
  refine ⟨fun e => by rw [if_pos e] at z; exact z, fun e => ?_⟩
  rw [if_neg e] at z
  refine ⟨fun e => by rw [if_pos e] at z; exact z, fun e => ?_⟩
  rw [if_neg e] at z
  refine ⟨fun e => by rw [if_pos e] at z; exact z, fun e => ?_⟩
  rw [if_neg e] at z
  refine ⟨fun e => by rw [if_pos e] at z; exact z, fun e => ?_⟩
  rw [if_neg e] at z
  refine ⟨fun e => by rw [if_pos e] at z; exact z, fun e => ?_⟩
  rw [if_neg e] at z
  refine ⟨fun e => by rw [if_pos e] at z; exact z, fun e => ?_⟩
  rw [if_neg e] at z
  refine ⟨fun e => by rw [if_pos e] at z; exact z, fun e => ?_⟩
  rw [if_neg e] at z
  exact z
theorem lr_fo_n : ∀ c, c < 256 → lr_fo (nI c) = lp_ix c := by decide +kernel
def lr_sn (x : Int32) : Int32 := if x = 43 then 2 else if x = 45 then 3 else if x = 42 then 4 else if x = 47 then 5 else if x = 37 then 6 else (-1)
theorem iX11_sumSign {d : Nat} {h : am_H} {Z : Int32 → am_H → Prop} {x : Int32} (z : Z (lr_sn x) h) : Sp mX11_sumSign d [.int x] h Z := by
  refine Sp_of mf_X11_sumSign rfl (Nat.le_of_ble_eq_true rfl) rfl (sX11_sumSign_0 ?_)
  unfold lr_sn at z
  refine ⟨fun e => ?_, fun e => by rw [if_pos e] at z; exact z⟩
  rw [if_neg e] at z
  refine ⟨fun e => ?_, fun e => by rw [if_pos e] at z; exact z⟩
  rw [if_neg e] at z
  refine ⟨fun e => ?_, fun e => by rw [if_pos e] at z; exact z⟩
  rw [if_neg e] at z
  refine ⟨fun e => ?_, fun e => by rw [if_pos e] at z; exact z⟩
  rw [if_neg e] at z
  refine ⟨fun e => ?_, fun e => by rw [if_pos e] at z; exact z⟩
  rw [if_neg e] at z
  exact z
theorem lr_sn_n : ∀ c, c < 256 → lr_sn (nI c) = (if lp_sT c = 0 then (if lp_sS c = 0 then (-1 : Int32) else nI (lp_sS c)) else nI (lp_sT c)) := by decide +kernel
theorem lr_sTS : ∀ c, c < 256 → ¬ lp_sS c = 0 → lp_sT c = 0 := by decide +kernel
theorem lr_93 : lp_sT 93 = 0 ∧ lp_sS 93 = 0 := by decide
section
variable {d n k m w o base w0 c a b : Nat} {h h0 : am_H} {Z : Int32 → am_H → Prop} {t : Nat → Nat} {S A : Nat → Int32} {fs : List (Nat × Nat)}
theorem x_rn (hd : 3 ≤ d) (hn : n ≤ 240) {k0 : Nat} (z1 : ∀ k' v h', lp_num t n k0 = (0, k', [(0, v)]) → lr_H t n h0 h' k' m w o S A → h'.1 73 13 = nI v → Z 1 h') (z0 : ∀ h', ¬ (lp_num t n k0).1 = 0 → lr_fr h0 h' → h'.1 73 12 = (lp_num t n k0).1 → Z 0 h') : ∀ (f k v : Nat) (h : am_H), f ≤ 5 → k + f = k0 + 5 → lp_dd t n 5 k0 0 = lp_dd t n f k v → lr_H t n h0 h k m w o S A → h.1 73 13 = nI v → Ru mX11_readsNumber none d 10 [.ref 73, .int (nI k0)] [] h Z := by
  have stop : ∀ (f k v : Nat) (h : am_H), lp_dd t n 5 k0 0 = (k, v) → ¬ cb_dg t n k → lr_H t n h0 h k m w o S A → h.1 73 13 = nI v → Z 1 h := fun f k v h e c H h13 => z1 k v h (by unfold lp_num; rw [e]; exact if_neg c) H h13
  intro f
  induction f with
  | zero =>
    intro k v h hf5 hk e H h13
    have tb := H.1.2.2.2.2.1
    have kn := H.1.2.2.1
    have dgi : ((48 : Int32) ≤ am_rd t n k ∧ am_rd t n k ≤ 57) = cb_dg t n k := propext (am_rd_in (lo := 48) (hi := 57) (by omega) (by omega) tb)
    refine sX11_readsNumber_10 hd ⟨am_ms_ok H.1, ?_⟩
    rw [am_ms_hr H.1, dgi, H.1.2.1, show nI k0 + 5 = nI (k0 + 5) from nI_add k0 5]
    refine ⟨fun c => stop 0 k v h e c H h13, fun c => ⟨fun q => absurd (by rw [show k = k0 + 5 by omega]) q, fun _ => ⟨Or.inl rfl, ?_⟩⟩⟩
    have en : lp_num t n k0 = (am_ft 2 k, k0, []) := by
      unfold lp_num
      rw [e]
      exact if_pos c
    rw [en] at z0
    refine z0 _ (am_ft_n (by omega) (by omega) (by omega)).2 (lr_fr_sI H.2.2.2.2.2.2 (by omega)) ?_
    rw [am_gI, if_pos ⟨rfl, rfl⟩]; rfl
  | succ f ih =>
    intro k v h hf5 hk e H h13
    have tb := H.1.2.2.2.2.1
    have kn := H.1.2.2.1
    have dgi : ((48 : Int32) ≤ am_rd t n k ∧ am_rd t n k ≤ 57) = cb_dg t n k := propext (am_rd_in (lo := 48) (hi := 57) (by omega) (by omega) tb)
    rw [lp_dd_s t n f k v] at e
    refine sX11_readsNumber_10 hd ⟨am_ms_ok H.1, ?_⟩
    rw [am_ms_hr H.1, dgi, H.1.2.1, h13, show nI k0 + 5 = nI (k0 + 5) from nI_add k0 5]
    refine ⟨fun c => stop 0 k v h (by rw [if_neg c] at e; exact e) c H h13, fun c => ⟨fun _ h2 e2 h3 e3 => ?_, fun q => ?_⟩⟩
    · rw [if_pos c] at e
      have c2 := c.2
      have rd : am_rd t n k = nI (t k) := if_pos c.1
      have ev : ((10 : Int32) * nI v + nI (t k)) - 48 = nI (10 * v + (t k - 48)) := by
        rw [show (10 : Int32) * nI v = nI (10 * v) from pk_mul 10 v, nI_add, show (48 : Int32) = nI 48 from rfl, am_sub_n (by omega)]
        congr 1; omega
      rw [rd, ev] at e2
      have H2 : lr_H t n h0 h2 k m w o S A := by rw [e2]; exact lr_13 H
      refine ih (k + 1) _ h3 (by omega) (by omega) e (by rw [e3]; exact lr_nx H2 c.1) ?_
      rw [e3, am_gI, if_neg (by decide), e2, am_gI, if_pos ⟨rfl, rfl⟩]
    · have := (nI_eq (by omega) (by omega)).mp q
      omega
theorem iX11_readsNumber (hd : 3 ≤ d) (hn : n ≤ 240) (H : lr_H t n h0 h k m w o S A) (z1 : ∀ k' v h', lp_num t n k = (0, k', [(0, v)]) → lr_H t n h0 h' k' m w o S A → h'.1 73 13 = nI v → Z 1 h') (z0 : ∀ h', ¬ (lp_num t n k).1 = 0 → lr_fr h0 h' → h'.1 73 12 = (lp_num t n k).1 → Z 0 h') : Sp mX11_readsNumber d [.ref 73] h Z := by
  refine Sp_of mf_X11_readsNumber rfl (Nat.le_of_ble_eq_true rfl) rfl (sX11_readsNumber_0 (fun h1 e1 => ?_))
  rw [H.1.2.1]
  refine x_rn hd hn z1 z0 5 k 0 h1 (by omega) rfl rfl (by rw [e1]; exact lr_13 H) ?_
  rw [e1, am_gI, if_pos ⟨rfl, rfl⟩]; rfl
/-- the loop of readsFactor -/
theorem x_rf (hd : 5 ≤ d) (hn : n ≤ 240) : ∀ (c a b : Nat) (fs : List (Nat × Nat)) (k w w0 : Nat) (A : Nat → Int32) (h : am_H) (u1 : Value), c ≤ 6 → lr_H t n h0 h k m w (6 - c) S A → lr_ok a b → lr_f A w0 a b w → lr_tl A base fs w0 → m + w ≤ k + 14 →
    (∀ h', ¬ (lp_FK t n c a b fs k).1 = 0 → lr_fr h0 h' → h'.1 73 12 = (lp_FK t n c a b fs k).1 → Z 0 h') →
    (∀ c' a' b' fs' k' w' w0' A' x v h', lp_FK t n c a b fs k = lp_b (0, k', [(x, v)]) (lp_K t n c' a' b' fs') → k < k' → lr_H t n h0 h' k' (m + 1) w' (6 - c') (upd S m (nI (x * 2 ^ 20 + v))) A' → x ≤ 1 → c' + fs'.length = c + fs.length → lr_ok a' b' → lr_f A' w0' a' b' w' → lr_tl A' base fs' w0' → m + 1 + w' ≤ k' + 14 → (∀ j, j < base → A' j = A j) → Z 1 h') →
    Ru mX11_readsFactor none d 0 [.ref 73, u1] [] h Z := by
  intro c
  induction c with
  | zero =>
    intro a b fs k w w0 A h u1 hc H ok hf ht hmw zf zs
    have tb := H.1.2.2.2.2.1
    have kn := H.1.2.2.1
    have e91 : am_rd t n k = 91 ↔ (k < n ∧ t k = 91) := am_rd_eq (x := 91) (by omega) tb
    have dgi : ((48 : Int32) ≤ am_rd t n k ∧ am_rd t n k ≤ 57) = cb_dg t n k := propext (am_rd_in (lo := 48) (hi := 57) (by omega) (by omega) tb)
    refine sX11_readsFactor_0c (by omega) ⟨am_ms_ok H.1, ?_⟩
    rw [am_ms_hr H.1, dgi]
    refine ⟨fun c1 => ?_, fun c1 => ?_⟩
    · have c1' : ¬ (k < n ∧ t k = 91) := fun q => c1 (e91.mpr q)
      have ef := lp_FK_at (t := t) (n := n) (c := 0) (a := a) (b := b) (fs := fs) c1'
      refine ⟨fun c2 => ?_, fun c2 => ?_⟩
      · have ea : lp_at t n k = lp_fa t n k := if_neg c2
        rw [ea] at ef
        refine ⟨1, by omega, iX11_factOf ?_⟩
        by_cases c3 : k < n ∧ lp_fi (t k) < 10
        · have e3 : lp_fa t n k = (0, k + 1, [(1, lp_fi (t k))]) := if_pos c3
          rw [e3] at ef
          have er : lr_fo (am_rd t n k) = nI (lp_fi (t k)) := by
            rw [show am_rd t n k = nI (t k) from if_pos c3.1, lr_fo_n _ (tb k)]; exact if_pos c3.2
          rw [er]
          refine ⟨fun _ => ⟨1, by omega, iX11_notes (x := 1) (v := lp_fi (t k)) (by omega) H (fun h5 H5 h6 e6 => ?_)⟩, fun q => absurd (show (-1 : Int32) < 0 by decide) (by rw [← q]; exact nI_pos (by have := c3.2; omega))⟩
          refine zs 0 a b fs (k + 1) w w0 A 1 (lp_fi (t k)) h6 ef (by omega) (by rw [e6]; exact lr_nx H5 c3.1) (by omega) rfl ok hf ht (by omega) (fun _ _ => rfl)
        · have e3 : lp_fa t n k = (am_ft 1 k, k, []) := if_neg c3
          have nz := (am_ft_n (x := 1) (k := k) (by omega) (by omega) (by omega)).2
          rw [e3] at ef
          have ef2 : lp_FK t n (0) a b fs k = (am_ft 1 k, k, []) := ef.trans (lp_b_f nz)
          have er : lr_fo (am_rd t n k) = -1 := by
            rcases Nat.lt_or_ge k n with q | q
            · rw [show am_rd t n k = nI (t k) from if_pos q, lr_fo_n _ (tb k)]; exact if_neg (fun w => c3 ⟨q, w⟩)
            · rw [show am_rd t n k = -1 from if_neg (by omega)]; decide
          rw [er]
          refine ⟨fun q => absurd rfl q, fun _ => ⟨Or.inl rfl, zf _ (by rw [ef2]; exact nz) (lr_fr_sI H.2.2.2.2.2.2 (by omega)) ?_⟩⟩
          rw [am_gI, if_pos ⟨rfl, rfl⟩, H.1.2.1, ef2]; rfl
      · have ea : lp_at t n k = lp_num t n k := if_pos c2
        rw [ea] at ef
        have gn := lp_num_g (a := 0) (by omega) (by omega) c2
        refine ⟨3, by omega, iX11_readsNumber (by omega) hn H (fun k' v h9 en H9 h13 => ⟨fun _ => ?_, fun q => absurd q (by decide)⟩) (fun h9 nz f9 e9 => ⟨fun q => absurd rfl q, fun _ => ?_⟩)⟩
        · rw [en] at ef gn
          rw [h13]
          have g1 := (gn.1 rfl).1
          have g2 : k < k' := g1
          refine ⟨1, by omega, iX11_notes (x := 0) (v := v) (by omega) H9 (fun h5 H5 => ?_)⟩
          exact zs 0 a b fs k' w w0 A 0 v h5 ef g2 H5 (by omega) rfl ok hf ht (by omega) (fun _ _ => rfl)
        · have ef2 : lp_FK t n (0) a b fs k = lp_num t n k := ef.trans (lp_b_f nz)
          exact zf h9 (by rw [ef2]; exact nz) f9 (by rw [ef2]; exact e9)
    · have c1' := e91.mp c1
      have ef := lp_FK_0 (t := t) (n := n) (a := a) (b := b) (fs := fs) c1' (by omega)
      have nz := (am_ft_n (x := 5) (k := k) (by omega) (by omega) (by omega)).2
      refine ⟨2, by omega, iX11_opens (x := 14) (by omega) (by omega) (by omega) c1'.1 H (fun lt => absurd lt (by omega)) (fun _ h' f' e' => ⟨fun q => absurd rfl q, fun _ => zf h' (by rw [ef]; exact nz) f' (by rw [ef]; exact e')⟩)⟩
  | succ c ih =>
    intro a b fs k w w0 A h u1 hc H ok hf ht hmw zf zs
    have tb := H.1.2.2.2.2.1
    have kn := H.1.2.2.1
    have e91 : am_rd t n k = 91 ↔ (k < n ∧ t k = 91) := am_rd_eq (x := 91) (by omega) tb
    have dgi : ((48 : Int32) ≤ am_rd t n k ∧ am_rd t n k ≤ 57) = cb_dg t n k := propext (am_rd_in (lo := 48) (hi := 57) (by omega) (by omega) tb)
    refine sX11_readsFactor_0c (by omega) ⟨am_ms_ok H.1, ?_⟩
    rw [am_ms_hr H.1, dgi]
    refine ⟨fun c1 => ?_, fun c1 => ?_⟩
    · have c1' : ¬ (k < n ∧ t k = 91) := fun q => c1 (e91.mpr q)
      have ef := lp_FK_at (t := t) (n := n) (c := (c + 1)) (a := a) (b := b) (fs := fs) c1'
      refine ⟨fun c2 => ?_, fun c2 => ?_⟩
      · have ea : lp_at t n k = lp_fa t n k := if_neg c2
        rw [ea] at ef
        refine ⟨1, by omega, iX11_factOf ?_⟩
        by_cases c3 : k < n ∧ lp_fi (t k) < 10
        · have e3 : lp_fa t n k = (0, k + 1, [(1, lp_fi (t k))]) := if_pos c3
          rw [e3] at ef
          have er : lr_fo (am_rd t n k) = nI (lp_fi (t k)) := by
            rw [show am_rd t n k = nI (t k) from if_pos c3.1, lr_fo_n _ (tb k)]; exact if_pos c3.2
          rw [er]
          refine ⟨fun _ => ⟨1, by omega, iX11_notes (x := 1) (v := lp_fi (t k)) (by omega) H (fun h5 H5 h6 e6 => ?_)⟩, fun q => absurd (show (-1 : Int32) < 0 by decide) (by rw [← q]; exact nI_pos (by have := c3.2; omega))⟩
          refine zs (c + 1) a b fs (k + 1) w w0 A 1 (lp_fi (t k)) h6 ef (by omega) (by rw [e6]; exact lr_nx H5 c3.1) (by omega) rfl ok hf ht (by omega) (fun _ _ => rfl)
        · have e3 : lp_fa t n k = (am_ft 1 k, k, []) := if_neg c3
          have nz := (am_ft_n (x := 1) (k := k) (by omega) (by omega) (by omega)).2
          rw [e3] at ef
          have ef2 : lp_FK t n (c + 1) a b fs k = (am_ft 1 k, k, []) := ef.trans (lp_b_f nz)
          have er : lr_fo (am_rd t n k) = -1 := by
            rcases Nat.lt_or_ge k n with q | q
            · rw [show am_rd t n k = nI (t k) from if_pos q, lr_fo_n _ (tb k)]; exact if_neg (fun w => c3 ⟨q, w⟩)
            · rw [show am_rd t n k = -1 from if_neg (by omega)]; decide
          rw [er]
          refine ⟨fun q => absurd rfl q, fun _ => ⟨Or.inl rfl, zf _ (by rw [ef2]; exact nz) (lr_fr_sI H.2.2.2.2.2.2 (by omega)) ?_⟩⟩
          rw [am_gI, if_pos ⟨rfl, rfl⟩, H.1.2.1, ef2]; rfl
      · have ea : lp_at t n k = lp_num t n k := if_pos c2
        rw [ea] at ef
        have gn := lp_num_g (a := 0) (by omega) (by omega) c2
        refine ⟨3, by omega, iX11_readsNumber (by omega) hn H (fun k' v h9 en H9 h13 => ⟨fun _ => ?_, fun q => absurd q (by decide)⟩) (fun h9 nz f9 e9 => ⟨fun q => absurd rfl q, fun _ => ?_⟩)⟩
        · rw [en] at ef gn
          rw [h13]
          have g1 := (gn.1 rfl).1
          have g2 : k < k' := g1
          refine ⟨1, by omega, iX11_notes (x := 0) (v := v) (by omega) H9 (fun h5 H5 => ?_)⟩
          exact zs (c + 1) a b fs k' w w0 A 0 v h5 ef g2 H5 (by omega) rfl ok hf ht (by omega) (fun _ _ => rfl)
        · have ef2 : lp_FK t n (c + 1) a b fs k = lp_num t n k := ef.trans (lp_b_f nz)
          exact zf h9 (by rw [ef2]; exact nz) f9 (by rw [ef2]; exact e9)
    · have c1' := e91.mp c1
      have ef := lp_FK_op (t := t) (n := n) (c := c) (a := a) (b := b) (fs := fs) c1'
      refine ⟨2, by omega, iX11_opens (x := 14) (by omega) (by omega) (by omega) c1'.1 H (fun lt h' H' => ⟨fun _ => ?_, fun q => absurd q (by decide)⟩) (fun q => by omega)⟩
      rw [show 6 - (c + 1) + 1 = 6 - c by omega] at H'
      have au : ∀ j, j < w → upd A w (nI (14 * 2 ^ 20)) j = A j := fun j hj => by unfold upd; rw [if_neg (by omega)]
      have l3 := hf.2.2
      have le := lr_tl_le ht
      rw [ef] at zf zs
      refine ih 0 0 ((a, b) :: fs) (k + 1) (w + 1) (w + 1) _ h' u1 (by omega) H' ⟨Or.inl rfl, Or.inl rfl⟩ ⟨fun q => absurd rfl q, fun q => absurd rfl q, rfl⟩ ⟨w0, w, lr_tl_cg (fun j hj => au j (by omega)) ht, lr_f_cg au hf, ok, by unfold upd; rw [if_pos rfl], rfl⟩ (by omega) zf (fun c' a' b' fs' k' w' w0' A' x v h9 y1 y2 y3 y4 y5 y6 y7 y8 y9 y10 => zs c' a' b' fs' k' w' w0' A' x v h9 y1 (by omega) y3 y4 (by rw [y5, List.length_cons]; omega) y6 y7 y8 y9 (fun j hj => (y10 j hj).trans (au j (by omega))))
end
