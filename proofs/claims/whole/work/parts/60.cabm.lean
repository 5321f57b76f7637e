-- the cabinet's text: the reference, line by line
def am_ms (t : Nat → Nat) (n k : Nat) (h : am_H) : Prop := h.1 73 11 = nI n ∧ h.1 73 10 = nI k ∧ k ≤ n ∧ n ≤ 260 ∧ (∀ i, t i < 256) ∧ ∀ i, i < n → h.2.2 80 i &&& 255 = nI (t i)
theorem am_sb_i {a c : Nat} (ha : a < 2 ^ 30) (hc : c < 2 ^ 30) : (nI a - nI c).toInt = (a : Int) - c := by
  rw [Int32.toInt_sub, nI_toInt (by omega), nI_toInt (by omega)]
  apply Int.bmod_eq_of_le <;> omega
theorem am_sb_r {a c w : Nat} (ha : a < 2 ^ 30) (hc : c < 2 ^ 30) (hw : w < 2 ^ 30) : (0 ≤ nI a - nI c ∧ nI a - nI c ≤ nI w) ↔ (c ≤ a ∧ a ≤ c + w) := by
  rw [Int32.le_iff_toInt_le, Int32.le_iff_toInt_le, am_sb_i ha hc, nI_toInt (by omega), show (0 : Int32).toInt = 0 from rfl]
  omega
section
variable {t : Nat → Nat} {n k : Nat} {h : am_H}
theorem am_ms_hr (q : am_ms t n k h) : am_hr h = am_rd t n k := by
  obtain ⟨a1, a2, a3, a4, a5, a6⟩ := q
  unfold am_hr am_rd
  rw [a1, a2]
  rcases Nat.lt_or_ge k n with c | c
  · rw [if_neg (nI_ge c (by omega)), if_pos c, nI_clamp (by omega)]; exact a6 k c
  · rw [if_pos (nI_le c (by omega)), if_neg (by omega)]
theorem am_ms_ok (q : am_ms t n k h) : am_hok h := fun c => by
  obtain ⟨a1, a2, a3, a4, a5, a6⟩ := q
  rw [a1, a2] at c
  rw [a2]
  rcases Nat.lt_or_ge k n with w | w
  · exact vp_in_nI (by omega) (by omega)
  · exact absurd (nI_le w (by omega)) c
theorem am_ms_nx (q : am_ms t n k h) (hk : k < n) : am_ms t n (k + 1) (am_sI h 73 10 (h.1 73 10 + 1)) := by
  obtain ⟨a1, a2, a3, a4, a5, a6⟩ := q
  exact ⟨by rw [am_gI, if_neg (by decide)]; exact a1, by rw [am_gI, if_pos ⟨rfl, rfl⟩, a2, nI_1], by omega, a4, a5, a6⟩
theorem am_ms_sI {j : Nat} {x : Int32} (q : am_ms t n k h) (h1 : j ≠ 10) (h2 : j ≠ 11) : am_ms t n k (am_sI h 73 j x) := by
  obtain ⟨a1, a2, a3, a4, a5, a6⟩ := q
  exact ⟨by rw [am_gI, if_neg (fun e => h2 e.2.symm)]; exact a1, by rw [am_gI, if_neg (fun e => h1 e.2.symm)]; exact a2, a3, a4, a5, a6⟩
theorem am_ms_sR {a : Nat} {f : Nat → Int32} (q : am_ms t n k h) (ha : a ≠ 80) : am_ms t n k (am_sR h a f) := by
  obtain ⟨a1, a2, a3, a4, a5, a6⟩ := q
  exact ⟨a1, a2, a3, a4, a5, fun i hi => by rw [am_gR, if_neg (fun e => ha e.symm)]; exact a6 i hi⟩
theorem am_rd_sb {lo w : Nat} (hl : lo < 256) (hw : w < 256) (tb : ∀ i, t i < 256) : (0 ≤ am_rd t n k - nI lo ∧ am_rd t n k - nI lo ≤ nI w) ↔ (k < n ∧ lo ≤ t k ∧ t k ≤ lo + w) := by
  have b := tb k
  unfold am_rd
  rcases Nat.lt_or_ge k n with c | c
  · rw [if_pos c, am_sb_r (by omega) (by omega) (by omega)]; exact ⟨fun q => ⟨c, q⟩, fun q => q.2⟩
  · rw [if_neg (by omega)]
    refine ⟨fun q => ?_, fun q => by omega⟩
    have q1 := q.1
    have e : (-1 - nI lo : Int32).toInt = -1 - (lo : Int) := by
      rw [Int32.toInt_sub, nI_toInt (by omega), show (-1 : Int32).toInt = -1 from rfl]
      apply Int.bmod_eq_of_le <;> omega
    rw [Int32.le_iff_toInt_le, e, show (0 : Int32).toInt = 0 from rfl] at q1
    omega
end
/-- what the reference has read -/
def cm_I (h : am_H) (B : am_AB) : Prop := h.1 73 38 = nI (q_n B) ∧ (∃ S, S < 2 ^ 12 ∧ h.1 73 37 = nI S ∧ ∀ i, i < 12 → (S.testBit i = true ↔ 0 < q_r B i)) ∧ (∀ i, i < 12 → 0 < q_r B i → h.2.2 94 i = nI (q_r B i) ∧ h.2.2 95 i = nI (q_F B i)) ∧ ∀ p, p < q_n B → h.2.2 96 p = nI (q_su B p) ∧ h.2.2 97 p = nI (q_si B p) ∧ h.2.2 98 p = q_w1 (q_w B p)
def cm_fr (h h' : am_H) : Prop := (∀ a, ¬ (94 ≤ a ∧ a ≤ 98) → h'.2.2 a = h.2.2 a) ∧ (∀ a k, ¬ (a = 73 ∧ (k = 10 ∨ k = 12 ∨ k = 13 ∨ k = 37 ∨ k = 38 ∨ k = 39)) → h'.1 a k = h.1 a k) ∧ h'.2.1 = h.2.1
theorem cm_fr_rf (h : am_H) : cm_fr h h := ⟨fun _ _ => rfl, fun _ _ _ => rfl, rfl⟩
theorem cm_fr_tr {h h1 h2 : am_H} (p : cm_fr h h1) (q : cm_fr h1 h2) : cm_fr h h2 := ⟨fun a n1 => (q.1 a n1).trans (p.1 a n1), fun a k n1 => (q.2.1 a k n1).trans (p.2.1 a k n1), q.2.2.trans p.2.2⟩
theorem cm_fr_sI {h h1 : am_H} {j : Nat} {x : Int32} (p : cm_fr h h1) (hj : j = 10 ∨ j = 12 ∨ j = 13 ∨ j = 37 ∨ j = 38 ∨ j = 39) : cm_fr h (am_sI h1 73 j x) := ⟨p.1, fun a k n1 => by rw [am_gI, if_neg (fun e => n1 ⟨e.1, by omega⟩)]; exact p.2.1 a k n1, p.2.2⟩
theorem cm_fr_sR {h h1 : am_H} {a : Nat} {f : Nat → Int32} (p : cm_fr h h1) (ha : 94 ≤ a ∧ a ≤ 98) : cm_fr h (am_sR h1 a f) := ⟨fun a' n1 => by rw [am_gR, if_neg (fun e => n1 (by omega))]; exact p.1 a' n1, p.2.1, p.2.2⟩
def cm_oc (t : Nat → Nat) (n ln : Nat) (h h' : am_H) (o : Int32 × Nat × am_AB) : Prop := cm_fr h h' ∧ ((o.1 = 0 ∧ am_ms t n o.2.1 h' ∧ cm_I h' o.2.2 ∧ h'.1 73 39 = nI (ln + 1)) ∨ (¬ o.1 = 0 ∧ h'.1 73 12 = o.1))
abbrev cm_r (o : Int32 × Nat × am_AB) : Int32 := if o.1 = 0 then 1 else 0
section
variable {d n k ln : Nat} {h : am_H} {Z : Int32 → am_H → Prop} {B : am_AB} {t : Nat → Nat}
theorem cm_I_sI {j : Nat} {x : Int32} (q : cm_I h B) (h1 : j ≠ 37) (h2 : j ≠ 38) : cm_I (am_sI h 73 j x) B := by
  obtain ⟨a1, a2, a3, a4⟩ := q
  refine ⟨by rw [am_gI, if_neg (fun e => h2 e.2.symm)]; exact a1, ?_, a3, a4⟩
  obtain ⟨S, s1, s2, s3⟩ := a2
  exact ⟨S, s1, by rw [am_gI, if_neg (fun e => h1 e.2.symm)]; exact s2, s3⟩
theorem cm_has {i : Nat} (q : cm_I h B) (hi : i < 12) : am_has (h.1 73 37) (nI i) ↔ 0 < q_r B i := by
  obtain ⟨_, ⟨S, s1, s2, s3⟩, _, _⟩ := q
  rw [s2]
  exact (am_bit_n (S := S) (i := i) (by omega) (by omega)).trans (s3 i hi)
theorem cm_bad {x y : Nat} {h1 : am_H} {o : Int32 × Nat × am_AB} (hf : cm_fr h h1) (x1 : 1 ≤ x) (x8 : x ≤ 8) (yb : y ≤ 260) (e : o.1 = am_ft x y) (ey : h1.1 73 10 = nI y) (z : ∀ h', cm_oc t n ln h h' o → Z (cm_r o) h') : ((0 : Int32) = 0 ∨ (0 : Int32) = 1) ∧ Z (0 : Int32) (am_sI h1 73 12 ((-1000) * nI x - h1.1 73 10)) := by
  have ne := (am_ft_n x1 x8 yb).2
  refine ⟨Or.inl rfl, ?_⟩
  have w := z (am_sI h1 73 12 ((-1000) * nI x - h1.1 73 10)) ⟨cm_fr_sI hf (by omega), Or.inr ⟨by rw [e]; exact ne, by rw [am_gI, if_pos ⟨rfl, rfl⟩, ey, e]; rfl⟩⟩
  unfold cm_r at w
  rw [if_neg (by rw [e]; exact ne)] at w; exact w
theorem cm_tl {i v : Nat} (hB : q_ok B) (hi : i < 12) (h0 : q_r B i = 0) (hv : 1 ≤ v) (hI : cm_I h B) : cm_I (am_sI (am_sR (am_sR h 94 (upd (h.2.2 94) i (nI v))) 95 (upd (h.2.2 95) i 0)) 73 37 (h.1 73 37 ||| (1 <<< (nI i &&& 31)))) (q_tl B i v) := by
  obtain ⟨a1, ⟨S, s1, s2, s3⟩, a3, a4⟩ := hI
  have fz : q_F B i = 0 := by have := (hB.2.2.2.1 i hi).2; omega
  refine ⟨by rw [am_gI, if_neg (by decide)]; exact a1, ⟨S ||| 2 ^ i, Nat.or_lt_two_pow s1 (Nat.pow_lt_pow_right (by decide) hi), by rw [am_gI, if_pos ⟨rfl, rfl⟩, s2, am_shl1 (by omega), fa_or], fun j hj => ?_⟩, fun j hj hr => ?_, fun p hp => ?_⟩
  · rw [fb_bit_set]
    show _ ↔ 0 < am_un (q_r B) i v j
    unfold am_un
    by_cases c : j = i
    · subst c; simp; omega
    · simp [c]; exact s3 j hj
  · have hr' : 0 < am_un (q_r B) i v j := hr
    rw [am_gI2, am_gR, if_neg (by decide), am_gRs, am_gRs]
    show upd _ _ _ j = nI (am_un (q_r B) i v j) ∧ upd _ _ _ j = nI (q_F B j)
    unfold upd am_un
    unfold am_un at hr'
    by_cases c : j = i
    · subst c; rw [if_pos rfl, if_pos rfl, if_pos rfl, fz]; exact ⟨rfl, rfl⟩
    · rw [if_neg c] at hr'
      rw [if_neg c, if_neg c, if_neg c]; exact a3 j hj hr'
  · rw [am_gI2, am_gR, if_neg (by decide), am_gR, if_neg (by decide), am_gR, if_neg (by decide), am_gR, if_neg (by decide), am_gR, if_neg (by decide), am_gR, if_neg (by decide)]
    exact a4 p hp
theorem iX11_readsRoom (hd : 4 ≤ d) (hk : 97 ≤ t k ∧ t k ≤ 108) (hS : am_ms t n (k + 1) h) (hI : cm_I h B) (hB : q_ok B) (h0 : q_r B (t k - 97) = 0) (hl : h.1 73 39 = nI (ln + 1)) (z : ∀ h', cm_oc t n ln h h' (cb_rm t n k B) → Z (cm_r (cb_rm t n k B)) h') : Sp mX11_readsRoom d [.ref 73, .int (nI (t k - 97))] h Z := by
  have tb := hS.2.2.2.2.1
  have hn := hS.2.2.2.1
  have hkn := hS.2.2.1
  have dgi : ∀ j, ((48 : Int32) ≤ am_rd t n j ∧ am_rd t n j ≤ 57) = cb_dg t n j := fun j => propext (am_rd_in (lo := 48) (hi := 57) (by omega) (by omega) tb)
  have fin : ∀ (g : am_H) (k' v : Nat), am_ms t n k' g → cm_fr h g → cm_I g B → g.1 73 39 = nI (ln + 1) → g.1 73 13 = nI v → ¬ cb_dg t n k' → v ≤ 99 → cb_rm t n k B = (if v = 0 then (am_ft 3 (k + 1), k, B) else (0, k', q_tl B (t k - 97) v)) → Ru mX11_readsRoom none d 27 [.ref 73, .int (nI (t k - 97)), .int (nI (k + 1))] [] g Z := fun g k' v S' f' I' l' nv nd v99 e => by
    refine sX11_readsRoom_27 (by omega) ?_
    rw [am_ms_hr S', dgi, nv, show nI v = 0 ↔ v = 0 from nI_eq (b := 0) (by omega) (by omega)]
    refine ⟨am_ms_ok S', fun _ => ⟨fun c => ⟨vp_in_nI (by omega) (by omega), fun h3 e3 h4 e4 h5 e5 => ?_⟩, fun c => ?_⟩, fun q => absurd q nd⟩
    · rw [if_neg c] at e
      rw [nI_clamp (by omega)] at e3 e4
      subst e3
      rw [am_gR, if_neg (by decide)] at e4
      subst e4
      subst e5
      rw [am_gRi, am_gRi]
      have w := z (am_sI (am_sR (am_sR g 94 (upd (g.2.2 94) (t k - 97) (nI v))) 95 (upd (g.2.2 95) (t k - 97) 0)) 73 37 (g.1 73 37 ||| (1 <<< (nI (t k - 97) &&& 31)))) ⟨cm_fr_sI (cm_fr_sR (cm_fr_sR f' (by omega)) (by omega)) (by omega), Or.inl (by
        rw [e]
        exact ⟨rfl, am_ms_sI (am_ms_sR (am_ms_sR S' (by decide)) (by decide)) (by decide) (by decide), cm_tl hB (by omega) h0 (by omega) I', by rw [am_gI, if_neg (by decide)]; exact l'⟩)⟩
      rw [e] at w
      exact w
    · rw [if_pos c] at e
      have ne := (am_ft_n (x := 3) (k := k + 1) (by omega) (by omega) (by omega)).2
      refine ⟨Or.inl rfl, ?_⟩
      have w := z (am_sI g 73 12 ((-1000) * 3 - nI (k + 1))) ⟨cm_fr_sI f' (by omega), Or.inr (by rw [e]; exact ⟨ne, by rw [am_gI, if_pos ⟨rfl, rfl⟩]; rfl⟩)⟩
      unfold cm_r at w
      rw [e, if_neg ne] at w; exact w
  have stp : ∀ (g : am_H) (k' v : Nat), am_ms t n k' g → cm_fr h g → cm_I g B → g.1 73 39 = nI (ln + 1) → g.1 73 13 = nI v → cb_dg t n k' → ¬ k' = k + 3 → v ≤ 9 → (∀ g', am_ms t n (k' + 1) g' → cm_fr h g' → cm_I g' B → g'.1 73 39 = nI (ln + 1) → g'.1 73 13 = nI (10 * v + (t k' - 48)) → Ru mX11_readsRoom none d 27 [.ref 73, .int (nI (t k - 97)), .int (nI (k + 1))] [] g' Z) → Ru mX11_readsRoom none d 27 [.ref 73, .int (nI (t k - 97)), .int (nI (k + 1))] [] g Z := fun g k' v S' f' I' l' nv dg ne v9 nx => by
    have hk' := S'.2.2.1
    refine sX11_readsRoom_27 (by omega) ?_
    rw [am_ms_hr S', dgi, nv, S'.2.1, show nI (k + 1) + 2 = nI (k + 3) from nI_add (k + 1) 2, nI_eq (by omega) (by omega)]
    refine ⟨am_ms_ok S', fun q => absurd dg q, fun _ => ⟨fun _ h7 e7 h8 e8 => ?_, fun q => absurd q ne⟩⟩
    have e1 : am_rd t n k' = nI (t k') := if_pos dg.1
    have e49 : (10 * nI v + nI (t k')) - 48 = nI (10 * v + (t k' - 48)) := by
      rw [show (10 : Int32) * nI v = nI (10 * v) from pk_mul 10 _, nI_add, show nI (10 * v + t k') - 48 = nI (10 * v + t k' - 48) from am_sub_n (c := 48) (by omega)]
      congr 1
      omega
    rw [e1, e49] at e7
    subst e7
    subst e8
    refine nx _ (am_ms_nx (am_ms_sI S' (by decide) (by decide)) dg.1) (cm_fr_sI (cm_fr_sI f' (by omega)) (by omega)) (cm_I_sI (cm_I_sI I' (by decide) (by decide)) (by decide) (by decide)) ?_ ?_
    · rw [am_gI, if_neg (by decide), am_gI, if_neg (by decide)]; exact l'
    · rw [am_gI, if_neg (by decide), am_gI, if_pos ⟨rfl, rfl⟩]
  refine Sp_of mf_X11_readsRoom rfl (Nat.le_of_ble_eq_true rfl) rfl (sX11_readsRoom_0 (by omega) ?_)
  rw [am_ms_hr hS, dgi]
  refine ⟨am_ms_ok hS, fun c1 h2 e2 => ?_, fun c1 => ?_⟩
  · rw [hS.2.1]
    subst e2
    refine stp _ (k + 1) 0 (am_ms_sI hS (by decide) (by decide)) (cm_fr_sI (cm_fr_rf h) (by omega)) (cm_I_sI hI (by decide) (by decide)) (by rw [am_gI, if_neg (by decide)]; exact hl) (by rw [am_gI, if_pos ⟨rfl, rfl⟩]; rfl) c1 (by omega) (by omega) (fun g1 S1 f1 I1 l1 n1 => ?_)
    rw [Nat.mul_zero, Nat.zero_add] at n1
    by_cases c2 : cb_dg t n (k + 2)
    · refine stp g1 (k + 2) _ S1 f1 I1 l1 n1 c2 (by omega) (by omega) (fun g2 S2 f2 I2 l2 n2 => ?_)
      by_cases c3 : cb_dg t n (k + 3)
      · refine sX11_readsRoom_27 (by omega) ?_
        rw [am_ms_hr S2, dgi, S2.2.1, show nI (k + 1) + 2 = nI (k + 2 + 1) from nI_add (k + 1) 2]
        refine ⟨am_ms_ok S2, fun q => absurd c3 q, fun _ => ⟨fun q => absurd rfl q, fun _ => ?_⟩⟩
        have w := cm_bad (x := 2) (y := k + 3) (o := cb_rm t n k B) f2 (by omega) (by omega) (by omega) (by unfold cb_rm; rw [if_neg (fun q => q c1), if_pos c2, if_pos c3]) S2.2.1 z
        rw [S2.2.1] at w; exact w
      · exact fin g2 (k + 3) _ S2 f2 I2 l2 n2 c3 (by omega) (by unfold cb_rm; rw [if_neg (fun q => q c1), if_pos c2, if_neg c3])
    · exact fin g1 (k + 2) _ S1 f1 I1 l1 n1 c2 (by omega) (by unfold cb_rm; rw [if_neg (fun q => q c1), if_neg c2])
  · exact cm_bad (x := 1) (y := k + 1) (cm_fr_rf h) (by omega) (by omega) (by omega) (by unfold cb_rm; rw [if_pos c1]) hS.2.1 z
theorem cm_ap {u v : Nat} (hI : cm_I h B) (h1 : am_H) (e1 : h1.1 73 38 = nI (q_n B + 1)) (e2 : h1.1 73 37 = h.1 73 37) (e3 : h1.2.2 94 = h.2.2 94) (e4 : h1.2.2 95 = h.2.2 95) (e5 : h1.2.2 96 = upd (h.2.2 96) (q_n B) (nI u)) (e6 : h1.2.2 97 = upd (h.2.2 97) (q_n B) (nI v)) (e7 : h1.2.2 98 = upd (h.2.2 98) (q_n B) (-1)) : cm_I h1 (q_ap B u v) := by
  obtain ⟨a1, ⟨S, s1, s2, s3⟩, a3, a4⟩ := hI
  refine ⟨e1, ⟨S, s1, by rw [e2]; exact s2, s3⟩, fun j hj hr => ?_, fun p hp => ?_⟩
  · rw [e3, e4, q_F_ap B u v hj]; exact a3 j hj hr
  · have hp' : p < q_n B + 1 := hp
    rw [e5, e6, e7]
    show upd _ _ _ p = nI (am_un _ _ _ p) ∧ upd _ _ _ p = nI (am_un _ _ _ p) ∧ upd _ _ _ p = q_w1 (am_un _ _ _ p)
    unfold upd am_un
    by_cases c : p = q_n B
    · subst c
      simp only [if_true]
      exact ⟨trivial, trivial, q_w1_out.symm⟩
    · simp only [c, if_false]
      exact a4 p (by omega)
theorem iX11_readsPaper (hd : 2 ≤ d) (hk : k < n ∧ 65 ≤ t k ∧ t k ≤ 80) (hS : am_ms t n k h) (hI : cm_I h B) (hB : q_ok B) (hn24 : q_n B < 24) (hl : h.1 73 39 = nI (ln + 1)) (z : ∀ h', cm_oc t n ln h h' (cb_pp t n k B) → Z (cm_r (cb_pp t n k B)) h') : Sp mX11_readsPaper d [.ref 73] h Z := by
  obtain ⟨k1, k2, k3⟩ := hk
  have tb := hS.2.2.2.2.1
  have hn := hS.2.2.2.1
  have r49 : ∀ j, ((49 : Int32) ≤ am_rd t n j ∧ am_rd t n j ≤ 57) = (j < n ∧ 49 ≤ t j ∧ t j ≤ 57) := fun j => propext (am_rd_in (lo := 49) (hi := 57) (by omega) (by omega) tb)
  have dli : ∀ j, ((0 : Int32) ≤ am_rd t n j - 97 ∧ am_rd t n j - 97 ≤ 11) = cb_dl t n j := fun j => propext (am_rd_sb (lo := 97) (w := 11) (by omega) (by omega) tb)
  have n8 : ∀ g : am_H, g.1 73 38 = nI (q_n B) → vp_in (g.1 73 38) 24 := fun g e => by rw [e]; exact vp_in_nI (by omega) (by omega)
  have c8 : (nI (q_n B)).toNatClampNeg = q_n B := nI_clamp (by omega)
  refine Sp_of mf_X11_readsPaper rfl (Nat.le_of_ble_eq_true rfl) rfl (sX11_readsPaper_0 hd ⟨am_ms_ok hS, n8 h hI.1, fun h3 e3 h4 e4 => ?_⟩)
  have e0 : am_rd t n k = nI (t k) := if_pos k1
  rw [am_ms_hr hS, e0, show nI (t k) - 65 = nI (t k - 65) from am_sub_n (c := 65) k2, hI.1, c8] at e3
  have S3 : am_ms t n k h3 := by rw [e3]; exact am_ms_sR hS (by decide)
  have f3 : cm_fr h h3 := by rw [e3]; exact cm_fr_sR (cm_fr_rf h) (by omega)
  have i3 : h3.1 = h.1 := by rw [e3]; rfl
  have S4 : am_ms t n (k + 1) h4 := by rw [e4]; exact am_ms_nx S3 k1
  have f4 : cm_fr h h4 := by rw [e4]; exact cm_fr_sI f3 (by omega)
  have i4 : ∀ j, j ≠ 10 → h4.1 73 j = h.1 73 j := fun j hj => by rw [e4, am_gI, if_neg (fun e => hj e.2), i3]
  have A4 : h4.2.2 = h3.2.2 := by rw [e4]; rfl
  have p4 : h4.1 73 38 = nI (q_n B) := by rw [i4 38 (by decide)]; exact hI.1
  rw [am_ms_hr S4, r49, p4, c8]
  refine ⟨am_ms_ok S4, fun c1 => ⟨vp_in_nI (by omega) (by omega), fun h7 e7 => ?_⟩, fun c1 => cm_bad (x := 1) (y := k + 1) f4 (by omega) (by omega) (by omega) (by unfold cb_pp; rw [if_pos c1]) S4.2.1 z⟩
  have e1 : am_rd t n (k + 1) = nI (t (k + 1)) := if_pos c1.1
  have e48 : nI (t (k + 1)) - 48 = nI (t (k + 1) - 48) := am_sub_n (c := 48) (by omega)
  rw [e1, e48] at e7 ⊢
  have p7 : h7.1 73 38 = nI (q_n B) := by rw [e7]; exact p4
  rw [p7, c8]
  refine ⟨vp_in_nI (by omega) (by omega), fun h9 e9 h10 e10 => ?_⟩
  have S9 : am_ms t n (k + 1) h9 := by rw [e9, e7]; exact am_ms_sR (am_ms_sR S4 (by decide)) (by decide)
  have S10 : am_ms t n (k + 2) h10 := by rw [e10]; exact am_ms_nx S9 c1.1
  have f10 : cm_fr h h10 := by rw [e10, e9, e7]; exact cm_fr_sI (cm_fr_sR (cm_fr_sR f4 (by omega)) (by omega)) (by omega)
  have i10 : ∀ j, j ≠ 10 → h10.1 73 j = h.1 73 j := fun j hj => by rw [e10, am_gI, if_neg (fun e => hj e.2), e9, e7]; exact i4 j hj
  have B94 : h10.2.2 94 = h.2.2 94 := by rw [e10, am_gI2, e9, am_gR, if_neg (by decide), e7, am_gR, if_neg (by decide), A4, e3, am_gR, if_neg (by decide)]
  have B95 : h10.2.2 95 = h.2.2 95 := by rw [e10, am_gI2, e9, am_gR, if_neg (by decide), e7, am_gR, if_neg (by decide), A4, e3, am_gR, if_neg (by decide)]
  have B96 : h10.2.2 96 = upd (h.2.2 96) (q_n B) (nI (t k - 65)) := by rw [e10, am_gI2, e9, am_gR, if_neg (by decide), e7, am_gR, if_neg (by decide), A4, e3, am_gRs]
  have B97 : h10.2.2 97 = upd (h.2.2 97) (q_n B) (nI (t (k + 1) - 48)) := by rw [e10, am_gI2, e9, am_gR, if_neg (by decide), e7, am_gRs, A4, e3, am_gR, if_neg (by decide)]
  have B98 : h10.2.2 98 = upd (h.2.2 98) (q_n B) (-1) := by rw [e10, am_gI2, e9, am_gRs, e7, am_gR, if_neg (by decide), A4, e3, am_gR, if_neg (by decide)]
  have p10 : h10.1 73 38 = nI (q_n B) := by rw [i10 38 (by decide)]; exact hI.1
  have okA : q_ok (q_ap B (t k - 65) (t (k + 1) - 48)) := q_ok_ap hB hn24 (by omega) (by omega) (by omega)
  rw [am_ms_hr S10, show (am_rd t n (k + 2) = 62) = (k + 2 < n ∧ t (k + 2) = 62) from propext (am_rd_eq (x := 62) (by omega) tb), p10, nI_1]
  refine ⟨am_ms_ok S10, fun c2 h12 e12 => ?_, fun c2 h13 e13 => ?_⟩
  · have eo : cb_pp t n k B = (0, k + 2, q_ap B (t k - 65) (t (k + 1) - 48)) := by unfold cb_pp; rw [if_neg (fun q => q c1), if_neg c2]
    have w := z h12 ⟨by rw [e12]; exact cm_fr_sI f10 (by omega), Or.inl (by
      rw [eo, e12]
      refine ⟨rfl, am_ms_sI S10 (by decide) (by decide), cm_ap hI _ ?_ ?_ B94 B95 B96 B97 B98, ?_⟩
      · rw [am_gI, if_pos ⟨rfl, rfl⟩]
      · rw [am_gI, if_neg (by decide)]; exact i10 37 (by decide)
      · rw [am_gI, if_neg (by decide)]; exact (i10 39 (by decide)).trans hl)⟩
    rw [eo] at w; exact w
  · have S13 : am_ms t n (k + 3) h13 := by rw [e13]; exact am_ms_nx S10 c2.1
    have f13 : cm_fr h h13 := by rw [e13]; exact cm_fr_sI f10 (by omega)
    have i13 : ∀ j, j ≠ 10 → h13.1 73 j = h.1 73 j := fun j hj => by rw [e13, am_gI, if_neg (fun e => hj e.2)]; exact i10 j hj
    have A13 : h13.2.2 = h10.2.2 := by rw [e13]; rfl
    have h37 : h13.1 73 37 = h.1 73 37 := i13 37 (by decide)
    rw [am_ms_hr S13, dli, h37]
    refine ⟨am_ms_ok S13, fun c3 => ?_, fun c3 => cm_bad (x := 1) (y := k + 3) f13 (by omega) (by omega) (by omega) (by unfold cb_pp; rw [if_neg (fun q => q c1), if_pos c2, if_pos c3]) S13.2.1 z⟩
    have e3' : am_rd t n (k + 3) = nI (t (k + 3)) := if_pos c3.1
    have e97 : nI (t (k + 3)) - 97 = nI (t (k + 3) - 97) := am_sub_n (c := 97) c3.2.1
    rw [e3', e97, cm_has hI (by omega), nI_clamp (by omega)]
    refine ⟨fun c4 => ⟨vp_in_nI (by omega) (by omega), ?_⟩, fun c4 => cm_bad (x := 7) (y := k + 3) f13 (by omega) (by omega) (by omega) (by unfold cb_pp; rw [if_neg (fun q => q c1), if_pos c2, if_neg (fun q => q c3), if_pos c4]) S13.2.1 z⟩
    have rr := hB.2.2.2.1 (t (k + 3) - 97) (by omega)
    have r3 := hI.2.2.1 (t (k + 3) - 97) (by omega) c4
    rw [A13, B94, B95, r3.1, r3.2, nI_add, nI_leI (by omega) (by omega)]
    have cc : q_F B (t (k + 3) - 97) + (t (k + 1) - 48) ≤ q_r B (t (k + 3) - 97) ↔ (t (k + 1) - 48) + q_F B (t (k + 3) - 97) ≤ q_r B (t (k + 3) - 97) := by omega
    rw [cc]
    refine ⟨fun c5 h16 e16 => ?_, fun c5 => cm_bad (x := 8) (y := k + 3) f13 (by omega) (by omega) (by omega) (by unfold cb_pp; rw [if_neg (fun q => q c1), if_pos c2, if_neg (fun q => q c3), if_neg (fun q => q c4), if_pos c5]) S13.2.1 z⟩
    have p16 : h16.1 73 38 = nI (q_n B) := by rw [e16]; exact (i13 38 (by decide)).trans hI.1
    rw [p16, c8]
    refine ⟨vp_in_nI (by omega) (by omega), fun h18 e18 h19 e19 h20 e20 => ?_⟩
    have eo : cb_pp t n k B = (0, k + 4, q_mv (q_ap B (t k - 65) (t (k + 1) - 48)) (q_n B) (t (k + 3) - 97)) := by unfold cb_pp; rw [if_neg (fun q => q c1), if_pos c2, if_neg (fun q => q c3), if_neg (fun q => q c4), if_neg (fun q => q c5)]
    have pn : q_n B < q_n (q_ap B (t k - 65) (t (k + 1) - 48)) := Nat.lt_succ_self _
    have i18 : h18.1 = h13.1 := by rw [e18, e16]; rfl
    have S18 : am_ms t n (k + 3) h18 := by rw [e18, e16]; exact am_ms_sR (am_ms_sR S13 (by decide)) (by decide)
    have i19 : ∀ j, j ≠ 10 → h19.1 73 j = h.1 73 j := fun j hj => by rw [e19, am_gI, if_neg (fun e => hj e.2), i18]; exact i13 j hj
    have p19 : h19.1 73 38 = nI (q_n B) := (i19 38 (by decide)).trans hI.1
    rw [p19, nI_1] at e20
    have D95 : h20.2.2 95 = upd (h.2.2 95) (t (k + 3) - 97) (nI (q_F B (t (k + 3) - 97) + (t (k + 1) - 48))) := by rw [e20, am_gI2, e19, am_gI2, e18, am_gR, if_neg (by decide), e16, am_gRs]
    have D98 : h20.2.2 98 = upd (upd (h.2.2 98) (q_n B) (-1)) (q_n B) (nI (t (k + 3) - 97)) := by rw [e20, am_gI2, e19, am_gI2, e18, am_gRs, e16, am_gR, if_neg (by decide), A13, B98]
    have Dx : ∀ a, a ≠ 95 → a ≠ 98 → h20.2.2 a = h10.2.2 a := fun a n1 n2 => by rw [e20, am_gI2, e19, am_gI2, e18, am_gR, if_neg n2, e16, am_gR, if_neg n1, A13]
    have w := z h20 ⟨by rw [e20, e19, e18, e16]; exact cm_fr_sI (cm_fr_sI (cm_fr_sR (cm_fr_sR f13 (by omega)) (by omega)) (by omega)) (by omega), Or.inl (by
      rw [eo]
      refine ⟨rfl, by rw [e20]; exact am_ms_sI (by rw [e19]; exact am_ms_nx S18 c3.1) (by decide) (by decide), ⟨?_, ?_, fun j hj hr => ?_, fun p hp => ?_⟩, ?_⟩
      · rw [e20, am_gI, if_pos ⟨rfl, rfl⟩]
      · obtain ⟨S, s1, s2, s3⟩ := hI.2.1
        exact ⟨S, s1, by rw [e20, am_gI, if_neg (by decide), i19 37 (by decide)]; exact s2, s3⟩
      · have a3 := hI.2.2.1 j hj hr
        have g12 : q_go (q_ap B (t k - 65) (t (k + 1) - 48)) (q_n B) 12 = q_ap B (t k - 65) (t (k + 1) - 48) := q_go12 _ (am_un_s _ _ _)
        have esz : q_si (q_ap B (t k - 65) (t (k + 1) - 48)) (q_n B) = t (k + 1) - 48 := am_un_s _ _ _
        rw [Dx 94 (by decide) (by decide), B94, D95, q_F_mv pn (by omega) j hj, g12, q_F_ap B _ _ hj, esz]
        refine ⟨a3.1, ?_⟩
        unfold upd
        by_cases c : j = t (k + 3) - 97
        · rw [if_pos c, if_pos c.symm, c]
        · rw [if_neg c, if_neg (fun e => c e.symm), Nat.add_zero]; exact a3.2
      · have hp' : p < q_n B + 1 := hp
        rw [Dx 96 (by decide) (by decide), Dx 97 (by decide) (by decide), B96, B97, D98]
        show upd _ _ _ p = nI (am_un _ _ _ p) ∧ upd _ _ _ p = nI (am_un _ _ _ p) ∧ upd (upd _ _ _) _ _ p = q_w1 (am_un (am_un _ _ _) _ _ p)
        unfold upd am_un
        by_cases c : p = q_n B
        · subst c
          simp only [if_true]
          exact ⟨trivial, trivial, (q_w1_in (by omega)).symm⟩
        · simp only [c, if_false]
          exact hI.2.2.2 p (by omega)
      · rw [e20, am_gI, if_neg (by decide)]; exact (i19 39 (by decide)).trans hl)⟩
    rw [eo] at w; exact w
theorem iX11_readsLine (hd : 6 ≤ d) (hln : ln ≤ 36) (hS : am_ms t n k h) (hI : cm_I h B) (hB : q_ok B) (hl : h.1 73 39 = nI ln) (z : ∀ h', cm_oc t n ln h h' (cb_ln t n ln k B) → Z (cm_r (cb_ln t n ln k B)) h') : Sp mX11_readsLine d [.ref 73] h Z := by
  have tb := hS.2.2.2.2.1
  have hn := hS.2.2.2.1
  have hkn := hS.2.2.1
  have hn24 := hB.1
  have dli : ((0 : Int32) ≤ am_rd t n k - 97 ∧ am_rd t n k - 97 ≤ 11) = cb_dl t n k := propext (am_rd_sb (lo := 97) (w := 11) (by omega) (by omega) tb)
  have d65 : ((0 : Int32) ≤ am_rd t n k - 65 ∧ am_rd t n k - 65 ≤ 15) = (k < n ∧ 65 ≤ t k ∧ t k ≤ 80) := propext (am_rd_sb (lo := 65) (w := 15) (by omega) (by omega) tb)
  have h36 : (nI ln = 36) = (ln = 36) := propext (nI_eq (b := 36) (by omega) (by omega))
  have h24 : (nI (q_n B) = 24) = (q_n B = 24) := propext (nI_eq (b := 24) (by omega) (by omega))
  have b01 : cm_r (cb_ln t n ln k B) = 0 ∨ cm_r (cb_ln t n ln k B) = 1 := by unfold cm_r; split <;> simp
  refine Sp_of mf_X11_readsLine rfl (Nat.le_of_ble_eq_true rfl) rfl (sX11_readsLine_0 (by omega) ?_)
  rw [am_ms_hr hS]
  refine ⟨am_ms_ok hS, fun c0 => ?_, fun c0 => ⟨fun c2 => ?_, fun c2 => ?_⟩⟩
  · have c1 : cb_dl t n k := by rw [← dli]; exact c0
    rw [am_b1 c0]
    refine sX11_readsLine_44 (by omega) ?_
    rw [hl, h36]
    refine ⟨fun c2 => cm_bad (x := 4) (y := k) (cm_fr_rf h) (by omega) (by omega) (by omega) (by unfold cb_ln; rw [if_pos c1, if_pos (by omega)]) hS.2.1 z, fun c2 => ⟨fun _ => ?_, fun q => absurd q (by decide)⟩⟩
    refine sX11_readsLine_76 (by omega) (fun h1 e1 => ⟨fun _ => ?_, fun q => absurd q (by decide)⟩)
    rw [hl, nI_1] at e1
    have S1 : am_ms t n k h1 := by rw [e1]; exact am_ms_sI hS (by decide) (by decide)
    have I1 : cm_I h1 B := by rw [e1]; exact cm_I_sI hI (by decide) (by decide)
    have f1 : cm_fr h h1 := by rw [e1]; exact cm_fr_sI (cm_fr_rf h) (by omega)
    have l1 : h1.1 73 39 = nI (ln + 1) := by rw [e1, am_gI, if_pos ⟨rfl, rfl⟩]
    have e0 : am_rd t n k = nI (t k) := if_pos c1.1
    rw [am_ms_hr S1, e0, show nI (t k) - 97 = nI (t k - 97) from am_sub_n (c := 97) c1.2.1, cm_has I1 (by have := c1.2; omega)]
    refine ⟨am_ms_ok S1, fun c3 h3 e3 => ?_, fun c3 => ?_⟩
    · have eo : cb_ln t n ln k B = cb_rm t n k B := by unfold cb_ln; rw [if_pos c1, if_neg (by omega), if_neg c3]
      rw [eo] at z b01
      have S3 : am_ms t n (k + 1) h3 := by rw [e3]; exact am_ms_nx S1 c1.1
      have f3 : cm_fr h h3 := by rw [e3]; exact cm_fr_sI f1 (by omega)
      refine ⟨5, by omega, iX11_readsRoom (ln := ln) (by omega) c1.2 S3 (by rw [e3]; exact cm_I_sI I1 (by decide) (by decide)) hB (by omega) (by rw [e3, am_gI, if_neg (by decide)]; exact l1) (fun h5 oc => ⟨b01, z h5 ⟨cm_fr_tr f3 oc.1, oc.2⟩⟩)⟩
    · exact cm_bad (x := 6) (y := k) f1 (by omega) (by omega) (by omega) (by unfold cb_ln; rw [if_pos c1, if_neg (by omega), if_pos c3]) S1.2.1 z
  · have c1 : ¬ cb_dl t n k := by rw [← dli]; exact c0
    have c4 : k < n ∧ 65 ≤ t k ∧ t k ≤ 80 := by rw [← d65]; exact c2
    rw [am_b0 c0]
    refine sX11_readsLine_44 (by omega) ?_
    rw [hl, h36, hI.1, h24]
    have f4 : 36 ≤ ln ∨ 24 ≤ q_n B → ((0 : Int32) = 0 ∨ (0 : Int32) = 1) ∧ Z (0 : Int32) (am_sI h 73 12 ((-1000) * (4 : Int32) - (h.1 73 10))) := fun q => cm_bad (x := 4) (y := k) (cm_fr_rf h) (by omega) (by omega) (by omega) (by unfold cb_ln; rw [if_neg c1, if_pos c4, if_pos q]) hS.2.1 z
    refine ⟨fun q => f4 (by omega), fun c5 => ⟨fun q => absurd rfl q, fun _ => ⟨fun c6 => ?_, fun c6 => f4 (by omega)⟩⟩⟩
    refine sX11_readsLine_76 (by omega) (fun h1 e1 => ⟨fun q => absurd rfl q, fun _ => ?_⟩)
    rw [hl, nI_1] at e1
    have eo : cb_ln t n ln k B = cb_pp t n k B := by unfold cb_ln; rw [if_neg c1, if_pos c4, if_neg (by omega)]
    rw [eo] at z b01
    have f1 : cm_fr h h1 := by rw [e1]; exact cm_fr_sI (cm_fr_rf h) (by omega)
    refine ⟨5, by omega, iX11_readsPaper (ln := ln) (by omega) c4 (by rw [e1]; exact am_ms_sI hS (by decide) (by decide)) (by rw [e1]; exact cm_I_sI hI (by decide) (by decide)) hB (by omega) (by rw [e1, am_gI, if_pos ⟨rfl, rfl⟩]) (fun h5 oc => ⟨b01, z h5 ⟨cm_fr_tr f1 oc.1, oc.2⟩⟩)⟩
  · have c1 : ¬ cb_dl t n k := by rw [← dli]; exact c0
    have c4 : ¬ (k < n ∧ 65 ≤ t k ∧ t k ≤ 80) := by rw [← d65]; exact c2
    exact cm_bad (x := 1) (y := k) (cm_fr_rf h) (by omega) (by omega) (by omega) (by unfold cb_ln; rw [if_neg c1, if_neg c4]) hS.2.1 z
end
