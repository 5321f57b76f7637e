-- lift, takeOut, move
theorem am_gRb (h : am_H) (b k j : Nat) (f : Nat → Int32) : (am_sR h (b + k) f).2.2 (b + j) = if j = k then f else h.2.2 (b + j) := by
  rw [am_gR]
  by_cases c : j = k
  · simp [c]
  · simp [c]
theorem am_gRi (h : am_H) (a : Nat) (f : Nat → Int32) (x k : Nat) : (am_sR h a f).1 x k = h.1 x k := rfl
theorem q_in {h : am_H} {b : Nat} {B : am_AB} (hI : q_IC h b B) (hB : q_ok B) {p : Nat} (hp : p < q_n B) : am_inn h b (nI p) ↔ q_w B p < 12 := by
  have hn := hB.1
  unfold am_inn
  rw [nI_clamp (by omega), (hI.2.2.2.2 p hp).2.2.1, q_wt hI hB hp]
  exact ⟨fun q => q.2, fun q => ⟨(q_pap hI hB).mpr ⟨p, hp, rfl⟩, q⟩⟩
theorem q_fit {h : am_H} {b : Nat} {B : am_AB} (hI : q_IC h b B) (hB : q_ok B) {p i : Nat} (hp : p < q_n B) (hi : i < 12) : am_fit h b (nI p) (nI i) ↔ 0 < q_r B i ∧ q_si B p + q_F B i ≤ q_r B i := by
  have hn := hB.1
  have hr := hB.2.2.2.1 i hi
  have hs := (hB.2.2.2.2 p hp).1
  unfold am_fit
  rw [nI_clamp (show p < 2 ^ 31 by omega), nI_clamp (show i < 2 ^ 31 by omega), (hI.2.2.2.2 p hp).2.1, (hI.2.2.2.1 i hi).1, (hI.2.2.2.1 i hi).2.1, pk_sub hr.2, q_told hI hB hi, nI_leI (by omega) (by omega)]
  constructor
  · intro q; exact ⟨q.2.1, by omega⟩
  · intro q; exact ⟨(q_pap hI hB).mpr ⟨p, hp, rfl⟩, q.1, by omega⟩
theorem q_fit_no {h : am_H} {b : Nat} {x y : Int32} (hy : ¬ (0 ≤ y ∧ y < 12)) : ¬ am_fit h b x y := fun q => q_told_no hy q.2.1
abbrev q_out (B : am_AB) (p : Nat) : am_AB := (B.1, B.2.1, B.2.2.1, B.2.2.2.1, am_un (q_w B) p 12, am_un (q_rd B) p 0, am_un (q_ag B) p 0)
abbrev q_mv (B : am_AB) (p i : Nat) : am_AB := (B.1, B.2.1, B.2.2.1, B.2.2.2.1, am_un (q_w B) p i, B.2.2.2.2.2.1, am_un (q_ag B) p 0)
theorem q_go12 (B : am_AB) {p : Nat} (e : q_w B p = 12) : q_go B p 12 = B := by
  have : am_un (q_w B) p 12 = q_w B := by
    funext j; unfold am_un; by_cases c : j = p
    · simp [c, e]
    · simp [c]
  show (B.1, B.2.1, B.2.2.1, B.2.2.2.1, am_un (q_w B) p 12, _, _) = B
  rw [this]
section
variable {d b : Nat} {h : am_H} {Z : Int32 → am_H → Prop} {B : am_AB} {p : Nat}
theorem iX0_lift (hd : 2 ≤ d) (hb : am_bu b) (hI : q_IC h b B) (hB : q_ok B) (hp : p < q_n B) (z : ∀ h', q_IC h' b (q_go B p 12) → am_fr b h h' → Z 0 h') : Sp mX0_lift d [.ref b, .int (nI p)] h Z := by
  have hn := hB.1
  have hs := (hB.2.2.2.2 p hp).1
  have hpp : am_pap h b (nI p) := (q_pap hI hB).mpr ⟨p, hp, rfl⟩
  refine Sp_of mf_X0_lift rfl (Nat.le_of_ble_eq_true rfl) rfl (sX0_lift_0 hb hd ⟨fun c => absurd hpp c, fun _ => ⟨vp_in_nI (by omega) (by omega), ?_⟩⟩)
  rw [nI_clamp (by omega), (hI.2.2.2.2 p hp).2.2.1, q_wt hI hB hp]
  refine ⟨fun c => ?_, fun c => ?_⟩
  · have c12 : ¬ q_w B p = 12 := by omega
    have hF := q_F_go B (k := 12) (q_w B p) hp
    have hC := q_C_go B (k := 12) (q_w B p) hp
    rw [if_pos rfl, if_neg (show ¬ 12 = q_w B p by omega)] at hF hC
    rw [q_w2_in c, nI_clamp (by omega), (hI.2.2.2.1 _ c).2.1, (hI.2.2.2.2 p hp).2.1]
    refine ⟨vp_in_nI (by omega) (by omega), fun h3 e3 h4 e4 h5 e5 => ?_⟩
    rw [pk_sub (by omega)] at e3
    rw [e3, am_gRb, if_neg (by decide), (hI.2.2.2.1 _ c).2.2, show nI (q_C B (q_w B p)) - 1 = nI (q_C B (q_w B p) - 1) from pk_sub (b := 1) (by omega)] at e4
    rw [e4, am_gRb, if_neg (by decide), am_gRb, if_neg (by decide)] at e5
    refine z h5 ?_ (by rw [e5]; exact am_fr_sR (am_fr_sR (am_fr_sR (am_fr_rf b h) (by decide)) (by decide)) (by decide))
    rw [e5]
    refine ⟨hI.1, hI.2.1, hI.2.2.1, fun i hi => ?_, fun q hq => ?_⟩
    · simp only [am_gRb]
      refine ⟨(hI.2.2.2.1 i hi).1, ?_, ?_⟩
      · show upd _ _ _ i = _
        unfold upd
        by_cases ci : i = q_w B p
        · rw [if_pos ci, ci]; congr 1; omega
        · have h9 := q_F_go B (k := 12) i hp
          rw [if_neg (fun e => ci e.symm), if_neg (show ¬ 12 = i by omega)] at h9
          rw [if_neg ci, (hI.2.2.2.1 i hi).2.1]; congr 1; omega
      · show upd _ _ _ i = _
        unfold upd
        by_cases ci : i = q_w B p
        · rw [if_pos ci, ci]; congr 1; omega
        · have h9 := q_C_go B (k := 12) i hp
          rw [if_neg (fun e => ci e.symm), if_neg (show ¬ 12 = i by omega)] at h9
          rw [if_neg ci, (hI.2.2.2.1 i hi).2.2]; congr 1; omega
    · simp only [am_gRb]
      refine ⟨(hI.2.2.2.2 q hq).1, (hI.2.2.2.2 q hq).2.1, ?_, (hI.2.2.2.2 q hq).2.2.2.1, (hI.2.2.2.2 q hq).2.2.2.2⟩
      show upd _ _ _ q = q_w2 (am_un _ _ _ q)
      unfold upd am_un
      by_cases cq : q = p
      · rw [if_pos cq, if_pos cq, q_w2_out]
      · rw [if_neg cq, if_neg cq]; exact (hI.2.2.2.2 q hq).2.2.1
  · have e12 : q_w B p = 12 := by rcases (hB.2.2.2.2 p hp).2.2.1 with e | e; exact e; exact absurd e.1 c
    rw [q_go12 B e12] at z
    exact z h hI (am_fr_rf b h)
theorem q_ok_out (hB : q_ok B) (hp : p < q_n B) : q_ok (q_out B p) := by
  refine ⟨hB.1, hB.2.1, hB.2.2.1, fun i hi => ⟨(hB.2.2.2.1 i hi).1, ?_⟩, fun q hq => ?_⟩
  · have h9 := q_F_go B (k := 12) i hp
    have h8 := (hB.2.2.2.1 i hi).2
    rw [if_neg (show ¬ 12 = i by omega)] at h9
    show q_F (q_go B p 12) i ≤ q_r B i
    omega
  · have h9 := hB.2.2.2.2 q hq
    refine ⟨h9.1, h9.2.1, ?_, ?_, ?_⟩
    · show am_un _ _ _ q = 12 ∨ _
      by_cases c : q = p
      · rw [c]; exact Or.inl (am_un_s _ _ _)
      · show am_un _ _ _ q = 12 ∨ (am_un _ _ _ q < 12 ∧ 0 < q_r B (am_un _ _ _ q))
        rw [am_un_n _ _ c]; exact h9.2.2.1
    · show am_un _ _ _ q ≤ 1
      by_cases c : q = p
      · rw [c, am_un_s]; omega
      · rw [am_un_n _ _ c]; exact h9.2.2.2.1
    · show am_un _ _ _ q ≤ 9999 ∧ (am_un _ _ _ q = 12 → am_un _ _ _ q = 0)
      by_cases c : q = p
      · rw [c, am_un_s, am_un_s]; exact ⟨by omega, fun _ => rfl⟩
      · rw [am_un_n _ _ c, am_un_n _ _ c]; exact h9.2.2.2.2
theorem iX0_takeOut (hd : 3 ≤ d) (hb : am_bu b) (hI : q_IC h b B) (hB : q_ok B) (hp : p < q_n B) (z : ∀ h', q_IC h' b (q_out B p) → am_fr b h h' → Z 0 h') : Sp mX0_takeOut d [.ref b, .int (nI p)] h Z := by
  have hn := hB.1
  have hpp : am_pap h b (nI p) := (q_pap hI hB).mpr ⟨p, hp, rfl⟩
  refine Sp_of mf_X0_takeOut rfl (Nat.le_of_ble_eq_true rfl) rfl (sX0_takeOut_0 hb (by omega) ⟨fun _ => ⟨2, by omega, iX0_lift (by omega) hb hI hB hp (fun h2 hI2 hF2 => ⟨vp_in_nI (by omega) (by omega), fun h4 e4 h5 e5 => ?_⟩)⟩, fun c => absurd hpp c⟩)
  rw [nI_clamp (by omega)] at e4 e5
  rw [e4, am_gRb, if_neg (by decide)] at e5
  refine z h5 ?_ (by rw [e5]; exact am_fr_sR (am_fr_sR hF2 (by decide)) (by decide))
  rw [e5]
  refine ⟨hI2.1, hI2.2.1, hI2.2.2.1, fun i hi => ?_, fun q hq => ?_⟩
  · simp only [am_gRb]
    exact hI2.2.2.2.1 i hi
  · simp only [am_gRb]
    have h9 := hI2.2.2.2.2 q hq
    refine ⟨h9.1, h9.2.1, h9.2.2.1, ?_, ?_⟩
    · show upd _ _ _ q = nI (am_un _ _ _ q)
      unfold upd am_un
      by_cases cq : q = p
      · rw [if_pos cq, if_pos cq]; rfl
      · rw [if_neg cq, if_neg cq]; exact h9.2.2.2.1
    · show upd _ _ _ q = nI (am_un _ _ _ q)
      unfold upd am_un
      by_cases cq : q = p
      · rw [if_pos cq, if_pos cq]; rfl
      · rw [if_neg cq, if_neg cq]; exact h9.2.2.2.2
theorem q_F_mv {i : Nat} (hp : p < q_n B) (hi : i < 12) (j : Nat) (hj : j < 12) : q_F (q_mv B p i) j = q_F (q_go B p 12) j + (if i = j then q_si B p else 0) := by
  have h9 := q_F_go (q_go B p 12) (p := p) (k := i) j hp
  have e : am_un (am_un (q_w B) p 12) p i = am_un (q_w B) p i := by
    funext x; unfold am_un; by_cases c : x = p <;> simp [c]
  rw [show q_w (q_go B p 12) p = 12 from am_un_s _ _ _, if_neg (show ¬ 12 = j by omega)] at h9
  have e2 : q_F (q_go (q_go B p 12) p i) j = q_F (q_mv B p i) j := by
    unfold q_F
    show am_sm (fun x => if am_un (am_un (q_w B) p 12) p i x = j then _ else 0) _ = _
    rw [e]
  rw [e2] at h9
  exact h9
theorem q_C_mv {i : Nat} (hp : p < q_n B) (hi : i < 12) (j : Nat) (hj : j < 12) : q_C (q_mv B p i) j = q_C (q_go B p 12) j + (if i = j then 1 else 0) := by
  have h9 := q_C_go (q_go B p 12) (p := p) (k := i) j hp
  have e : am_un (am_un (q_w B) p 12) p i = am_un (q_w B) p i := by
    funext x; unfold am_un; by_cases c : x = p <;> simp [c]
  rw [show q_w (q_go B p 12) p = 12 from am_un_s _ _ _, if_neg (show ¬ 12 = j by omega)] at h9
  have e2 : q_C (q_go (q_go B p 12) p i) j = q_C (q_mv B p i) j := by
    unfold q_C
    show am_sm (fun x => if am_un (am_un (q_w B) p 12) p i x = j then _ else 0) _ = _
    rw [e]
  rw [e2] at h9
  exact h9
theorem q_ok_mv {i : Nat} (hB : q_ok B) (hp : p < q_n B) (hi : i < 12) (hr : 0 < q_r B i) (hf : q_si B p + q_F B i ≤ q_r B i) : q_ok (q_mv B p i) := by
  refine ⟨hB.1, hB.2.1, hB.2.2.1, fun j hj => ⟨(hB.2.2.2.1 j hj).1, ?_⟩, fun q hq => ?_⟩
  · rw [q_F_mv hp hi j hj]
    have h9 := q_F_go B (k := 12) j hp
    have h8 := (hB.2.2.2.1 j hj).2
    rw [if_neg (show ¬ 12 = j by omega)] at h9
    show _ ≤ q_r B j
    by_cases c : i = j
    · subst c; rw [if_pos rfl]; omega
    · rw [if_neg c]; omega
  · have h9 := hB.2.2.2.2 q hq
    refine ⟨h9.1, h9.2.1, ?_, h9.2.2.2.1, ?_⟩
    · show am_un _ _ _ q = 12 ∨ (am_un _ _ _ q < 12 ∧ 0 < q_r B (am_un _ _ _ q))
      by_cases c : q = p
      · rw [c, am_un_s]; exact Or.inr ⟨hi, hr⟩
      · rw [am_un_n _ _ c]; exact h9.2.2.1
    · show am_un _ _ _ q ≤ 9999 ∧ (am_un _ _ _ q = 12 → am_un _ _ _ q = 0)
      by_cases c : q = p
      · rw [c, am_un_s, am_un_s]; exact ⟨by omega, fun _ => rfl⟩
      · rw [am_un_n _ _ c, am_un_n _ _ c]; exact h9.2.2.2.2
theorem iX0_move {i : Nat} (hd : 3 ≤ d) (hb : am_bu b) (hI : q_IC h b B) (hB : q_ok B) (hp : p < q_n B) (hi : i < 12) (hr : 0 < q_r B i) (hf : q_si B p + q_F B i ≤ q_r B i) (z : ∀ h', q_IC h' b (q_mv B p i) → am_fr b h h' → Z 0 h') : Sp mX0_move d [.ref b, .int (nI p), .int (nI i)] h Z := by
  have hn := hB.1
  have hff : am_fit h b (nI p) (nI i) := (q_fit hI hB hp hi).mpr ⟨hr, hf⟩
  refine Sp_of mf_X0_move rfl (Nat.le_of_ble_eq_true rfl) rfl (sX0_move_0 hb (by omega) ⟨fun _ => ⟨2, by omega, iX0_lift (by omega) hb hI hB hp (fun h2 hI2 hF2 => ⟨vp_in_nI (by omega) (by omega), fun h6 e6 h7 e7 => ⟨vp_in_nI (by omega) (by omega), fun h9 e9 h10 e10 => ?_⟩⟩)⟩, fun c => absurd hff c⟩)
  rw [nI_clamp (by omega)] at e6 e7
  rw [nI_clamp (by omega), nI_clamp (by omega)] at e9
  rw [nI_clamp (by omega)] at e10
  rw [e6, am_gRb, if_neg (by decide)] at e7
  simp only [e7, am_gRb, Nat.reduceEqDiff, reduceIte] at e9
  simp only [e9, am_gRb, Nat.reduceEqDiff, reduceIte] at e10
  rw [(hI2.2.2.2.1 i hi).2.1, (hI2.2.2.2.2 p hp).2.1, (hI2.2.2.2.1 i hi).2.2, nI_add, nI_1] at e10
  refine z h10 ?_ (by rw [e10]; exact am_fr_sR (am_fr_sR (am_fr_sR (am_fr_sR hF2 (by decide)) (by decide)) (by decide)) (by decide))
  rw [e10]
  refine ⟨hI2.1, hI2.2.1, hI2.2.2.1, fun j hj => ?_, fun q hq => ?_⟩
  · simp only [am_gRb]
    refine ⟨(hI2.2.2.2.1 j hj).1, ?_, ?_⟩
    · show upd _ _ _ j = _
      rw [q_F_mv hp hi j hj]
      unfold upd
      by_cases c : i = j
      · subst c; rw [if_pos rfl, if_pos rfl]
      · rw [if_neg (fun e => c e.symm), if_neg c]; exact (hI2.2.2.2.1 j hj).2.1
    · show upd _ _ _ j = _
      rw [q_C_mv hp hi j hj]
      unfold upd
      by_cases c : i = j
      · subst c; rw [if_pos rfl, if_pos rfl]
      · rw [if_neg (fun e => c e.symm), if_neg c]; exact (hI2.2.2.2.1 j hj).2.2
  · simp only [am_gRb]
    have h9 := hI2.2.2.2.2 q hq
    have h8 := hI2.2.2.2.2 q hq
    refine ⟨h9.1, h9.2.1, ?_, h9.2.2.2.1, ?_⟩
    · show upd _ _ _ q = q_w2 (am_un _ _ _ q)
      unfold upd
      by_cases cq : q = p
      · rw [if_pos cq, cq, am_un_s, q_w2_in hi]
      · rw [if_neg cq, am_un_n _ _ cq, h9.2.2.1]
        show q_w2 (am_un _ _ _ q) = _
        rw [am_un_n _ _ cq]
    · show upd _ _ _ q = nI (am_un _ _ _ q)
      unfold upd
      by_cases cq : q = p
      · rw [if_pos cq, cq, am_un_s]; rfl
      · rw [if_neg cq, am_un_n _ _ cq]; exact h9.2.2.2.2
end
