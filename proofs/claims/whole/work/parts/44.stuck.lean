-- a day: the drawers that stick
set_option maxRecDepth 20000 in
set_option maxHeartbeats 2000000 in
theorem sX2_findStuck_0 {d : Nat} {h : am_H} {Z : Int32 → am_H → Prop} {a1 : Nat} (hb1 : am_bu a1) {a2 : Nat} (hb2 : am_la a2) (w : Ru mX2_findStuck none d 2 [.ref 8, .ref a1, .ref a2, .int 0] [] h Z) : Ru mX2_findStuck none d 0 [.ref 8, .ref a1, .ref a2, .null] [] h Z := by
  refine st_iconst (v := 0) dX2_findStuck_0 (by decide) ?_
  refine st_istore_n (L' := [.ref 8, .ref a1, .ref a2, .int 0]) dX2_findStuck_1 (by decide) rfl ?_
  exact w
set_option maxRecDepth 20000 in
set_option maxHeartbeats 2000000 in
theorem sX2_findStuck_2 {d : Nat} {h : am_H} {Z : Int32 → am_H → Prop} {a1 : Nat} (hb1 : am_bu a1) {a2 : Nat} (hb2 : am_la a2) {x3 : Int32} (hd : 2 ≤ d) (w : (12 ≤ x3 → Z 0 h) ∧ (¬ (12 ≤ x3) → (¬ (am_told h a1 x3) → (vp_in x3 12 ∧ (∀ h2 : am_H, h2 = am_sR h 9 (upd (h.2.2 9) x3.toNatClampNeg (vp_nar .boolean 0)) → (Ru mX2_findStuck none d 2 [.ref 8, .ref a1, .ref a2, .int (x3 + 1)] [] h2 Z)))) ∧ (am_told h a1 x3 → am_cl mX0_draw d [.ref a1] h (fun r3 h4 => am_cl mX3_valueOf d [.ref a2, .int 120, .ref a1, .int 24, .int x3, .int r3] h4 (fun r5 h6 => (r5 = 0 → (vp_in x3 12 ∧ (∀ h8 : am_H, h8 = am_sR h6 9 (upd (h6.2.2 9) x3.toNatClampNeg (vp_nar .boolean 0)) → (Ru mX2_findStuck none d 2 [.ref 8, .ref a1, .ref a2, .int (x3 + 1)] [] h8 Z)))) ∧ (¬ (r5 = 0) → (vp_in x3 12 ∧ (∀ h10 : am_H, h10 = am_sR h6 9 (upd (h6.2.2 9) x3.toNatClampNeg (vp_nar .boolean 1)) → (Ru mX2_findStuck none d 2 [.ref 8, .ref a1, .ref a2, .int (x3 + 1)] [] h10 Z))))))))) : Ru mX2_findStuck none d 2 [.ref 8, .ref a1, .ref a2, .int x3] [] h Z := by
  refine st_iload_n dX2_findStuck_2 rfl ?_
  refine st_bipush (v := 12) dX2_findStuck_3 (by decide) ?_
  refine st_icmp_ge (tgt := 50) dX2_findStuck_5 (by decide) (fun c => ?_) (fun c => ?_)
  · replace w := w.1 c
    exact st_return rfl dX2_findStuck_50 w
  · replace w := w.2 c
    refine st_aload_n dX2_findStuck_8 rfl ?_
    refine st_getF (q := 9) fl_X2_9 fk_2_0 rfl dX2_findStuck_9 sh_8 ?_
    refine st_iload_n dX2_findStuck_12 rfl ?_
    refine st_aload_n dX2_findStuck_13 rfl ?_
    refine st_iload_n dX2_findStuck_14 rfl ?_
    refine st_callV (M' := mX0_isTold) [.int x3] [.int x3, .ref 9] dX2_findStuck_15 ml_X2_37 mf_X0_isTold mv_X0_isTold (bu_0 hb1) rfl rfl rfl (K := fun r h' => (am_b (am_told h a1 x3)) = r ∧ h = h') ⟨1, by omega, iX0_isTold hb1 ⟨rfl, rfl⟩⟩ (fun r1 h1 w1 => ?_)
    obtain ⟨rfl, rfl⟩ := w1
    show Ru mX2_findStuck none d 18 [.ref 8, .ref a1, .ref a2, .int x3] [.int (am_b (am_told h a1 x3)), .int x3, .ref 9] h Z
    refine st_ifb_eq (tgt := 42) dX2_findStuck_18 (by decide) (fun c => ?_) (fun c => ?_)
    · replace w := w.1 c
      refine st_iconst (v := 0) dX2_findStuck_42 (by decide) ?_
      have hc1 := w.1
      replace w := w.2
      refine st_zast dX2_findStuck_43 sh_9 hc1 (fun h2 eh2 => ?_)
      replace w := w h2 eh2
      refine st_iinc (L' := [.ref 8, .ref a1, .ref a2, .int (x3 + 1)]) dX2_findStuck_44 rfl rfl (by decide) rfl ?_
      refine st_goto (tgt := 2) dX2_findStuck_47 (by decide) ?_
      exact w
    · replace w := w.2 c
      refine st_aload_n dX2_findStuck_21 rfl ?_
      refine st_bipush (v := 120) dX2_findStuck_22 (by decide) ?_
      refine st_aload_n dX2_findStuck_24 rfl ?_
      refine st_bipush (v := 24) dX2_findStuck_25 (by decide) ?_
      refine st_iload_n dX2_findStuck_27 rfl ?_
      refine st_aload_n dX2_findStuck_28 rfl ?_
      refine st_callV (M' := mX0_draw) [] [.int x3, .int 24, .ref a1, .int 120, .ref a2, .int x3, .ref 9] dX2_findStuck_29 ml_X2_41 mf_X0_draw mv_X0_draw (bu_0 hb1) rfl rfl rfl w (fun r3 h4 w => ?_)
      show Ru mX2_findStuck none d 32 [.ref 8, .ref a1, .ref a2, .int x3] [.int r3, .int x3, .int 24, .ref a1, .int 120, .ref a2, .int x3, .ref 9] h4 Z
      refine st_callV (M' := mX3_valueOf) [.int 120, .ref a1, .int 24, .int x3, .int r3] [.int x3, .ref 9] dX2_findStuck_32 ml_X2_45 mf_X3_valueOf mv_X3_valueOf (la_0 hb2) rfl rfl rfl w (fun r5 h6 w => ?_)
      show Ru mX2_findStuck none d 35 [.ref 8, .ref a1, .ref a2, .int x3] [.int r5, .int x3, .ref 9] h6 Z
      refine st_if_eq (tgt := 42) dX2_findStuck_35 (by decide) (fun c => ?_) (fun c => ?_)
      · replace w := w.1 c
        refine st_iconst (v := 0) dX2_findStuck_42 (by decide) ?_
        have hc7 := w.1
        replace w := w.2
        refine st_zast dX2_findStuck_43 sh_9 hc7 (fun h8 eh8 => ?_)
        replace w := w h8 eh8
        refine st_iinc (L' := [.ref 8, .ref a1, .ref a2, .int (x3 + 1)]) dX2_findStuck_44 rfl rfl (by decide) rfl ?_
        refine st_goto (tgt := 2) dX2_findStuck_47 (by decide) ?_
        exact w
      · replace w := w.2 c
        refine st_iconst (v := 1) dX2_findStuck_38 (by decide) ?_
        refine st_goto (tgt := 43) dX2_findStuck_39 (by decide) ?_
        have hc9 := w.1
        replace w := w.2
        refine st_zast dX2_findStuck_43 sh_9 hc9 (fun h10 eh10 => ?_)
        replace w := w h10 eh10
        refine st_iinc (L' := [.ref 8, .ref a1, .ref a2, .int (x3 + 1)]) dX2_findStuck_44 rfl rfl (by decide) rfl ?_
        refine st_goto (tgt := 2) dX2_findStuck_47 (by decide) ?_
        exact w
/-- what a day of the class may change: the bureau at b, the law's stack and facts, the calendar -/
def q_fd (b g : Nat) (h h' : am_H) : Prop := (∀ a, (a < b ∨ b + 8 < a) → a ≠ g + 6 → a ≠ g + 7 → a ≠ 9 → h'.2.2 a = h.2.2 a) ∧ (∀ a, (a < b ∨ b + 8 < a) → a ≠ 8 → h'.1 a = h.1 a) ∧ h'.2.1 = h.2.1
def q_sk (L : am_AL) (i : Nat) (s : am_AB × (Nat → Bool)) : am_AB × (Nat → Bool) := if 0 < q_r s.1 i then (q_sx s.1 (q_dx (q_x s.1)), fun j => if j = i then !decide (q_sy L (q_sx s.1 (q_dx (q_x s.1))) 120 24 i (nI (q_dx (q_x s.1) % 10)) = 0) else s.2 j) else (s.1, fun j => if j = i then false else s.2 j)
section
variable {d b g : Nat} {h : am_H} {Z : Int32 → am_H → Prop} {B : am_AB} {L : am_AL}
theorem q_IC_r {a : Nat} {f : Nat → Int32} (ha : a < b ∨ b + 8 < a) (hI : q_IC h b B) : q_IC (am_sR h a f) b B := by
  have e : ∀ k, k ≤ 8 → (am_sR h a f).2.2 (b + k) = h.2.2 (b + k) := fun k hk => by rw [am_gR, if_neg (by omega)]
  unfold q_IC
  simp only [am_gRi, e 1 (by omega), e 2 (by omega), e 3 (by omega), e 4 (by omega), e 5 (by omega), e 6 (by omega), e 7 (by omega), e 8 (by omega)]
  exact hI
theorem q_LC_fd {h1 : am_H} (hb : am_bu b) (hg : am_la g) (hf : q_fd b g h h1) (hL : q_LC h g L) : q_LC h1 g L := by
  have hbg : b + 8 < g := by rcases hb with rfl | rfl | rfl | rfl <;> rcases hg with rfl | rfl <;> omega
  have hg2 : 56 ≤ g := by rcases hg with rfl | rfl <;> omega
  unfold q_LC
  rw [hf.2.1 g (by omega) (by omega), hf.1 (g + 1) (by omega) (by omega) (by omega) (by omega), hf.1 (g + 2) (by omega) (by omega) (by omega) (by omega), hf.1 (g + 3) (by omega) (by omega) (by omega) (by omega), hf.1 (g + 4) (by omega) (by omega) (by omega) (by omega), hf.1 (g + 5) (by omega) (by omega) (by omega) (by omega)]
  exact hL
theorem q_fd_fr {h1 h2 : am_H} (hf : q_fd b g h h1) (q : am_fr b h1 h2) : q_fd b g h h2 := ⟨fun a h1 h2 h3 h4 => ((q.1 a h1).2).trans (hf.1 a h1 h2 h3 h4), fun a h1 h2 => ((q.1 a h1).1).trans (hf.2.1 a h1 h2), q.2.trans hf.2.2⟩
theorem q_fd_sR {h1 : am_H} {a : Nat} {f : Nat → Int32} (hf : q_fd b g h h1) (ha : a = g + 6 ∨ a = g + 7 ∨ a = 9) : q_fd b g h (am_sR h1 a f) := ⟨fun a' h1 h2 h3 h4 => by rw [am_gR, if_neg (by omega)]; exact hf.1 a' h1 h2 h3 h4, fun a' h1 h2 => hf.2.1 a' h1 h2, hf.2.2⟩
theorem q_ok_sx {v : Nat} (hB : q_ok B) (hv : v < 65536) : q_ok (q_sx B v) := ⟨hB.1, hB.2.1, hv, hB.2.2.2⟩
theorem x_stk (hd : 10 ≤ d) (hb : am_bu b) (hg : am_la g) (hL : q_LC h g L) : ∀ (m k : Nat) (s : am_AB × (Nat → Bool)) (h1 : am_H), k + m = 12 → q_ok s.1 → q_IC h1 b s.1 → q_fd b g h h1 → h1.1 8 = h.1 8 → (∀ j, j < k → (h1.2.2 9 j = 0 ↔ s.2 j = false)) → (∀ h' s', s' = am_fd (q_sk L) k m s → q_ok s'.1 → q_IC h' b s'.1 → q_fd b g h h' → h'.1 8 = h.1 8 → (∀ j, j < 12 → (h'.2.2 9 j = 0 ↔ s'.2 j = false)) → Z 0 h') → Ru mX2_findStuck none d 2 [.ref 8, .ref b, .ref g, .int (nI k)] [] h1 Z
  | 0, k, s, h1, hk, hB, hI, hf, h8, ht, z => by
    have e : k = 12 := by omega
    subst e
    exact sX2_findStuck_2 hb hg (by omega) ⟨fun _ => z h1 s rfl hB hI hf h8 ht, fun c => absurd (Int32.le_refl _) c⟩
  | m + 1, k, s, h1, hk, hB, hI, hf, h8, ht, z => by
    have hbg : b + 8 < g ∧ 9 < b := by rcases hb with rfl | rfl | rfl | rfl <;> rcases hg with rfl | rfl <;> omega
    refine sX2_findStuck_2 hb hg (by omega) ⟨fun c => absurd c (nI_ge (b := 12) (by omega) (by omega)), fun _ => ?_⟩
    rw [q_told hI hB (by omega), nI_1, nI_clamp (by omega)]
    refine ⟨fun c => ⟨vp_in_nI (by omega) (by omega), fun h2 e2 => ?_⟩, fun c => ⟨8, by omega, iX0_draw hb hI hB (fun h3 e3 hI3 hf3 => ?_)⟩⟩
    · have es : q_sk L k s = (s.1, fun j => if j = k then false else s.2 j) := if_neg c
      subst e2
      refine x_stk hd hb hg hL m (k + 1) (q_sk L k s) _ (by omega) (by rw [es]; exact hB) (by rw [es]; exact q_IC_r (by omega) hI) (q_fd_sR hf (by omega)) h8 (fun j hj => ?_) z
      rw [am_gRs, es]
      show (upd _ _ _ j = 0 ↔ (if j = k then false else s.2 j) = false)
      unfold upd
      by_cases cj : j = k
      · rw [if_pos cj, if_pos cj]; exact ⟨fun _ => rfl, fun _ => by decide⟩
      · rw [if_neg cj, if_neg cj]; exact ht j (by omega)
    · have es : q_sk L k s = (q_sx s.1 (q_dx (q_x s.1)), fun j => if j = k then !decide (q_sy L (q_sx s.1 (q_dx (q_x s.1))) 120 24 k (nI (q_dx (q_x s.1) % 10)) = 0) else s.2 j) := if_pos c
      have hB3 := q_ok_sx hB (q_dx_lt (q_x s.1))
      have hf' := q_fd_fr hf hf3
      have t9 : ∀ j, h3.2.2 9 j = h1.2.2 9 j := fun j => by rw [(hf3.1 9 (by omega)).2]
      refine ⟨8, by omega, iX3_valueOf (kd := 120) (p := 24) (i := k) (by omega) hg hb hI3 hB3 (q_LC_fd hb hg hf' hL) (by omega) (by omega) (Or.inr rfl) (by omega) c (fun f1 f2 => ?_)⟩
      have nx : ∀ v : Int32, (vp_nar .boolean v = 0 ↔ q_sy L (q_sx s.1 (q_dx (q_x s.1))) 120 24 k (nI (q_dx (q_x s.1) % 10)) = 0) → Ru mX2_findStuck none d 2 [.ref 8, .ref b, .ref g, .int (nI (k + 1))] [] (am_sR (am_sR (am_sR h3 (g + 7) f1) (g + 6) f2) 9 (upd ((am_sR (am_sR h3 (g + 7) f1) (g + 6) f2).2.2 9) k (vp_nar .boolean v))) Z := fun v hv => by
        refine x_stk hd hb hg hL m (k + 1) (q_sk L k s) _ (by omega) (by rw [es]; exact hB3) (by rw [es]; exact q_IC_r (by omega) (q_IC_r (by omega) (q_IC_r (by omega) hI3))) (q_fd_sR (q_fd_sR (q_fd_sR hf' (by omega)) (by omega)) (by omega)) (((hf3.1 8 (by omega)).1).trans h8) (fun j hj => ?_) z
        rw [am_gRs, es, am_gR, if_neg (by omega), am_gR, if_neg (by omega)]
        show (upd _ _ _ j = 0 ↔ (if j = k then !decide (q_sy L (q_sx s.1 (q_dx (q_x s.1))) 120 24 k (nI (q_dx (q_x s.1) % 10)) = 0) else s.2 j) = false)
        unfold upd
        by_cases cj : j = k
        · rw [if_pos cj, if_pos cj, hv]; simp
        · rw [if_neg cj, if_neg cj, t9]; exact ht j (by omega)
      refine ⟨fun c2 => ⟨vp_in_nI (by omega) (by omega), fun h9 e9 => ?_⟩, fun c2 => ⟨vp_in_nI (by omega) (by omega), fun h9 e9 => ?_⟩⟩
      · subst e9; exact nx 0 ⟨fun _ => c2, fun _ => by decide⟩
      · subst e9; exact nx 1 ⟨fun q => absurd q (by decide), fun q => absurd q c2⟩
end
