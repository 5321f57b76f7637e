-- the law's loop
section
variable {Ls d : Nat} {xs : Nat → Int32} {Z : Int32 → am_H → Prop}
theorem am_two {M1 M2 : am_M} {a1 a2 : List Value} {h : am_H} {N : am_H → Prop} (w : am_cl M1 d a1 h (fun r1 h1 => am_cl M2 d a2 h1 (fun r2 h2 => am_eq r1 r2 h2))) (k : ∀ h2, am_inv h2 → N h2) : am_cl M1 d a1 h (fun r1 h1 => am_cl M2 d a2 h1 (fun r2 h2 => (r1 = r2 → N h2) ∧ (¬ (r1 = r2) → Z 0 h2))) := by
  obtain ⟨d1, e1, s1⟩ := w
  refine ⟨d1, e1, am_sp_mono s1 (fun r1 h1 q => ?_)⟩
  obtain ⟨d2, e2, s2⟩ := q
  exact ⟨d2, e2, am_sp_mono s2 (fun r2 h2 q => ⟨fun _ => k h2 q.2, fun n => absurd q.1 n⟩)⟩
theorem lw_le (hL : Ls ≤ 3072) {i : Nat} (hi : i ≤ 4000) : ((Int32.ofNat Ls) - 6) < nI i ↔ Ls < i + 6 := by
  have p1 : (nI i).toInt = (i : Int) := nI_toInt (by omega)
  have p2 : (Int32.ofNat Ls).toInt = (Ls : Int) := nI_toInt (by omega)
  have p3 : ((Int32.ofNat Ls) - 6).toInt = (Ls : Int) - 6 := by
    rw [Int32.toInt_sub, p2, show (6 : Int32).toInt = 6 from rfl]
    apply Int.bmod_eq_of_le <;> omega
  rw [Int32.lt_iff_toInt_lt, p1, p3]
  omega
theorem lw_loop (hd : 40 ≤ d) (hL : Ls ≤ 3072) (z : ∀ h, Z 1 h) : ∀ (n i : Nat) (h : am_H), i ≤ Ls + 6 → Ls ≤ i + n → am_inv h → Ru mL_law (some (Ls, xs)) d 18 [.retAddr 0, .ref 0, .ref 73, .int (nI i)] [] h Z
  | n, i, h, hi, hn, I => by
    refine sL_law_18 ?_
    rw [lw_le hL (by omega)]
    refine ⟨fun _ => z h, fun c => ⟨vp_in_nI (by omega) (by omega), ?_⟩⟩
    cases n with
    | zero => exact absurd hn (by omega)
    | succ n =>
      have v : ∀ k, k < 6 → vp_in (nI i + nI k) Ls := fun k hk => by rw [nI_add]; exact vp_in_nI (by omega) (by omega)
      have nx : ∀ h2, am_inv h2 → Ru mL_law (some (Ls, xs)) d 991 [.retAddr 0, .ref 0, .ref 73, .int (nI i)] [] h2 Z := fun h2 I2 => by
        refine sL_law_991 ?_
        rw [show nI i + 6 = nI (i + 6) from nI_add i 6]
        exact lw_loop hd hL z n (i + 6) h2 (by omega) (by omega) I2
      refine ⟨fun _ => sL_law_164 ⟨v 1 (by omega), v 2 (by omega), am_two (lw_put hd I) nx⟩, fun _ => ?_⟩
      refine ⟨fun _ => sL_law_197 ⟨v 1 (by omega), v 2 (by omega), v 3 (by omega), v 4 (by omega), v 5 (by omega), am_two (lw_feed hd I) nx⟩, fun _ => ?_⟩
      refine ⟨fun _ => sL_law_260 ⟨v 1 (by omega), am_two (lw_law hd I) nx⟩, fun _ => ?_⟩
      refine ⟨fun _ => sL_law_283 ⟨v 1 (by omega), am_two (lw_cabinet hd I) nx⟩, fun _ => ?_⟩
      refine ⟨fun _ => sL_law_306 ⟨v 1 (by omega), am_two (lw_days hd I) nx⟩, fun _ => ?_⟩
      refine ⟨fun _ => sL_law_329 ⟨v 1 (by omega), v 2 (by omega), am_two (lw_tried hd I) nx⟩, fun _ => ?_⟩
      refine ⟨fun _ => sL_law_362 ⟨v 1 (by omega), v 2 (by omega), am_two (lw_drawerIs hd I) nx⟩, fun _ => ?_⟩
      refine ⟨fun _ => sL_law_395 ⟨v 1 (by omega), v 2 (by omega), am_two (lw_paperIs hd I) nx⟩, fun _ => ?_⟩
      refine ⟨fun _ => sL_law_428 ⟨v 1 (by omega), am_two (lw_shut hd I) nx⟩, fun _ => ?_⟩
      refine ⟨fun _ => sL_law_451 (am_two (lw_fewest hd I) nx), fun _ => ?_⟩
      refine ⟨fun _ => sL_law_464 ⟨v 1 (by omega), am_two (lw_free hd I) nx⟩, fun _ => ?_⟩
      refine ⟨fun _ => sL_law_487 ⟨v 1 (by omega), v 2 (by omega), am_two (lw_ofSubject hd I) nx⟩, fun _ => ?_⟩
      refine ⟨fun _ => sL_law_520 (am_two (lw_oldest hd I) nx), fun _ => ?_⟩
      refine ⟨fun _ => sL_law_533 ⟨v 1 (by omega), v 2 (by omega), am_two (lw_slip hd I) nx⟩, fun _ => ?_⟩
      refine ⟨fun _ => sL_law_566 ⟨v 1 (by omega), v 2 (by omega), v 3 (by omega), am_two (lw_secret hd I) nx⟩, fun _ => ?_⟩
      refine ⟨fun _ => sL_law_609 ⟨v 1 (by omega), am_two (lw_nest hd I) nx⟩, fun _ => ?_⟩
      refine ⟨fun _ => sL_law_632 ⟨v 1 (by omega), am_two (lw_dusted hd I) nx⟩, fun _ => ?_⟩
      refine ⟨fun _ => sL_law_655 ⟨v 1 (by omega), am_two (lw_balanced hd I) nx⟩, fun _ => ?_⟩
      refine ⟨fun _ => sL_law_678 ⟨v 1 (by omega), v 2 (by omega), v 3 (by omega), am_two (lw_pigeonholes hd I) nx⟩, fun _ => ?_⟩
      refine ⟨fun _ => sL_law_721 ⟨v 1 (by omega), v 2 (by omega), am_two (lw_planked hd I) nx⟩, fun _ => ?_⟩
      refine ⟨fun _ => sL_law_754 ⟨v 1 (by omega), v 2 (by omega), v 3 (by omega), am_two (lw_unions hd I) nx⟩, fun _ => ?_⟩
      refine ⟨fun _ => sL_law_797 ⟨v 1 (by omega), v 2 (by omega), am_two (lw_heirs hd I) nx⟩, fun _ => ?_⟩
      refine ⟨fun _ => sL_law_830 ⟨v 1 (by omega), v 2 (by omega), am_two (lw_heard hd I) nx⟩, fun _ => ?_⟩
      refine ⟨fun _ => sL_law_863 ⟨v 1 (by omega), v 2 (by omega), am_two (lw_ticks hd I) nx⟩, fun _ => ?_⟩
      refine ⟨fun _ => sL_law_896 ⟨v 1 (by omega), am_two (lw_seed hd I) nx⟩, fun _ => ?_⟩
      refine ⟨fun _ => sL_law_919 (am_two (lw_keep hd I) nx), fun _ => ?_⟩
      refine ⟨fun _ => sL_law_932 (am_two (lw_undo hd I) nx), fun _ => ?_⟩
      refine ⟨fun _ => sL_law_945 ⟨v 1 (by omega), am_two (lw_check hd I) nx⟩, fun _ => ?_⟩
      refine ⟨fun _ => sL_law_968 ⟨v 1 (by omega), am_two (lw_count hd I) nx⟩, fun _ => ?_⟩
      exact nx h I
end
