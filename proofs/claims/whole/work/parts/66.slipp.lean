-- slip: both
def sl_A (L : Nat → Nat) (m : Nat) (x v : Int32) : Prop := (x = 100 → v = nI m) ∧ (x = 101 → v = nI (sl_bst (sl_cn L m))) ∧ (x = 102 → v = nI (sl_cn L m (sl_bst (sl_cn L m)))) ∧ (x = 103 → v = nI (sl_bst (sl_vs L m))) ∧ (x = 104 → (sl_pal L 0 m ∧ v = 1) ∨ (¬ sl_pal L 0 m ∧ v = 0)) ∧ (x = 105 → ∃ c, sl_lg L m c ∧ v = nI c) ∧ ∀ s, s ≤ 25 → x = nI s → v = nI (sl_vs L m s)
def sl_kn (x : Int32) : Prop := x = 100 ∨ x = 101 ∨ x = 102 ∨ x = 103 ∨ x = 104 ∨ x = 105 ∨ ∃ s, s ≤ 25 ∧ x = nI s
theorem sl_A_u {L : Nat → Nat} {m : Nat} {x v w : Int32} (k : sl_kn x) (p : sl_A L m x v) (q : sl_A L m x w) : v = w := by
  obtain ⟨p0, p1, p2, p3, p4, p5, p6⟩ := p
  obtain ⟨q0, q1, q2, q3, q4, q5, q6⟩ := q
  rcases k with k | k | k | k | k | k | ⟨s, hs, k⟩
  · rw [p0 k, q0 k]
  · rw [p1 k, q1 k]
  · rw [p2 k, q2 k]
  · rw [p3 k, q3 k]
  · rcases p4 k with ⟨a, b⟩ | ⟨a, b⟩
    · rcases q4 k with ⟨c, e⟩ | ⟨c, e⟩
      · rw [b, e]
      · exact absurd a c
    · rcases q4 k with ⟨c, e⟩ | ⟨c, e⟩
      · exact absurd c a
      · rw [b, e]
  · obtain ⟨c, a, b⟩ := p5 k
    obtain ⟨c', a', b'⟩ := q5 k
    rw [b, b', sl_lg_u a a']
  · rw [p6 s hs k, q6 s hs k]
theorem sl_A_100 {L : Nat → Nat} {m : Nat} : sl_A L m 100 (nI m) := ⟨fun _ => rfl, fun e => absurd e (by decide), fun e => absurd e (by decide), fun e => absurd e (by decide), fun e => absurd e (by decide), fun e => absurd e (by decide), fun s hs e => by have := (nI_eq (a := 100) (by omega) (by omega)).mp e; omega⟩
theorem sl_A_101 {L : Nat → Nat} {m : Nat} : sl_A L m 101 (nI (sl_bst (sl_cn L m))) := ⟨fun e => absurd e (by decide), fun _ => rfl, fun e => absurd e (by decide), fun e => absurd e (by decide), fun e => absurd e (by decide), fun e => absurd e (by decide), fun s hs e => by have := (nI_eq (a := 101) (by omega) (by omega)).mp e; omega⟩
theorem sl_A_102 {L : Nat → Nat} {m : Nat} : sl_A L m 102 (nI (sl_cn L m (sl_bst (sl_cn L m)))) := ⟨fun e => absurd e (by decide), fun e => absurd e (by decide), fun _ => rfl, fun e => absurd e (by decide), fun e => absurd e (by decide), fun e => absurd e (by decide), fun s hs e => by have := (nI_eq (a := 102) (by omega) (by omega)).mp e; omega⟩
theorem sl_A_103 {L : Nat → Nat} {m : Nat} : sl_A L m 103 (nI (sl_bst (sl_vs L m))) := ⟨fun e => absurd e (by decide), fun e => absurd e (by decide), fun e => absurd e (by decide), fun _ => rfl, fun e => absurd e (by decide), fun e => absurd e (by decide), fun s hs e => by have := (nI_eq (a := 103) (by omega) (by omega)).mp e; omega⟩
theorem sl_A_104 {L : Nat → Nat} {m : Nat} {v : Int32} (h : (sl_pal L 0 m ∧ v = 1) ∨ (¬ sl_pal L 0 m ∧ v = 0)) : sl_A L m 104 v := ⟨fun e => absurd e (by decide), fun e => absurd e (by decide), fun e => absurd e (by decide), fun e => absurd e (by decide), fun _ => h, fun e => absurd e (by decide), fun s hs e => by have := (nI_eq (a := 104) (by omega) (by omega)).mp e; omega⟩
theorem sl_A_105 {L : Nat → Nat} {m c : Nat} (h : sl_lg L m c) : sl_A L m 105 (nI c) := ⟨fun e => absurd e (by decide), fun e => absurd e (by decide), fun e => absurd e (by decide), fun e => absurd e (by decide), fun e => absurd e (by decide), fun _ => ⟨c, h, rfl⟩, fun s hs e => by have := (nI_eq (a := 105) (by omega) (by omega)).mp e; omega⟩
theorem sl_A_s {L : Nat → Nat} {m s : Nat} (hs : s ≤ 25) : sl_A L m (nI s) (nI (sl_vs L m s)) := by
  have ne : ∀ k, 100 ≤ k → k ≤ 105 → ¬ nI s = nI k := fun k h1 h2 e => by have := (nI_eq (by omega) (by omega)).mp e; omega
  refine ⟨fun e => absurd e (ne 100 (by omega) (by omega)), fun e => absurd e (ne 101 (by omega) (by omega)), fun e => absurd e (ne 102 (by omega) (by omega)), fun e => absurd e (ne 103 (by omega) (by omega)), fun e => absurd e (ne 104 (by omega) (by omega)), fun e => absurd e (ne 105 (by omega) (by omega)), fun s' hs' e => ?_⟩
  rw [(nI_eq (by omega) (by omega)).mp e]
section
variable {d m n : Nat} {h : am_H} {Z : Int32 → am_H → Prop} {L : Nat → Nat} {x : Int32}
theorem iX8_told (hd : 8 ≤ d) (hT : sl_T h m L) (k : sl_kn x) (z : ∀ v f, sl_A L m x v → Z v (am_sR h 7 f)) : Sp mX8_told d [.ref 5, .int x] h Z := by
  have zh : ∀ v, sl_A L m x v → Z v h := fun v a => by
    have := z v (h.2.2 7) a
    rw [am_sR_self] at this; exact this
  have bb := sl_bst_b (sl_cn L m)
  refine Sp_of mf_X8_told rfl (Nat.le_of_ble_eq_true rfl) rfl (sX8_told_0 ?_)
  rcases k with rfl | rfl | rfl | rfl | rfl | rfl | ⟨s, hs, rfl⟩
  · rw [hT.1]
    exact ⟨fun _ => zh _ sl_A_100, fun q => absurd rfl q⟩
  · exact ⟨fun q => absurd q (by decide), fun _ => ⟨fun _ => ⟨7, by omega, iX8_mo (by omega) hT (fun f _ => z _ f sl_A_101)⟩, fun q => absurd rfl q⟩⟩
  · refine ⟨fun q => absurd q (by decide), fun _ => ⟨fun q => absurd q (by decide), fun _ => ⟨fun _ => ⟨7, by omega, iX8_mo (by omega) hT (fun f hf => ⟨vp_in_nI (by omega) (by omega), ?_⟩)⟩, fun q => absurd rfl q⟩⟩⟩
    rw [nI_clamp (by omega), am_gRs, hf _ bb]; exact z _ f sl_A_102
  · exact ⟨fun q => absurd q (by decide), fun _ => ⟨fun q => absurd q (by decide), fun _ => ⟨fun q => absurd q (by decide), fun _ => ⟨fun _ => ⟨7, by omega, Sp_of mf_X8_bestShift rfl (Nat.le_of_ble_eq_true rfl) rfl (sX8_bestShift_0 (x_bsh (by omega) hT (zh _ sl_A_103) 25 1 0 (by omega) (by omega) rfl))⟩, fun q => absurd rfl q⟩⟩⟩⟩
  · refine ⟨fun q => absurd q (by decide), fun _ => ⟨fun q => absurd q (by decide), fun _ => ⟨fun q => absurd q (by decide), fun _ => ⟨fun q => absurd q (by decide), fun _ => ⟨fun _ => ?_, fun q => absurd rfl q⟩⟩⟩⟩⟩
    rw [hT.1]
    exact ⟨7, by omega, iX8_pal (a := 0) hT (by omega) (fun p => ⟨fun q => absurd q (by decide), fun _ => zh _ (sl_A_104 (Or.inl ⟨p, rfl⟩))⟩) (fun p => ⟨fun _ => zh _ (sl_A_104 (Or.inr ⟨p, rfl⟩)), fun q => absurd rfl q⟩)⟩
  · refine ⟨fun q => absurd q (by decide), fun _ => ⟨fun q => absurd q (by decide), fun _ => ⟨fun q => absurd q (by decide), fun _ => ⟨fun q => absurd q (by decide), fun _ => ⟨fun q => absurd q (by decide), fun _ => ⟨fun _ => ?_, fun q => absurd rfl q⟩⟩⟩⟩⟩⟩
    refine ⟨7, by omega, Sp_of mf_X8_longestSameFromBehind rfl (Nat.le_of_ble_eq_true rfl) rfl (sX8_longestSameFromBehind_0 ?_)⟩
    rw [hT.1]
    exact x_lg (by omega) hT (fun c hc => zh _ (sl_A_105 hc)) m _ (Nat.le_refl m) (fun s' a h1 h2 => by omega)
  · have ne : ∀ k, 100 ≤ k → k ≤ 105 → ¬ nI s = nI k := fun k h1 h2 e => by have := (nI_eq (by omega) (by omega)).mp e; omega
    exact ⟨fun q => absurd q (ne 100 (by omega) (by omega)), fun _ => ⟨fun q => absurd q (ne 101 (by omega) (by omega)), fun _ => ⟨fun q => absurd q (ne 102 (by omega) (by omega)), fun _ => ⟨fun q => absurd q (ne 103 (by omega) (by omega)), fun _ => ⟨fun q => absurd q (ne 104 (by omega) (by omega)), fun _ => ⟨fun q => absurd q (ne 105 (by omega) (by omega)), fun _ => ⟨7, by omega, iX8_vs (by omega) hT hs (zh _ (sl_A_s hs))⟩⟩⟩⟩⟩⟩⟩
theorem m_told {u1 : Value} (hd : 8 ≤ d) (k : sl_kn x) (hT : sl_U h m L) (z : ∀ v, sl_A L m x v → Z v (am_sI h 73 9 0)) : Ru mX11_slip none d 91 [.ref 73, u1, .int x, .int 1] [] h Z := by
  have bb := sl_bst_b (sl_cn L m)
  refine sX11_slip_91 (fun h1 e1 => ⟨fun _ => ?_, fun q => absurd q (by decide)⟩)
  have hT1 : sl_U h1 m L := by
    rw [e1]
    exact ⟨by rw [am_gI, if_neg (by decide)]; exact hT.1, hT.2.1, hT.2.2⟩
  rw [← e1] at z
  clear e1
  rcases k with rfl | rfl | rfl | rfl | rfl | rfl | ⟨s, hs, rfl⟩
  · rw [hT1.1]
    exact ⟨fun _ => z _ sl_A_100, fun q => absurd rfl q⟩
  · exact ⟨fun q => absurd q (by decide), fun _ => ⟨fun _ => ⟨7, by omega, Sp_of mf_X11_mostOften rfl (Nat.le_of_ble_eq_true rfl) rfl (sX11_mostOften_0 (m_mo (by omega) hT1 (z _ sl_A_101) 25 1 0 (by omega) (by omega) rfl))⟩, fun q => absurd rfl q⟩⟩
  · refine ⟨fun q => absurd q (by decide), fun _ => ⟨fun q => absurd q (by decide), fun _ => ⟨fun _ => ⟨7, by omega, Sp_of mf_X11_mostOften rfl (Nat.le_of_ble_eq_true rfl) rfl (sX11_mostOften_0 (m_mo (by omega) hT1 ⟨7, by omega, iX11_cn bb hT1 (z _ sl_A_102)⟩ 25 1 0 (by omega) (by omega) rfl))⟩, fun q => absurd rfl q⟩⟩⟩
  · exact ⟨fun q => absurd q (by decide), fun _ => ⟨fun q => absurd q (by decide), fun _ => ⟨fun q => absurd q (by decide), fun _ => ⟨fun _ => ⟨7, by omega, Sp_of mf_X11_bestShift rfl (Nat.le_of_ble_eq_true rfl) rfl (sX11_bestShift_0 (m_bsh (by omega) hT1 (z _ sl_A_103) 25 1 0 (by omega) (by omega) rfl))⟩, fun q => absurd rfl q⟩⟩⟩⟩
  · refine ⟨fun q => absurd q (by decide), fun _ => ⟨fun q => absurd q (by decide), fun _ => ⟨fun q => absurd q (by decide), fun _ => ⟨fun q => absurd q (by decide), fun _ => ⟨fun _ => ?_, fun q => absurd rfl q⟩⟩⟩⟩⟩
    rw [hT1.1]
    have m64 := hT1.2.2.1
    by_cases m0 : m = 0
    · subst m0
      refine ⟨7, by omega, Sp_of mf_X11_isLike rfl (Nat.le_of_ble_eq_true rfl) rfl (sX11_isLike_0 (sX11_isLike_5 ⟨fun _ => ⟨fun q => absurd q (by decide), fun _ => ⟨fun q => absurd q (by decide), fun _ => z _ (sl_A_104 (Or.inl ⟨fun j hj => by omega, rfl⟩))⟩⟩, fun q => absurd (by decide) q⟩))⟩
    · rw [show nI m - 1 = nI (m - 1) from am_sub_n (c := 1) (by omega)]
      refine ⟨7, by omega, iX11_pal (a := 0) (b := m - 1) hT1 (by omega) (by omega) (fun p => ⟨fun q => absurd q (by decide), fun _ => z _ (sl_A_104 (Or.inl ⟨?_, rfl⟩))⟩) (fun p => ⟨fun _ => z _ (sl_A_104 (Or.inr ⟨?_, rfl⟩)), fun q => absurd rfl q⟩)⟩
      · rw [show m - 1 - 0 + 1 = m by omega] at p; exact p
      · rw [show m - 1 - 0 + 1 = m by omega] at p; exact p
  · exact ⟨fun q => absurd q (by decide), fun _ => ⟨fun q => absurd q (by decide), fun _ => ⟨fun q => absurd q (by decide), fun _ => ⟨fun q => absurd q (by decide), fun _ => ⟨fun q => absurd q (by decide), fun _ => ⟨fun _ => ⟨7, by omega, Sp_of mf_X11_longestLike rfl (Nat.le_of_ble_eq_true rfl) rfl (sX11_longestLike_0 (m_lg (by omega) hT1 (fun c hc => z _ (sl_A_105 hc)) m 0 0 _ (by omega) (Nat.zero_le m) (Or.inr rfl) (fun q => by omega) (fun a' s g1 => by omega)))⟩, fun q => absurd rfl q⟩⟩⟩⟩⟩⟩
  · have ne : ∀ k, 100 ≤ k → k ≤ 105 → ¬ nI s = nI k := fun k h1 h2 e => by have := (nI_eq (by omega) (by omega)).mp e; omega
    exact ⟨fun q => absurd q (ne 100 (by omega) (by omega)), fun _ => ⟨fun q => absurd q (ne 101 (by omega) (by omega)), fun _ => ⟨fun q => absurd q (ne 102 (by omega) (by omega)), fun _ => ⟨fun q => absurd q (ne 103 (by omega) (by omega)), fun _ => ⟨fun q => absurd q (ne 104 (by omega) (by omega)), fun _ => ⟨fun q => absurd q (ne 105 (by omega) (by omega)), fun _ => ⟨7, by omega, iX11_vs hT1 hs (z _ (sl_A_s hs))⟩⟩⟩⟩⟩⟩⟩
end
theorem pp_slip {d : Nat} {h : am_H} {K : Int32 → Int32 → am_H → Prop} {x y : Int32} {N : Nat} (hd : 18 ≤ d) (ht : am_tape h N) (z : ∀ r h', am_step h h' → K r r h') : am_cl mX10_slip d [.ref 0, .int x, .int y] h (fun r1 h1 => am_cl mX11_slip d [.ref 73, .int x, .int y] h1 (fun r2 h2 => K r1 r2 h2)) := by
  have hN := ht.1
  have z0 : K (-1) (-1) h := z _ _ (am_step_rf h)
  have m0 : ∀ {h0 : am_H} {Z : Int32 → am_H → Prop}, _ → am_cl mX11_slip d [.ref 73, .int x, .int y] h0 Z := fun {h0 Z} w => ⟨16, by omega, Sp_of mf_X11_slip rfl (Nat.le_of_ble_eq_true rfl) rfl (sX11_slip_0 (by omega) w)⟩
  have kn : sl_kn y ↔ ((0 ≤ y ∧ y ≤ 25) ∨ (100 ≤ y ∧ y ≤ 105)) := by
    constructor
    · rintro (rfl | rfl | rfl | rfl | rfl | rfl | ⟨s, hs, rfl⟩)
      · exact Or.inr (by decide)
      · exact Or.inr (by decide)
      · exact Or.inr (by decide)
      · exact Or.inr (by decide)
      · exact Or.inr (by decide)
      · exact Or.inr (by decide)
      · exact Or.inl ⟨nI_pos' (by omega), nI_le (b := 25) hs (by omega)⟩
    · rintro (⟨a, b⟩ | ⟨a, b⟩)
      · obtain ⟨s, hs, rfl⟩ := am_natle (N := 25) (by omega) a b
        exact Or.inr (Or.inr (Or.inr (Or.inr (Or.inr (Or.inr ⟨s, hs, rfl⟩)))))
      · obtain ⟨s, hs, rfl⟩ := am_natle (N := 105) (by omega) (Int32.le_trans (by decide) a) b
        have s100 : 100 ≤ s := (nI_leI (a := 100) (by omega) (by omega)).mp a
        have : s = 100 ∨ s = 101 ∨ s = 102 ∨ s = 103 ∨ s = 104 ∨ s = 105 := by omega
        rcases this with rfl | rfl | rfl | rfl | rfl | rfl
        · exact Or.inl rfl
        · exact Or.inr (Or.inl rfl)
        · exact Or.inr (Or.inr (Or.inl rfl))
        · exact Or.inr (Or.inr (Or.inr (Or.inl rfl)))
        · exact Or.inr (Or.inr (Or.inr (Or.inr (Or.inl rfl))))
        · exact Or.inr (Or.inr (Or.inr (Or.inr (Or.inr (Or.inl rfl)))))
  -- a refusal of the reference
  have no : ¬ (sl_kn y ∧ (1 ≤ x ∧ x ≤ 80) ∧ x ≤ h.1 1 1) → am_cl mX11_slip d [.ref 73, .int x, .int y] h (fun r2 h2 => K (-1) r2 h2) := fun q => by
    have g31 : sl_kn y → (1 ≤ x ∧ x ≤ 80) → Ru mX11_slip none 16 31 [.ref 73, .int x, .int y, .null] [] h (fun r2 h2 => K (-1) r2 h2) := fun q1 q2 => sX11_slip_31 ⟨fun q3 => absurd ⟨q1, q2, by rw [ht.2.1, ← ht.2.2.1]; exact q3⟩ q, fun _ => z0⟩
    exact m0 ⟨fun _ => z0, fun c1 => ⟨fun c2 => g31 (kn.mpr (Or.inl c2)) c1, fun c2 => ⟨fun _ => z0, fun c3 => g31 (kn.mpr (Or.inr c3)) c1⟩⟩⟩
  have c26 : sl_kn y → Ru mX10_slip none 16 26 [.ref 0, .int x, .int y, .null, .null] [.int 1] h (fun r1 h1 => am_cl mX11_slip d [.ref 73, .int x, .int y] h1 (fun r2 h2 => K r1 r2 h2)) := fun hk => by
    refine sX10_slip_26 (by omega) ⟨fun q => absurd q (by decide), fun _ => ⟨fun c1 => no (fun q => c1 q.2.1), fun c1 => ⟨fun c2 => ?_, fun c2 => no (fun q => c2 q.2.2)⟩⟩⟩
    obtain ⟨n, hn, rfl⟩ := am_natle (N := 80) (by omega) (Int32.le_trans (by decide) c1.1) c1.2
    have hnN : n ≤ N := by rw [ht.2.1] at c2; exact (nI_leI (by omega) (by omega)).mp c2
    have tb := am_bt_lt h
    generalize eo : sl_r0 (am_bt h) n (0, 0, fun _ => 0) = o
    have ok0 : sl_ok n (0, 0, fun _ => 0) := ⟨Nat.zero_le _, Nat.zero_le _, fun i hi => absurd hi (Nat.not_lt_zero i)⟩
    -- the reference
    have ref : ∀ (h0 : am_H) (r : Int32), am_keep h h0 → h0.1 1 1 = 0 → h0.1 73 = h.1 73 → h0.2.2 80 = h.2.2 80 → (o.1 = 0 → sl_A o.2.2.2 o.2.2.1 y r) → (¬ o.1 = 0 → r = o.1) → am_cl mX11_slip d [.ref 73, .int (nI n), .int y] h0 (fun r2 h2 => K r r2 h2) := by
      intro h0 r hk0 h11 e73 e80 r1 r2
      have g31 : Ru mX11_slip none 16 31 [.ref 73, .int (nI n), .int y, .null] [] h0 (fun r2 h2 => K r r2 h2) := by
        refine sX11_slip_31 ⟨fun _ => ⟨15, by omega, Sp_of mf_X11_beginsText rfl (Nat.le_of_ble_eq_true rfl) rfl (sX11_beginsText_0 (fun h1 e1 h2 e2 h3 e3 h4 e4 h5 e5 h6 e6 => ?_))⟩, fun q => absurd (by rw [e73, ht.2.2.1, ← ht.2.1]; exact c2) q⟩
        subst e1; subst e2; subst e3; subst e4; subst e5; subst e6
        have kk : am_keep h (am_sI (am_sI (am_sI (am_sI (am_sI (am_sI h0 73 10 0) 73 11 (nI n)) 73 15 0) 73 17 0) 73 49 0) 73 50 0) := am_keep_sI (am_keep_sI (am_keep_sI (am_keep_sI (am_keep_sI (am_keep_sI hk0 (by decide)) (by decide)) (by decide)) (by decide)) (by decide)) (by decide)
        have k11 : (am_sI (am_sI (am_sI (am_sI (am_sI (am_sI h0 73 10 0) 73 11 (nI n)) 73 15 0) 73 17 0) 73 49 0) 73 50 0).1 1 1 = 0 := by
          simp only [am_gI, Nat.reduceEqDiff, false_and, reduceIte]; exact h11
        have M6 : sl_M (am_bt h) n (am_sI (am_sI (am_sI (am_sI (am_sI (am_sI h0 73 10 0) 73 11 (nI n)) 73 15 0) 73 17 0) 73 49 0) 73 50 0) [] (0, 0, fun _ => 0) := by
          refine ⟨⟨?_, ?_, Nat.zero_le _, by omega, tb, fun i hi => ?_⟩, ?_, fun i hi => absurd hi (Nat.not_lt_zero i), ?_, trivial, Nat.zero_le _, trivial⟩
          · simp only [am_gI, Nat.reduceEqDiff, and_false, and_true, reduceIte]
          · simp only [am_gI, Nat.reduceEqDiff, and_false, and_true, reduceIte]; rfl
          · show h0.2.2 80 i &&& 255 = _
            rw [e80]; exact am_bt_e h i
          · simp only [am_gI, Nat.reduceEqDiff, and_false, and_true, reduceIte]; rfl
          · simp only [am_gI, Nat.reduceEqDiff, and_false, and_true, reduceIte]; rfl
        generalize am_sI (am_sI (am_sI (am_sI (am_sI (am_sI h0 73 10 0) 73 11 (nI n)) 73 15 0) 73 17 0) 73 49 0) 73 50 0 = g at kk k11 M6 ⊢
        have st : ∀ h', sm_fr g h' → am_step h (am_sI h' 73 9 0) := fun h' f => by
          refine am_step_x (am_keep_sI (am_keep_tr kk ⟨fun a ha => f.1 a (fun q => ?_), fun a k ha => f.2.1 a k (fun q => ?_), by rw [f.2.2]⟩) (by decide)) ?_ (by rw [am_gI, if_pos ⟨rfl, rfl⟩])
          · have : a = 101 ∨ a = 102 ∨ a = 103 ∨ a = 104 := by omega
            rcases this with rfl | rfl | rfl | rfl <;> exact absurd ha (by decide)
          · obtain ⟨rfl, q⟩ := q
            have : k = 10 ∨ k = 12 ∨ k = 49 ∨ k = 50 ∨ k = 51 ∨ k = 52 := by omega
            rcases this with rfl | rfl | rfl | rfl | rfl | rfl <;> exact absurd ha (by decide)
          · rw [am_gI, if_neg (by decide), f.2.1 1 1 (by omega)]; exact k11
        have f0 : ∀ h', sm_fr g h' → ¬ o.1 = 0 → h'.1 73 12 = o.1 → Ru mX11_slip none 16 91 [.ref 73, .int (nI n), .int y, .int 0] [] h' (fun r2 h2 => K r r2 h2) := fun h' f ne e12 => by
          refine sX11_slip_91 (fun h1 e1 => ⟨fun q => absurd rfl q, fun _ => ?_⟩)
          subst e1
          rw [am_gI, if_neg (by decide), e12, r2 ne]
          exact z _ _ (st h' f)
        have f1 : ∀ h', sm_fr g h' → o.1 = 0 → sl_M (am_bt h) n h' [] o.2 → sl_ok n o.2 → Ru mX11_slip none 16 91 [.ref 73, .int (nI n), .int y, .int 1] [] h' (fun r2 h2 => K r r2 h2) := fun h' f e0 M' ok' => by
          refine m_told (by omega) hk ⟨M'.2.1, M'.2.2.1, ok'.2.1, ok'.2.2⟩ (fun v hv => ?_)
          rw [sl_A_u hk (r1 e0) hv]
          exact z _ _ (st h' f)
        refine ⟨15, by omega, iX11_readsLetter (o := o) (by omega) (by omega) tb M6 ok0 (by rw [← eo]; rfl) (fun h' σ' S' g1 g2 g3 g4 g5 g6 => m_61 (h := g) (by omega) (by omega) tb f1 f0 (n + 1) σ' S' h' (by omega) g1 g2 g3 g4 g5) (fun h' g1 g2 g3 => sX11_slip_61 ⟨fun _ => f0 h' g1 g2 g3, fun q => absurd rfl q⟩)⟩
      rcases kn.mp hk with q | q
      · exact m0 ⟨fun w => absurd c1 w, fun _ => ⟨fun _ => g31, fun w => absurd q w⟩⟩
      · by_cases q2 : 0 ≤ y ∧ y ≤ 25
        · exact m0 ⟨fun w => absurd c1 w, fun _ => ⟨fun _ => g31, fun w => absurd q2 w⟩⟩
        · exact m0 ⟨fun w => absurd c1 w, fun _ => ⟨fun w => absurd w q2, fun _ => ⟨fun w => absurd q w, fun _ => g31⟩⟩⟩
    refine ⟨15, by omega, Sp_of mf_X8_read rfl (Nat.le_of_ble_eq_true rfl) rfl (sX8_read_0 (by omega) (fun h1 e1 => ⟨14, by omega, iX8_readRow0 (t := am_bt h) (n := n) (by omega) hn tb _ (0, 0, fun _ => 0) _ ?_ ok0 (fun h3 oc => ?_)⟩))⟩
    · subst e1
      refine ⟨⟨?_, ?_, ?_, Nat.zero_le _, by omega, tb, fun i hi => ?_⟩, ?_, fun i hi => absurd hi (Nat.not_lt_zero i)⟩
      · rw [am_gI, if_neg (by decide), am_gI, if_neg (by decide), am_gI, if_pos ⟨rfl, rfl⟩]
      · rw [am_gI, if_neg (by decide), am_gI, if_pos ⟨rfl, rfl⟩]; rfl
      · rw [am_gI, if_pos ⟨rfl, rfl⟩]
      · rw [am_at_sI _ _ _ (by decide), am_at_sI _ _ _ (by decide), am_at_sI _ _ _ (by decide), am_at_sI _ _ _ (by decide)]; exact am_at_b ht (by omega)
      · rw [am_gI, if_neg (by decide), am_gI, if_neg (by decide), am_gI, if_neg (by decide), am_gI, if_pos ⟨rfl, rfl⟩]; rfl
    · rw [eo] at oc
      subst e1
      obtain ⟨f3, oc⟩ := oc
      have k3 : am_keep h h3 := am_keep_tr (am_keep_sI (am_keep_sI (am_keep_sI (am_keep_sI (am_keep_rf h) (by decide)) (by decide)) (by decide)) (by decide)) ⟨fun a ha => f3.1 a (fun e => by rw [e] at ha; exact absurd ha (by decide)) (fun e => by rw [e] at ha; exact absurd ha (by decide)), fun a k ha => f3.2.1 a k (fun e => by rw [e] at ha; exact absurd ha (by simp [am_relI])) (fun e => by rw [e.1, e.2] at ha; exact absurd ha (by decide)), by rw [f3.2.2]⟩
      have i73 : h3.1 73 = h.1 73 := by
        funext k
        rw [f3.2.1 73 k (by decide) (by omega)]
        simp only [am_gI, Nat.reduceEqDiff, false_and, reduceIte]
      have a80 : h3.2.2 80 = h.2.2 80 := f3.1 80 (by decide) (by decide)
      rcases oc with ⟨o0, H3⟩ | ⟨o1, e33⟩
      · have ok3 : sl_ok n o.2 := by
          have hp := sl_p0 (t := am_bt h) (n := n) (by omega) tb
          have hg := sl_g0 (t := am_bt h) (n := n) (by omega) tb
          have eo' := eo
          unfold sl_r0 sl_rw at eo'
          have p := hp (0, 0, fun _ => 0) ok0
          generalize sl_e0 (am_bt h) n (0, 0, fun _ => 0) = o2 at p eo'
          by_cases c : o2.1 = 0
          · rw [sl_b_0 c] at eo'
            have p1 := p.1 c
            have w := (sl_lf_p (t := am_bt h) (cl := -1) hp hg (n + 1 - o2.2.1) o2.2 p1.1 (by have := p1.1.1; omega)).1 (by rw [eo']; exact o0)
            rw [eo'] at w; exact w.1
          · rw [sl_b_f c] at eo'
            rw [eo'] at c; exact absurd o0 c
        have f30 : h3.1 3 3 = 0 := H3.1.2.2.1
        refine ⟨fun _ => ?_, fun q => absurd f30 q⟩
        rw [H3.2.1]
        refine ⟨fun _ => ?_, fun q => absurd (nI_pos' (by have := ok3.2.1; omega)) q⟩
        have T3 : sl_T (am_sI h3 1 1 0) o.2.2.1 o.2.2.2 := ⟨by rw [am_gI, if_neg (by decide)]; exact H3.2.1, H3.2.2, ok3.2.1, ok3.2.2⟩
        refine ⟨15, by omega, iX8_told (by omega) T3 hk (fun v f hv => ref _ v ?_ ?_ ?_ ?_ (fun _ => hv) (fun q => absurd o0 q))⟩
        · exact am_keep_sR (am_keep_sI k3 (by decide)) (by decide)
        · rw [am_gRi, am_gI, if_pos ⟨rfl, rfl⟩]
        · funext k; rw [am_gRi, am_gI, if_neg (by omega), i73]
        · rw [am_gR, if_neg (by decide), am_gI2]; exact a80
      · have ne : ¬ h3.1 3 3 = 0 := by rw [e33]; exact o1
        refine ⟨fun q => absurd ne q, fun _ => ?_⟩
        rw [e33]
        have lt : o.1 < 0 := by
          have hp := sl_p0 (t := am_bt h) (n := n) (by omega) tb
          have hg := sl_g0 (t := am_bt h) (n := n) (by omega) tb
          have eo' := eo
          unfold sl_r0 sl_rw at eo'
          have p := hp (0, 0, fun _ => 0) ok0
          generalize sl_e0 (am_bt h) n (0, 0, fun _ => 0) = o2 at p eo'
          by_cases c : o2.1 = 0
          · rw [sl_b_0 c] at eo'
            have p1 := p.1 c
            have w := (sl_lf_p (t := am_bt h) (cl := -1) hp hg (n + 1 - o2.2.1) o2.2 p1.1 (by have := p1.1.1; omega)).2 (by rw [eo']; exact o1)
            rw [eo'] at w; exact w
          · rw [sl_b_f c] at eo'
            rw [eo'] at p; exact p.2 o1
        refine ⟨fun q => absurd lt (Int32.not_lt.mpr q), fun _ => ref _ _ ?_ ?_ ?_ ?_ (fun q => absurd q o1) (fun _ => rfl)⟩
        · exact am_keep_sI k3 (by decide)
        · rw [am_gI, if_pos ⟨rfl, rfl⟩]
        · funext k; rw [am_gI, if_neg (by omega), i73]
        · rw [am_gI2]; exact a80
  refine ⟨16, by omega, Sp_of mf_X10_slip rfl (Nat.le_of_ble_eq_true rfl) rfl (sX10_slip_0 (by omega) ⟨fun c => sX10_slip_21 (c26 (kn.mpr (Or.inl c))), fun c => ⟨fun c2 => ?_, fun c2 => sX10_slip_21 (c26 (kn.mpr (Or.inr c2)))⟩⟩)⟩
  refine sX10_slip_26 (by omega) ⟨fun _ => no (fun q => ?_), fun q => absurd rfl q⟩
  rcases kn.mp q.1 with w | w
  · exact c w
  · exact c2 w
