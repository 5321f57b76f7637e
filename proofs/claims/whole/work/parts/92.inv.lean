-- the invariant between calls
def iv_B (h : am_H) (b : Nat) (B : am_AB) : Prop := q_IC h b B ∧ q_IN h 74 B ∧ q_IM h B ∧ q_ok B
def iv_C (h : am_H) (c : Nat) : Prop := ∃ D X, h.1 c 9 = nI D ∧ h.1 c 10 = nI X ∧ D ≤ 9999 ∧ X < 65536
def iv_L (h : am_H) (g : Nat) : Prop := ∃ L, q_LC h g L ∧ q_LM h L
def iv_K (h : am_H) : Prop := h.1 0 14 = h.1 73 60 ∧ (¬ h.1 0 14 = 0 → ∃ E, q_ok E ∧ q_IC h 29 E ∧ q_IN h 76 E ∧ h.1 73 61 = nI (q_n E))
def iv_P (h : am_H) (b c g g' : Nat) : Prop := ((b = 38 ∧ c = 47) ∨ (b = 47 ∧ c = 38)) ∧ ((g = 56 ∧ g' = 64) ∨ (g = 64 ∧ g' = 56)) ∧ h.2.1 0 10 = b ∧ h.2.1 0 11 = c ∧ h.2.1 0 12 = g ∧ h.2.1 0 13 = g'
def am_inv (h : am_H) : Prop := ∃ N b c g g' B, am_tape h N ∧ iv_P h b c g g' ∧ iv_B h b B ∧ iv_C h c ∧ iv_L h g ∧ iv_K h
section
variable {h h' : am_H} {b c g : Nat} {B : am_AB}
theorem q_IC_cg (e1 : ∀ k, 8 ≤ k → k ≤ 10 → h'.1 b k = h.1 b k) (e2 : ∀ i, 1 ≤ i → i ≤ 8 → h'.2.2 (b + i) = h.2.2 (b + i)) (p : q_IC h b B) : q_IC h' b B := by
  unfold q_IC at p ⊢
  rw [e1 8 (by omega) (by omega), e1 9 (by omega) (by omega), e1 10 (by omega) (by omega), e2 1 (by omega) (by omega), e2 2 (by omega) (by omega), e2 3 (by omega) (by omega), e2 4 (by omega) (by omega), e2 5 (by omega) (by omega), e2 6 (by omega) (by omega), e2 7 (by omega) (by omega), e2 8 (by omega) (by omega)]
  exact p
theorem q_IN_cg {a : Nat} (e : h'.2.2 a = h.2.2 a) (p : q_IN h a B) : q_IN h' a B := by
  unfold q_IN at p ⊢
  rw [e]; exact p
theorem q_IM_cg (e1 : h'.1 73 6 = h.1 73 6) (e2 : h'.1 73 7 = h.1 73 7) (e3 : ∀ a, 77 ≤ a → a ≤ 79 → h'.2.2 a = h.2.2 a) (p : q_IM h B) : q_IM h' B := by
  unfold q_IM at p ⊢
  rw [e1, e2, e3 77 (by omega) (by omega), e3 78 (by omega) (by omega), e3 79 (by omega) (by omega)]; exact p
theorem iv_B_cg (e1 : ∀ k, 8 ≤ k → k ≤ 10 → h'.1 b k = h.1 b k) (e2 : ∀ i, 1 ≤ i → i ≤ 8 → h'.2.2 (b + i) = h.2.2 (b + i)) (e3 : h'.2.2 74 = h.2.2 74) (e4 : h'.1 73 6 = h.1 73 6) (e5 : h'.1 73 7 = h.1 73 7) (e6 : ∀ a, 77 ≤ a → a ≤ 79 → h'.2.2 a = h.2.2 a) (p : iv_B h b B) : iv_B h' b B := ⟨q_IC_cg e1 e2 p.1, q_IN_cg e3 p.2.1, q_IM_cg e4 e5 e6 p.2.2.1, p.2.2.2⟩
theorem iv_C_cg (e1 : h'.1 c 9 = h.1 c 9) (e2 : h'.1 c 10 = h.1 c 10) (p : iv_C h c) : iv_C h' c := by
  unfold iv_C at p ⊢
  rw [e1, e2]; exact p
theorem iv_L_cg (e1 : h'.1 g 7 = h.1 g 7) (e2 : ∀ i, 1 ≤ i → i ≤ 5 → h'.2.2 (g + i) = h.2.2 (g + i)) (e3 : h'.1 73 18 = h.1 73 18) (e4 : ∀ a, 87 ≤ a → a ≤ 91 → h'.2.2 a = h.2.2 a) (p : iv_L h g) : iv_L h' g := by
  unfold iv_L q_LC q_LM at p ⊢
  rw [e1, e3, e2 1 (by omega) (by omega), e2 2 (by omega) (by omega), e2 3 (by omega) (by omega), e2 4 (by omega) (by omega), e2 5 (by omega) (by omega), e4 87 (by omega) (by omega), e4 88 (by omega) (by omega), e4 89 (by omega) (by omega), e4 90 (by omega) (by omega), e4 91 (by omega) (by omega)]
  exact p
theorem iv_K_cg (e1 : h'.1 0 14 = h.1 0 14) (e2 : h'.1 73 60 = h.1 73 60) (e3 : h'.1 73 61 = h.1 73 61) (e4 : ∀ k, 8 ≤ k → k ≤ 10 → h'.1 29 k = h.1 29 k) (e5 : ∀ a, 30 ≤ a → a ≤ 37 → h'.2.2 a = h.2.2 a) (e6 : h'.2.2 76 = h.2.2 76) (p : iv_K h) : iv_K h' := by
  refine ⟨by rw [e1, e2]; exact p.1, fun q => ?_⟩
  obtain ⟨E, a1, a2, a3, a4⟩ := p.2 (by rw [← e1]; exact q)
  exact ⟨E, a1, q_IC_cg (b := 29) e4 (fun i i1 i2 => e5 (29 + i) (by omega) (by omega)) a2, q_IN_cg e6 a3, by rw [e3]; exact a4⟩
theorem iv_P_cg {g' : Nat} (e : h'.2.1 0 = h.2.1 0) (p : iv_P h b c g g') : iv_P h' b c g g' := by
  unfold iv_P at p ⊢
  rw [e]; exact p
theorem am_tape_cg {N : Nat} (e1 : h'.1 1 1 = h.1 1 1) (e2 : h'.1 73 9 = h.1 73 9) (e3 : h'.2.2 2 = h.2.2 2) (e4 : h'.2.2 80 = h.2.2 80) (p : am_tape h N) : am_tape h' N := by
  unfold am_tape at p ⊢
  rw [e1, e2, e3, e4]; exact p
theorem am_tape_0 (e1 : h'.1 1 1 = 0) (e2 : h'.1 73 9 = 0) : am_tape h' 0 := ⟨by omega, e1, e2, fun i hi => absurd hi (Nat.not_lt_zero i)⟩
/-- a step that leaves all but the tape -/
theorem am_inv_st (I : am_inv h) (s : am_step h h') : am_inv h' := by
  obtain ⟨N, b, c, g, g', B, T, P, iB, iC, iL, iK⟩ := I
  obtain ⟨⟨kR, kI, kP⟩, kt⟩ := s
  obtain ⟨N', T'⟩ : ∃ N', am_tape h' N' := by
    rcases kt with ⟨t1, t2⟩ | ⟨t1, t2⟩
    · exact ⟨N, am_tape_cg t1 t2 (kR 2 (by decide)) (kR 80 (by decide)) T⟩
    · exact ⟨0, am_tape_0 t1 t2⟩
  have r77 : ∀ a, 77 ≤ a → a ≤ 79 → h'.2.2 a = h.2.2 a := fun a a1 a2 => by
    rcases (by omega : a = 77 ∨ a = 78 ∨ a = 79) with rfl | rfl | rfl <;> exact kR _ (by decide)
  have r87 : ∀ a, 87 ≤ a → a ≤ 91 → h'.2.2 a = h.2.2 a := fun a a1 a2 => by
    rcases (by omega : a = 87 ∨ a = 88 ∨ a = 89 ∨ a = 90 ∨ a = 91) with rfl | rfl | rfl | rfl | rfl <;> exact kR _ (by decide)
  have r30 : ∀ a, 30 ≤ a → a ≤ 37 → h'.2.2 a = h.2.2 a := fun a a1 a2 => by
    rcases (by omega : a = 30 ∨ a = 31 ∨ a = 32 ∨ a = 33 ∨ a = 34 ∨ a = 35 ∨ a = 36 ∨ a = 37) with rfl | rfl | rfl | rfl | rfl | rfl | rfl | rfl <;> exact kR _ (by decide)
  have rb : ∀ i, 1 ≤ i → i ≤ 8 → h'.2.2 (b + i) = h.2.2 (b + i) := fun i i1 i2 => by
    rcases (by have := P.1; omega : b = 38 ∨ b = 47) with rfl | rfl <;> rcases (by omega : i = 1 ∨ i = 2 ∨ i = 3 ∨ i = 4 ∨ i = 5 ∨ i = 6 ∨ i = 7 ∨ i = 8) with rfl | rfl | rfl | rfl | rfl | rfl | rfl | rfl <;> exact kR _ (by decide)
  have rg : ∀ i, 1 ≤ i → i ≤ 5 → h'.2.2 (g + i) = h.2.2 (g + i) := fun i i1 i2 => by
    rcases (by have := P.2.1; omega : g = 56 ∨ g = 64) with rfl | rfl <;> rcases (by omega : i = 1 ∨ i = 2 ∨ i = 3 ∨ i = 4 ∨ i = 5) with rfl | rfl | rfl | rfl | rfl <;> exact kR _ (by decide)
  have ib : ∀ k, h'.1 b k = h.1 b k := fun k => kI b k (by rcases (by have := P.1; omega : b = 38 ∨ b = 47) with rfl | rfl <;> rfl)
  have ic : ∀ k, h'.1 c k = h.1 c k := fun k => kI c k (by rcases (by have := P.1; omega : c = 38 ∨ c = 47) with rfl | rfl <;> rfl)
  have ig : ∀ k, h'.1 g k = h.1 g k := fun k => kI g k (by rcases (by have := P.2.1; omega : g = 56 ∨ g = 64) with rfl | rfl <;> rfl)
  exact ⟨N', b, c, g, g', B, T', iv_P_cg kP P, iv_B_cg (fun k _ _ => ib k) rb (kR 74 (by decide)) (kI 73 6 (by decide)) (kI 73 7 (by decide)) r77 iB, iv_C_cg (ic 9) (ic 10) iC, iv_L_cg (ig 7) rg (kI 73 18 (by decide)) r87 iL, iv_K_cg (kI 0 14 (by decide)) (kI 73 60 (by decide)) (kI 73 61 (by decide)) (fun k _ _ => kI 29 k rfl) r30 (kR 76 (by decide)) iK⟩
/-- a step of the bureau -/
theorem am_inv_kp {N b c g g' : Nat} {B' : am_AB} (T : am_tape h N) (P : iv_P h b c g g') (iC : iv_C h c) (iL : iv_L h g) (iK : iv_K h) (s : am_kp (q_eb b) h h') (a1 : q_IC h' b B') (a2 : q_IN h' 74 B') (a3 : q_IM h' B') (a4 : q_ok B') : am_inv h' := by
  obtain ⟨kR, kI, kP, t1, t2⟩ := s
  have hb : b = 38 ∨ b = 47 := by have := P.1; omega
  have eb : ∀ a, ¬ (b ≤ a ∧ a ≤ b + 8) → a ≠ 74 → q_eb b a = false := fun a n1 n2 => by
    unfold q_eb
    rw [Bool.or_eq_false_iff, Bool.and_eq_false_iff]
    refine ⟨?_, by simpa using n2⟩
    by_cases q : b ≤ a
    · exact Or.inr (by simp; omega)
    · exact Or.inl (by simp; omega)
  have R : ∀ a, am_relR a = true → ¬ (b ≤ a ∧ a ≤ b + 8) → a ≠ 74 → h'.2.2 a = h.2.2 a := fun a w n1 n2 => kR a w (eb a n1 n2)
  have I : ∀ a k, am_relI a k = true → ¬ (b ≤ a ∧ a ≤ b + 8) → a ≠ 74 → h'.1 a k = h.1 a k := fun a k w n1 n2 => kI a k w (eb a n1 n2)
  have r87 : ∀ a, 87 ≤ a → a ≤ 91 → h'.2.2 a = h.2.2 a := fun a a1 a2 => by
    rcases (by omega : a = 87 ∨ a = 88 ∨ a = 89 ∨ a = 90 ∨ a = 91) with rfl | rfl | rfl | rfl | rfl <;> exact R _ (by decide) (by omega) (by omega)
  have r30 : ∀ a, 30 ≤ a → a ≤ 37 → h'.2.2 a = h.2.2 a := fun a a1 a2 => by
    rcases (by omega : a = 30 ∨ a = 31 ∨ a = 32 ∨ a = 33 ∨ a = 34 ∨ a = 35 ∨ a = 36 ∨ a = 37) with rfl | rfl | rfl | rfl | rfl | rfl | rfl | rfl <;> exact R _ (by decide) (by omega) (by omega)
  have hg : g = 56 ∨ g = 64 := by have := P.2.1; omega
  have hc : (c = 38 ∧ b = 47) ∨ (c = 47 ∧ b = 38) := by have := P.1; omega
  have rg : ∀ i, 1 ≤ i → i ≤ 5 → h'.2.2 (g + i) = h.2.2 (g + i) := fun i i1 i2 => by
    rcases hg with rfl | rfl <;> rcases (by omega : i = 1 ∨ i = 2 ∨ i = 3 ∨ i = 4 ∨ i = 5) with rfl | rfl | rfl | rfl | rfl <;> exact R _ (by decide) (by omega) (by omega)
  have ic : ∀ k, h'.1 c k = h.1 c k := fun k => I c k (by rcases hc with ⟨rfl, _⟩ | ⟨rfl, _⟩ <;> rfl) (by omega) (by omega)
  have ig : ∀ k, h'.1 g k = h.1 g k := fun k => I g k (by rcases hg with rfl | rfl <;> rfl) (by omega) (by omega)
  exact ⟨N, b, c, g, g', B', am_tape_cg t1 t2 (R 2 (by decide) (by omega) (by omega)) (R 80 (by decide) (by omega) (by omega)) T, iv_P_cg kP P, ⟨a1, a2, a3, a4⟩, iv_C_cg (ic 9) (ic 10) iC, iv_L_cg (ig 7) rg (I 73 18 (by decide) (by omega) (by omega)) r87 iL, iv_K_cg (I 0 14 (by decide) (by omega) (by omega)) (I 73 60 (by decide) (by omega) (by omega)) (I 73 61 (by decide) (by omega) (by omega)) (fun k _ _ => I 29 k rfl (by omega) (by omega)) r30 (R 76 (by decide) (by omega) (by omega)) iK⟩
end
