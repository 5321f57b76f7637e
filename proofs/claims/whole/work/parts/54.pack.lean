-- packing papers into drawers
def fw_in (A S : Nat) : Prop := ∀ i, A.testBit i = true → S.testBit i = true
def fw_sm (s : Nat → Nat) (n A : Nat) : Nat := am_sm (fun p => if A.testBit p = true then s p else 0) n
theorem fw_and {A S : Nat} : fw_in A S ↔ A &&& S = A := by
  constructor
  · intro h
    apply Nat.eq_of_testBit_eq
    intro i
    rw [Nat.testBit_and]
    cases q : A.testBit i with
    | false => rfl
    | true => rw [h i q]; rfl
  · intro h i hi
    rw [← h, Nat.testBit_and] at hi
    cases q : S.testBit i with
    | true => rfl
    | false => rw [q, Bool.and_false] at hi; cases hi
theorem fw_in_le {A S : Nat} (h : fw_in A S) : A ≤ S := by
  have := fw_and.mp h
  rw [← this]; exact Nat.and_le_right
theorem fw_in_0 (S : Nat) : fw_in 0 S := fun i hi => by rw [Nat.zero_testBit] at hi; cases hi
theorem fw_x_in {A S : Nat} (h : fw_in A S) : fw_in (S ^^^ A) S := fun i hi => by
  rw [Nat.testBit_xor] at hi
  cases q : S.testBit i with
  | true => rfl
  | false =>
    rw [q] at hi
    cases q2 : A.testBit i with
    | true => rw [h i q2] at q; cases q
    | false => rw [q2] at hi; cases hi
theorem fw_x_n {A S i : Nat} (h : fw_in A S) (hi : A.testBit i = true) : (S ^^^ A).testBit i = false := by
  rw [Nat.testBit_xor, h i hi, hi]; rfl
theorem fw_xor_e {A S : Nat} (e : S ^^^ A = S) : A = 0 := by
  have : S ^^^ (S ^^^ A) = S ^^^ S := by rw [e]
  rw [← Nat.xor_assoc, Nat.xor_self, Nat.zero_xor] at this
  exact this
theorem fw_flip : ∀ (p A : Nat), A.testBit p = true → (A ^^^ 2 ^ p) + 2 ^ p = A
  | 0, A, h => by
    have h1 : A % 2 = 1 := Nat.mod_two_eq_one_iff_testBit_zero.mpr h
    have d : (A ^^^ 1) / 2 = A / 2 := by rw [Nat.xor_div_two]; simp
    have m : ¬ (A ^^^ 1) % 2 = 1 := fun q => by
      rw [Nat.xor_mod_two_eq_one] at q
      exact q ⟨fun _ => rfl, fun _ => h1⟩
    show (A ^^^ 1) + 1 = A
    omega
  | p + 1, A, h => by
    rw [← Nat.testBit_div_two] at h
    have ih := fw_flip p (A / 2) h
    have d : (A ^^^ 2 ^ (p + 1)) / 2 = A / 2 ^^^ 2 ^ p := by
      rw [Nat.xor_div_two, Nat.pow_succ, Nat.mul_div_cancel _ (by decide)]
    have m : (A ^^^ 2 ^ (p + 1)) % 2 = 1 ↔ A % 2 = 1 := by
      rw [Nat.xor_mod_two_eq_one]
      have e : 2 ^ (p + 1) % 2 = 0 := by rw [Nat.pow_succ, Nat.mul_mod_left]
      rw [e]
      constructor
      · intro q
        rcases Nat.mod_two_eq_zero_or_one A with a | a
        · exact absurd ⟨fun x => by omega, fun x => by omega⟩ q
        · exact a
      · intro a q
        have := q.mp a
        omega
    have e2 : 2 ^ (p + 1) = 2 * 2 ^ p := by rw [Nat.pow_succ, Nat.mul_comm]
    rw [e2] at d m ⊢
    omega
theorem fw_sm_flip {s : Nat → Nat} {n A p : Nat} (hp : p < n) (h : A.testBit p = true) : fw_sm s n (A ^^^ 2 ^ p) + s p = fw_sm s n A := by
  have a := am_sm_up (fun q => if (A ^^^ 2 ^ p).testBit q = true then s q else 0) (s p) hp
  have b : (if (A ^^^ 2 ^ p).testBit p = true then s p else 0) = 0 := if_neg (by rw [fb_bit_flip, h]; simp)
  have e : am_sm (fun k => if k = p then s p else (fun q => if (A ^^^ 2 ^ p).testBit q = true then s q else 0) k) n = fw_sm s n A := am_sm_cg n (fun k _ => by
    by_cases c : k = p
    · subst c; simp [h]
    · show (if k = p then s p else if (A ^^^ 2 ^ p).testBit k = true then s k else 0) = _
      rw [if_neg c, fb_bit_flip, decide_eq_false c, Bool.xor_false])
  have a' : am_sm (fun k => if k = p then s p else (fun q => if (A ^^^ 2 ^ p).testBit q = true then s q else 0) k) n + (if (A ^^^ 2 ^ p).testBit p = true then s p else 0) = fw_sm s n (A ^^^ 2 ^ p) + s p := a
  omega
theorem fw_sm_0 (s : Nat → Nat) (n : Nat) : fw_sm s n 0 = 0 := by
  unfold fw_sm
  rw [am_sm_cg (g := fun _ => 0) n (fun k _ => if_neg (by rw [Nat.zero_testBit]; decide)), am_sm_c]; rfl
theorem fw_bit_n {n A p : Nat} (hA : A < 2 ^ n) (h : A.testBit p = true) : p < n := by
  rcases Nat.lt_or_ge p n with q | q
  · exact q
  · have := Nat.testBit_lt_two_pow (Nat.lt_of_lt_of_le hA (Nat.pow_le_pow_right (by decide) q))
    rw [this] at h; cases h
theorem fw_sm_z {s : Nat → Nat} {n A : Nat} (hA : A < 2 ^ n) (hs : ∀ p, p < n → 1 ≤ s p) (h : fw_sm s n A ≤ 0) : A = 0 := by
  by_cases c : A = 0
  · exact c
  · obtain ⟨p, hp⟩ := Nat.exists_testBit_of_ne_zero c
    have pn := fw_bit_n hA hp
    have := am_sm_ge (fun p => if A.testBit p = true then s p else 0) pn
    have e : (if A.testBit p = true then s p else 0) = s p := if_pos hp
    rw [e] at this
    have h1 := hs p pn
    unfold fw_sm at h
    omega
/-- parts of a set, the next below -/
theorem fw_nx : ∀ (X S Z : Nat), fw_in X S → fw_in Z S → Z < X → Z ≤ (X - 1) &&& S := by
  intro X
  induction X using Nat.strongRecOn with
  | _ X ih =>
    intro S Z hX hZ hlt
    have dv : ∀ {A : Nat}, fw_in A S → fw_in (A / 2) (S / 2) := fun {A} h i hi => by
      rw [Nat.testBit_div_two] at hi ⊢; exact h _ hi
    have md : ((X - 1) &&& S) % 2 = 1 ↔ (X - 1) % 2 = 1 ∧ S % 2 = 1 := Nat.and_mod_two_eq_one
    have dd : ((X - 1) &&& S) / 2 = (X - 1) / 2 &&& S / 2 := Nat.and_div_two
    rcases Nat.mod_two_eq_zero_or_one X with a | a
    · have e1 : (X - 1) / 2 = X / 2 - 1 := by omega
      have i := ih (X / 2) (by omega) (S / 2) (Z / 2) (dv hX) (dv hZ) (by omega)
      rw [← e1, ← dd] at i
      have z : Z % 2 = 1 → S % 2 = 1 := fun q => Nat.mod_two_eq_one_iff_testBit_zero.mpr (hZ 0 (Nat.mod_two_eq_one_iff_testBit_zero.mp q))
      rcases Nat.mod_two_eq_zero_or_one Z with b | b
      · omega
      · have := md.mpr ⟨by omega, z b⟩
        omega
    · have e1 : (X - 1) / 2 = X / 2 := by omega
      have e2 : X / 2 &&& S / 2 = X / 2 := fw_and.mp (dv hX)
      rw [e1, e2] at dd
      omega
/-- so many of the first drawers are enough -/
def fw_P (s : Nat → Nat) (n : Nat) (r : Nat → Nat) : Nat → Nat → Nat → Prop
  | 0, _, S => S = 0
  | i + 1, m, S => fw_P s n r i m S ∨ ∃ A, fw_in A S ∧ fw_sm s n A ≤ r i ∧ 1 ≤ m ∧ fw_P s n r i (m - 1) (S ^^^ A)
def fw_Q (s : Nat → Nat) (n : Nat) (r : Nat → Nat) : Nat → Nat → Prop
  | 0, S => S = 0
  | k + 1, S => ∃ A, fw_in A S ∧ fw_sm s n A ≤ r k ∧ fw_Q s n r k (S ^^^ A)
section
variable {s r r' : Nat → Nat} {n : Nat}
theorem fw_P_0 : ∀ (i m : Nat), fw_P s n r i m 0
  | 0, _ => rfl
  | i + 1, m => Or.inl (fw_P_0 i m)
theorem fw_P_m : ∀ (i m S : Nat), fw_P s n r i m S → fw_P s n r i (m + 1) S
  | 0, _, _, h => h
  | i + 1, m, S, h => by
    rcases h with h | ⟨A, h1, h2, h3, h4⟩
    · exact Or.inl (fw_P_m i m S h)
    · refine Or.inr ⟨A, h1, h2, by omega, ?_⟩
      have := fw_P_m i (m - 1) _ h4
      rw [show m - 1 + 1 = m by omega] at this
      rw [show m + 1 - 1 = m by omega]; exact this
theorem fw_P_cg : ∀ (i m S : Nat), (∀ j, j < i → r j = r' j) → fw_P s n r i m S → fw_P s n r' i m S
  | 0, _, _, _, h => h
  | i + 1, m, S, e, h => by
    rcases h with h | ⟨A, h1, h2, h3, h4⟩
    · exact Or.inl (fw_P_cg i m S (fun j hj => e j (by omega)) h)
    · exact Or.inr ⟨A, h1, by rw [← e i (by omega)]; exact h2, h3, fw_P_cg i _ _ (fun j hj => e j (by omega)) h4⟩
theorem fw_P_s2 {j m S : Nat} (e0 : ∀ i, i < j → r i = r' i) (e1 : r j = r' (j + 1)) (e2 : r (j + 1) = r' j) (h : fw_P s n r (j + 2) m S) : fw_P s n r' (j + 2) m S := by
  rcases h with (h | ⟨A, h1, h2, h3, h4⟩) | ⟨A, h1, h2, h3, (h4 | ⟨B, g1, g2, g3, g4⟩)⟩
  · exact Or.inl (Or.inl (fw_P_cg j m S e0 h))
  · exact Or.inr ⟨A, h1, by rw [← e1]; exact h2, h3, Or.inl (fw_P_cg j _ _ e0 h4)⟩
  · exact Or.inl (Or.inr ⟨A, h1, by rw [← e2]; exact h2, h3, fw_P_cg j _ _ e0 h4⟩)
  · refine Or.inr ⟨B, fun i hi => fw_x_in h1 i (g1 i hi), by rw [← e1]; exact g2, h3, Or.inr ⟨A, fun i hi => ?_, by rw [← e2]; exact h2, g3, ?_⟩⟩
    · rw [Nat.testBit_xor, h1 i hi]
      cases q : B.testBit i with
      | false => rfl
      | true =>
        have := g1 i q
        rw [fw_x_n h1 hi] at this; cases this
    · rw [Nat.xor_assoc, Nat.xor_comm B A, ← Nat.xor_assoc]
      exact fw_P_cg j _ _ e0 g4
theorem fw_P_sw {j : Nat} (e0 : ∀ i, i ≠ j → i ≠ j + 1 → r i = r' i) (e1 : r j = r' (j + 1)) (e2 : r (j + 1) = r' j) : ∀ (i m S : Nat), fw_P s n r (j + 2 + i) m S → fw_P s n r' (j + 2 + i) m S
  | 0, m, S, h => fw_P_s2 (fun i hi => e0 i (by omega) (by omega)) e1 e2 h
  | i + 1, m, S, h => by
    rcases h with h | ⟨A, h1, h2, h3, h4⟩
    · exact Or.inl (fw_P_sw e0 e1 e2 i m S h)
    · exact Or.inr ⟨A, h1, (e0 (j + 2 + i) (by omega) (by omega)) ▸ h2, h3, fw_P_sw e0 e1 e2 i _ _ h4⟩
/-- a room put in at a place -/
def fw_ins (r : Nat → Nat) (a v : Nat) (i : Nat) : Nat := if i < a then r i else if i = a then v else r (i - 1)
theorem fw_P_ins {v : Nat} : ∀ (k a T m S : Nat), a + k = T → (fw_P s n (fw_ins r a v) (T + 1) m S ↔ fw_P s n (fw_ins r T v) (T + 1) m S)
  | 0, a, T, m, S, h => by
    have : a = T := by omega
    subst this; exact Iff.rfl
  | k + 1, a, T, m, S, h => by
    rw [← fw_P_ins (v := v) k (a + 1) T m S (by omega)]
    have x0 : ∀ i, i ≠ a → i ≠ a + 1 → fw_ins r a v i = fw_ins r (a + 1) v i := fun i n1 n2 => by
      unfold fw_ins
      by_cases c : i < a
      · rw [if_pos c, if_pos (by omega)]
      · rw [if_neg c, if_neg n1, if_neg (by omega), if_neg n2]
    have x1 : fw_ins r a v a = fw_ins r (a + 1) v (a + 1) := by
      unfold fw_ins
      rw [if_neg (by omega), if_pos rfl, if_neg (by omega), if_pos rfl]
    have x2 : fw_ins r a v (a + 1) = fw_ins r (a + 1) v a := by
      unfold fw_ins
      rw [if_neg (by omega), if_neg (by omega), if_pos (by omega), show a + 1 - 1 = a by omega]
    have t : T + 1 = a + 2 + (T - a - 1) := by omega
    rw [t]
    exact ⟨fw_P_sw x0 x1 x2 _ m S, fw_P_sw (fun i n1 n2 => (x0 i n1 n2).symm) x2.symm x1.symm _ m S⟩
theorem fw_P_add {v T m S : Nat} : fw_P s n (fw_ins r T v) (T + 1) m S ↔ fw_P s n r T m S ∨ ∃ A, fw_in A S ∧ fw_sm s n A ≤ v ∧ 1 ≤ m ∧ fw_P s n r T (m - 1) (S ^^^ A) := by
  have c1 : ∀ j, j < T → fw_ins r T v j = r j := fun j hj => if_pos hj
  have c2 : fw_ins r T v T = v := by unfold fw_ins; rw [if_neg (Nat.lt_irrefl T), if_pos rfl]
  constructor
  · intro h
    rcases h with h | ⟨A, h1, h2, h3, h4⟩
    · exact Or.inl (fw_P_cg T m S c1 h)
    · rw [c2] at h2
      exact Or.inr ⟨A, h1, h2, h3, fw_P_cg T _ _ c1 h4⟩
  · intro h
    rcases h with h | ⟨A, h1, h2, h3, h4⟩
    · exact Or.inl (fw_P_cg T m S (fun j hj => (c1 j hj).symm) h)
    · exact Or.inr ⟨A, h1, by rw [c2]; exact h2, h3, fw_P_cg T _ _ (fun j hj => (c1 j hj).symm) h4⟩
theorem fw_P_z {i m S : Nat} (hS : S < 2 ^ n) (hs : ∀ p, p < n → 1 ≤ s p) (hr : r i = 0) : fw_P s n r (i + 1) m S ↔ fw_P s n r i m S := by
  constructor
  · intro h
    rcases h with h | ⟨A, h1, h2, h3, h4⟩
    · exact h
    · rw [hr] at h2
      have : A = 0 := fw_sm_z (Nat.lt_of_le_of_lt (fw_in_le h1) hS) hs h2
      rw [this, Nat.xor_zero] at h4
      have := fw_P_m i (m - 1) S h4
      rw [show m - 1 + 1 = m by omega] at this; exact this
  · exact Or.inl
theorem fw_Q_a {k S : Nat} (h : fw_Q s n r k S) : fw_Q s n r (k + 1) S := ⟨0, fw_in_0 S, by rw [fw_sm_0]; exact Nat.zero_le _, by rw [Nat.xor_zero]; exact h⟩
theorem fw_PQ {T : Nat} (so : ∀ i j, i ≤ j → j < T → r j ≤ r i) : ∀ (i m S : Nat), i ≤ T → fw_P s n r i m S → fw_Q s n r (min m i) S
  | 0, m, S, _, h => by rw [Nat.min_zero]; exact h
  | i + 1, m, S, hi, h => by
    rcases h with h | ⟨A, h1, h2, h3, h4⟩
    · have := fw_PQ so i m S (by omega) h
      rcases Nat.lt_or_ge i m with q | q
      · rw [Nat.min_eq_right (by omega)] at this ⊢
        exact fw_Q_a this
      · rw [Nat.min_eq_left q] at this
        rw [Nat.min_eq_left (by omega)]; exact this
    · have := fw_PQ so i (m - 1) _ (by omega) h4
      rw [show min m (i + 1) = min (m - 1) i + 1 by omega]
      exact ⟨A, h1, Nat.le_trans h2 (so _ _ (Nat.min_le_right _ _) (by omega)), this⟩
theorem fw_QP : ∀ (k S : Nat), fw_Q s n r k S → fw_P s n r k k S
  | 0, _, h => h
  | k + 1, S, ⟨A, h1, h2, h3⟩ => Or.inr ⟨A, h1, h2, by omega, fw_QP k _ h3⟩
theorem fw_P_up {m S : Nat} : ∀ (k i : Nat), fw_P s n r i m S → fw_P s n r (i + k) m S
  | 0, _, h => h
  | k + 1, i, h => Or.inl (fw_P_up k i h)
end
/-- one more paper, as the class packs it -/
def fw_pk (r : Nat → Nat) (T v s : Nat) : Nat := if v % 128 + s ≤ r (v / 128 - 1) then v + s else if v / 128 < T ∧ s ≤ r (v / 128) then (v / 128 + 1) * 128 + s else (T + 1) * 128
/-- what a number of the class says of a set -/
def fw_S (s : Nat → Nat) (n : Nat) (r : Nat → Nat) (T S v : Nat) : Prop := ∃ k f, v = 128 * k + f ∧ 1 ≤ k ∧ k ≤ T ∧ f ≤ r (k - 1) ∧ ∃ A, fw_in A S ∧ fw_sm s n A ≤ f ∧ fw_Q s n r (k - 1) (S ^^^ A)
section
variable {s r : Nat → Nat} {n T : Nat}
theorem fw_sound {S p v : Nat} (hr : ∀ i, r i ≤ 99) (hp : p < n) (hb : S.testBit p = false) (h : fw_S s n r T S v) (hlt : fw_pk r T v (s p) < (T + 1) * 128) : fw_S s n r T (S ||| 2 ^ p) (fw_pk r T v (s p)) := by
  obtain ⟨k, f, rfl, h1, h2, h3, A, a1, a2, a3⟩ := h
  have hf := hr (k - 1)
  have e1 : (128 * k + f) % 128 = f := by omega
  have e2 : (128 * k + f) / 128 = k := by omega
  have sb : (S ||| 2 ^ p).testBit p = true := by rw [fb_bit_set]; simp
  have sx : (S ||| 2 ^ p) ^^^ 2 ^ p = S := by
    apply Nat.eq_of_testBit_eq
    intro i
    rw [fb_bit_flip, fb_bit_set]
    by_cases c : i = p
    · subst c; rw [hb]; simp
    · simp [c]
  unfold fw_pk at hlt ⊢
  rw [e1, e2] at hlt ⊢
  by_cases c : f + s p ≤ r (k - 1)
  · rw [if_pos c]
    have ab : A.testBit p = false := by
      cases q : A.testBit p with
      | false => rfl
      | true => rw [a1 p q] at hb; cases hb
    have fb : (A ^^^ 2 ^ p).testBit p = true := by rw [fb_bit_flip, ab]; simp
    refine ⟨k, f + s p, by omega, h1, h2, c, A ^^^ 2 ^ p, fun i hi => ?_, ?_, ?_⟩
    · rw [fb_bit_flip] at hi
      rw [fb_bit_set]
      by_cases ci : i = p
      · simp [ci]
      · rw [decide_eq_false ci, Bool.xor_false] at hi
        rw [a1 i hi]; rfl
    · have := fw_sm_flip (s := s) hp fb
      rw [sc_xx] at this
      omega
    · have : (S ||| 2 ^ p) ^^^ (A ^^^ 2 ^ p) = S ^^^ A := by
        rw [Nat.xor_comm A, ← Nat.xor_assoc, sx]
      rw [this]; exact a3
  · rw [if_neg c] at hlt ⊢
    by_cases c2 : k < T ∧ s p ≤ r k
    · rw [if_pos c2]
      have fb : (2 ^ p).testBit p = true := Nat.testBit_two_pow_self
      refine ⟨k + 1, s p, by omega, by omega, by omega, by rw [show k + 1 - 1 = k by omega]; exact c2.2, 2 ^ p, fun i hi => ?_, ?_, ?_⟩
      · rw [fb_bit_set]
        by_cases ci : p = i
        · simp [ci]
        · rw [Nat.testBit_two_pow_of_ne ci] at hi; cases hi
      · have := fw_sm_flip (s := s) hp fb
        rw [Nat.xor_self, fw_sm_0] at this
        omega
      · rw [show k + 1 - 1 = (k - 1) + 1 by omega, sx]
        exact ⟨A, a1, Nat.le_trans a2 h3, a3⟩
    · rw [if_neg c2] at hlt; omega
theorem fw_cmp {V : Nat → Nat} (hr : ∀ i, r i ≤ 99) (so : ∀ i j, i ≤ j → j < T → r j ≤ r i) (V0 : V 0 = 128) (V1 : ∀ Y q, q < n → Y.testBit q = false → Y ||| 2 ^ q < 2 ^ n → V Y < (T + 1) * 128 → V (Y ||| 2 ^ q) ≤ fw_pk r T (V Y) (s q)) (V2 : ∀ Y, Y < 2 ^ n → V Y < (T + 1) * 128 → fw_S s n r T Y (V Y)) : ∀ (k : Nat), k < T → ∀ (A S f : Nat), S < 2 ^ n → fw_in A S → fw_sm s n A ≤ f → f ≤ r k → fw_Q s n r k (S ^^^ A) → V S ≤ 128 * (k + 1) + f := by
  intro k
  induction k with
  | zero =>
    intro hk A
    induction A using Nat.strongRecOn with
    | _ A ih =>
      intro S f hS hA hf hfr hQ
      by_cases c : A = 0
      · rw [c, Nat.xor_zero] at hQ
        have : S = 0 := hQ
        rw [this, V0]; omega
      · obtain ⟨p, hp⟩ := Nat.exists_testBit_of_ne_zero c
        have sp := hA p hp
        have pn := fw_bit_n hS sp
        have fl := fw_flip p A hp
        have pp : 0 < 2 ^ p := Nat.two_pow_pos p
        have fs := fw_sm_flip (s := s) pn hp
        have flS := fw_flip p S sp
        have hA' : fw_in (A ^^^ 2 ^ p) (S ^^^ 2 ^ p) := fun i hi => by
          rw [fb_bit_flip] at hi ⊢
          by_cases ci : i = p
          · subst ci; rw [hp] at hi; simp at hi
          · rw [decide_eq_false ci, Bool.xor_false] at hi ⊢; exact hA i hi
        have hx : (S ^^^ 2 ^ p) ^^^ (A ^^^ 2 ^ p) = S ^^^ A := by rw [Nat.xor_comm A, ← Nat.xor_assoc, sc_xx]
        have i := ih (A ^^^ 2 ^ p) (by omega) (S ^^^ 2 ^ p) (f - s p) (by omega) hA' (by omega) (by omega) (by rw [hx]; exact hQ)
        have hr0 := hr 0
        have U : V (S ^^^ 2 ^ p) < (T + 1) * 128 := by omega
        have ey : (S ^^^ 2 ^ p).testBit p = false := by rw [fb_bit_flip, sp]; simp
        have eo : (S ^^^ 2 ^ p) ||| 2 ^ p = S := by
          apply Nat.eq_of_testBit_eq
          intro j
          rw [fb_bit_set, fb_bit_flip]
          by_cases cj : j = p
          · subst cj; rw [sp]; simp
          · simp [cj]
        have t := V1 (S ^^^ 2 ^ p) p pn ey (by rw [eo]; exact hS) U
        rw [eo] at t
        obtain ⟨k', g, e, g1, g2, g3, _⟩ := V2 _ (by omega) U
        have hg := hr (k' - 1)
        unfold fw_pk at t
        rw [e, show (128 * k' + g) % 128 = g by omega, show (128 * k' + g) / 128 = k' by omega] at t
        have : k' = 1 := by omega
        subst this
        have hfr' : f ≤ r (1 - 1) := hfr
        rw [if_pos (by omega)] at t
        omega
  | succ k ihk =>
    intro hk A
    induction A using Nat.strongRecOn with
    | _ A ih =>
      intro S f hS hA hf hfr hQ
      by_cases c : A = 0
      · rw [c, Nat.xor_zero] at hQ
        obtain ⟨A', a1, a2, a3⟩ := hQ
        have := ihk (by omega) A' S (r k) hS a1 a2 (Nat.le_refl _) a3
        have hrk := hr k
        omega
      · obtain ⟨p, hp⟩ := Nat.exists_testBit_of_ne_zero c
        have sp := hA p hp
        have pn := fw_bit_n hS sp
        have fl := fw_flip p A hp
        have pp : 0 < 2 ^ p := Nat.two_pow_pos p
        have fs := fw_sm_flip (s := s) pn hp
        have flS := fw_flip p S sp
        have hA' : fw_in (A ^^^ 2 ^ p) (S ^^^ 2 ^ p) := fun i hi => by
          rw [fb_bit_flip] at hi ⊢
          by_cases ci : i = p
          · subst ci; rw [hp] at hi; simp at hi
          · rw [decide_eq_false ci, Bool.xor_false] at hi ⊢; exact hA i hi
        have hx : (S ^^^ 2 ^ p) ^^^ (A ^^^ 2 ^ p) = S ^^^ A := by rw [Nat.xor_comm A, ← Nat.xor_assoc, sc_xx]
        have i := ih (A ^^^ 2 ^ p) (by omega) (S ^^^ 2 ^ p) (f - s p) (by omega) hA' (by omega) (by omega) (by rw [hx]; exact hQ)
        have hr0 := hr (k + 1)
        have U : V (S ^^^ 2 ^ p) < (T + 1) * 128 := by omega
        have ey : (S ^^^ 2 ^ p).testBit p = false := by rw [fb_bit_flip, sp]; simp
        have eo : (S ^^^ 2 ^ p) ||| 2 ^ p = S := by
          apply Nat.eq_of_testBit_eq
          intro j
          rw [fb_bit_set, fb_bit_flip]
          by_cases cj : j = p
          · subst cj; rw [sp]; simp
          · simp [cj]
        have t := V1 (S ^^^ 2 ^ p) p pn ey (by rw [eo]; exact hS) U
        rw [eo] at t
        obtain ⟨k', g, e, g1, g2, g3, _⟩ := V2 _ (by omega) U
        have hg := hr (k' - 1)
        unfold fw_pk at t
        rw [e, show (128 * k' + g) % 128 = g by omega, show (128 * k' + g) / 128 = k' by omega] at t
        have hk' : k' ≤ k + 2 := by omega
        by_cases ek : k' = k + 2
        · subst ek
          have hfr' : f ≤ r (k + 2 - 1) := hfr
          rw [if_pos (by omega)] at t
          omega
        · by_cases cf : g + s p ≤ r (k' - 1)
          · rw [if_pos cf] at t; omega
          · have sr := so k' (k + 1) (by omega) hk
            rw [if_neg cf, if_pos ⟨by omega, by omega⟩] at t
            omega
end
