-- a walk over states, widest first
abbrev sc_A : Type := Nat × (Nat → Nat) × (Nat → Nat) × (Nat → Bool)
abbrev sc_m (A : sc_A) : Nat := A.1
abbrev sc_q (A : sc_A) : Nat → Nat := A.2.1
abbrev sc_c (A : sc_A) : Nat → Nat := A.2.2.1
abbrev sc_v (A : sc_A) : Nat → Bool := A.2.2.2
def sc_N (w e c p : Nat) : Nat := if c = 0 then w + e * p else c + w
def sc_st (E : Nat → Nat → Bool) (w e s p : Nat) (A : sc_A) : sc_A := if E s p = true ∧ sc_v A (s ^^^ 2 ^ p) = false then (sc_m A + 1, am_un (sc_q A) (sc_m A) (s ^^^ 2 ^ p), am_un (sc_c A) (s ^^^ 2 ^ p) (sc_N w e (sc_c A s) p), fun x => decide (x = s ^^^ 2 ^ p) || sc_v A x) else A
def sc_I (Φ : Nat → Nat → Prop) (S : Nat → Bool) (w e n : Nat) (A : sc_A) : Prop := (∀ i, i < sc_m A → sc_q A i < 2 ^ n ∧ sc_v A (sc_q A i) = true) ∧ (∀ t, sc_v A t = true → ∃ i, i < sc_m A ∧ sc_q A i = t) ∧ (∀ i j, i ≤ j → j < sc_m A → sc_c A (sc_q A i) ≤ sc_c A (sc_q A j)) ∧ am_sm (fun t => if sc_v A t = true then 1 else 0) (2 ^ n) = sc_m A ∧ (e = 0 ∨ ∀ i, 1 ≤ i → i < sc_m A → w ≤ sc_c A (sc_q A i)) ∧ (∀ t, S t = true → sc_v A t = true ∧ sc_c A t = 0) ∧ (∀ t, sc_v A t = true → Φ t (sc_c A t)) ∧ ∀ j, j < sc_m A → sc_c A (sc_q A j) ≤ 2 * w * j
def sc_J (E : Nat → Nat → Bool) (w e n : Nat) (A : sc_A) (k p : Nat) : Prop := (k < sc_m A → ∀ j, j < sc_m A → sc_c A (sc_q A j) ≤ sc_N w e (sc_c A (sc_q A k)) p) ∧ ∀ i p', p' < n → (i < k ∨ (i = k ∧ p' < p)) → i < sc_m A → E (sc_q A i) p' = true → sc_v A (sc_q A i ^^^ 2 ^ p') = true ∧ sc_c A (sc_q A i ^^^ 2 ^ p') ≤ sc_N w e (sc_c A (sc_q A i)) p'
theorem sc_N_p (w e c : Nat) {p p' : Nat} (h : p ≤ p') : sc_N w e c p ≤ sc_N w e c p' := by
  unfold sc_N
  split
  · exact Nat.add_le_add_left (Nat.mul_le_mul_left e h) w
  · exact Nat.le_refl _
theorem sc_mb {Φ : Nat → Nat → Prop} {S : Nat → Bool} {w e n : Nat} {A : sc_A} (hI : sc_I Φ S w e n A) : sc_m A ≤ 2 ^ n := by
  have := am_sm_le (f := fun t => if sc_v A t = true then 1 else 0) (g := fun _ => 1) (2 ^ n) (fun k _ => by split <;> omega)
  rw [am_sm_c] at this
  have := hI.2.2.2.1
  omega
section
variable {E : Nat → Nat → Bool} {Φ : Nat → Nat → Prop} {S : Nat → Bool} {w e n : Nat} {A : sc_A} {k p : Nat}
theorem sc_step (hw : 1 ≤ w) (he : e * n ≤ w) (hΦ : ∀ s p c, p < n → E s p = true → Φ s c → Φ (s ^^^ 2 ^ p) (sc_N w e c p)) (hI : sc_I Φ S w e n A) (hJ : sc_J E w e n A k p) (hk : k < sc_m A) (hp : p < n) : sc_I Φ S w e n (sc_st E w e (sc_q A k) p A) ∧ sc_J E w e n (sc_st E w e (sc_q A k) p A) k (p + 1) ∧ sc_m A ≤ sc_m (sc_st E w e (sc_q A k) p A) ∧ (∀ i, i < sc_m A → sc_q (sc_st E w e (sc_q A k) p A) i = sc_q A i) := by
  obtain ⟨i1, i2, i3, i4, i5, i6, i7, i8⟩ := hI
  by_cases c : E (sc_q A k) p = true ∧ sc_v A (sc_q A k ^^^ 2 ^ p) = false
  · have es : sc_st E w e (sc_q A k) p A = (sc_m A + 1, am_un (sc_q A) (sc_m A) (sc_q A k ^^^ 2 ^ p), am_un (sc_c A) (sc_q A k ^^^ 2 ^ p) (sc_N w e (sc_c A (sc_q A k)) p), fun x => decide (x = sc_q A k ^^^ 2 ^ p) || sc_v A x) := if_pos c
    rw [es]
    have ht : sc_q A k ^^^ 2 ^ p < 2 ^ n := Nat.xor_lt_two_pow (i1 k hk).1 (Nat.pow_lt_pow_right (by decide) hp)
    generalize et : sc_q A k ^^^ 2 ^ p = t at c ht
    obtain ⟨cE, cv⟩ := c
    have nt : ∀ x, sc_v A x = true → x ≠ t := fun x hx e => by rw [e, cv] at hx; cases hx
    have qo : ∀ i, i < sc_m A → am_un (sc_q A) (sc_m A) t i = sc_q A i := fun i hi => am_un_n _ _ (by omega)
    have qn : am_un (sc_q A) (sc_m A) t (sc_m A) = t := am_un_s _ _ _
    have co : ∀ x, sc_v A x = true → am_un (sc_c A) t (sc_N w e (sc_c A (sc_q A k)) p) x = sc_c A x := fun x hx => am_un_n _ _ (nt x hx)
    have cn : am_un (sc_c A) t (sc_N w e (sc_c A (sc_q A k)) p) t = sc_N w e (sc_c A (sc_q A k)) p := am_un_s _ _ _
    have coq : ∀ i, i < sc_m A → am_un (sc_c A) t (sc_N w e (sc_c A (sc_q A k)) p) (am_un (sc_q A) (sc_m A) t i) = sc_c A (sc_q A i) := fun i hi => by rw [qo i hi, co _ (i1 i hi).2]
    have cnq : am_un (sc_c A) t (sc_N w e (sc_c A (sc_q A k)) p) (am_un (sc_q A) (sc_m A) t (sc_m A)) = sc_N w e (sc_c A (sc_q A k)) p := by rw [qn, cn]
    have Nw : w ≤ sc_N w e (sc_c A (sc_q A k)) p := by unfold sc_N; split <;> omega
    have N2 : sc_N w e (sc_c A (sc_q A k)) p ≤ sc_c A (sc_q A k) + 2 * w := by
      have : e * p ≤ e * n := Nat.mul_le_mul_left e (by omega)
      unfold sc_N; split <;> omega
    refine ⟨⟨fun i hi => ?_, fun x hx => ?_, fun i j hij hj => ?_, ?_, ?_, fun x hx => ?_, fun x hx => ?_, fun j hj => ?_⟩, ⟨fun _ j hj => ?_, fun i p' hp' hi him hE => ?_⟩, by show sc_m A ≤ sc_m A + 1; omega, qo⟩
    · have hi' : i < sc_m A + 1 := hi
      show am_un _ _ _ i < 2 ^ n ∧ (decide (am_un _ _ _ i = t) || sc_v A (am_un _ _ _ i)) = true
      by_cases q : i = sc_m A
      · rw [q, qn]; exact ⟨ht, by simp⟩
      · rw [qo i (by omega)]; exact ⟨(i1 i (by omega)).1, by rw [(i1 i (by omega)).2]; simp⟩
    · have hx' : (decide (x = t) || sc_v A x) = true := hx
      by_cases q : x = t
      · exact ⟨sc_m A, by show sc_m A < sc_m A + 1; omega, by rw [q]; exact qn⟩
      · rw [decide_eq_false q, Bool.false_or] at hx'
        obtain ⟨i, hi, e⟩ := i2 x hx'
        exact ⟨i, by show i < sc_m A + 1; omega, (qo i hi).trans e⟩
    · have hj' : j < sc_m A + 1 := hj
      show am_un _ _ _ (am_un _ _ _ i) ≤ am_un _ _ _ (am_un _ _ _ j)
      by_cases q : j = sc_m A
      · subst q
        rw [cnq]
        by_cases q2 : i = sc_m A
        · rw [q2, cnq]; exact Nat.le_refl _
        · rw [coq i (by omega)]; exact hJ.1 hk i (by omega)
      · rw [coq i (by omega), coq j (by omega)]; exact i3 i j hij (by omega)
    · have a := am_sm_up (fun x => if sc_v A x = true then 1 else 0) 1 ht
      rw [i4] at a
      have b : (if sc_v A t = true then 1 else 0) = 0 := if_neg (by rw [cv]; decide)
      have e2 : am_sm (fun x => if (decide (x = t) || sc_v A x) = true then 1 else 0) (2 ^ n) = am_sm (fun x => if x = t then 1 else if sc_v A x = true then 1 else 0) (2 ^ n) := am_sm_cg _ (fun x _ => by
        by_cases q : x = t <;> simp [q])
      show am_sm (fun x => if (decide (x = t) || sc_v A x) = true then 1 else 0) (2 ^ n) = sc_m A + 1
      rw [e2]
      have a' : am_sm (fun x => if x = t then 1 else if sc_v A x = true then 1 else 0) (2 ^ n) + (if sc_v A t = true then 1 else 0) = sc_m A + 1 := a
      omega
    · rcases i5 with q | q
      · exact Or.inl q
      · refine Or.inr (fun i h1 hi => ?_)
        have hi' : i < sc_m A + 1 := hi
        show w ≤ am_un _ _ _ (am_un _ _ _ i)
        by_cases q2 : i = sc_m A
        · rw [q2, cnq]; exact Nw
        · rw [coq i (by omega)]; exact q i h1 (by omega)
    · have := i6 x hx
      show (decide (x = t) || sc_v A x) = true ∧ am_un _ _ _ x = 0
      rw [co x this.1, this.1]; exact ⟨by simp, this.2⟩
    · have hx' : (decide (x = t) || sc_v A x) = true := hx
      show Φ x (am_un _ _ _ x)
      by_cases q : x = t
      · rw [q, cn, ← et]; exact hΦ _ _ _ hp cE (i7 _ (i1 k hk).2)
      · rw [decide_eq_false q, Bool.false_or] at hx'
        rw [co x hx']; exact i7 x hx'
    · have hj' : j < sc_m A + 1 := hj
      show am_un _ _ _ (am_un _ _ _ j) ≤ _
      by_cases q : j = sc_m A
      · rw [q, cnq]
        have b1 := i8 k hk
        have b2 : 2 * w * (k + 1) ≤ 2 * w * sc_m A := Nat.mul_le_mul_left _ (by omega)
        rw [Nat.mul_add, Nat.mul_one] at b2
        omega
      · rw [coq j (by omega)]; exact i8 j (by omega)
    · have hj' : j < sc_m A + 1 := hj
      show am_un _ _ _ (am_un _ _ _ j) ≤ sc_N w e (am_un _ _ _ (am_un _ _ _ k)) (p + 1)
      rw [coq k hk]
      by_cases q : j = sc_m A
      · rw [q, cnq]; exact sc_N_p w e _ (by omega)
      · rw [coq j (by omega)]; exact Nat.le_trans (hJ.1 hk j (by omega)) (sc_N_p w e _ (by omega))
    · have hik : i < sc_m A := by omega
      have hE' : E (am_un (sc_q A) (sc_m A) t i) p' = true := hE
      show (decide (am_un _ _ _ i ^^^ 2 ^ p' = t) || sc_v A (am_un _ _ _ i ^^^ 2 ^ p')) = true ∧ am_un _ _ _ (am_un _ _ _ i ^^^ 2 ^ p') ≤ sc_N w e (am_un _ _ _ (am_un _ _ _ i)) p'
      rw [coq i hik]
      rw [qo i hik] at hE' ⊢
      by_cases q : i = k ∧ p' = p
      · obtain ⟨rfl, rfl⟩ := q
        rw [et, cn]; exact ⟨by simp, Nat.le_refl _⟩
      · have o := hJ.2 i p' hp' (by omega) hik hE'
        rw [co _ o.1, o.1]; exact ⟨by simp, o.2⟩
  · have es : sc_st E w e (sc_q A k) p A = A := if_neg c
    rw [es]
    refine ⟨⟨i1, i2, i3, i4, i5, i6, i7, i8⟩, ⟨fun _ j hj => Nat.le_trans (hJ.1 hk j hj) (sc_N_p w e _ (by omega)), fun i p' hp' hi him hE => ?_⟩, Nat.le_refl _, fun _ _ => rfl⟩
    by_cases q : i = k ∧ p' = p
    · obtain ⟨rfl, rfl⟩ := q
      have v : sc_v A (sc_q A i ^^^ 2 ^ p') = true := by
        cases hv : sc_v A (sc_q A i ^^^ 2 ^ p') with
        | true => rfl
        | false => exact absurd ⟨hE, hv⟩ c
      obtain ⟨j, hj, e⟩ := i2 _ v
      refine ⟨v, ?_⟩
      rw [← e]; exact hJ.1 hk j hj
    · exact hJ.2 i p' hp' (by omega) him hE
theorem sc_next (hw : 1 ≤ w) (he : e * n ≤ w) (hI : sc_I Φ S w e n A) (hJ : sc_J E w e n A k n) : sc_J E w e n A (k + 1) 0 := by
  obtain ⟨i1, i2, i3, i4, i5, i6, i7, i8⟩ := hI
  refine ⟨fun hk j hj => Nat.le_trans (hJ.1 (by omega) j hj) ?_, fun i p' hp' hi him hE => hJ.2 i p' hp' (by omega) him hE⟩
  have m := i3 k (k + 1) (by omega) hk
  unfold sc_N
  by_cases c : sc_c A (sc_q A k) = 0
  · rw [if_pos c]
    by_cases c2 : sc_c A (sc_q A (k + 1)) = 0
    · rw [if_pos c2]
      rcases i5 with q | q
      · rw [q]; omega
      · have := q (k + 1) (by omega) hk; omega
    · rw [if_neg c2]
      rcases i5 with q | q
      · rw [q]; omega
      · have := q (k + 1) (by omega) hk; omega
  · rw [if_neg c, if_neg (by omega)]; omega
end
/-- a way of so many moves from a state to one of P -/
def sc_G (E : Nat → Nat → Bool) (P : Nat → Bool) (n : Nat) : Nat → Nat → Prop
  | 0, t => P t = true
  | j + 1, t => ∃ q, q < n ∧ E t q = true ∧ sc_G E P n j (t ^^^ 2 ^ q)
theorem sc_xx (t q : Nat) : (t ^^^ 2 ^ q) ^^^ 2 ^ q = t := by rw [Nat.xor_assoc, Nat.xor_self, Nat.xor_zero]
section
variable {E : Nat → Nat → Bool} {P : Nat → Bool} {n : Nat} {A : sc_A}
/-- the reference's: what is known of each state -/
theorem sc_ref {S : Nat → Bool} (hS : ∀ t, t < 2 ^ n → P t = true → S t = true) (sy : ∀ s p, p < n → E (s ^^^ 2 ^ p) p = E s p) (hI : sc_I (fun t c => sc_G E P n c t) S 1 0 n A) (hJ : sc_J E 1 0 n A (sc_m A) 0) : ∀ (j t : Nat), t < 2 ^ n → sc_G E P n j t → sc_v A t = true ∧ sc_c A t ≤ j
  | 0, t, ht, g => by
    have := hI.2.2.2.2.2.1 t (hS t ht g)
    exact ⟨this.1, by omega⟩
  | j + 1, t, ht, ⟨q, hq, hE, g⟩ => by
    have ih := sc_ref hS sy hI hJ j (t ^^^ 2 ^ q) (Nat.xor_lt_two_pow ht (Nat.pow_lt_pow_right (by decide) hq)) g
    obtain ⟨i, hi, e⟩ := hI.2.1 _ ih.1
    have o := hJ.2 i q hq (Or.inl hi) hi (by rw [e, sy t q hq]; exact hE)
    rw [e, sc_xx] at o
    refine ⟨o.1, ?_⟩
    have := o.2
    unfold sc_N at this
    split at this <;> omega
/-- the class's: what the numbers say -/
def sc_F (E : Nat → Nat → Bool) (P : Nat → Bool) (n : Nat) (t c : Nat) : Prop := (t = 0 ∧ c = 0) ∨ ∃ j p, 1 ≤ j ∧ p < n ∧ c = 16 * j + p ∧ E 0 p = true ∧ ∀ i, sc_G E P n i t → sc_G E P n (i + (j - 1)) (2 ^ p)
theorem sc_F_s (s p c : Nat) (hn : n ≤ 8) (hp : p < n) (hE : E s p = true) (q : sc_F E P n s c) : sc_F E P n (s ^^^ 2 ^ p) (sc_N 16 1 c p) := by
  rcases q with ⟨rfl, rfl⟩ | ⟨j, f, h1, h2, rfl, h4, h5⟩
  · refine Or.inr ⟨1, p, by omega, hp, by unfold sc_N; rw [if_pos rfl]; omega, hE, fun i g => ?_⟩
    rw [Nat.zero_xor] at g; exact g
  · refine Or.inr ⟨j + 1, f, by omega, h2, by unfold sc_N; rw [if_neg (by omega)]; omega, h4, fun i g => ?_⟩
    have := h5 (i + 1) ⟨p, hp, hE, g⟩
    rw [show i + 1 + (j - 1) = i + (j + 1 - 1) by omega] at this
    exact this
theorem sc_low {S : Nat → Bool} {k : Nat} (hn : n ≤ 8) (hI : sc_I (sc_F E P n) S 16 1 n A) (hJ : sc_J E 16 1 n A k 0) (hk : k < sc_m A) (hP : ∀ i, i < k → P (sc_q A i) = false) : ∀ (j u B : Nat), sc_v A u = true → sc_c A u ≤ B → 16 ≤ B → sc_G E P n j u → sc_c A (sc_q A k) ≤ B + 16 * j
  | j, u, B, hu, hc, hB, g => by
    obtain ⟨i, hi, e⟩ := hI.2.1 u hu
    rcases Nat.lt_or_ge i k with q | q
    · cases j with
      | zero =>
        have g' : P u = true := g
        rw [← e, hP i q] at g'; cases g'
      | succ j =>
        obtain ⟨r, hr, hE, g⟩ := g
        have o := hJ.2 i r hr (Or.inl q) hi (by rw [e]; exact hE)
        rw [e] at o
        have b : sc_c A (u ^^^ 2 ^ r) ≤ B + 16 := by
          have := o.2
          unfold sc_N at this
          split at this <;> omega
        have := sc_low hn hI hJ hk hP j (u ^^^ 2 ^ r) (B + 16) o.1 b (by omega) g
        omega
    · have := hI.2.2.1 k i q hi
      rw [e] at this
      omega
theorem sc_none {Φ : Nat → Nat → Prop} {S : Nat → Bool} {w e : Nat} (hI : sc_I Φ S w e n A) (hJ : sc_J E w e n A (sc_m A) 0) (hP : ∀ i, i < sc_m A → P (sc_q A i) = false) : ∀ (j u : Nat), sc_v A u = true → ¬ sc_G E P n j u
  | 0, u, hu => fun g => by
    obtain ⟨i, hi, e⟩ := hI.2.1 u hu
    have g' : P u = true := g
    rw [← e, hP i hi] at g'; cases g'
  | j + 1, u, hu => fun ⟨r, hr, hE, g⟩ => by
    obtain ⟨i, hi, e⟩ := hI.2.1 u hu
    have o := hJ.2 i r hr (Or.inl hi) hi (by rw [e]; exact hE)
    rw [e] at o
    exact sc_none hI hJ hP j _ o.1 g
end
