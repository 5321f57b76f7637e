-- folds over an index; numbers
def am_fd {α : Type} (f : Nat → α → α) : Nat → Nat → α → α
  | _, 0, a => a
  | k, m + 1, a => am_fd f (k + 1) m (f k a)
theorem am_fd_0 {α : Type} (f : Nat → α → α) (k : Nat) (a : α) : am_fd f k 0 a = a := rfl
theorem am_fd_s {α : Type} (f : Nat → α → α) (k m : Nat) (a : α) : am_fd f k (m + 1) a = am_fd f (k + 1) m (f k a) := rfl
theorem am_fd_end {α : Type} (f : Nat → α → α) : ∀ (m k : Nat) (a : α), am_fd f k (m + 1) a = f (k + m) (am_fd f k m a)
  | 0, k, a => rfl
  | m + 1, k, a => by rw [am_fd_s, am_fd_end f m (k + 1) (f k a), am_fd_s, show k + 1 + m = k + (m + 1) by omega]
theorem am_fd_cong {α : Type} {f g : Nat → α → α} : ∀ (m k : Nat) (a : α), (∀ i, k ≤ i → i < k + m → ∀ b, f i b = g i b) → am_fd f k m a = am_fd g k m a
  | 0, _, _, _ => rfl
  | m + 1, k, a, hf => by
    rw [am_fd_s, am_fd_s, hf k (Nat.le_refl k) (by omega)]
    exact am_fd_cong m (k + 1) _ (fun i h1 h2 => hf i (by omega) (by omega))
/-- a relation kept by two folds side by side -/
theorem am_fd_rel {α β : Type} (R : Nat → α → β → Prop) {f : Nat → α → α} {g : Nat → β → β} : ∀ (m k : Nat) (a : α) (b : β), R k a b → (∀ i a b, k ≤ i → i < k + m → R i a b → R (i + 1) (f i a) (g i b)) → R (k + m) (am_fd f k m a) (am_fd g k m b)
  | 0, k, _, _, hr, _ => hr
  | m + 1, k, a, b, hr, hs => by
    have := am_fd_rel R m (k + 1) (f k a) (g k b) (hs k a b (Nat.le_refl k) (by omega) hr) (fun i a b h1 h2 => hs i a b (by omega) (by omega))
    rw [am_fd_s, am_fd_s, show k + (m + 1) = k + 1 + m by omega]
    exact this
theorem am_fd_inv {α : Type} (R : Nat → α → Prop) {f : Nat → α → α} : ∀ (m k : Nat) (a : α), R k a → (∀ i a, k ≤ i → i < k + m → R i a → R (i + 1) (f i a)) → R (k + m) (am_fd f k m a)
  | 0, k, _, hr, _ => hr
  | m + 1, k, a, hr, hs => by
    have := am_fd_inv R m (k + 1) (f k a) (hs k a (Nat.le_refl k) (by omega) hr) (fun i a h1 h2 => hs i a (by omega) (by omega))
    rw [am_fd_s, show k + (m + 1) = k + 1 + m by omega]
    exact this
theorem am_nle {a b : Nat} (hb : b < 2 ^ 31) (ha : a < 2 ^ 31) : nI a ≤ nI b ↔ a ≤ b := nI_leI ha hb
theorem am_lit (n : Nat) : (OfNat.ofNat n : Int32) = nI n := rfl
theorem am_vinN {n N : Nat} (h : n < N) (hN : N < 2 ^ 31) : vp_in (nI n) N := vp_in_nI h hN
theorem am_cl_nI {n : Nat} (h : n < 2 ^ 31) : (nI n).toNatClampNeg = n := nI_clamp h
theorem am_vin {x N : Int32} {n : Nat} (hN : N.toInt = (n : Int)) (h0 : ¬ x < 0) (h1 : ¬ N ≤ x) : vp_in x n := by
  rw [vp_in_iff]
  rw [Int32.lt_iff_toInt_lt] at h0
  rw [Int32.le_iff_toInt_le] at h1
  have : (0 : Int32).toInt = 0 := rfl
  omega
theorem am_bT {c e : Prop} [Decidable c] [Decidable e] (h : c ↔ e) : am_b c = am_b e := by
  unfold am_b; by_cases hc : c <;> simp [hc, ← h]
theorem am_or0 (x : Int32) : x ||| 0 = x := by simp
theorem am_if_or (c : Prop) [Decidable c] (x y : Int32) : (if c then x ||| y else x) = x ||| (if c then y else 0) := by by_cases hc : c <;> simp [hc]
/-- a bounded number is a natural one -/
theorem am_nat {x : Int32} {N : Nat} (hN : N < 2 ^ 31) (h0 : 0 ≤ x) (h1 : x < nI N) : ∃ k, k < N ∧ x = nI k := by
  obtain ⟨j, hj, rfl⟩ := nI_of (Int32.not_lt.mpr h0)
  exact ⟨j, (nI_ltI hj hN).mp h1, rfl⟩
theorem am_natle {x : Int32} {N : Nat} (hN : N < 2 ^ 31) (h0 : 0 ≤ x) (h1 : x ≤ nI N) : ∃ k, k ≤ N ∧ x = nI k := by
  obtain ⟨j, hj, rfl⟩ := nI_of (Int32.not_lt.mpr h0)
  exact ⟨j, (nI_leI hj hN).mp h1, rfl⟩
theorem am_mx (x y : Int32) : (if y < x then x else y) = am_max x y := by
  unfold am_max
  by_cases q : y < x
  · rw [if_pos q, if_neg (Int32.lt_asymm q)]
  · by_cases q2 : x < y
    · rw [if_neg q, if_pos q2]
    · rw [if_neg q, if_neg q2]; exact Int32.le_antisymm (Int32.not_lt.mp q2) (Int32.not_lt.mp q)
theorem am_mn (x y : Int32) : (if x < y then x else y) = am_min x y := by
  unfold am_min
  by_cases q : y < x
  · rw [if_pos q, if_neg (Int32.lt_asymm q)]
  · by_cases q2 : x < y
    · rw [if_neg q, if_pos q2]
    · rw [if_neg q, if_neg q2]; exact Int32.le_antisymm (Int32.not_lt.mp q2) (Int32.not_lt.mp q)
