-- bits of numbers (the first five are the kit's own, pasted)
theorem fa_and (a b : Nat) : nI a &&& nI b = nI (a &&& b) := by
  apply Int32.toBitVec_inj.1
  show BitVec.ofNat 32 a &&& BitVec.ofNat 32 b = BitVec.ofNat 32 (a &&& b)
  apply BitVec.eq_of_getLsbD_eq
  intro i hi
  simp [hi]
theorem fa_or (a b : Nat) : nI a ||| nI b = nI (a ||| b) := by
  apply Int32.toBitVec_inj.1
  show BitVec.ofNat 32 a ||| BitVec.ofNat 32 b = BitVec.ofNat 32 (a ||| b)
  apply BitVec.eq_of_getLsbD_eq
  intro i hi
  simp [hi]
theorem fb_xorI (a b : Nat) : nI a ^^^ nI b = nI (a ^^^ b) := by
  apply Int32.toBitVec_inj.1
  show BitVec.ofNat 32 a ^^^ BitVec.ofNat 32 b = BitVec.ofNat 32 (a ^^^ b)
  apply BitVec.eq_of_getLsbD_eq
  intro i hi
  simp [hi]
theorem fb_bit_set (n j i : Nat) : (n ||| 2 ^ j).testBit i = (n.testBit i || decide (i = j)) := by
  rw [Nat.testBit_or]
  by_cases h : j = i
  · subst h; simp
  · have h2 : ¬ i = j := fun e => h e.symm
    first | (simp [Nat.testBit_two_pow, h, h2]; done) | (simp [Nat.testBit_two_pow_of_ne h, h2]; done)
theorem fb_bit_flip (n j i : Nat) : (n ^^^ 2 ^ j).testBit i = (n.testBit i ^^ decide (i = j)) := by
  rw [Nat.testBit_xor]
  by_cases h : j = i
  · subst h; simp
  · have h2 : ¬ i = j := fun e => h e.symm
    first | (simp [Nat.testBit_two_pow, h, h2]; done) | (simp [Nat.testBit_two_pow_of_ne h, h2]; done)
theorem am_s5 : ∀ n, n < 32 → ((nI n &&& 31).toBitVec.smod 32).toNat = n := by decide +kernel
theorem am_shl1 {i : Nat} (hi : i < 32) : (1 : Int32) <<< (nI i &&& 31) = nI (2 ^ i) := by
  have := pk_shlN (n := 1) (nI i &&& 31) i (am_s5 i hi) (by rw [Nat.one_mul]; exact Nat.pow_lt_pow_right (by decide) hi)
  rw [Nat.one_mul] at this
  exact this
theorem am_shr_n {S i : Nat} (hS : S < 2 ^ 31) (hi : i < 32) : nI S >>> (nI i &&& 31) = nI (S / 2 ^ i) := pk_shrN hS (nI i &&& 31) i (am_s5 i hi)
theorem am_bit_n {S i : Nat} (hS : S < 2 ^ 31) (hi : i < 32) : (nI S >>> (nI i &&& 31)) &&& 1 = 1 ↔ S.testBit i = true := by
  rw [am_shr_n hS hi]
  have hlt : S / 2 ^ i < 2 ^ 32 := Nat.lt_of_le_of_lt (Nat.div_le_self _ _) (by omega)
  have e : nI (S / 2 ^ i) &&& 1 = nI (S / 2 ^ i % 2) := pk_andN hlt (m := 1) 1 (by decide)
  rw [e]
  have l2 : S / 2 ^ i % 2 < 2 := Nat.mod_lt _ (by decide)
  have q : nI (S / 2 ^ i % 2) = nI 1 ↔ S / 2 ^ i % 2 = 1 := nI_eq (by omega) (by omega)
  rw [show (1 : Int32) = nI 1 from rfl, q, Nat.testBit_eq_decide_div_mod_eq, decide_eq_true_iff]
theorem am_max_n {a b : Nat} (ha : a < 2 ^ 31) (hb : b < 2 ^ 31) : am_max (nI a) (nI b) = nI (max a b) := by
  unfold am_max
  rcases Nat.lt_or_ge a b with q | q
  · rw [if_pos (nI_lt q hb), Nat.max_eq_right (by omega)]
  · rw [if_neg (nI_nlt q ha), Nat.max_eq_left q]
theorem am_min_n {a b : Nat} (ha : a < 2 ^ 31) (hb : b < 2 ^ 31) : am_min (nI a) (nI b) = nI (min a b) := by
  unfold am_min
  rcases Nat.lt_or_ge b a with q | q
  · rw [if_pos (nI_lt q ha), Nat.min_eq_right (by omega)]
  · rw [if_neg (nI_nlt q hb), Nat.min_eq_left q]
theorem fa_bit {n j : Nat} (hj : j < 31) : nI n &&& nI (2 ^ j) = 0 ↔ n.testBit j = false := by
  have h2 : (2 : Nat) ^ j < 2 ^ 31 := Nat.pow_lt_pow_right (by decide) hj
  have hle : n &&& 2 ^ j ≤ 2 ^ j := Nat.and_le_right
  have e : n &&& 2 ^ j = 0 ↔ n.testBit j = false := by
    constructor
    · intro h
      have h1 : (n &&& 2 ^ j).testBit j = false := by rw [h]; simp
      rw [Nat.testBit_and] at h1
      first | simpa using h1 | simpa [Nat.testBit_two_pow_self] using h1 | simpa [Nat.testBit_two_pow] using h1
    · intro h
      apply Nat.eq_of_testBit_eq
      intro i
      rw [Nat.testBit_and]
      by_cases hi : j = i
      · subst hi; simp [h]
      · first | (simp [Nat.testBit_two_pow, hi]; done) | (simp [Nat.testBit_two_pow_of_ne hi]; done)
  rw [fa_and]
  constructor
  · intro h
    apply e.mp
    rcases Nat.eq_zero_or_pos (n &&& 2 ^ j) with z | z
    · exact z
    · exact absurd h (nI_ne0 z (Nat.lt_of_le_of_lt hle h2))
  · intro h
    rw [e.mpr h]; exact nI_0
theorem am_and2 {n j : Nat} (hj : j < 31) : nI n &&& nI (2 ^ j) = 0 ↔ n.testBit j = false := fa_bit hj
