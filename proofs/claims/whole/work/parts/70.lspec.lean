-- the law's text: what it says
abbrev lp_O : Type := Int32 × Nat × List (Nat × Nat)
def lp_b (o : lp_O) (f : Nat → lp_O) : lp_O := if o.1 = 0 then ((f o.2.1).1, (f o.2.1).2.1, o.2.2 ++ (f o.2.1).2.2) else o
def lp_ex (t : Nat → Nat) (n c k : Nat) : lp_O := if k < n ∧ t k = c then (0, k + 1, []) else (am_ft 1 k, k, [])
def lp_dd (t : Nat → Nat) (n : Nat) : Nat → Nat → Nat → Nat × Nat
  | 0, k, v => (k, v)
  | f + 1, k, v => if cb_dg t n k then lp_dd t n f (k + 1) (10 * v + (t k - 48)) else (k, v)
def lp_num (t : Nat → Nat) (n k : Nat) : lp_O := if cb_dg t n (lp_dd t n 5 k 0).1 then (am_ft 2 (lp_dd t n 5 k 0).1, k, []) else (0, (lp_dd t n 5 k 0).1, [(0, (lp_dd t n 5 k 0).2)])
def lp_fi (c : Nat) : Nat := if c = 112 then 0 else if c = 115 then 1 else if c = 122 then 2 else if c = 100 then 3 else if c = 102 then 4 else if c = 110 then 5 else if c = 97 then 6 else if c = 105 then 7 else if c = 116 then 8 else if c = 119 then 9 else 10
def lp_sT (c : Nat) : Nat := if c = 42 then 4 else if c = 47 then 5 else if c = 37 then 6 else 0
def lp_sS (c : Nat) : Nat := if c = 43 then 2 else if c = 45 then 3 else 0
def lp_sC (c : Nat) : Nat := if c = 60 then 7 else if c = 62 then 8 else if c = 61 then 9 else 0
def lp_fac (t : Nat → Nat) (n : Nat) (last : Bool) (sum : Nat → lp_O) (k : Nat) : lp_O :=
  if k < n ∧ t k = 91 then (if last = true then (am_ft 5 k, k, []) else lp_b (sum (k + 1)) (lp_ex t n 93))
  else if cb_dg t n k then lp_num t n k
  else if k < n ∧ lp_fi (t k) < 10 then (0, k + 1, [(1, lp_fi (t k))]) else (am_ft 1 k, k, [])
/-- a thing behind a sign, then the sign's code -/
def lp_el (it : Nat → lp_O) (op k : Nat) : lp_O := lp_b (it (k + 1)) (fun k2 => (0, k2, [(op, 0)]))
def lp_lf (it : Nat → lp_O) (sg : Nat → Nat) (t : Nat → Nat) (n : Nat) : Nat → Nat → lp_O
  | 0, k => (0, k, [])
  | f + 1, k => if k < n ∧ ¬ sg (t k) = 0 then lp_b (lp_el it (sg (t k)) k) (lp_lf it sg t n f) else (0, k, [])
def lp_tm (t : Nat → Nat) (n : Nat) (fac : Nat → lp_O) (k : Nat) : lp_O := lp_b (fac k) (fun k' => lp_lf fac lp_sT t n (n + 1 - k') k')
def lp_sm (t : Nat → Nat) (n : Nat) (fac : Nat → lp_O) (k : Nat) : lp_O := lp_b (lp_tm t n fac k) (fun k' => lp_lf (lp_tm t n fac) lp_sS t n (n + 1 - k') k')
def lp_f (t : Nat → Nat) (n : Nat) : Nat → Nat → lp_O
  | 0 => lp_fac t n true (fun k => (0, k, []))
  | c + 1 => lp_fac t n false (lp_sm t n (lp_f t n c))
def lp_sum (t : Nat → Nat) (n c : Nat) : Nat → lp_O := lp_sm t n (lp_f t n c)
def lp_jm (op : Nat) (o : lp_O) : lp_O := if o.1 = 0 then (0, o.2.1, (op, o.2.2.length) :: o.2.2) else o
def lp_jf (it : Nat → lp_O) (ch op : Nat) (t : Nat → Nat) (n : Nat) : Nat → Nat → lp_O
  | 0, k => (0, k, [])
  | f + 1, k => if k < n ∧ t k = ch then lp_b (lp_jm op (it (k + 1))) (lp_jf it ch op t n f) else (0, k, [])
def lp_pt (t : Nat → Nat) (n : Nat) (tst : Nat → lp_O) (k : Nat) : lp_O := lp_b (tst k) (fun k' => lp_jf tst 38 11 t n (n + 1 - k') k')
def lp_ch (t : Nat → Nat) (n : Nat) (tst : Nat → lp_O) (k : Nat) : lp_O := lp_b (lp_pt t n tst k) (fun k' => lp_jf (lp_pt t n tst) 124 12 t n (n + 1 - k') k')
def lp_cmp (t : Nat → Nat) (n : Nat) (sum : Nat → lp_O) (k : Nat) : lp_O := lp_b (sum k) (fun k2 => if k2 < n ∧ ¬ lp_sC (t k2) = 0 then lp_el sum (lp_sC (t k2)) k2 else (am_ft 1 k2, k2, []))
def lp_ts (t : Nat → Nat) (n : Nat) (last : Bool) (tst : Nat → lp_O) (sum : Nat → lp_O) (k : Nat) : lp_O :=
  if k < n ∧ t k = 33 then (if last = true then (am_ft 5 k, k, []) else lp_el tst 10 k)
  else if k < n ∧ t k = 40 then (if last = true then (am_ft 5 k, k, []) else lp_b (lp_ch t n tst (k + 1)) (lp_ex t n 41))
  else lp_cmp t n sum k
def lp_t (t : Nat → Nat) (n : Nat) : Nat → Nat → lp_O
  | 0 => lp_ts t n true (fun k => (0, k, [])) (lp_sum t n 0)
  | c + 1 => lp_ts t n false (lp_t t n c) (lp_sum t n (c + 1))
theorem lp_b_0 {o : lp_O} {f : Nat → lp_O} (h : o.1 = 0) : lp_b o f = ((f o.2.1).1, (f o.2.1).2.1, o.2.2 ++ (f o.2.1).2.2) := if_pos h
theorem lp_b_f {o : lp_O} {f : Nat → lp_O} (h : ¬ o.1 = 0) : lp_b o f = o := if_neg h
theorem lp_lf_s (it : Nat → lp_O) (sg : Nat → Nat) (t : Nat → Nat) (n f k : Nat) : lp_lf it sg t n (f + 1) k = if k < n ∧ ¬ sg (t k) = 0 then lp_b (lp_el it (sg (t k)) k) (lp_lf it sg t n f) else (0, k, []) := rfl
theorem lp_jf_s (it : Nat → lp_O) (ch op : Nat) (t : Nat → Nat) (n f k : Nat) : lp_jf it ch op t n (f + 1) k = if k < n ∧ t k = ch then lp_b (lp_jm op (it (k + 1))) (lp_jf it ch op t n f) else (0, k, []) := rfl
theorem lp_dd_s (t : Nat → Nat) (n f k v : Nat) : lp_dd t n (f + 1) k v = if cb_dg t n k then lp_dd t n f (k + 1) (10 * v + (t k - 48)) else (k, v) := rfl
/-- the class's cells of codes -/
def lp_z (op : Nat) : Nat := if op = 0 ∨ op = 1 ∨ op = 11 ∨ op = 12 then 2 else 1
def lp_cz : List (Nat × Nat) → Nat
  | [] => 0
  | a :: X => lp_z a.1 + lp_cz X
theorem lp_cz_app : ∀ (X Y : List (Nat × Nat)), lp_cz (X ++ Y) = lp_cz X + lp_cz Y
  | [], Y => by show lp_cz Y = 0 + lp_cz Y; omega
  | a :: X, Y => by
    have := lp_cz_app X Y
    show lp_z a.1 + lp_cz (X ++ Y) = lp_z a.1 + lp_cz X + lp_cz Y
    omega
/-- jumps stay inside; heights: T X a b says that X goes from height a to height b -/
def lp_T (X : List (Nat × Nat)) (a b : Nat) : Prop := ∃ ty : Nat → Nat, ty 0 = a ∧ ty X.length = b ∧ ∀ k, k < X.length → (X.getD k (0, 0)).2 < 2 ^ 19 ∧ (
  ((X.getD k (0, 0)).1 = 0 ∧ ty k < 60 ∧ ty (k + 1) = ty k + 1) ∨
  ((X.getD k (0, 0)).1 = 1 ∧ (X.getD k (0, 0)).2 < 10 ∧ ty k < 60 ∧ ty (k + 1) = ty k + 1) ∨
  ((X.getD k (0, 0)).1 = 10 ∧ ty k = 100 ∧ ty (k + 1) = 100) ∨
  (((X.getD k (0, 0)).1 = 11 ∨ (X.getD k (0, 0)).1 = 12) ∧ k + 1 + (X.getD k (0, 0)).2 ≤ X.length ∧ ty k = 100 ∧ ty (k + 1) = 0 ∧ ty (k + 1 + (X.getD k (0, 0)).2) = 100) ∨
  (2 ≤ (X.getD k (0, 0)).1 ∧ (X.getD k (0, 0)).1 ≤ 9 ∧ 2 ≤ ty k ∧ ty k ≤ 60 ∧ ty (k + 1) = (if (X.getD k (0, 0)).1 ≤ 6 then ty k - 1 else 100) ∧ (6 < (X.getD k (0, 0)).1 → ty k = 2)))
theorem lp_T_nil (a : Nat) : lp_T [] a a := ⟨fun _ => a, rfl, rfl, fun k hk => absurd hk (Nat.not_lt_zero k)⟩
theorem lp_gd_l {X Y : List (Nat × Nat)} {k : Nat} (h : k < X.length) : (X ++ Y).getD k (0, 0) = X.getD k (0, 0) := by
  rw [List.getD_eq_getElem?_getD, List.getD_eq_getElem?_getD, List.getElem?_append_left h]
theorem lp_gd_r {X Y : List (Nat × Nat)} {k : Nat} (h : X.length ≤ k) : (X ++ Y).getD k (0, 0) = Y.getD (k - X.length) (0, 0) := by
  rw [List.getD_eq_getElem?_getD, List.getD_eq_getElem?_getD, List.getElem?_append_right h]
theorem lp_T_app {X Y : List (Nat × Nat)} {a b c : Nat} (p : lp_T X a b) (q : lp_T Y b c) : lp_T (X ++ Y) a c := by
  obtain ⟨u, u0, u1, u2⟩ := p
  obtain ⟨v, v0, v1, v2⟩ := q
  obtain ⟨w, tx, tl⟩ : ∃ w : Nat → Nat, (∀ j, j ≤ X.length → w j = u j) ∧ (∀ j, X.length ≤ j → w j = v (j - X.length)) := by
    refine ⟨fun k => if k < X.length then u k else v (k - X.length), fun j hj => ?_, fun j hj => if_neg (by omega)⟩
    show (if j < X.length then u j else v (j - X.length)) = u j
    by_cases h : j < X.length
    · rw [if_pos h]
    · rw [if_neg h, show j = X.length by omega, show X.length - X.length = 0 by omega, v0, u1]
  refine ⟨w, (tx 0 (Nat.zero_le _)).trans u0, ?_, fun k hk => ?_⟩
  · rw [List.length_append, tl _ (by omega), show X.length + Y.length - X.length = Y.length by omega]; exact v1
  · rw [List.length_append] at hk
    rcases Nat.lt_or_ge k X.length with h | h
    · have q := u2 k h
      rw [lp_gd_l h, tx k (by omega), tx (k + 1) (by omega)]
      refine ⟨q.1, ?_⟩
      rcases q.2 with q | q | q | ⟨w1, w2, w3, w4, w5⟩ | q
      · exact Or.inl q
      · exact Or.inr (Or.inl q)
      · exact Or.inr (Or.inr (Or.inl q))
      · refine Or.inr (Or.inr (Or.inr (Or.inl ⟨w1, by rw [List.length_append]; omega, w3, w4, ?_⟩)))
        rw [tx _ w2]; exact w5
      · exact Or.inr (Or.inr (Or.inr (Or.inr q)))
    · have q := v2 (k - X.length) (by omega)
      rw [lp_gd_r h, tl k h, tl (k + 1) (by omega), show k + 1 - X.length = k - X.length + 1 by omega]
      refine ⟨q.1, ?_⟩
      rcases q.2 with q | q | q | ⟨w1, w2, w3, w4, w5⟩ | q
      · exact Or.inl q
      · exact Or.inr (Or.inl q)
      · exact Or.inr (Or.inr (Or.inl q))
      · refine Or.inr (Or.inr (Or.inr (Or.inl ⟨w1, by rw [List.length_append]; omega, w3, w4, ?_⟩)))
        rw [tl _ (by omega), show k + 1 + (Y.getD (k - X.length) (0, 0)).2 - X.length = k - X.length + 1 + (Y.getD (k - X.length) (0, 0)).2 by omega]; exact w5
      · exact Or.inr (Or.inr (Or.inr (Or.inr q)))
theorem lp_T_1 {op v a b : Nat} (hv : v < 2 ^ 19) (h : (op = 0 ∧ a < 60 ∧ b = a + 1) ∨ (op = 1 ∧ v < 10 ∧ a < 60 ∧ b = a + 1) ∨ (op = 10 ∧ a = 100 ∧ b = 100) ∨ (2 ≤ op ∧ op ≤ 9 ∧ 2 ≤ a ∧ a ≤ 60 ∧ b = (if op ≤ 6 then a - 1 else 100) ∧ (6 < op → a = 2))) : lp_T [(op, v)] a b := by
  refine ⟨fun k => if k = 0 then a else b, rfl, rfl, fun k hk => ?_⟩
  have : k = 0 := by
    have hk' : k < 1 := hk
    omega
  subst this
  refine ⟨hv, ?_⟩
  rcases h with h | h | h | h
  · exact Or.inl h
  · exact Or.inr (Or.inl h)
  · exact Or.inr (Or.inr (Or.inl h))
  · exact Or.inr (Or.inr (Or.inr (Or.inr h)))
/-- a jump over a piece -/
theorem lp_T_j {X : List (Nat × Nat)} {op : Nat} (ho : op = 11 ∨ op = 12) (hl : X.length < 2 ^ 19) (p : lp_T X 0 100) : lp_T ((op, X.length) :: X) 100 100 := by
  obtain ⟨u, u0, u1, u2⟩ := p
  refine ⟨fun k => if k = 0 then 100 else u (k - 1), rfl, ?_, fun k hk => ?_⟩
  · show (if X.length + 1 = 0 then 100 else u (X.length + 1 - 1)) = 100
    rw [if_neg (by omega)]; exact u1
  · have hk' : k < X.length + 1 := hk
    cases k with
    | zero =>
      refine ⟨hl, Or.inr (Or.inr (Or.inr (Or.inl ⟨ho, ?_, rfl, u0, ?_⟩)))⟩
      · show 0 + 1 + X.length ≤ X.length + 1
        omega
      · show (if 0 + 1 + X.length = 0 then 100 else u (0 + 1 + X.length - 1)) = 100
        rw [if_neg (by omega), show 0 + 1 + X.length - 1 = X.length by omega]; exact u1
    | succ k =>
      have w := u2 k (by omega)
      show (X.getD k (0, 0)).2 < 2 ^ 19 ∧ _
      refine ⟨w.1, ?_⟩
      have e : ∀ j, (if j + 1 = 0 then 100 else u (j + 1 - 1)) = u j := fun j => by rw [if_neg (by omega)]; rfl
      rcases w.2 with w | w | w | ⟨w1, w2, w3, w4, w5⟩ | w
      · exact Or.inl w
      · exact Or.inr (Or.inl w)
      · exact Or.inr (Or.inr (Or.inl w))
      · refine Or.inr (Or.inr (Or.inr (Or.inl ⟨w1, ?_, w3, w4, ?_⟩)))
        · show k + 1 + 1 + (X.getD k (0, 0)).2 ≤ X.length + 1
          omega
        · show (if k + 1 + 1 + (X.getD k (0, 0)).2 = 0 then 100 else u (k + 1 + 1 + (X.getD k (0, 0)).2 - 1)) = 100
          rw [if_neg (by omega), show k + 1 + 1 + (X.getD k (0, 0)).2 - 1 = k + 1 + (X.getD k (0, 0)).2 by omega]; exact w5
      · exact Or.inr (Or.inr (Or.inr (Or.inr w)))
/-- what is sure of a reader of something: it goes on; its codes; its faults -/
def lp_G (n : Nat) (it : Nat → lp_O) (a b : Nat) : Prop := ∀ k, k ≤ n → ((it k).1 = 0 → k < (it k).2.1 ∧ (it k).2.1 ≤ n ∧ lp_cz (it k).2.2 + 2 * k ≤ 2 * (it k).2.1 ∧ (it k).2.2.length + k ≤ (it k).2.1 ∧ lp_T (it k).2.2 a b) ∧ (¬ (it k).1 = 0 → (it k).1 < 0)
/-- the same, where it may stay -/
def lp_G0 (n : Nat) (o : lp_O) (k a b : Nat) : Prop := (o.1 = 0 → k ≤ o.2.1 ∧ o.2.1 ≤ n ∧ lp_cz o.2.2 + 2 * k ≤ 2 * o.2.1 ∧ o.2.2.length + k ≤ o.2.1 ∧ lp_T o.2.2 a b) ∧ (¬ o.1 = 0 → o.1 < 0)
section
variable {t : Nat → Nat} {n : Nat}
theorem lp_G_b {it : Nat → lp_O} {f : Nat → lp_O} {a b c k : Nat} (h1 : (it k).1 = 0 → k < (it k).2.1 ∧ (it k).2.1 ≤ n ∧ lp_cz (it k).2.2 + 2 * k ≤ 2 * (it k).2.1 ∧ (it k).2.2.length + k ≤ (it k).2.1 ∧ lp_T (it k).2.2 a b) (h1' : ¬ (it k).1 = 0 → (it k).1 < 0) (h2 : ∀ k', k < k' → k' ≤ n → lp_G0 n (f k') k' b c) : ((lp_b (it k) f).1 = 0 → k < (lp_b (it k) f).2.1 ∧ (lp_b (it k) f).2.1 ≤ n ∧ lp_cz (lp_b (it k) f).2.2 + 2 * k ≤ 2 * (lp_b (it k) f).2.1 ∧ (lp_b (it k) f).2.2.length + k ≤ (lp_b (it k) f).2.1 ∧ lp_T (lp_b (it k) f).2.2 a c) ∧ (¬ (lp_b (it k) f).1 = 0 → (lp_b (it k) f).1 < 0) := by
  generalize it k = o at h1 h1'
  by_cases e : o.1 = 0
  · obtain ⟨g1, g2, g3, g4, g5⟩ := h1 e
    have w := h2 o.2.1 g1 g2
    rw [lp_b_0 e]
    refine ⟨fun q => ?_, w.2⟩
    obtain ⟨w1, w2, w3, w4, w5⟩ := w.1 q
    refine ⟨by show k < (f o.2.1).2.1; omega, w2, ?_, ?_, lp_T_app g5 w5⟩
    · show lp_cz (o.2.2 ++ (f o.2.1).2.2) + 2 * k ≤ 2 * (f o.2.1).2.1
      rw [lp_cz_app]; omega
    · show (o.2.2 ++ (f o.2.1).2.2).length + k ≤ (f o.2.1).2.1
      rw [List.length_append]; omega
  · rw [lp_b_f e]; exact ⟨fun q => absurd q e, h1'⟩
theorem lp_G0_b {o : lp_O} {f : Nat → lp_O} {a b c k : Nat} (h1 : lp_G0 n o k a b) (h2 : ∀ k', k ≤ k' → k' ≤ n → lp_G0 n (f k') k' b c) : lp_G0 n (lp_b o f) k a c := by
  by_cases e : o.1 = 0
  · obtain ⟨g1, g2, g3, g4, g5⟩ := h1.1 e
    have w := h2 o.2.1 g1 g2
    rw [lp_b_0 e]
    refine ⟨fun q => ?_, w.2⟩
    obtain ⟨w1, w2, w3, w4, w5⟩ := w.1 q
    refine ⟨by show k ≤ (f o.2.1).2.1; omega, w2, ?_, ?_, lp_T_app g5 w5⟩
    · show lp_cz (o.2.2 ++ (f o.2.1).2.2) + 2 * k ≤ 2 * (f o.2.1).2.1
      rw [lp_cz_app]; omega
    · show (o.2.2 ++ (f o.2.1).2.2).length + k ≤ (f o.2.1).2.1
      rw [List.length_append]; omega
  · rw [lp_b_f e]; exact ⟨fun q => absurd q e, h1.2⟩
theorem lp_G_0 {it : Nat → lp_O} {a b k : Nat} (h : lp_G n it a b) (hk : k ≤ n) : lp_G0 n (it k) k a b := ⟨fun q => by have := (h k hk).1 q; exact ⟨by omega, this.2⟩, (h k hk).2⟩
theorem lp_ex_g {c k a : Nat} (hn : n ≤ 250) (hk : k ≤ n) : lp_G0 n (lp_ex t n c k) k a a := by
  unfold lp_ex
  by_cases q : k < n ∧ t k = c
  · rw [if_pos q]; exact ⟨fun _ => ⟨by show k ≤ k + 1; omega, by show k + 1 ≤ n; omega, by show 0 + 2 * k ≤ 2 * (k + 1); omega, by show 0 + k ≤ k + 1; omega, lp_T_nil a⟩, fun q => absurd rfl q⟩
  · rw [if_neg q]
    have f := am_ft_n (x := 1) (k := k) (by omega) (by omega) (by omega)
    exact ⟨fun q => absurd q f.2, fun _ => f.1⟩
theorem lp_dd_p : ∀ (f k v : Nat), k ≤ n → k ≤ (lp_dd t n f k v).1 ∧ (lp_dd t n f k v).1 ≤ n ∧ (lp_dd t n f k v).2 + 1 ≤ 10 ^ f * (v + 1)
  | 0, k, v, hk => ⟨Nat.le_refl _, hk, by show v + 1 ≤ 1 * (v + 1); omega⟩
  | f + 1, k, v, hk => by
    rw [lp_dd_s]
    by_cases c : cb_dg t n k
    · rw [if_pos c]
      have w := lp_dd_p f (k + 1) (10 * v + (t k - 48)) c.1
      refine ⟨by omega, w.2.1, Nat.le_trans w.2.2 ?_⟩
      have := c.2
      rw [Nat.pow_succ, Nat.mul_assoc]
      exact Nat.mul_le_mul_left _ (by omega)
    · rw [if_neg c]
      refine ⟨Nat.le_refl _, hk, ?_⟩
      show v + 1 ≤ 10 ^ (f + 1) * (v + 1)
      exact Nat.le_mul_of_pos_left _ (Nat.pow_pos (by decide))
theorem lp_num_g {k a : Nat} (hn : n ≤ 250) (ha : a < 60) (hk : cb_dg t n k) : ((lp_num t n k).1 = 0 → k < (lp_num t n k).2.1 ∧ (lp_num t n k).2.1 ≤ n ∧ lp_cz (lp_num t n k).2.2 + 2 * k ≤ 2 * (lp_num t n k).2.1 ∧ (lp_num t n k).2.2.length + k ≤ (lp_num t n k).2.1 ∧ lp_T (lp_num t n k).2.2 a (a + 1)) ∧ (¬ (lp_num t n k).1 = 0 → (lp_num t n k).1 < 0) := by
  have hk1 := hk.1
  have w := lp_dd_p (t := t) (n := n) 5 k 0 (by omega)
  have w2 := lp_dd_p (t := t) (n := n) 4 (k + 1) (10 * 0 + (t k - 48)) hk.1
  have e : lp_dd t n 5 k 0 = lp_dd t n 4 (k + 1) (10 * 0 + (t k - 48)) := by rw [lp_dd_s, if_pos hk]
  unfold lp_num
  by_cases c : cb_dg t n (lp_dd t n 5 k 0).1
  · rw [if_pos c]
    have f := am_ft_n (x := 2) (k := (lp_dd t n 5 k 0).1) (by omega) (by omega) (by omega)
    exact ⟨fun q => absurd q f.2, fun _ => f.1⟩
  · rw [if_neg c]
    rw [← e] at w2
    refine ⟨fun _ => ⟨by show k < (lp_dd t n 5 k 0).1; omega, w.2.1, ?_, ?_, lp_T_1 (by have := w.2.2; omega) (Or.inl ⟨rfl, ha, rfl⟩)⟩, fun q => absurd rfl q⟩
    · show lp_z 0 + 0 + 2 * k ≤ 2 * (lp_dd t n 5 k 0).1
      show 2 + 0 + 2 * k ≤ _
      omega
    · show 1 + k ≤ (lp_dd t n 5 k 0).1
      omega
theorem lp_fac_g {last : Bool} {sum : Nat → lp_O} {a : Nat} (hn : n ≤ 250) (ha : a < 60) (hs : last = false → lp_G n sum a (a + 1)) : lp_G n (lp_fac t n last sum) a (a + 1) := fun k hk => by
  unfold lp_fac
  by_cases c1 : k < n ∧ t k = 91
  · rw [if_pos c1]
    cases last with
    | true =>
      rw [if_pos rfl]
      have f := am_ft_n (x := 5) (k := k) (by omega) (by omega) (by omega)
      exact ⟨fun q => absurd q f.2, fun _ => f.1⟩
    | false =>
      rw [if_neg (by decide)]
      have h1 := hs rfl (k + 1) c1.1
      have w := lp_G_b (f := lp_ex t n 93) (c := a + 1) h1.1 h1.2 (fun k' _ h2 => lp_ex_g hn h2)
      exact ⟨fun q => by have := w.1 q; exact ⟨by omega, this.2.1, by omega, by omega, this.2.2.2.2⟩, w.2⟩
  · rw [if_neg c1]
    by_cases c2 : cb_dg t n k
    · rw [if_pos c2]; exact lp_num_g hn ha c2
    · rw [if_neg c2]
      by_cases c3 : k < n ∧ lp_fi (t k) < 10
      · rw [if_pos c3]
        refine ⟨fun _ => ⟨by show k < k + 1; omega, c3.1, ?_, ?_, lp_T_1 (by have := c3.2; omega) (Or.inr (Or.inl ⟨rfl, c3.2, ha, rfl⟩))⟩, fun q => absurd rfl q⟩
        · show 2 + 0 + 2 * k ≤ 2 * (k + 1)
          omega
        · show 1 + k ≤ k + 1
          omega
      · rw [if_neg c3]
        have f := am_ft_n (x := 1) (k := k) (by omega) (by omega) (by omega)
        exact ⟨fun q => absurd q f.2, fun _ => f.1⟩
/-- an element behind a sign, with the sign's byte -/
theorem lp_el_g {it : Nat → lp_O} {op a b c k : Nat} (hk : k < n) (hz : lp_z op = 1) (hT : lp_T [(op, 0)] b c) (hi : lp_G n it a b) : ((lp_el it op k).1 = 0 → k < (lp_el it op k).2.1 ∧ (lp_el it op k).2.1 ≤ n ∧ lp_cz (lp_el it op k).2.2 + 2 * k ≤ 2 * (lp_el it op k).2.1 ∧ (lp_el it op k).2.2.length + k ≤ (lp_el it op k).2.1 ∧ lp_T (lp_el it op k).2.2 a c) ∧ (¬ (lp_el it op k).1 = 0 → (lp_el it op k).1 < 0) := by
  have h := hi (k + 1) hk
  unfold lp_el
  generalize it (k + 1) = o at h
  by_cases e : o.1 = 0
  · obtain ⟨g1, g2, g3, g4, g5⟩ := h.1 e
    rw [lp_b_0 e]
    refine ⟨fun _ => ⟨by show k < o.2.1; omega, g2, ?_, ?_, lp_T_app g5 hT⟩, fun q => absurd rfl q⟩
    · show lp_cz (o.2.2 ++ [(op, 0)]) + 2 * k ≤ 2 * o.2.1
      rw [lp_cz_app]
      show lp_cz o.2.2 + (lp_z op + 0) + 2 * k ≤ 2 * o.2.1
      omega
    · show (o.2.2 ++ [(op, 0)]).length + k ≤ o.2.1
      rw [List.length_append]
      show o.2.2.length + 1 + k ≤ o.2.1
      omega
  · rw [lp_b_f e]; exact ⟨fun q => absurd q e, h.2⟩
theorem lp_stay {k a : Nat} (hk : k ≤ n) : lp_G0 n (0, k, []) k a a := ⟨fun _ => ⟨Nat.le_refl _, hk, by show 0 + 2 * k ≤ 2 * k; omega, by show 0 + k ≤ k; omega, lp_T_nil _⟩, fun q => absurd rfl q⟩
theorem lp_up {o : lp_O} {k a b : Nat} (h : (o.1 = 0 → k < o.2.1 ∧ o.2.1 ≤ n ∧ lp_cz o.2.2 + 2 * k ≤ 2 * o.2.1 ∧ o.2.2.length + k ≤ o.2.1 ∧ lp_T o.2.2 a b) ∧ (¬ o.1 = 0 → o.1 < 0)) : lp_G0 n o k a b := ⟨fun q => by have := h.1 q; exact ⟨by omega, this.2⟩, h.2⟩
theorem lp_lf_g {it : Nat → lp_O} {sg : Nat → Nat} {a : Nat} (ha : a + 2 < 60) (hs : ∀ c, ¬ sg c = 0 → 2 ≤ sg c ∧ sg c ≤ 6) (hi : lp_G n it (a + 1) (a + 2)) : ∀ (f k : Nat), k ≤ n → lp_G0 n (lp_lf it sg t n f k) k (a + 1) (a + 1)
  | 0, k, hk => lp_stay hk
  | f + 1, k, hk => by
    rw [lp_lf_s]
    by_cases c : k < n ∧ ¬ sg (t k) = 0
    · rw [if_pos c]
      have s := hs _ c.2
      refine lp_G0_b (lp_up (lp_el_g c.1 (by unfold lp_z; rw [if_neg (by omega)]) (lp_T_1 (by omega) (Or.inr (Or.inr (Or.inr ⟨s.1, by omega, by omega, by omega, ?_, fun q => by omega⟩)))) hi)) (fun k' _ h2 => lp_lf_g ha hs hi f k' h2)
      rw [if_pos s.2]; omega
    · rw [if_neg c]; exact lp_stay hk
theorem lp_sT_b (c : Nat) (h : ¬ lp_sT c = 0) : 2 ≤ lp_sT c ∧ lp_sT c ≤ 6 := by
  unfold lp_sT at h ⊢
  split
  · omega
  · split
    · omega
    · split
      · omega
      · rename_i h1 h2 h3
        rw [if_neg h1, if_neg h2, if_neg h3] at h
        exact absurd rfl h
theorem lp_sS_b (c : Nat) (h : ¬ lp_sS c = 0) : 2 ≤ lp_sS c ∧ lp_sS c ≤ 6 := by
  unfold lp_sS at h ⊢
  split
  · omega
  · split
    · omega
    · rename_i h1 h2
      rw [if_neg h1, if_neg h2] at h
      exact absurd rfl h
theorem lp_sC_b (c : Nat) (h : ¬ lp_sC c = 0) : 7 ≤ lp_sC c ∧ lp_sC c ≤ 9 := by
  unfold lp_sC at h ⊢
  split
  · omega
  · split
    · omega
    · split
      · omega
      · rename_i h1 h2 h3
        rw [if_neg h1, if_neg h2, if_neg h3] at h
        exact absurd rfl h
theorem lp_tm_g {fac : Nat → lp_O} {a : Nat} (ha : a + 2 < 60) (h1 : lp_G n fac a (a + 1)) (h2 : lp_G n fac (a + 1) (a + 2)) : lp_G n (lp_tm t n fac) a (a + 1) := fun k hk => lp_G_b (h1 k hk).1 (h1 k hk).2 (fun k' _ g2 => lp_lf_g ha lp_sT_b h2 _ k' g2)
theorem lp_sm_g {fac : Nat → lp_O} {a : Nat} (ha : a + 3 < 60) (h0 : lp_G n fac a (a + 1)) (h1 : lp_G n fac (a + 1) (a + 2)) (h2 : lp_G n fac (a + 2) (a + 3)) : lp_G n (lp_sm t n fac) a (a + 1) := fun k hk => by
  have g := lp_tm_g (t := t) (by omega) h0 h1
  exact lp_G_b (g k hk).1 (g k hk).2 (fun k' _ g2 => lp_lf_g (by omega) lp_sS_b (lp_tm_g (by omega) h1 h2) _ k' g2)
theorem lp_f_g (hn : n ≤ 250) : ∀ (c a : Nat), a + 3 * c < 50 → lp_G n (lp_f t n c) a (a + 1)
  | 0, a, ha => lp_fac_g hn (by omega) (fun q => by cases q)
  | c + 1, a, ha => lp_fac_g hn (by omega) (fun _ => lp_sm_g (by omega) (lp_f_g hn c a (by omega)) (lp_f_g hn c (a + 1) (by omega)) (lp_f_g hn c (a + 2) (by omega)))
theorem lp_sum_g (hn : n ≤ 250) {c a : Nat} (ha : a + 3 * c < 40) : lp_G n (lp_sum t n c) a (a + 1) := lp_sm_g (by omega) (lp_f_g hn c a (by omega)) (lp_f_g hn c (a + 1) (by omega)) (lp_f_g hn c (a + 2) (by omega))
theorem lp_jm_g {it : Nat → lp_O} {op k : Nat} (hn : n ≤ 250) (ho : op = 11 ∨ op = 12) (hk : k < n) (hi : lp_G n it 0 100) : ((lp_jm op (it (k + 1))).1 = 0 → k < (lp_jm op (it (k + 1))).2.1 ∧ (lp_jm op (it (k + 1))).2.1 ≤ n ∧ lp_cz (lp_jm op (it (k + 1))).2.2 + 2 * k ≤ 2 * (lp_jm op (it (k + 1))).2.1 ∧ (lp_jm op (it (k + 1))).2.2.length + k ≤ (lp_jm op (it (k + 1))).2.1 ∧ lp_T (lp_jm op (it (k + 1))).2.2 100 100) ∧ (¬ (lp_jm op (it (k + 1))).1 = 0 → (lp_jm op (it (k + 1))).1 < 0) := by
  have h := hi (k + 1) hk
  generalize it (k + 1) = o at h
  unfold lp_jm
  by_cases e : o.1 = 0
  · obtain ⟨g1, g2, g3, g4, g5⟩ := h.1 e
    rw [if_pos e]
    refine ⟨fun _ => ⟨by show k < o.2.1; omega, g2, ?_, ?_, lp_T_j ho (by omega) g5⟩, fun q => absurd rfl q⟩
    · show lp_z op + lp_cz o.2.2 + 2 * k ≤ 2 * o.2.1
      have : lp_z op = 2 := by unfold lp_z; rw [if_pos (by omega)]
      omega
    · show o.2.2.length + 1 + k ≤ o.2.1
      omega
  · rw [if_neg e]; exact ⟨fun q => absurd q e, h.2⟩
theorem lp_jf_g {it : Nat → lp_O} {ch op : Nat} (hn : n ≤ 250) (ho : op = 11 ∨ op = 12) (hi : lp_G n it 0 100) : ∀ (f k : Nat), k ≤ n → lp_G0 n (lp_jf it ch op t n f k) k 100 100
  | 0, k, hk => lp_stay hk
  | f + 1, k, hk => by
    rw [lp_jf_s]
    by_cases c : k < n ∧ t k = ch
    · rw [if_pos c]
      exact lp_G0_b (lp_up (lp_jm_g hn ho c.1 hi)) (fun k' _ h2 => lp_jf_g hn ho hi f k' h2)
    · rw [if_neg c]; exact lp_stay hk
theorem lp_pt_g {tst : Nat → lp_O} (hn : n ≤ 250) (hi : lp_G n tst 0 100) : lp_G n (lp_pt t n tst) 0 100 := fun k hk => lp_G_b (hi k hk).1 (hi k hk).2 (fun k' _ g2 => lp_jf_g hn (Or.inl rfl) hi _ k' g2)
theorem lp_ch_g {tst : Nat → lp_O} (hn : n ≤ 250) (hi : lp_G n tst 0 100) : lp_G n (lp_ch t n tst) 0 100 := fun k hk => lp_G_b (lp_pt_g hn hi k hk).1 (lp_pt_g hn hi k hk).2 (fun k' _ g2 => lp_jf_g hn (Or.inr rfl) (lp_pt_g hn hi) _ k' g2)
theorem lp_cmp_g {sum : Nat → lp_O} (hn : n ≤ 250) (h0 : lp_G n sum 0 1) (h1 : lp_G n sum 1 2) : lp_G n (lp_cmp t n sum) 0 100 := fun k hk => lp_G_b (h0 k hk).1 (h0 k hk).2 (fun k' _ g2 => by
  by_cases c : k' < n ∧ ¬ lp_sC (t k') = 0
  · rw [if_pos c]
    have s := lp_sC_b _ c.2
    refine lp_up (lp_el_g c.1 (by unfold lp_z; rw [if_neg (by omega)]) (lp_T_1 (by omega) (Or.inr (Or.inr (Or.inr ⟨by omega, s.2, by omega, by omega, ?_, fun _ => rfl⟩)))) h1)
    rw [if_neg (by omega)]
  · rw [if_neg c]
    have f := am_ft_n (x := 1) (k := k') (by omega) (by omega) (by omega)
    exact ⟨fun q => absurd q f.2, fun _ => f.1⟩)
theorem lp_ts_g {last : Bool} {tst sum : Nat → lp_O} (hn : n ≤ 250) (ht : last = false → lp_G n tst 0 100) (h0 : lp_G n sum 0 1) (h1 : lp_G n sum 1 2) : lp_G n (lp_ts t n last tst sum) 0 100 := fun k hk => by
  have f5 := am_ft_n (x := 5) (k := k) (by omega) (by omega) (by omega)
  unfold lp_ts
  by_cases c1 : k < n ∧ t k = 33
  · rw [if_pos c1]
    cases last with
    | true => rw [if_pos rfl]; exact ⟨fun q => absurd q f5.2, fun _ => f5.1⟩
    | false =>
      rw [if_neg (by decide)]
      exact lp_el_g c1.1 rfl (lp_T_1 (by omega) (Or.inr (Or.inr (Or.inl ⟨rfl, rfl, rfl⟩)))) (ht rfl)
  · rw [if_neg c1]
    by_cases c2 : k < n ∧ t k = 40
    · rw [if_pos c2]
      cases last with
      | true => rw [if_pos rfl]; exact ⟨fun q => absurd q f5.2, fun _ => f5.1⟩
      | false =>
        rw [if_neg (by decide)]
        have h := lp_ch_g (t := t) hn (ht rfl) (k + 1) c2.1
        have w := lp_G_b (f := lp_ex t n 41) (c := 100) h.1 h.2 (fun k' _ h2 => lp_ex_g hn h2)
        exact ⟨fun q => by have := w.1 q; exact ⟨by omega, this.2.1, by omega, by omega, this.2.2.2.2⟩, w.2⟩
    · rw [if_neg c2]; exact lp_cmp_g hn h0 h1 k hk
theorem lp_t_g (hn : n ≤ 250) : ∀ c, c ≤ 6 → lp_G n (lp_t t n c) 0 100
  | 0, _ => lp_ts_g hn (fun q => by cases q) (lp_sum_g hn (by omega)) (lp_sum_g hn (by omega))
  | c + 1, hc => lp_ts_g hn (fun _ => lp_t_g hn c (by omega)) (lp_sum_g hn (by omega)) (lp_sum_g hn (by omega))
/-- how often a loop may go round does not matter -/
theorem lp_lf_f {it : Nat → lp_O} {sg : Nat → Nat} {a b : Nat} (hz : ∀ c, ¬ sg c = 0 → lp_z (sg c) = 1) (hi : lp_G n it a b) : ∀ (f f' k : Nat), k ≤ n → n + 1 ≤ k + f → n + 1 ≤ k + f' → lp_lf it sg t n f k = lp_lf it sg t n f' k
  | 0, _, k, hk, h1, _ => by omega
  | _, 0, k, hk, _, h2 => by omega
  | f + 1, f' + 1, k, hk, h1, h2 => by
    rw [lp_lf_s, lp_lf_s]
    by_cases c : k < n ∧ ¬ sg (t k) = 0
    · rw [if_pos c, if_pos c]
      have g := hi (k + 1) c.1
      unfold lp_el
      generalize it (k + 1) = o at g
      by_cases e : o.1 = 0
      · obtain ⟨g1, g2, _⟩ := g.1 e
        rw [lp_b_0 e, lp_b_0 rfl, lp_b_0 rfl]
        show _ = (_, _, _ ++ (lp_lf it sg t n f' o.2.1).2.2)
        rw [lp_lf_f hz hi f f' o.2.1 g2 (by omega) (by omega)]
      · rw [lp_b_f e, lp_b_f e, lp_b_f e]
    · rw [if_neg c, if_neg c]
theorem lp_jf_f {it : Nat → lp_O} {ch op a b : Nat} (hi : lp_G n it a b) : ∀ (f f' k : Nat), k ≤ n → n + 1 ≤ k + f → n + 1 ≤ k + f' → lp_jf it ch op t n f k = lp_jf it ch op t n f' k
  | 0, _, k, hk, h1, _ => by omega
  | _, 0, k, hk, _, h2 => by omega
  | f + 1, f' + 1, k, hk, h1, h2 => by
    rw [lp_jf_s, lp_jf_s]
    by_cases c : k < n ∧ t k = ch
    · rw [if_pos c, if_pos c]
      have g := hi (k + 1) c.1
      generalize it (k + 1) = o at g
      unfold lp_jm
      by_cases e : o.1 = 0
      · obtain ⟨g1, g2, _⟩ := g.1 e
        rw [if_pos e, lp_b_0 rfl, lp_b_0 rfl]
        show _ = (_, _, _ ++ (lp_jf it ch op t n f' o.2.1).2.2)
        rw [lp_jf_f hi f f' o.2.1 g2 (by omega) (by omega)]
      · rw [if_neg e, lp_b_f e, lp_b_f e]
    · rw [if_neg c, if_neg c]
end
