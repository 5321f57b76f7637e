-- filling; what the invariant sees
set_option maxRecDepth 20000 in
set_option maxHeartbeats 2000000 in
theorem sJ7_fill_53178_0 {d : Nat} {h : am_H} {Z : Int32 → am_H → Prop} {a0 n0 : Nat} (hb0 : am_sh a0 = .inl (.int, n0)) {x1 : Int32} (w : Ru mJ7_fill_53178 none d 5 [.ref a0, .int x1, .int 0, .int (Int32.ofNat n0)] [] h Z) : Ru mJ7_fill_53178 none d 0 [.ref a0, .int x1, .null, .null] [] h Z := by
  refine st_iconst (v := 0) dJ7_fill_53178_0 (by decide) ?_
  refine st_istore_n (L' := [.ref a0, .int x1, .int 0, .null]) dJ7_fill_53178_1 (by decide) rfl ?_
  refine st_aload_n dJ7_fill_53178_2 rfl ?_
  refine st_alen dJ7_fill_53178_3 hb0 ?_
  refine st_istore_n (L' := [.ref a0, .int x1, .int 0, .int (Int32.ofNat n0)]) dJ7_fill_53178_4 (by decide) rfl ?_
  exact w
set_option maxRecDepth 20000 in
set_option maxHeartbeats 2000000 in
theorem sJ7_fill_53178_5 {d : Nat} {h : am_H} {Z : Int32 → am_H → Prop} {a0 n0 : Nat} (hb0 : am_sh a0 = .inl (.int, n0)) {x1 : Int32} {x2 : Int32} {x3 : Int32} (w : (x3 ≤ x2 → Z 0 h) ∧ (¬ (x3 ≤ x2) → (vp_in x2 n0 ∧ (∀ h2 : am_H, h2 = am_sR h a0 (upd (h.2.2 a0) x2.toNatClampNeg x1) → (Ru mJ7_fill_53178 none d 5 [.ref a0, .int x1, .int (x2 + 1), .int x3] [] h2 Z))))) : Ru mJ7_fill_53178 none d 5 [.ref a0, .int x1, .int x2, .int x3] [] h Z := by
  refine st_iload_n dJ7_fill_53178_5 rfl ?_
  refine st_iload_n dJ7_fill_53178_6 rfl ?_
  refine st_icmp_ge (tgt := 20) dJ7_fill_53178_7 (by decide) (fun c => ?_) (fun c => ?_)
  · replace w := w.1 c
    exact st_return rfl dJ7_fill_53178_20 w
  · replace w := w.2 c
    refine st_aload_n dJ7_fill_53178_10 rfl ?_
    refine st_iload_n dJ7_fill_53178_11 rfl ?_
    refine st_iload_n dJ7_fill_53178_12 rfl ?_
    have hc1 := w.1
    replace w := w.2
    refine st_iast dJ7_fill_53178_13 hb0 hc1 (fun h2 eh2 => ?_)
    replace w := w h2 eh2
    refine st_iinc (L' := [.ref a0, .int x1, .int (x2 + 1), .int x3]) dJ7_fill_53178_14 rfl rfl (by decide) rfl ?_
    refine st_goto (tgt := 5) dJ7_fill_53178_17 (by decide) ?_
    exact w
def am_fill (f : Nat → Int32) (n : Nat) (x : Int32) : Nat → Int32 := fun j => if j < n then x else f j
theorem am_fill_s (f : Nat → Int32) (k : Nat) (x : Int32) : upd (am_fill f k x) k x = am_fill f (k + 1) x := by
  funext j
  unfold upd am_fill
  by_cases h1 : j = k
  · subst h1; simp
  · by_cases h2 : j < k
    · simp [h1, h2, show j < k + 1 by omega]
    · simp [h1, h2, show ¬ j < k + 1 by omega]
theorem am_fill_0 (f : Nat → Int32) (x : Int32) : am_fill f 0 x = f := by funext j; simp [am_fill]
theorem am_sR_2 (h : am_H) (a : Nat) (f g : Nat → Int32) : am_sR (am_sR h a f) a g = am_sR h a g := by
  unfold am_sR
  refine Prod.ext rfl (Prod.ext rfl ?_)
  funext a'
  by_cases h1 : a' = a <;> simp [h1]
theorem am_sR_self (h : am_H) (a : Nat) : am_sR h a (h.2.2 a) = h := by
  unfold am_sR
  refine Prod.ext rfl (Prod.ext rfl ?_)
  funext a'
  by_cases h1 : a' = a <;> simp [h1]
theorem am_gRs (h : am_H) (a : Nat) (f : Nat → Int32) : (am_sR h a f).2.2 a = f := by rw [am_gR, if_pos rfl]
theorem fill_w {d : Nat} {h : am_H} {Z : Int32 → am_H → Prop} {a n : Nat} {x : Int32} (hs : am_sh a = .inl (.int, n)) (hn : n < 2 ^ 31) (f : Nat → Int32) : ∀ (m k : Nat), k + m = n → Z 0 (am_sR h a (am_fill f n x)) → Ru mJ7_fill_53178 none d 5 [.ref a, .int x, .int (nI k), .int (nI n)] [] (am_sR h a (am_fill f k x)) Z
  | 0, k, hk, z => by
    have e : k = n := by omega
    subst e
    exact sJ7_fill_53178_5 hs ⟨fun _ => z, fun c => absurd (Int32.le_refl _) c⟩
  | m + 1, k, hk, z => by
    refine sJ7_fill_53178_5 hs ⟨fun c => absurd c (nI_ge (by omega) hn), fun _ => ⟨vp_in_nI (by omega) hn, fun h2 e2 => ?_⟩⟩
    rw [nI_clamp (by omega), am_gRs, am_fill_s, am_sR_2] at e2
    subst e2
    rw [nI_1]
    exact fill_w hs hn f m (k + 1) (by omega) z
theorem iJ7_fill {d : Nat} {h : am_H} {Z : Int32 → am_H → Prop} {a n : Nat} {x : Int32} (hs : am_sh a = .inl (.int, n)) (hn : n < 2 ^ 31) (z : Z 0 (am_sR h a (am_fill (h.2.2 a) n x))) : Sp mJ7_fill_53178 d [.ref a, .int x] h Z := by
  refine Sp_of mf_J7_fill_53178 rfl (Nat.le_of_ble_eq_true rfl) rfl (sJ7_fill_53178_0 hs ?_)
  have := fill_w (d := d) (h := h) (Z := Z) (x := x) hs hn (h.2.2 a) n 0 (by omega) z
  rw [am_fill_0, am_sR_self] at this
  exact this
/-- the rows and numbers that the invariant speaks of -/
def am_relR (a : Nat) : Bool := [2, 30, 31, 32, 33, 34, 35, 36, 37, 39, 40, 41, 42, 43, 44, 45, 46, 48, 49, 50, 51, 52, 53, 54, 55, 57, 58, 59, 60, 61, 65, 66, 67, 68, 69, 74, 76, 77, 78, 79, 80, 87, 88, 89, 90, 91].contains a
def am_relI (a k : Nat) : Bool := [0, 29, 38, 47, 56, 64].contains a || (a == 73 && [6, 7, 18, 60, 61].contains k)
def am_keep (h h' : am_H) : Prop := (∀ a, am_relR a = true → h'.2.2 a = h.2.2 a) ∧ (∀ a k, am_relI a k = true → h'.1 a k = h.1 a k) ∧ h'.2.1 0 = h.2.1 0
theorem am_keep_rf (h : am_H) : am_keep h h := ⟨fun _ _ => rfl, fun _ _ _ => rfl, rfl⟩
theorem am_keep_tr {h h1 h2 : am_H} (q : am_keep h h1) (r : am_keep h1 h2) : am_keep h h2 := ⟨fun a ha => (r.1 a ha).trans (q.1 a ha), fun a k ha => (r.2.1 a k ha).trans (q.2.1 a k ha), r.2.2.trans q.2.2⟩
theorem am_keep_sR {h h1 : am_H} {a : Nat} {f : Nat → Int32} (q : am_keep h h1) (ha : am_relR a = false) : am_keep h (am_sR h1 a f) := by
  refine ⟨fun b hb => ?_, q.2.1, q.2.2⟩
  rw [am_gR, if_neg (fun e => by rw [e, ha] at hb; cases hb)]
  exact q.1 b hb
theorem am_keep_sI {h h1 : am_H} {a k : Nat} {x : Int32} (q : am_keep h h1) (ha : am_relI a k = false) : am_keep h (am_sI h1 a k x) := by
  refine ⟨fun b hb => by rw [am_gI2]; exact q.1 b hb, fun b j hb => ?_, q.2.2⟩
  rw [am_gI, if_neg (fun e => by rw [e.1, e.2, ha] at hb; cases hb)]
  exact q.2.1 b j hb
/-- a step that only uses the tape up, or not even that -/
def am_step (h h' : am_H) : Prop := am_keep h h' ∧ ((h'.1 1 1 = h.1 1 1 ∧ h'.1 73 9 = h.1 73 9) ∨ (h'.1 1 1 = 0 ∧ h'.1 73 9 = 0))
theorem am_step_rf (h : am_H) : am_step h h := ⟨am_keep_rf h, Or.inl ⟨rfl, rfl⟩⟩
/-- the tapes are alike -/
def am_tape (h : am_H) (n : Nat) : Prop := n ≤ 260 ∧ h.1 1 1 = nI n ∧ h.1 73 9 = nI n ∧ ∀ i, i < n → h.2.2 2 i = h.2.2 80 i &&& 255
theorem am_byte (x : Int32) : ∃ j : Nat, j < 256 ∧ x &&& 255 = nI j := pk_andE x 8 (by decide)
theorem am_at_n {h : am_H} {n i : Nat} (ht : am_tape h n) (hi : i < n) : am_at h (nI i) = h.2.2 80 i &&& 255 := by
  unfold am_at
  have hn := ht.1
  rw [if_pos ⟨nI_pos' (by omega), by rw [ht.2.1]; exact nI_lt hi (by omega), nI_lt (b := 260) (by omega) (by omega)⟩, nI_clamp (by omega)]
  exact ht.2.2.2 i hi
theorem am_at_sR (h : am_H) {a : Nat} (f : Nat → Int32) (x : Int32) (ha : a ≠ 2) : am_at (am_sR h a f) x = am_at h x := by
  unfold am_at; rw [am_gR1, am_gR, if_neg (Ne.symm ha)]
theorem am_at_sI (h : am_H) {a k : Nat} (v x : Int32) (ha : a ≠ 1) : am_at (am_sI h a k v) x = am_at h x := by
  have e : (am_sI h a k v).1 1 1 = h.1 1 1 := by rw [am_gI, if_neg (fun e => ha e.1.symm)]
  unfold am_at; rw [e, am_gI2]
theorem am_n2 (b : Nat) : (2 : Int32) * nI b = nI (2 * b) := pk_mul 2 b
theorem am_max_le (x y : Int32) : x ≤ am_max x y ∧ y ≤ am_max x y := by
  unfold am_max
  by_cases q : x < y
  · rw [if_pos q]; exact ⟨Int32.le_of_lt q, Int32.le_refl _⟩
  · rw [if_neg q]; exact ⟨Int32.le_refl _, Int32.not_lt.mp q⟩
theorem am_max_of {x y : Int32} (h : y ≤ x) : am_max x y = x := by unfold am_max; rw [if_neg (Int32.not_lt.mpr h)]
/-- a walk over a square, row by row -/
theorem am_fd_sq {α : Type} (f : Nat → Nat → α → α) (n : Nat) (hn : 0 < n) : ∀ (m k : Nat) (a : α), am_fd (fun c s => f (c / n) (c % n) s) (k * n) (m * n) a = am_fd (fun i s => am_fd (f i) 0 n s) k m a := by
  have row : ∀ (i : Nat) (j c : Nat) (a : α), j + c ≤ n → am_fd (fun c s => f (c / n) (c % n) s) (i * n + c) j a = am_fd (f i) c j a := by
    intro i j
    induction j with
    | zero => intro c a _; rfl
    | succ j ih =>
      intro c a hc
      rw [am_fd_s, am_fd_s]
      have e1 : (i * n + c) / n = i := by rw [Nat.mul_comm, Nat.mul_add_div hn, Nat.div_eq_of_lt (by omega)]; omega
      have e2 : (i * n + c) % n = c := by rw [Nat.mul_comm, Nat.mul_add_mod, Nat.mod_eq_of_lt (by omega)]
      rw [e1, e2]
      exact ih (c + 1) _ (by omega)
  have split : ∀ (g : Nat → α → α) (p q k : Nat) (a : α), am_fd g k (p + q) a = am_fd g (k + p) q (am_fd g k p a) := by
    intro g p
    induction p with
    | zero => intro q k a; simp [am_fd_0]
    | succ p ih =>
      intro q k a
      rw [show p + 1 + q = (p + q) + 1 by omega, am_fd_s, ih, am_fd_s, show k + 1 + p = k + (p + 1) by omega]
  intro m
  induction m with
  | zero => intro k a; simp [am_fd_0]
  | succ m ih =>
    intro k a
    rw [show (m + 1) * n = n + m * n by rw [Nat.succ_mul]; omega, split, am_fd_s, show k * n + n = (k + 1) * n by rw [Nat.succ_mul], ih]
    have := row k n 0 a (by omega)
    rw [Nat.add_zero] at this
    rw [this]
/-- the bytes of the tape as naturals -/
def am_bt (h : am_H) (i : Nat) : Nat := (h.2.2 80 i).toBitVec.toNat % 256
theorem am_bt_e (h : am_H) (i : Nat) : h.2.2 80 i &&& 255 = nI (am_bt h i) := pk_and _ 8 (by decide)
theorem am_bt_lt (h : am_H) (i : Nat) : am_bt h i < 256 := Nat.mod_lt _ (by decide)
theorem am_at_b {h : am_H} {n i : Nat} (ht : am_tape h n) (hi : i < n) : am_at h (nI i) = nI (am_bt h i) := (am_at_n ht hi).trans (am_bt_e h i)
def am_sm (f : Nat → Nat) : Nat → Nat
  | 0 => 0
  | n + 1 => am_sm f n + f n
theorem am_sm_s (f : Nat → Nat) (n : Nat) : am_sm f (n + 1) = am_sm f n + f n := rfl
theorem am_sm_le {f g : Nat → Nat} (n : Nat) (h : ∀ k, k < n → f k ≤ g k) : am_sm f n ≤ am_sm g n := by
  induction n with
  | zero => exact Nat.le_refl _
  | succ n ih => rw [am_sm_s, am_sm_s]; exact Nat.add_le_add (ih (fun k hk => h k (by omega))) (h n (by omega))
theorem am_sm_c (c n : Nat) : am_sm (fun _ => c) n = n * c := by
  induction n with
  | zero => simp [am_sm]
  | succ n ih => rw [am_sm_s, ih, Nat.succ_mul]
theorem am_sm_mul (c : Nat) (f : Nat → Nat) (n : Nat) : am_sm (fun k => c * f k) n = c * am_sm f n := by
  induction n with
  | zero => simp [am_sm]
  | succ n ih => rw [am_sm_s, am_sm_s, ih, Nat.mul_add]
/-- both sides used the tape up, and scratch rows alone -/
theorem am_step_x {h h' : am_H} (q : am_keep h h') (h1 : h'.1 1 1 = 0) (h2 : h'.1 73 9 = 0) : am_step h h' := ⟨q, Or.inr ⟨h1, h2⟩⟩
abbrev am_oc (h : am_H) (x : Int32) : Int32 := h.2.2 80 x.toNatClampNeg &&& 255
theorem am_sR_cm (h : am_H) {a b : Nat} (f g : Nat → Int32) (hab : a ≠ b) : am_sR (am_sR h a f) b g = am_sR (am_sR h b g) a f := by
  unfold am_sR
  refine Prod.ext rfl (Prod.ext rfl ?_)
  funext x
  by_cases h1 : x = a
  · subst h1; simp [hab]
  · by_cases h2 : x = b
    · subst h2; simp [h1]
    · simp [h1, h2]
set_option maxRecDepth 20000 in
set_option maxHeartbeats 2000000 in
theorem sX0_clearCabinet_0 {d : Nat} {h : am_H} {Z : Int32 → am_H → Prop} {a0 : Nat} (hb0 : am_bu a0) (hd : 2 ≤ d) (w : (∀ h1 : am_H, h1 = am_sI (am_sR (am_sR (am_sR h (a0 + 1) (am_fill (h.2.2 (a0 + 1)) 12 (0 : Int32))) (a0 + 2) (am_fill ((am_sR h (a0 + 1) (am_fill (h.2.2 (a0 + 1)) 12 (0 : Int32))).2.2 (a0 + 2)) 12 (0 : Int32))) (a0 + 3) (am_fill ((am_sR (am_sR h (a0 + 1) (am_fill (h.2.2 (a0 + 1)) 12 (0 : Int32))) (a0 + 2) (am_fill ((am_sR h (a0 + 1) (am_fill (h.2.2 (a0 + 1)) 12 (0 : Int32))).2.2 (a0 + 2)) 12 (0 : Int32))).2.2 (a0 + 3)) 12 (0 : Int32))) a0 8 0 → (Z 0 h1))) : Ru mX0_clearCabinet none d 0 [.ref a0] [] h Z := by
  refine st_aload_n dX0_clearCabinet_0 rfl ?_
  refine st_getF (q := a0 + 1) fl_X0_9 fk_0_0 rfl dX0_clearCabinet_1 (bu_0 hb0) ?_
  refine st_iconst (v := 0) dX0_clearCabinet_4 (by decide) ?_
  refine st_callS (M' := mJ7_fill_53178) [.ref (a0 + 1), .int 0] [] dX0_clearCabinet_5 ml_X0_46 mf_J7_fill_53178 ms_J7_fill_53178 rfl rfl rfl (K := fun r h' => 0 = r ∧ am_sR h (a0 + 1) (am_fill (h.2.2 (a0 + 1)) 12 (0 : Int32)) = h') ⟨1, by omega, iJ7_fill (bu_1 hb0) (by decide) ⟨rfl, rfl⟩⟩ (fun r1 h1 w1 => ?_)
  obtain ⟨rfl, rfl⟩ := w1
  show Ru mX0_clearCabinet none d 8 [.ref a0] [] (am_sR h (a0 + 1) (am_fill (h.2.2 (a0 + 1)) 12 (0 : Int32))) Z
  refine st_aload_n dX0_clearCabinet_8 rfl ?_
  refine st_getF (q := a0 + 2) fl_X0_15 fk_0_1 rfl dX0_clearCabinet_9 (bu_0 hb0) ?_
  refine st_iconst (v := 0) dX0_clearCabinet_12 (by decide) ?_
  refine st_callS (M' := mJ7_fill_53178) [.ref (a0 + 2), .int 0] [] dX0_clearCabinet_13 ml_X0_46 mf_J7_fill_53178 ms_J7_fill_53178 rfl rfl rfl (K := fun r h' => 0 = r ∧ am_sR (am_sR h (a0 + 1) (am_fill (h.2.2 (a0 + 1)) 12 (0 : Int32))) (a0 + 2) (am_fill ((am_sR h (a0 + 1) (am_fill (h.2.2 (a0 + 1)) 12 (0 : Int32))).2.2 (a0 + 2)) 12 (0 : Int32)) = h') ⟨1, by omega, iJ7_fill (bu_2 hb0) (by decide) ⟨rfl, rfl⟩⟩ (fun r1 h1 w1 => ?_)
  obtain ⟨rfl, rfl⟩ := w1
  show Ru mX0_clearCabinet none d 16 [.ref a0] [] (am_sR (am_sR h (a0 + 1) (am_fill (h.2.2 (a0 + 1)) 12 (0 : Int32))) (a0 + 2) (am_fill ((am_sR h (a0 + 1) (am_fill (h.2.2 (a0 + 1)) 12 (0 : Int32))).2.2 (a0 + 2)) 12 (0 : Int32))) Z
  refine st_aload_n dX0_clearCabinet_16 rfl ?_
  refine st_getF (q := a0 + 3) fl_X0_18 fk_0_2 rfl dX0_clearCabinet_17 (bu_0 hb0) ?_
  refine st_iconst (v := 0) dX0_clearCabinet_20 (by decide) ?_
  refine st_callS (M' := mJ7_fill_53178) [.ref (a0 + 3), .int 0] [] dX0_clearCabinet_21 ml_X0_46 mf_J7_fill_53178 ms_J7_fill_53178 rfl rfl rfl (K := fun r h' => 0 = r ∧ am_sR (am_sR (am_sR h (a0 + 1) (am_fill (h.2.2 (a0 + 1)) 12 (0 : Int32))) (a0 + 2) (am_fill ((am_sR h (a0 + 1) (am_fill (h.2.2 (a0 + 1)) 12 (0 : Int32))).2.2 (a0 + 2)) 12 (0 : Int32))) (a0 + 3) (am_fill ((am_sR (am_sR h (a0 + 1) (am_fill (h.2.2 (a0 + 1)) 12 (0 : Int32))) (a0 + 2) (am_fill ((am_sR h (a0 + 1) (am_fill (h.2.2 (a0 + 1)) 12 (0 : Int32))).2.2 (a0 + 2)) 12 (0 : Int32))).2.2 (a0 + 3)) 12 (0 : Int32)) = h') ⟨1, by omega, iJ7_fill (bu_3 hb0) (by decide) ⟨rfl, rfl⟩⟩ (fun r1 h1 w1 => ?_)
  obtain ⟨rfl, rfl⟩ := w1
  show Ru mX0_clearCabinet none d 24 [.ref a0] [] (am_sR (am_sR (am_sR h (a0 + 1) (am_fill (h.2.2 (a0 + 1)) 12 (0 : Int32))) (a0 + 2) (am_fill ((am_sR h (a0 + 1) (am_fill (h.2.2 (a0 + 1)) 12 (0 : Int32))).2.2 (a0 + 2)) 12 (0 : Int32))) (a0 + 3) (am_fill ((am_sR (am_sR h (a0 + 1) (am_fill (h.2.2 (a0 + 1)) 12 (0 : Int32))) (a0 + 2) (am_fill ((am_sR h (a0 + 1) (am_fill (h.2.2 (a0 + 1)) 12 (0 : Int32))).2.2 (a0 + 2)) 12 (0 : Int32))).2.2 (a0 + 3)) 12 (0 : Int32))) Z
  refine st_aload_n dX0_clearCabinet_24 rfl ?_
  refine st_iconst (v := 0) dX0_clearCabinet_25 (by decide) ?_
  refine st_putI flp_X0_36 fk_0_8 dX0_clearCabinet_26 (bu_0 hb0) (fun h1 eh1 => ?_)
  replace w := w h1 eh1
  exact st_return rfl dX0_clearCabinet_29 w
