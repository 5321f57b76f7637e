-- the scan
set_option maxRecDepth 20000 in
set_option maxHeartbeats 2000000 in
theorem sX7_peek_0 {d : Nat} {h : am_H} {Z : Int32 → am_H → Prop}  (hd : 2 ≤ d) (w : (¬ (h.1 3 3) = 0 → Z (-1) h) ∧ ((h.1 3 3) = 0 → ((h.1 3 1) ≤ (h.1 3 2) → Z (-1) h) ∧ (¬ ((h.1 3 1) ≤ (h.1 3 2)) → Z (am_at h (h.1 3 2)) h))) : Ru mX7_peek none d 0 [.ref 3] [] h Z := by
  refine st_aload_n dX7_peek_0 rfl ?_
  refine st_getI fl_X7_18 fk_7_3 dX7_peek_1 sh_3 ?_
  refine st_if_ne (tgt := 32) dX7_peek_4 (by decide) (fun c => ?_) (fun c => ?_)
  · replace w := w.1 c
    refine st_iconst (v := (-1)) dX7_peek_32 (by decide) ?_
    exact st_ireturn rfl rfl dX7_peek_33 w
  · replace w := w.2 c
    refine st_aload_n dX7_peek_7 rfl ?_
    refine st_getI fl_X7_15 fk_7_2 dX7_peek_8 sh_3 ?_
    refine st_aload_n dX7_peek_11 rfl ?_
    refine st_getI fl_X7_9 fk_7_1 dX7_peek_12 sh_3 ?_
    refine st_icmp_ge (tgt := 32) dX7_peek_15 (by decide) (fun c => ?_) (fun c => ?_)
    · replace w := w.1 c
      refine st_iconst (v := (-1)) dX7_peek_32 (by decide) ?_
      exact st_ireturn rfl rfl dX7_peek_33 w
    · replace w := w.2 c
      refine st_aload_n dX7_peek_18 rfl ?_
      refine st_getF (q := 1) fl_X7_21 fk_7_0 rfl dX7_peek_19 sh_3 ?_
      refine st_aload_n dX7_peek_22 rfl ?_
      refine st_getI fl_X7_15 fk_7_2 dX7_peek_23 sh_3 ?_
      refine st_callV (M' := mX9_at) [.int (h.1 3 2)] [] dX7_peek_26 ml_X7_25 mf_X9_at mv_X9_at sh_1 rfl rfl rfl (K := fun r h' => (am_at h (h.1 3 2)) = r ∧ h = h') ⟨1, by omega, iX9_at ⟨rfl, rfl⟩⟩ (fun r1 h1 w1 => ?_)
      obtain ⟨rfl, rfl⟩ := w1
      show Ru mX7_peek none d 29 [.ref 3] [.int (am_at h (h.1 3 2))] h Z
      refine st_goto (tgt := 33) dX7_peek_29 (by decide) ?_
      exact st_ireturn rfl rfl dX7_peek_33 w
set_option maxRecDepth 20000 in
set_option maxHeartbeats 2000000 in
theorem sX7_next_0 {d : Nat} {h : am_H} {Z : Int32 → am_H → Prop}  (w : (∀ h1 : am_H, h1 = am_sI h 3 2 ((h.1 3 2) + 1) → (Z 0 h1))) : Ru mX7_next none d 0 [.ref 3] [] h Z := by
  refine st_aload_n dX7_next_0 rfl ?_
  refine st_dup dX7_next_1 rfl ?_
  refine st_getI fl_X7_15 fk_7_2 dX7_next_2 sh_3 ?_
  refine st_iconst (v := 1) dX7_next_5 (by decide) ?_
  refine st_iadd dX7_next_6 ?_
  refine st_putI flp_X7_15 fk_7_2 dX7_next_7 sh_3 (fun h1 eh1 => ?_)
  replace w := w h1 eh1
  exact st_return rfl dX7_next_10 w
set_option maxRecDepth 20000 in
set_option maxHeartbeats 2000000 in
theorem sX7_failed_0 {d : Nat} {h : am_H} {Z : Int32 → am_H → Prop}  (w : ((h.1 3 3) = 0 → Z 0 h) ∧ (¬ ((h.1 3 3) = 0) → Z 1 h)) : Ru mX7_failed none d 0 [.ref 3] [] h Z := by
  refine st_aload_n dX7_failed_0 rfl ?_
  refine st_getI fl_X7_18 fk_7_3 dX7_failed_1 sh_3 ?_
  refine st_if_eq (tgt := 11) dX7_failed_4 (by decide) (fun c => ?_) (fun c => ?_)
  · replace w := w.1 c
    refine st_iconst (v := 0) dX7_failed_11 (by decide) ?_
    exact st_ireturn rfl rfl dX7_failed_12 w
  · replace w := w.2 c
    refine st_iconst (v := 1) dX7_failed_7 (by decide) ?_
    refine st_goto (tgt := 12) dX7_failed_8 (by decide) ?_
    exact st_ireturn rfl rfl dX7_failed_12 w
set_option maxRecDepth 20000 in
set_option maxHeartbeats 2000000 in
theorem sX7_fail_0 {d : Nat} {h : am_H} {Z : Int32 → am_H → Prop} {x1 : Int32} {x2 : Int32} (w : (¬ (h.1 3 3) = 0 → Z 0 h) ∧ ((h.1 3 3) = 0 → (∀ h1 : am_H, h1 = am_sI h 3 3 (((-1000) * x1) - x2) → (Z 0 h1)))) : Ru mX7_fail none d 0 [.ref 3, .int x1, .int x2] [] h Z := by
  refine st_aload_n dX7_fail_0 rfl ?_
  refine st_getI fl_X7_18 fk_7_3 dX7_fail_1 sh_3 ?_
  refine st_if_ne (tgt := 18) dX7_fail_4 (by decide) (fun c => ?_) (fun c => ?_)
  · replace w := w.1 c
    exact st_return rfl dX7_fail_18 w
  · replace w := w.2 c
    refine st_aload_n dX7_fail_7 rfl ?_
    refine st_sipush (v := (-1000)) dX7_fail_8 (by decide) ?_
    refine st_iload_n dX7_fail_11 rfl ?_
    refine st_imul dX7_fail_12 ?_
    refine st_iload_n dX7_fail_13 rfl ?_
    refine st_isub dX7_fail_14 ?_
    refine st_putI flp_X7_18 fk_7_3 dX7_fail_15 sh_3 (fun h1 eh1 => ?_)
    replace w := w h1 eh1
    exact st_return rfl dX7_fail_18 w
set_option maxRecDepth 20000 in
set_option maxHeartbeats 2000000 in
theorem sX7_isDigit_0 {d : Nat} {h : am_H} {Z : Int32 → am_H → Prop} {x0 : Int32} (w : (x0 < 48 → Z 0 h) ∧ (¬ (x0 < 48) → (57 < x0 → Z 0 h) ∧ (¬ (57 < x0) → Z 1 h))) : Ru mX7_isDigit none d 0 [.int x0] [] h Z := by
  refine st_iload_n dX7_isDigit_0 rfl ?_
  refine st_bipush (v := 48) dX7_isDigit_1 (by decide) ?_
  refine st_icmp_lt (tgt := 16) dX7_isDigit_3 (by decide) (fun c => ?_) (fun c => ?_)
  · replace w := w.1 c
    refine st_iconst (v := 0) dX7_isDigit_16 (by decide) ?_
    exact st_ireturn rfl rfl dX7_isDigit_17 w
  · replace w := w.2 c
    refine st_iload_n dX7_isDigit_6 rfl ?_
    refine st_bipush (v := 57) dX7_isDigit_7 (by decide) ?_
    refine st_icmp_gt (tgt := 16) dX7_isDigit_9 (by decide) (fun c => ?_) (fun c => ?_)
    · replace w := w.1 c
      refine st_iconst (v := 0) dX7_isDigit_16 (by decide) ?_
      exact st_ireturn rfl rfl dX7_isDigit_17 w
    · replace w := w.2 c
      refine st_iconst (v := 1) dX7_isDigit_12 (by decide) ?_
      refine st_goto (tgt := 17) dX7_isDigit_13 (by decide) ?_
      exact st_ireturn rfl rfl dX7_isDigit_17 w
set_option maxRecDepth 20000 in
set_option maxHeartbeats 2000000 in
theorem sX7_start_0 {d : Nat} {h : am_H} {Z : Int32 → am_H → Prop} {x1 : Int32} (w : (∀ h1 : am_H, h1 = am_sI h 3 1 x1 → (∀ h2 : am_H, h2 = am_sI h1 3 2 0 → (∀ h3 : am_H, h3 = am_sI h2 3 3 0 → (Z 0 h3))))) : Ru mX7_start none d 0 [.ref 3, .int x1] [] h Z := by
  refine st_aload_n dX7_start_0 rfl ?_
  refine st_iload_n dX7_start_1 rfl ?_
  refine st_putI flp_X7_9 fk_7_1 dX7_start_2 sh_3 (fun h1 eh1 => ?_)
  replace w := w h1 eh1
  refine st_aload_n dX7_start_5 rfl ?_
  refine st_iconst (v := 0) dX7_start_6 (by decide) ?_
  refine st_putI flp_X7_15 fk_7_2 dX7_start_7 sh_3 (fun h2 eh2 => ?_)
  replace w := w h2 eh2
  refine st_aload_n dX7_start_10 rfl ?_
  refine st_iconst (v := 0) dX7_start_11 (by decide) ?_
  refine st_putI flp_X7_18 fk_7_3 dX7_start_12 sh_3 (fun h3 eh3 => ?_)
  replace w := w h3 eh3
  exact st_return rfl dX7_start_15 w
def am_pk (h : am_H) : Int32 := if h.1 3 3 = 0 ∧ ¬ h.1 3 1 ≤ h.1 3 2 then am_at h (h.1 3 2) else -1
def am_fal (h : am_H) (x y : Int32) : am_H := if h.1 3 3 = 0 then am_sI h 3 3 ((-1000) * x - y) else h
theorem iX7_peek {d : Nat} {h : am_H} {Z : Int32 → am_H → Prop} (hd : 2 ≤ d) (z : Z (am_pk h) h) : Sp mX7_peek d [.ref 3] h Z := by
  refine Sp_of mf_X7_peek rfl (Nat.le_of_ble_eq_true rfl) rfl ?_
  unfold am_pk at z
  refine sX7_peek_0 hd ⟨fun c => ?_, fun c => ⟨fun c2 => ?_, fun c2 => ?_⟩⟩
  · rwa [if_neg (fun q => c q.1)] at z
  · rwa [if_neg (fun q => q.2 c2)] at z
  · rwa [if_pos ⟨c, c2⟩] at z
theorem iX7_next {d : Nat} {h : am_H} {Z : Int32 → am_H → Prop} (z : Z 0 (am_sI h 3 2 (h.1 3 2 + 1))) : Sp mX7_next d [.ref 3] h Z := by
  refine Sp_of mf_X7_next rfl (Nat.le_of_ble_eq_true rfl) rfl ?_
  exact sX7_next_0 (fun h1 e => e ▸ z)
theorem iX7_failed {d : Nat} {h : am_H} {Z : Int32 → am_H → Prop} (z : Z (am_b (¬ h.1 3 3 = 0)) h) : Sp mX7_failed d [.ref 3] h Z := by
  refine Sp_of mf_X7_failed rfl (Nat.le_of_ble_eq_true rfl) rfl ?_
  refine sX7_failed_0 ⟨fun c => ?_, fun c => ?_⟩
  · rwa [am_b0 (fun q => q c)] at z
  · rwa [am_b1 c] at z
theorem iX7_fail {d : Nat} {h : am_H} {Z : Int32 → am_H → Prop} {x y : Int32} (z : Z 0 (am_fal h x y)) : Sp mX7_fail d [.ref 3, .int x, .int y] h Z := by
  refine Sp_of mf_X7_fail rfl (Nat.le_of_ble_eq_true rfl) rfl ?_
  unfold am_fal at z
  refine sX7_fail_0 ⟨fun c => ?_, fun c h1 e => ?_⟩
  · rwa [if_neg c] at z
  · rw [if_pos c] at z; exact e ▸ z
theorem iX7_isDigit {d : Nat} {h : am_H} {Z : Int32 → am_H → Prop} {x : Int32} (z : Z (am_b (48 ≤ x ∧ x ≤ 57)) h) : Sp mX7_isDigit d [.int x] h Z := by
  refine Sp_of mf_X7_isDigit rfl (Nat.le_of_ble_eq_true rfl) rfl ?_
  refine sX7_isDigit_0 ⟨fun c => ?_, fun c => ⟨fun c2 => ?_, fun c2 => ?_⟩⟩
  · rwa [am_b0 (fun q => Int32.not_le.mpr c q.1)] at z
  · rwa [am_b0 (fun q => Int32.not_le.mpr c2 q.2)] at z
  · rwa [am_b1 ⟨Int32.not_lt.mp c, Int32.not_lt.mp c2⟩] at z
theorem iX7_start {d : Nat} {h : am_H} {Z : Int32 → am_H → Prop} {x : Int32} (z : Z 0 (am_sI (am_sI (am_sI h 3 1 x) 3 2 0) 3 3 0)) : Sp mX7_start d [.ref 3, .int x] h Z := by
  refine Sp_of mf_X7_start rfl (Nat.le_of_ble_eq_true rfl) rfl ?_
  refine sX7_start_0 (fun h1 e1 h2 e2 h3 e3 => ?_)
  subst e1; subst e2; subst e3
  exact z
set_option maxRecDepth 20000 in
set_option maxHeartbeats 2000000 in
theorem sX7_failHere_0 {d : Nat} {h : am_H} {Z : Int32 → am_H → Prop} {x1 : Int32} (hd : 2 ≤ d) (w : Z 0 (am_fal h x1 (h.1 3 2))) : Ru mX7_failHere none d 0 [.ref 3, .int x1] [] h Z := by
  refine st_aload_n dX7_failHere_0 rfl ?_
  refine st_iload_n dX7_failHere_1 rfl ?_
  refine st_aload_n dX7_failHere_2 rfl ?_
  refine st_getI fl_X7_15 fk_7_2 dX7_failHere_3 sh_3 ?_
  refine st_callV (M' := mX7_fail) [.int x1, .int (h.1 3 2)] [] dX7_failHere_6 ml_X7_29 mf_X7_fail mv_X7_fail sh_3 rfl rfl rfl (K := fun r h' => 0 = r ∧ am_fal h x1 (h.1 3 2) = h') ⟨1, by omega, iX7_fail ⟨rfl, rfl⟩⟩ (fun r1 h1 w1 => ?_)
  obtain ⟨rfl, rfl⟩ := w1
  show Ru mX7_failHere none d 9 [.ref 3, .int x1] [] (am_fal h x1 (h.1 3 2)) Z
  exact st_return rfl dX7_failHere_9 w
theorem iX7_failHere {d : Nat} {h : am_H} {Z : Int32 → am_H → Prop} {x : Int32} (hd : 2 ≤ d) (z : Z 0 (am_fal h x (h.1 3 2))) : Sp mX7_failHere d [.ref 3, .int x] h Z := by
  refine Sp_of mf_X7_failHere rfl (Nat.le_of_ble_eq_true rfl) rfl ?_
  exact sX7_failHere_0 (by omega) z
set_option maxRecDepth 20000 in
set_option maxHeartbeats 2000000 in
theorem sX7_expect_0 {d : Nat} {h : am_H} {Z : Int32 → am_H → Prop} {x1 : Int32} (hd : 3 ≤ d) (w : (¬ (am_pk h) = x1 → Z 0 (am_fal h (1 : Int32) (h.1 3 2))) ∧ ((am_pk h) = x1 → Z 0 (am_sI h 3 2 (h.1 3 2 + 1)))) : Ru mX7_expect none d 0 [.ref 3, .int x1] [] h Z := by
  refine st_aload_n dX7_expect_0 rfl ?_
  refine st_callV (M' := mX7_peek) [] [] dX7_expect_1 ml_X7_33 mf_X7_peek mv_X7_peek sh_3 rfl rfl rfl (K := fun r h' => (am_pk h) = r ∧ h = h') ⟨2, by omega, iX7_peek (by omega) ⟨rfl, rfl⟩⟩ (fun r1 h1 w1 => ?_)
  obtain ⟨rfl, rfl⟩ := w1
  show Ru mX7_expect none d 4 [.ref 3, .int x1] [.int (am_pk h)] h Z
  refine st_iload_n dX7_expect_4 rfl ?_
  refine st_icmp_ne (tgt := 15) dX7_expect_5 (by decide) (fun c => ?_) (fun c => ?_)
  · replace w := w.1 c
    refine st_aload_n dX7_expect_15 rfl ?_
    refine st_iconst (v := 1) dX7_expect_16 (by decide) ?_
    refine st_callV (M' := mX7_failHere) [.int 1] [] dX7_expect_17 ml_X7_40 mf_X7_failHere mv_X7_failHere sh_3 rfl rfl rfl (K := fun r h' => 0 = r ∧ am_fal h (1 : Int32) (h.1 3 2) = h') ⟨2, by omega, iX7_failHere (by omega) ⟨rfl, rfl⟩⟩ (fun r1 h1 w1 => ?_)
    obtain ⟨rfl, rfl⟩ := w1
    show Ru mX7_expect none d 20 [.ref 3, .int x1] [] (am_fal h (1 : Int32) (h.1 3 2)) Z
    exact st_return rfl dX7_expect_20 w
  · replace w := w.2 c
    refine st_aload_n dX7_expect_8 rfl ?_
    refine st_callV (M' := mX7_next) [] [] dX7_expect_9 ml_X7_37 mf_X7_next mv_X7_next sh_3 rfl rfl rfl (K := fun r h' => 0 = r ∧ am_sI h 3 2 (h.1 3 2 + 1) = h') ⟨1, by omega, iX7_next ⟨rfl, rfl⟩⟩ (fun r1 h1 w1 => ?_)
    obtain ⟨rfl, rfl⟩ := w1
    show Ru mX7_expect none d 12 [.ref 3, .int x1] [] (am_sI h 3 2 (h.1 3 2 + 1)) Z
    refine st_goto (tgt := 20) dX7_expect_12 (by decide) ?_
    exact st_return rfl dX7_expect_20 w
def am_exp (h : am_H) (x : Int32) : am_H := if am_pk h = x then am_sI h 3 2 (h.1 3 2 + 1) else am_fal h 1 (h.1 3 2)
theorem iX7_expect {d : Nat} {h : am_H} {Z : Int32 → am_H → Prop} {x : Int32} (hd : 3 ≤ d) (z : Z 0 (am_exp h x)) : Sp mX7_expect d [.ref 3, .int x] h Z := by
  refine Sp_of mf_X7_expect rfl (Nat.le_of_ble_eq_true rfl) rfl ?_
  unfold am_exp at z
  refine sX7_expect_0 (by omega) ⟨fun c => ?_, fun c => ?_⟩
  · rwa [if_neg c] at z
  · rwa [if_pos c] at z
set_option maxRecDepth 20000 in
set_option maxHeartbeats 2000000 in
theorem sX1_isDrawerLetter_0 {d : Nat} {h : am_H} {Z : Int32 → am_H → Prop} {x0 : Int32} (w : (x0 < 97 → Z 0 h) ∧ (¬ (x0 < 97) → (108 < x0 → Z 0 h) ∧ (¬ (108 < x0) → Z 1 h))) : Ru mX1_isDrawerLetter none d 0 [.int x0] [] h Z := by
  refine st_iload_n dX1_isDrawerLetter_0 rfl ?_
  refine st_bipush (v := 97) dX1_isDrawerLetter_1 (by decide) ?_
  refine st_icmp_lt (tgt := 16) dX1_isDrawerLetter_3 (by decide) (fun c => ?_) (fun c => ?_)
  · replace w := w.1 c
    refine st_iconst (v := 0) dX1_isDrawerLetter_16 (by decide) ?_
    exact st_ireturn rfl rfl dX1_isDrawerLetter_17 w
  · replace w := w.2 c
    refine st_iload_n dX1_isDrawerLetter_6 rfl ?_
    refine st_bipush (v := 108) dX1_isDrawerLetter_7 (by decide) ?_
    refine st_icmp_gt (tgt := 16) dX1_isDrawerLetter_9 (by decide) (fun c => ?_) (fun c => ?_)
    · replace w := w.1 c
      refine st_iconst (v := 0) dX1_isDrawerLetter_16 (by decide) ?_
      exact st_ireturn rfl rfl dX1_isDrawerLetter_17 w
    · replace w := w.2 c
      refine st_iconst (v := 1) dX1_isDrawerLetter_12 (by decide) ?_
      refine st_goto (tgt := 17) dX1_isDrawerLetter_13 (by decide) ?_
      exact st_ireturn rfl rfl dX1_isDrawerLetter_17 w
theorem iX1_isDL {d : Nat} {h : am_H} {Z : Int32 → am_H → Prop} {x : Int32} (z : Z (am_b (97 ≤ x ∧ x ≤ 108)) h) : Sp mX1_isDrawerLetter d [.int x] h Z := by
  refine Sp_of mf_X1_isDrawerLetter rfl (Nat.le_of_ble_eq_true rfl) rfl ?_
  refine sX1_isDrawerLetter_0 ⟨fun c => ?_, fun c => ⟨fun c2 => ?_, fun c2 => ?_⟩⟩
  · rwa [am_b0 (fun q => Int32.not_le.mpr c q.1)] at z
  · rwa [am_b0 (fun q => Int32.not_le.mpr c2 q.2)] at z
  · rwa [am_b1 ⟨Int32.not_lt.mp c, Int32.not_lt.mp c2⟩] at z
/-- the scan at a place of n bytes t, no fault -/
def am_ss (t : Nat → Nat) (n k : Nat) (h : am_H) : Prop := h.1 3 1 = nI n ∧ h.1 3 2 = nI k ∧ h.1 3 3 = 0 ∧ k ≤ n ∧ n ≤ 260 ∧ (∀ i, t i < 256) ∧ ∀ i, i < n → am_at h (nI i) = nI (t i)
def am_rd (t : Nat → Nat) (n k : Nat) : Int32 := if k < n then nI (t k) else -1
section
variable {t : Nat → Nat} {n k : Nat} {h : am_H}
theorem am_ss_pk (q : am_ss t n k h) : am_pk h = am_rd t n k := by
  obtain ⟨a1, a2, a3, a4, a5, a6, a7⟩ := q
  unfold am_pk am_rd
  rw [a1, a2, a3]
  rcases Nat.lt_or_ge k n with c | c
  · rw [if_pos ⟨rfl, nI_ge c (by omega)⟩, if_pos c]; exact a7 k c
  · rw [if_neg (fun e => e.2 (nI_le c (by omega))), if_neg (by omega)]
theorem am_ss_nx (q : am_ss t n k h) (hk : k < n) : am_ss t n (k + 1) (am_sI h 3 2 (h.1 3 2 + 1)) := by
  obtain ⟨a1, a2, a3, a4, a5, a6, a7⟩ := q
  refine ⟨?_, ?_, ?_, by omega, a5, a6, fun i hi => ?_⟩
  · rw [am_gI, if_neg (by decide)]; exact a1
  · rw [am_gI, if_pos ⟨rfl, rfl⟩, a2, nI_1]
  · rw [am_gI, if_neg (by decide)]; exact a3
  · rw [am_at_sI _ _ _ (by decide)]; exact a7 i hi
theorem am_ss_fal (q : am_ss t n k h) (x y : Int32) : am_fal h x y = am_sI h 3 3 ((-1000) * x - y) := if_pos q.2.2.1
theorem am_fal_no {x y : Int32} (q : ¬ h.1 3 3 = 0) : am_fal h x y = h := if_neg q
theorem am_pk_no (q : ¬ h.1 3 3 = 0) : am_pk h = -1 := if_neg (fun e => q e.1)
theorem am_exp_no {x : Int32} (hx : ¬ x = -1) (q : ¬ h.1 3 3 = 0) : am_exp h x = h := by
  unfold am_exp
  rw [am_pk_no q, if_neg (fun e => hx e.symm)]; exact am_fal_no q
theorem am_rd_lt {x : Int32} (hx : am_rd t n k = x) (h1 : ¬ x = -1) : k < n := by
  unfold am_rd at hx
  rcases Nat.lt_or_ge k n with c | c
  · exact c
  · rw [if_neg (by omega)] at hx; exact absurd hx.symm h1
theorem am_rd_in {lo hi : Nat} (hl : lo < 2 ^ 31) (hh : hi < 2 ^ 31) (tb : ∀ i, t i < 256) : (nI lo ≤ am_rd t n k ∧ am_rd t n k ≤ nI hi) ↔ (k < n ∧ lo ≤ t k ∧ t k ≤ hi) := by
  have b := tb k
  unfold am_rd
  rcases Nat.lt_or_ge k n with c | c
  · rw [if_pos c, nI_leI hl (by omega), nI_leI (by omega) hh]; exact ⟨fun q => ⟨c, q⟩, fun q => q.2⟩
  · rw [if_neg (by omega)]
    refine ⟨fun q => ?_, fun q => by omega⟩
    exact absurd (Int32.lt_of_le_of_lt q.1 (show (-1 : Int32) < 0 by decide)) (nI_pos hl)
theorem am_rd_eq {x : Nat} (hx : x < 256) (tb : ∀ i, t i < 256) : am_rd t n k = nI x ↔ (k < n ∧ t k = x) := by
  have b := tb k
  unfold am_rd
  rcases Nat.lt_or_ge k n with c | c
  · rw [if_pos c, nI_eq (by omega) (by omega)]; exact ⟨fun q => ⟨c, q⟩, fun q => q.2⟩
  · rw [if_neg (by omega)]
    refine ⟨fun q => ?_, fun q => by omega⟩
    exact absurd (show (-1 : Int32) < 0 by decide) (by rw [q]; exact nI_pos (by omega))
/-- a fault's number -/
def am_ft (x k : Nat) : Int32 := (-1000) * nI x - nI k
theorem am_ft_n {x k : Nat} (h1 : 1 ≤ x) (hx : x ≤ 8) (hk : k ≤ 260) : am_ft x k < 0 ∧ ¬ am_ft x k = 0 := by
  have e : am_ft x k = -(nI (1000 * x + k)) := by
    unfold am_ft
    rw [← nI_add, show nI (1000 * x) = nI 1000 * nI x from (pk_mul 1000 x).symm, show nI 1000 = (1000 : Int32) from rfl]
    grind
  have p : (nI (1000 * x + k)).toInt = ((1000 * x + k : Nat) : Int) := nI_toInt (by omega)
  have q : (am_ft x k).toInt = -((1000 * x + k : Nat) : Int) := by
    rw [e, Int32.toInt_neg, p]
    apply Int.bmod_eq_of_le <;> omega
  constructor
  · rw [Int32.lt_iff_toInt_lt, q]
    have : (0 : Int32).toInt = 0 := rfl
    omega
  · intro z
    rw [z] at q
    have : (0 : Int32).toInt = 0 := rfl
    omega
end
