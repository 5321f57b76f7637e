-- the abstract state of a bureau: (papers, day, x), rooms, subjects, sizes, where (12: out), read, days
abbrev am_AB : Type := (Nat × Nat × Nat) × (Nat → Nat) × (Nat → Nat) × (Nat → Nat) × (Nat → Nat) × (Nat → Nat) × (Nat → Nat)
abbrev q_n (B : am_AB) : Nat := B.1.1
abbrev q_d (B : am_AB) : Nat := B.1.2.1
abbrev q_x (B : am_AB) : Nat := B.1.2.2
abbrev q_r (B : am_AB) : Nat → Nat := B.2.1
abbrev q_su (B : am_AB) : Nat → Nat := B.2.2.1
abbrev q_si (B : am_AB) : Nat → Nat := B.2.2.2.1
abbrev q_w (B : am_AB) : Nat → Nat := B.2.2.2.2.1
abbrev q_rd (B : am_AB) : Nat → Nat := B.2.2.2.2.2.1
abbrev q_ag (B : am_AB) : Nat → Nat := B.2.2.2.2.2.2
def am_un (f : Nat → Nat) (k v : Nat) : Nat → Nat := fun j => if j = k then v else f j
theorem am_un_s (f : Nat → Nat) (k v : Nat) : am_un f k v k = v := if_pos rfl
theorem am_un_n (f : Nat → Nat) {k j : Nat} (v : Nat) (h : j ≠ k) : am_un f k v j = f j := if_neg h
/-- what lies in a drawer, by sizes; by number -/
def q_F (B : am_AB) (i : Nat) : Nat := am_sm (fun p => if q_w B p = i then q_si B p else 0) (q_n B)
def q_C (B : am_AB) (i : Nat) : Nat := am_sm (fun p => if q_w B p = i then 1 else 0) (q_n B)
def q_w2 (k : Nat) : Int32 := if k < 12 then nI k else -2
def q_w1 (k : Nat) : Int32 := if k < 12 then nI k else -1
def q_ok (B : am_AB) : Prop := q_n B ≤ 24 ∧ q_d B ≤ 9999 ∧ q_x B < 65536 ∧ (∀ i, i < 12 → q_r B i ≤ 99 ∧ q_F B i ≤ q_r B i) ∧ ∀ p, p < q_n B → (1 ≤ q_si B p ∧ q_si B p ≤ 9) ∧ q_su B p < 16 ∧ (q_w B p = 12 ∨ (q_w B p < 12 ∧ 0 < q_r B (q_w B p))) ∧ q_rd B p ≤ 1 ∧ q_ag B p ≤ 9999 ∧ (q_w B p = 12 → q_ag B p = 0)
/-- the class's bureau at b -/
def q_IC (h : am_H) (b : Nat) (B : am_AB) : Prop := h.1 b 8 = nI (q_n B) ∧ h.1 b 9 = nI (q_d B) ∧ h.1 b 10 = nI (q_x B) ∧ (∀ i, i < 12 → h.2.2 (b + 1) i = nI (q_r B i) ∧ h.2.2 (b + 2) i = nI (q_F B i) ∧ h.2.2 (b + 3) i = nI (q_C B i)) ∧ ∀ p, p < q_n B → h.2.2 (b + 4) p = nI (q_su B p) ∧ h.2.2 (b + 5) p = nI (q_si B p) ∧ h.2.2 (b + 6) p = q_w2 (q_w B p) ∧ h.2.2 (b + 7) p = nI (q_rd B p) ∧ h.2.2 (b + 8) p = nI (q_ag B p)
/-- a row like the reference's 'now' -/
def q_IN (h : am_H) (a : Nat) (B : am_AB) : Prop := h.2.2 a 72 = nI (q_d B) ∧ h.2.2 a 73 = nI (q_x B) ∧ ∀ p, p < q_n B → h.2.2 a p = q_w1 (q_w B p) ∧ h.2.2 a (24 + p) = nI (q_rd B p) ∧ h.2.2 a (48 + p) = nI (q_ag B p)
/-- the rest of the reference's cabinet -/
def q_IM (h : am_H) (B : am_AB) : Prop := h.1 73 7 = nI (q_n B) ∧ (∃ S, S < 2 ^ 12 ∧ h.1 73 6 = nI S ∧ ∀ i, i < 12 → (S.testBit i = true ↔ 0 < q_r B i)) ∧ (∀ i, i < 12 → 0 < q_r B i → h.2.2 77 i = nI (q_r B i)) ∧ ∀ p, p < q_n B → h.2.2 78 p = nI (q_su B p) ∧ h.2.2 79 p = nI (q_si B p)
/-- nothing but the cells of the bureau at b has changed -/
def am_fr (b : Nat) (h h' : am_H) : Prop := (∀ a, (a < b ∨ b + 8 < a) → h'.1 a = h.1 a ∧ h'.2.2 a = h.2.2 a) ∧ h'.2.1 = h.2.1
theorem am_fr_rf (b : Nat) (h : am_H) : am_fr b h h := ⟨fun _ _ => ⟨rfl, rfl⟩, rfl⟩
theorem am_fr_tr {b : Nat} {h h1 h2 : am_H} (q : am_fr b h h1) (r : am_fr b h1 h2) : am_fr b h h2 := ⟨fun a ha => ⟨((r.1 a ha).1).trans (q.1 a ha).1, ((r.1 a ha).2).trans (q.1 a ha).2⟩, r.2.trans q.2⟩
theorem am_fr_sR {b k : Nat} {h h1 : am_H} {f : Nat → Int32} (q : am_fr b h h1) (h2 : k ≤ 8) : am_fr b h (am_sR h1 (b + k) f) := ⟨fun a ha => ⟨(q.1 a ha).1, by rw [am_gR, if_neg (by omega)]; exact (q.1 a ha).2⟩, q.2⟩
theorem am_fr_sI {b k : Nat} {h h1 : am_H} {x : Int32} (q : am_fr b h h1) : am_fr b h (am_sI h1 b k x) := ⟨fun a ha => ⟨by funext j; rw [am_gI, if_neg (fun e => by omega)]; rw [(q.1 a ha).1], by rw [am_gI2]; exact (q.1 a ha).2⟩, q.2⟩
theorem am_sm_cg {f g : Nat → Nat} (n : Nat) (h : ∀ k, k < n → f k = g k) : am_sm f n = am_sm g n := by
  induction n with
  | zero => rfl
  | succ n ih => rw [am_sm_s, am_sm_s, ih (fun k hk => h k (by omega)), h n (by omega)]
theorem am_sm_up (f : Nat → Nat) (v : Nat) {p : Nat} : ∀ {n : Nat}, p < n → am_sm (fun k => if k = p then v else f k) n + f p = am_sm f n + v
  | 0, h => absurd h (Nat.not_lt_zero p)
  | n + 1, h => by
    rw [am_sm_s, am_sm_s]
    rcases Nat.lt_or_ge p n with q | q
    · have := am_sm_up f v q
      rw [if_neg (show ¬ n = p by omega)]
      omega
    · have e : p = n := by omega
      subst e
      rw [if_pos rfl, am_sm_cg (f := fun k => if k = p then v else f k) (g := f) p (fun k hk => if_neg (by omega))]
      omega
theorem am_sm_ge (f : Nat → Nat) {p : Nat} : ∀ {n : Nat}, p < n → f p ≤ am_sm f n
  | 0, h => absurd h (Nat.not_lt_zero p)
  | n + 1, h => by
    rw [am_sm_s]
    rcases Nat.lt_or_ge p n with q | q
    · have := am_sm_ge f q; omega
    · have e : p = n := by omega
      subst e; omega
/-- a paper goes elsewhere -/
abbrev q_go (B : am_AB) (p k : Nat) : am_AB := (B.1, B.2.1, B.2.2.1, B.2.2.2.1, am_un (q_w B) p k, B.2.2.2.2.2.1, B.2.2.2.2.2.2)
theorem q_sum_go (B : am_AB) (v : Nat → Nat) {p k i : Nat} (hp : p < q_n B) : am_sm (fun q => if am_un (q_w B) p k q = i then v q else 0) (q_n B) + (if q_w B p = i then v p else 0) = am_sm (fun q => if q_w B q = i then v q else 0) (q_n B) + (if k = i then v p else 0) := by
  rw [← am_sm_up (fun q => if q_w B q = i then v q else 0) (if k = i then v p else 0) hp]
  congr 1
  refine am_sm_cg _ (fun j _ => ?_)
  unfold am_un
  by_cases c : j = p
  · subst c; simp
  · simp [c]
theorem q_F_go (B : am_AB) {p k : Nat} (i : Nat) (hp : p < q_n B) : q_F (q_go B p k) i + (if q_w B p = i then q_si B p else 0) = q_F B i + (if k = i then q_si B p else 0) := q_sum_go B (q_si B) hp
theorem q_C_go (B : am_AB) {p k : Nat} (i : Nat) (hp : p < q_n B) : q_C (q_go B p k) i + (if q_w B p = i then 1 else 0) = q_C B i + (if k = i then 1 else 0) := q_sum_go B (fun _ => 1) hp
theorem q_F_b {B : am_AB} (hB : q_ok B) (i : Nat) : q_F B i ≤ 216 := by
  have := am_sm_le (f := fun p => if q_w B p = i then q_si B p else 0) (g := fun _ => 9) (q_n B) (fun k hk => by
    have := (hB.2.2.2.2 k hk).1.2
    by_cases c : q_w B k = i <;> simp [c]; omega)
  rw [am_sm_c] at this
  have := hB.1
  unfold q_F; omega
theorem q_C_b {B : am_AB} (hB : q_ok B) (i : Nat) : q_C B i ≤ 24 := by
  have := am_sm_le (f := fun p => if q_w B p = i then 1 else 0) (g := fun _ => 1) (q_n B) (fun k hk => by
    by_cases c : q_w B k = i <;> simp [c])
  rw [am_sm_c] at this
  have := hB.1
  unfold q_C; omega
theorem q_w2_in {k : Nat} (h : k < 12) : q_w2 k = nI k := if_pos h
theorem q_w2_out : q_w2 12 = -2 := by decide
/-- tests of the bureau, by its abstract state -/
theorem q_told {h : am_H} {b : Nat} {B : am_AB} (hI : q_IC h b B) (hB : q_ok B) {i : Nat} (hi : i < 12) : am_told h b (nI i) ↔ 0 < q_r B i := by
  have hr := (hB.2.2.2.1 i hi).1
  unfold am_told
  rw [nI_clamp (by omega), (hI.2.2.2.1 i hi).1]
  constructor
  · intro q; exact (nI_ltI (a := 0) (by omega) (by omega)).mp q.2.2
  · intro q; exact ⟨nI_pos' (by omega), nI_lt (b := 12) hi (by omega), nI_lt (a := 0) q (by omega)⟩
theorem q_told_no {h : am_H} {b : Nat} {x : Int32} (hx : ¬ (0 ≤ x ∧ x < 12)) : ¬ am_told h b x := fun q => hx ⟨q.1, q.2.1⟩
theorem q_pap {h : am_H} {b : Nat} {B : am_AB} (hI : q_IC h b B) (hB : q_ok B) {x : Int32} : am_pap h b x ↔ ∃ p, p < q_n B ∧ x = nI p := by
  have hn := hB.1
  unfold am_pap
  rw [hI.1]
  constructor
  · intro q
    obtain ⟨p, hp, rfl⟩ := am_nat (by omega) q.1 q.2.1
    exact ⟨p, hp, rfl⟩
  · rintro ⟨p, hp, rfl⟩
    exact ⟨nI_pos' (by omega), nI_lt hp (by omega), nI_lt (b := 24) (by omega) (by omega)⟩
theorem q_wt {h : am_H} {b : Nat} {B : am_AB} (hI : q_IC h b B) (hB : q_ok B) {p : Nat} (hp : p < q_n B) : am_told h b (q_w2 (q_w B p)) ↔ q_w B p < 12 := by
  rcases (hB.2.2.2.2 p hp).2.2.1 with e | ⟨e, e2⟩
  · rw [e, q_w2_out]
    exact ⟨fun q => absurd q.1 (by decide), fun q => absurd q (by decide)⟩
  · rw [q_w2_in e, q_told hI hB e]
    exact ⟨fun _ => e, fun _ => e2⟩
