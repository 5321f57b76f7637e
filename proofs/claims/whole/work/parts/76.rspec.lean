-- the law's text: what is left to read of a sum, in the reference's order
section
variable {t : Nat → Nat} {n : Nat}
theorem lp_b_as (o : lp_O) (f g : Nat → lp_O) : lp_b (lp_b o f) g = lp_b o (fun k => lp_b (f k) g) := by
  by_cases h : o.1 = 0
  · rw [lp_b_0 h, lp_b_0 (o := o) h]
    by_cases h2 : (f o.2.1).1 = 0
    · rw [lp_b_0 (o := f o.2.1) h2, lp_b_0 (o := ((f o.2.1).1, (f o.2.1).2.1, o.2.2 ++ (f o.2.1).2.2)) h2]
      show (_, _, (o.2.2 ++ (f o.2.1).2.2) ++ _) = (_, _, o.2.2 ++ ((f o.2.1).2.2 ++ _))
      rw [List.append_assoc]
    · rw [lp_b_f (o := f o.2.1) h2, lp_b_f (o := ((f o.2.1).1, (f o.2.1).2.1, o.2.2 ++ (f o.2.1).2.2)) h2]
  · rw [lp_b_f h, lp_b_f h, lp_b_f h]
theorem lp_b_cg {o : lp_O} {f g : Nat → lp_O} (h : o.1 = 0 → f o.2.1 = g o.2.1) : lp_b o f = lp_b o g := by
  by_cases c : o.1 = 0
  · rw [lp_b_0 c, lp_b_0 c, h c]
  · rw [lp_b_f c, lp_b_f c]
theorem lp_b_n (k : Nat) (f : Nat → lp_O) : lp_b (0, k, []) f = f k := lp_b_0 rfl
theorem lp_b_r (o : lp_O) : lp_b o (fun k => (0, k, [])) = o := by
  by_cases c : o.1 = 0
  · rw [lp_b_0 c]
    show (0, o.2.1, o.2.2 ++ []) = o
    rw [List.append_nil, ← c]
  · rw [lp_b_f c]
def lp_e (x : Nat) : List (Nat × Nat) := if x = 0 then [] else [(x, 0)]
theorem lp_e_0 : lp_e 0 = [] := rfl
theorem lp_e_1 {x : Nat} (h : x ≠ 0) : lp_e x = [(x, 0)] := if_neg h
/-- behind a factor, with signs that wait -/
def lp_rs (t : Nat → Nat) (n : Nat) (fac : Nat → lp_O) (a b k : Nat) : lp_O := lp_b (0, k, lp_e b) (fun k => lp_b (lp_lf fac lp_sT t n (n + 1 - k) k) (fun k => lp_b (0, k, lp_e a) (fun k => lp_lf (lp_tm t n fac) lp_sS t n (n + 1 - k) k)))
theorem lp_sm_rs (fac : Nat → lp_O) (k : Nat) : lp_sm t n fac k = lp_b (fac k) (lp_rs t n fac 0 0) := by
  unfold lp_sm lp_tm
  rw [lp_b_as]
  refine lp_b_cg (fun _ => ?_)
  unfold lp_rs
  rw [lp_e_0, lp_b_n]
  exact lp_b_cg (fun _ => (lp_b_n _ _).symm)
theorem lp_rs_N {fac : Nat → lp_O} {a b k : Nat} (h1 : ¬ (k < n ∧ ¬ lp_sT (t k) = 0)) (h2 : ¬ (k < n ∧ ¬ lp_sS (t k) = 0)) (hk : k ≤ n) : lp_rs t n fac a b k = (0, k, lp_e b ++ lp_e a) := by
  unfold lp_rs
  obtain ⟨f, hf⟩ : ∃ f, n + 1 - k = f + 1 := ⟨n - k, by omega⟩
  rw [lp_b_0 rfl]
  show ((lp_b (lp_lf fac lp_sT t n (n + 1 - k) k) _).1, (lp_b (lp_lf fac lp_sT t n (n + 1 - k) k) _).2.1, lp_e b ++ (lp_b (lp_lf fac lp_sT t n (n + 1 - k) k) _).2.2) = _
  rw [hf, lp_lf_s, if_neg h1, lp_b_n, lp_b_0 rfl]
  show ((lp_lf (lp_tm t n fac) lp_sS t n (n + 1 - k) k).1, (lp_lf (lp_tm t n fac) lp_sS t n (n + 1 - k) k).2.1, lp_e b ++ (lp_e a ++ (lp_lf (lp_tm t n fac) lp_sS t n (n + 1 - k) k).2.2)) = _
  rw [hf, lp_lf_s, if_neg h2, List.append_nil]
theorem lp_sT_z (c : Nat) (h : ¬ lp_sT c = 0) : lp_z (lp_sT c) = 1 := by have := lp_sT_b c h; exact lp_z_1 (by omega)
theorem lp_sS_z (c : Nat) (h : ¬ lp_sS c = 0) : lp_z (lp_sS c) = 1 := by have := lp_sS_b c h; exact lp_z_1 (by omega)
theorem lp_rs_T {fac : Nat → lp_O} {a b k x y : Nat} (hi : lp_G n fac x y) (h1 : k < n ∧ ¬ lp_sT (t k) = 0) : lp_rs t n fac a b k = lp_b (0, k, lp_e b) (fun _ => lp_b (fac (k + 1)) (lp_rs t n fac a (lp_sT (t k)))) := by
  have g := hi (k + 1) h1.1
  obtain ⟨f, hf⟩ : ∃ f, n + 1 - k = f + 1 := ⟨n - k, by omega⟩
  unfold lp_rs
  refine lp_b_cg (fun _ => ?_)
  show lp_b (lp_lf fac lp_sT t n (n + 1 - k) k) _ = _
  rw [hf, lp_lf_s, if_pos h1]
  unfold lp_el
  rw [lp_b_as, lp_b_as]
  refine lp_b_cg (fun c => ?_)
  obtain ⟨g1, g2, _⟩ := g.1 c
  refine (lp_b_cg (o := (0, (fac (k + 1)).2.1, [(lp_sT (t k), 0)])) (fun _ => ?_)).trans (by rw [lp_e_1 h1.2])
  show lp_b (lp_lf fac lp_sT t n f (fac (k + 1)).2.1) _ = lp_b (lp_lf fac lp_sT t n (n + 1 - (fac (k + 1)).2.1) (fac (k + 1)).2.1) _
  rw [lp_lf_f lp_sT_z hi f (n + 1 - (fac (k + 1)).2.1) (fac (k + 1)).2.1 g2 (by omega) (by omega)]
theorem lp_rs_S {fac : Nat → lp_O} {a b k x y x2 y2 : Nat} (hi : lp_G n fac x y) (ht : lp_G n (lp_tm t n fac) x2 y2) (h1 : k < n ∧ ¬ lp_sS (t k) = 0) (h0 : lp_sT (t k) = 0) : lp_rs t n fac a b k = lp_b (0, k, lp_e b ++ lp_e a) (fun _ => lp_b (fac (k + 1)) (lp_rs t n fac (lp_sS (t k)) 0)) := by
  have g := ht (k + 1) h1.1
  obtain ⟨f, hf⟩ : ∃ f, n + 1 - k = f + 1 := ⟨n - k, by omega⟩
  have e1 : lp_rs t n fac a b k = lp_b (0, k, lp_e b) (fun k => lp_b (0, k, lp_e a) (fun k => lp_lf (lp_tm t n fac) lp_sS t n (n + 1 - k) k)) := by
    unfold lp_rs
    refine lp_b_cg (fun _ => ?_)
    show lp_b (lp_lf fac lp_sT t n (n + 1 - k) k) _ = _
    rw [hf, lp_lf_s, if_neg (fun q => q.2 h0), lp_b_n]
  have e2 : ∀ F : Nat → lp_O, lp_b (0, k, lp_e b) (fun k => lp_b (0, k, lp_e a) F) = lp_b (0, k, lp_e b ++ lp_e a) F := fun F => by
    rw [lp_b_0 rfl, lp_b_0 rfl, lp_b_0 rfl]
    show (_, _, lp_e b ++ (lp_e a ++ _)) = (_, _, (lp_e b ++ lp_e a) ++ _)
    rw [List.append_assoc]
  rw [e1, e2]
  refine lp_b_cg (fun _ => ?_)
  show lp_lf (lp_tm t n fac) lp_sS t n (n + 1 - k) k = _
  rw [hf, lp_lf_s, if_pos h1]
  unfold lp_el
  rw [lp_b_as]
  have e4 : lp_b (fac (k + 1)) (lp_rs t n fac (lp_sS (t k)) 0) = lp_b (lp_tm t n fac (k + 1)) (fun k2 => lp_b (0, k2, [(lp_sS (t k), 0)]) (fun k2 => lp_lf (lp_tm t n fac) lp_sS t n (n + 1 - k2) k2)) := by
    show _ = lp_b (lp_b (fac (k + 1)) _) _
    rw [lp_b_as]
    refine lp_b_cg (fun _ => ?_)
    unfold lp_rs
    rw [lp_e_0, lp_b_n, lp_e_1 h1.2]
  rw [e4]
  refine lp_b_cg (fun c => ?_)
  obtain ⟨g1, g2, _⟩ := g.1 c
  refine lp_b_cg (o := (0, (lp_tm t n fac (k + 1)).2.1, [(lp_sS (t k), 0)])) (fun _ => ?_)
  exact lp_lf_f lp_sS_z ht f (n + 1 - (lp_tm t n fac (k + 1)).2.1) (lp_tm t n fac (k + 1)).2.1 g2 (by omega) (by omega)
/-- behind a sum: brackets that close, and the sums around -/
def lp_J (t : Nat → Nat) (n : Nat) : Nat → List (Nat × Nat) → Nat → lp_O
  | _, [], k => (0, k, [])
  | c, f :: fs, k => lp_b (lp_ex t n 93 k) (fun k => lp_b (lp_rs t n (lp_f t n (c + 1)) f.1 f.2 k) (lp_J t n (c + 1) fs))
def lp_K (t : Nat → Nat) (n c a b : Nat) (fs : List (Nat × Nat)) (k : Nat) : lp_O := lp_b (lp_rs t n (lp_f t n c) a b k) (lp_J t n c fs)
def lp_FK (t : Nat → Nat) (n c a b : Nat) (fs : List (Nat × Nat)) (k : Nat) : lp_O := lp_b (lp_f t n c k) (lp_K t n c a b fs)
theorem lp_FK_sum (c k : Nat) : lp_sum t n c k = lp_FK t n c 0 0 [] k := by
  unfold lp_sum lp_FK lp_K
  rw [lp_sm_rs]
  refine lp_b_cg (fun _ => ?_)
  exact (lp_b_r _).symm
/-- an atom: a number or a fact -/
def lp_at (t : Nat → Nat) (n k : Nat) : lp_O := if cb_dg t n k then lp_num t n k else lp_fa t n k
theorem lp_FK_at {c a b k : Nat} {fs : List (Nat × Nat)} (h : ¬ (k < n ∧ t k = 91)) : lp_FK t n c a b fs k = lp_b (lp_at t n k) (lp_K t n c a b fs) := by
  unfold lp_FK
  have e : lp_f t n c k = lp_at t n k := by
    cases c with
    | zero => show lp_fac t n true _ k = _; unfold lp_fac lp_at lp_fa; rw [if_neg h]
    | succ c => show lp_fac t n false _ k = _; unfold lp_fac lp_at lp_fa; rw [if_neg h]
  rw [e]
theorem lp_FK_op {c a b k : Nat} {fs : List (Nat × Nat)} (h : k < n ∧ t k = 91) : lp_FK t n (c + 1) a b fs k = lp_FK t n c 0 0 ((a, b) :: fs) (k + 1) := by
  unfold lp_FK
  have e : lp_f t n (c + 1) k = lp_b (lp_sm t n (lp_f t n c) (k + 1)) (lp_ex t n 93) := by
    show lp_fac t n false _ k = _
    unfold lp_fac; rw [if_pos h]; rfl
  rw [e, lp_sm_rs, lp_b_as, lp_b_as]
  refine lp_b_cg (fun _ => ?_)
  unfold lp_K
  exact lp_b_cg (fun _ => rfl)
theorem lp_FK_0 {a b k : Nat} {fs : List (Nat × Nat)} (h : k < n ∧ t k = 91) (hn : k ≤ 260) : lp_FK t n 0 a b fs k = (am_ft 5 k, k, []) := by
  unfold lp_FK
  have e : lp_f t n 0 k = (am_ft 5 k, k, []) := by
    show lp_fac t n true _ k = _
    unfold lp_fac; rw [if_pos h]; rfl
  rw [e]
  exact lp_b_f (am_ft_n (by omega) (by omega) hn).2
end
