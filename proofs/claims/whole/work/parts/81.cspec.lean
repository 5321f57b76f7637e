-- the law's text: what is left to read of a choice
section
variable {t : Nat → Nat} {n k : Nat} {tst : Nat → lp_O} {P Q : List (Nat × Nat)} {i : Bool}
def lp_I (i : Bool) (P : List (Nat × Nat)) (o : lp_O) : lp_O := if i = true then lp_b (0, 0, P) (fun _ => lp_jm 12 o) else o
def lp_cp (i : Bool) (P Q : List (Nat × Nat)) : List (Nat × Nat) := if i = true then P ++ (12, Q.length) :: Q else Q
/-- behind a test: the part's codes Q, the parts P before it -/
def lp_Cn (t : Nat → Nat) (n : Nat) (tst : Nat → lp_O) (i : Bool) (P Q : List (Nat × Nat)) (k : Nat) : lp_O := lp_b (lp_I i P (lp_b (0, k, Q) (fun k => lp_jf tst 38 11 t n (n + 1 - k) k))) (fun k => lp_b (lp_jf (lp_pt t n tst) 124 12 t n (n + 1 - k) k) (lp_ex t n 41))
theorem lp_jm_f {op : Nat} {o : lp_O} (h : ¬ o.1 = 0) : lp_jm op o = o := if_neg h
theorem lp_jm_0 {op : Nat} {o : lp_O} (h : o.1 = 0) : lp_jm op o = (0, o.2.1, (op, o.2.2.length) :: o.2.2) := if_pos h
theorem lp_I_f {o : lp_O} (h : ¬ o.1 = 0) : (lp_I i P o).1 = o.1 := by
  unfold lp_I
  cases i with
  | true => rw [if_pos rfl, lp_b_0 rfl, lp_jm_f h]
  | false => rw [if_neg (by decide)]
theorem lp_I_0 {X : List (Nat × Nat)} : lp_I i P (0, k, X) = (0, k, lp_cp i P X) := by
  unfold lp_I lp_cp
  cases i with
  | true => rw [if_pos rfl, if_pos rfl, lp_b_0 rfl, lp_jm_0 rfl]
  | false => rw [if_neg (by decide), if_neg (by decide)]
theorem lp_Cn_s (k0 : Nat) : lp_b (lp_ch t n tst k0) (lp_ex t n 41) = lp_b (tst k0) (fun k => lp_Cn t n tst false [] [] k) := by
  unfold lp_ch lp_pt
  rw [lp_b_as, lp_b_as]
  refine lp_b_cg (fun _ => ?_)
  unfold lp_Cn lp_I
  rw [if_neg (by decide), lp_b_n]
  rfl
theorem lp_Cn_q {X : List (Nat × Nat)} : lp_b (0, k, X) (fun k => lp_Cn t n tst false [] [] k) = lp_Cn t n tst false [] X k := by
  unfold lp_Cn lp_I
  rw [if_neg (by decide)]
  have e : lp_b (0, k, X) (fun k => lp_jf tst 38 11 t n (n + 1 - k) k) = lp_b (0, k, X) (fun k => lp_b (0, k, []) (fun k => lp_jf tst 38 11 t n (n + 1 - k) k)) := lp_b_cg (fun _ => (lp_b_n _ _).symm)
  rw [e, lp_b_as]
  exact lp_b_cg (fun _ => by rw [if_neg (by decide)])
/-- an and -/
theorem lp_Cn_af (h : k < n ∧ t k = 38) (hf : ¬ (tst (k + 1)).1 = 0) : (lp_Cn t n tst i P Q k).1 = (tst (k + 1)).1 := by
  obtain ⟨f, hf2⟩ : ∃ f, n + 1 - k = f + 1 := ⟨n - k, by omega⟩
  have e : lp_jf tst 38 11 t n (n + 1 - k) k = tst (k + 1) := by
    rw [hf2, lp_jf_s, if_pos h, lp_jm_f hf, lp_b_f hf]
  have e2 : (lp_b (0, k, Q) (fun k => lp_jf tst 38 11 t n (n + 1 - k) k)).1 = (tst (k + 1)).1 := by
    rw [lp_b_0 rfl]
    show (lp_jf tst 38 11 t n (n + 1 - k) k).1 = _
    rw [e]
  have e3 := lp_I_f (i := i) (P := P) (o := lp_b (0, k, Q) (fun k => lp_jf tst 38 11 t n (n + 1 - k) k)) (by rw [e2]; exact hf)
  unfold lp_Cn
  rw [lp_b_f (by rw [e3, e2]; exact hf), e3, e2]
theorem lp_Cn_a {k' a b : Nat} {X : List (Nat × Nat)} (hi : lp_G n tst a b) (h : k < n ∧ t k = 38) (e : tst (k + 1) = (0, k', X)) : lp_Cn t n tst i P Q k = lp_Cn t n tst i P (Q ++ (11, X.length) :: X) k' := by
  obtain ⟨f, hf2⟩ : ∃ f, n + 1 - k = f + 1 := ⟨n - k, by omega⟩
  have g := (hi (k + 1) h.1).1 (by rw [e])
  rw [e] at g
  have g1 : k + 1 < k' := g.1
  have g2 : k' ≤ n := g.2.1
  have e1 : lp_jf tst 38 11 t n (n + 1 - k) k = lp_b (0, k', (11, X.length) :: X) (fun k => lp_jf tst 38 11 t n (n + 1 - k) k) := by
    rw [hf2, lp_jf_s, if_pos h, e, lp_jm_0 rfl]
    refine lp_b_cg (o := (0, k', (11, X.length) :: X)) (fun _ => ?_)
    exact lp_jf_f hi f (n + 1 - k') k' g2 (by omega) (by omega)
  have e2 : lp_b (0, k, Q) (fun k => lp_jf tst 38 11 t n (n + 1 - k) k) = lp_b (0, k', Q ++ (11, X.length) :: X) (fun k => lp_jf tst 38 11 t n (n + 1 - k) k) := by
    rw [lp_b_0 rfl, lp_b_0 rfl]
    show ((lp_jf tst 38 11 t n (n + 1 - k) k).1, (lp_jf tst 38 11 t n (n + 1 - k) k).2.1, Q ++ (lp_jf tst 38 11 t n (n + 1 - k) k).2.2) = _
    rw [e1, lp_b_0 rfl]
    show (_, _, Q ++ ((11, X.length) :: X ++ _)) = (_, _, (Q ++ (11, X.length) :: X) ++ _)
    rw [List.append_assoc]
  unfold lp_Cn
  rw [e2]
/-- where no and follows -/
theorem lp_Cn_n (hk : k ≤ n) (h : ¬ (k < n ∧ t k = 38)) : lp_Cn t n tst i P Q k = lp_b (0, k, lp_cp i P Q) (fun k => lp_b (lp_jf (lp_pt t n tst) 124 12 t n (n + 1 - k) k) (lp_ex t n 41)) := by
  obtain ⟨f, hf2⟩ : ∃ f, n + 1 - k = f + 1 := ⟨n - k, by omega⟩
  have e2 : lp_b (0, k, Q) (fun k => lp_jf tst 38 11 t n (n + 1 - k) k) = (0, k, Q) := by
    rw [lp_b_0 rfl]
    show ((lp_jf tst 38 11 t n (n + 1 - k) k).1, (lp_jf tst 38 11 t n (n + 1 - k) k).2.1, Q ++ (lp_jf tst 38 11 t n (n + 1 - k) k).2.2) = _
    rw [hf2, lp_jf_s, if_neg h, List.append_nil]
  unfold lp_Cn
  rw [e2, lp_I_0]
theorem lp_Cn_of (h : k < n ∧ t k = 124) (hf : ¬ (tst (k + 1)).1 = 0) : (lp_Cn t n tst i P Q k).1 = (tst (k + 1)).1 := by
  obtain ⟨f, hf2⟩ : ∃ f, n + 1 - k = f + 1 := ⟨n - k, by omega⟩
  have ep : lp_pt t n tst (k + 1) = tst (k + 1) := by unfold lp_pt; exact lp_b_f hf
  have e : lp_jf (lp_pt t n tst) 124 12 t n (n + 1 - k) k = tst (k + 1) := by
    rw [hf2, lp_jf_s, if_pos h, ep, lp_jm_f hf, lp_b_f hf]
  rw [lp_Cn_n (by omega) (by omega), lp_b_0 rfl]
  show (lp_b (lp_jf (lp_pt t n tst) 124 12 t n (n + 1 - k) k) (lp_ex t n 41)).1 = _
  rw [e, lp_b_f hf]
theorem lp_Cn_o {k' : Nat} {X : List (Nat × Nat)} (hn : n ≤ 250) (hi : lp_G n tst 0 100) (h : k < n ∧ t k = 124) (e : tst (k + 1) = (0, k', X)) : lp_Cn t n tst i P Q k = lp_Cn t n tst true (lp_cp i P Q) X k' := by
  obtain ⟨f, hf2⟩ : ∃ f, n + 1 - k = f + 1 := ⟨n - k, by omega⟩
  have gp := lp_pt_g (t := t) hn hi
  have gk := gp (k + 1) h.1
  have ep : lp_pt t n tst (k + 1) = lp_b (0, k', X) (fun k => lp_jf tst 38 11 t n (n + 1 - k) k) := by unfold lp_pt; rw [e]
  rw [lp_Cn_n (by omega) (by omega)]
  have e1 : lp_b (0, k, lp_cp i P Q) (fun k => lp_b (lp_jf (lp_pt t n tst) 124 12 t n (n + 1 - k) k) (lp_ex t n 41)) = lp_b (0, k, lp_cp i P Q) (fun _ => lp_b (lp_jm 12 (lp_pt t n tst (k + 1))) (fun k2 => lp_b (lp_jf (lp_pt t n tst) 124 12 t n (n + 1 - k2) k2) (lp_ex t n 41))) := by
    refine lp_b_cg (fun _ => ?_)
    show lp_b (lp_jf (lp_pt t n tst) 124 12 t n (n + 1 - k) k) (lp_ex t n 41) = _
    rw [hf2, lp_jf_s, if_pos h, lp_b_as]
    refine lp_b_cg (fun q => ?_)
    generalize lp_pt t n tst (k + 1) = po at q gk
    by_cases c : po.1 = 0
    · obtain ⟨g1, g2, _⟩ := gk.1 c
      rw [lp_jm_0 c]
      show lp_b (lp_jf (lp_pt t n tst) 124 12 t n f po.2.1) _ = lp_b (lp_jf (lp_pt t n tst) 124 12 t n (n + 1 - po.2.1) po.2.1) _
      rw [lp_jf_f gp f (n + 1 - po.2.1) po.2.1 g2 (by omega) (by omega)]
    · rw [lp_jm_f c] at q; exact absurd q c
  rw [e1]
  unfold lp_Cn lp_I
  rw [if_pos rfl, ← ep]
  rw [lp_b_as, lp_b_0 (o := (0, k, lp_cp i P Q)) rfl, lp_b_0 (o := (0, 0, lp_cp i P Q)) rfl]
/-- where it closes -/
theorem lp_Cn_c (h : k < n ∧ t k = 41) : lp_Cn t n tst i P Q k = (0, k + 1, lp_cp i P Q) := by
  obtain ⟨f, hf2⟩ : ∃ f, n + 1 - k = f + 1 := ⟨n - k, by omega⟩
  rw [lp_Cn_n (by omega) (by omega), lp_b_0 rfl]
  show ((lp_b (lp_jf (lp_pt t n tst) 124 12 t n (n + 1 - k) k) (lp_ex t n 41)).1, (lp_b (lp_jf (lp_pt t n tst) 124 12 t n (n + 1 - k) k) (lp_ex t n 41)).2.1, lp_cp i P Q ++ (lp_b (lp_jf (lp_pt t n tst) 124 12 t n (n + 1 - k) k) (lp_ex t n 41)).2.2) = _
  rw [hf2, lp_jf_s, if_neg (by omega), lp_b_n, show lp_ex t n 41 k = (0, k + 1, []) from if_pos h, List.append_nil]
theorem lp_Cn_x (hk : k ≤ n) (h1 : ¬ (k < n ∧ t k = 38)) (h2 : ¬ (k < n ∧ t k = 124)) (h3 : ¬ (k < n ∧ t k = 41)) : (lp_Cn t n tst i P Q k).1 = am_ft 1 k := by
  obtain ⟨f, hf2⟩ : ∃ f, n + 1 - k = f + 1 := ⟨n - k, by omega⟩
  rw [lp_Cn_n hk h1, lp_b_0 rfl]
  show (lp_b (lp_jf (lp_pt t n tst) 124 12 t n (n + 1 - k) k) (lp_ex t n 41)).1 = _
  rw [hf2, lp_jf_s, if_neg h2, lp_b_n, show lp_ex t n 41 k = (am_ft 1 k, k, []) from if_neg h3]
end
