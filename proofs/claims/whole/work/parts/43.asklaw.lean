-- the law asked, both sides
section
variable {d b g kd : Nat} {h : am_H} {Z : Int32 → am_H → Prop} {B : am_AB} {L : am_AL}
theorem q_LC_s7 {f : Nat → Int32} (hL : q_LC h g L) : q_LC (am_sR h (g + 7) f) g L := by
  unfold q_LC
  rw [am_gRi, am_gRb, am_gRb, am_gRb, am_gRb, am_gRb, if_neg (by decide), if_neg (by decide), if_neg (by decide), if_neg (by decide), if_neg (by decide)]
  exact hL
/-- what the law says of a paper (24: none), a drawer and a draw -/
def q_sy (L : am_AL) (B : am_AB) (kd p i : Nat) (dr : Int32) : Int32 := q_vl L (q_fx B p i dr) kd (l_n L) 0
theorem iX3_valueOf {p i : Nat} {dr : Int32} (hd : 7 ≤ d) (hg : am_la g) (hb : am_bu b) (hI : q_IC h b B) (hB : q_ok B) (hL : q_LC h g L) (hk : kd < 256) (hp : p ≤ 24) (hp2 : p < q_n B ∨ p = 24) (hi : i < 12) (hr : 0 < q_r B i) (z : ∀ f1 f2, Z (q_sy L B kd p i dr) (am_sR (am_sR h (g + 7) f1) (g + 6) f2)) : Sp mX3_valueOf d [.ref g, .int (nI kd), .ref b, .int (nI p), .int (nI i), .int dr] h Z := by
  refine Sp_of mf_X3_valueOf rfl (Nat.le_of_ble_eq_true rfl) rfl (sX3_valueOf_0 hg hb ⟨3, by omega, iX3_tellFacts (by omega) hg hb hI hB hp hp2 hi hr (fun f hf => ?_)⟩)
  have hL1 := q_LC_s7 (f := f) hL
  have w := x_val (d := d) (Z := Z) (kd := kd) (r := q_sy L B kd p i dr) (by omega) hg hk hL1 (z f) (l_n L) 0 ((am_sR h (g + 7) f).2.2 (g + 6)) (.ref b) (.int (nI p)) (.int (nI i)) (.int dr) (by omega) (by rw [am_gRs]; exact q_vl_cg hL hf (l_n L) 0 (by omega))
  rw [am_sR_self] at w
  exact w
theorem q_LC_r {a : Nat} {f : Nat → Int32} (ha : g + 7 < a) (hL : q_LC h g L) : q_LC (am_sR h a f) g L := by
  have e : ∀ k, k ≤ 7 → (am_sR h a f).2.2 (g + k) = h.2.2 (g + k) := fun k hk => by rw [am_gR, if_neg (by omega)]
  unfold q_LC
  simp only [am_gRi, e 1 (by omega), e 2 (by omega), e 3 (by omega), e 4 (by omega), e 5 (by omega)]
  exact hL
theorem q_LM_93 {f : Nat → Int32} (hM : q_LM h L) : q_LM (am_sR h 93 f) L := hM
/-- the reference's byLaw with its facts laid -/
theorem iX11_says {p i : Nat} {dr hi' : Int32} {f : Nat → Int32} (hd : 5 ≤ d) (hg : am_la g) (hk : kd < 256) (hx : kd ≠ 120) (hh : 0 ≤ hi') (hL : q_LC h g L) (hM : q_LM h L) (hf : ∀ j, j < 10 → f j = q_fx B p i dr j) (z : ∀ f2, Z (q_cl (q_sy L B kd p i dr) hi') (am_sR (am_sR h 93 f) 92 f2)) : Sp mX11_byLaw d [.ref 73, .int (nI kd), .int hi'] (am_sR h 93 f) Z := by
  refine iX11_byLaw hd hk hx hh (q_LC_r (by rcases hg with rfl | rfl <;> omega) hL) (q_LM_93 hM) (fun f2 => ?_)
  rw [am_gRs, q_vl_cg hL hf (l_n L) 0 (by omega)]
  exact z f2
theorem iX11_sticks {i : Nat} {dr : Int32} {f : Nat → Int32} (hd : 5 ≤ d) (hg : am_la g) (hL : q_LC h g L) (hM : q_LM h L) (hf : ∀ j, j < 10 → f j = q_fx B 24 i dr j) (z : ∀ f2, Z (if q_sy L B 120 24 i dr = 0 then 0 else 1) (am_sR (am_sR h 93 f) 92 f2)) : Sp mX11_holdsAny d [.ref 73, .int 120] (am_sR h 93 f) Z := by
  refine iX11_holdsAny hd (q_LC_r (by rcases hg with rfl | rfl <;> omega) hL) (q_LM_93 hM) (fun f2 => ?_)
  rw [am_gRs, q_vl_cg hL hf (l_n L) 0 (by omega)]
  exact z f2
end
