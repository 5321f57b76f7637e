-- fewest, the reference; both
theorem fw_dif {x y : Int32} (h : y &&& x = y) : x &&& (y ^^^ (-1)) = x ^^^ y := by
  have e1 : (-1 : Int32).toBitVec = BitVec.allOnes 32 := by decide
  apply Int32.toBitVec_inj.1
  have h2 := congrArg Int32.toBitVec h
  rw [Int32.toBitVec_and] at h2
  rw [Int32.toBitVec_and, Int32.toBitVec_xor, Int32.toBitVec_xor, e1]
  apply BitVec.eq_of_getLsbD_eq
  intro i hi
  have h3 : (y.toBitVec &&& x.toBitVec).getLsbD i = y.toBitVec.getLsbD i := by rw [h2]
  rw [BitVec.getLsbD_and] at h3
  rw [BitVec.getLsbD_and, BitVec.getLsbD_xor, BitVec.getLsbD_xor, BitVec.getLsbD_allOnes, decide_eq_true hi]
  generalize x.toBitVec.getLsbD i = a at h3 ⊢
  generalize y.toBitVec.getLsbD i = b at h3 ⊢
  cases a <;> cases b <;> first | rfl | cases h3
theorem fw_99 (h : am_H) (U U' F : Nat → Int32) : am_sR (am_sR (am_sR h 99 U) 100 F) 99 U' = am_sR (am_sR h 99 U') 100 F := by rw [am_sR_cm _ _ _ (by decide), am_sR_2]
/-- what the reference's number says of a set, with so many drawers -/
def fw_sp (s : Nat → Nat) (n : Nat) (r : Nat → Nat) (i : Nat) (F : Nat → Nat) (X : Nat) : Prop := F X ≤ 1000000 ∧ ∀ m, m < 1000000 → (F X ≤ m ↔ fw_P s n r i m X)
section
variable {d n : Nat} {h : am_H} {Z : Int32 → am_H → Prop} {B : am_AB} {U : Nat → Int32}
theorem m_ls21 {x : Nat} {F : Nat → Int32} (hd : 2 ≤ d) (hM : q_IM h B) (hB : q_ok B) (hn : q_n B = n) (hn10 : n ≤ 10) (hx : x < 2 ^ n) (z : ∀ U', U' x = nI (fw_sm (q_si B) n x) → (∀ y, y ≠ x → U' y = U y) → Ru mX11_laysSums none d 2 [.ref 73, .int (nI (x + 1)), .int (nI n)] [] (am_sR (am_sR h 99 U') 100 (upd F x (nI (if x = 0 then 0 else 1000000)))) Z) : ∀ (m p : Nat) (U1 : Nat → Int32), p + m = n → U1 x = nI (fw_sm (q_si B) p x) → (∀ y, y ≠ x → U1 y = U y) → Ru mX11_laysSums none d 21 [.ref 73, .int (nI x), .int (nI p)] [] (am_sR (am_sR h 99 U1) 100 F) Z
  | 0, p, U1, hp, hU, hU2 => by
    have h10 : 2 ^ n ≤ 1024 := Nat.pow_le_pow_right (n := 2) (by decide) hn10
    have ep : p = n := by omega
    subst ep
    have w := z U1 hU hU2
    have hx0 : nI x = 0 ↔ x = 0 := nI_eq (b := 0) (by omega) (by omega)
    refine sX11_laysSums_21 hd ⟨fun _ => ?_, fun c => absurd ?_ c⟩
    · rw [hx0, nI_1, nI_clamp (by omega), am_gRs]
      refine ⟨fun c => ⟨vp_in_nI (by omega) (by omega), fun h2 e2 => ?_⟩, fun c => ⟨vp_in_nI (by omega) (by omega), fun h2 e2 => ?_⟩⟩
      · rw [am_sR_2] at e2
        subst e2
        rw [if_neg c] at w; exact w
      · rw [am_sR_2] at e2
        subst e2
        rw [if_pos c] at w; exact w
    · show h.1 73 7 ≤ nI p
      rw [hM.1, hn]; exact Int32.le_refl _
  | m + 1, p, U1, hp, hU, hU2 => by
    have h10 : 2 ^ n ≤ 1024 := Nat.pow_le_pow_right (n := 2) (by decide) hn10
    have hb : am_has (nI x) (nI p) ↔ x.testBit p = true := am_bit_n (by omega) (by omega)
    have h7 : (am_sR (am_sR h 99 U1) 100 F).1 73 7 = nI n := by show h.1 73 7 = _; rw [hM.1, hn]
    refine sX11_laysSums_21 hd ⟨fun c => absurd c (by rw [h7]; exact nI_ge (by omega) (by omega)), fun _ => ?_⟩
    rw [hb, nI_1]
    refine ⟨fun c => ?_, fun c => ⟨vp_in_nI (by omega) (by omega), vp_in_nI (by omega) (by omega), fun h7 e7 => ?_⟩⟩
    · refine m_ls21 hd hM hB hn hn10 hx z m (p + 1) U1 (by omega) ?_ hU2
      rw [hU]; unfold fw_sm
      rw [am_sm_s, if_neg c, Nat.add_zero]
    · rw [nI_clamp (by omega), nI_clamp (by omega), am_gR, if_neg (by decide), am_gRs, am_gR, if_neg (by decide), am_gR, if_neg (by decide), hU, (hM.2.2.2 p (by omega)).2, nI_add, fw_99] at e7
      subst e7
      refine m_ls21 hd hM hB hn hn10 hx z m (p + 1) _ (by omega) ?_ (fun y hy => ?_)
      · unfold upd
        rw [if_pos rfl]; unfold fw_sm
        rw [am_sm_s, if_pos c]
      · unfold upd
        rw [if_neg hy]; exact hU2 y hy
theorem m_ls2 (hd : 2 ≤ d) (hM : q_IM h B) (hB : q_ok B) (hn : q_n B = n) (hn10 : n ≤ 10) (z : ∀ U F, (∀ y, y < 2 ^ n → U y = nI (fw_sm (q_si B) n y)) → (∀ y, y < 2 ^ n → F y = nI (if y = 0 then 0 else 1000000)) → Z 0 (am_sR (am_sR h 99 U) 100 F)) : ∀ (m x : Nat) (U F : Nat → Int32) (u : Value), x + m = 2 ^ n → (∀ y, y < x → U y = nI (fw_sm (q_si B) n y)) → (∀ y, y < x → F y = nI (if y = 0 then 0 else 1000000)) → Ru mX11_laysSums none d 2 [.ref 73, .int (nI x), u] [] (am_sR (am_sR h 99 U) 100 F) Z
  | 0, x, U, F, u, hx, hU, hF => by
    have h10 : 2 ^ n ≤ 1024 := Nat.pow_le_pow_right (n := 2) (by decide) hn10
    have ex : x = 2 ^ n := by omega
    have h7 : (am_sR (am_sR h 99 U) 100 F).1 73 7 = nI n := by show h.1 73 7 = _; rw [hM.1, hn]
    refine sX11_laysSums_2 ?_
    rw [h7, am_shl1 (by omega)]
    rw [ex] at hU hF ⊢
    exact ⟨fun _ => z U F hU hF, fun c => absurd (Int32.le_refl _) c⟩
  | m + 1, x, U, F, u, hx, hU, hF => by
    have h10 : 2 ^ n ≤ 1024 := Nat.pow_le_pow_right (n := 2) (by decide) hn10
    have h7 : (am_sR (am_sR h 99 U) 100 F).1 73 7 = nI n := by show h.1 73 7 = _; rw [hM.1, hn]
    refine sX11_laysSums_2 ?_
    rw [h7, am_shl1 (by omega)]
    refine ⟨fun c => absurd c (nI_ge (by omega) (by omega)), fun _ => ⟨vp_in_nI (by omega) (by omega), fun h2 e2 => ?_⟩⟩
    rw [nI_clamp (by omega), am_gR, if_neg (by decide), am_gRs, fw_99] at e2
    subst e2
    refine m_ls21 (U := U) hd hM hB hn hn10 (by omega) (fun U' u1 u2 => ?_) n 0 _ (by omega) ?_ (fun y hy => ?_)
    · refine m_ls2 hd hM hB hn hn10 z m (x + 1) U' _ _ (by omega) (fun y hy => ?_) (fun y hy => ?_)
      · by_cases c : y = x
        · rw [c]; exact u1
        · rw [u2 y c]; exact hU y (by omega)
      · unfold upd
        by_cases c : y = x
        · rw [if_pos c, c]
        · rw [if_neg c]; exact hF y (by omega)
    · unfold upd; exact if_pos rfl
    · unfold upd; rw [if_neg hy]
theorem m_50 {i S : Nat} (hd : 2 ≤ d) (hn10 : n ≤ 10) (hi : i < 12) (hr99 : q_r B i ≤ 99) (hroom : h.2.2 77 i = nI (q_r B i)) (sz : ∀ p, p < n → q_si B p ≤ 9) (hU : ∀ y, y < 2 ^ n → U y = nI (fw_sm (q_si B) n y)) (hS : S < 2 ^ n) (F : Nat → Nat) (hold : ∀ Y, Y < S → fw_sp (q_si B) n (q_r B) i F Y) (z : ∀ A' v u, v ≤ 1000000 → (∀ m, m < 1000000 → (v ≤ m ↔ fw_P (q_si B) n (q_r B) (i + 1) m S)) → (∀ X, X < 2 ^ n → A' X = nI (am_un F S v X)) → Ru mX11_fewest none d 35 [.ref 73, .int (nI (2 ^ n - 1)), .int (nI i), .int (nI S + (-1)), u] [] (am_sR (am_sR h 99 U) 100 A') Z) : ∀ (X v : Nat) (A' : Nat → Int32), fw_in X S → v ≤ 1000000 → (∀ m, m < 1000000 → fw_P (q_si B) n (q_r B) i m S → v ≤ m) → (∀ m, m < 1000000 → v ≤ m → fw_P (q_si B) n (q_r B) (i + 1) m S) → (∀ A, fw_in A S → X < A → fw_sm (q_si B) n A ≤ q_r B i → v ≤ F (S ^^^ A) + 1) → (∀ Y, Y < 2 ^ n → A' Y = nI (am_un F S v Y)) → Ru mX11_fewest none d 50 [.ref 73, .int (nI (2 ^ n - 1)), .int (nI i), .int (nI S), .int (nI X)] [] (am_sR (am_sR h 99 U) 100 A') Z := by
  have h10 : 2 ^ n ≤ 1024 := Nat.pow_le_pow_right (n := 2) (by decide) hn10
  have smb : ∀ A, fw_sm (q_si B) n A ≤ 90 := fun A => by
    have := am_sm_le (f := fun p => if A.testBit p = true then q_si B p else 0) (g := fun _ => 9) n (fun k hk => by
      have := sz k hk
      by_cases c : A.testBit k = true <;> simp [c]; omega)
    rw [am_sm_c] at this
    unfold fw_sm; omega
  intro X
  induction X using Nat.strongRecOn with
  | _ X ih =>
    intro v A' hX hv hb hg hdl hA
    have hXS := fw_in_le hX
    by_cases x0 : X = 0
    · subst x0
      refine sX11_fewest_50 hd ⟨fun _ => z A' v _ hv (fun m hm => ⟨hg m hm, fun q => ?_⟩) hA, fun c => absurd (Int32.le_refl _) c⟩
      rcases q with q | ⟨A, a1, a2, a3, a4⟩
      · exact hb m hm q
      · by_cases a0 : A = 0
        · rw [a0, Nat.xor_zero] at a4
          have := fw_P_m i (m - 1) S a4
          rw [show m - 1 + 1 = m by omega] at this
          exact hb m hm this
        · have lt : S ^^^ A < S := by
            have le := fw_in_le (fw_x_in a1)
            have ne : S ^^^ A ≠ S := fun e => a0 (fw_xor_e e)
            omega
          have sp := (hold _ lt).2 (m - 1) (by omega)
          have := sp.mpr a4
          have := hdl A a1 (by omega) a2
          omega
    · have e1 : nI X - 1 = nI (X - 1) := pk_sub (b := 1) (by omega)
      have sX := smb X
      have lt : S ^^^ X < S := by
        have le := fw_in_le (fw_x_in hX)
        have ne : S ^^^ X ≠ S := fun e => x0 (fw_xor_e e)
        omega
      have nx : (X - 1) &&& S < X := Nat.lt_of_le_of_lt Nat.and_le_left (by omega)
      have nin : fw_in ((X - 1) &&& S) S := fun j hj => by
        rw [Nat.testBit_and] at hj
        cases q : S.testBit j with
        | true => rfl
        | false => rw [q, Bool.and_false] at hj; cases hj
      have dif : nI S &&& (nI X ^^^ (-1)) = nI (S ^^^ X) := by
        rw [fw_dif (by rw [fa_and, fw_and.mp hX]), fb_xorI]
      have oS := hold _ lt
      have oS1 := oS.1
      refine sX11_fewest_50 hd ⟨fun c => absurd c (nI_ge (a := 0) (by omega) (by omega)), fun _ => ⟨vp_in_nI (by omega) (by omega), vp_in_nI (by omega) (by omega), ?_⟩⟩
      rw [nI_clamp (by omega), nI_clamp (by omega), dif, nI_clamp (by omega), nI_clamp (by omega), e1, fa_and, am_gRs, am_gR, if_neg (by decide), am_gR, if_neg (by decide), hroom, am_gR, if_neg (by decide), am_gRs, hU X (by omega), hA S hS, hA (S ^^^ X) (by omega), am_un_s, am_un_n _ _ (by omega), nI_ltI (by omega) (by omega), nI_1, q_min (by omega) (by omega)]
      refine ⟨fun c => ?_, fun c => ⟨vp_in_nI (by omega) (by omega), vp_in_nI (by omega) (by omega), fun h5 e5 => ?_⟩⟩
      · refine ih _ nx v A' nin hv hb hg (fun A a1 a2 a3 => ?_) hA
        rcases Nat.lt_or_ge X A with q | q
        · exact hdl A a1 q a3
        · by_cases e : A = X
          · rw [e] at a3; omega
          · have := fw_nx X S A hX a1 (by omega); omega
      · rw [am_sR_2] at e5
        subst e5
        refine ih _ nx (min v (F (S ^^^ X) + 1)) _ nin (by omega) (fun m hm q => ?_) (fun m hm q => ?_) (fun A a1 a2 a3 => ?_) (fun Y hY => ?_)
        · have := hb m hm q; omega
        · rcases Nat.le_total v m with w | w
          · exact hg m hm w
          · by_cases e : v = m
            · exact hg m hm (by omega)
            · exact Or.inr ⟨X, hX, by omega, by omega, (oS.2 (m - 1) (by omega)).mp (by omega)⟩
        · rcases Nat.lt_or_ge X A with q | q
          · have := hdl A a1 q a3; omega
          · by_cases e : A = X
            · rw [e]; omega
            · have := fw_nx X S A hX a1 (by omega); omega
        · unfold upd
          by_cases c2 : Y = S
          · rw [if_pos c2, c2, am_un_s]
          · rw [if_neg c2, am_un_n _ _ c2, hA Y hY, am_un_n _ _ c2]
theorem m_35 {i : Nat} (hd : 4 ≤ d) (hn10 : n ≤ 10) (hi : i < 12) (hM : q_IM h B) (hB : q_ok B) (hn : q_n B = n) (hr : 0 < q_r B i) (hU : ∀ y, y < 2 ^ n → U y = nI (fw_sm (q_si B) n y)) (z : ∀ A' F u3 u4, (∀ X, X < 2 ^ n → fw_sp (q_si B) n (q_r B) (i + 1) F X) → (∀ X, X < 2 ^ n → A' X = nI (F X)) → Ru mX11_fewest none d 27 [.ref 73, .int (nI (2 ^ n - 1)), .int (nI (i + 1)), u3, u4] [] (am_sR (am_sR h 99 U) 100 A') Z) : ∀ (S : Nat) (F : Nat → Nat) (A' : Nat → Int32) (u4 : Value), S < 2 ^ n → (∀ X, X < 2 ^ n → X ≤ S → fw_sp (q_si B) n (q_r B) i F X) → (∀ X, X < 2 ^ n → S < X → fw_sp (q_si B) n (q_r B) (i + 1) F X) → (∀ X, X < 2 ^ n → A' X = nI (F X)) → Ru mX11_fewest none d 35 [.ref 73, .int (nI (2 ^ n - 1)), .int (nI i), .int (nI S), u4] [] (am_sR (am_sR h 99 U) 100 A') Z
  | 0, F, A', u4, hS, f1, f2, hA => by
    refine sX11_fewest_35 (by omega) ⟨fun _ => ?_, fun c => absurd (Int32.le_refl _) c⟩
    rw [nI_1]
    refine z A' F _ _ (fun X hX => ?_) hA
    by_cases c : X = 0
    · rw [c]
      have := f1 0 hS (Nat.le_refl 0)
      exact ⟨this.1, fun m hm => ⟨fun _ => fw_P_0 _ _, fun _ => (this.2 m hm).mpr (fw_P_0 _ _)⟩⟩
    · exact f2 X hX (by omega)
  | S + 1, F, A', u4, hS, f1, f2, hA => by
    have h10 : 2 ^ n ≤ 1024 := Nat.pow_le_pow_right (n := 2) (by decide) hn10
    have hM1 : q_IM (am_sR (am_sR h 99 U) 100 A') B := hM
    have o := f1 (S + 1) hS (Nat.le_refl _)
    refine sX11_fewest_35 (by omega) ⟨fun c => absurd c (nI_ge (a := 0) (by omega) (by omega)), fun _ => ⟨fun c => absurd ((q_mTn hM1 hi).mpr hr) c, fun _ => ?_⟩⟩
    refine m_50 (by omega) hn10 hi (hB.2.2.2.1 i hi).1 (hM.2.2.1 i hi hr) (fun p hp => (hB.2.2.2.2 p (by omega)).1.2) hU hS F (fun Y hY => f1 Y (by omega) (by omega)) (fun A2 v u hv hsp hA2 => ?_) (S + 1) (F (S + 1)) A' (fun _ q => q) o.1 (fun m hm q => (o.2 m hm).mpr q) (fun m hm q => Or.inl ((o.2 m hm).mp q)) (fun A a1 a2 => by have := fw_in_le a1; omega) (fun Y hY => ?_)
    · rw [hj_dec]
      refine m_35 hd hn10 hi hM hB hn hr hU z S (am_un F (S + 1) v) A2 u (by omega) (fun X hX hXS => ?_) (fun X hX hXS => ?_) hA2
      · unfold fw_sp
        rw [am_un_n _ _ (by omega)]; exact f1 X hX (by omega)
      · unfold fw_sp
        by_cases c : X = S + 1
        · rw [c, am_un_s]; exact ⟨hv, hsp⟩
        · rw [am_un_n _ _ c]; exact f2 X hX (by omega)
    · unfold am_un
      by_cases c : Y = S + 1
      · rw [if_pos c, c]; exact hA _ hS
      · rw [if_neg c]; exact hA Y hY
theorem m_27 (hd : 4 ≤ d) (hn10 : n ≤ 10) (hM : q_IM h B) (hB : q_ok B) (hn : q_n B = n) (hU : ∀ y, y < 2 ^ n → U y = nI (fw_sm (q_si B) n y)) (z : ∀ A' F, fw_sp (q_si B) n (q_r B) 12 F (2 ^ n - 1) → Z (if F (2 ^ n - 1) < 1000000 then nI (F (2 ^ n - 1)) else -2) (am_sR (am_sR h 99 U) 100 A')) : ∀ (m i : Nat) (F : Nat → Nat) (A' : Nat → Int32) (u3 u4 : Value), i + m = 12 → (∀ X, X < 2 ^ n → fw_sp (q_si B) n (q_r B) i F X) → (∀ X, X < 2 ^ n → A' X = nI (F X)) → Ru mX11_fewest none d 27 [.ref 73, .int (nI (2 ^ n - 1)), .int (nI i), u3, u4] [] (am_sR (am_sR h 99 U) 100 A') Z
  | 0, i, F, A', u3, u4, hi, hF, hA => by
    have h10 : 2 ^ n ≤ 1024 := Nat.pow_le_pow_right (n := 2) (by decide) hn10
    have pp : 0 < 2 ^ n := Nat.two_pow_pos n
    have ei : i = 12 := by omega
    subst ei
    have w := z A' F (hF _ (by omega))
    have fb := (hF (2 ^ n - 1) (by omega)).1
    refine sX11_fewest_27 ⟨fun _ => ⟨vp_in_nI (by omega) (by omega), ?_⟩, fun c => absurd (Int32.le_refl _) c⟩
    rw [nI_clamp (by omega), am_gRs, hA _ (by omega), show nI (F (2 ^ n - 1)) < 1000000 ↔ F (2 ^ n - 1) < 1000000 from nI_ltI (b := 1000000) (by omega) (by omega)]
    exact ⟨fun c => by rw [if_pos c] at w; exact w, fun c => by rw [if_neg c] at w; exact w⟩
  | m + 1, i, F, A', u3, u4, hi, hF, hA => by
    have h10 : 2 ^ n ≤ 1024 := Nat.pow_le_pow_right (n := 2) (by decide) hn10
    have pp : 0 < 2 ^ n := Nat.two_pow_pos n
    refine sX11_fewest_27 ⟨fun c => absurd c (nI_ge (b := 12) (by omega) (by omega)), fun _ => ?_⟩
    by_cases hr : 0 < q_r B i
    · exact m_35 hd hn10 (by omega) hM hB hn hr hU (fun A' F u3 u4 hF hA => m_27 hd hn10 hM hB hn hU z m (i + 1) F A' u3 u4 (by omega) hF hA) (2 ^ n - 1) F A' _ (by omega) (fun X hX _ => hF X hX) (fun X hX q => by omega) hA
    · have hM1 : q_IM (am_sR (am_sR h 99 U) 100 A') B := hM
      have go : Ru mX11_fewest none d 27 [.ref 73, .int (nI (2 ^ n - 1)), .int (nI i + 1), .int (nI (2 ^ n - 1)), u4] [] (am_sR (am_sR h 99 U) 100 A') Z := by
        rw [nI_1]
        refine m_27 hd hn10 hM hB hn hU z m (i + 1) F A' _ _ (by omega) (fun X hX => ⟨(hF X hX).1, fun m hm => ?_⟩) hA
        rw [fw_P_z hX (fun p hp => (hB.2.2.2.2 p (by omega)).1.1) (show q_r B i = 0 by omega)]
        exact (hF X hX).2 m hm
      exact sX11_fewest_35 (by omega) ⟨fun _ => go, fun _ => ⟨fun _ => go, fun c => absurd ((q_mTn hM1 (by omega)).mp c) hr⟩⟩
end
theorem pp_fewest {d b : Nat} {h : am_H} {K : Int32 → Int32 → am_H → Prop} {B : am_AB} (hd : 12 ≤ d) (eb : h.2.1 0 10 = b) (hb : am_bu b) (hI : q_IC h b B) (hM : q_IM h B) (hB : q_ok B) (z : ∀ r h', am_step h h' → K r r h') : am_cl mX10_fewest d [.ref 0] h (fun r1 h1 => am_cl mX11_fewest d [.ref 73] h1 (fun r2 h2 => K r1 r2 h2)) := by
  have hn := hB.1
  refine ⟨10, by omega, Sp_of mf_X10_fewest rfl (Nat.le_of_ble_eq_true rfl) rfl (sX10_fewest_0 ?_)⟩
  rw [eb, hI.1, show (nI (q_n B) ≤ 10) = (q_n B ≤ 10) from propext (nI_leI (b := 10) (by omega) (by omega))]
  refine ⟨hb, fun c => ⟨9, by omega, iX6_fewest (by omega) hb hI hB c (fun v A A2 hv => ?_)⟩, fun c => ?_⟩
  · have hM1 : q_IM (am_sR (am_sR h 11 A) 13 A2) B := hM
    have e7 : (am_sR (am_sR h 11 A) 13 A2).1 73 7 = nI (q_n B) := hM.1
    have k1 : am_keep h (am_sR (am_sR h 11 A) 13 A2) := am_keep_sR (am_keep_sR (am_keep_rf h) (by decide)) (by decide)
    have t1 : (am_sR (am_sR h 11 A) 13 A2).1 = h.1 := rfl
    generalize am_sR (am_sR h 11 A) 13 A2 = g at hM1 e7 k1 t1 ⊢
    have h10 : 2 ^ q_n B ≤ 1024 := Nat.pow_le_pow_right (n := 2) (by decide) c
    have pp : 0 < 2 ^ q_n B := Nat.two_pow_pos _
    refine ⟨10, by omega, Sp_of mf_X11_fewest rfl (Nat.le_of_ble_eq_true rfl) rfl (sX11_fewest_0 ⟨fun _ => ⟨9, by omega, ?_⟩, fun q => absurd (by rw [e7]; exact nI_le (b := 10) c (by omega)) q⟩)⟩
    have w := m_ls2 (d := 9) (h := g) (B := B) (n := q_n B) (Z := fun r1 h2 => Ru mX11_fewest none 10 27 [.ref 73, .int ((1 <<< ((h2.1 73 7) &&& 31)) - 1), .int 0, .null, .null] [] h2 (fun r2 h2 => K v r2 h2)) (by omega) hM1 hB rfl c (fun U F hU hF => ?_) (2 ^ q_n B) 0 (g.2.2 99) ((am_sR g 99 (g.2.2 99)).2.2 100) .null (by omega) (fun y hy => absurd hy (Nat.not_lt_zero y)) (fun y hy => absurd hy (Nat.not_lt_zero y))
    · rw [am_sR_self, am_sR_self] at w
      exact Sp_of mf_X11_laysSums rfl (Nat.le_of_ble_eq_true rfl) rfl (sX11_laysSums_0 w)
    · have e7' : (am_sR (am_sR g 99 U) 100 F).1 73 7 = nI (q_n B) := e7
      have eall : (1 <<< (nI (q_n B) &&& 31)) - 1 = nI (2 ^ q_n B - 1) := by rw [am_shl1 (by omega)]; exact pk_sub (b := 1) (by omega)
      rw [e7', eall]
      refine m_27 (h := g) (B := B) (n := q_n B) (by omega) c hM1 hB rfl hU (fun A' F' hsp => ?_) 12 0 (fun y => if y = 0 then 0 else 1000000) F _ _ (by omega) (fun X hX => ?_) hF
      · have st : am_step h (am_sR (am_sR g 99 U) 100 A') := ⟨am_keep_sR (am_keep_sR k1 (by decide)) (by decide), Or.inl ⟨by show g.1 1 1 = _; rw [t1], by show g.1 73 9 = _; rw [t1]⟩⟩
        have ev : (if F' (2 ^ q_n B - 1) < 1000000 then nI (F' (2 ^ q_n B - 1)) else -2) = v := by
          rcases hv with ⟨k, k12, rfl, hk⟩ | ⟨rfl, hk⟩
          · have a := (hsp.2 k (by omega)).mpr ((hk k).mpr (Nat.le_refl k))
            rw [if_pos (by omega)]
            have b := (hk _).mp ((hsp.2 (F' (2 ^ q_n B - 1)) (by omega)).mp (Nat.le_refl _))
            rw [show F' (2 ^ q_n B - 1) = k by omega]
          · by_cases q : F' (2 ^ q_n B - 1) < 1000000
            · exact absurd ((hsp.2 _ q).mp (Nat.le_refl _)) (hk _)
            · rw [if_neg q]
        rw [ev]; exact z _ _ st
      · refine ⟨by show (if X = 0 then 0 else 1000000) ≤ 1000000; split <;> omega, fun m hm => ?_⟩
        show (if X = 0 then 0 else 1000000) ≤ m ↔ X = 0
        by_cases cx : X = 0
        · rw [if_pos cx]; exact ⟨fun _ => cx, fun _ => Nat.zero_le m⟩
        · rw [if_neg cx]; exact ⟨fun q => by omega, fun q => absurd q cx⟩
  · refine ⟨10, by omega, Sp_of mf_X11_fewest rfl (Nat.le_of_ble_eq_true rfl) rfl (sX11_fewest_0 ⟨fun q => absurd ?_ c, fun _ => z _ _ (am_step_rf h)⟩)⟩
    rw [hM.1] at q; exact (nI_leI (b := 10) (by omega) (by omega)).mp q
