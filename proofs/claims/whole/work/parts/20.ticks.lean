-- ticks
set_option maxRecDepth 20000 in
set_option maxHeartbeats 2000000 in
theorem sX6_strokes_0 {d : Nat} {h : am_H} {Z : Int32 → am_H → Prop} {x0 : Int32} {x1 : Int32} (w : Ru mX6_strokes none d 4 [.int x0, .int x1, .int 0, .int x0, .null] [] h Z) : Ru mX6_strokes none d 0 [.int x0, .int x1, .null, .null, .null] [] h Z := by
  refine st_iconst (v := 0) dX6_strokes_0 (by decide) ?_
  refine st_istore_n (L' := [.int x0, .int x1, .int 0, .null, .null]) dX6_strokes_1 (by decide) rfl ?_
  refine st_iload_n dX6_strokes_2 rfl ?_
  refine st_istore_n (L' := [.int x0, .int x1, .int 0, .int x0, .null]) dX6_strokes_3 (by decide) rfl ?_
  exact w
set_option maxRecDepth 20000 in
set_option maxHeartbeats 2000000 in
theorem sX6_strokes_4 {d : Nat} {h : am_H} {Z : Int32 → am_H → Prop} {u0 : Value} {x1 : Int32} {x2 : Int32} {x3 : Int32} {u4 : Value} (w : (x1 < x3 → Z x2 h) ∧ (¬ (x1 < x3) → (¬ (am_rem x3 60) = 30 → (¬ (am_rem x3 60) = 0 → Ru mX6_strokes none d 4 [u0, .int x1, .int x2, .int (x3 + 1), u4] [] h Z) ∧ ((am_rem x3 60) = 0 → (¬ (am_rem (x3 / 60) 12) = 0 → Ru mX6_strokes none d 4 [u0, .int x1, .int (x2 + (am_rem (x3 / 60) 12)), .int (x3 + 1), .int (am_rem (x3 / 60) 12)] [] h Z) ∧ ((am_rem (x3 / 60) 12) = 0 → Ru mX6_strokes none d 4 [u0, .int x1, .int (x2 + 12), .int (x3 + 1), .int (am_rem (x3 / 60) 12)] [] h Z))) ∧ ((am_rem x3 60) = 30 → Ru mX6_strokes none d 4 [u0, .int x1, .int (x2 + 1), .int (x3 + 1), u4] [] h Z))) : Ru mX6_strokes none d 4 [u0, .int x1, .int x2, .int x3, u4] [] h Z := by
  refine st_iload_n dX6_strokes_4 rfl ?_
  refine st_iload_n dX6_strokes_5 rfl ?_
  refine st_icmp_gt (tgt := 61) dX6_strokes_6 (by decide) (fun c => ?_) (fun c => ?_)
  · replace w := w.1 c
    refine st_iload_n dX6_strokes_61 rfl ?_
    exact st_ireturn rfl rfl dX6_strokes_62 w
  · replace w := w.2 c
    refine st_iload_n dX6_strokes_9 rfl ?_
    refine st_bipush (v := 60) dX6_strokes_10 (by decide) ?_
    refine st_irem dX6_strokes_12 (by decide) ?_
    refine st_bipush (v := 30) dX6_strokes_13 (by decide) ?_
    refine st_icmp_ne (tgt := 24) dX6_strokes_15 (by decide) (fun c => ?_) (fun c => ?_)
    · replace w := w.1 c
      refine st_iload_n dX6_strokes_24 rfl ?_
      refine st_bipush (v := 60) dX6_strokes_25 (by decide) ?_
      refine st_irem dX6_strokes_27 (by decide) ?_
      refine st_if_ne (tgt := 55) dX6_strokes_28 (by decide) (fun c => ?_) (fun c => ?_)
      · replace w := w.1 c
        refine st_iinc (L' := [u0, .int x1, .int x2, .int (x3 + 1), u4]) dX6_strokes_55 rfl rfl (by decide) rfl ?_
        refine st_goto (tgt := 4) dX6_strokes_58 (by decide) ?_
        exact w
      · replace w := w.2 c
        refine st_iload_n dX6_strokes_31 rfl ?_
        refine st_bipush (v := 60) dX6_strokes_32 (by decide) ?_
        refine st_idiv dX6_strokes_34 (by decide) ?_
        refine st_bipush (v := 12) dX6_strokes_35 (by decide) ?_
        refine st_irem dX6_strokes_37 (by decide) ?_
        refine st_istore (L' := [u0, .int x1, .int x2, .int x3, .int (am_rem (x3 / 60) 12)]) dX6_strokes_38 (by decide) rfl ?_
        refine st_iload_n dX6_strokes_40 rfl ?_
        refine st_iload dX6_strokes_41 rfl ?_
        refine st_if_ne (tgt := 51) dX6_strokes_43 (by decide) (fun c => ?_) (fun c => ?_)
        · replace w := w.1 c
          refine st_iload dX6_strokes_51 rfl ?_
          refine st_iadd dX6_strokes_53 ?_
          refine st_istore_n (L' := [u0, .int x1, .int (x2 + (am_rem (x3 / 60) 12)), .int x3, .int (am_rem (x3 / 60) 12)]) dX6_strokes_54 (by decide) rfl ?_
          refine st_iinc (L' := [u0, .int x1, .int (x2 + (am_rem (x3 / 60) 12)), .int (x3 + 1), .int (am_rem (x3 / 60) 12)]) dX6_strokes_55 rfl rfl (by decide) rfl ?_
          refine st_goto (tgt := 4) dX6_strokes_58 (by decide) ?_
          exact w
        · replace w := w.2 c
          refine st_bipush (v := 12) dX6_strokes_46 (by decide) ?_
          refine st_goto (tgt := 53) dX6_strokes_48 (by decide) ?_
          refine st_iadd dX6_strokes_53 ?_
          refine st_istore_n (L' := [u0, .int x1, .int (x2 + 12), .int x3, .int (am_rem (x3 / 60) 12)]) dX6_strokes_54 (by decide) rfl ?_
          refine st_iinc (L' := [u0, .int x1, .int (x2 + 12), .int (x3 + 1), .int (am_rem (x3 / 60) 12)]) dX6_strokes_55 rfl rfl (by decide) rfl ?_
          refine st_goto (tgt := 4) dX6_strokes_58 (by decide) ?_
          exact w
    · replace w := w.2 c
      refine st_iinc (L' := [u0, .int x1, .int (x2 + 1), .int x3, u4]) dX6_strokes_18 rfl rfl (by decide) rfl ?_
      refine st_goto (tgt := 55) dX6_strokes_21 (by decide) ?_
      refine st_iinc (L' := [u0, .int x1, .int (x2 + 1), .int (x3 + 1), u4]) dX6_strokes_55 rfl rfl (by decide) rfl ?_
      refine st_goto (tgt := 4) dX6_strokes_58 (by decide) ?_
      exact w
set_option maxRecDepth 20000 in
set_option maxHeartbeats 2000000 in
theorem sX10_ticks_0 {d : Nat} {h : am_H} {Z : Int32 → am_H → Prop} {x1 : Int32} {x2 : Int32} (hd : 2 ≤ d) (w : (¬ ((0 : Int32) ≤ x1 ∧ x1 ≤ (1439 : Int32)) → Z (-1) h) ∧ ((0 : Int32) ≤ x1 ∧ x1 ≤ (1439 : Int32) → (x1 ≤ x2 ∧ x2 ≤ (1439 : Int32) → am_cl mX6_strokes d [.int x1, .int x2] h (fun r1 h2 => Z r1 h2)) ∧ (¬ (x1 ≤ x2 ∧ x2 ≤ (1439 : Int32)) → Z (-1) h))) : Ru mX10_ticks none d 0 [.ref 0, .int x1, .int x2] [] h Z := by
  refine st_iload_n dX10_ticks_0 rfl ?_
  refine st_iconst (v := 0) dX10_ticks_1 (by decide) ?_
  refine st_sipush (v := 1439) dX10_ticks_2 (by decide) ?_
  refine st_callS (M' := mX10_isFromTo) [.int x1, .int 0, .int 1439] [] dX10_ticks_5 ml_X10_135 mf_X10_isFromTo ms_X10_isFromTo rfl rfl rfl (K := fun r h' => (am_b ((0 : Int32) ≤ x1 ∧ x1 ≤ (1439 : Int32))) = r ∧ h = h') ⟨1, by omega, iX10_isFromTo ⟨rfl, rfl⟩⟩ (fun r1 h1 w1 => ?_)
  obtain ⟨rfl, rfl⟩ := w1
  show Ru mX10_ticks none d 8 [.ref 0, .int x1, .int x2] [.int (am_b ((0 : Int32) ≤ x1 ∧ x1 ≤ (1439 : Int32)))] h Z
  refine st_ifb_eq (tgt := 22) dX10_ticks_8 (by decide) (fun c => ?_) (fun c => ?_)
  · replace w := w.1 c
    refine st_iconst (v := (-1)) dX10_ticks_22 (by decide) ?_
    exact st_ireturn rfl rfl dX10_ticks_23 w
  · replace w := w.2 c
    refine st_iload_n dX10_ticks_11 rfl ?_
    refine st_iload_n dX10_ticks_12 rfl ?_
    refine st_sipush (v := 1439) dX10_ticks_13 (by decide) ?_
    refine st_callS (M' := mX10_isFromTo) [.int x2, .int x1, .int 1439] [] dX10_ticks_16 ml_X10_135 mf_X10_isFromTo ms_X10_isFromTo rfl rfl rfl (K := fun r h' => (am_b (x1 ≤ x2 ∧ x2 ≤ (1439 : Int32))) = r ∧ h = h') ⟨1, by omega, iX10_isFromTo ⟨rfl, rfl⟩⟩ (fun r1 h1 w1 => ?_)
    obtain ⟨rfl, rfl⟩ := w1
    show Ru mX10_ticks none d 19 [.ref 0, .int x1, .int x2] [.int (am_b (x1 ≤ x2 ∧ x2 ≤ (1439 : Int32)))] h Z
    refine st_ifb_ne (tgt := 24) dX10_ticks_19 (by decide) (fun c => ?_) (fun c => ?_)
    · replace w := w.1 c
      refine st_iload_n dX10_ticks_24 rfl ?_
      refine st_iload_n dX10_ticks_25 rfl ?_
      refine st_callS (M' := mX6_strokes) [.int x1, .int x2] [] dX10_ticks_26 ml_X10_259 mf_X6_strokes ms_X6_strokes rfl rfl rfl w (fun r1 h2 w => ?_)
      show Ru mX10_ticks none d 29 [.ref 0, .int x1, .int x2] [.int r1] h2 Z
      exact st_ireturn rfl rfl dX10_ticks_29 w
    · replace w := w.2 c
      refine st_iconst (v := (-1)) dX10_ticks_22 (by decide) ?_
      exact st_ireturn rfl rfl dX10_ticks_23 w
set_option maxRecDepth 20000 in
set_option maxHeartbeats 2000000 in
theorem sX11_ticks_0 {d : Nat} {h : am_H} {Z : Int32 → am_H → Prop} {x1 : Int32} {x2 : Int32} (hd : 2 ≤ d) (w : (¬ ((0 : Int32) ≤ x1 ∧ x1 ≤ (1439 : Int32)) → Z (-1) h) ∧ ((0 : Int32) ≤ x1 ∧ x1 ≤ (1439 : Int32) → (x1 ≤ x2 ∧ x2 ≤ (1439 : Int32) → Ru mX11_ticks none d 29 [.ref 73, .int x1, .int x2, .int 0, .int x1] [] h Z) ∧ (¬ (x1 ≤ x2 ∧ x2 ≤ (1439 : Int32)) → Z (-1) h))) : Ru mX11_ticks none d 0 [.ref 73, .int x1, .int x2, .null, .null] [] h Z := by
  refine st_iload_n dX11_ticks_0 rfl ?_
  refine st_iconst (v := 0) dX11_ticks_1 (by decide) ?_
  refine st_sipush (v := 1439) dX11_ticks_2 (by decide) ?_
  refine st_callS (M' := mX11_in) [.int x1, .int 0, .int 1439] [] dX11_ticks_5 ml_X11_125 mf_X11_in ms_X11_in rfl rfl rfl (K := fun r h' => (am_b ((0 : Int32) ≤ x1 ∧ x1 ≤ (1439 : Int32))) = r ∧ h = h') ⟨1, by omega, iX11_in ⟨rfl, rfl⟩⟩ (fun r1 h1 w1 => ?_)
  obtain ⟨rfl, rfl⟩ := w1
  show Ru mX11_ticks none d 8 [.ref 73, .int x1, .int x2, .null, .null] [.int (am_b ((0 : Int32) ≤ x1 ∧ x1 ≤ (1439 : Int32)))] h Z
  refine st_ifb_eq (tgt := 22) dX11_ticks_8 (by decide) (fun c => ?_) (fun c => ?_)
  · replace w := w.1 c
    refine st_iconst (v := (-1)) dX11_ticks_22 (by decide) ?_
    exact st_ireturn rfl rfl dX11_ticks_23 w
  · replace w := w.2 c
    refine st_iload_n dX11_ticks_11 rfl ?_
    refine st_iload_n dX11_ticks_12 rfl ?_
    refine st_sipush (v := 1439) dX11_ticks_13 (by decide) ?_
    refine st_callS (M' := mX11_in) [.int x2, .int x1, .int 1439] [] dX11_ticks_16 ml_X11_125 mf_X11_in ms_X11_in rfl rfl rfl (K := fun r h' => (am_b (x1 ≤ x2 ∧ x2 ≤ (1439 : Int32))) = r ∧ h = h') ⟨1, by omega, iX11_in ⟨rfl, rfl⟩⟩ (fun r1 h1 w1 => ?_)
    obtain ⟨rfl, rfl⟩ := w1
    show Ru mX11_ticks none d 19 [.ref 73, .int x1, .int x2, .null, .null] [.int (am_b (x1 ≤ x2 ∧ x2 ≤ (1439 : Int32)))] h Z
    refine st_ifb_ne (tgt := 24) dX11_ticks_19 (by decide) (fun c => ?_) (fun c => ?_)
    · replace w := w.1 c
      refine st_iconst (v := 0) dX11_ticks_24 (by decide) ?_
      refine st_istore_n (L' := [.ref 73, .int x1, .int x2, .int 0, .null]) dX11_ticks_25 (by decide) rfl ?_
      refine st_iload_n dX11_ticks_26 rfl ?_
      refine st_istore (L' := [.ref 73, .int x1, .int x2, .int 0, .int x1]) dX11_ticks_27 (by decide) rfl ?_
      exact w
    · replace w := w.2 c
      refine st_iconst (v := (-1)) dX11_ticks_22 (by decide) ?_
      exact st_ireturn rfl rfl dX11_ticks_23 w
set_option maxRecDepth 20000 in
set_option maxHeartbeats 2000000 in
theorem sX11_ticks_29 {d : Nat} {h : am_H} {Z : Int32 → am_H → Prop} {u0 : Value} {u1 : Value} {x2 : Int32} {x3 : Int32} {x4 : Int32} (w : (x2 < x4 → Z x3 h) ∧ (¬ (x2 < x4) → (¬ (am_rem x4 60) = 0 → Ru mX11_ticks none d 59 [u0, u1, .int x2, .int x3, .int x4] [] h Z) ∧ ((am_rem x4 60) = 0 → Ru mX11_ticks none d 59 [u0, u1, .int x2, .int ((x3 + (am_rem ((x4 / 60) + 11) 12)) + 1), .int x4] [] h Z))) : Ru mX11_ticks none d 29 [u0, u1, .int x2, .int x3, .int x4] [] h Z := by
  refine st_iload dX11_ticks_29 rfl ?_
  refine st_iload_n dX11_ticks_31 rfl ?_
  refine st_icmp_gt (tgt := 79) dX11_ticks_32 (by decide) (fun c => ?_) (fun c => ?_)
  · replace w := w.1 c
    refine st_iload_n dX11_ticks_79 rfl ?_
    exact st_ireturn rfl rfl dX11_ticks_80 w
  · replace w := w.2 c
    refine st_iload dX11_ticks_35 rfl ?_
    refine st_bipush (v := 60) dX11_ticks_37 (by decide) ?_
    refine st_irem dX11_ticks_39 (by decide) ?_
    refine st_if_ne (tgt := 59) dX11_ticks_40 (by decide) (fun c => ?_) (fun c => ?_)
    · replace w := w.1 c
      exact w
    · replace w := w.2 c
      refine st_iload_n dX11_ticks_43 rfl ?_
      refine st_iload dX11_ticks_44 rfl ?_
      refine st_bipush (v := 60) dX11_ticks_46 (by decide) ?_
      refine st_idiv dX11_ticks_48 (by decide) ?_
      refine st_bipush (v := 11) dX11_ticks_49 (by decide) ?_
      refine st_iadd dX11_ticks_51 ?_
      refine st_bipush (v := 12) dX11_ticks_52 (by decide) ?_
      refine st_irem dX11_ticks_54 (by decide) ?_
      refine st_iadd dX11_ticks_55 ?_
      refine st_iconst (v := 1) dX11_ticks_56 (by decide) ?_
      refine st_iadd dX11_ticks_57 ?_
      refine st_istore_n (L' := [u0, u1, .int x2, .int ((x3 + (am_rem ((x4 / 60) + 11) 12)) + 1), .int x4]) dX11_ticks_58 (by decide) rfl ?_
      exact w
set_option maxRecDepth 20000 in
set_option maxHeartbeats 2000000 in
theorem sX11_ticks_59 {d : Nat} {h : am_H} {Z : Int32 → am_H → Prop} {u0 : Value} {u1 : Value} {x2 : Int32} {x3 : Int32} {x4 : Int32} (w : (¬ (am_rem x4 60) = 30 → Ru mX11_ticks none d 29 [u0, u1, .int x2, .int x3, .int (x4 + 1)] [] h Z) ∧ ((am_rem x4 60) = 30 → Ru mX11_ticks none d 29 [u0, u1, .int x2, .int (x3 + 1), .int (x4 + 1)] [] h Z)) : Ru mX11_ticks none d 59 [u0, u1, .int x2, .int x3, .int x4] [] h Z := by
  refine st_iload dX11_ticks_59 rfl ?_
  refine st_bipush (v := 60) dX11_ticks_61 (by decide) ?_
  refine st_irem dX11_ticks_63 (by decide) ?_
  refine st_bipush (v := 30) dX11_ticks_64 (by decide) ?_
  refine st_icmp_ne (tgt := 73) dX11_ticks_66 (by decide) (fun c => ?_) (fun c => ?_)
  · replace w := w.1 c
    refine st_iinc (L' := [u0, u1, .int x2, .int x3, .int (x4 + 1)]) dX11_ticks_73 rfl rfl (by decide) rfl ?_
    refine st_goto (tgt := 29) dX11_ticks_76 (by decide) ?_
    exact w
  · replace w := w.2 c
    refine st_iload_n dX11_ticks_69 rfl ?_
    refine st_iconst (v := 1) dX11_ticks_70 (by decide) ?_
    refine st_iadd dX11_ticks_71 ?_
    refine st_istore_n (L' := [u0, u1, .int x2, .int (x3 + 1), .int x4]) dX11_ticks_72 (by decide) rfl ?_
    refine st_iinc (L' := [u0, u1, .int x2, .int (x3 + 1), .int (x4 + 1)]) dX11_ticks_73 rfl rfl (by decide) rfl ?_
    refine st_goto (tgt := 29) dX11_ticks_76 (by decide) ?_
    exact w
def tk_inc (m : Nat) : Int32 := if m % 60 = 30 then 1 else if m % 60 = 0 then (if m / 60 % 12 = 0 then 12 else nI (m / 60 % 12)) else 0
theorem am_e {a b : Nat} (ha : a < 2 ^ 31) (hb : b < 2 ^ 31) : nI a = nI b ↔ a = b := nI_eq ha hb
theorem tk_x {d : Nat} {h : am_H} {Z : Int32 → am_H → Prop} {t : Nat} (ht : t < 1440) : ∀ (m k : Nat) (acc : Int32) (u0 u4 : Value), k + m = t + 1 → Z (am_fd (fun i a => a + tk_inc i) k m acc) h → Ru mX6_strokes none d 4 [u0, .int (nI t), .int acc, .int (nI k), u4] [] h Z
  | 0, k, acc, u0, u4, hk, z => by
    refine sX6_strokes_4 ⟨fun _ => z, fun c => absurd (nI_lt (by omega) (by omega)) c⟩
  | m + 1, k, acc, u0, u4, hk, z => by
    refine sX6_strokes_4 ⟨fun c => absurd c (nI_nlt (by omega) (by omega)), fun _ => ?_⟩
    have e1 : am_rem (nI k) 60 = nI (k % 60) := am_rem_n (d := 60) (by omega) (by omega) (by omega)
    have e2 : nI k / 60 = nI (k / 60) := pk_div (d := 60) (by omega) (by omega) (by omega)
    have e3 : am_rem (nI (k / 60)) 12 = nI (k / 60 % 12) := am_rem_n (d := 12) (by omega) (by omega) (by omega)
    rw [am_fd_s] at z
    have key : ∀ v, acc + tk_inc k = v → ∀ u, Ru mX6_strokes none d 4 [u0, .int (nI t), .int v, .int (nI k + 1), u] [] h Z := fun v hv u => by
      rw [nI_1]; exact tk_x ht m (k + 1) v _ u (by omega) (hv ▸ z)
    have q30 : nI (k % 60) = 30 ↔ k % 60 = 30 := nI_eq (b := 30) (by omega) (by omega)
    have q0 : nI (k % 60) = 0 ↔ k % 60 = 0 := nI_eq (b := 0) (by omega) (by omega)
    have q12 : nI (k / 60 % 12) = 0 ↔ k / 60 % 12 = 0 := nI_eq (b := 0) (by omega) (by omega)
    simp only [e1, e2, e3, q30, q0, q12]
    refine ⟨fun c => ⟨fun c2 => key _ ?_ _, fun c2 => ⟨fun c3 => key _ ?_ _, fun c3 => key _ ?_ _⟩⟩, fun c => key _ ?_ _⟩ <;> simp [tk_inc, *]
theorem iX6_strokes {d : Nat} {h : am_H} {Z : Int32 → am_H → Prop} {f t : Nat} (hf : f ≤ t) (ht : t < 1440) (z : Z (am_fd (fun i a => a + tk_inc i) f (t + 1 - f) 0) h) : Sp mX6_strokes d [.int (nI f), .int (nI t)] h Z := by
  refine Sp_of mf_X6_strokes rfl (Nat.le_of_ble_eq_true rfl) rfl ?_
  refine sX6_strokes_0 ?_
  exact tk_x ht _ f 0 _ _ (by omega) z
theorem tk_m {d : Nat} {h : am_H} {Z : Int32 → am_H → Prop} {t : Nat} (ht : t < 1440) : ∀ (m k : Nat) (acc : Int32) (u0 u1 : Value), k + m = t + 1 → Z (am_fd (fun i a => a + tk_inc i) k m acc) h → Ru mX11_ticks none d 29 [u0, u1, .int (nI t), .int acc, .int (nI k)] [] h Z
  | 0, k, acc, u0, u1, hk, z => by
    refine sX11_ticks_29 ⟨fun _ => z, fun c => absurd (nI_lt (by omega) (by omega)) c⟩
  | m + 1, k, acc, u0, u1, hk, z => by
    refine sX11_ticks_29 ⟨fun c => absurd c (nI_nlt (by omega) (by omega)), fun _ => ?_⟩
    have e1 : am_rem (nI k) 60 = nI (k % 60) := am_rem_n (d := 60) (by omega) (by omega) (by omega)
    have e2 : nI k / 60 = nI (k / 60) := pk_div (d := 60) (by omega) (by omega) (by omega)
    have e4 : nI (k / 60) + 11 = nI (k / 60 + 11) := nI_add _ 11
    have e3 : am_rem (nI (k / 60 + 11)) 12 = nI ((k / 60 + 11) % 12) := am_rem_n (d := 12) (by omega) (by omega) (by omega)
    rw [am_fd_s] at z
    have key : ∀ v, acc + tk_inc k = v → Ru mX11_ticks none d 29 [u0, u1, .int (nI t), .int v, .int (nI k + 1)] [] h Z := fun v hv => by
      rw [nI_1]; exact tk_m ht m (k + 1) v _ _ (by omega) (hv ▸ z)
    have q30 : nI (k % 60) = 30 ↔ k % 60 = 30 := nI_eq (b := 30) (by omega) (by omega)
    have q0 : nI (k % 60) = 0 ↔ k % 60 = 0 := nI_eq (b := 0) (by omega) (by omega)
    simp only [e1, e2, e3, e4, q0]
    have k0 : ∀ v, Ru mX11_ticks none d 59 [u0, u1, .int (nI t), .int v, .int (nI k)] [] h Z ↔ Ru mX11_ticks none d 59 [u0, u1, .int (nI t), .int v, .int (nI k)] [] h Z := fun _ => Iff.rfl
    refine ⟨fun c => ?_, fun c => ?_⟩
    · refine sX11_ticks_59 ?_
      simp only [e1, q30]
      refine ⟨fun c2 => key _ ?_, fun c2 => key _ ?_⟩ <;> simp [tk_inc, *]
    · refine sX11_ticks_59 ?_
      simp only [e1, q30]
      refine ⟨fun c2 => key _ ?_, fun c2 => by omega⟩
      have e5 : nI ((k / 60 + 11) % 12) + 1 = nI ((k / 60 + 11) % 12 + 1) := nI_1 _
      rw [Int32.add_assoc, e5]
      by_cases c3 : k / 60 % 12 = 0
      · rw [show (k / 60 + 11) % 12 + 1 = 12 by omega]; simp [tk_inc, c, c3]; rfl
      · rw [show (k / 60 + 11) % 12 + 1 = k / 60 % 12 by omega]; simp [tk_inc, c, c3]
/-- both clocks alike -/
theorem pp_ticks {d : Nat} {h : am_H} {K : Int32 → Int32 → am_H → Prop} {a b : Int32} (hd : 9 ≤ d) (z : ∀ r, K r r h) : am_cl mX10_ticks d [.ref 0, .int a, .int b] h (fun r1 h1 => am_cl mX11_ticks d [.ref 73, .int a, .int b] h1 (fun r2 h2 => K r1 r2 h2)) := by
  by_cases c1 : 0 ≤ a ∧ a ≤ 1439
  · by_cases c2 : a ≤ b ∧ b ≤ 1439
    · obtain ⟨f, hf, rfl⟩ := am_natle (N := 1439) (by omega) c1.1 c1.2
      obtain ⟨t, ht, rfl⟩ := am_natle (N := 1439) (by omega) (Int32.le_trans c1.1 c2.1) c2.2
      have hft : f ≤ t := (nI_leI (by omega) (by omega)).mp c2.1
      refine ⟨8, by omega, Sp_of mf_X10_ticks rfl (Nat.le_of_ble_eq_true rfl) rfl (sX10_ticks_0 (by omega) ⟨fun c => absurd c1 c, fun _ => ⟨fun _ => ⟨7, by omega, iX6_strokes hft (by omega) ?_⟩, fun c => absurd c2 c⟩⟩)⟩
      exact ⟨8, by omega, Sp_of mf_X11_ticks rfl (Nat.le_of_ble_eq_true rfl) rfl (sX11_ticks_0 (by omega) ⟨fun c => absurd c1 c, fun _ => ⟨fun _ => tk_m (by omega) _ f 0 _ _ (by omega) (z _), fun c => absurd c2 c⟩⟩)⟩
    · refine ⟨8, by omega, Sp_of mf_X10_ticks rfl (Nat.le_of_ble_eq_true rfl) rfl (sX10_ticks_0 (by omega) ⟨fun c => absurd c1 c, fun _ => ⟨fun c => absurd c c2, fun _ => ?_⟩⟩)⟩
      exact ⟨8, by omega, Sp_of mf_X11_ticks rfl (Nat.le_of_ble_eq_true rfl) rfl (sX11_ticks_0 (by omega) ⟨fun c => absurd c1 c, fun _ => ⟨fun c => absurd c c2, fun _ => z _⟩⟩)⟩
  · refine ⟨8, by omega, Sp_of mf_X10_ticks rfl (Nat.le_of_ble_eq_true rfl) rfl (sX10_ticks_0 (by omega) ⟨fun _ => ?_, fun c => absurd c c1⟩)⟩
    exact ⟨8, by omega, Sp_of mf_X11_ticks rfl (Nat.le_of_ble_eq_true rfl) rfl (sX11_ticks_0 (by omega) ⟨fun _ => z _, fun c => absurd c c1⟩)⟩
