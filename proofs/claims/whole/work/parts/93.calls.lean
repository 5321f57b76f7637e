-- each call keeps the invariant, and both answer alike
abbrev am_eq : Int32 → Int32 → am_H → Prop := fun r1 r2 h2 => r1 = r2 ∧ am_inv h2
section
variable {d : Nat} {h : am_H}
theorem lw_nest {x0 : Int32} (hd : 40 ≤ d) (I : am_inv h) : am_cl mX10_nest d [.ref 0, .int x0] h (fun r1 h1 => am_cl mX11_nest d [.ref 73, .int x0] h1 (fun r2 h2 => am_eq r1 r2 h2)) := by
  obtain ⟨N, b, c, g, g', B, T, P, iB, iC, iL, iK⟩ := id I
  exact pp_nest (K := am_eq) (by omega) T (fun r h' s => ⟨rfl, am_inv_st I s⟩)
theorem lw_dusted {x0 : Int32} (hd : 40 ≤ d) (I : am_inv h) : am_cl mX10_dusted d [.ref 0, .int x0] h (fun r1 h1 => am_cl mX11_dusted d [.ref 73, .int x0] h1 (fun r2 h2 => am_eq r1 r2 h2)) := by
  obtain ⟨N, b, c, g, g', B, T, P, iB, iC, iL, iK⟩ := id I
  exact pp_dusted (K := am_eq) (by omega) T (fun r h' s => ⟨rfl, am_inv_st I s⟩)
theorem lw_balanced {x0 : Int32} (hd : 40 ≤ d) (I : am_inv h) : am_cl mX10_balanced d [.ref 0, .int x0] h (fun r1 h1 => am_cl mX11_balanced d [.ref 73, .int x0] h1 (fun r2 h2 => am_eq r1 r2 h2)) := by
  obtain ⟨N, b, c, g, g', B, T, P, iB, iC, iL, iK⟩ := id I
  exact pp_balanced (K := am_eq) (by omega) T (fun r h' s => ⟨rfl, am_inv_st I s⟩)
theorem lw_heard {x0 x1 : Int32} (hd : 40 ≤ d) (I : am_inv h) : am_cl mX10_heard d [.ref 0, .int x0, .int x1] h (fun r1 h1 => am_cl mX11_heard d [.ref 73, .int x0, .int x1] h1 (fun r2 h2 => am_eq r1 r2 h2)) := by
  obtain ⟨N, b, c, g, g', B, T, P, iB, iC, iL, iK⟩ := id I
  exact pp_heard (K := am_eq) (by omega) T (fun r h' s => ⟨rfl, am_inv_st I s⟩)
theorem lw_unions {x0 x1 x2 : Int32} (hd : 40 ≤ d) (I : am_inv h) : am_cl mX10_unions d [.ref 0, .int x0, .int x1, .int x2] h (fun r1 h1 => am_cl mX11_unions d [.ref 73, .int x0, .int x1, .int x2] h1 (fun r2 h2 => am_eq r1 r2 h2)) := by
  obtain ⟨N, b, c, g, g', B, T, P, iB, iC, iL, iK⟩ := id I
  exact pp_unions (K := am_eq) (by omega) T (fun r h' s => ⟨rfl, am_inv_st I s⟩)
theorem lw_pigeonholes {x0 x1 x2 : Int32} (hd : 40 ≤ d) (I : am_inv h) : am_cl mX10_pigeonholes d [.ref 0, .int x0, .int x1, .int x2] h (fun r1 h1 => am_cl mX11_pigeonholes d [.ref 73, .int x0, .int x1, .int x2] h1 (fun r2 h2 => am_eq r1 r2 h2)) := by
  obtain ⟨N, b, c, g, g', B, T, P, iB, iC, iL, iK⟩ := id I
  exact pp_pigeonholes (K := am_eq) (by omega) T (fun r h' s => ⟨rfl, am_inv_st I s⟩)
theorem lw_heirs {x0 x1 : Int32} (hd : 40 ≤ d) (I : am_inv h) : am_cl mX10_heirs d [.ref 0, .int x0, .int x1] h (fun r1 h1 => am_cl mX11_heirs d [.ref 73, .int x0, .int x1] h1 (fun r2 h2 => am_eq r1 r2 h2)) := by
  obtain ⟨N, b, c, g, g', B, T, P, iB, iC, iL, iK⟩ := id I
  exact pp_heirs (K := am_eq) (by omega) T (fun r h' s => ⟨rfl, am_inv_st I s⟩)
theorem lw_secret {x0 x1 x2 : Int32} (hd : 40 ≤ d) (I : am_inv h) : am_cl mX10_secret d [.ref 0, .int x0, .int x1, .int x2] h (fun r1 h1 => am_cl mX11_secret d [.ref 73, .int x0, .int x1, .int x2] h1 (fun r2 h2 => am_eq r1 r2 h2)) := by
  obtain ⟨N, b, c, g, g', B, T, P, iB, iC, iL, iK⟩ := id I
  exact pp_secret (K := am_eq) (by omega) T (fun r h' s => ⟨rfl, am_inv_st I s⟩)
theorem lw_slip {x0 x1 : Int32} (hd : 40 ≤ d) (I : am_inv h) : am_cl mX10_slip d [.ref 0, .int x0, .int x1] h (fun r1 h1 => am_cl mX11_slip d [.ref 73, .int x0, .int x1] h1 (fun r2 h2 => am_eq r1 r2 h2)) := by
  obtain ⟨N, b, c, g, g', B, T, P, iB, iC, iL, iK⟩ := id I
  exact pp_slip (K := am_eq) (by omega) T (fun r h' s => ⟨rfl, am_inv_st I s⟩)
theorem lw_planked {x0 x1 : Int32} (hd : 40 ≤ d) (I : am_inv h) : am_cl mX10_planked d [.ref 0, .int x0, .int x1] h (fun r1 h1 => am_cl mX11_planked d [.ref 73, .int x0, .int x1] h1 (fun r2 h2 => am_eq r1 r2 h2)) := by
  obtain ⟨N, b, c, g, g', B, T, P, iB, iC, iL, iK⟩ := id I
  exact pp_planked (K := am_eq) (by omega) (fun r h' s => ⟨rfl, am_inv_st I s⟩)
theorem lw_ticks {x0 x1 : Int32} (hd : 40 ≤ d) (I : am_inv h) : am_cl mX10_ticks d [.ref 0, .int x0, .int x1] h (fun r1 h1 => am_cl mX11_ticks d [.ref 73, .int x0, .int x1] h1 (fun r2 h2 => am_eq r1 r2 h2)) := by
  obtain ⟨N, b, c, g, g', B, T, P, iB, iC, iL, iK⟩ := id I
  exact pp_ticks (K := am_eq) (by omega) (fun r => ⟨rfl, I⟩)
theorem lw_put {x0 x1 : Int32} (hd : 40 ≤ d) (I : am_inv h) : am_cl mX10_put d [.ref 0, .int x0, .int x1] h (fun r1 h1 => am_cl mX11_put d [.ref 73, .int x0, .int x1] h1 (fun r2 h2 => am_eq r1 r2 h2)) := by
  obtain ⟨N, b, c, g, g', B, T, P, iB, iC, iL, iK⟩ := id I
  have hb : b = 38 ∨ b = 47 := by have := P.1; omega
  have hbu : am_bu b := by rcases hb with rfl | rfl <;> simp [am_bu]
  exact pp_put (K := am_eq) (by omega) P.2.2.1 hbu iB.1 iB.2.1 iB.2.2.1 iB.2.2.2 (fun r => ⟨rfl, I⟩) (fun r h' B' s a1 a2 a3 a4 => ⟨rfl, am_inv_kp T P iC iL iK s a1 a2 a3 a4⟩)
theorem lw_seed {x0 : Int32} (hd : 40 ≤ d) (I : am_inv h) : am_cl mX10_seed d [.ref 0, .int x0] h (fun r1 h1 => am_cl mX11_seed d [.ref 73, .int x0] h1 (fun r2 h2 => am_eq r1 r2 h2)) := by
  obtain ⟨N, b, c, g, g', B, T, P, iB, iC, iL, iK⟩ := id I
  have hb : b = 38 ∨ b = 47 := by have := P.1; omega
  have hbu : am_bu b := by rcases hb with rfl | rfl <;> simp [am_bu]
  exact pp_seed (K := am_eq) (by omega) P.2.2.1 hbu iB.1 iB.2.1 iB.2.2.1 iB.2.2.2 (fun r => ⟨rfl, I⟩) (fun r h' B' s a1 a2 a3 a4 => ⟨rfl, am_inv_kp T P iC iL iK s a1 a2 a3 a4⟩)
theorem lw_oldest (hd : 40 ≤ d) (I : am_inv h) : am_cl mX10_oldest d [.ref 0] h (fun r1 h1 => am_cl mX11_oldest d [.ref 73] h1 (fun r2 h2 => am_eq r1 r2 h2)) := by
  obtain ⟨N, b, c, g, g', B, T, P, iB, iC, iL, iK⟩ := id I
  have hb : b = 38 ∨ b = 47 := by have := P.1; omega
  have hbu : am_bu b := by rcases hb with rfl | rfl <;> simp [am_bu]
  have eb := P.2.2.1
  exact pp_oldest (K := am_eq) (by omega) (by rw [eb]; exact hbu) (by rw [eb]; exact iB.1) iB.2.1 iB.2.2.1 iB.2.2.2 (fun r => ⟨rfl, I⟩)
theorem lw_free {x0 : Int32} (hd : 40 ≤ d) (I : am_inv h) : am_cl mX10_free d [.ref 0, .int x0] h (fun r1 h1 => am_cl mX11_free d [.ref 73, .int x0] h1 (fun r2 h2 => am_eq r1 r2 h2)) := by
  obtain ⟨N, b, c, g, g', B, T, P, iB, iC, iL, iK⟩ := id I
  have hb : b = 38 ∨ b = 47 := by have := P.1; omega
  have hbu : am_bu b := by rcases hb with rfl | rfl <;> simp [am_bu]
  have eb := P.2.2.1
  exact pp_free (K := am_eq) (by omega) (by rw [eb]; exact hbu) (by rw [eb]; exact iB.1) iB.2.1 iB.2.2.1 iB.2.2.2 (fun r => ⟨rfl, I⟩)
theorem lw_drawerIs {x0 x1 : Int32} (hd : 40 ≤ d) (I : am_inv h) : am_cl mX10_drawerIs d [.ref 0, .int x0, .int x1] h (fun r1 h1 => am_cl mX11_drawerIs d [.ref 73, .int x0, .int x1] h1 (fun r2 h2 => am_eq r1 r2 h2)) := by
  obtain ⟨N, b, c, g, g', B, T, P, iB, iC, iL, iK⟩ := id I
  have hb : b = 38 ∨ b = 47 := by have := P.1; omega
  have hbu : am_bu b := by rcases hb with rfl | rfl <;> simp [am_bu]
  have eb := P.2.2.1
  exact pp_drawerIs (K := am_eq) (by omega) (by rw [eb]; exact hbu) (by rw [eb]; exact iB.1) iB.2.1 iB.2.2.1 iB.2.2.2 (fun r => ⟨rfl, I⟩)
theorem lw_paperIs {x0 x1 : Int32} (hd : 40 ≤ d) (I : am_inv h) : am_cl mX10_paperIs d [.ref 0, .int x0, .int x1] h (fun r1 h1 => am_cl mX11_paperIs d [.ref 73, .int x0, .int x1] h1 (fun r2 h2 => am_eq r1 r2 h2)) := by
  obtain ⟨N, b, c, g, g', B, T, P, iB, iC, iL, iK⟩ := id I
  have hb : b = 38 ∨ b = 47 := by have := P.1; omega
  have hbu : am_bu b := by rcases hb with rfl | rfl <;> simp [am_bu]
  have eb := P.2.2.1
  exact pp_paperIs (K := am_eq) (by omega) (by rw [eb]; exact hbu) (by rw [eb]; exact iB.1) iB.2.1 iB.2.2.1 iB.2.2.2 (fun r => ⟨rfl, I⟩)
theorem lw_ofSubject {x0 x1 : Int32} (hd : 40 ≤ d) (I : am_inv h) : am_cl mX10_ofSubject d [.ref 0, .int x0, .int x1] h (fun r1 h1 => am_cl mX11_ofSubject d [.ref 73, .int x0, .int x1] h1 (fun r2 h2 => am_eq r1 r2 h2)) := by
  obtain ⟨N, b, c, g, g', B, T, P, iB, iC, iL, iK⟩ := id I
  have hb : b = 38 ∨ b = 47 := by have := P.1; omega
  have hbu : am_bu b := by rcases hb with rfl | rfl <;> simp [am_bu]
  have eb := P.2.2.1
  exact pp_ofSubject (K := am_eq) (by omega) (by rw [eb]; exact hbu) (by rw [eb]; exact iB.1) iB.2.1 iB.2.2.1 iB.2.2.2 (fun r => ⟨rfl, I⟩)
theorem lw_count {x0 : Int32} (hd : 40 ≤ d) (I : am_inv h) : am_cl mX10_count d [.ref 0, .int x0] h (fun r1 h1 => am_cl mX11_count d [.ref 73, .int x0] h1 (fun r2 h2 => am_eq r1 r2 h2)) := by
  obtain ⟨N, b, c, g, g', B, T, P, iB, iC, iL, iK⟩ := id I
  have hb : b = 38 ∨ b = 47 := by have := P.1; omega
  have hbu : am_bu b := by rcases hb with rfl | rfl <;> simp [am_bu]
  have hla : am_la g := by rcases (by have := P.2.1; omega : g = 56 ∨ g = 64) with rfl | rfl <;> simp [am_la]
  have eb := P.2.2.1
  have eg := P.2.2.2.2.1
  obtain ⟨L, l1, l2⟩ := iL
  exact pp_count (K := am_eq) (by omega) (by rw [eb]; exact hbu) (by rw [eb]; exact iB.1) iB.2.1 iB.2.2.1 iB.2.2.2 (by rw [T.2.1, T.2.2.1]) (by rw [eg]; exact hla) (by rw [eg, l1.1, l2.1]) (fun r => ⟨rfl, I⟩)
theorem lw_check {x0 : Int32} (hd : 40 ≤ d) (I : am_inv h) : am_cl mX10_check d [.ref 0, .int x0] h (fun r1 h1 => am_cl mX11_check d [.ref 73, .int x0] h1 (fun r2 h2 => am_eq r1 r2 h2)) := by
  obtain ⟨N, b, c, g, g', B, T, P, iB, iC, iL, iK⟩ := id I
  have hb : b = 38 ∨ b = 47 := by have := P.1; omega
  have hbu : am_bu b := by rcases hb with rfl | rfl <;> simp [am_bu]
  exact pp_check (K := am_eq) (by omega) P.2.2.1 hbu iB.1 iB.2.1 iB.2.2.1 iB.2.2.2 T (fun r h' s => ⟨rfl, am_inv_st I s⟩)
theorem lw_fewest (hd : 40 ≤ d) (I : am_inv h) : am_cl mX10_fewest d [.ref 0] h (fun r1 h1 => am_cl mX11_fewest d [.ref 73] h1 (fun r2 h2 => am_eq r1 r2 h2)) := by
  obtain ⟨N, b, c, g, g', B, T, P, iB, iC, iL, iK⟩ := id I
  have hb : b = 38 ∨ b = 47 := by have := P.1; omega
  have hbu : am_bu b := by rcases hb with rfl | rfl <;> simp [am_bu]
  exact pp_fewest (K := am_eq) (by omega) P.2.2.1 hbu iB.1 iB.2.2.1 iB.2.2.2 (fun r h' s => ⟨rfl, am_inv_st I s⟩)
theorem lw_days {x0 : Int32} (hd : 40 ≤ d) (I : am_inv h) : am_cl mX10_days d [.ref 0, .int x0] h (fun r1 h1 => am_cl mX11_days d [.ref 73, .int x0] h1 (fun r2 h2 => am_eq r1 r2 h2)) := by
  obtain ⟨N, b, c, g, g', B, T, P, iB, iC, iL, iK⟩ := id I
  have hb : b = 38 ∨ b = 47 := by have := P.1; omega
  have hla : am_la g := by rcases (by have := P.2.1; omega : g = 56 ∨ g = 64) with rfl | rfl <;> simp [am_la]
  obtain ⟨L, l1, l2⟩ := id iL
  exact pp_days (K := am_eq) (by omega) P.2.2.1 hb P.2.2.2.2.1 hla iB.1 iB.2.1 iB.2.2.1 iB.2.2.2 l1 l2 (fun r => ⟨rfl, I⟩) (fun r h' B' s a1 a2 a3 a4 => ⟨rfl, am_inv_kp T P iC iL iK s a1 a2 a3 a4⟩)
theorem lw_tried {x0 x1 : Int32} (hd : 40 ≤ d) (I : am_inv h) : am_cl mX10_tried d [.ref 0, .int x0, .int x1] h (fun r1 h1 => am_cl mX11_tried d [.ref 73, .int x0, .int x1] h1 (fun r2 h2 => am_eq r1 r2 h2)) := by
  obtain ⟨N, b, c, g, g', B, T, P, iB, iC, iL, iK⟩ := id I
  have hb : b = 38 ∨ b = 47 := by have := P.1; omega
  have hla : am_la g := by rcases (by have := P.2.1; omega : g = 56 ∨ g = 64) with rfl | rfl <;> simp [am_la]
  obtain ⟨L, l1, l2⟩ := id iL
  exact pp_tried (K := am_eq) (by omega) P.2.2.1 hb P.2.2.2.2.1 hla iB.1 iB.2.1 iB.2.2.1 iB.2.2.2 l1 l2 (fun r => ⟨rfl, I⟩) (fun r h' B' s a1 a2 a3 a4 => ⟨rfl, am_inv_kp T P iC iL iK s a1 a2 a3 a4⟩)
theorem lw_shut {x0 : Int32} (hd : 40 ≤ d) (I : am_inv h) : am_cl mX10_shut d [.ref 0, .int x0] h (fun r1 h1 => am_cl mX11_shut d [.ref 73, .int x0] h1 (fun r2 h2 => am_eq r1 r2 h2)) := by
  obtain ⟨N, b, c, g, g', B, T, P, iB, iC, iL, iK⟩ := id I
  have hb : b = 38 ∨ b = 47 := by have := P.1; omega
  have hla : am_la g := by rcases (by have := P.2.1; omega : g = 56 ∨ g = 64) with rfl | rfl <;> simp [am_la]
  obtain ⟨L, l1, l2⟩ := id iL
  exact pp_shut (K := am_eq) (by omega) P.2.2.1 hb P.2.2.2.2.1 hla iB.1 iB.2.1 iB.2.2.1 iB.2.2.2 l1 l2 (fun r => ⟨rfl, I⟩) (fun r h' B' s a1 a2 a3 a4 => ⟨rfl, am_inv_kp T P iC iL iK s a1 a2 a3 a4⟩)
theorem lw_undo (hd : 40 ≤ d) (I : am_inv h) : am_cl mX10_undo d [.ref 0] h (fun r1 h1 => am_cl mX11_undo d [.ref 73] h1 (fun r2 h2 => am_eq r1 r2 h2)) := by
  obtain ⟨N, b, c, g, g', B, T, P, iB, iC, iL, iK⟩ := id I
  have hb : b = 38 ∨ b = 47 := by have := P.1; omega
  exact pp_undo (K := am_eq) (by omega) P.2.2.1 hb iB.1 iB.2.1 iB.2.2.1 iB.2.2.2 iK.1 iK.2 (fun r => ⟨rfl, I⟩) (fun r h' B' s a1 a2 a3 a4 => ⟨rfl, am_inv_kp T P iC iL iK s a1 a2 a3 a4⟩)
theorem lw_keep (hd : 40 ≤ d) (I : am_inv h) : am_cl mX10_keep d [.ref 0] h (fun r1 h1 => am_cl mX11_keep d [.ref 73] h1 (fun r2 h2 => am_eq r1 r2 h2)) := by
  obtain ⟨N, b, c, g, g', B, T, P, iB, iC, iL, iK⟩ := id I
  have hb : b = 38 ∨ b = 47 := by have := P.1; omega
  have hc : (c = 38 ∧ b = 47) ∨ (c = 47 ∧ b = 38) := by have := P.1; omega
  have hg : g = 56 ∨ g = 64 := by have := P.2.1; omega
  refine pp_keep (K := am_eq) (by omega) P.2.2.1 hb iB.1 iB.2.1 iB.2.2.1 iB.2.2.2 (fun r h' a1 a2 a3 a4 a5 R J p => ⟨rfl, N, b, c, g, g', B, ?_, ?_, ?_, ?_, ?_, ?_⟩)
  · exact am_tape_cg (J 1 1 (by omega) (by omega) (by omega) (by omega)) (J 73 9 (by omega) (by omega) (by omega) (by omega)) (R 2 (by omega) (by omega)) (R 80 (by omega) (by omega)) T
  · exact iv_P_cg (by rw [p]) P
  · exact iv_B_cg (fun k k1 k2 => J b k (by omega) (by omega) (by omega) (by omega)) (fun i i1 i2 => R (b + i) (by omega) (by omega)) (R 74 (by omega) (by omega)) (J 73 6 (by omega) (by omega) (by omega) (by omega)) (J 73 7 (by omega) (by omega) (by omega) (by omega)) (fun a a1 a2 => R a (by omega) (by omega)) iB
  · exact iv_C_cg (J c 9 (by omega) (by omega) (by omega) (by omega)) (J c 10 (by omega) (by omega) (by omega) (by omega)) iC
  · exact iv_L_cg (J g 7 (by omega) (by omega) (by omega) (by omega)) (fun i i1 i2 => R (g + i) (by omega) (by omega)) (J 73 18 (by omega) (by omega) (by omega) (by omega)) (fun a a1 a2 => R a (by omega) (by omega)) iL
  · exact ⟨by rw [a4, a5], fun _ => ⟨B, iB.2.2.2, a1, a2, a3⟩⟩
theorem lw_feed {x0 x1 x2 x3 x4 : Int32} (hd : 40 ≤ d) (I : am_inv h) : am_cl mX10_feed d [.ref 0, .int x0, .int x1, .int x2, .int x3, .int x4] h (fun r1 h1 => am_cl mX11_feed d [.ref 73, .int x0, .int x1, .int x2, .int x3, .int x4] h1 (fun r2 h2 => am_eq r1 r2 h2)) := by
  obtain ⟨N, b, c, g, g', B, T, P, iB, iC, iL, iK⟩ := id I
  have hb : b = 38 ∨ b = 47 := by have := P.1; omega
  have hc : (c = 38 ∧ b = 47) ∨ (c = 47 ∧ b = 38) := by have := P.1; omega
  have hg : g = 56 ∨ g = 64 := by have := P.2.1; omega
  refine pp_feed (K := am_eq) (by omega) T (fun r => ⟨rfl, I⟩) (fun r h' N' T' R J p => ⟨rfl, N', b, c, g, g', B, T', iv_P_cg (by rw [p]) P, ?_, ?_, ?_, ?_⟩)
  · exact iv_B_cg (fun k k1 k2 => J b k (by omega) (by omega)) (fun i i1 i2 => R (b + i) (by omega) (by omega)) (R 74 (by omega) (by omega)) (J 73 6 (by omega) (by omega)) (J 73 7 (by omega) (by omega)) (fun a a1 a2 => R a (by omega) (by omega)) iB
  · exact iv_C_cg (J c 9 (by omega) (by omega)) (J c 10 (by omega) (by omega)) iC
  · exact iv_L_cg (J g 7 (by omega) (by omega)) (fun i i1 i2 => R (g + i) (by omega) (by omega)) (J 73 18 (by omega) (by omega)) (fun a a1 a2 => R a (by omega) (by omega)) iL
  · exact iv_K_cg (J 0 14 (by omega) (by omega)) (J 73 60 (by omega) (by omega)) (J 73 61 (by omega) (by omega)) (fun k _ _ => J 29 k (by omega) (by omega)) (fun a a1 a2 => R a (by omega) (by omega)) (R 76 (by omega) (by omega)) iK
theorem lw_cabinet {x0 : Int32} (hd : 40 ≤ d) (I : am_inv h) : am_cl mX10_cabinet d [.ref 0, .int x0] h (fun r1 h1 => am_cl mX11_cabinet d [.ref 73, .int x0] h1 (fun r2 h2 => am_eq r1 r2 h2)) := by
  obtain ⟨N, b, c, g, g', B, T, P, iB, iC, iL, iK⟩ := id I
  have hbc := P.1
  have hg : g = 56 ∨ g = 64 := by have := P.2.1; omega
  obtain ⟨D, X, c1, c2, c3, c4⟩ := id iC
  refine pp_cabinet (K := am_eq) (by omega) P.2.2.1 P.2.2.2.1 hbc iB.1 iB.2.1 iB.2.2.1 iB.2.2.2 T c1 c2 c3 c4 (fun r => ⟨rfl, I⟩) (fun r h' F e74 e77 e78 e79 e6 e7 e9 e10 p => ⟨rfl, 0, b, c, g, g', B, am_tape_0 F.2.2.1 F.2.2.2, iv_P_cg (by rw [p]) P, ?_, ?_, ?_, ?_⟩) (fun r h' B' F a1 a2 a3 a4 p10 p11 p => ⟨rfl, 0, c, b, g, g', B', am_tape_0 F.2.2.1 F.2.2.2, ⟨by omega, P.2.1, p10, p11, by rw [p 12 (by omega) (by omega)]; exact P.2.2.2.2.1, by rw [p 13 (by omega) (by omega)]; exact P.2.2.2.2.2⟩, ⟨a1, a2, a3, a4⟩, ?_, ?_, ?_⟩)
  · exact iv_B_cg (fun k k1 k2 => F.2.1 b k (by omega) (by omega) (by omega) (by omega)) (fun i i1 i2 => F.1 (b + i) (by omega) (by omega) (by omega)) e74 e6 e7 (fun a a1 a2 => by rcases (by omega : a = 77 ∨ a = 78 ∨ a = 79) with rfl | rfl | rfl; exact e77; exact e78; exact e79) iB
  · exact iv_C_cg e9 e10 iC
  · exact iv_L_cg (F.2.1 g 7 (by omega) (by omega) (by omega) (by omega)) (fun i i1 i2 => F.1 (g + i) (by omega) (by omega) (by omega)) (F.2.1 73 18 (by omega) (by omega) (by omega) (by omega)) (fun a a1 a2 => F.1 a (by omega) (by omega) (by omega)) iL
  · exact iv_K_cg (F.2.1 0 14 (by omega) (by omega) (by omega) (by omega)) (F.2.1 73 60 (by omega) (by omega) (by omega) (by omega)) (F.2.1 73 61 (by omega) (by omega) (by omega) (by omega)) (fun k _ _ => F.2.1 29 k (by omega) (by omega) (by omega) (by omega)) (fun a a1 a2 => F.1 a (by omega) (by omega) (by omega)) (F.1 76 (by omega) (by omega) (by omega)) iK
  · exact ⟨q_d B, q_x B, by rw [F.2.1 b 9 (by omega) (by omega) (by omega) (by omega)]; exact iB.1.2.1, by rw [F.2.1 b 10 (by omega) (by omega) (by omega) (by omega)]; exact iB.1.2.2.1, iB.2.2.2.2.1, iB.2.2.2.2.2.1⟩
  · exact iv_L_cg (F.2.1 g 7 (by omega) (by omega) (by omega) (by omega)) (fun i i1 i2 => F.1 (g + i) (by omega) (by omega) (by omega)) (F.2.1 73 18 (by omega) (by omega) (by omega) (by omega)) (fun a a1 a2 => F.1 a (by omega) (by omega) (by omega)) iL
  · exact iv_K_cg (F.2.1 0 14 (by omega) (by omega) (by omega) (by omega)) (F.2.1 73 60 (by omega) (by omega) (by omega) (by omega)) (F.2.1 73 61 (by omega) (by omega) (by omega) (by omega)) (fun k _ _ => F.2.1 29 k (by omega) (by omega) (by omega) (by omega)) (fun a a1 a2 => F.1 a (by omega) (by omega) (by omega)) (F.1 76 (by omega) (by omega) (by omega)) iK
theorem lw_law {x0 : Int32} (hd : 40 ≤ d) (I : am_inv h) : am_cl mX10_law d [.ref 0, .int x0] h (fun r1 h1 => am_cl mX11_law d [.ref 73, .int x0] h1 (fun r2 h2 => am_eq r1 r2 h2)) := by
  obtain ⟨N, b, c, g, g', B, T, P, iB, iC, iL, iK⟩ := id I
  have hgg := P.2.1
  have hb : (b = 38 ∧ c = 47) ∨ (b = 47 ∧ c = 38) := P.1
  refine pp_law (K := am_eq) hd P.2.2.2.2.1 P.2.2.2.2.2 hgg T (fun r => ⟨rfl, I⟩) (fun r h' F e87 e18 p => ⟨rfl, 0, b, c, g, g', B, am_tape_0 F.2.2.1 F.2.2.2.1, iv_P_cg p P, ?_, ?_, ?_, ?_⟩) (fun r h' L F a1 a2 p12 p13 p => ⟨rfl, 0, b, c, g', g, B, am_tape_0 F.2.2.1 F.2.2.2.1, ⟨P.1, by omega, by rw [p 10 (by omega) (by omega)]; exact P.2.2.1, by rw [p 11 (by omega) (by omega)]; exact P.2.2.2.1, p12, p13⟩, ?_, ?_, ⟨L, a1, a2⟩, ?_⟩)
  · exact iv_B_cg (fun k k1 k2 => F.2.1 b k (by omega) (by omega) (by omega) (by omega)) (fun i i1 i2 => F.1 (b + i) (by omega) (by omega)) (F.1 74 (by omega) (by omega)) (F.2.1 73 6 (by omega) (by omega) (by omega) (by omega)) (F.2.1 73 7 (by omega) (by omega) (by omega) (by omega)) (fun a a1 a2 => F.1 a (by omega) (by omega)) iB
  · exact iv_C_cg (F.2.1 c 9 (by omega) (by omega) (by omega) (by omega)) (F.2.1 c 10 (by omega) (by omega) (by omega) (by omega)) iC
  · exact iv_L_cg (F.2.1 g 7 (by omega) (by omega) (by omega) (by omega)) (fun i i1 i2 => F.1 (g + i) (by omega) (by omega)) e18 e87 iL
  · exact iv_K_cg (F.2.1 0 14 (by omega) (by omega) (by omega) (by omega)) (F.2.1 73 60 (by omega) (by omega) (by omega) (by omega)) (F.2.1 73 61 (by omega) (by omega) (by omega) (by omega)) (fun k _ _ => F.2.1 29 k (by omega) (by omega) (by omega) (by omega)) (fun a a1 a2 => F.1 a (by omega) (by omega)) (F.1 76 (by omega) (by omega)) iK
  · exact iv_B_cg (fun k k1 k2 => F.2.1 b k (by omega) (by omega) (by omega) (by omega)) (fun i i1 i2 => F.1 (b + i) (by omega) (by omega)) (F.1 74 (by omega) (by omega)) (F.2.1 73 6 (by omega) (by omega) (by omega) (by omega)) (F.2.1 73 7 (by omega) (by omega) (by omega) (by omega)) (fun a a1 a2 => F.1 a (by omega) (by omega)) iB
  · exact iv_C_cg (F.2.1 c 9 (by omega) (by omega) (by omega) (by omega)) (F.2.1 c 10 (by omega) (by omega) (by omega) (by omega)) iC
  · exact iv_K_cg (F.2.1 0 14 (by omega) (by omega) (by omega) (by omega)) (F.2.1 73 60 (by omega) (by omega) (by omega) (by omega)) (F.2.1 73 61 (by omega) (by omega) (by omega) (by omega)) (fun k _ _ => F.2.1 29 k (by omega) (by omega) (by omega) (by omega)) (fun a a1 a2 => F.1 a (by omega) (by omega)) (F.1 76 (by omega) (by omega)) iK
end
