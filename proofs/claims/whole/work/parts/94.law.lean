-- the law's loop: its steps
abbrev mL_law : am_M := (yL_law, cL_law, 4, some .boolean)
section
variable {M : am_M} {Ls : Nat} {xs : Nat → Int32} {d pc : Nat} {L st : List Value} {h : am_H} {Z : Int32 → am_H → Prop}
theorem am_nA {G : am_G} (q : G.2.1 < G.1) : ¬ am_A G G.2.1 := fun w => absurd q (Nat.not_lt.mpr w)
theorem st_sld {i : Int32} (hd : decode M.2.1 pc = .ok (.iaload, 1)) (hi : vp_in i Ls) (k : Ru M (some (Ls, xs)) d (pc + 1) L (.int (xs i.toNatClampNeg) :: st) h Z) : Ru M (some (Ls, xs)) d pc L (.int i :: .retAddr 0 :: st) h Z := by
  intro p l e R s m args below meth c H locs cells slots Q G D cT ls C hP hS hL hret
  have X : va_X G.2.1 Ls xs s s.heap ∧ G.2.1 < s.heap.size ∧ G.2.1 < G.1 := C.2.2.2.2.2.2.2.1
  exact va_sld C.1 C.2.1 X.1 X.2.1 (am_nA X.2.2) hS hi hd (k p l e R s m args below meth c H locs cells slots Q G D cT ls C hP hS hL hret)
theorem st_slen (hd : decode M.2.1 pc = .ok (.arraylength, 1)) (k : Ru M (some (Ls, xs)) d (pc + 1) L (.int (Int32.ofNat Ls) :: st) h Z) : Ru M (some (Ls, xs)) d pc L (.retAddr 0 :: st) h Z := by
  intro p l e R s m args below meth c H locs cells slots Q G D cT ls C hP hS hL hret
  have X : va_X G.2.1 Ls xs s s.heap ∧ G.2.1 < s.heap.size ∧ G.2.1 < G.1 := C.2.2.2.2.2.2.2.1
  exact va_slen C.1 C.2.1 X.1 X.2.1 (am_nA X.2.2) hS hd (k p l e R s m args below meth c H locs cells slots Q G D cT ls C hP hS hL hret)
end
set_option maxRecDepth 20000 in
set_option maxHeartbeats 2000000 in
theorem sL_law_18 {Ls : Nat} {xs : Nat → Int32} {d : Nat} {h : am_H} {Z : Int32 → am_H → Prop} {x3 : Int32} (w : (((Int32.ofNat Ls) - 6) < x3 → Z 1 h) ∧ (¬ (((Int32.ofNat Ls) - 6) < x3) → (vp_in x3 Ls ∧ ((((xs x3.toNatClampNeg) &&& 31) = 0 → Ru mL_law (some (Ls, xs)) d 164 [.retAddr 0, .ref 0, .ref 73, .int x3] [] h Z) ∧ (¬ ((xs x3.toNatClampNeg) &&& 31) = 0 → (((xs x3.toNatClampNeg) &&& 31) = 1 → Ru mL_law (some (Ls, xs)) d 197 [.retAddr 0, .ref 0, .ref 73, .int x3] [] h Z) ∧ (¬ ((xs x3.toNatClampNeg) &&& 31) = 1 → (((xs x3.toNatClampNeg) &&& 31) = 2 → Ru mL_law (some (Ls, xs)) d 260 [.retAddr 0, .ref 0, .ref 73, .int x3] [] h Z) ∧ (¬ ((xs x3.toNatClampNeg) &&& 31) = 2 → (((xs x3.toNatClampNeg) &&& 31) = 3 → Ru mL_law (some (Ls, xs)) d 283 [.retAddr 0, .ref 0, .ref 73, .int x3] [] h Z) ∧ (¬ ((xs x3.toNatClampNeg) &&& 31) = 3 → (((xs x3.toNatClampNeg) &&& 31) = 4 → Ru mL_law (some (Ls, xs)) d 306 [.retAddr 0, .ref 0, .ref 73, .int x3] [] h Z) ∧ (¬ ((xs x3.toNatClampNeg) &&& 31) = 4 → (((xs x3.toNatClampNeg) &&& 31) = 5 → Ru mL_law (some (Ls, xs)) d 329 [.retAddr 0, .ref 0, .ref 73, .int x3] [] h Z) ∧ (¬ ((xs x3.toNatClampNeg) &&& 31) = 5 → (((xs x3.toNatClampNeg) &&& 31) = 6 → Ru mL_law (some (Ls, xs)) d 362 [.retAddr 0, .ref 0, .ref 73, .int x3] [] h Z) ∧ (¬ ((xs x3.toNatClampNeg) &&& 31) = 6 → (((xs x3.toNatClampNeg) &&& 31) = 7 → Ru mL_law (some (Ls, xs)) d 395 [.retAddr 0, .ref 0, .ref 73, .int x3] [] h Z) ∧ (¬ ((xs x3.toNatClampNeg) &&& 31) = 7 → (((xs x3.toNatClampNeg) &&& 31) = 8 → Ru mL_law (some (Ls, xs)) d 428 [.retAddr 0, .ref 0, .ref 73, .int x3] [] h Z) ∧ (¬ ((xs x3.toNatClampNeg) &&& 31) = 8 → (((xs x3.toNatClampNeg) &&& 31) = 9 → Ru mL_law (some (Ls, xs)) d 451 [.retAddr 0, .ref 0, .ref 73, .int x3] [] h Z) ∧ (¬ ((xs x3.toNatClampNeg) &&& 31) = 9 → (((xs x3.toNatClampNeg) &&& 31) = 10 → Ru mL_law (some (Ls, xs)) d 464 [.retAddr 0, .ref 0, .ref 73, .int x3] [] h Z) ∧ (¬ ((xs x3.toNatClampNeg) &&& 31) = 10 → (((xs x3.toNatClampNeg) &&& 31) = 11 → Ru mL_law (some (Ls, xs)) d 487 [.retAddr 0, .ref 0, .ref 73, .int x3] [] h Z) ∧ (¬ ((xs x3.toNatClampNeg) &&& 31) = 11 → (((xs x3.toNatClampNeg) &&& 31) = 12 → Ru mL_law (some (Ls, xs)) d 520 [.retAddr 0, .ref 0, .ref 73, .int x3] [] h Z) ∧ (¬ ((xs x3.toNatClampNeg) &&& 31) = 12 → (((xs x3.toNatClampNeg) &&& 31) = 13 → Ru mL_law (some (Ls, xs)) d 533 [.retAddr 0, .ref 0, .ref 73, .int x3] [] h Z) ∧ (¬ ((xs x3.toNatClampNeg) &&& 31) = 13 → (((xs x3.toNatClampNeg) &&& 31) = 14 → Ru mL_law (some (Ls, xs)) d 566 [.retAddr 0, .ref 0, .ref 73, .int x3] [] h Z) ∧ (¬ ((xs x3.toNatClampNeg) &&& 31) = 14 → (((xs x3.toNatClampNeg) &&& 31) = 15 → Ru mL_law (some (Ls, xs)) d 609 [.retAddr 0, .ref 0, .ref 73, .int x3] [] h Z) ∧ (¬ ((xs x3.toNatClampNeg) &&& 31) = 15 → (((xs x3.toNatClampNeg) &&& 31) = 16 → Ru mL_law (some (Ls, xs)) d 632 [.retAddr 0, .ref 0, .ref 73, .int x3] [] h Z) ∧ (¬ ((xs x3.toNatClampNeg) &&& 31) = 16 → (((xs x3.toNatClampNeg) &&& 31) = 17 → Ru mL_law (some (Ls, xs)) d 655 [.retAddr 0, .ref 0, .ref 73, .int x3] [] h Z) ∧ (¬ ((xs x3.toNatClampNeg) &&& 31) = 17 → (((xs x3.toNatClampNeg) &&& 31) = 18 → Ru mL_law (some (Ls, xs)) d 678 [.retAddr 0, .ref 0, .ref 73, .int x3] [] h Z) ∧ (¬ ((xs x3.toNatClampNeg) &&& 31) = 18 → (((xs x3.toNatClampNeg) &&& 31) = 19 → Ru mL_law (some (Ls, xs)) d 721 [.retAddr 0, .ref 0, .ref 73, .int x3] [] h Z) ∧ (¬ ((xs x3.toNatClampNeg) &&& 31) = 19 → (((xs x3.toNatClampNeg) &&& 31) = 20 → Ru mL_law (some (Ls, xs)) d 754 [.retAddr 0, .ref 0, .ref 73, .int x3] [] h Z) ∧ (¬ ((xs x3.toNatClampNeg) &&& 31) = 20 → (((xs x3.toNatClampNeg) &&& 31) = 21 → Ru mL_law (some (Ls, xs)) d 797 [.retAddr 0, .ref 0, .ref 73, .int x3] [] h Z) ∧ (¬ ((xs x3.toNatClampNeg) &&& 31) = 21 → (((xs x3.toNatClampNeg) &&& 31) = 22 → Ru mL_law (some (Ls, xs)) d 830 [.retAddr 0, .ref 0, .ref 73, .int x3] [] h Z) ∧ (¬ ((xs x3.toNatClampNeg) &&& 31) = 22 → (((xs x3.toNatClampNeg) &&& 31) = 23 → Ru mL_law (some (Ls, xs)) d 863 [.retAddr 0, .ref 0, .ref 73, .int x3] [] h Z) ∧ (¬ ((xs x3.toNatClampNeg) &&& 31) = 23 → (((xs x3.toNatClampNeg) &&& 31) = 24 → Ru mL_law (some (Ls, xs)) d 896 [.retAddr 0, .ref 0, .ref 73, .int x3] [] h Z) ∧ (¬ ((xs x3.toNatClampNeg) &&& 31) = 24 → (((xs x3.toNatClampNeg) &&& 31) = 25 → Ru mL_law (some (Ls, xs)) d 919 [.retAddr 0, .ref 0, .ref 73, .int x3] [] h Z) ∧ (¬ ((xs x3.toNatClampNeg) &&& 31) = 25 → (((xs x3.toNatClampNeg) &&& 31) = 26 → Ru mL_law (some (Ls, xs)) d 932 [.retAddr 0, .ref 0, .ref 73, .int x3] [] h Z) ∧ (¬ ((xs x3.toNatClampNeg) &&& 31) = 26 → (((xs x3.toNatClampNeg) &&& 31) = 27 → Ru mL_law (some (Ls, xs)) d 945 [.retAddr 0, .ref 0, .ref 73, .int x3] [] h Z) ∧ (¬ ((xs x3.toNatClampNeg) &&& 31) = 27 → (((xs x3.toNatClampNeg) &&& 31) = 28 → Ru mL_law (some (Ls, xs)) d 968 [.retAddr 0, .ref 0, .ref 73, .int x3] [] h Z) ∧ (¬ ((xs x3.toNatClampNeg) &&& 31) = 28 → Ru mL_law (some (Ls, xs)) d 991 [.retAddr 0, .ref 0, .ref 73, .int x3] [] h Z))))))))))))))))))))))))))))))))) : Ru mL_law (some (Ls, xs)) d 18 [.retAddr 0, .ref 0, .ref 73, .int x3] [] h Z := by
  refine st_iload_n dL_law_18 rfl ?_
  refine st_aload0_n dL_law_19 rfl ?_
  refine st_slen dL_law_20 ?_
  refine st_bipush (v := 6) dL_law_21 (by decide) ?_
  refine st_isub dL_law_23 ?_
  refine st_icmp_gt (tgt := 997) dL_law_24 (by decide) (fun c => ?_) (fun c => ?_)
  · replace w := w.1 c
    refine st_iconst (v := 1) dL_law_997 (by decide) ?_
    exact st_ireturn rfl rfl dL_law_998 w
  · replace w := w.2 c
    refine st_aload0_n dL_law_27 rfl ?_
    refine st_iload_n dL_law_28 rfl ?_
    have hc1 := w.1
    replace w := w.2
    refine st_sld dL_law_29 hc1 ?_
    refine st_bipush (v := 31) dL_law_30 (by decide) ?_
    refine st_iand dL_law_32 ?_
    by_cases c0 : ((xs x3.toNatClampNeg) &&& 31) = 0
    · replace w := w.1 c0
      refine st_tableIn (off := 131) (tgt := 164) dL_law_33 (by rw [c0]; decide) (by rw [c0]; decide) (by rw [c0]; decide) (by decide) ?_
      exact w
    · replace w := w.2 c0
      by_cases c1 : ((xs x3.toNatClampNeg) &&& 31) = 1
      · replace w := w.1 c1
        refine st_tableIn (off := 164) (tgt := 197) dL_law_33 (by rw [c1]; decide) (by rw [c1]; decide) (by rw [c1]; decide) (by decide) ?_
        exact w
      · replace w := w.2 c1
        by_cases c2 : ((xs x3.toNatClampNeg) &&& 31) = 2
        · replace w := w.1 c2
          refine st_tableIn (off := 227) (tgt := 260) dL_law_33 (by rw [c2]; decide) (by rw [c2]; decide) (by rw [c2]; decide) (by decide) ?_
          exact w
        · replace w := w.2 c2
          by_cases c3 : ((xs x3.toNatClampNeg) &&& 31) = 3
          · replace w := w.1 c3
            refine st_tableIn (off := 250) (tgt := 283) dL_law_33 (by rw [c3]; decide) (by rw [c3]; decide) (by rw [c3]; decide) (by decide) ?_
            exact w
          · replace w := w.2 c3
            by_cases c4 : ((xs x3.toNatClampNeg) &&& 31) = 4
            · replace w := w.1 c4
              refine st_tableIn (off := 273) (tgt := 306) dL_law_33 (by rw [c4]; decide) (by rw [c4]; decide) (by rw [c4]; decide) (by decide) ?_
              exact w
            · replace w := w.2 c4
              by_cases c5 : ((xs x3.toNatClampNeg) &&& 31) = 5
              · replace w := w.1 c5
                refine st_tableIn (off := 296) (tgt := 329) dL_law_33 (by rw [c5]; decide) (by rw [c5]; decide) (by rw [c5]; decide) (by decide) ?_
                exact w
              · replace w := w.2 c5
                by_cases c6 : ((xs x3.toNatClampNeg) &&& 31) = 6
                · replace w := w.1 c6
                  refine st_tableIn (off := 329) (tgt := 362) dL_law_33 (by rw [c6]; decide) (by rw [c6]; decide) (by rw [c6]; decide) (by decide) ?_
                  exact w
                · replace w := w.2 c6
                  by_cases c7 : ((xs x3.toNatClampNeg) &&& 31) = 7
                  · replace w := w.1 c7
                    refine st_tableIn (off := 362) (tgt := 395) dL_law_33 (by rw [c7]; decide) (by rw [c7]; decide) (by rw [c7]; decide) (by decide) ?_
                    exact w
                  · replace w := w.2 c7
                    by_cases c8 : ((xs x3.toNatClampNeg) &&& 31) = 8
                    · replace w := w.1 c8
                      refine st_tableIn (off := 395) (tgt := 428) dL_law_33 (by rw [c8]; decide) (by rw [c8]; decide) (by rw [c8]; decide) (by decide) ?_
                      exact w
                    · replace w := w.2 c8
                      by_cases c9 : ((xs x3.toNatClampNeg) &&& 31) = 9
                      · replace w := w.1 c9
                        refine st_tableIn (off := 418) (tgt := 451) dL_law_33 (by rw [c9]; decide) (by rw [c9]; decide) (by rw [c9]; decide) (by decide) ?_
                        exact w
                      · replace w := w.2 c9
                        by_cases c10 : ((xs x3.toNatClampNeg) &&& 31) = 10
                        · replace w := w.1 c10
                          refine st_tableIn (off := 431) (tgt := 464) dL_law_33 (by rw [c10]; decide) (by rw [c10]; decide) (by rw [c10]; decide) (by decide) ?_
                          exact w
                        · replace w := w.2 c10
                          by_cases c11 : ((xs x3.toNatClampNeg) &&& 31) = 11
                          · replace w := w.1 c11
                            refine st_tableIn (off := 454) (tgt := 487) dL_law_33 (by rw [c11]; decide) (by rw [c11]; decide) (by rw [c11]; decide) (by decide) ?_
                            exact w
                          · replace w := w.2 c11
                            by_cases c12 : ((xs x3.toNatClampNeg) &&& 31) = 12
                            · replace w := w.1 c12
                              refine st_tableIn (off := 487) (tgt := 520) dL_law_33 (by rw [c12]; decide) (by rw [c12]; decide) (by rw [c12]; decide) (by decide) ?_
                              exact w
                            · replace w := w.2 c12
                              by_cases c13 : ((xs x3.toNatClampNeg) &&& 31) = 13
                              · replace w := w.1 c13
                                refine st_tableIn (off := 500) (tgt := 533) dL_law_33 (by rw [c13]; decide) (by rw [c13]; decide) (by rw [c13]; decide) (by decide) ?_
                                exact w
                              · replace w := w.2 c13
                                by_cases c14 : ((xs x3.toNatClampNeg) &&& 31) = 14
                                · replace w := w.1 c14
                                  refine st_tableIn (off := 533) (tgt := 566) dL_law_33 (by rw [c14]; decide) (by rw [c14]; decide) (by rw [c14]; decide) (by decide) ?_
                                  exact w
                                · replace w := w.2 c14
                                  by_cases c15 : ((xs x3.toNatClampNeg) &&& 31) = 15
                                  · replace w := w.1 c15
                                    refine st_tableIn (off := 576) (tgt := 609) dL_law_33 (by rw [c15]; decide) (by rw [c15]; decide) (by rw [c15]; decide) (by decide) ?_
                                    exact w
                                  · replace w := w.2 c15
                                    by_cases c16 : ((xs x3.toNatClampNeg) &&& 31) = 16
                                    · replace w := w.1 c16
                                      refine st_tableIn (off := 599) (tgt := 632) dL_law_33 (by rw [c16]; decide) (by rw [c16]; decide) (by rw [c16]; decide) (by decide) ?_
                                      exact w
                                    · replace w := w.2 c16
                                      by_cases c17 : ((xs x3.toNatClampNeg) &&& 31) = 17
                                      · replace w := w.1 c17
                                        refine st_tableIn (off := 622) (tgt := 655) dL_law_33 (by rw [c17]; decide) (by rw [c17]; decide) (by rw [c17]; decide) (by decide) ?_
                                        exact w
                                      · replace w := w.2 c17
                                        by_cases c18 : ((xs x3.toNatClampNeg) &&& 31) = 18
                                        · replace w := w.1 c18
                                          refine st_tableIn (off := 645) (tgt := 678) dL_law_33 (by rw [c18]; decide) (by rw [c18]; decide) (by rw [c18]; decide) (by decide) ?_
                                          exact w
                                        · replace w := w.2 c18
                                          by_cases c19 : ((xs x3.toNatClampNeg) &&& 31) = 19
                                          · replace w := w.1 c19
                                            refine st_tableIn (off := 688) (tgt := 721) dL_law_33 (by rw [c19]; decide) (by rw [c19]; decide) (by rw [c19]; decide) (by decide) ?_
                                            exact w
                                          · replace w := w.2 c19
                                            by_cases c20 : ((xs x3.toNatClampNeg) &&& 31) = 20
                                            · replace w := w.1 c20
                                              refine st_tableIn (off := 721) (tgt := 754) dL_law_33 (by rw [c20]; decide) (by rw [c20]; decide) (by rw [c20]; decide) (by decide) ?_
                                              exact w
                                            · replace w := w.2 c20
                                              by_cases c21 : ((xs x3.toNatClampNeg) &&& 31) = 21
                                              · replace w := w.1 c21
                                                refine st_tableIn (off := 764) (tgt := 797) dL_law_33 (by rw [c21]; decide) (by rw [c21]; decide) (by rw [c21]; decide) (by decide) ?_
                                                exact w
                                              · replace w := w.2 c21
                                                by_cases c22 : ((xs x3.toNatClampNeg) &&& 31) = 22
                                                · replace w := w.1 c22
                                                  refine st_tableIn (off := 797) (tgt := 830) dL_law_33 (by rw [c22]; decide) (by rw [c22]; decide) (by rw [c22]; decide) (by decide) ?_
                                                  exact w
                                                · replace w := w.2 c22
                                                  by_cases c23 : ((xs x3.toNatClampNeg) &&& 31) = 23
                                                  · replace w := w.1 c23
                                                    refine st_tableIn (off := 830) (tgt := 863) dL_law_33 (by rw [c23]; decide) (by rw [c23]; decide) (by rw [c23]; decide) (by decide) ?_
                                                    exact w
                                                  · replace w := w.2 c23
                                                    by_cases c24 : ((xs x3.toNatClampNeg) &&& 31) = 24
                                                    · replace w := w.1 c24
                                                      refine st_tableIn (off := 863) (tgt := 896) dL_law_33 (by rw [c24]; decide) (by rw [c24]; decide) (by rw [c24]; decide) (by decide) ?_
                                                      exact w
                                                    · replace w := w.2 c24
                                                      by_cases c25 : ((xs x3.toNatClampNeg) &&& 31) = 25
                                                      · replace w := w.1 c25
                                                        refine st_tableIn (off := 886) (tgt := 919) dL_law_33 (by rw [c25]; decide) (by rw [c25]; decide) (by rw [c25]; decide) (by decide) ?_
                                                        exact w
                                                      · replace w := w.2 c25
                                                        by_cases c26 : ((xs x3.toNatClampNeg) &&& 31) = 26
                                                        · replace w := w.1 c26
                                                          refine st_tableIn (off := 899) (tgt := 932) dL_law_33 (by rw [c26]; decide) (by rw [c26]; decide) (by rw [c26]; decide) (by decide) ?_
                                                          exact w
                                                        · replace w := w.2 c26
                                                          by_cases c27 : ((xs x3.toNatClampNeg) &&& 31) = 27
                                                          · replace w := w.1 c27
                                                            refine st_tableIn (off := 912) (tgt := 945) dL_law_33 (by rw [c27]; decide) (by rw [c27]; decide) (by rw [c27]; decide) (by decide) ?_
                                                            exact w
                                                          · replace w := w.2 c27
                                                            by_cases c28 : ((xs x3.toNatClampNeg) &&& 31) = 28
                                                            · replace w := w.1 c28
                                                              refine st_tableIn (off := 935) (tgt := 968) dL_law_33 (by rw [c28]; decide) (by rw [c28]; decide) (by rw [c28]; decide) (by decide) ?_
                                                              exact w
                                                            · replace w := w.2 c28
                                                              refine st_tableOut (tgt := 991) dL_law_33 (am_tout (lo := 0) (hi := 28) (fun v hv1 hv2 hv => ?_)) (by decide) ?_
                                                              · have hq : v = 0 ∨ v = 1 ∨ v = 2 ∨ v = 3 ∨ v = 4 ∨ v = 5 ∨ v = 6 ∨ v = 7 ∨ v = 8 ∨ v = 9 ∨ v = 10 ∨ v = 11 ∨ v = 12 ∨ v = 13 ∨ v = 14 ∨ v = 15 ∨ v = 16 ∨ v = 17 ∨ v = 18 ∨ v = 19 ∨ v = 20 ∨ v = 21 ∨ v = 22 ∨ v = 23 ∨ v = 24 ∨ v = 25 ∨ v = 26 ∨ v = 27 ∨ v = 28 := by omega
                                                                rcases hq with rfl | rfl | rfl | rfl | rfl | rfl | rfl | rfl | rfl | rfl | rfl | rfl | rfl | rfl | rfl | rfl | rfl | rfl | rfl | rfl | rfl | rfl | rfl | rfl | rfl | rfl | rfl | rfl | rfl
                                                                · exact c0 (am_toI hv (by decide))
                                                                · exact c1 (am_toI hv (by decide))
                                                                · exact c2 (am_toI hv (by decide))
                                                                · exact c3 (am_toI hv (by decide))
                                                                · exact c4 (am_toI hv (by decide))
                                                                · exact c5 (am_toI hv (by decide))
                                                                · exact c6 (am_toI hv (by decide))
                                                                · exact c7 (am_toI hv (by decide))
                                                                · exact c8 (am_toI hv (by decide))
                                                                · exact c9 (am_toI hv (by decide))
                                                                · exact c10 (am_toI hv (by decide))
                                                                · exact c11 (am_toI hv (by decide))
                                                                · exact c12 (am_toI hv (by decide))
                                                                · exact c13 (am_toI hv (by decide))
                                                                · exact c14 (am_toI hv (by decide))
                                                                · exact c15 (am_toI hv (by decide))
                                                                · exact c16 (am_toI hv (by decide))
                                                                · exact c17 (am_toI hv (by decide))
                                                                · exact c18 (am_toI hv (by decide))
                                                                · exact c19 (am_toI hv (by decide))
                                                                · exact c20 (am_toI hv (by decide))
                                                                · exact c21 (am_toI hv (by decide))
                                                                · exact c22 (am_toI hv (by decide))
                                                                · exact c23 (am_toI hv (by decide))
                                                                · exact c24 (am_toI hv (by decide))
                                                                · exact c25 (am_toI hv (by decide))
                                                                · exact c26 (am_toI hv (by decide))
                                                                · exact c27 (am_toI hv (by decide))
                                                                · exact c28 (am_toI hv (by decide))
                                                              · exact w
set_option maxRecDepth 20000 in
set_option maxHeartbeats 2000000 in
theorem sL_law_991 {Ls : Nat} {xs : Nat → Int32} {d : Nat} {h : am_H} {Z : Int32 → am_H → Prop} {x3 : Int32} (w : Ru mL_law (some (Ls, xs)) d 18 [.retAddr 0, .ref 0, .ref 73, .int (x3 + 6)] [] h Z) : Ru mL_law (some (Ls, xs)) d 991 [.retAddr 0, .ref 0, .ref 73, .int x3] [] h Z := by
  refine st_iinc (L' := [.retAddr 0, .ref 0, .ref 73, .int (x3 + 6)]) dL_law_991 rfl rfl (by decide) rfl ?_
  refine st_goto (tgt := 18) dL_law_994 (by decide) ?_
  exact w
set_option maxRecDepth 20000 in
set_option maxHeartbeats 2000000 in
theorem sL_law_968 {Ls : Nat} {xs : Nat → Int32} {d : Nat} {h : am_H} {Z : Int32 → am_H → Prop} {x3 : Int32} (w : (vp_in (x3 + 1) Ls ∧ (am_cl mX10_count d [.ref 0, .int (xs (x3 + 1).toNatClampNeg)] h (fun r2 h3 => am_cl mX11_count d [.ref 73, .int (xs (x3 + 1).toNatClampNeg)] h3 (fun r4 h5 => (r2 = r4 → Ru mL_law (some (Ls, xs)) d 991 [.retAddr 0, .ref 0, .ref 73, .int x3] [] h5 Z) ∧ (¬ (r2 = r4) → Z 0 h5)))))) : Ru mL_law (some (Ls, xs)) d 968 [.retAddr 0, .ref 0, .ref 73, .int x3] [] h Z := by
  refine st_aload_n dL_law_968 rfl ?_
  refine st_aload0_n dL_law_969 rfl ?_
  refine st_iload_n dL_law_970 rfl ?_
  refine st_iconst (v := 1) dL_law_971 (by decide) ?_
  refine st_iadd dL_law_972 ?_
  have hc1 := w.1
  replace w := w.2
  refine st_sld dL_law_973 hc1 ?_
  refine st_callV (M' := mX10_count) [.int (xs (x3 + 1).toNatClampNeg)] [] dL_law_974 ml_L_133 mf_X10_count mv_X10_count sh_0 rfl rfl rfl w (fun r2 h3 w => ?_)
  show Ru mL_law (some (Ls, xs)) d 977 [.retAddr 0, .ref 0, .ref 73, .int x3] [.int r2] h3 Z
  refine st_aload_n dL_law_977 rfl ?_
  refine st_aload0_n dL_law_978 rfl ?_
  refine st_iload_n dL_law_979 rfl ?_
  refine st_iconst (v := 1) dL_law_980 (by decide) ?_
  refine st_iadd dL_law_981 ?_
  refine st_sld dL_law_982 hc1 ?_
  refine st_callV (M' := mX11_count) [.int (xs (x3 + 1).toNatClampNeg)] [.int r2] dL_law_983 ml_L_136 mf_X11_count mv_X11_count sh_73 rfl rfl rfl w (fun r4 h5 w => ?_)
  show Ru mL_law (some (Ls, xs)) d 986 [.retAddr 0, .ref 0, .ref 73, .int x3] [.int r4, .int r2] h5 Z
  refine st_icmp_eq (tgt := 991) dL_law_986 (by decide) (fun c => ?_) (fun c => ?_)
  · replace w := w.1 c
    exact w
  · replace w := w.2 c
    refine st_iconst (v := 0) dL_law_989 (by decide) ?_
    exact st_ireturn rfl rfl dL_law_990 w
set_option maxRecDepth 20000 in
set_option maxHeartbeats 2000000 in
theorem sL_law_945 {Ls : Nat} {xs : Nat → Int32} {d : Nat} {h : am_H} {Z : Int32 → am_H → Prop} {x3 : Int32} (w : (vp_in (x3 + 1) Ls ∧ (am_cl mX10_check d [.ref 0, .int (xs (x3 + 1).toNatClampNeg)] h (fun r2 h3 => am_cl mX11_check d [.ref 73, .int (xs (x3 + 1).toNatClampNeg)] h3 (fun r4 h5 => (r2 = r4 → Ru mL_law (some (Ls, xs)) d 991 [.retAddr 0, .ref 0, .ref 73, .int x3] [] h5 Z) ∧ (¬ (r2 = r4) → Z 0 h5)))))) : Ru mL_law (some (Ls, xs)) d 945 [.retAddr 0, .ref 0, .ref 73, .int x3] [] h Z := by
  refine st_aload_n dL_law_945 rfl ?_
  refine st_aload0_n dL_law_946 rfl ?_
  refine st_iload_n dL_law_947 rfl ?_
  refine st_iconst (v := 1) dL_law_948 (by decide) ?_
  refine st_iadd dL_law_949 ?_
  have hc1 := w.1
  replace w := w.2
  refine st_sld dL_law_950 hc1 ?_
  refine st_callV (M' := mX10_check) [.int (xs (x3 + 1).toNatClampNeg)] [] dL_law_951 ml_L_129 mf_X10_check mv_X10_check sh_0 rfl rfl rfl w (fun r2 h3 w => ?_)
  show Ru mL_law (some (Ls, xs)) d 954 [.retAddr 0, .ref 0, .ref 73, .int x3] [.int r2] h3 Z
  refine st_aload_n dL_law_954 rfl ?_
  refine st_aload0_n dL_law_955 rfl ?_
  refine st_iload_n dL_law_956 rfl ?_
  refine st_iconst (v := 1) dL_law_957 (by decide) ?_
  refine st_iadd dL_law_958 ?_
  refine st_sld dL_law_959 hc1 ?_
  refine st_callV (M' := mX11_check) [.int (xs (x3 + 1).toNatClampNeg)] [.int r2] dL_law_960 ml_L_132 mf_X11_check mv_X11_check sh_73 rfl rfl rfl w (fun r4 h5 w => ?_)
  show Ru mL_law (some (Ls, xs)) d 963 [.retAddr 0, .ref 0, .ref 73, .int x3] [.int r4, .int r2] h5 Z
  refine st_icmp_eq (tgt := 991) dL_law_963 (by decide) (fun c => ?_) (fun c => ?_)
  · replace w := w.1 c
    exact w
  · replace w := w.2 c
    refine st_iconst (v := 0) dL_law_966 (by decide) ?_
    exact st_ireturn rfl rfl dL_law_967 w
set_option maxRecDepth 20000 in
set_option maxHeartbeats 2000000 in
theorem sL_law_932 {Ls : Nat} {xs : Nat → Int32} {d : Nat} {h : am_H} {Z : Int32 → am_H → Prop} {x3 : Int32} (w : am_cl mX10_undo d [.ref 0] h (fun r1 h2 => am_cl mX11_undo d [.ref 73] h2 (fun r3 h4 => (r1 = r3 → Ru mL_law (some (Ls, xs)) d 991 [.retAddr 0, .ref 0, .ref 73, .int x3] [] h4 Z) ∧ (¬ (r1 = r3) → Z 0 h4)))) : Ru mL_law (some (Ls, xs)) d 932 [.retAddr 0, .ref 0, .ref 73, .int x3] [] h Z := by
  refine st_aload_n dL_law_932 rfl ?_
  refine st_callV (M' := mX10_undo) [] [] dL_law_933 ml_L_124 mf_X10_undo mv_X10_undo sh_0 rfl rfl rfl w (fun r1 h2 w => ?_)
  show Ru mL_law (some (Ls, xs)) d 936 [.retAddr 0, .ref 0, .ref 73, .int x3] [.int r1] h2 Z
  refine st_aload_n dL_law_936 rfl ?_
  refine st_callV (M' := mX11_undo) [] [.int r1] dL_law_937 ml_L_128 mf_X11_undo mv_X11_undo sh_73 rfl rfl rfl w (fun r3 h4 w => ?_)
  show Ru mL_law (some (Ls, xs)) d 940 [.retAddr 0, .ref 0, .ref 73, .int x3] [.int r3, .int r1] h4 Z
  refine st_icmp_eq (tgt := 991) dL_law_940 (by decide) (fun c => ?_) (fun c => ?_)
  · replace w := w.1 c
    exact w
  · replace w := w.2 c
    refine st_iconst (v := 0) dL_law_943 (by decide) ?_
    exact st_ireturn rfl rfl dL_law_944 w
set_option maxRecDepth 20000 in
set_option maxHeartbeats 2000000 in
theorem sL_law_919 {Ls : Nat} {xs : Nat → Int32} {d : Nat} {h : am_H} {Z : Int32 → am_H → Prop} {x3 : Int32} (w : am_cl mX10_keep d [.ref 0] h (fun r1 h2 => am_cl mX11_keep d [.ref 73] h2 (fun r3 h4 => (r1 = r3 → Ru mL_law (some (Ls, xs)) d 991 [.retAddr 0, .ref 0, .ref 73, .int x3] [] h4 Z) ∧ (¬ (r1 = r3) → Z 0 h4)))) : Ru mL_law (some (Ls, xs)) d 919 [.retAddr 0, .ref 0, .ref 73, .int x3] [] h Z := by
  refine st_aload_n dL_law_919 rfl ?_
  refine st_callV (M' := mX10_keep) [] [] dL_law_920 ml_L_120 mf_X10_keep mv_X10_keep sh_0 rfl rfl rfl w (fun r1 h2 w => ?_)
  show Ru mL_law (some (Ls, xs)) d 923 [.retAddr 0, .ref 0, .ref 73, .int x3] [.int r1] h2 Z
  refine st_aload_n dL_law_923 rfl ?_
  refine st_callV (M' := mX11_keep) [] [.int r1] dL_law_924 ml_L_123 mf_X11_keep mv_X11_keep sh_73 rfl rfl rfl w (fun r3 h4 w => ?_)
  show Ru mL_law (some (Ls, xs)) d 927 [.retAddr 0, .ref 0, .ref 73, .int x3] [.int r3, .int r1] h4 Z
  refine st_icmp_eq (tgt := 991) dL_law_927 (by decide) (fun c => ?_) (fun c => ?_)
  · replace w := w.1 c
    exact w
  · replace w := w.2 c
    refine st_iconst (v := 0) dL_law_930 (by decide) ?_
    exact st_ireturn rfl rfl dL_law_931 w
set_option maxRecDepth 20000 in
set_option maxHeartbeats 2000000 in
theorem sL_law_896 {Ls : Nat} {xs : Nat → Int32} {d : Nat} {h : am_H} {Z : Int32 → am_H → Prop} {x3 : Int32} (w : (vp_in (x3 + 1) Ls ∧ (am_cl mX10_seed d [.ref 0, .int (xs (x3 + 1).toNatClampNeg)] h (fun r2 h3 => am_cl mX11_seed d [.ref 73, .int (xs (x3 + 1).toNatClampNeg)] h3 (fun r4 h5 => (r2 = r4 → Ru mL_law (some (Ls, xs)) d 991 [.retAddr 0, .ref 0, .ref 73, .int x3] [] h5 Z) ∧ (¬ (r2 = r4) → Z 0 h5)))))) : Ru mL_law (some (Ls, xs)) d 896 [.retAddr 0, .ref 0, .ref 73, .int x3] [] h Z := by
  refine st_aload_n dL_law_896 rfl ?_
  refine st_aload0_n dL_law_897 rfl ?_
  refine st_iload_n dL_law_898 rfl ?_
  refine st_iconst (v := 1) dL_law_899 (by decide) ?_
  refine st_iadd dL_law_900 ?_
  have hc1 := w.1
  replace w := w.2
  refine st_sld dL_law_901 hc1 ?_
  refine st_callV (M' := mX10_seed) [.int (xs (x3 + 1).toNatClampNeg)] [] dL_law_902 ml_L_115 mf_X10_seed mv_X10_seed sh_0 rfl rfl rfl w (fun r2 h3 w => ?_)
  show Ru mL_law (some (Ls, xs)) d 905 [.retAddr 0, .ref 0, .ref 73, .int x3] [.int r2] h3 Z
  refine st_aload_n dL_law_905 rfl ?_
  refine st_aload0_n dL_law_906 rfl ?_
  refine st_iload_n dL_law_907 rfl ?_
  refine st_iconst (v := 1) dL_law_908 (by decide) ?_
  refine st_iadd dL_law_909 ?_
  refine st_sld dL_law_910 hc1 ?_
  refine st_callV (M' := mX11_seed) [.int (xs (x3 + 1).toNatClampNeg)] [.int r2] dL_law_911 ml_L_119 mf_X11_seed mv_X11_seed sh_73 rfl rfl rfl w (fun r4 h5 w => ?_)
  show Ru mL_law (some (Ls, xs)) d 914 [.retAddr 0, .ref 0, .ref 73, .int x3] [.int r4, .int r2] h5 Z
  refine st_icmp_eq (tgt := 991) dL_law_914 (by decide) (fun c => ?_) (fun c => ?_)
  · replace w := w.1 c
    exact w
  · replace w := w.2 c
    refine st_iconst (v := 0) dL_law_917 (by decide) ?_
    exact st_ireturn rfl rfl dL_law_918 w
set_option maxRecDepth 20000 in
set_option maxHeartbeats 2000000 in
theorem sL_law_863 {Ls : Nat} {xs : Nat → Int32} {d : Nat} {h : am_H} {Z : Int32 → am_H → Prop} {x3 : Int32} (w : (vp_in (x3 + 1) Ls ∧ (vp_in (x3 + 2) Ls ∧ (am_cl mX10_ticks d [.ref 0, .int (xs (x3 + 1).toNatClampNeg), .int (xs (x3 + 2).toNatClampNeg)] h (fun r3 h4 => am_cl mX11_ticks d [.ref 73, .int (xs (x3 + 1).toNatClampNeg), .int (xs (x3 + 2).toNatClampNeg)] h4 (fun r5 h6 => (r3 = r5 → Ru mL_law (some (Ls, xs)) d 991 [.retAddr 0, .ref 0, .ref 73, .int x3] [] h6 Z) ∧ (¬ (r3 = r5) → Z 0 h6))))))) : Ru mL_law (some (Ls, xs)) d 863 [.retAddr 0, .ref 0, .ref 73, .int x3] [] h Z := by
  refine st_aload_n dL_law_863 rfl ?_
  refine st_aload0_n dL_law_864 rfl ?_
  refine st_iload_n dL_law_865 rfl ?_
  refine st_iconst (v := 1) dL_law_866 (by decide) ?_
  refine st_iadd dL_law_867 ?_
  have hc1 := w.1
  replace w := w.2
  refine st_sld dL_law_868 hc1 ?_
  refine st_aload0_n dL_law_869 rfl ?_
  refine st_iload_n dL_law_870 rfl ?_
  refine st_iconst (v := 2) dL_law_871 (by decide) ?_
  refine st_iadd dL_law_872 ?_
  have hc2 := w.1
  replace w := w.2
  refine st_sld dL_law_873 hc2 ?_
  refine st_callV (M' := mX10_ticks) [.int (xs (x3 + 1).toNatClampNeg), .int (xs (x3 + 2).toNatClampNeg)] [] dL_law_874 ml_L_111 mf_X10_ticks mv_X10_ticks sh_0 rfl rfl rfl w (fun r3 h4 w => ?_)
  show Ru mL_law (some (Ls, xs)) d 877 [.retAddr 0, .ref 0, .ref 73, .int x3] [.int r3] h4 Z
  refine st_aload_n dL_law_877 rfl ?_
  refine st_aload0_n dL_law_878 rfl ?_
  refine st_iload_n dL_law_879 rfl ?_
  refine st_iconst (v := 1) dL_law_880 (by decide) ?_
  refine st_iadd dL_law_881 ?_
  refine st_sld dL_law_882 hc1 ?_
  refine st_aload0_n dL_law_883 rfl ?_
  refine st_iload_n dL_law_884 rfl ?_
  refine st_iconst (v := 2) dL_law_885 (by decide) ?_
  refine st_iadd dL_law_886 ?_
  refine st_sld dL_law_887 hc2 ?_
  refine st_callV (M' := mX11_ticks) [.int (xs (x3 + 1).toNatClampNeg), .int (xs (x3 + 2).toNatClampNeg)] [.int r3] dL_law_888 ml_L_114 mf_X11_ticks mv_X11_ticks sh_73 rfl rfl rfl w (fun r5 h6 w => ?_)
  show Ru mL_law (some (Ls, xs)) d 891 [.retAddr 0, .ref 0, .ref 73, .int x3] [.int r5, .int r3] h6 Z
  refine st_icmp_eq (tgt := 991) dL_law_891 (by decide) (fun c => ?_) (fun c => ?_)
  · replace w := w.1 c
    exact w
  · replace w := w.2 c
    refine st_iconst (v := 0) dL_law_894 (by decide) ?_
    exact st_ireturn rfl rfl dL_law_895 w
set_option maxRecDepth 20000 in
set_option maxHeartbeats 2000000 in
theorem sL_law_830 {Ls : Nat} {xs : Nat → Int32} {d : Nat} {h : am_H} {Z : Int32 → am_H → Prop} {x3 : Int32} (w : (vp_in (x3 + 1) Ls ∧ (vp_in (x3 + 2) Ls ∧ (am_cl mX10_heard d [.ref 0, .int (xs (x3 + 1).toNatClampNeg), .int (xs (x3 + 2).toNatClampNeg)] h (fun r3 h4 => am_cl mX11_heard d [.ref 73, .int (xs (x3 + 1).toNatClampNeg), .int (xs (x3 + 2).toNatClampNeg)] h4 (fun r5 h6 => (r3 = r5 → Ru mL_law (some (Ls, xs)) d 991 [.retAddr 0, .ref 0, .ref 73, .int x3] [] h6 Z) ∧ (¬ (r3 = r5) → Z 0 h6))))))) : Ru mL_law (some (Ls, xs)) d 830 [.retAddr 0, .ref 0, .ref 73, .int x3] [] h Z := by
  refine st_aload_n dL_law_830 rfl ?_
  refine st_aload0_n dL_law_831 rfl ?_
  refine st_iload_n dL_law_832 rfl ?_
  refine st_iconst (v := 1) dL_law_833 (by decide) ?_
  refine st_iadd dL_law_834 ?_
  have hc1 := w.1
  replace w := w.2
  refine st_sld dL_law_835 hc1 ?_
  refine st_aload0_n dL_law_836 rfl ?_
  refine st_iload_n dL_law_837 rfl ?_
  refine st_iconst (v := 2) dL_law_838 (by decide) ?_
  refine st_iadd dL_law_839 ?_
  have hc2 := w.1
  replace w := w.2
  refine st_sld dL_law_840 hc2 ?_
  refine st_callV (M' := mX10_heard) [.int (xs (x3 + 1).toNatClampNeg), .int (xs (x3 + 2).toNatClampNeg)] [] dL_law_841 ml_L_107 mf_X10_heard mv_X10_heard sh_0 rfl rfl rfl w (fun r3 h4 w => ?_)
  show Ru mL_law (some (Ls, xs)) d 844 [.retAddr 0, .ref 0, .ref 73, .int x3] [.int r3] h4 Z
  refine st_aload_n dL_law_844 rfl ?_
  refine st_aload0_n dL_law_845 rfl ?_
  refine st_iload_n dL_law_846 rfl ?_
  refine st_iconst (v := 1) dL_law_847 (by decide) ?_
  refine st_iadd dL_law_848 ?_
  refine st_sld dL_law_849 hc1 ?_
  refine st_aload0_n dL_law_850 rfl ?_
  refine st_iload_n dL_law_851 rfl ?_
  refine st_iconst (v := 2) dL_law_852 (by decide) ?_
  refine st_iadd dL_law_853 ?_
  refine st_sld dL_law_854 hc2 ?_
  refine st_callV (M' := mX11_heard) [.int (xs (x3 + 1).toNatClampNeg), .int (xs (x3 + 2).toNatClampNeg)] [.int r3] dL_law_855 ml_L_110 mf_X11_heard mv_X11_heard sh_73 rfl rfl rfl w (fun r5 h6 w => ?_)
  show Ru mL_law (some (Ls, xs)) d 858 [.retAddr 0, .ref 0, .ref 73, .int x3] [.int r5, .int r3] h6 Z
  refine st_icmp_eq (tgt := 991) dL_law_858 (by decide) (fun c => ?_) (fun c => ?_)
  · replace w := w.1 c
    exact w
  · replace w := w.2 c
    refine st_iconst (v := 0) dL_law_861 (by decide) ?_
    exact st_ireturn rfl rfl dL_law_862 w
set_option maxRecDepth 20000 in
set_option maxHeartbeats 2000000 in
theorem sL_law_797 {Ls : Nat} {xs : Nat → Int32} {d : Nat} {h : am_H} {Z : Int32 → am_H → Prop} {x3 : Int32} (w : (vp_in (x3 + 1) Ls ∧ (vp_in (x3 + 2) Ls ∧ (am_cl mX10_heirs d [.ref 0, .int (xs (x3 + 1).toNatClampNeg), .int (xs (x3 + 2).toNatClampNeg)] h (fun r3 h4 => am_cl mX11_heirs d [.ref 73, .int (xs (x3 + 1).toNatClampNeg), .int (xs (x3 + 2).toNatClampNeg)] h4 (fun r5 h6 => (r3 = r5 → Ru mL_law (some (Ls, xs)) d 991 [.retAddr 0, .ref 0, .ref 73, .int x3] [] h6 Z) ∧ (¬ (r3 = r5) → Z 0 h6))))))) : Ru mL_law (some (Ls, xs)) d 797 [.retAddr 0, .ref 0, .ref 73, .int x3] [] h Z := by
  refine st_aload_n dL_law_797 rfl ?_
  refine st_aload0_n dL_law_798 rfl ?_
  refine st_iload_n dL_law_799 rfl ?_
  refine st_iconst (v := 1) dL_law_800 (by decide) ?_
  refine st_iadd dL_law_801 ?_
  have hc1 := w.1
  replace w := w.2
  refine st_sld dL_law_802 hc1 ?_
  refine st_aload0_n dL_law_803 rfl ?_
  refine st_iload_n dL_law_804 rfl ?_
  refine st_iconst (v := 2) dL_law_805 (by decide) ?_
  refine st_iadd dL_law_806 ?_
  have hc2 := w.1
  replace w := w.2
  refine st_sld dL_law_807 hc2 ?_
  refine st_callV (M' := mX10_heirs) [.int (xs (x3 + 1).toNatClampNeg), .int (xs (x3 + 2).toNatClampNeg)] [] dL_law_808 ml_L_103 mf_X10_heirs mv_X10_heirs sh_0 rfl rfl rfl w (fun r3 h4 w => ?_)
  show Ru mL_law (some (Ls, xs)) d 811 [.retAddr 0, .ref 0, .ref 73, .int x3] [.int r3] h4 Z
  refine st_aload_n dL_law_811 rfl ?_
  refine st_aload0_n dL_law_812 rfl ?_
  refine st_iload_n dL_law_813 rfl ?_
  refine st_iconst (v := 1) dL_law_814 (by decide) ?_
  refine st_iadd dL_law_815 ?_
  refine st_sld dL_law_816 hc1 ?_
  refine st_aload0_n dL_law_817 rfl ?_
  refine st_iload_n dL_law_818 rfl ?_
  refine st_iconst (v := 2) dL_law_819 (by decide) ?_
  refine st_iadd dL_law_820 ?_
  refine st_sld dL_law_821 hc2 ?_
  refine st_callV (M' := mX11_heirs) [.int (xs (x3 + 1).toNatClampNeg), .int (xs (x3 + 2).toNatClampNeg)] [.int r3] dL_law_822 ml_L_106 mf_X11_heirs mv_X11_heirs sh_73 rfl rfl rfl w (fun r5 h6 w => ?_)
  show Ru mL_law (some (Ls, xs)) d 825 [.retAddr 0, .ref 0, .ref 73, .int x3] [.int r5, .int r3] h6 Z
  refine st_icmp_eq (tgt := 991) dL_law_825 (by decide) (fun c => ?_) (fun c => ?_)
  · replace w := w.1 c
    exact w
  · replace w := w.2 c
    refine st_iconst (v := 0) dL_law_828 (by decide) ?_
    exact st_ireturn rfl rfl dL_law_829 w
set_option maxRecDepth 20000 in
set_option maxHeartbeats 2000000 in
theorem sL_law_754 {Ls : Nat} {xs : Nat → Int32} {d : Nat} {h : am_H} {Z : Int32 → am_H → Prop} {x3 : Int32} (w : (vp_in (x3 + 1) Ls ∧ (vp_in (x3 + 2) Ls ∧ (vp_in (x3 + 3) Ls ∧ (am_cl mX10_unions d [.ref 0, .int (xs (x3 + 1).toNatClampNeg), .int (xs (x3 + 2).toNatClampNeg), .int (xs (x3 + 3).toNatClampNeg)] h (fun r4 h5 => am_cl mX11_unions d [.ref 73, .int (xs (x3 + 1).toNatClampNeg), .int (xs (x3 + 2).toNatClampNeg), .int (xs (x3 + 3).toNatClampNeg)] h5 (fun r6 h7 => (r4 = r6 → Ru mL_law (some (Ls, xs)) d 991 [.retAddr 0, .ref 0, .ref 73, .int x3] [] h7 Z) ∧ (¬ (r4 = r6) → Z 0 h7)))))))) : Ru mL_law (some (Ls, xs)) d 754 [.retAddr 0, .ref 0, .ref 73, .int x3] [] h Z := by
  refine st_aload_n dL_law_754 rfl ?_
  refine st_aload0_n dL_law_755 rfl ?_
  refine st_iload_n dL_law_756 rfl ?_
  refine st_iconst (v := 1) dL_law_757 (by decide) ?_
  refine st_iadd dL_law_758 ?_
  have hc1 := w.1
  replace w := w.2
  refine st_sld dL_law_759 hc1 ?_
  refine st_aload0_n dL_law_760 rfl ?_
  refine st_iload_n dL_law_761 rfl ?_
  refine st_iconst (v := 2) dL_law_762 (by decide) ?_
  refine st_iadd dL_law_763 ?_
  have hc2 := w.1
  replace w := w.2
  refine st_sld dL_law_764 hc2 ?_
  refine st_aload0_n dL_law_765 rfl ?_
  refine st_iload_n dL_law_766 rfl ?_
  refine st_iconst (v := 3) dL_law_767 (by decide) ?_
  refine st_iadd dL_law_768 ?_
  have hc3 := w.1
  replace w := w.2
  refine st_sld dL_law_769 hc3 ?_
  refine st_callV (M' := mX10_unions) [.int (xs (x3 + 1).toNatClampNeg), .int (xs (x3 + 2).toNatClampNeg), .int (xs (x3 + 3).toNatClampNeg)] [] dL_law_770 ml_L_99 mf_X10_unions mv_X10_unions sh_0 rfl rfl rfl w (fun r4 h5 w => ?_)
  show Ru mL_law (some (Ls, xs)) d 773 [.retAddr 0, .ref 0, .ref 73, .int x3] [.int r4] h5 Z
  refine st_aload_n dL_law_773 rfl ?_
  refine st_aload0_n dL_law_774 rfl ?_
  refine st_iload_n dL_law_775 rfl ?_
  refine st_iconst (v := 1) dL_law_776 (by decide) ?_
  refine st_iadd dL_law_777 ?_
  refine st_sld dL_law_778 hc1 ?_
  refine st_aload0_n dL_law_779 rfl ?_
  refine st_iload_n dL_law_780 rfl ?_
  refine st_iconst (v := 2) dL_law_781 (by decide) ?_
  refine st_iadd dL_law_782 ?_
  refine st_sld dL_law_783 hc2 ?_
  refine st_aload0_n dL_law_784 rfl ?_
  refine st_iload_n dL_law_785 rfl ?_
  refine st_iconst (v := 3) dL_law_786 (by decide) ?_
  refine st_iadd dL_law_787 ?_
  refine st_sld dL_law_788 hc3 ?_
  refine st_callV (M' := mX11_unions) [.int (xs (x3 + 1).toNatClampNeg), .int (xs (x3 + 2).toNatClampNeg), .int (xs (x3 + 3).toNatClampNeg)] [.int r4] dL_law_789 ml_L_102 mf_X11_unions mv_X11_unions sh_73 rfl rfl rfl w (fun r6 h7 w => ?_)
  show Ru mL_law (some (Ls, xs)) d 792 [.retAddr 0, .ref 0, .ref 73, .int x3] [.int r6, .int r4] h7 Z
  refine st_icmp_eq (tgt := 991) dL_law_792 (by decide) (fun c => ?_) (fun c => ?_)
  · replace w := w.1 c
    exact w
  · replace w := w.2 c
    refine st_iconst (v := 0) dL_law_795 (by decide) ?_
    exact st_ireturn rfl rfl dL_law_796 w
set_option maxRecDepth 20000 in
set_option maxHeartbeats 2000000 in
theorem sL_law_721 {Ls : Nat} {xs : Nat → Int32} {d : Nat} {h : am_H} {Z : Int32 → am_H → Prop} {x3 : Int32} (w : (vp_in (x3 + 1) Ls ∧ (vp_in (x3 + 2) Ls ∧ (am_cl mX10_planked d [.ref 0, .int (xs (x3 + 1).toNatClampNeg), .int (xs (x3 + 2).toNatClampNeg)] h (fun r3 h4 => am_cl mX11_planked d [.ref 73, .int (xs (x3 + 1).toNatClampNeg), .int (xs (x3 + 2).toNatClampNeg)] h4 (fun r5 h6 => (r3 = r5 → Ru mL_law (some (Ls, xs)) d 991 [.retAddr 0, .ref 0, .ref 73, .int x3] [] h6 Z) ∧ (¬ (r3 = r5) → Z 0 h6))))))) : Ru mL_law (some (Ls, xs)) d 721 [.retAddr 0, .ref 0, .ref 73, .int x3] [] h Z := by
  refine st_aload_n dL_law_721 rfl ?_
  refine st_aload0_n dL_law_722 rfl ?_
  refine st_iload_n dL_law_723 rfl ?_
  refine st_iconst (v := 1) dL_law_724 (by decide) ?_
  refine st_iadd dL_law_725 ?_
  have hc1 := w.1
  replace w := w.2
  refine st_sld dL_law_726 hc1 ?_
  refine st_aload0_n dL_law_727 rfl ?_
  refine st_iload_n dL_law_728 rfl ?_
  refine st_iconst (v := 2) dL_law_729 (by decide) ?_
  refine st_iadd dL_law_730 ?_
  have hc2 := w.1
  replace w := w.2
  refine st_sld dL_law_731 hc2 ?_
  refine st_callV (M' := mX10_planked) [.int (xs (x3 + 1).toNatClampNeg), .int (xs (x3 + 2).toNatClampNeg)] [] dL_law_732 ml_L_95 mf_X10_planked mv_X10_planked sh_0 rfl rfl rfl w (fun r3 h4 w => ?_)
  show Ru mL_law (some (Ls, xs)) d 735 [.retAddr 0, .ref 0, .ref 73, .int x3] [.int r3] h4 Z
  refine st_aload_n dL_law_735 rfl ?_
  refine st_aload0_n dL_law_736 rfl ?_
  refine st_iload_n dL_law_737 rfl ?_
  refine st_iconst (v := 1) dL_law_738 (by decide) ?_
  refine st_iadd dL_law_739 ?_
  refine st_sld dL_law_740 hc1 ?_
  refine st_aload0_n dL_law_741 rfl ?_
  refine st_iload_n dL_law_742 rfl ?_
  refine st_iconst (v := 2) dL_law_743 (by decide) ?_
  refine st_iadd dL_law_744 ?_
  refine st_sld dL_law_745 hc2 ?_
  refine st_callV (M' := mX11_planked) [.int (xs (x3 + 1).toNatClampNeg), .int (xs (x3 + 2).toNatClampNeg)] [.int r3] dL_law_746 ml_L_98 mf_X11_planked mv_X11_planked sh_73 rfl rfl rfl w (fun r5 h6 w => ?_)
  show Ru mL_law (some (Ls, xs)) d 749 [.retAddr 0, .ref 0, .ref 73, .int x3] [.int r5, .int r3] h6 Z
  refine st_icmp_eq (tgt := 991) dL_law_749 (by decide) (fun c => ?_) (fun c => ?_)
  · replace w := w.1 c
    exact w
  · replace w := w.2 c
    refine st_iconst (v := 0) dL_law_752 (by decide) ?_
    exact st_ireturn rfl rfl dL_law_753 w
set_option maxRecDepth 20000 in
set_option maxHeartbeats 2000000 in
theorem sL_law_678 {Ls : Nat} {xs : Nat → Int32} {d : Nat} {h : am_H} {Z : Int32 → am_H → Prop} {x3 : Int32} (w : (vp_in (x3 + 1) Ls ∧ (vp_in (x3 + 2) Ls ∧ (vp_in (x3 + 3) Ls ∧ (am_cl mX10_pigeonholes d [.ref 0, .int (xs (x3 + 1).toNatClampNeg), .int (xs (x3 + 2).toNatClampNeg), .int (xs (x3 + 3).toNatClampNeg)] h (fun r4 h5 => am_cl mX11_pigeonholes d [.ref 73, .int (xs (x3 + 1).toNatClampNeg), .int (xs (x3 + 2).toNatClampNeg), .int (xs (x3 + 3).toNatClampNeg)] h5 (fun r6 h7 => (r4 = r6 → Ru mL_law (some (Ls, xs)) d 991 [.retAddr 0, .ref 0, .ref 73, .int x3] [] h7 Z) ∧ (¬ (r4 = r6) → Z 0 h7)))))))) : Ru mL_law (some (Ls, xs)) d 678 [.retAddr 0, .ref 0, .ref 73, .int x3] [] h Z := by
  refine st_aload_n dL_law_678 rfl ?_
  refine st_aload0_n dL_law_679 rfl ?_
  refine st_iload_n dL_law_680 rfl ?_
  refine st_iconst (v := 1) dL_law_681 (by decide) ?_
  refine st_iadd dL_law_682 ?_
  have hc1 := w.1
  replace w := w.2
  refine st_sld dL_law_683 hc1 ?_
  refine st_aload0_n dL_law_684 rfl ?_
  refine st_iload_n dL_law_685 rfl ?_
  refine st_iconst (v := 2) dL_law_686 (by decide) ?_
  refine st_iadd dL_law_687 ?_
  have hc2 := w.1
  replace w := w.2
  refine st_sld dL_law_688 hc2 ?_
  refine st_aload0_n dL_law_689 rfl ?_
  refine st_iload_n dL_law_690 rfl ?_
  refine st_iconst (v := 3) dL_law_691 (by decide) ?_
  refine st_iadd dL_law_692 ?_
  have hc3 := w.1
  replace w := w.2
  refine st_sld dL_law_693 hc3 ?_
  refine st_callV (M' := mX10_pigeonholes) [.int (xs (x3 + 1).toNatClampNeg), .int (xs (x3 + 2).toNatClampNeg), .int (xs (x3 + 3).toNatClampNeg)] [] dL_law_694 ml_L_91 mf_X10_pigeonholes mv_X10_pigeonholes sh_0 rfl rfl rfl w (fun r4 h5 w => ?_)
  show Ru mL_law (some (Ls, xs)) d 697 [.retAddr 0, .ref 0, .ref 73, .int x3] [.int r4] h5 Z
  refine st_aload_n dL_law_697 rfl ?_
  refine st_aload0_n dL_law_698 rfl ?_
  refine st_iload_n dL_law_699 rfl ?_
  refine st_iconst (v := 1) dL_law_700 (by decide) ?_
  refine st_iadd dL_law_701 ?_
  refine st_sld dL_law_702 hc1 ?_
  refine st_aload0_n dL_law_703 rfl ?_
  refine st_iload_n dL_law_704 rfl ?_
  refine st_iconst (v := 2) dL_law_705 (by decide) ?_
  refine st_iadd dL_law_706 ?_
  refine st_sld dL_law_707 hc2 ?_
  refine st_aload0_n dL_law_708 rfl ?_
  refine st_iload_n dL_law_709 rfl ?_
  refine st_iconst (v := 3) dL_law_710 (by decide) ?_
  refine st_iadd dL_law_711 ?_
  refine st_sld dL_law_712 hc3 ?_
  refine st_callV (M' := mX11_pigeonholes) [.int (xs (x3 + 1).toNatClampNeg), .int (xs (x3 + 2).toNatClampNeg), .int (xs (x3 + 3).toNatClampNeg)] [.int r4] dL_law_713 ml_L_94 mf_X11_pigeonholes mv_X11_pigeonholes sh_73 rfl rfl rfl w (fun r6 h7 w => ?_)
  show Ru mL_law (some (Ls, xs)) d 716 [.retAddr 0, .ref 0, .ref 73, .int x3] [.int r6, .int r4] h7 Z
  refine st_icmp_eq (tgt := 991) dL_law_716 (by decide) (fun c => ?_) (fun c => ?_)
  · replace w := w.1 c
    exact w
  · replace w := w.2 c
    refine st_iconst (v := 0) dL_law_719 (by decide) ?_
    exact st_ireturn rfl rfl dL_law_720 w
set_option maxRecDepth 20000 in
set_option maxHeartbeats 2000000 in
theorem sL_law_655 {Ls : Nat} {xs : Nat → Int32} {d : Nat} {h : am_H} {Z : Int32 → am_H → Prop} {x3 : Int32} (w : (vp_in (x3 + 1) Ls ∧ (am_cl mX10_balanced d [.ref 0, .int (xs (x3 + 1).toNatClampNeg)] h (fun r2 h3 => am_cl mX11_balanced d [.ref 73, .int (xs (x3 + 1).toNatClampNeg)] h3 (fun r4 h5 => (r2 = r4 → Ru mL_law (some (Ls, xs)) d 991 [.retAddr 0, .ref 0, .ref 73, .int x3] [] h5 Z) ∧ (¬ (r2 = r4) → Z 0 h5)))))) : Ru mL_law (some (Ls, xs)) d 655 [.retAddr 0, .ref 0, .ref 73, .int x3] [] h Z := by
  refine st_aload_n dL_law_655 rfl ?_
  refine st_aload0_n dL_law_656 rfl ?_
  refine st_iload_n dL_law_657 rfl ?_
  refine st_iconst (v := 1) dL_law_658 (by decide) ?_
  refine st_iadd dL_law_659 ?_
  have hc1 := w.1
  replace w := w.2
  refine st_sld dL_law_660 hc1 ?_
  refine st_callV (M' := mX10_balanced) [.int (xs (x3 + 1).toNatClampNeg)] [] dL_law_661 ml_L_87 mf_X10_balanced mv_X10_balanced sh_0 rfl rfl rfl w (fun r2 h3 w => ?_)
  show Ru mL_law (some (Ls, xs)) d 664 [.retAddr 0, .ref 0, .ref 73, .int x3] [.int r2] h3 Z
  refine st_aload_n dL_law_664 rfl ?_
  refine st_aload0_n dL_law_665 rfl ?_
  refine st_iload_n dL_law_666 rfl ?_
  refine st_iconst (v := 1) dL_law_667 (by decide) ?_
  refine st_iadd dL_law_668 ?_
  refine st_sld dL_law_669 hc1 ?_
  refine st_callV (M' := mX11_balanced) [.int (xs (x3 + 1).toNatClampNeg)] [.int r2] dL_law_670 ml_L_90 mf_X11_balanced mv_X11_balanced sh_73 rfl rfl rfl w (fun r4 h5 w => ?_)
  show Ru mL_law (some (Ls, xs)) d 673 [.retAddr 0, .ref 0, .ref 73, .int x3] [.int r4, .int r2] h5 Z
  refine st_icmp_eq (tgt := 991) dL_law_673 (by decide) (fun c => ?_) (fun c => ?_)
  · replace w := w.1 c
    exact w
  · replace w := w.2 c
    refine st_iconst (v := 0) dL_law_676 (by decide) ?_
    exact st_ireturn rfl rfl dL_law_677 w
set_option maxRecDepth 20000 in
set_option maxHeartbeats 2000000 in
theorem sL_law_632 {Ls : Nat} {xs : Nat → Int32} {d : Nat} {h : am_H} {Z : Int32 → am_H → Prop} {x3 : Int32} (w : (vp_in (x3 + 1) Ls ∧ (am_cl mX10_dusted d [.ref 0, .int (xs (x3 + 1).toNatClampNeg)] h (fun r2 h3 => am_cl mX11_dusted d [.ref 73, .int (xs (x3 + 1).toNatClampNeg)] h3 (fun r4 h5 => (r2 = r4 → Ru mL_law (some (Ls, xs)) d 991 [.retAddr 0, .ref 0, .ref 73, .int x3] [] h5 Z) ∧ (¬ (r2 = r4) → Z 0 h5)))))) : Ru mL_law (some (Ls, xs)) d 632 [.retAddr 0, .ref 0, .ref 73, .int x3] [] h Z := by
  refine st_aload_n dL_law_632 rfl ?_
  refine st_aload0_n dL_law_633 rfl ?_
  refine st_iload_n dL_law_634 rfl ?_
  refine st_iconst (v := 1) dL_law_635 (by decide) ?_
  refine st_iadd dL_law_636 ?_
  have hc1 := w.1
  replace w := w.2
  refine st_sld dL_law_637 hc1 ?_
  refine st_callV (M' := mX10_dusted) [.int (xs (x3 + 1).toNatClampNeg)] [] dL_law_638 ml_L_83 mf_X10_dusted mv_X10_dusted sh_0 rfl rfl rfl w (fun r2 h3 w => ?_)
  show Ru mL_law (some (Ls, xs)) d 641 [.retAddr 0, .ref 0, .ref 73, .int x3] [.int r2] h3 Z
  refine st_aload_n dL_law_641 rfl ?_
  refine st_aload0_n dL_law_642 rfl ?_
  refine st_iload_n dL_law_643 rfl ?_
  refine st_iconst (v := 1) dL_law_644 (by decide) ?_
  refine st_iadd dL_law_645 ?_
  refine st_sld dL_law_646 hc1 ?_
  refine st_callV (M' := mX11_dusted) [.int (xs (x3 + 1).toNatClampNeg)] [.int r2] dL_law_647 ml_L_86 mf_X11_dusted mv_X11_dusted sh_73 rfl rfl rfl w (fun r4 h5 w => ?_)
  show Ru mL_law (some (Ls, xs)) d 650 [.retAddr 0, .ref 0, .ref 73, .int x3] [.int r4, .int r2] h5 Z
  refine st_icmp_eq (tgt := 991) dL_law_650 (by decide) (fun c => ?_) (fun c => ?_)
  · replace w := w.1 c
    exact w
  · replace w := w.2 c
    refine st_iconst (v := 0) dL_law_653 (by decide) ?_
    exact st_ireturn rfl rfl dL_law_654 w
set_option maxRecDepth 20000 in
set_option maxHeartbeats 2000000 in
theorem sL_law_609 {Ls : Nat} {xs : Nat → Int32} {d : Nat} {h : am_H} {Z : Int32 → am_H → Prop} {x3 : Int32} (w : (vp_in (x3 + 1) Ls ∧ (am_cl mX10_nest d [.ref 0, .int (xs (x3 + 1).toNatClampNeg)] h (fun r2 h3 => am_cl mX11_nest d [.ref 73, .int (xs (x3 + 1).toNatClampNeg)] h3 (fun r4 h5 => (r2 = r4 → Ru mL_law (some (Ls, xs)) d 991 [.retAddr 0, .ref 0, .ref 73, .int x3] [] h5 Z) ∧ (¬ (r2 = r4) → Z 0 h5)))))) : Ru mL_law (some (Ls, xs)) d 609 [.retAddr 0, .ref 0, .ref 73, .int x3] [] h Z := by
  refine st_aload_n dL_law_609 rfl ?_
  refine st_aload0_n dL_law_610 rfl ?_
  refine st_iload_n dL_law_611 rfl ?_
  refine st_iconst (v := 1) dL_law_612 (by decide) ?_
  refine st_iadd dL_law_613 ?_
  have hc1 := w.1
  replace w := w.2
  refine st_sld dL_law_614 hc1 ?_
  refine st_callV (M' := mX10_nest) [.int (xs (x3 + 1).toNatClampNeg)] [] dL_law_615 ml_L_79 mf_X10_nest mv_X10_nest sh_0 rfl rfl rfl w (fun r2 h3 w => ?_)
  show Ru mL_law (some (Ls, xs)) d 618 [.retAddr 0, .ref 0, .ref 73, .int x3] [.int r2] h3 Z
  refine st_aload_n dL_law_618 rfl ?_
  refine st_aload0_n dL_law_619 rfl ?_
  refine st_iload_n dL_law_620 rfl ?_
  refine st_iconst (v := 1) dL_law_621 (by decide) ?_
  refine st_iadd dL_law_622 ?_
  refine st_sld dL_law_623 hc1 ?_
  refine st_callV (M' := mX11_nest) [.int (xs (x3 + 1).toNatClampNeg)] [.int r2] dL_law_624 ml_L_82 mf_X11_nest mv_X11_nest sh_73 rfl rfl rfl w (fun r4 h5 w => ?_)
  show Ru mL_law (some (Ls, xs)) d 627 [.retAddr 0, .ref 0, .ref 73, .int x3] [.int r4, .int r2] h5 Z
  refine st_icmp_eq (tgt := 991) dL_law_627 (by decide) (fun c => ?_) (fun c => ?_)
  · replace w := w.1 c
    exact w
  · replace w := w.2 c
    refine st_iconst (v := 0) dL_law_630 (by decide) ?_
    exact st_ireturn rfl rfl dL_law_631 w
set_option maxRecDepth 20000 in
set_option maxHeartbeats 2000000 in
theorem sL_law_566 {Ls : Nat} {xs : Nat → Int32} {d : Nat} {h : am_H} {Z : Int32 → am_H → Prop} {x3 : Int32} (w : (vp_in (x3 + 1) Ls ∧ (vp_in (x3 + 2) Ls ∧ (vp_in (x3 + 3) Ls ∧ (am_cl mX10_secret d [.ref 0, .int (xs (x3 + 1).toNatClampNeg), .int (xs (x3 + 2).toNatClampNeg), .int (xs (x3 + 3).toNatClampNeg)] h (fun r4 h5 => am_cl mX11_secret d [.ref 73, .int (xs (x3 + 1).toNatClampNeg), .int (xs (x3 + 2).toNatClampNeg), .int (xs (x3 + 3).toNatClampNeg)] h5 (fun r6 h7 => (r4 = r6 → Ru mL_law (some (Ls, xs)) d 991 [.retAddr 0, .ref 0, .ref 73, .int x3] [] h7 Z) ∧ (¬ (r4 = r6) → Z 0 h7)))))))) : Ru mL_law (some (Ls, xs)) d 566 [.retAddr 0, .ref 0, .ref 73, .int x3] [] h Z := by
  refine st_aload_n dL_law_566 rfl ?_
  refine st_aload0_n dL_law_567 rfl ?_
  refine st_iload_n dL_law_568 rfl ?_
  refine st_iconst (v := 1) dL_law_569 (by decide) ?_
  refine st_iadd dL_law_570 ?_
  have hc1 := w.1
  replace w := w.2
  refine st_sld dL_law_571 hc1 ?_
  refine st_aload0_n dL_law_572 rfl ?_
  refine st_iload_n dL_law_573 rfl ?_
  refine st_iconst (v := 2) dL_law_574 (by decide) ?_
  refine st_iadd dL_law_575 ?_
  have hc2 := w.1
  replace w := w.2
  refine st_sld dL_law_576 hc2 ?_
  refine st_aload0_n dL_law_577 rfl ?_
  refine st_iload_n dL_law_578 rfl ?_
  refine st_iconst (v := 3) dL_law_579 (by decide) ?_
  refine st_iadd dL_law_580 ?_
  have hc3 := w.1
  replace w := w.2
  refine st_sld dL_law_581 hc3 ?_
  refine st_callV (M' := mX10_secret) [.int (xs (x3 + 1).toNatClampNeg), .int (xs (x3 + 2).toNatClampNeg), .int (xs (x3 + 3).toNatClampNeg)] [] dL_law_582 ml_L_74 mf_X10_secret mv_X10_secret sh_0 rfl rfl rfl w (fun r4 h5 w => ?_)
  show Ru mL_law (some (Ls, xs)) d 585 [.retAddr 0, .ref 0, .ref 73, .int x3] [.int r4] h5 Z
  refine st_aload_n dL_law_585 rfl ?_
  refine st_aload0_n dL_law_586 rfl ?_
  refine st_iload_n dL_law_587 rfl ?_
  refine st_iconst (v := 1) dL_law_588 (by decide) ?_
  refine st_iadd dL_law_589 ?_
  refine st_sld dL_law_590 hc1 ?_
  refine st_aload0_n dL_law_591 rfl ?_
  refine st_iload_n dL_law_592 rfl ?_
  refine st_iconst (v := 2) dL_law_593 (by decide) ?_
  refine st_iadd dL_law_594 ?_
  refine st_sld dL_law_595 hc2 ?_
  refine st_aload0_n dL_law_596 rfl ?_
  refine st_iload_n dL_law_597 rfl ?_
  refine st_iconst (v := 3) dL_law_598 (by decide) ?_
  refine st_iadd dL_law_599 ?_
  refine st_sld dL_law_600 hc3 ?_
  refine st_callV (M' := mX11_secret) [.int (xs (x3 + 1).toNatClampNeg), .int (xs (x3 + 2).toNatClampNeg), .int (xs (x3 + 3).toNatClampNeg)] [.int r4] dL_law_601 ml_L_78 mf_X11_secret mv_X11_secret sh_73 rfl rfl rfl w (fun r6 h7 w => ?_)
  show Ru mL_law (some (Ls, xs)) d 604 [.retAddr 0, .ref 0, .ref 73, .int x3] [.int r6, .int r4] h7 Z
  refine st_icmp_eq (tgt := 991) dL_law_604 (by decide) (fun c => ?_) (fun c => ?_)
  · replace w := w.1 c
    exact w
  · replace w := w.2 c
    refine st_iconst (v := 0) dL_law_607 (by decide) ?_
    exact st_ireturn rfl rfl dL_law_608 w
set_option maxRecDepth 20000 in
set_option maxHeartbeats 2000000 in
theorem sL_law_533 {Ls : Nat} {xs : Nat → Int32} {d : Nat} {h : am_H} {Z : Int32 → am_H → Prop} {x3 : Int32} (w : (vp_in (x3 + 1) Ls ∧ (vp_in (x3 + 2) Ls ∧ (am_cl mX10_slip d [.ref 0, .int (xs (x3 + 1).toNatClampNeg), .int (xs (x3 + 2).toNatClampNeg)] h (fun r3 h4 => am_cl mX11_slip d [.ref 73, .int (xs (x3 + 1).toNatClampNeg), .int (xs (x3 + 2).toNatClampNeg)] h4 (fun r5 h6 => (r3 = r5 → Ru mL_law (some (Ls, xs)) d 991 [.retAddr 0, .ref 0, .ref 73, .int x3] [] h6 Z) ∧ (¬ (r3 = r5) → Z 0 h6))))))) : Ru mL_law (some (Ls, xs)) d 533 [.retAddr 0, .ref 0, .ref 73, .int x3] [] h Z := by
  refine st_aload_n dL_law_533 rfl ?_
  refine st_aload0_n dL_law_534 rfl ?_
  refine st_iload_n dL_law_535 rfl ?_
  refine st_iconst (v := 1) dL_law_536 (by decide) ?_
  refine st_iadd dL_law_537 ?_
  have hc1 := w.1
  replace w := w.2
  refine st_sld dL_law_538 hc1 ?_
  refine st_aload0_n dL_law_539 rfl ?_
  refine st_iload_n dL_law_540 rfl ?_
  refine st_iconst (v := 2) dL_law_541 (by decide) ?_
  refine st_iadd dL_law_542 ?_
  have hc2 := w.1
  replace w := w.2
  refine st_sld dL_law_543 hc2 ?_
  refine st_callV (M' := mX10_slip) [.int (xs (x3 + 1).toNatClampNeg), .int (xs (x3 + 2).toNatClampNeg)] [] dL_law_544 ml_L_70 mf_X10_slip mv_X10_slip sh_0 rfl rfl rfl w (fun r3 h4 w => ?_)
  show Ru mL_law (some (Ls, xs)) d 547 [.retAddr 0, .ref 0, .ref 73, .int x3] [.int r3] h4 Z
  refine st_aload_n dL_law_547 rfl ?_
  refine st_aload0_n dL_law_548 rfl ?_
  refine st_iload_n dL_law_549 rfl ?_
  refine st_iconst (v := 1) dL_law_550 (by decide) ?_
  refine st_iadd dL_law_551 ?_
  refine st_sld dL_law_552 hc1 ?_
  refine st_aload0_n dL_law_553 rfl ?_
  refine st_iload_n dL_law_554 rfl ?_
  refine st_iconst (v := 2) dL_law_555 (by decide) ?_
  refine st_iadd dL_law_556 ?_
  refine st_sld dL_law_557 hc2 ?_
  refine st_callV (M' := mX11_slip) [.int (xs (x3 + 1).toNatClampNeg), .int (xs (x3 + 2).toNatClampNeg)] [.int r3] dL_law_558 ml_L_73 mf_X11_slip mv_X11_slip sh_73 rfl rfl rfl w (fun r5 h6 w => ?_)
  show Ru mL_law (some (Ls, xs)) d 561 [.retAddr 0, .ref 0, .ref 73, .int x3] [.int r5, .int r3] h6 Z
  refine st_icmp_eq (tgt := 991) dL_law_561 (by decide) (fun c => ?_) (fun c => ?_)
  · replace w := w.1 c
    exact w
  · replace w := w.2 c
    refine st_iconst (v := 0) dL_law_564 (by decide) ?_
    exact st_ireturn rfl rfl dL_law_565 w
set_option maxRecDepth 20000 in
set_option maxHeartbeats 2000000 in
theorem sL_law_520 {Ls : Nat} {xs : Nat → Int32} {d : Nat} {h : am_H} {Z : Int32 → am_H → Prop} {x3 : Int32} (w : am_cl mX10_oldest d [.ref 0] h (fun r1 h2 => am_cl mX11_oldest d [.ref 73] h2 (fun r3 h4 => (r1 = r3 → Ru mL_law (some (Ls, xs)) d 991 [.retAddr 0, .ref 0, .ref 73, .int x3] [] h4 Z) ∧ (¬ (r1 = r3) → Z 0 h4)))) : Ru mL_law (some (Ls, xs)) d 520 [.retAddr 0, .ref 0, .ref 73, .int x3] [] h Z := by
  refine st_aload_n dL_law_520 rfl ?_
  refine st_callV (M' := mX10_oldest) [] [] dL_law_521 ml_L_66 mf_X10_oldest mv_X10_oldest sh_0 rfl rfl rfl w (fun r1 h2 w => ?_)
  show Ru mL_law (some (Ls, xs)) d 524 [.retAddr 0, .ref 0, .ref 73, .int x3] [.int r1] h2 Z
  refine st_aload_n dL_law_524 rfl ?_
  refine st_callV (M' := mX11_oldest) [] [.int r1] dL_law_525 ml_L_69 mf_X11_oldest mv_X11_oldest sh_73 rfl rfl rfl w (fun r3 h4 w => ?_)
  show Ru mL_law (some (Ls, xs)) d 528 [.retAddr 0, .ref 0, .ref 73, .int x3] [.int r3, .int r1] h4 Z
  refine st_icmp_eq (tgt := 991) dL_law_528 (by decide) (fun c => ?_) (fun c => ?_)
  · replace w := w.1 c
    exact w
  · replace w := w.2 c
    refine st_iconst (v := 0) dL_law_531 (by decide) ?_
    exact st_ireturn rfl rfl dL_law_532 w
set_option maxRecDepth 20000 in
set_option maxHeartbeats 2000000 in
theorem sL_law_487 {Ls : Nat} {xs : Nat → Int32} {d : Nat} {h : am_H} {Z : Int32 → am_H → Prop} {x3 : Int32} (w : (vp_in (x3 + 1) Ls ∧ (vp_in (x3 + 2) Ls ∧ (am_cl mX10_ofSubject d [.ref 0, .int (xs (x3 + 1).toNatClampNeg), .int (xs (x3 + 2).toNatClampNeg)] h (fun r3 h4 => am_cl mX11_ofSubject d [.ref 73, .int (xs (x3 + 1).toNatClampNeg), .int (xs (x3 + 2).toNatClampNeg)] h4 (fun r5 h6 => (r3 = r5 → Ru mL_law (some (Ls, xs)) d 991 [.retAddr 0, .ref 0, .ref 73, .int x3] [] h6 Z) ∧ (¬ (r3 = r5) → Z 0 h6))))))) : Ru mL_law (some (Ls, xs)) d 487 [.retAddr 0, .ref 0, .ref 73, .int x3] [] h Z := by
  refine st_aload_n dL_law_487 rfl ?_
  refine st_aload0_n dL_law_488 rfl ?_
  refine st_iload_n dL_law_489 rfl ?_
  refine st_iconst (v := 1) dL_law_490 (by decide) ?_
  refine st_iadd dL_law_491 ?_
  have hc1 := w.1
  replace w := w.2
  refine st_sld dL_law_492 hc1 ?_
  refine st_aload0_n dL_law_493 rfl ?_
  refine st_iload_n dL_law_494 rfl ?_
  refine st_iconst (v := 2) dL_law_495 (by decide) ?_
  refine st_iadd dL_law_496 ?_
  have hc2 := w.1
  replace w := w.2
  refine st_sld dL_law_497 hc2 ?_
  refine st_callV (M' := mX10_ofSubject) [.int (xs (x3 + 1).toNatClampNeg), .int (xs (x3 + 2).toNatClampNeg)] [] dL_law_498 ml_L_62 mf_X10_ofSubject mv_X10_ofSubject sh_0 rfl rfl rfl w (fun r3 h4 w => ?_)
  show Ru mL_law (some (Ls, xs)) d 501 [.retAddr 0, .ref 0, .ref 73, .int x3] [.int r3] h4 Z
  refine st_aload_n dL_law_501 rfl ?_
  refine st_aload0_n dL_law_502 rfl ?_
  refine st_iload_n dL_law_503 rfl ?_
  refine st_iconst (v := 1) dL_law_504 (by decide) ?_
  refine st_iadd dL_law_505 ?_
  refine st_sld dL_law_506 hc1 ?_
  refine st_aload0_n dL_law_507 rfl ?_
  refine st_iload_n dL_law_508 rfl ?_
  refine st_iconst (v := 2) dL_law_509 (by decide) ?_
  refine st_iadd dL_law_510 ?_
  refine st_sld dL_law_511 hc2 ?_
  refine st_callV (M' := mX11_ofSubject) [.int (xs (x3 + 1).toNatClampNeg), .int (xs (x3 + 2).toNatClampNeg)] [.int r3] dL_law_512 ml_L_65 mf_X11_ofSubject mv_X11_ofSubject sh_73 rfl rfl rfl w (fun r5 h6 w => ?_)
  show Ru mL_law (some (Ls, xs)) d 515 [.retAddr 0, .ref 0, .ref 73, .int x3] [.int r5, .int r3] h6 Z
  refine st_icmp_eq (tgt := 991) dL_law_515 (by decide) (fun c => ?_) (fun c => ?_)
  · replace w := w.1 c
    exact w
  · replace w := w.2 c
    refine st_iconst (v := 0) dL_law_518 (by decide) ?_
    exact st_ireturn rfl rfl dL_law_519 w
set_option maxRecDepth 20000 in
set_option maxHeartbeats 2000000 in
theorem sL_law_464 {Ls : Nat} {xs : Nat → Int32} {d : Nat} {h : am_H} {Z : Int32 → am_H → Prop} {x3 : Int32} (w : (vp_in (x3 + 1) Ls ∧ (am_cl mX10_free d [.ref 0, .int (xs (x3 + 1).toNatClampNeg)] h (fun r2 h3 => am_cl mX11_free d [.ref 73, .int (xs (x3 + 1).toNatClampNeg)] h3 (fun r4 h5 => (r2 = r4 → Ru mL_law (some (Ls, xs)) d 991 [.retAddr 0, .ref 0, .ref 73, .int x3] [] h5 Z) ∧ (¬ (r2 = r4) → Z 0 h5)))))) : Ru mL_law (some (Ls, xs)) d 464 [.retAddr 0, .ref 0, .ref 73, .int x3] [] h Z := by
  refine st_aload_n dL_law_464 rfl ?_
  refine st_aload0_n dL_law_465 rfl ?_
  refine st_iload_n dL_law_466 rfl ?_
  refine st_iconst (v := 1) dL_law_467 (by decide) ?_
  refine st_iadd dL_law_468 ?_
  have hc1 := w.1
  replace w := w.2
  refine st_sld dL_law_469 hc1 ?_
  refine st_callV (M' := mX10_free) [.int (xs (x3 + 1).toNatClampNeg)] [] dL_law_470 ml_L_58 mf_X10_free mv_X10_free sh_0 rfl rfl rfl w (fun r2 h3 w => ?_)
  show Ru mL_law (some (Ls, xs)) d 473 [.retAddr 0, .ref 0, .ref 73, .int x3] [.int r2] h3 Z
  refine st_aload_n dL_law_473 rfl ?_
  refine st_aload0_n dL_law_474 rfl ?_
  refine st_iload_n dL_law_475 rfl ?_
  refine st_iconst (v := 1) dL_law_476 (by decide) ?_
  refine st_iadd dL_law_477 ?_
  refine st_sld dL_law_478 hc1 ?_
  refine st_callV (M' := mX11_free) [.int (xs (x3 + 1).toNatClampNeg)] [.int r2] dL_law_479 ml_L_61 mf_X11_free mv_X11_free sh_73 rfl rfl rfl w (fun r4 h5 w => ?_)
  show Ru mL_law (some (Ls, xs)) d 482 [.retAddr 0, .ref 0, .ref 73, .int x3] [.int r4, .int r2] h5 Z
  refine st_icmp_eq (tgt := 991) dL_law_482 (by decide) (fun c => ?_) (fun c => ?_)
  · replace w := w.1 c
    exact w
  · replace w := w.2 c
    refine st_iconst (v := 0) dL_law_485 (by decide) ?_
    exact st_ireturn rfl rfl dL_law_486 w
set_option maxRecDepth 20000 in
set_option maxHeartbeats 2000000 in
theorem sL_law_451 {Ls : Nat} {xs : Nat → Int32} {d : Nat} {h : am_H} {Z : Int32 → am_H → Prop} {x3 : Int32} (w : am_cl mX10_fewest d [.ref 0] h (fun r1 h2 => am_cl mX11_fewest d [.ref 73] h2 (fun r3 h4 => (r1 = r3 → Ru mL_law (some (Ls, xs)) d 991 [.retAddr 0, .ref 0, .ref 73, .int x3] [] h4 Z) ∧ (¬ (r1 = r3) → Z 0 h4)))) : Ru mL_law (some (Ls, xs)) d 451 [.retAddr 0, .ref 0, .ref 73, .int x3] [] h Z := by
  refine st_aload_n dL_law_451 rfl ?_
  refine st_callV (M' := mX10_fewest) [] [] dL_law_452 ml_L_53 mf_X10_fewest mv_X10_fewest sh_0 rfl rfl rfl w (fun r1 h2 w => ?_)
  show Ru mL_law (some (Ls, xs)) d 455 [.retAddr 0, .ref 0, .ref 73, .int x3] [.int r1] h2 Z
  refine st_aload_n dL_law_455 rfl ?_
  refine st_callV (M' := mX11_fewest) [] [.int r1] dL_law_456 ml_L_57 mf_X11_fewest mv_X11_fewest sh_73 rfl rfl rfl w (fun r3 h4 w => ?_)
  show Ru mL_law (some (Ls, xs)) d 459 [.retAddr 0, .ref 0, .ref 73, .int x3] [.int r3, .int r1] h4 Z
  refine st_icmp_eq (tgt := 991) dL_law_459 (by decide) (fun c => ?_) (fun c => ?_)
  · replace w := w.1 c
    exact w
  · replace w := w.2 c
    refine st_iconst (v := 0) dL_law_462 (by decide) ?_
    exact st_ireturn rfl rfl dL_law_463 w
set_option maxRecDepth 20000 in
set_option maxHeartbeats 2000000 in
theorem sL_law_428 {Ls : Nat} {xs : Nat → Int32} {d : Nat} {h : am_H} {Z : Int32 → am_H → Prop} {x3 : Int32} (w : (vp_in (x3 + 1) Ls ∧ (am_cl mX10_shut d [.ref 0, .int (xs (x3 + 1).toNatClampNeg)] h (fun r2 h3 => am_cl mX11_shut d [.ref 73, .int (xs (x3 + 1).toNatClampNeg)] h3 (fun r4 h5 => (r2 = r4 → Ru mL_law (some (Ls, xs)) d 991 [.retAddr 0, .ref 0, .ref 73, .int x3] [] h5 Z) ∧ (¬ (r2 = r4) → Z 0 h5)))))) : Ru mL_law (some (Ls, xs)) d 428 [.retAddr 0, .ref 0, .ref 73, .int x3] [] h Z := by
  refine st_aload_n dL_law_428 rfl ?_
  refine st_aload0_n dL_law_429 rfl ?_
  refine st_iload_n dL_law_430 rfl ?_
  refine st_iconst (v := 1) dL_law_431 (by decide) ?_
  refine st_iadd dL_law_432 ?_
  have hc1 := w.1
  replace w := w.2
  refine st_sld dL_law_433 hc1 ?_
  refine st_callV (M' := mX10_shut) [.int (xs (x3 + 1).toNatClampNeg)] [] dL_law_434 ml_L_49 mf_X10_shut mv_X10_shut sh_0 rfl rfl rfl w (fun r2 h3 w => ?_)
  show Ru mL_law (some (Ls, xs)) d 437 [.retAddr 0, .ref 0, .ref 73, .int x3] [.int r2] h3 Z
  refine st_aload_n dL_law_437 rfl ?_
  refine st_aload0_n dL_law_438 rfl ?_
  refine st_iload_n dL_law_439 rfl ?_
  refine st_iconst (v := 1) dL_law_440 (by decide) ?_
  refine st_iadd dL_law_441 ?_
  refine st_sld dL_law_442 hc1 ?_
  refine st_callV (M' := mX11_shut) [.int (xs (x3 + 1).toNatClampNeg)] [.int r2] dL_law_443 ml_L_52 mf_X11_shut mv_X11_shut sh_73 rfl rfl rfl w (fun r4 h5 w => ?_)
  show Ru mL_law (some (Ls, xs)) d 446 [.retAddr 0, .ref 0, .ref 73, .int x3] [.int r4, .int r2] h5 Z
  refine st_icmp_eq (tgt := 991) dL_law_446 (by decide) (fun c => ?_) (fun c => ?_)
  · replace w := w.1 c
    exact w
  · replace w := w.2 c
    refine st_iconst (v := 0) dL_law_449 (by decide) ?_
    exact st_ireturn rfl rfl dL_law_450 w
set_option maxRecDepth 20000 in
set_option maxHeartbeats 2000000 in
theorem sL_law_395 {Ls : Nat} {xs : Nat → Int32} {d : Nat} {h : am_H} {Z : Int32 → am_H → Prop} {x3 : Int32} (w : (vp_in (x3 + 1) Ls ∧ (vp_in (x3 + 2) Ls ∧ (am_cl mX10_paperIs d [.ref 0, .int (xs (x3 + 1).toNatClampNeg), .int (xs (x3 + 2).toNatClampNeg)] h (fun r3 h4 => am_cl mX11_paperIs d [.ref 73, .int (xs (x3 + 1).toNatClampNeg), .int (xs (x3 + 2).toNatClampNeg)] h4 (fun r5 h6 => (r3 = r5 → Ru mL_law (some (Ls, xs)) d 991 [.retAddr 0, .ref 0, .ref 73, .int x3] [] h6 Z) ∧ (¬ (r3 = r5) → Z 0 h6))))))) : Ru mL_law (some (Ls, xs)) d 395 [.retAddr 0, .ref 0, .ref 73, .int x3] [] h Z := by
  refine st_aload_n dL_law_395 rfl ?_
  refine st_aload0_n dL_law_396 rfl ?_
  refine st_iload_n dL_law_397 rfl ?_
  refine st_iconst (v := 1) dL_law_398 (by decide) ?_
  refine st_iadd dL_law_399 ?_
  have hc1 := w.1
  replace w := w.2
  refine st_sld dL_law_400 hc1 ?_
  refine st_aload0_n dL_law_401 rfl ?_
  refine st_iload_n dL_law_402 rfl ?_
  refine st_iconst (v := 2) dL_law_403 (by decide) ?_
  refine st_iadd dL_law_404 ?_
  have hc2 := w.1
  replace w := w.2
  refine st_sld dL_law_405 hc2 ?_
  refine st_callV (M' := mX10_paperIs) [.int (xs (x3 + 1).toNatClampNeg), .int (xs (x3 + 2).toNatClampNeg)] [] dL_law_406 ml_L_45 mf_X10_paperIs mv_X10_paperIs sh_0 rfl rfl rfl w (fun r3 h4 w => ?_)
  show Ru mL_law (some (Ls, xs)) d 409 [.retAddr 0, .ref 0, .ref 73, .int x3] [.int r3] h4 Z
  refine st_aload_n dL_law_409 rfl ?_
  refine st_aload0_n dL_law_410 rfl ?_
  refine st_iload_n dL_law_411 rfl ?_
  refine st_iconst (v := 1) dL_law_412 (by decide) ?_
  refine st_iadd dL_law_413 ?_
  refine st_sld dL_law_414 hc1 ?_
  refine st_aload0_n dL_law_415 rfl ?_
  refine st_iload_n dL_law_416 rfl ?_
  refine st_iconst (v := 2) dL_law_417 (by decide) ?_
  refine st_iadd dL_law_418 ?_
  refine st_sld dL_law_419 hc2 ?_
  refine st_callV (M' := mX11_paperIs) [.int (xs (x3 + 1).toNatClampNeg), .int (xs (x3 + 2).toNatClampNeg)] [.int r3] dL_law_420 ml_L_48 mf_X11_paperIs mv_X11_paperIs sh_73 rfl rfl rfl w (fun r5 h6 w => ?_)
  show Ru mL_law (some (Ls, xs)) d 423 [.retAddr 0, .ref 0, .ref 73, .int x3] [.int r5, .int r3] h6 Z
  refine st_icmp_eq (tgt := 991) dL_law_423 (by decide) (fun c => ?_) (fun c => ?_)
  · replace w := w.1 c
    exact w
  · replace w := w.2 c
    refine st_iconst (v := 0) dL_law_426 (by decide) ?_
    exact st_ireturn rfl rfl dL_law_427 w
set_option maxRecDepth 20000 in
set_option maxHeartbeats 2000000 in
theorem sL_law_362 {Ls : Nat} {xs : Nat → Int32} {d : Nat} {h : am_H} {Z : Int32 → am_H → Prop} {x3 : Int32} (w : (vp_in (x3 + 1) Ls ∧ (vp_in (x3 + 2) Ls ∧ (am_cl mX10_drawerIs d [.ref 0, .int (xs (x3 + 1).toNatClampNeg), .int (xs (x3 + 2).toNatClampNeg)] h (fun r3 h4 => am_cl mX11_drawerIs d [.ref 73, .int (xs (x3 + 1).toNatClampNeg), .int (xs (x3 + 2).toNatClampNeg)] h4 (fun r5 h6 => (r3 = r5 → Ru mL_law (some (Ls, xs)) d 991 [.retAddr 0, .ref 0, .ref 73, .int x3] [] h6 Z) ∧ (¬ (r3 = r5) → Z 0 h6))))))) : Ru mL_law (some (Ls, xs)) d 362 [.retAddr 0, .ref 0, .ref 73, .int x3] [] h Z := by
  refine st_aload_n dL_law_362 rfl ?_
  refine st_aload0_n dL_law_363 rfl ?_
  refine st_iload_n dL_law_364 rfl ?_
  refine st_iconst (v := 1) dL_law_365 (by decide) ?_
  refine st_iadd dL_law_366 ?_
  have hc1 := w.1
  replace w := w.2
  refine st_sld dL_law_367 hc1 ?_
  refine st_aload0_n dL_law_368 rfl ?_
  refine st_iload_n dL_law_369 rfl ?_
  refine st_iconst (v := 2) dL_law_370 (by decide) ?_
  refine st_iadd dL_law_371 ?_
  have hc2 := w.1
  replace w := w.2
  refine st_sld dL_law_372 hc2 ?_
  refine st_callV (M' := mX10_drawerIs) [.int (xs (x3 + 1).toNatClampNeg), .int (xs (x3 + 2).toNatClampNeg)] [] dL_law_373 ml_L_41 mf_X10_drawerIs mv_X10_drawerIs sh_0 rfl rfl rfl w (fun r3 h4 w => ?_)
  show Ru mL_law (some (Ls, xs)) d 376 [.retAddr 0, .ref 0, .ref 73, .int x3] [.int r3] h4 Z
  refine st_aload_n dL_law_376 rfl ?_
  refine st_aload0_n dL_law_377 rfl ?_
  refine st_iload_n dL_law_378 rfl ?_
  refine st_iconst (v := 1) dL_law_379 (by decide) ?_
  refine st_iadd dL_law_380 ?_
  refine st_sld dL_law_381 hc1 ?_
  refine st_aload0_n dL_law_382 rfl ?_
  refine st_iload_n dL_law_383 rfl ?_
  refine st_iconst (v := 2) dL_law_384 (by decide) ?_
  refine st_iadd dL_law_385 ?_
  refine st_sld dL_law_386 hc2 ?_
  refine st_callV (M' := mX11_drawerIs) [.int (xs (x3 + 1).toNatClampNeg), .int (xs (x3 + 2).toNatClampNeg)] [.int r3] dL_law_387 ml_L_44 mf_X11_drawerIs mv_X11_drawerIs sh_73 rfl rfl rfl w (fun r5 h6 w => ?_)
  show Ru mL_law (some (Ls, xs)) d 390 [.retAddr 0, .ref 0, .ref 73, .int x3] [.int r5, .int r3] h6 Z
  refine st_icmp_eq (tgt := 991) dL_law_390 (by decide) (fun c => ?_) (fun c => ?_)
  · replace w := w.1 c
    exact w
  · replace w := w.2 c
    refine st_iconst (v := 0) dL_law_393 (by decide) ?_
    exact st_ireturn rfl rfl dL_law_394 w
set_option maxRecDepth 20000 in
set_option maxHeartbeats 2000000 in
theorem sL_law_329 {Ls : Nat} {xs : Nat → Int32} {d : Nat} {h : am_H} {Z : Int32 → am_H → Prop} {x3 : Int32} (w : (vp_in (x3 + 1) Ls ∧ (vp_in (x3 + 2) Ls ∧ (am_cl mX10_tried d [.ref 0, .int (xs (x3 + 1).toNatClampNeg), .int (xs (x3 + 2).toNatClampNeg)] h (fun r3 h4 => am_cl mX11_tried d [.ref 73, .int (xs (x3 + 1).toNatClampNeg), .int (xs (x3 + 2).toNatClampNeg)] h4 (fun r5 h6 => (r3 = r5 → Ru mL_law (some (Ls, xs)) d 991 [.retAddr 0, .ref 0, .ref 73, .int x3] [] h6 Z) ∧ (¬ (r3 = r5) → Z 0 h6))))))) : Ru mL_law (some (Ls, xs)) d 329 [.retAddr 0, .ref 0, .ref 73, .int x3] [] h Z := by
  refine st_aload_n dL_law_329 rfl ?_
  refine st_aload0_n dL_law_330 rfl ?_
  refine st_iload_n dL_law_331 rfl ?_
  refine st_iconst (v := 1) dL_law_332 (by decide) ?_
  refine st_iadd dL_law_333 ?_
  have hc1 := w.1
  replace w := w.2
  refine st_sld dL_law_334 hc1 ?_
  refine st_aload0_n dL_law_335 rfl ?_
  refine st_iload_n dL_law_336 rfl ?_
  refine st_iconst (v := 2) dL_law_337 (by decide) ?_
  refine st_iadd dL_law_338 ?_
  have hc2 := w.1
  replace w := w.2
  refine st_sld dL_law_339 hc2 ?_
  refine st_callV (M' := mX10_tried) [.int (xs (x3 + 1).toNatClampNeg), .int (xs (x3 + 2).toNatClampNeg)] [] dL_law_340 ml_L_36 mf_X10_tried mv_X10_tried sh_0 rfl rfl rfl w (fun r3 h4 w => ?_)
  show Ru mL_law (some (Ls, xs)) d 343 [.retAddr 0, .ref 0, .ref 73, .int x3] [.int r3] h4 Z
  refine st_aload_n dL_law_343 rfl ?_
  refine st_aload0_n dL_law_344 rfl ?_
  refine st_iload_n dL_law_345 rfl ?_
  refine st_iconst (v := 1) dL_law_346 (by decide) ?_
  refine st_iadd dL_law_347 ?_
  refine st_sld dL_law_348 hc1 ?_
  refine st_aload0_n dL_law_349 rfl ?_
  refine st_iload_n dL_law_350 rfl ?_
  refine st_iconst (v := 2) dL_law_351 (by decide) ?_
  refine st_iadd dL_law_352 ?_
  refine st_sld dL_law_353 hc2 ?_
  refine st_callV (M' := mX11_tried) [.int (xs (x3 + 1).toNatClampNeg), .int (xs (x3 + 2).toNatClampNeg)] [.int r3] dL_law_354 ml_L_40 mf_X11_tried mv_X11_tried sh_73 rfl rfl rfl w (fun r5 h6 w => ?_)
  show Ru mL_law (some (Ls, xs)) d 357 [.retAddr 0, .ref 0, .ref 73, .int x3] [.int r5, .int r3] h6 Z
  refine st_icmp_eq (tgt := 991) dL_law_357 (by decide) (fun c => ?_) (fun c => ?_)
  · replace w := w.1 c
    exact w
  · replace w := w.2 c
    refine st_iconst (v := 0) dL_law_360 (by decide) ?_
    exact st_ireturn rfl rfl dL_law_361 w
set_option maxRecDepth 20000 in
set_option maxHeartbeats 2000000 in
theorem sL_law_306 {Ls : Nat} {xs : Nat → Int32} {d : Nat} {h : am_H} {Z : Int32 → am_H → Prop} {x3 : Int32} (w : (vp_in (x3 + 1) Ls ∧ (am_cl mX10_days d [.ref 0, .int (xs (x3 + 1).toNatClampNeg)] h (fun r2 h3 => am_cl mX11_days d [.ref 73, .int (xs (x3 + 1).toNatClampNeg)] h3 (fun r4 h5 => (r2 = r4 → Ru mL_law (some (Ls, xs)) d 991 [.retAddr 0, .ref 0, .ref 73, .int x3] [] h5 Z) ∧ (¬ (r2 = r4) → Z 0 h5)))))) : Ru mL_law (some (Ls, xs)) d 306 [.retAddr 0, .ref 0, .ref 73, .int x3] [] h Z := by
  refine st_aload_n dL_law_306 rfl ?_
  refine st_aload0_n dL_law_307 rfl ?_
  refine st_iload_n dL_law_308 rfl ?_
  refine st_iconst (v := 1) dL_law_309 (by decide) ?_
  refine st_iadd dL_law_310 ?_
  have hc1 := w.1
  replace w := w.2
  refine st_sld dL_law_311 hc1 ?_
  refine st_callV (M' := mX10_days) [.int (xs (x3 + 1).toNatClampNeg)] [] dL_law_312 ml_L_32 mf_X10_days mv_X10_days sh_0 rfl rfl rfl w (fun r2 h3 w => ?_)
  show Ru mL_law (some (Ls, xs)) d 315 [.retAddr 0, .ref 0, .ref 73, .int x3] [.int r2] h3 Z
  refine st_aload_n dL_law_315 rfl ?_
  refine st_aload0_n dL_law_316 rfl ?_
  refine st_iload_n dL_law_317 rfl ?_
  refine st_iconst (v := 1) dL_law_318 (by decide) ?_
  refine st_iadd dL_law_319 ?_
  refine st_sld dL_law_320 hc1 ?_
  refine st_callV (M' := mX11_days) [.int (xs (x3 + 1).toNatClampNeg)] [.int r2] dL_law_321 ml_L_35 mf_X11_days mv_X11_days sh_73 rfl rfl rfl w (fun r4 h5 w => ?_)
  show Ru mL_law (some (Ls, xs)) d 324 [.retAddr 0, .ref 0, .ref 73, .int x3] [.int r4, .int r2] h5 Z
  refine st_icmp_eq (tgt := 991) dL_law_324 (by decide) (fun c => ?_) (fun c => ?_)
  · replace w := w.1 c
    exact w
  · replace w := w.2 c
    refine st_iconst (v := 0) dL_law_327 (by decide) ?_
    exact st_ireturn rfl rfl dL_law_328 w
set_option maxRecDepth 20000 in
set_option maxHeartbeats 2000000 in
theorem sL_law_283 {Ls : Nat} {xs : Nat → Int32} {d : Nat} {h : am_H} {Z : Int32 → am_H → Prop} {x3 : Int32} (w : (vp_in (x3 + 1) Ls ∧ (am_cl mX10_cabinet d [.ref 0, .int (xs (x3 + 1).toNatClampNeg)] h (fun r2 h3 => am_cl mX11_cabinet d [.ref 73, .int (xs (x3 + 1).toNatClampNeg)] h3 (fun r4 h5 => (r2 = r4 → Ru mL_law (some (Ls, xs)) d 991 [.retAddr 0, .ref 0, .ref 73, .int x3] [] h5 Z) ∧ (¬ (r2 = r4) → Z 0 h5)))))) : Ru mL_law (some (Ls, xs)) d 283 [.retAddr 0, .ref 0, .ref 73, .int x3] [] h Z := by
  refine st_aload_n dL_law_283 rfl ?_
  refine st_aload0_n dL_law_284 rfl ?_
  refine st_iload_n dL_law_285 rfl ?_
  refine st_iconst (v := 1) dL_law_286 (by decide) ?_
  refine st_iadd dL_law_287 ?_
  have hc1 := w.1
  replace w := w.2
  refine st_sld dL_law_288 hc1 ?_
  refine st_callV (M' := mX10_cabinet) [.int (xs (x3 + 1).toNatClampNeg)] [] dL_law_289 ml_L_28 mf_X10_cabinet mv_X10_cabinet sh_0 rfl rfl rfl w (fun r2 h3 w => ?_)
  show Ru mL_law (some (Ls, xs)) d 292 [.retAddr 0, .ref 0, .ref 73, .int x3] [.int r2] h3 Z
  refine st_aload_n dL_law_292 rfl ?_
  refine st_aload0_n dL_law_293 rfl ?_
  refine st_iload_n dL_law_294 rfl ?_
  refine st_iconst (v := 1) dL_law_295 (by decide) ?_
  refine st_iadd dL_law_296 ?_
  refine st_sld dL_law_297 hc1 ?_
  refine st_callV (M' := mX11_cabinet) [.int (xs (x3 + 1).toNatClampNeg)] [.int r2] dL_law_298 ml_L_31 mf_X11_cabinet mv_X11_cabinet sh_73 rfl rfl rfl w (fun r4 h5 w => ?_)
  show Ru mL_law (some (Ls, xs)) d 301 [.retAddr 0, .ref 0, .ref 73, .int x3] [.int r4, .int r2] h5 Z
  refine st_icmp_eq (tgt := 991) dL_law_301 (by decide) (fun c => ?_) (fun c => ?_)
  · replace w := w.1 c
    exact w
  · replace w := w.2 c
    refine st_iconst (v := 0) dL_law_304 (by decide) ?_
    exact st_ireturn rfl rfl dL_law_305 w
set_option maxRecDepth 20000 in
set_option maxHeartbeats 2000000 in
theorem sL_law_260 {Ls : Nat} {xs : Nat → Int32} {d : Nat} {h : am_H} {Z : Int32 → am_H → Prop} {x3 : Int32} (w : (vp_in (x3 + 1) Ls ∧ (am_cl mX10_law d [.ref 0, .int (xs (x3 + 1).toNatClampNeg)] h (fun r2 h3 => am_cl mX11_law d [.ref 73, .int (xs (x3 + 1).toNatClampNeg)] h3 (fun r4 h5 => (r2 = r4 → Ru mL_law (some (Ls, xs)) d 991 [.retAddr 0, .ref 0, .ref 73, .int x3] [] h5 Z) ∧ (¬ (r2 = r4) → Z 0 h5)))))) : Ru mL_law (some (Ls, xs)) d 260 [.retAddr 0, .ref 0, .ref 73, .int x3] [] h Z := by
  refine st_aload_n dL_law_260 rfl ?_
  refine st_aload0_n dL_law_261 rfl ?_
  refine st_iload_n dL_law_262 rfl ?_
  refine st_iconst (v := 1) dL_law_263 (by decide) ?_
  refine st_iadd dL_law_264 ?_
  have hc1 := w.1
  replace w := w.2
  refine st_sld dL_law_265 hc1 ?_
  refine st_callV (M' := mX10_law) [.int (xs (x3 + 1).toNatClampNeg)] [] dL_law_266 ml_L_23 mf_X10_law mv_X10_law sh_0 rfl rfl rfl w (fun r2 h3 w => ?_)
  show Ru mL_law (some (Ls, xs)) d 269 [.retAddr 0, .ref 0, .ref 73, .int x3] [.int r2] h3 Z
  refine st_aload_n dL_law_269 rfl ?_
  refine st_aload0_n dL_law_270 rfl ?_
  refine st_iload_n dL_law_271 rfl ?_
  refine st_iconst (v := 1) dL_law_272 (by decide) ?_
  refine st_iadd dL_law_273 ?_
  refine st_sld dL_law_274 hc1 ?_
  refine st_callV (M' := mX11_law) [.int (xs (x3 + 1).toNatClampNeg)] [.int r2] dL_law_275 ml_L_27 mf_X11_law mv_X11_law sh_73 rfl rfl rfl w (fun r4 h5 w => ?_)
  show Ru mL_law (some (Ls, xs)) d 278 [.retAddr 0, .ref 0, .ref 73, .int x3] [.int r4, .int r2] h5 Z
  refine st_icmp_eq (tgt := 991) dL_law_278 (by decide) (fun c => ?_) (fun c => ?_)
  · replace w := w.1 c
    exact w
  · replace w := w.2 c
    refine st_iconst (v := 0) dL_law_281 (by decide) ?_
    exact st_ireturn rfl rfl dL_law_282 w
set_option maxRecDepth 20000 in
set_option maxHeartbeats 2000000 in
theorem sL_law_197 {Ls : Nat} {xs : Nat → Int32} {d : Nat} {h : am_H} {Z : Int32 → am_H → Prop} {x3 : Int32} (w : (vp_in (x3 + 1) Ls ∧ (vp_in (x3 + 2) Ls ∧ (vp_in (x3 + 3) Ls ∧ (vp_in (x3 + 4) Ls ∧ (vp_in (x3 + 5) Ls ∧ (am_cl mX10_feed d [.ref 0, .int (xs (x3 + 1).toNatClampNeg), .int (xs (x3 + 2).toNatClampNeg), .int (xs (x3 + 3).toNatClampNeg), .int (xs (x3 + 4).toNatClampNeg), .int (xs (x3 + 5).toNatClampNeg)] h (fun r6 h7 => am_cl mX11_feed d [.ref 73, .int (xs (x3 + 1).toNatClampNeg), .int (xs (x3 + 2).toNatClampNeg), .int (xs (x3 + 3).toNatClampNeg), .int (xs (x3 + 4).toNatClampNeg), .int (xs (x3 + 5).toNatClampNeg)] h7 (fun r8 h9 => (r6 = r8 → Ru mL_law (some (Ls, xs)) d 991 [.retAddr 0, .ref 0, .ref 73, .int x3] [] h9 Z) ∧ (¬ (r6 = r8) → Z 0 h9)))))))))) : Ru mL_law (some (Ls, xs)) d 197 [.retAddr 0, .ref 0, .ref 73, .int x3] [] h Z := by
  refine st_aload_n dL_law_197 rfl ?_
  refine st_aload0_n dL_law_198 rfl ?_
  refine st_iload_n dL_law_199 rfl ?_
  refine st_iconst (v := 1) dL_law_200 (by decide) ?_
  refine st_iadd dL_law_201 ?_
  have hc1 := w.1
  replace w := w.2
  refine st_sld dL_law_202 hc1 ?_
  refine st_aload0_n dL_law_203 rfl ?_
  refine st_iload_n dL_law_204 rfl ?_
  refine st_iconst (v := 2) dL_law_205 (by decide) ?_
  refine st_iadd dL_law_206 ?_
  have hc2 := w.1
  replace w := w.2
  refine st_sld dL_law_207 hc2 ?_
  refine st_aload0_n dL_law_208 rfl ?_
  refine st_iload_n dL_law_209 rfl ?_
  refine st_iconst (v := 3) dL_law_210 (by decide) ?_
  refine st_iadd dL_law_211 ?_
  have hc3 := w.1
  replace w := w.2
  refine st_sld dL_law_212 hc3 ?_
  refine st_aload0_n dL_law_213 rfl ?_
  refine st_iload_n dL_law_214 rfl ?_
  refine st_iconst (v := 4) dL_law_215 (by decide) ?_
  refine st_iadd dL_law_216 ?_
  have hc4 := w.1
  replace w := w.2
  refine st_sld dL_law_217 hc4 ?_
  refine st_aload0_n dL_law_218 rfl ?_
  refine st_iload_n dL_law_219 rfl ?_
  refine st_iconst (v := 5) dL_law_220 (by decide) ?_
  refine st_iadd dL_law_221 ?_
  have hc5 := w.1
  replace w := w.2
  refine st_sld dL_law_222 hc5 ?_
  refine st_callV (M' := mX10_feed) [.int (xs (x3 + 1).toNatClampNeg), .int (xs (x3 + 2).toNatClampNeg), .int (xs (x3 + 3).toNatClampNeg), .int (xs (x3 + 4).toNatClampNeg), .int (xs (x3 + 5).toNatClampNeg)] [] dL_law_223 ml_L_18 mf_X10_feed mv_X10_feed sh_0 rfl rfl rfl w (fun r6 h7 w => ?_)
  show Ru mL_law (some (Ls, xs)) d 226 [.retAddr 0, .ref 0, .ref 73, .int x3] [.int r6] h7 Z
  refine st_aload_n dL_law_226 rfl ?_
  refine st_aload0_n dL_law_227 rfl ?_
  refine st_iload_n dL_law_228 rfl ?_
  refine st_iconst (v := 1) dL_law_229 (by decide) ?_
  refine st_iadd dL_law_230 ?_
  refine st_sld dL_law_231 hc1 ?_
  refine st_aload0_n dL_law_232 rfl ?_
  refine st_iload_n dL_law_233 rfl ?_
  refine st_iconst (v := 2) dL_law_234 (by decide) ?_
  refine st_iadd dL_law_235 ?_
  refine st_sld dL_law_236 hc2 ?_
  refine st_aload0_n dL_law_237 rfl ?_
  refine st_iload_n dL_law_238 rfl ?_
  refine st_iconst (v := 3) dL_law_239 (by decide) ?_
  refine st_iadd dL_law_240 ?_
  refine st_sld dL_law_241 hc3 ?_
  refine st_aload0_n dL_law_242 rfl ?_
  refine st_iload_n dL_law_243 rfl ?_
  refine st_iconst (v := 4) dL_law_244 (by decide) ?_
  refine st_iadd dL_law_245 ?_
  refine st_sld dL_law_246 hc4 ?_
  refine st_aload0_n dL_law_247 rfl ?_
  refine st_iload_n dL_law_248 rfl ?_
  refine st_iconst (v := 5) dL_law_249 (by decide) ?_
  refine st_iadd dL_law_250 ?_
  refine st_sld dL_law_251 hc5 ?_
  refine st_callV (M' := mX11_feed) [.int (xs (x3 + 1).toNatClampNeg), .int (xs (x3 + 2).toNatClampNeg), .int (xs (x3 + 3).toNatClampNeg), .int (xs (x3 + 4).toNatClampNeg), .int (xs (x3 + 5).toNatClampNeg)] [.int r6] dL_law_252 ml_L_22 mf_X11_feed mv_X11_feed sh_73 rfl rfl rfl w (fun r8 h9 w => ?_)
  show Ru mL_law (some (Ls, xs)) d 255 [.retAddr 0, .ref 0, .ref 73, .int x3] [.int r8, .int r6] h9 Z
  refine st_icmp_eq (tgt := 991) dL_law_255 (by decide) (fun c => ?_) (fun c => ?_)
  · replace w := w.1 c
    exact w
  · replace w := w.2 c
    refine st_iconst (v := 0) dL_law_258 (by decide) ?_
    exact st_ireturn rfl rfl dL_law_259 w
set_option maxRecDepth 20000 in
set_option maxHeartbeats 2000000 in
theorem sL_law_164 {Ls : Nat} {xs : Nat → Int32} {d : Nat} {h : am_H} {Z : Int32 → am_H → Prop} {x3 : Int32} (w : (vp_in (x3 + 1) Ls ∧ (vp_in (x3 + 2) Ls ∧ (am_cl mX10_put d [.ref 0, .int (xs (x3 + 1).toNatClampNeg), .int (xs (x3 + 2).toNatClampNeg)] h (fun r3 h4 => am_cl mX11_put d [.ref 73, .int (xs (x3 + 1).toNatClampNeg), .int (xs (x3 + 2).toNatClampNeg)] h4 (fun r5 h6 => (r3 = r5 → Ru mL_law (some (Ls, xs)) d 991 [.retAddr 0, .ref 0, .ref 73, .int x3] [] h6 Z) ∧ (¬ (r3 = r5) → Z 0 h6))))))) : Ru mL_law (some (Ls, xs)) d 164 [.retAddr 0, .ref 0, .ref 73, .int x3] [] h Z := by
  refine st_aload_n dL_law_164 rfl ?_
  refine st_aload0_n dL_law_165 rfl ?_
  refine st_iload_n dL_law_166 rfl ?_
  refine st_iconst (v := 1) dL_law_167 (by decide) ?_
  refine st_iadd dL_law_168 ?_
  have hc1 := w.1
  replace w := w.2
  refine st_sld dL_law_169 hc1 ?_
  refine st_aload0_n dL_law_170 rfl ?_
  refine st_iload_n dL_law_171 rfl ?_
  refine st_iconst (v := 2) dL_law_172 (by decide) ?_
  refine st_iadd dL_law_173 ?_
  have hc2 := w.1
  replace w := w.2
  refine st_sld dL_law_174 hc2 ?_
  refine st_callV (M' := mX10_put) [.int (xs (x3 + 1).toNatClampNeg), .int (xs (x3 + 2).toNatClampNeg)] [] dL_law_175 ml_L_13 mf_X10_put mv_X10_put sh_0 rfl rfl rfl w (fun r3 h4 w => ?_)
  show Ru mL_law (some (Ls, xs)) d 178 [.retAddr 0, .ref 0, .ref 73, .int x3] [.int r3] h4 Z
  refine st_aload_n dL_law_178 rfl ?_
  refine st_aload0_n dL_law_179 rfl ?_
  refine st_iload_n dL_law_180 rfl ?_
  refine st_iconst (v := 1) dL_law_181 (by decide) ?_
  refine st_iadd dL_law_182 ?_
  refine st_sld dL_law_183 hc1 ?_
  refine st_aload0_n dL_law_184 rfl ?_
  refine st_iload_n dL_law_185 rfl ?_
  refine st_iconst (v := 2) dL_law_186 (by decide) ?_
  refine st_iadd dL_law_187 ?_
  refine st_sld dL_law_188 hc2 ?_
  refine st_callV (M' := mX11_put) [.int (xs (x3 + 1).toNatClampNeg), .int (xs (x3 + 2).toNatClampNeg)] [.int r3] dL_law_189 ml_L_17 mf_X11_put mv_X11_put sh_73 rfl rfl rfl w (fun r5 h6 w => ?_)
  show Ru mL_law (some (Ls, xs)) d 192 [.retAddr 0, .ref 0, .ref 73, .int x3] [.int r5, .int r3] h6 Z
  refine st_icmp_eq (tgt := 991) dL_law_192 (by decide) (fun c => ?_) (fun c => ?_)
  · replace w := w.1 c
    exact w
  · replace w := w.2 c
    refine st_iconst (v := 0) dL_law_195 (by decide) ?_
    exact st_ireturn rfl rfl dL_law_196 w
