-- the constant text of the facts: steps and indexOf
section
variable {M : am_M} {sc : Option (Nat × (Nat → Int32))} {d pc : Nat} {L st : List Value} {h : am_H} {Z : Int32 → am_H → Prop}
def am_tx (k : Nat) : Int32 := ([112, 115, 122, 100, 102, 110, 97, 105, 116, 119] : List Int32).getD k 0
theorem st_ldcS (hc : M.1.cls = "BureauCrown$LawReader") (hd : decode M.2.1 pc = .ok (.ldc 115, 2)) (k : Ru M sc d (pc + 2) L (.retAddr 1 :: st) h Z) : Ru M sc d pc L st h Z := by
  intro p l e R s m args below meth c H locs cells slots Q G D cT ls C hP hS hL hret
  exact va_ldcS C.1 C.2.1 (by rw [← hc]; exact C.2.2.2.1) C.2.2.2.2.2.2.1.1 hd (k p l e R s m args below meth c H locs cells slots Q G D cT ls C hP hS hL hret)
theorem st_getV (hc : M.1.cls = "java/lang/String") (hd : decode M.2.1 pc = .ok (.getfield 9, 3)) (k : Ru M sc d (pc + 3) L (.retAddr 2 :: st) h Z) : Ru M sc d pc L (.retAddr 1 :: st) h Z := by
  intro p l e R s m args below meth c H locs cells slots Q G D cT ls C hP hS hL hret
  have hl : Cond.fieldLink "java/lang/String" 9 "java/lang/String" "value" "[B" ∈ lw_g := am_mem 1741 (by decide +kernel) (by decide +kernel)
  exact vk_getf (v := .ref G.2.2.2) C.1 C.2.1 (C.2.2.2.2.2.2.1.2.1.1 0 (by decide)).2.2.1 hS (by rw [← hc]; exact C.2.2.2.1) (C.2.2.2.2.1 _ hl) (fun x hx => hx) hd (k p l e R s m args below meth c H locs cells slots Q G D cT ls C hP hS hL hret)
theorem st_getC (hc : M.1.cls = "java/lang/String") (hd : decode M.2.1 pc = .ok (.getfield 15, 3)) (k : Ru M sc d (pc + 3) L (.int 0 :: st) h Z) : Ru M sc d pc L (.retAddr 1 :: st) h Z := by
  intro p l e R s m args below meth c H locs cells slots Q G D cT ls C hP hS hL hret
  have hl : Cond.fieldLink "java/lang/String" 15 "java/lang/String" "coder" "B" ∈ lw_g := am_mem 1740 (by decide +kernel) (by decide +kernel)
  exact vk_getf (v := .int 0) C.1 C.2.1 (C.2.2.2.2.2.2.1.2.1.1 0 (by decide)).2.1 hS (by rw [← hc]; exact C.2.2.2.1) (C.2.2.2.2.1 _ hl) (fun x hx => hx) hd (k p l e R s m args below meth c H locs cells slots Q G D cT ls C hP hS hL hret)
theorem st_cmp (hc : M.1.cls = "java/lang/String") (hd : decode M.2.1 pc = .ok (.getstatic 38, 3)) (k : Ru M sc d (pc + 3) L (.int 1 :: st) h Z) : Ru M sc d pc L st h Z := by
  intro p l e R s m args below meth c H locs cells slots Q G D cT ls C hP hS hL hret
  have hl : Cond.fieldLink "java/lang/String" 38 "java/lang/String" "COMPACT_STRINGS" "Z" ∈ lw_g := am_mem 582 (by decide +kernel) (by decide +kernel)
  exact va_gets C.1 C.2.1 C.2.2.2.2.2.2.1.2.2 hS (by rw [← hc]; exact C.2.2.2.1) (C.2.2.2.2.1 _ hl) (fun x hx => hx) hd (k p l e R s m args below meth c H locs cells slots Q G D cT ls C hP hS hL hret)
theorem st_txb {i : Int32} (hd : decode M.2.1 pc = .ok (.baload, 1)) (hi : vp_in i 10) (k : Ru M sc d (pc + 1) L (.int (am_tx i.toNatClampNeg) :: st) h Z) : Ru M sc d pc L (.int i :: .retAddr 2 :: st) h Z := by
  intro p l e R s m args below meth c H locs cells slots Q G D cT ls C hP hS hL hret
  exact va_tb C.1 C.2.1 (C.2.2.2.2.2.2.1.2.1.1 0 (by decide)).2.2.2 hS hi rfl hd (k p l e R s m args below meth c H locs cells slots Q G D cT ls C hP hS hL hret)
theorem st_txl (hd : decode M.2.1 pc = .ok (.arraylength, 1)) (k : Ru M sc d (pc + 1) L (.int 10 :: st) h Z) : Ru M sc d pc L (.retAddr 2 :: st) h Z := by
  intro p l e R s m args below meth c H locs cells slots Q G D cT ls C hP hS hL hret
  exact va_tlen C.1 C.2.1 (C.2.2.2.2.2.2.1.2.1.1 0 (by decide)).2.2.2 hS rfl hd (k p l e R s m args below meth c H locs cells slots Q G D cT ls C hP hS hL hret)
def am_mxx (M : am_M) : Prop := M.1.cls = "java/lang/String" ∧ Cond.instanceMethod M.1 ∈ lw_g ∧ Cond.selects M.1.cls M.1 M.1 ∈ lw_g
theorem st_callX {M' : am_M} {idx n : Nat} {st0 : List Value} {K : Int32 → am_H → Prop} (As : List Value) (rest : List Value) (hd : decode M.2.1 pc = .ok (.invokevirtual idx, 3)) (hlk : Cond.methodLink M.1.cls idx M'.1 ∈ lw_g) (hm : am_mf M' n) (hv : am_mxx M') (hn : As.length = n) (hst : st0 = As.reverse ++ .retAddr 1 :: rest) (hrs : am_rest rest = true) (w : am_cl M' d (.retAddr 1 :: As) h K)
    (k : ∀ (r : Int32) (h' : am_H), K r h' → Ru M sc d (pc + 3) L ((am_rv M' r).toList ++ rest) h' Z) : Ru M sc d pc L st0 h Z := by
  intro p l e R s m args below meth c H locs cells slots Q G D cT ls C hP hS hL hret
  obtain ⟨d', hdd, hsp⟩ := w
  obtain ⟨g1, g2, g3, g4, g5⟩ := hm
  obtain ⟨v0, v1, v2⟩ := hv
  obtain ⟨hx, hb, hml, hown, hts, hK, hSt, hX, hz, hf, hlo, hce, hsl⟩ := id C
  unfold am_rest at hrs
  rw [Bool.and_eq_true, decide_eq_true_eq] at hrs
  refine am_ran C hS hL hret (va_runV (C := M'.1.cls) (As := As.map (am_v G)) (rest := rest.map (am_v G)) (b := G.2.2.1) ⟨hx, hb, hml, hown, hts⟩ (hsp l G D cT) ⟨callB_of n hts (am_good g1) rfl rfl rfl (hts _ g2) (hts _ hlk) g3 (am_call_hR hdd g4 hf hlo), hts _ v1, hts _ v2⟩ ⟨am_blind, by rw [v0]; exact vk_recv hSt.2.1 (by decide : 0 < 1) hS, fun U hU hW => ⟨rfl, by rw [hU]; exact hP, va_K.moved hW.alike hK, am_S_at hSt hS hU hW, by rw [hU]; exact Nat.le_trans hz hS.1⟩⟩ rfl (by rw [List.length_map]; exact hn) (by rw [show (F0 m pc ls (st0.map (am_v G))).locals = ls from rfl]; exact hL.2.1) ?_ (lv_room (by rw [am_rest_sum hrs.1]; exact hrs.2)) hd ⟨by simpa using hce, by simpa using hsl⟩) k
  subst hst
  show (As.reverse ++ .retAddr 1 :: rest).map (am_v G) = _
  rw [List.map_append, List.map_reverse]
  rfl
end
theorem mx_J0_indexOf_0f7a4 : am_mxx mJ0_indexOf_0f7a4 := ⟨rfl, am_mem 571 (by decide +kernel) (by decide +kernel), am_mem 572 (by decide +kernel) (by decide +kernel)⟩
theorem mx_J0_indexOf_7cf53 : am_mxx mJ0_indexOf_7cf53 := ⟨rfl, am_mem 575 (by decide +kernel) (by decide +kernel), am_mem 576 (by decide +kernel) (by decide +kernel)⟩
theorem mx_J0_isLatin1_aae02 : am_mxx mJ0_isLatin1_aae02 := ⟨rfl, am_mem 579 (by decide +kernel) (by decide +kernel), am_mem 580 (by decide +kernel) (by decide +kernel)⟩
theorem mx_J0_length_8abf5 : am_mxx mJ0_length_8abf5 := ⟨rfl, am_mem 585 (by decide +kernel) (by decide +kernel), am_mem 586 (by decide +kernel) (by decide +kernel)⟩
theorem mx_J0_coder_7d493 : am_mxx mJ0_coder_7d493 := ⟨rfl, am_mem 589 (by decide +kernel) (by decide +kernel), am_mem 590 (by decide +kernel) (by decide +kernel)⟩
theorem mk_max_J1_92 : Cond.methodLink RJ1 92 Lib.Math.max.name ∈ lw_g := am_mem 598 (by decide +kernel) (by decide +kernel)
theorem mk_min_J1_38 : Cond.methodLink RJ1 38 Lib.Math.min.name ∈ lw_g := am_mem 601 (by decide +kernel) (by decide +kernel)
set_option maxRecDepth 20000 in
set_option maxHeartbeats 2000000 in
theorem sJ0_indexOf_0f7a4_0 {d : Nat} {h : am_H} {Z : Int32 → am_H → Prop} {x1 : Int32} (w : am_cl mJ0_indexOf_7cf53 d [.retAddr 1, .int x1, .int 0] h (fun r1 h2 => Z r1 h2)) : Ru mJ0_indexOf_0f7a4 none d 0 [.retAddr 1, .int x1] [] h Z := by
  refine st_aload1_n dJ0_indexOf_0f7a4_0 rfl ?_
  refine st_iload_n dJ0_indexOf_0f7a4_1 rfl ?_
  refine st_iconst (v := 0) dJ0_indexOf_0f7a4_2 (by decide) ?_
  refine st_callX (M' := mJ0_indexOf_7cf53) [.int x1, .int 0] [] dJ0_indexOf_0f7a4_3 ml_J0_633 mf_J0_indexOf_7cf53 mx_J0_indexOf_7cf53 rfl rfl rfl w (fun r1 h2 w => ?_)
  show Ru mJ0_indexOf_0f7a4 none d 6 [.retAddr 1, .int x1] [.int r1] h2 Z
  exact st_ireturn rfl rfl dJ0_indexOf_0f7a4_6 w
set_option maxRecDepth 20000 in
set_option maxHeartbeats 2000000 in
theorem sJ0_indexOf_7cf53_0 {d : Nat} {h : am_H} {Z : Int32 → am_H → Prop} {x1 : Int32} {x2 : Int32} (w : am_cl mJ0_isLatin1_aae02 d [.retAddr 1] h (fun r1 h2 => (r1 = 0 → am_cl mJ0_length_8abf5 d [.retAddr 1] h2 (fun r3 h4 => am_cl mJ2_indexOf_4cfef d [.retAddr 2, .int x1, .int x2, .int r3] h4 (fun r5 h6 => Z r5 h6))) ∧ (¬ (r1 = 0) → am_cl mJ0_length_8abf5 d [.retAddr 1] h2 (fun r7 h8 => am_cl mJ1_indexOf_4cfef d [.retAddr 2, .int x1, .int x2, .int r7] h8 (fun r9 h10 => Z r9 h10))))) : Ru mJ0_indexOf_7cf53 none d 0 [.retAddr 1, .int x1, .int x2] [] h Z := by
  refine st_aload1_n dJ0_indexOf_7cf53_0 rfl ?_
  refine st_callX (M' := mJ0_isLatin1_aae02) [] [] dJ0_indexOf_7cf53_1 ml_J0_492 mf_J0_isLatin1_aae02 mx_J0_isLatin1_aae02 rfl rfl rfl w (fun r1 h2 w => ?_)
  show Ru mJ0_indexOf_7cf53 none d 4 [.retAddr 1, .int x1, .int x2] [.int r1] h2 Z
  refine st_if_eq (tgt := 23) dJ0_indexOf_7cf53_4 (by decide) (fun c => ?_) (fun c => ?_)
  · replace w := w.1 c
    refine st_aload1_n dJ0_indexOf_7cf53_23 rfl ?_
    refine st_getV rfl dJ0_indexOf_7cf53_24 ?_
    refine st_iload_n dJ0_indexOf_7cf53_27 rfl ?_
    refine st_iload_n dJ0_indexOf_7cf53_28 rfl ?_
    refine st_aload1_n dJ0_indexOf_7cf53_29 rfl ?_
    refine st_callX (M' := mJ0_length_8abf5) [] [.int x2, .int x1, .retAddr 2] dJ0_indexOf_7cf53_30 ml_J0_505 mf_J0_length_8abf5 mx_J0_length_8abf5 rfl rfl rfl w (fun r3 h4 w => ?_)
    show Ru mJ0_indexOf_7cf53 none d 33 [.retAddr 1, .int x1, .int x2] [.int r3, .int x2, .int x1, .retAddr 2] h4 Z
    refine st_callS (M' := mJ2_indexOf_4cfef) [.retAddr 2, .int x1, .int x2, .int r3] [] dJ0_indexOf_7cf53_33 ml_J0_640 mf_J2_indexOf_4cfef ms_J2_indexOf_4cfef rfl rfl rfl w (fun r5 h6 w => ?_)
    show Ru mJ0_indexOf_7cf53 none d 36 [.retAddr 1, .int x1, .int x2] [.int r5] h6 Z
    exact st_ireturn rfl rfl dJ0_indexOf_7cf53_36 w
  · replace w := w.2 c
    refine st_aload1_n dJ0_indexOf_7cf53_7 rfl ?_
    refine st_getV rfl dJ0_indexOf_7cf53_8 ?_
    refine st_iload_n dJ0_indexOf_7cf53_11 rfl ?_
    refine st_iload_n dJ0_indexOf_7cf53_12 rfl ?_
    refine st_aload1_n dJ0_indexOf_7cf53_13 rfl ?_
    refine st_callX (M' := mJ0_length_8abf5) [] [.int x2, .int x1, .retAddr 2] dJ0_indexOf_7cf53_14 ml_J0_505 mf_J0_length_8abf5 mx_J0_length_8abf5 rfl rfl rfl w (fun r7 h8 w => ?_)
    show Ru mJ0_indexOf_7cf53 none d 17 [.retAddr 1, .int x1, .int x2] [.int r7, .int x2, .int x1, .retAddr 2] h8 Z
    refine st_callS (M' := mJ1_indexOf_4cfef) [.retAddr 2, .int x1, .int x2, .int r7] [] dJ0_indexOf_7cf53_17 ml_J0_637 mf_J1_indexOf_4cfef ms_J1_indexOf_4cfef rfl rfl rfl w (fun r9 h10 w => ?_)
    show Ru mJ0_indexOf_7cf53 none d 20 [.retAddr 1, .int x1, .int x2] [.int r9] h10 Z
    refine st_goto (tgt := 36) dJ0_indexOf_7cf53_20 (by decide) ?_
    exact st_ireturn rfl rfl dJ0_indexOf_7cf53_36 w
set_option maxRecDepth 20000 in
set_option maxHeartbeats 2000000 in
theorem sJ0_isLatin1_aae02_0 {d : Nat} {h : am_H} {Z : Int32 → am_H → Prop}  (w : ((1 : Int32) = 0 → Z 0 h) ∧ (¬ ((1 : Int32) = 0) → (¬ (0 : Int32) = 0 → Z 0 h) ∧ ((0 : Int32) = 0 → Z 1 h))) : Ru mJ0_isLatin1_aae02 none d 0 [.retAddr 1] [] h Z := by
  refine st_cmp rfl dJ0_isLatin1_aae02_0 ?_
  refine st_if_eq (tgt := 17) dJ0_isLatin1_aae02_3 (by decide) (fun c => ?_) (fun c => ?_)
  · replace w := w.1 c
    refine st_iconst (v := 0) dJ0_isLatin1_aae02_17 (by decide) ?_
    exact st_ireturn rfl rfl dJ0_isLatin1_aae02_18 w
  · replace w := w.2 c
    refine st_aload1_n dJ0_isLatin1_aae02_6 rfl ?_
    refine st_getC rfl dJ0_isLatin1_aae02_7 ?_
    refine st_if_ne (tgt := 17) dJ0_isLatin1_aae02_10 (by decide) (fun c => ?_) (fun c => ?_)
    · replace w := w.1 c
      refine st_iconst (v := 0) dJ0_isLatin1_aae02_17 (by decide) ?_
      exact st_ireturn rfl rfl dJ0_isLatin1_aae02_18 w
    · replace w := w.2 c
      refine st_iconst (v := 1) dJ0_isLatin1_aae02_13 (by decide) ?_
      refine st_goto (tgt := 18) dJ0_isLatin1_aae02_14 (by decide) ?_
      exact st_ireturn rfl rfl dJ0_isLatin1_aae02_18 w
set_option maxRecDepth 20000 in
set_option maxHeartbeats 2000000 in
theorem sJ0_length_8abf5_0 {d : Nat} {h : am_H} {Z : Int32 → am_H → Prop}  (w : am_cl mJ0_coder_7d493 d [.retAddr 1] h (fun r1 h2 => Z (10 >>> (r1 &&& 31)) h2)) : Ru mJ0_length_8abf5 none d 0 [.retAddr 1] [] h Z := by
  refine st_aload1_n dJ0_length_8abf5_0 rfl ?_
  refine st_getV rfl dJ0_length_8abf5_1 ?_
  refine st_txl dJ0_length_8abf5_4 ?_
  refine st_aload1_n dJ0_length_8abf5_5 rfl ?_
  refine st_callX (M' := mJ0_coder_7d493) [] [.int 10] dJ0_length_8abf5_6 ml_J0_335 mf_J0_coder_7d493 mx_J0_coder_7d493 rfl rfl rfl w (fun r1 h2 w => ?_)
  show Ru mJ0_length_8abf5 none d 9 [.retAddr 1] [.int r1, .int 10] h2 Z
  refine st_ishr dJ0_length_8abf5_9 ?_
  exact st_ireturn rfl rfl dJ0_length_8abf5_10 w
set_option maxRecDepth 20000 in
set_option maxHeartbeats 2000000 in
theorem sJ0_coder_7d493_0 {d : Nat} {h : am_H} {Z : Int32 → am_H → Prop}  (w : ((1 : Int32) = 0 → Z 1 h) ∧ (¬ ((1 : Int32) = 0) → Z 0 h)) : Ru mJ0_coder_7d493 none d 0 [.retAddr 1] [] h Z := by
  refine st_cmp rfl dJ0_coder_7d493_0 ?_
  refine st_if_eq (tgt := 13) dJ0_coder_7d493_3 (by decide) (fun c => ?_) (fun c => ?_)
  · replace w := w.1 c
    refine st_iconst (v := 1) dJ0_coder_7d493_13 (by decide) ?_
    exact st_ireturn rfl rfl dJ0_coder_7d493_14 w
  · replace w := w.2 c
    refine st_aload1_n dJ0_coder_7d493_6 rfl ?_
    refine st_getC rfl dJ0_coder_7d493_7 ?_
    refine st_goto (tgt := 14) dJ0_coder_7d493_10 (by decide) ?_
    exact st_ireturn rfl rfl dJ0_coder_7d493_14 w
set_option maxRecDepth 20000 in
set_option maxHeartbeats 2000000 in
theorem sJ1_canEncode_9a6ad_0 {d : Nat} {h : am_H} {Z : Int32 → am_H → Prop} {x0 : Int32} (w : (x0 < 0 → Z 0 h) ∧ (¬ (x0 < 0) → (255 < x0 → Z 0 h) ∧ (¬ (255 < x0) → Z 1 h))) : Ru mJ1_canEncode_9a6ad none d 0 [.int x0] [] h Z := by
  refine st_iload_n dJ1_canEncode_9a6ad_0 rfl ?_
  refine st_if_lt (tgt := 15) dJ1_canEncode_9a6ad_1 (by decide) (fun c => ?_) (fun c => ?_)
  · replace w := w.1 c
    refine st_iconst (v := 0) dJ1_canEncode_9a6ad_15 (by decide) ?_
    exact st_ireturn rfl rfl dJ1_canEncode_9a6ad_16 w
  · replace w := w.2 c
    refine st_iload_n dJ1_canEncode_9a6ad_4 rfl ?_
    refine st_sipush (v := 255) dJ1_canEncode_9a6ad_5 (by decide) ?_
    refine st_icmp_gt (tgt := 15) dJ1_canEncode_9a6ad_8 (by decide) (fun c => ?_) (fun c => ?_)
    · replace w := w.1 c
      refine st_iconst (v := 0) dJ1_canEncode_9a6ad_15 (by decide) ?_
      exact st_ireturn rfl rfl dJ1_canEncode_9a6ad_16 w
    · replace w := w.2 c
      refine st_iconst (v := 1) dJ1_canEncode_9a6ad_11 (by decide) ?_
      refine st_goto (tgt := 16) dJ1_canEncode_9a6ad_12 (by decide) ?_
      exact st_ireturn rfl rfl dJ1_canEncode_9a6ad_16 w
set_option maxRecDepth 20000 in
set_option maxHeartbeats 2000000 in
theorem sJ1_indexOf_4cfef_0 {d : Nat} {h : am_H} {Z : Int32 → am_H → Prop} {x1 : Int32} {x2 : Int32} {x3 : Int32} (hd : 1 ≤ d) (w : am_cl mJ1_canEncode_9a6ad d [.int x1] h (fun r1 h2 => (¬ r1 = 0 → ((am_max x2 0) < (am_min x3 10) → am_cl mJ1_indexOfChar_4cfef d [.retAddr 2, .int x1, .int (am_max x2 0), .int (am_min x3 10)] h2 (fun r3 h4 => Z r3 h4)) ∧ (¬ ((am_max x2 0) < (am_min x3 10)) → Z (-1) h2)) ∧ (r1 = 0 → Z (-1) h2))) : Ru mJ1_indexOf_4cfef none d 0 [.retAddr 2, .int x1, .int x2, .int x3] [] h Z := by
  refine st_iload_n dJ1_indexOf_4cfef_0 rfl ?_
  refine st_callS (M' := mJ1_canEncode_9a6ad) [.int x1] [] dJ1_indexOf_4cfef_1 ml_J1_88 mf_J1_canEncode_9a6ad ms_J1_canEncode_9a6ad rfl rfl rfl w (fun r1 h2 w => ?_)
  show Ru mJ1_indexOf_4cfef none d 4 [.retAddr 2, .int x1, .int x2, .int x3] [.int r1] h2 Z
  refine st_if_ne (tgt := 9) dJ1_indexOf_4cfef_4 (by decide) (fun c => ?_) (fun c => ?_)
  · replace w := w.1 c
    refine st_iload_n dJ1_indexOf_4cfef_9 rfl ?_
    refine st_iconst (v := 0) dJ1_indexOf_4cfef_10 (by decide) ?_
    refine st_mmax dJ1_indexOf_4cfef_11 mk_max_J1_92 (by omega) rfl ?_
    refine st_istore_n (L' := [.retAddr 2, .int x1, .int (am_max x2 0), .int x3]) dJ1_indexOf_4cfef_14 (by decide) rfl ?_
    refine st_iload_n dJ1_indexOf_4cfef_15 rfl ?_
    refine st_aload2_n dJ1_indexOf_4cfef_16 rfl ?_
    refine st_txl dJ1_indexOf_4cfef_17 ?_
    refine st_mmin dJ1_indexOf_4cfef_18 mk_min_J1_38 (by omega) rfl ?_
    refine st_istore_n (L' := [.retAddr 2, .int x1, .int (am_max x2 0), .int (am_min x3 10)]) dJ1_indexOf_4cfef_21 (by decide) rfl ?_
    refine st_iload_n dJ1_indexOf_4cfef_22 rfl ?_
    refine st_iload_n dJ1_indexOf_4cfef_23 rfl ?_
    refine st_icmp_lt (tgt := 29) dJ1_indexOf_4cfef_24 (by decide) (fun c => ?_) (fun c => ?_)
    · replace w := w.1 c
      refine st_aload2_n dJ1_indexOf_4cfef_29 rfl ?_
      refine st_iload_n dJ1_indexOf_4cfef_30 rfl ?_
      refine st_iload_n dJ1_indexOf_4cfef_31 rfl ?_
      refine st_iload_n dJ1_indexOf_4cfef_32 rfl ?_
      refine st_callS (M' := mJ1_indexOfChar_4cfef) [.retAddr 2, .int x1, .int (am_max x2 0), .int (am_min x3 10)] [] dJ1_indexOf_4cfef_33 ml_J1_95 mf_J1_indexOfChar_4cfef ms_J1_indexOfChar_4cfef rfl rfl rfl w (fun r3 h4 w => ?_)
      show Ru mJ1_indexOf_4cfef none d 36 [.retAddr 2, .int x1, .int (am_max x2 0), .int (am_min x3 10)] [.int r3] h4 Z
      exact st_ireturn rfl rfl dJ1_indexOf_4cfef_36 w
    · replace w := w.2 c
      refine st_iconst (v := (-1)) dJ1_indexOf_4cfef_27 (by decide) ?_
      exact st_ireturn rfl rfl dJ1_indexOf_4cfef_28 w
  · replace w := w.2 c
    refine st_iconst (v := (-1)) dJ1_indexOf_4cfef_7 (by decide) ?_
    exact st_ireturn rfl rfl dJ1_indexOf_4cfef_8 w
set_option maxRecDepth 20000 in
set_option maxHeartbeats 2000000 in
theorem sJ1_indexOfChar_4cfef_0 {d : Nat} {h : am_H} {Z : Int32 → am_H → Prop} {x1 : Int32} {x2 : Int32} {x3 : Int32} (w : Ru mJ1_indexOfChar_4cfef none d 7 [.retAddr 2, .int x1, .int x2, .int x3, .int x1.toInt8.toInt32, .int x2] [] h Z) : Ru mJ1_indexOfChar_4cfef none d 0 [.retAddr 2, .int x1, .int x2, .int x3, .null, .null] [] h Z := by
  refine st_iload_n dJ1_indexOfChar_4cfef_0 rfl ?_
  refine st_i2b dJ1_indexOfChar_4cfef_1 ?_
  refine st_istore (L' := [.retAddr 2, .int x1, .int x2, .int x3, .int x1.toInt8.toInt32, .null]) dJ1_indexOfChar_4cfef_2 (by decide) rfl ?_
  refine st_iload_n dJ1_indexOfChar_4cfef_4 rfl ?_
  refine st_istore (L' := [.retAddr 2, .int x1, .int x2, .int x3, .int x1.toInt8.toInt32, .int x2]) dJ1_indexOfChar_4cfef_5 (by decide) rfl ?_
  exact w
set_option maxRecDepth 20000 in
set_option maxHeartbeats 2000000 in
theorem sJ1_indexOfChar_4cfef_7 {d : Nat} {h : am_H} {Z : Int32 → am_H → Prop} {u1 : Value} {u2 : Value} {x3 : Int32} {x4 : Int32} {x5 : Int32} (w : (x3 ≤ x5 → Z (-1) h) ∧ (¬ (x3 ≤ x5) → (vp_in x5 10 ∧ ((¬ (am_tx x5.toNatClampNeg) = x4 → Ru mJ1_indexOfChar_4cfef none d 7 [.retAddr 2, u1, u2, .int x3, .int x4, .int (x5 + 1)] [] h Z) ∧ ((am_tx x5.toNatClampNeg) = x4 → Z x5 h))))) : Ru mJ1_indexOfChar_4cfef none d 7 [.retAddr 2, u1, u2, .int x3, .int x4, .int x5] [] h Z := by
  refine st_iload dJ1_indexOfChar_4cfef_7 rfl ?_
  refine st_iload_n dJ1_indexOfChar_4cfef_9 rfl ?_
  refine st_icmp_ge (tgt := 31) dJ1_indexOfChar_4cfef_10 (by decide) (fun c => ?_) (fun c => ?_)
  · replace w := w.1 c
    refine st_iconst (v := (-1)) dJ1_indexOfChar_4cfef_31 (by decide) ?_
    exact st_ireturn rfl rfl dJ1_indexOfChar_4cfef_32 w
  · replace w := w.2 c
    refine st_aload2_n dJ1_indexOfChar_4cfef_13 rfl ?_
    refine st_iload dJ1_indexOfChar_4cfef_14 rfl ?_
    have hc1 := w.1
    replace w := w.2
    refine st_txb dJ1_indexOfChar_4cfef_16 hc1 ?_
    refine st_iload dJ1_indexOfChar_4cfef_17 rfl ?_
    refine st_icmp_ne (tgt := 25) dJ1_indexOfChar_4cfef_19 (by decide) (fun c => ?_) (fun c => ?_)
    · replace w := w.1 c
      refine st_iinc (L' := [.retAddr 2, u1, u2, .int x3, .int x4, .int (x5 + 1)]) dJ1_indexOfChar_4cfef_25 rfl rfl (by decide) rfl ?_
      refine st_goto (tgt := 7) dJ1_indexOfChar_4cfef_28 (by decide) ?_
      exact w
    · replace w := w.2 c
      refine st_iload dJ1_indexOfChar_4cfef_22 rfl ?_
      exact st_ireturn rfl rfl dJ1_indexOfChar_4cfef_24 w
section
variable {d c : Nat} {h : am_H} {Z : Int32 → am_H → Prop}
def lp_tc (k : Nat) : Nat := [112, 115, 122, 100, 102, 110, 97, 105, 116, 119].getD k 0
theorem lp_tc_1 : ∀ c, c < 256 → ∀ k, k < 10 → ((am_tx k = (nI c).toInt8.toInt32) ↔ c = lp_tc k) := by decide +kernel
theorem lp_tc_2 : ∀ c, c < 256 → ∀ k, k < 10 → c = lp_tc k → lp_fi c = k := by decide +kernel
theorem lp_tc_3 : ∀ c, c < 256 → (∀ k, k < 10 → ¬ c = lp_tc k) → ¬ lp_fi c < 10 := by decide +kernel
def lp_ix (c : Nat) : Int32 := if lp_fi c < 10 then nI (lp_fi c) else -1
theorem x_ixc (hc : c < 256) (z : Z (lp_ix c) h) : ∀ (r k : Nat) (u1 u2 : Value), k + r = 10 → (∀ j, j < k → ¬ c = lp_tc j) → Ru mJ1_indexOfChar_4cfef none d 7 [.retAddr 2, u1, u2, .int 10, .int (nI c).toInt8.toInt32, .int (nI k)] [] h Z
  | 0, k, u1, u2, hk, hj => by
    have e : k = 10 := by omega
    subst e
    have : lp_ix c = -1 := if_neg (lp_tc_3 c hc hj)
    rw [this] at z
    exact sJ1_indexOfChar_4cfef_7 ⟨fun _ => z, fun q => absurd (Int32.le_refl _) q⟩
  | r + 1, k, u1, u2, hk, hj => by
    have t1 := lp_tc_1 c hc k (by omega)
    refine sJ1_indexOfChar_4cfef_7 ⟨fun q => absurd q (nI_ge (b := 10) (by omega) (by omega)), fun _ => ⟨vp_in_nI (by omega) (by omega), ?_⟩⟩
    rw [nI_clamp (by omega), nI_1]
    refine ⟨fun q => x_ixc hc z r (k + 1) u1 u2 (by omega) (fun j hj2 => ?_), fun q => ?_⟩
    · rcases Nat.lt_or_ge j k with w | w
      · exact hj j w
      · rw [show j = k by omega]; exact fun e => q (t1.mpr e)
    · have e := lp_tc_2 c hc k (by omega) (t1.mp q)
      have : lp_ix c = nI k := by unfold lp_ix; rw [e, if_pos (by omega)]
      rw [this] at z; exact z
theorem iJ0_indexOf (hd : 5 ≤ d) (hc : c < 256) (z : Z (lp_ix c) h) : Sp mJ0_indexOf_0f7a4 d [.retAddr 1, .int (nI c)] h Z := by
  refine Sp_of mf_J0_indexOf_0f7a4 rfl (Nat.le_of_ble_eq_true rfl) rfl (sJ0_indexOf_0f7a4_0 ⟨4, by omega, Sp_of mf_J0_indexOf_7cf53 rfl (Nat.le_of_ble_eq_true rfl) rfl (sJ0_indexOf_7cf53_0 ⟨1, by omega, Sp_of mf_J0_isLatin1_aae02 rfl (Nat.le_of_ble_eq_true rfl) rfl (sJ0_isLatin1_aae02_0 ⟨fun q => absurd q (by decide), fun _ => ⟨fun q => absurd rfl q, fun _ => ⟨fun q => absurd q (by decide), fun _ => ?_⟩⟩⟩)⟩)⟩)
  refine ⟨2, by omega, Sp_of mf_J0_length_8abf5 rfl (Nat.le_of_ble_eq_true rfl) rfl (sJ0_length_8abf5_0 ⟨1, by omega, Sp_of mf_J0_coder_7d493 rfl (Nat.le_of_ble_eq_true rfl) rfl (sJ0_coder_7d493_0 ⟨fun q => absurd q (by decide), fun _ => ?_⟩)⟩)⟩
  rw [show (10 : Int32) >>> ((0 : Int32) &&& 31) = 10 by decide]
  refine ⟨3, by omega, Sp_of mf_J1_indexOf_4cfef rfl (Nat.le_of_ble_eq_true rfl) rfl (sJ1_indexOf_4cfef_0 (by omega) ⟨1, by omega, Sp_of mf_J1_canEncode_9a6ad rfl (Nat.le_of_ble_eq_true rfl) rfl (sJ1_canEncode_9a6ad_0 ⟨fun q => absurd q (nI_pos (by omega)), fun _ => ⟨fun q => absurd q (Int32.not_lt.mpr (nI_le (b := 255) (by omega) (by omega))), fun _ => ⟨fun _ => ?_, fun q => absurd q (by decide)⟩⟩⟩)⟩)⟩
  rw [show am_max 0 0 = 0 by decide, show am_min 10 10 = 10 by decide]
  exact ⟨fun _ => ⟨1, by omega, Sp_of mf_J1_indexOfChar_4cfef rfl (Nat.le_of_ble_eq_true rfl) rfl (sJ1_indexOfChar_4cfef_0 (x_ixc hc z 10 0 _ _ (by omega) (fun j hj => by omega)))⟩, fun q => absurd (by decide) q⟩
theorem lp_i2c : ∀ c, c < 256 → ((nI c).toUInt32 % 65536).toInt32 = nI c := by decide +kernel
end
