-- the constructor of the class (by gen/ctor.py)
theorem ol_X10 : Cond.methodLink RX10 1 Lib.objectInit ∈ lw_g := am_mem 134 (by decide +kernel) (by decide +kernel)
theorem ck_X10_7 : Cond.classLink RX10 7 RX9 ∈ lw_g := am_mem 137 (by decide +kernel) (by decide +kernel)
theorem in_9 : Cond.instantiable RX9 2 ∈ lw_g := am_mem 138 (by decide +kernel) (by decide +kernel)
theorem iz_9 : Cond.initialized RX9 ∈ lw_g := am_mem 110 (by decide +kernel) (by decide +kernel)
theorem fi_X10_10 : Cond.fieldLink RX10 10 (TX10 0).1 (TX10 0).2.1 (TX10 0).2.2.1 ∈ lw_g := am_mem 387 (by decide +kernel) (by decide +kernel)
theorem ck_X10_16 : Cond.classLink RX10 16 RX7 ∈ lw_g := am_mem 152 (by decide +kernel) (by decide +kernel)
theorem in_7 : Cond.instantiable RX7 4 ∈ lw_g := am_mem 153 (by decide +kernel) (by decide +kernel)
theorem iz_7 : Cond.initialized RX7 ∈ lw_g := am_mem 111 (by decide +kernel) (by decide +kernel)
theorem mi_X10_18 : Cond.methodLink RX10 18 yX7_init ∈ lw_g := am_mem 154 (by decide +kernel) (by decide +kernel)
theorem fi_X10_21 : Cond.fieldLink RX10 21 (TX10 1).1 (TX10 1).2.1 (TX10 1).2.2.1 ∈ lw_g := am_mem 388 (by decide +kernel) (by decide +kernel)
theorem ck_X10_25 : Cond.classLink RX10 25 RX1 ∈ lw_g := am_mem 176 (by decide +kernel) (by decide +kernel)
theorem in_1 : Cond.instantiable RX1 1 ∈ lw_g := am_mem 177 (by decide +kernel) (by decide +kernel)
theorem iz_1 : Cond.initialized RX1 ∈ lw_g := am_mem 112 (by decide +kernel) (by decide +kernel)
theorem mi_X10_27 : Cond.methodLink RX10 27 yX1_init ∈ lw_g := am_mem 178 (by decide +kernel) (by decide +kernel)
theorem fi_X10_30 : Cond.fieldLink RX10 30 (TX10 2).1 (TX10 2).2.1 (TX10 2).2.2.1 ∈ lw_g := am_mem 389 (by decide +kernel) (by decide +kernel)
theorem ck_X10_34 : Cond.classLink RX10 34 RX8 ∈ lw_g := am_mem 186 (by decide +kernel) (by decide +kernel)
theorem in_8 : Cond.instantiable RX8 4 ∈ lw_g := am_mem 187 (by decide +kernel) (by decide +kernel)
theorem iz_8 : Cond.initialized RX8 ∈ lw_g := am_mem 113 (by decide +kernel) (by decide +kernel)
theorem mi_X10_36 : Cond.methodLink RX10 36 yX8_init ∈ lw_g := am_mem 188 (by decide +kernel) (by decide +kernel)
theorem fi_X10_37 : Cond.fieldLink RX10 37 (TX10 4).1 (TX10 4).2.1 (TX10 4).2.2.1 ∈ lw_g := am_mem 391 (by decide +kernel) (by decide +kernel)
theorem ck_X10_41 : Cond.classLink RX10 41 RX2 ∈ lw_g := am_mem 205 (by decide +kernel) (by decide +kernel)
theorem in_2 : Cond.instantiable RX2 3 ∈ lw_g := am_mem 206 (by decide +kernel) (by decide +kernel)
theorem iz_2 : Cond.initialized RX2 ∈ lw_g := am_mem 114 (by decide +kernel) (by decide +kernel)
theorem fi_X10_44 : Cond.fieldLink RX10 44 (TX10 5).1 (TX10 5).2.1 (TX10 5).2.2.1 ∈ lw_g := am_mem 392 (by decide +kernel) (by decide +kernel)
theorem ck_X10_48 : Cond.classLink RX10 48 RX6 ∈ lw_g := am_mem 224 (by decide +kernel) (by decide +kernel)
theorem in_6 : Cond.instantiable RX6 6 ∈ lw_g := am_mem 225 (by decide +kernel) (by decide +kernel)
theorem iz_6 : Cond.initialized RX6 ∈ lw_g := am_mem 115 (by decide +kernel) (by decide +kernel)
theorem mi_X10_50 : Cond.methodLink RX10 50 yX6_init ∈ lw_g := am_mem 226 (by decide +kernel) (by decide +kernel)
theorem fi_X10_51 : Cond.fieldLink RX10 51 (TX10 6).1 (TX10 6).2.1 (TX10 6).2.2.1 ∈ lw_g := am_mem 393 (by decide +kernel) (by decide +kernel)
theorem ck_X10_55 : Cond.classLink RX10 55 RX5 ∈ lw_g := am_mem 249 (by decide +kernel) (by decide +kernel)
theorem in_5 : Cond.instantiable RX5 5 ∈ lw_g := am_mem 250 (by decide +kernel) (by decide +kernel)
theorem iz_5 : Cond.initialized RX5 ∈ lw_g := am_mem 116 (by decide +kernel) (by decide +kernel)
theorem mi_X10_57 : Cond.methodLink RX10 57 yX5_init ∈ lw_g := am_mem 251 (by decide +kernel) (by decide +kernel)
theorem fi_X10_58 : Cond.fieldLink RX10 58 (TX10 7).1 (TX10 7).2.1 (TX10 7).2.2.1 ∈ lw_g := am_mem 394 (by decide +kernel) (by decide +kernel)
theorem ck_X10_62 : Cond.classLink RX10 62 RX0 ∈ lw_g := am_mem 271 (by decide +kernel) (by decide +kernel)
theorem in_0 : Cond.instantiable RX0 11 ∈ lw_g := am_mem 272 (by decide +kernel) (by decide +kernel)
theorem iz_0 : Cond.initialized RX0 ∈ lw_g := am_mem 117 (by decide +kernel) (by decide +kernel)
theorem fi_X10_65 : Cond.fieldLink RX10 65 (TX10 8).1 (TX10 8).2.1 (TX10 8).2.2.1 ∈ lw_g := am_mem 395 (by decide +kernel) (by decide +kernel)
theorem fi_X10_69 : Cond.fieldLink RX10 69 (TX10 9).1 (TX10 9).2.1 (TX10 9).2.2.1 ∈ lw_g := am_mem 396 (by decide +kernel) (by decide +kernel)
theorem fi_X10_72 : Cond.fieldLink RX10 72 (TX10 10).1 (TX10 10).2.1 (TX10 10).2.2.1 ∈ lw_g := am_mem 397 (by decide +kernel) (by decide +kernel)
theorem fi_X10_75 : Cond.fieldLink RX10 75 (TX10 11).1 (TX10 11).2.1 (TX10 11).2.2.1 ∈ lw_g := am_mem 398 (by decide +kernel) (by decide +kernel)
theorem ck_X10_78 : Cond.classLink RX10 78 RX3 ∈ lw_g := am_mem 338 (by decide +kernel) (by decide +kernel)
theorem in_3 : Cond.instantiable RX3 9 ∈ lw_g := am_mem 339 (by decide +kernel) (by decide +kernel)
theorem iz_3 : Cond.initialized RX3 ∈ lw_g := am_mem 118 (by decide +kernel) (by decide +kernel)
theorem fi_X10_81 : Cond.fieldLink RX10 81 (TX10 12).1 (TX10 12).2.1 (TX10 12).2.2.1 ∈ lw_g := am_mem 399 (by decide +kernel) (by decide +kernel)
theorem fi_X10_85 : Cond.fieldLink RX10 85 (TX10 13).1 (TX10 13).2.1 (TX10 13).2.2.1 ∈ lw_g := am_mem 400 (by decide +kernel) (by decide +kernel)
theorem ck_X10_88 : Cond.classLink RX10 88 RX4 ∈ lw_g := am_mem 374 (by decide +kernel) (by decide +kernel)
theorem in_4 : Cond.instantiable RX4 2 ∈ lw_g := am_mem 375 (by decide +kernel) (by decide +kernel)
theorem iz_4 : Cond.initialized RX4 ∈ lw_g := am_mem 119 (by decide +kernel) (by decide +kernel)
theorem mi_X10_90 : Cond.methodLink RX10 90 yX4_init ∈ lw_g := am_mem 376 (by decide +kernel) (by decide +kernel)
theorem fi_X10_93 : Cond.fieldLink RX10 93 (TX10 3).1 (TX10 3).2.1 (TX10 3).2.2.1 ∈ lw_g := am_mem 390 (by decide +kernel) (by decide +kernel)
theorem fi_X10_97 : Cond.fieldLink RX10 97 (TX10 14).1 (TX10 14).2.1 (TX10 14).2.2.1 ∈ lw_g := am_mem 401 (by decide +kernel) (by decide +kernel)
theorem mii_X10 : Cond.instanceMethod yX10_init ∈ lw_g := am_mem 132 (by decide +kernel) (by decide +kernel)
set_option maxRecDepth 100000 in
theorem mfi_X10 : am_mf mX10_init 0 := ⟨am_mem 133 rfl (by decide +kernel), am_mem 109 (by decide +kernel) (by decide +kernel), (by decide +kernel), by decide, (by decide +kernel)⟩
def uX10_1 : List am_E := [] ++ zX9 1
def uX10_2 : List am_E := uX10_1 ++ zX7 3 1
def uX10_3 : List am_E := uX10_2 ++ zX1 4 3
def uX10_4 : List am_E := uX10_3 ++ zX8 5 3
def uX10_5 : List am_E := uX10_4 ++ zX2 8
def uX10_6 : List am_E := uX10_5 ++ zX6 10 1
def uX10_7 : List am_E := uX10_6 ++ zX5 16 1
def uX10_8 : List am_E := uX10_7 ++ zX0 20
def uX10_9 : List am_E := uX10_8 ++ zX0 29
def uX10_10 : List am_E := uX10_9 ++ zX0 38
def uX10_11 : List am_E := uX10_10 ++ zX0 47
def uX10_12 : List am_E := uX10_11 ++ zX3 56
def uX10_13 : List am_E := uX10_12 ++ zX3 64
def uX10_14 : List am_E := uX10_13 ++ zX4 72 3 64
def zX10 : List am_E := .inr (10, [.ref 1, .ref 3, .ref 4, .ref 72, .ref 5, .ref 8, .ref 10, .ref 16, .ref 20, .ref 29, .ref 38, .ref 47, .ref 56, .ref 64, .int 0]) :: uX10_14
set_option maxRecDepth 100000 in
set_option maxHeartbeats 4000000 in
theorem c_X10  : Sc mX10_init 2 [.ref 0] [.inr (10, [.null, .null, .null, .null, .null, .null, .null, .null, .null, .null, .null, .null, .null, .null, .int 0])] zX10 72 4727 := by
  have hk : ([] : List am_E).length = 0 := rfl
  refine Sc_of mfi_X10 rfl rfl (Nat.le_of_ble_eq_true rfl) (L := [.ref 0]) rfl ?_
  show Cu mX10_init 2 0 [.ref 0] [] ([] ++ .inr (10, [.null, .null, .null, .null, .null, .null, .null, .null, .null, .null, .null, .null, .null, .null, .int 0]) :: []) 72 4727 _
  refine cu_aload dX10_init_0 rfl ?_
  refine cu_obj (by omega) ol_X10 ob_in ob_co dX10_init_1 ?_
  refine cu_aload dX10_init_4 rfl ?_
  refine cp_new (a := 1) (fs := [.null, .int 0]) (nc := 71) (ns := 4725) hk cl_9 ck_X10_7 in_9 iz_9 (fun _ => rfl) (by decide +kernel) rfl dX10_init_5 ?_
  refine cu_dup dX10_init_8 rfl ?_
  refine cp_init (M' := mX9_init) (zC := zX9 1) (app2 := uX10_1) (mc := 1) (ms := 260) (nc := 70) (ns := 4465) [] [.ref 1, .ref 0] dX10_init_9 (Or.inr ⟨RX10, fun _ w => w.1⟩) mfi_X9 mii_X9 rfl rfl (d' := 1) (by omega) rfl rfl rfl (c_X9 (pre := _) rfl) rfl rfl ?_
  refine cp_putF (fs2 := [.ref 1, .null, .null, .null, .null, .null, .null, .null, .null, .null, .null, .null, .null, .null, .int 0]) hk cl_10 (k := 0) (by decide) fi_X10_10 rfl rfl rfl (fun _ => rfl) (fun _ => rfl) (Nat.le_of_ble_eq_true rfl) rfl dX10_init_12 ?_
  refine cu_aload dX10_init_15 rfl ?_
  refine cp_new (a := 3) (fs := [.null, .int 0, .int 0, .int 0]) (nc := 69) (ns := 4461) hk cl_7 ck_X10_16 in_7 iz_7 (fun _ => rfl) (by decide +kernel) rfl dX10_init_16 ?_
  refine cu_dup dX10_init_19 rfl ?_
  refine cu_aload dX10_init_20 rfl ?_
  refine cp_get hk cl_10 (k := 0) (by decide) fi_X10_10 (v := .ref 1) rfl dX10_init_21 ?_
  refine cp_init (M' := mX7_init) (zC := zX7 3 1) (app2 := uX10_2) (mc := 0) (ms := 0) (nc := 69) (ns := 4461) [.ref 1] [.ref 3, .ref 0] dX10_init_24 (Or.inl mi_X10_18) mfi_X7 mii_X7 rfl rfl (d' := 1) (by omega) rfl rfl rfl (c_X7 (pre := _) rfl) rfl rfl ?_
  refine cp_putF (fs2 := [.ref 1, .ref 3, .null, .null, .null, .null, .null, .null, .null, .null, .null, .null, .null, .null, .int 0]) hk cl_10 (k := 1) (by decide) fi_X10_21 rfl rfl rfl (fun _ => rfl) (fun _ => rfl) (Nat.le_of_ble_eq_true rfl) rfl dX10_init_27 ?_
  refine cu_aload dX10_init_30 rfl ?_
  refine cp_new (a := 4) (fs := [.null]) (nc := 68) (ns := 4460) hk cl_1 ck_X10_25 in_1 iz_1 (fun _ => rfl) (by decide +kernel) rfl dX10_init_31 ?_
  refine cu_dup dX10_init_34 rfl ?_
  refine cu_aload dX10_init_35 rfl ?_
  refine cp_get hk cl_10 (k := 1) (by decide) fi_X10_21 (v := .ref 3) rfl dX10_init_36 ?_
  refine cp_init (M' := mX1_init) (zC := zX1 4 3) (app2 := uX10_3) (mc := 0) (ms := 0) (nc := 68) (ns := 4460) [.ref 3] [.ref 4, .ref 0] dX10_init_39 (Or.inl mi_X10_27) mfi_X1 mii_X1 rfl rfl (d' := 1) (by omega) rfl rfl rfl (c_X1 (pre := _) rfl) rfl rfl ?_
  refine cp_putF (fs2 := [.ref 1, .ref 3, .ref 4, .null, .null, .null, .null, .null, .null, .null, .null, .null, .null, .null, .int 0]) hk cl_10 (k := 2) (by decide) fi_X10_30 rfl rfl rfl (fun _ => rfl) (fun _ => rfl) (Nat.le_of_ble_eq_true rfl) rfl dX10_init_42 ?_
  refine cu_aload dX10_init_45 rfl ?_
  refine cp_new (a := 5) (fs := [.null, .null, .null, .int 0]) (nc := 67) (ns := 4456) hk cl_8 ck_X10_34 in_8 iz_8 (fun _ => rfl) (by decide +kernel) rfl dX10_init_46 ?_
  refine cu_dup dX10_init_49 rfl ?_
  refine cu_aload dX10_init_50 rfl ?_
  refine cp_get hk cl_10 (k := 1) (by decide) fi_X10_21 (v := .ref 3) rfl dX10_init_51 ?_
  refine cp_init (M' := mX8_init) (zC := zX8 5 3) (app2 := uX10_4) (mc := 2) (ms := 90) (nc := 65) (ns := 4366) [.ref 3] [.ref 5, .ref 0] dX10_init_54 (Or.inl mi_X10_36) mfi_X8 mii_X8 rfl rfl (d' := 1) (by omega) rfl rfl rfl (c_X8 (pre := _) rfl) rfl rfl ?_
  refine cp_putF (fs2 := [.ref 1, .ref 3, .ref 4, .null, .ref 5, .null, .null, .null, .null, .null, .null, .null, .null, .null, .int 0]) hk cl_10 (k := 4) (by decide) fi_X10_37 rfl rfl rfl (fun _ => rfl) (fun _ => rfl) (Nat.le_of_ble_eq_true rfl) rfl dX10_init_57 ?_
  refine cu_aload dX10_init_60 rfl ?_
  refine cp_new (a := 8) (fs := [.null, .int 0, .int 0]) (nc := 64) (ns := 4363) hk cl_2 ck_X10_41 in_2 iz_2 (fun _ => rfl) (by decide +kernel) rfl dX10_init_61 ?_
  refine cu_dup dX10_init_64 rfl ?_
  refine cp_init (M' := mX2_init) (zC := zX2 8) (app2 := uX10_5) (mc := 1) (ms := 12) (nc := 63) (ns := 4351) [] [.ref 8, .ref 0] dX10_init_65 (Or.inr ⟨RX10, fun _ w => w.2.1⟩) mfi_X2 mii_X2 rfl rfl (d' := 1) (by omega) rfl rfl rfl (c_X2 (pre := _) rfl) rfl rfl ?_
  refine cp_putF (fs2 := [.ref 1, .ref 3, .ref 4, .null, .ref 5, .ref 8, .null, .null, .null, .null, .null, .null, .null, .null, .int 0]) hk cl_10 (k := 5) (by decide) fi_X10_44 rfl rfl rfl (fun _ => rfl) (fun _ => rfl) (Nat.le_of_ble_eq_true rfl) rfl dX10_init_68 ?_
  refine cu_aload dX10_init_71 rfl ?_
  refine cp_new (a := 10) (fs := [.null, .null, .null, .null, .null, .null]) (nc := 62) (ns := 4345) hk cl_6 ck_X10_48 in_6 iz_6 (fun _ => rfl) (by decide +kernel) rfl dX10_init_72 ?_
  refine cu_dup dX10_init_75 rfl ?_
  refine cu_aload dX10_init_76 rfl ?_
  refine cp_get hk cl_10 (k := 0) (by decide) fi_X10_10 (v := .ref 1) rfl dX10_init_77 ?_
  refine cp_init (M' := mX6_init) (zC := zX6 10 1) (app2 := uX10_6) (mc := 5) (ms := 1584) (nc := 57) (ns := 2761) [.ref 1] [.ref 10, .ref 0] dX10_init_80 (Or.inl mi_X10_50) mfi_X6 mii_X6 rfl rfl (d' := 1) (by omega) rfl rfl rfl (c_X6 (pre := _) rfl) rfl rfl ?_
  refine cp_putF (fs2 := [.ref 1, .ref 3, .ref 4, .null, .ref 5, .ref 8, .ref 10, .null, .null, .null, .null, .null, .null, .null, .int 0]) hk cl_10 (k := 6) (by decide) fi_X10_51 rfl rfl rfl (fun _ => rfl) (fun _ => rfl) (Nat.le_of_ble_eq_true rfl) rfl dX10_init_83 ?_
  refine cu_aload dX10_init_86 rfl ?_
  refine cp_new (a := 16) (fs := [.null, .null, .null, .null, .int 0]) (nc := 56) (ns := 2756) hk cl_5 ck_X10_55 in_5 iz_5 (fun _ => rfl) (by decide +kernel) rfl dX10_init_87 ?_
  refine cu_dup dX10_init_90 rfl ?_
  refine cu_aload dX10_init_91 rfl ?_
  refine cp_get hk cl_10 (k := 0) (by decide) fi_X10_10 (v := .ref 1) rfl dX10_init_92 ?_
  refine cp_init (M' := mX5_init) (zC := zX5 16 1) (app2 := uX10_7) (mc := 3) (ms := 768) (nc := 53) (ns := 1988) [.ref 1] [.ref 16, .ref 0] dX10_init_95 (Or.inl mi_X10_57) mfi_X5 mii_X5 rfl rfl (d' := 1) (by omega) rfl rfl rfl (c_X5 (pre := _) rfl) rfl rfl ?_
  refine cp_putF (fs2 := [.ref 1, .ref 3, .ref 4, .null, .ref 5, .ref 8, .ref 10, .ref 16, .null, .null, .null, .null, .null, .null, .int 0]) hk cl_10 (k := 7) (by decide) fi_X10_58 rfl rfl rfl (fun _ => rfl) (fun _ => rfl) (Nat.le_of_ble_eq_true rfl) rfl dX10_init_98 ?_
  refine cu_aload dX10_init_101 rfl ?_
  refine cp_new (a := 20) (fs := [.null, .null, .null, .null, .null, .null, .null, .null, .int 0, .int 0, .int 0]) (nc := 52) (ns := 1977) hk cl_0 ck_X10_62 in_0 iz_0 (fun _ => rfl) (by decide +kernel) rfl dX10_init_102 ?_
  refine cu_dup dX10_init_105 rfl ?_
  refine cp_init (M' := mX0_init) (zC := zX0 20) (app2 := uX10_8) (mc := 8) (ms := 156) (nc := 44) (ns := 1821) [] [.ref 20, .ref 0] dX10_init_106 (Or.inr ⟨RX10, fun _ w => w.2.2.1⟩) mfi_X0 mii_X0 rfl rfl (d' := 1) (by omega) rfl rfl rfl (c_X0 (pre := _) rfl) rfl rfl ?_
  refine cp_putF (fs2 := [.ref 1, .ref 3, .ref 4, .null, .ref 5, .ref 8, .ref 10, .ref 16, .ref 20, .null, .null, .null, .null, .null, .int 0]) hk cl_10 (k := 8) (by decide) fi_X10_65 rfl rfl rfl (fun _ => rfl) (fun _ => rfl) (Nat.le_of_ble_eq_true rfl) rfl dX10_init_109 ?_
  refine cu_aload dX10_init_112 rfl ?_
  refine cp_new (a := 29) (fs := [.null, .null, .null, .null, .null, .null, .null, .null, .int 0, .int 0, .int 0]) (nc := 43) (ns := 1810) hk cl_0 ck_X10_62 in_0 iz_0 (fun _ => rfl) (by decide +kernel) rfl dX10_init_113 ?_
  refine cu_dup dX10_init_116 rfl ?_
  refine cp_init (M' := mX0_init) (zC := zX0 29) (app2 := uX10_9) (mc := 8) (ms := 156) (nc := 35) (ns := 1654) [] [.ref 29, .ref 0] dX10_init_117 (Or.inr ⟨RX10, fun _ w => w.2.2.1⟩) mfi_X0 mii_X0 rfl rfl (d' := 1) (by omega) rfl rfl rfl (c_X0 (pre := _) rfl) rfl rfl ?_
  refine cp_putF (fs2 := [.ref 1, .ref 3, .ref 4, .null, .ref 5, .ref 8, .ref 10, .ref 16, .ref 20, .ref 29, .null, .null, .null, .null, .int 0]) hk cl_10 (k := 9) (by decide) fi_X10_69 rfl rfl rfl (fun _ => rfl) (fun _ => rfl) (Nat.le_of_ble_eq_true rfl) rfl dX10_init_120 ?_
  refine cu_aload dX10_init_123 rfl ?_
  refine cp_new (a := 38) (fs := [.null, .null, .null, .null, .null, .null, .null, .null, .int 0, .int 0, .int 0]) (nc := 34) (ns := 1643) hk cl_0 ck_X10_62 in_0 iz_0 (fun _ => rfl) (by decide +kernel) rfl dX10_init_124 ?_
  refine cu_dup dX10_init_127 rfl ?_
  refine cp_init (M' := mX0_init) (zC := zX0 38) (app2 := uX10_10) (mc := 8) (ms := 156) (nc := 26) (ns := 1487) [] [.ref 38, .ref 0] dX10_init_128 (Or.inr ⟨RX10, fun _ w => w.2.2.1⟩) mfi_X0 mii_X0 rfl rfl (d' := 1) (by omega) rfl rfl rfl (c_X0 (pre := _) rfl) rfl rfl ?_
  refine cp_put (fs2 := [.ref 1, .ref 3, .ref 4, .null, .ref 5, .ref 8, .ref 10, .ref 16, .ref 20, .ref 29, .ref 38, .null, .null, .null, .int 0]) hk cl_10 (k := 10) (by decide) fi_X10_72 rfl (fun _ => rfl) (fun _ => rfl) (Nat.le_of_ble_eq_true rfl) rfl dX10_init_131 ?_
  refine cu_aload dX10_init_134 rfl ?_
  refine cp_new (a := 47) (fs := [.null, .null, .null, .null, .null, .null, .null, .null, .int 0, .int 0, .int 0]) (nc := 25) (ns := 1476) hk cl_0 ck_X10_62 in_0 iz_0 (fun _ => rfl) (by decide +kernel) rfl dX10_init_135 ?_
  refine cu_dup dX10_init_138 rfl ?_
  refine cp_init (M' := mX0_init) (zC := zX0 47) (app2 := uX10_11) (mc := 8) (ms := 156) (nc := 17) (ns := 1320) [] [.ref 47, .ref 0] dX10_init_139 (Or.inr ⟨RX10, fun _ w => w.2.2.1⟩) mfi_X0 mii_X0 rfl rfl (d' := 1) (by omega) rfl rfl rfl (c_X0 (pre := _) rfl) rfl rfl ?_
  refine cp_put (fs2 := [.ref 1, .ref 3, .ref 4, .null, .ref 5, .ref 8, .ref 10, .ref 16, .ref 20, .ref 29, .ref 38, .ref 47, .null, .null, .int 0]) hk cl_10 (k := 11) (by decide) fi_X10_75 rfl (fun _ => rfl) (fun _ => rfl) (Nat.le_of_ble_eq_true rfl) rfl dX10_init_142 ?_
  refine cu_aload dX10_init_145 rfl ?_
  refine cp_new (a := 56) (fs := [.null, .null, .null, .null, .null, .null, .null, .int 0, .int 0]) (nc := 16) (ns := 1311) hk cl_3 ck_X10_78 in_3 iz_3 (fun _ => rfl) (by decide +kernel) rfl dX10_init_146 ?_
  refine cu_dup dX10_init_149 rfl ?_
  refine cp_init (M' := mX3_init) (zC := zX3 56) (app2 := uX10_12) (mc := 7) (ms := 650) (nc := 9) (ns := 661) [] [.ref 56, .ref 0] dX10_init_150 (Or.inr ⟨RX10, fun _ w => w.2.2.2⟩) mfi_X3 mii_X3 rfl rfl (d' := 1) (by omega) rfl rfl rfl (c_X3 (pre := _) rfl) rfl rfl ?_
  refine cp_put (fs2 := [.ref 1, .ref 3, .ref 4, .null, .ref 5, .ref 8, .ref 10, .ref 16, .ref 20, .ref 29, .ref 38, .ref 47, .ref 56, .null, .int 0]) hk cl_10 (k := 12) (by decide) fi_X10_81 rfl (fun _ => rfl) (fun _ => rfl) (Nat.le_of_ble_eq_true rfl) rfl dX10_init_153 ?_
  refine cu_aload dX10_init_156 rfl ?_
  refine cp_new (a := 64) (fs := [.null, .null, .null, .null, .null, .null, .null, .int 0, .int 0]) (nc := 8) (ns := 652) hk cl_3 ck_X10_78 in_3 iz_3 (fun _ => rfl) (by decide +kernel) rfl dX10_init_157 ?_
  refine cu_dup dX10_init_160 rfl ?_
  refine cp_init (M' := mX3_init) (zC := zX3 64) (app2 := uX10_13) (mc := 7) (ms := 650) (nc := 1) (ns := 2) [] [.ref 64, .ref 0] dX10_init_161 (Or.inr ⟨RX10, fun _ w => w.2.2.2⟩) mfi_X3 mii_X3 rfl rfl (d' := 1) (by omega) rfl rfl rfl (c_X3 (pre := _) rfl) rfl rfl ?_
  refine cp_put (fs2 := [.ref 1, .ref 3, .ref 4, .null, .ref 5, .ref 8, .ref 10, .ref 16, .ref 20, .ref 29, .ref 38, .ref 47, .ref 56, .ref 64, .int 0]) hk cl_10 (k := 13) (by decide) fi_X10_85 rfl (fun _ => rfl) (fun _ => rfl) (Nat.le_of_ble_eq_true rfl) rfl dX10_init_164 ?_
  refine cu_aload dX10_init_167 rfl ?_
  refine cp_new (a := 72) (fs := [.null, .null]) (nc := 0) (ns := 0) hk cl_4 ck_X10_88 in_4 iz_4 (fun _ => rfl) (by decide +kernel) rfl dX10_init_168 ?_
  refine cu_dup dX10_init_171 rfl ?_
  refine cu_aload dX10_init_172 rfl ?_
  refine cp_get hk cl_10 (k := 1) (by decide) fi_X10_21 (v := .ref 3) rfl dX10_init_173 ?_
  refine cu_aload dX10_init_176 rfl ?_
  refine cp_get hk cl_10 (k := 13) (by decide) fi_X10_85 (v := .ref 64) rfl dX10_init_177 ?_
  refine cp_init (M' := mX4_init) (zC := zX4 72 3 64) (app2 := uX10_14) (mc := 0) (ms := 0) (nc := 0) (ns := 0) [.ref 3, .ref 64] [.ref 72, .ref 0] dX10_init_180 (Or.inl mi_X10_90) mfi_X4 mii_X4 rfl rfl (d' := 1) (by omega) rfl rfl rfl (c_X4 (pre := _) rfl) rfl rfl ?_
  refine cp_putF (fs2 := [.ref 1, .ref 3, .ref 4, .ref 72, .ref 5, .ref 8, .ref 10, .ref 16, .ref 20, .ref 29, .ref 38, .ref 47, .ref 56, .ref 64, .int 0]) hk cl_10 (k := 3) (by decide) fi_X10_93 rfl rfl rfl (fun _ => rfl) (fun _ => rfl) (Nat.le_of_ble_eq_true rfl) rfl dX10_init_183 ?_
  refine cu_aload dX10_init_186 rfl ?_
  refine cu_iconst (v := 0) dX10_init_187 (by decide) ?_
  refine cp_put (fs2 := [.ref 1, .ref 3, .ref 4, .ref 72, .ref 5, .ref 8, .ref 10, .ref 16, .ref 20, .ref 29, .ref 38, .ref 47, .ref 56, .ref 64, .int 0]) hk cl_10 (k := 14) (by decide) fi_X10_97 rfl (fun _ => rfl) (fun _ => rfl) (Nat.le_of_ble_eq_true rfl) rfl dX10_init_188 ?_
  exact cu_ret ⟨rfl, dX10_init_191⟩
