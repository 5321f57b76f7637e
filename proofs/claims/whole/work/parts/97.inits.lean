-- the constructors (by gen/ctor.py)
abbrev zi (n : Nat) : am_E := .inl (.int, n, fun _ => 0)
abbrev zb (n : Nat) : am_E := .inl (.byte, n, fun _ => 0)
abbrev zz (n : Nat) : am_E := .inl (.boolean, n, fun _ => 0)
section
variable {M : am_M} {d pc nc ns k0 : Nat} {L st : List Value} {pre app app2 : List am_E} {x : am_E} {Z : Nat → List Value → List am_E → Prop}
theorem cp_new {ci N idx a : Nat} {C0 : String} {T : u_T} {ty0 : Nat → FieldType} {fs : List Value} (hk : pre.length = k0) (hc : am_cls ci C0 T N ty0) (hcl : Cond.classLink M.1.cls idx C0 ∈ lw_g) (hinst : Cond.instantiable C0 N ∈ lw_g) (hini : Cond.initialized C0 ∈ lw_g) (hm : ∀ G, fs.map (am_v G) = fs) (hfs : ∀ j, j < N → defaultValue (ty0 j) = vp_V fs j) (ha : k0 + 1 + app.length = a) (hd : decode M.2.1 pc = .ok (.new idx, 3)) (k : Cu M d (pc + 3) L (.ref a :: st) (pre ++ x :: (app ++ [.inr (ci, fs)])) nc ns Z) : Cu M d pc L st (pre ++ x :: app) (nc + 1) (ns + N) Z := by
  refine cu_new hc hcl hinst hini hm hfs ((am_pl hk).trans ha) hd ?_
  rw [List.append_assoc]
  exact k
theorem cp_init {M' : am_M} {idx n a d' mc ms : Nat} {st0 : List Value} {y : am_E} {zC : List am_E} (As rest : List Value) (hd : decode M.2.1 pc = .ok (.invokespecial idx, 3)) (hlk : Cond.methodLink M.1.cls idx M'.1 ∈ lw_g ∨ (∃ host, ∀ U, am_NW U → va_Nw (.methodLinkNest M.1.cls idx M'.1 host) U)) (hm : am_mf M' n) (hi : Cond.instanceMethod M'.1 ∈ lw_g) (hnm : M'.1.name = "<init>") (hr0 : M'.2.2.2 = none) (hdd : d' < d) (hAs : As.length = n) (hst : st0 = As.reverse ++ .ref a :: rest) (hrs : am_rest rest = true) (w : Sc M' d' (.ref a :: As) ((pre ++ x :: app) ++ [y]) ((pre ++ x :: app) ++ zC) mc ms) (hzl : zC.length = 1 + mc) (h2 : app ++ zC = app2) (k : Cu M d (pc + 3) L rest (pre ++ x :: app2) nc ns Z) : Cu M d pc L st0 (pre ++ x :: (app ++ [y])) (nc + mc) (ns + ms) Z := by
  rw [show pre ++ x :: (app ++ [y]) = (pre ++ x :: app) ++ [y] from (List.append_assoc pre (x :: app) [y]).symm]
  refine cu_init As rest hd hlk hm hi hnm hr0 hdd hAs hst hrs w (by simp only [List.length_append, List.length_cons, List.length_nil]; omega) (by simp only [List.length_append, List.length_cons, List.length_nil, hzl]; omega) ?_
  rw [show (pre ++ x :: app) ++ zC = pre ++ x :: (app ++ zC) from List.append_assoc pre (x :: app) zC, h2]
  exact k
end
theorem aq_int : Cond.arrayClass .int ∈ lw_g := am_mem 151 (by decide +kernel) (by decide +kernel)
theorem aq_boolean : Cond.arrayClass .boolean ∈ lw_g := am_mem 223 (by decide +kernel) (by decide +kernel)
theorem aq_byte : Cond.arrayClass .byte ∈ lw_g := am_mem 695 (by decide +kernel) (by decide +kernel)
theorem ob_in : Cond.instanceMethod Lib.objectInit ∈ lw_g := am_mem 135 (by decide +kernel) (by decide +kernel)
theorem ob_co : Cond.code Lib.objectInit ⟨#[0xb1]⟩ 1 none ∈ lw_g := am_mem 136 (by decide +kernel) (by decide +kernel)
theorem ol_X9 : Cond.methodLink RX9 1 Lib.objectInit ∈ lw_g := am_mem 142 (by decide +kernel) (by decide +kernel)
theorem fi_X9_9 : Cond.fieldLink RX9 9 (TX9 0).1 (TX9 0).2.1 (TX9 0).2.2.1 ∈ lw_g := am_mem 143 (by decide +kernel) (by decide +kernel)
theorem fi_X9_13 : Cond.fieldLink RX9 13 (TX9 1).1 (TX9 1).2.1 (TX9 1).2.2.1 ∈ lw_g := am_mem 144 (by decide +kernel) (by decide +kernel)
theorem mii_X9 : Cond.instanceMethod yX9_init ∈ lw_g := am_mem 140 (by decide +kernel) (by decide +kernel)
set_option maxRecDepth 100000 in
theorem mfi_X9 : am_mf mX9_init 0 := ⟨am_mem 141 rfl (by decide +kernel), am_mem 110 (by decide +kernel) (by decide +kernel), (by decide +kernel), by decide, (by decide +kernel)⟩
def zX9 (k : Nat) : List am_E := .inr (9, [.ref (k + 1), .int 0]) :: [zi 260]
set_option maxRecDepth 100000 in
set_option maxHeartbeats 4000000 in
theorem c_X9 {pre : List am_E} {k : Nat} (hk : pre.length = k) : Sc mX9_init 1 [.ref k] (pre ++ [.inr (9, [.null, .int 0])]) (pre ++ zX9 k) 1 260 := by
  refine Sc_of mfi_X9 rfl rfl (Nat.le_of_ble_eq_true rfl) (L := [.ref k]) rfl ?_
  show Cu mX9_init 1 0 [.ref k] [] (pre ++ .inr (9, [.null, .int 0]) :: []) 1 260 _
  refine cu_aload dX9_init_0 rfl ?_
  refine cu_obj (by omega) ol_X9 ob_in ob_co dX9_init_1 ?_
  refine cu_aload dX9_init_4 rfl ?_
  refine cu_sipush (v := 260) dX9_init_5 (by decide) ?_
  refine cp_newa (at0 := .int) (ty := .int) (app2 := [zi 260]) (a := (k + 1)) (N := 260) (nc := 0) (ns := 0) hk rfl (by simp) aq_int (by decide) (by decide) (by decide) rfl rfl dX9_init_8 ?_
  refine cp_putF (fs2 := [.ref (k + 1), .int 0]) hk cl_9 (k := 0) (by decide) fi_X9_9 rfl rfl rfl (fun _ => rfl) (fun _ => rfl) (Nat.le_of_ble_eq_true rfl) rfl dX9_init_10 ?_
  refine cu_aload dX9_init_13 rfl ?_
  refine cu_iconst (v := 0) dX9_init_14 (by decide) ?_
  refine cp_put (fs2 := [.ref (k + 1), .int 0]) hk cl_9 (k := 1) (by decide) fi_X9_13 rfl (fun _ => rfl) (fun _ => rfl) (Nat.le_of_ble_eq_true rfl) rfl dX9_init_15 ?_
  exact cu_ret ⟨rfl, dX9_init_18⟩
theorem ol_X7 : Cond.methodLink RX7 3 Lib.objectInit ∈ lw_g := am_mem 157 (by decide +kernel) (by decide +kernel)
theorem fi_X7_9 : Cond.fieldLink RX7 9 (TX7 1).1 (TX7 1).2.1 (TX7 1).2.2.1 ∈ lw_g := am_mem 159 (by decide +kernel) (by decide +kernel)
theorem fi_X7_15 : Cond.fieldLink RX7 15 (TX7 2).1 (TX7 2).2.1 (TX7 2).2.2.1 ∈ lw_g := am_mem 160 (by decide +kernel) (by decide +kernel)
theorem fi_X7_18 : Cond.fieldLink RX7 18 (TX7 3).1 (TX7 3).2.1 (TX7 3).2.2.1 ∈ lw_g := am_mem 163 (by decide +kernel) (by decide +kernel)
theorem fi_X7_21 : Cond.fieldLink RX7 21 (TX7 0).1 (TX7 0).2.1 (TX7 0).2.2.1 ∈ lw_g := am_mem 158 (by decide +kernel) (by decide +kernel)
theorem mii_X7 : Cond.instanceMethod yX7_init ∈ lw_g := am_mem 155 (by decide +kernel) (by decide +kernel)
set_option maxRecDepth 100000 in
theorem mfi_X7 : am_mf mX7_init 1 := ⟨am_mem 156 rfl (by decide +kernel), am_mem 111 (by decide +kernel) (by decide +kernel), (by decide +kernel), by decide, (by decide +kernel)⟩
def zX7 (k a1 : Nat) : List am_E := .inr (7, [.ref a1, .int 0, .int 0, .int 0]) :: []
set_option maxRecDepth 100000 in
set_option maxHeartbeats 4000000 in
theorem c_X7 {pre : List am_E} {k a1 : Nat} (hk : pre.length = k) : Sc mX7_init 1 [.ref k, .ref a1] (pre ++ [.inr (7, [.null, .int 0, .int 0, .int 0])]) (pre ++ zX7 k a1) 0 0 := by
  refine Sc_of mfi_X7 rfl rfl (Nat.le_of_ble_eq_true rfl) (L := [.ref k, .ref a1]) rfl ?_
  show Cu mX7_init 1 0 [.ref k, .ref a1] [] (pre ++ .inr (7, [.null, .int 0, .int 0, .int 0]) :: []) 0 0 _
  refine cu_aload dX7_init_0 rfl ?_
  refine cu_obj (by omega) ol_X7 ob_in ob_co dX7_init_1 ?_
  refine cu_aload dX7_init_4 rfl ?_
  refine cu_iconst (v := 0) dX7_init_5 (by decide) ?_
  refine cp_put (fs2 := [.null, .int 0, .int 0, .int 0]) hk cl_7 (k := 1) (by decide) fi_X7_9 rfl (fun _ => rfl) (fun _ => rfl) (Nat.le_of_ble_eq_true rfl) rfl dX7_init_6 ?_
  refine cu_aload dX7_init_9 rfl ?_
  refine cu_iconst (v := 0) dX7_init_10 (by decide) ?_
  refine cp_put (fs2 := [.null, .int 0, .int 0, .int 0]) hk cl_7 (k := 2) (by decide) fi_X7_15 rfl (fun _ => rfl) (fun _ => rfl) (Nat.le_of_ble_eq_true rfl) rfl dX7_init_11 ?_
  refine cu_aload dX7_init_14 rfl ?_
  refine cu_iconst (v := 0) dX7_init_15 (by decide) ?_
  refine cp_put (fs2 := [.null, .int 0, .int 0, .int 0]) hk cl_7 (k := 3) (by decide) fi_X7_18 rfl (fun _ => rfl) (fun _ => rfl) (Nat.le_of_ble_eq_true rfl) rfl dX7_init_16 ?_
  refine cu_aload dX7_init_19 rfl ?_
  refine cu_aload dX7_init_20 rfl ?_
  refine cp_putF (fs2 := [.ref a1, .int 0, .int 0, .int 0]) hk cl_7 (k := 0) (by decide) fi_X7_21 rfl rfl rfl (fun _ => rfl) (fun _ => rfl) (Nat.le_of_ble_eq_true rfl) rfl dX7_init_21 ?_
  exact cu_ret ⟨rfl, dX7_init_24⟩
theorem ol_X1 : Cond.methodLink RX1 3 Lib.objectInit ∈ lw_g := am_mem 181 (by decide +kernel) (by decide +kernel)
theorem fi_X1_9 : Cond.fieldLink RX1 9 (TX1 0).1 (TX1 0).2.1 (TX1 0).2.2.1 ∈ lw_g := am_mem 182 (by decide +kernel) (by decide +kernel)
theorem mii_X1 : Cond.instanceMethod yX1_init ∈ lw_g := am_mem 179 (by decide +kernel) (by decide +kernel)
set_option maxRecDepth 100000 in
theorem mfi_X1 : am_mf mX1_init 1 := ⟨am_mem 180 rfl (by decide +kernel), am_mem 112 (by decide +kernel) (by decide +kernel), (by decide +kernel), by decide, (by decide +kernel)⟩
def zX1 (k a1 : Nat) : List am_E := .inr (1, [.ref a1]) :: []
set_option maxRecDepth 100000 in
set_option maxHeartbeats 4000000 in
theorem c_X1 {pre : List am_E} {k a1 : Nat} (hk : pre.length = k) : Sc mX1_init 1 [.ref k, .ref a1] (pre ++ [.inr (1, [.null])]) (pre ++ zX1 k a1) 0 0 := by
  refine Sc_of mfi_X1 rfl rfl (Nat.le_of_ble_eq_true rfl) (L := [.ref k, .ref a1]) rfl ?_
  show Cu mX1_init 1 0 [.ref k, .ref a1] [] (pre ++ .inr (1, [.null]) :: []) 0 0 _
  refine cu_aload dX1_init_0 rfl ?_
  refine cu_obj (by omega) ol_X1 ob_in ob_co dX1_init_1 ?_
  refine cu_aload dX1_init_4 rfl ?_
  refine cu_aload dX1_init_5 rfl ?_
  refine cp_putF (fs2 := [.ref a1]) hk cl_1 (k := 0) (by decide) fi_X1_9 rfl rfl rfl (fun _ => rfl) (fun _ => rfl) (Nat.le_of_ble_eq_true rfl) rfl dX1_init_6 ?_
  exact cu_ret ⟨rfl, dX1_init_9⟩
theorem ol_X8 : Cond.methodLink RX8 1 Lib.objectInit ∈ lw_g := am_mem 191 (by decide +kernel) (by decide +kernel)
theorem fi_X8_9 : Cond.fieldLink RX8 9 (TX8 1).1 (TX8 1).2.1 (TX8 1).2.2.1 ∈ lw_g := am_mem 193 (by decide +kernel) (by decide +kernel)
theorem fi_X8_13 : Cond.fieldLink RX8 13 (TX8 2).1 (TX8 2).2.1 (TX8 2).2.2.1 ∈ lw_g := am_mem 194 (by decide +kernel) (by decide +kernel)
theorem fi_X8_16 : Cond.fieldLink RX8 16 (TX8 3).1 (TX8 3).2.1 (TX8 3).2.2.1 ∈ lw_g := am_mem 195 (by decide +kernel) (by decide +kernel)
theorem fi_X8_20 : Cond.fieldLink RX8 20 (TX8 0).1 (TX8 0).2.1 (TX8 0).2.2.1 ∈ lw_g := am_mem 192 (by decide +kernel) (by decide +kernel)
theorem mii_X8 : Cond.instanceMethod yX8_init ∈ lw_g := am_mem 189 (by decide +kernel) (by decide +kernel)
set_option maxRecDepth 100000 in
theorem mfi_X8 : am_mf mX8_init 1 := ⟨am_mem 190 rfl (by decide +kernel), am_mem 113 (by decide +kernel) (by decide +kernel), (by decide +kernel), by decide, (by decide +kernel)⟩
def zX8 (k a1 : Nat) : List am_E := .inr (8, [.ref a1, .ref (k + 1), .ref (k + 2), .int 0]) :: [zi 64, zi 26]
set_option maxRecDepth 100000 in
set_option maxHeartbeats 4000000 in
theorem c_X8 {pre : List am_E} {k a1 : Nat} (hk : pre.length = k) : Sc mX8_init 1 [.ref k, .ref a1] (pre ++ [.inr (8, [.null, .null, .null, .int 0])]) (pre ++ zX8 k a1) 2 90 := by
  refine Sc_of mfi_X8 rfl rfl (Nat.le_of_ble_eq_true rfl) (L := [.ref k, .ref a1]) rfl ?_
  show Cu mX8_init 1 0 [.ref k, .ref a1] [] (pre ++ .inr (8, [.null, .null, .null, .int 0]) :: []) 2 90 _
  refine cu_aload dX8_init_0 rfl ?_
  refine cu_obj (by omega) ol_X8 ob_in ob_co dX8_init_1 ?_
  refine cu_aload dX8_init_4 rfl ?_
  refine cu_bipush (v := 64) dX8_init_5 (by decide) ?_
  refine cp_newa (at0 := .int) (ty := .int) (app2 := [zi 64]) (a := (k + 1)) (N := 64) (nc := 1) (ns := 26) hk rfl (by simp) aq_int (by decide) (by decide) (by decide) rfl rfl dX8_init_7 ?_
  refine cp_putF (fs2 := [.null, .ref (k + 1), .null, .int 0]) hk cl_8 (k := 1) (by decide) fi_X8_9 rfl rfl rfl (fun _ => rfl) (fun _ => rfl) (Nat.le_of_ble_eq_true rfl) rfl dX8_init_9 ?_
  refine cu_aload dX8_init_12 rfl ?_
  refine cu_bipush (v := 26) dX8_init_13 (by decide) ?_
  refine cp_newa (at0 := .int) (ty := .int) (app2 := [zi 64, zi 26]) (a := (k + 2)) (N := 26) (nc := 0) (ns := 0) hk rfl (by simp) aq_int (by decide) (by decide) (by decide) rfl rfl dX8_init_15 ?_
  refine cp_putF (fs2 := [.null, .ref (k + 1), .ref (k + 2), .int 0]) hk cl_8 (k := 2) (by decide) fi_X8_13 rfl rfl rfl (fun _ => rfl) (fun _ => rfl) (Nat.le_of_ble_eq_true rfl) rfl dX8_init_17 ?_
  refine cu_aload dX8_init_20 rfl ?_
  refine cu_iconst (v := 0) dX8_init_21 (by decide) ?_
  refine cp_put (fs2 := [.null, .ref (k + 1), .ref (k + 2), .int 0]) hk cl_8 (k := 3) (by decide) fi_X8_16 rfl (fun _ => rfl) (fun _ => rfl) (Nat.le_of_ble_eq_true rfl) rfl dX8_init_22 ?_
  refine cu_aload dX8_init_25 rfl ?_
  refine cu_aload dX8_init_26 rfl ?_
  refine cp_putF (fs2 := [.ref a1, .ref (k + 1), .ref (k + 2), .int 0]) hk cl_8 (k := 0) (by decide) fi_X8_20 rfl rfl rfl (fun _ => rfl) (fun _ => rfl) (Nat.le_of_ble_eq_true rfl) rfl dX8_init_27 ?_
  exact cu_ret ⟨rfl, dX8_init_30⟩
theorem ol_X2 : Cond.methodLink RX2 3 Lib.objectInit ∈ lw_g := am_mem 210 (by decide +kernel) (by decide +kernel)
theorem fi_X2_9 : Cond.fieldLink RX2 9 (TX2 0).1 (TX2 0).2.1 (TX2 0).2.2.1 ∈ lw_g := am_mem 211 (by decide +kernel) (by decide +kernel)
theorem fi_X2_15 : Cond.fieldLink RX2 15 (TX2 1).1 (TX2 1).2.1 (TX2 1).2.2.1 ∈ lw_g := am_mem 212 (by decide +kernel) (by decide +kernel)
theorem fi_X2_19 : Cond.fieldLink RX2 19 (TX2 2).1 (TX2 2).2.1 (TX2 2).2.2.1 ∈ lw_g := am_mem 214 (by decide +kernel) (by decide +kernel)
theorem mii_X2 : Cond.instanceMethod yX2_init ∈ lw_g := am_mem 208 (by decide +kernel) (by decide +kernel)
set_option maxRecDepth 100000 in
theorem mfi_X2 : am_mf mX2_init 0 := ⟨am_mem 209 rfl (by decide +kernel), am_mem 114 (by decide +kernel) (by decide +kernel), (by decide +kernel), by decide, (by decide +kernel)⟩
def zX2 (k : Nat) : List am_E := .inr (2, [.ref (k + 1), .int 0, .int 0]) :: [zz 12]
set_option maxRecDepth 100000 in
set_option maxHeartbeats 4000000 in
theorem c_X2 {pre : List am_E} {k : Nat} (hk : pre.length = k) : Sc mX2_init 1 [.ref k] (pre ++ [.inr (2, [.null, .int 0, .int 0])]) (pre ++ zX2 k) 1 12 := by
  refine Sc_of mfi_X2 rfl rfl (Nat.le_of_ble_eq_true rfl) (L := [.ref k]) rfl ?_
  show Cu mX2_init 1 0 [.ref k] [] (pre ++ .inr (2, [.null, .int 0, .int 0]) :: []) 1 12 _
  refine cu_aload dX2_init_0 rfl ?_
  refine cu_obj (by omega) ol_X2 ob_in ob_co dX2_init_1 ?_
  refine cu_aload dX2_init_4 rfl ?_
  refine cu_bipush (v := 12) dX2_init_5 (by decide) ?_
  refine cp_newa (at0 := .boolean) (ty := .boolean) (app2 := [zz 12]) (a := (k + 1)) (N := 12) (nc := 0) (ns := 0) hk rfl (by simp) aq_boolean (by decide) (by decide) (by decide) rfl rfl dX2_init_7 ?_
  refine cp_putF (fs2 := [.ref (k + 1), .int 0, .int 0]) hk cl_2 (k := 0) (by decide) fi_X2_9 rfl rfl rfl (fun _ => rfl) (fun _ => rfl) (Nat.le_of_ble_eq_true rfl) rfl dX2_init_9 ?_
  refine cu_aload dX2_init_12 rfl ?_
  refine cu_iconst (v := 0) dX2_init_13 (by decide) ?_
  refine cp_put (fs2 := [.ref (k + 1), .int 0, .int 0]) hk cl_2 (k := 1) (by decide) fi_X2_15 rfl (fun _ => rfl) (fun _ => rfl) (Nat.le_of_ble_eq_true rfl) rfl dX2_init_14 ?_
  refine cu_aload dX2_init_17 rfl ?_
  refine cu_iconst (v := 0) dX2_init_18 (by decide) ?_
  refine cp_put (fs2 := [.ref (k + 1), .int 0, .int 0]) hk cl_2 (k := 2) (by decide) fi_X2_19 rfl (fun _ => rfl) (fun _ => rfl) (Nat.le_of_ble_eq_true rfl) rfl dX2_init_19 ?_
  exact cu_ret ⟨rfl, dX2_init_22⟩
theorem ol_X6 : Cond.methodLink RX6 3 Lib.objectInit ∈ lw_g := am_mem 229 (by decide +kernel) (by decide +kernel)
theorem fi_X6_11 : Cond.fieldLink RX6 11 (TX6 1).1 (TX6 1).2.1 (TX6 1).2.2.1 ∈ lw_g := am_mem 231 (by decide +kernel) (by decide +kernel)
theorem fi_X6_15 : Cond.fieldLink RX6 15 (TX6 2).1 (TX6 2).2.1 (TX6 2).2.2.1 ∈ lw_g := am_mem 232 (by decide +kernel) (by decide +kernel)
theorem fi_X6_18 : Cond.fieldLink RX6 18 (TX6 3).1 (TX6 3).2.1 (TX6 3).2.2.1 ∈ lw_g := am_mem 233 (by decide +kernel) (by decide +kernel)
theorem fi_X6_21 : Cond.fieldLink RX6 21 (TX6 4).1 (TX6 4).2.1 (TX6 4).2.2.1 ∈ lw_g := am_mem 234 (by decide +kernel) (by decide +kernel)
theorem fi_X6_24 : Cond.fieldLink RX6 24 (TX6 5).1 (TX6 5).2.1 (TX6 5).2.2.1 ∈ lw_g := am_mem 235 (by decide +kernel) (by decide +kernel)
theorem fi_X6_27 : Cond.fieldLink RX6 27 (TX6 0).1 (TX6 0).2.1 (TX6 0).2.2.1 ∈ lw_g := am_mem 230 (by decide +kernel) (by decide +kernel)
theorem mii_X6 : Cond.instanceMethod yX6_init ∈ lw_g := am_mem 227 (by decide +kernel) (by decide +kernel)
set_option maxRecDepth 100000 in
theorem mfi_X6 : am_mf mX6_init 1 := ⟨am_mem 228 rfl (by decide +kernel), am_mem 115 (by decide +kernel) (by decide +kernel), (by decide +kernel), by decide, (by decide +kernel)⟩
def zX6 (k a1 : Nat) : List am_E := .inr (6, [.ref a1, .ref (k + 1), .ref (k + 2), .ref (k + 3), .ref (k + 4), .ref (k + 5)]) :: [zi 24, zi 24, zi 1024, zi 256, zi 256]
set_option maxRecDepth 100000 in
set_option maxHeartbeats 4000000 in
theorem c_X6 {pre : List am_E} {k a1 : Nat} (hk : pre.length = k) : Sc mX6_init 1 [.ref k, .ref a1] (pre ++ [.inr (6, [.null, .null, .null, .null, .null, .null])]) (pre ++ zX6 k a1) 5 1584 := by
  refine Sc_of mfi_X6 rfl rfl (Nat.le_of_ble_eq_true rfl) (L := [.ref k, .ref a1]) rfl ?_
  show Cu mX6_init 1 0 [.ref k, .ref a1] [] (pre ++ .inr (6, [.null, .null, .null, .null, .null, .null]) :: []) 5 1584 _
  refine cu_aload dX6_init_0 rfl ?_
  refine cu_obj (by omega) ol_X6 ob_in ob_co dX6_init_1 ?_
  refine cu_aload dX6_init_4 rfl ?_
  refine cu_bipush (v := 24) dX6_init_5 (by decide) ?_
  refine cp_newa (at0 := .int) (ty := .int) (app2 := [zi 24]) (a := (k + 1)) (N := 24) (nc := 4) (ns := 1560) hk rfl (by simp) aq_int (by decide) (by decide) (by decide) rfl rfl dX6_init_7 ?_
  refine cp_putF (fs2 := [.null, .ref (k + 1), .null, .null, .null, .null]) hk cl_6 (k := 1) (by decide) fi_X6_11 rfl rfl rfl (fun _ => rfl) (fun _ => rfl) (Nat.le_of_ble_eq_true rfl) rfl dX6_init_9 ?_
  refine cu_aload dX6_init_12 rfl ?_
  refine cu_bipush (v := 24) dX6_init_13 (by decide) ?_
  refine cp_newa (at0 := .int) (ty := .int) (app2 := [zi 24, zi 24]) (a := (k + 2)) (N := 24) (nc := 3) (ns := 1536) hk rfl (by simp) aq_int (by decide) (by decide) (by decide) rfl rfl dX6_init_15 ?_
  refine cp_putF (fs2 := [.null, .ref (k + 1), .ref (k + 2), .null, .null, .null]) hk cl_6 (k := 2) (by decide) fi_X6_15 rfl rfl rfl (fun _ => rfl) (fun _ => rfl) (Nat.le_of_ble_eq_true rfl) rfl dX6_init_17 ?_
  refine cu_aload dX6_init_20 rfl ?_
  refine cu_sipush (v := 1024) dX6_init_21 (by decide) ?_
  refine cp_newa (at0 := .int) (ty := .int) (app2 := [zi 24, zi 24, zi 1024]) (a := (k + 3)) (N := 1024) (nc := 2) (ns := 512) hk rfl (by simp) aq_int (by decide) (by decide) (by decide) rfl rfl dX6_init_24 ?_
  refine cp_putF (fs2 := [.null, .ref (k + 1), .ref (k + 2), .ref (k + 3), .null, .null]) hk cl_6 (k := 3) (by decide) fi_X6_18 rfl rfl rfl (fun _ => rfl) (fun _ => rfl) (Nat.le_of_ble_eq_true rfl) rfl dX6_init_26 ?_
  refine cu_aload dX6_init_29 rfl ?_
  refine cu_sipush (v := 256) dX6_init_30 (by decide) ?_
  refine cp_newa (at0 := .int) (ty := .int) (app2 := [zi 24, zi 24, zi 1024, zi 256]) (a := (k + 4)) (N := 256) (nc := 1) (ns := 256) hk rfl (by simp) aq_int (by decide) (by decide) (by decide) rfl rfl dX6_init_33 ?_
  refine cp_putF (fs2 := [.null, .ref (k + 1), .ref (k + 2), .ref (k + 3), .ref (k + 4), .null]) hk cl_6 (k := 4) (by decide) fi_X6_21 rfl rfl rfl (fun _ => rfl) (fun _ => rfl) (Nat.le_of_ble_eq_true rfl) rfl dX6_init_35 ?_
  refine cu_aload dX6_init_38 rfl ?_
  refine cu_sipush (v := 256) dX6_init_39 (by decide) ?_
  refine cp_newa (at0 := .int) (ty := .int) (app2 := [zi 24, zi 24, zi 1024, zi 256, zi 256]) (a := (k + 5)) (N := 256) (nc := 0) (ns := 0) hk rfl (by simp) aq_int (by decide) (by decide) (by decide) rfl rfl dX6_init_42 ?_
  refine cp_putF (fs2 := [.null, .ref (k + 1), .ref (k + 2), .ref (k + 3), .ref (k + 4), .ref (k + 5)]) hk cl_6 (k := 5) (by decide) fi_X6_24 rfl rfl rfl (fun _ => rfl) (fun _ => rfl) (Nat.le_of_ble_eq_true rfl) rfl dX6_init_44 ?_
  refine cu_aload dX6_init_47 rfl ?_
  refine cu_aload dX6_init_48 rfl ?_
  refine cp_putF (fs2 := [.ref a1, .ref (k + 1), .ref (k + 2), .ref (k + 3), .ref (k + 4), .ref (k + 5)]) hk cl_6 (k := 0) (by decide) fi_X6_27 rfl rfl rfl (fun _ => rfl) (fun _ => rfl) (Nat.le_of_ble_eq_true rfl) rfl dX6_init_49 ?_
  exact cu_ret ⟨rfl, dX6_init_52⟩
theorem ol_X5 : Cond.methodLink RX5 3 Lib.objectInit ∈ lw_g := am_mem 254 (by decide +kernel) (by decide +kernel)
theorem fi_X5_11 : Cond.fieldLink RX5 11 (TX5 1).1 (TX5 1).2.1 (TX5 1).2.2.1 ∈ lw_g := am_mem 256 (by decide +kernel) (by decide +kernel)
theorem fi_X5_15 : Cond.fieldLink RX5 15 (TX5 2).1 (TX5 2).2.1 (TX5 2).2.2.1 ∈ lw_g := am_mem 257 (by decide +kernel) (by decide +kernel)
theorem fi_X5_18 : Cond.fieldLink RX5 18 (TX5 3).1 (TX5 3).2.1 (TX5 3).2.2.1 ∈ lw_g := am_mem 258 (by decide +kernel) (by decide +kernel)
theorem fi_X5_21 : Cond.fieldLink RX5 21 (TX5 4).1 (TX5 4).2.1 (TX5 4).2.2.1 ∈ lw_g := am_mem 259 (by decide +kernel) (by decide +kernel)
theorem fi_X5_25 : Cond.fieldLink RX5 25 (TX5 0).1 (TX5 0).2.1 (TX5 0).2.2.1 ∈ lw_g := am_mem 255 (by decide +kernel) (by decide +kernel)
theorem mii_X5 : Cond.instanceMethod yX5_init ∈ lw_g := am_mem 252 (by decide +kernel) (by decide +kernel)
set_option maxRecDepth 100000 in
theorem mfi_X5 : am_mf mX5_init 1 := ⟨am_mem 253 rfl (by decide +kernel), am_mem 116 (by decide +kernel) (by decide +kernel), (by decide +kernel), by decide, (by decide +kernel)⟩
def zX5 (k a1 : Nat) : List am_E := .inr (5, [.ref a1, .ref (k + 1), .ref (k + 2), .ref (k + 3), .int 0]) :: [zi 256, zi 256, zi 256]
set_option maxRecDepth 100000 in
set_option maxHeartbeats 4000000 in
theorem c_X5 {pre : List am_E} {k a1 : Nat} (hk : pre.length = k) : Sc mX5_init 1 [.ref k, .ref a1] (pre ++ [.inr (5, [.null, .null, .null, .null, .int 0])]) (pre ++ zX5 k a1) 3 768 := by
  refine Sc_of mfi_X5 rfl rfl (Nat.le_of_ble_eq_true rfl) (L := [.ref k, .ref a1]) rfl ?_
  show Cu mX5_init 1 0 [.ref k, .ref a1] [] (pre ++ .inr (5, [.null, .null, .null, .null, .int 0]) :: []) 3 768 _
  refine cu_aload dX5_init_0 rfl ?_
  refine cu_obj (by omega) ol_X5 ob_in ob_co dX5_init_1 ?_
  refine cu_aload dX5_init_4 rfl ?_
  refine cu_sipush (v := 256) dX5_init_5 (by decide) ?_
  refine cp_newa (at0 := .int) (ty := .int) (app2 := [zi 256]) (a := (k + 1)) (N := 256) (nc := 2) (ns := 512) hk rfl (by simp) aq_int (by decide) (by decide) (by decide) rfl rfl dX5_init_8 ?_
  refine cp_putF (fs2 := [.null, .ref (k + 1), .null, .null, .int 0]) hk cl_5 (k := 1) (by decide) fi_X5_11 rfl rfl rfl (fun _ => rfl) (fun _ => rfl) (Nat.le_of_ble_eq_true rfl) rfl dX5_init_10 ?_
  refine cu_aload dX5_init_13 rfl ?_
  refine cu_sipush (v := 256) dX5_init_14 (by decide) ?_
  refine cp_newa (at0 := .int) (ty := .int) (app2 := [zi 256, zi 256]) (a := (k + 2)) (N := 256) (nc := 1) (ns := 256) hk rfl (by simp) aq_int (by decide) (by decide) (by decide) rfl rfl dX5_init_17 ?_
  refine cp_putF (fs2 := [.null, .ref (k + 1), .ref (k + 2), .null, .int 0]) hk cl_5 (k := 2) (by decide) fi_X5_15 rfl rfl rfl (fun _ => rfl) (fun _ => rfl) (Nat.le_of_ble_eq_true rfl) rfl dX5_init_19 ?_
  refine cu_aload dX5_init_22 rfl ?_
  refine cu_sipush (v := 256) dX5_init_23 (by decide) ?_
  refine cp_newa (at0 := .int) (ty := .int) (app2 := [zi 256, zi 256, zi 256]) (a := (k + 3)) (N := 256) (nc := 0) (ns := 0) hk rfl (by simp) aq_int (by decide) (by decide) (by decide) rfl rfl dX5_init_26 ?_
  refine cp_putF (fs2 := [.null, .ref (k + 1), .ref (k + 2), .ref (k + 3), .int 0]) hk cl_5 (k := 3) (by decide) fi_X5_18 rfl rfl rfl (fun _ => rfl) (fun _ => rfl) (Nat.le_of_ble_eq_true rfl) rfl dX5_init_28 ?_
  refine cu_aload dX5_init_31 rfl ?_
  refine cu_iconst (v := 0) dX5_init_32 (by decide) ?_
  refine cp_put (fs2 := [.null, .ref (k + 1), .ref (k + 2), .ref (k + 3), .int 0]) hk cl_5 (k := 4) (by decide) fi_X5_21 rfl (fun _ => rfl) (fun _ => rfl) (Nat.le_of_ble_eq_true rfl) rfl dX5_init_33 ?_
  refine cu_aload dX5_init_36 rfl ?_
  refine cu_aload dX5_init_37 rfl ?_
  refine cp_putF (fs2 := [.ref a1, .ref (k + 1), .ref (k + 2), .ref (k + 3), .int 0]) hk cl_5 (k := 0) (by decide) fi_X5_25 rfl rfl rfl (fun _ => rfl) (fun _ => rfl) (Nat.le_of_ble_eq_true rfl) rfl dX5_init_38 ?_
  exact cu_ret ⟨rfl, dX5_init_41⟩
theorem ol_X0 : Cond.methodLink RX0 3 Lib.objectInit ∈ lw_g := am_mem 276 (by decide +kernel) (by decide +kernel)
theorem fi_X0_9 : Cond.fieldLink RX0 9 (TX0 0).1 (TX0 0).2.1 (TX0 0).2.2.1 ∈ lw_g := am_mem 277 (by decide +kernel) (by decide +kernel)
theorem fi_X0_15 : Cond.fieldLink RX0 15 (TX0 1).1 (TX0 1).2.1 (TX0 1).2.2.1 ∈ lw_g := am_mem 281 (by decide +kernel) (by decide +kernel)
theorem fi_X0_18 : Cond.fieldLink RX0 18 (TX0 2).1 (TX0 2).2.1 (TX0 2).2.2.1 ∈ lw_g := am_mem 284 (by decide +kernel) (by decide +kernel)
theorem fi_X0_21 : Cond.fieldLink RX0 21 (TX0 3).1 (TX0 3).2.1 (TX0 3).2.2.1 ∈ lw_g := am_mem 286 (by decide +kernel) (by decide +kernel)
theorem fi_X0_24 : Cond.fieldLink RX0 24 (TX0 4).1 (TX0 4).2.1 (TX0 4).2.2.1 ∈ lw_g := am_mem 289 (by decide +kernel) (by decide +kernel)
theorem fi_X0_27 : Cond.fieldLink RX0 27 (TX0 5).1 (TX0 5).2.1 (TX0 5).2.2.1 ∈ lw_g := am_mem 293 (by decide +kernel) (by decide +kernel)
theorem fi_X0_30 : Cond.fieldLink RX0 30 (TX0 6).1 (TX0 6).2.1 (TX0 6).2.2.1 ∈ lw_g := am_mem 296 (by decide +kernel) (by decide +kernel)
theorem fi_X0_33 : Cond.fieldLink RX0 33 (TX0 7).1 (TX0 7).2.1 (TX0 7).2.2.1 ∈ lw_g := am_mem 300 (by decide +kernel) (by decide +kernel)
theorem fi_X0_36 : Cond.fieldLink RX0 36 (TX0 8).1 (TX0 8).2.1 (TX0 8).2.2.1 ∈ lw_g := am_mem 304 (by decide +kernel) (by decide +kernel)
theorem fi_X0_40 : Cond.fieldLink RX0 40 (TX0 9).1 (TX0 9).2.1 (TX0 9).2.2.1 ∈ lw_g := am_mem 309 (by decide +kernel) (by decide +kernel)
theorem fi_X0_43 : Cond.fieldLink RX0 43 (TX0 10).1 (TX0 10).2.1 (TX0 10).2.2.1 ∈ lw_g := am_mem 313 (by decide +kernel) (by decide +kernel)
theorem mii_X0 : Cond.instanceMethod yX0_init ∈ lw_g := am_mem 274 (by decide +kernel) (by decide +kernel)
set_option maxRecDepth 100000 in
theorem mfi_X0 : am_mf mX0_init 0 := ⟨am_mem 275 rfl (by decide +kernel), am_mem 117 (by decide +kernel) (by decide +kernel), (by decide +kernel), by decide, (by decide +kernel)⟩
def zX0 (k : Nat) : List am_E := .inr (0, [.ref (k + 1), .ref (k + 2), .ref (k + 3), .ref (k + 4), .ref (k + 5), .ref (k + 6), .ref (k + 7), .ref (k + 8), .int 0, .int 0, .int 1]) :: [zi 12, zi 12, zi 12, zi 24, zi 24, zi 24, zi 24, zi 24]
set_option maxRecDepth 100000 in
set_option maxHeartbeats 4000000 in
theorem c_X0 {pre : List am_E} {k : Nat} (hk : pre.length = k) : Sc mX0_init 1 [.ref k] (pre ++ [.inr (0, [.null, .null, .null, .null, .null, .null, .null, .null, .int 0, .int 0, .int 0])]) (pre ++ zX0 k) 8 156 := by
  refine Sc_of mfi_X0 rfl rfl (Nat.le_of_ble_eq_true rfl) (L := [.ref k]) rfl ?_
  show Cu mX0_init 1 0 [.ref k] [] (pre ++ .inr (0, [.null, .null, .null, .null, .null, .null, .null, .null, .int 0, .int 0, .int 0]) :: []) 8 156 _
  refine cu_aload dX0_init_0 rfl ?_
  refine cu_obj (by omega) ol_X0 ob_in ob_co dX0_init_1 ?_
  refine cu_aload dX0_init_4 rfl ?_
  refine cu_bipush (v := 12) dX0_init_5 (by decide) ?_
  refine cp_newa (at0 := .int) (ty := .int) (app2 := [zi 12]) (a := (k + 1)) (N := 12) (nc := 7) (ns := 144) hk rfl (by simp) aq_int (by decide) (by decide) (by decide) rfl rfl dX0_init_7 ?_
  refine cp_putF (fs2 := [.ref (k + 1), .null, .null, .null, .null, .null, .null, .null, .int 0, .int 0, .int 0]) hk cl_0 (k := 0) (by decide) fi_X0_9 rfl rfl rfl (fun _ => rfl) (fun _ => rfl) (Nat.le_of_ble_eq_true rfl) rfl dX0_init_9 ?_
  refine cu_aload dX0_init_12 rfl ?_
  refine cu_bipush (v := 12) dX0_init_13 (by decide) ?_
  refine cp_newa (at0 := .int) (ty := .int) (app2 := [zi 12, zi 12]) (a := (k + 2)) (N := 12) (nc := 6) (ns := 132) hk rfl (by simp) aq_int (by decide) (by decide) (by decide) rfl rfl dX0_init_15 ?_
  refine cp_putF (fs2 := [.ref (k + 1), .ref (k + 2), .null, .null, .null, .null, .null, .null, .int 0, .int 0, .int 0]) hk cl_0 (k := 1) (by decide) fi_X0_15 rfl rfl rfl (fun _ => rfl) (fun _ => rfl) (Nat.le_of_ble_eq_true rfl) rfl dX0_init_17 ?_
  refine cu_aload dX0_init_20 rfl ?_
  refine cu_bipush (v := 12) dX0_init_21 (by decide) ?_
  refine cp_newa (at0 := .int) (ty := .int) (app2 := [zi 12, zi 12, zi 12]) (a := (k + 3)) (N := 12) (nc := 5) (ns := 120) hk rfl (by simp) aq_int (by decide) (by decide) (by decide) rfl rfl dX0_init_23 ?_
  refine cp_putF (fs2 := [.ref (k + 1), .ref (k + 2), .ref (k + 3), .null, .null, .null, .null, .null, .int 0, .int 0, .int 0]) hk cl_0 (k := 2) (by decide) fi_X0_18 rfl rfl rfl (fun _ => rfl) (fun _ => rfl) (Nat.le_of_ble_eq_true rfl) rfl dX0_init_25 ?_
  refine cu_aload dX0_init_28 rfl ?_
  refine cu_bipush (v := 24) dX0_init_29 (by decide) ?_
  refine cp_newa (at0 := .int) (ty := .int) (app2 := [zi 12, zi 12, zi 12, zi 24]) (a := (k + 4)) (N := 24) (nc := 4) (ns := 96) hk rfl (by simp) aq_int (by decide) (by decide) (by decide) rfl rfl dX0_init_31 ?_
  refine cp_putF (fs2 := [.ref (k + 1), .ref (k + 2), .ref (k + 3), .ref (k + 4), .null, .null, .null, .null, .int 0, .int 0, .int 0]) hk cl_0 (k := 3) (by decide) fi_X0_21 rfl rfl rfl (fun _ => rfl) (fun _ => rfl) (Nat.le_of_ble_eq_true rfl) rfl dX0_init_33 ?_
  refine cu_aload dX0_init_36 rfl ?_
  refine cu_bipush (v := 24) dX0_init_37 (by decide) ?_
  refine cp_newa (at0 := .int) (ty := .int) (app2 := [zi 12, zi 12, zi 12, zi 24, zi 24]) (a := (k + 5)) (N := 24) (nc := 3) (ns := 72) hk rfl (by simp) aq_int (by decide) (by decide) (by decide) rfl rfl dX0_init_39 ?_
  refine cp_putF (fs2 := [.ref (k + 1), .ref (k + 2), .ref (k + 3), .ref (k + 4), .ref (k + 5), .null, .null, .null, .int 0, .int 0, .int 0]) hk cl_0 (k := 4) (by decide) fi_X0_24 rfl rfl rfl (fun _ => rfl) (fun _ => rfl) (Nat.le_of_ble_eq_true rfl) rfl dX0_init_41 ?_
  refine cu_aload dX0_init_44 rfl ?_
  refine cu_bipush (v := 24) dX0_init_45 (by decide) ?_
  refine cp_newa (at0 := .int) (ty := .int) (app2 := [zi 12, zi 12, zi 12, zi 24, zi 24, zi 24]) (a := (k + 6)) (N := 24) (nc := 2) (ns := 48) hk rfl (by simp) aq_int (by decide) (by decide) (by decide) rfl rfl dX0_init_47 ?_
  refine cp_putF (fs2 := [.ref (k + 1), .ref (k + 2), .ref (k + 3), .ref (k + 4), .ref (k + 5), .ref (k + 6), .null, .null, .int 0, .int 0, .int 0]) hk cl_0 (k := 5) (by decide) fi_X0_27 rfl rfl rfl (fun _ => rfl) (fun _ => rfl) (Nat.le_of_ble_eq_true rfl) rfl dX0_init_49 ?_
  refine cu_aload dX0_init_52 rfl ?_
  refine cu_bipush (v := 24) dX0_init_53 (by decide) ?_
  refine cp_newa (at0 := .int) (ty := .int) (app2 := [zi 12, zi 12, zi 12, zi 24, zi 24, zi 24, zi 24]) (a := (k + 7)) (N := 24) (nc := 1) (ns := 24) hk rfl (by simp) aq_int (by decide) (by decide) (by decide) rfl rfl dX0_init_55 ?_
  refine cp_putF (fs2 := [.ref (k + 1), .ref (k + 2), .ref (k + 3), .ref (k + 4), .ref (k + 5), .ref (k + 6), .ref (k + 7), .null, .int 0, .int 0, .int 0]) hk cl_0 (k := 6) (by decide) fi_X0_30 rfl rfl rfl (fun _ => rfl) (fun _ => rfl) (Nat.le_of_ble_eq_true rfl) rfl dX0_init_57 ?_
  refine cu_aload dX0_init_60 rfl ?_
  refine cu_bipush (v := 24) dX0_init_61 (by decide) ?_
  refine cp_newa (at0 := .int) (ty := .int) (app2 := [zi 12, zi 12, zi 12, zi 24, zi 24, zi 24, zi 24, zi 24]) (a := (k + 8)) (N := 24) (nc := 0) (ns := 0) hk rfl (by simp) aq_int (by decide) (by decide) (by decide) rfl rfl dX0_init_63 ?_
  refine cp_putF (fs2 := [.ref (k + 1), .ref (k + 2), .ref (k + 3), .ref (k + 4), .ref (k + 5), .ref (k + 6), .ref (k + 7), .ref (k + 8), .int 0, .int 0, .int 0]) hk cl_0 (k := 7) (by decide) fi_X0_33 rfl rfl rfl (fun _ => rfl) (fun _ => rfl) (Nat.le_of_ble_eq_true rfl) rfl dX0_init_65 ?_
  refine cu_aload dX0_init_68 rfl ?_
  refine cu_iconst (v := 0) dX0_init_69 (by decide) ?_
  refine cp_put (fs2 := [.ref (k + 1), .ref (k + 2), .ref (k + 3), .ref (k + 4), .ref (k + 5), .ref (k + 6), .ref (k + 7), .ref (k + 8), .int 0, .int 0, .int 0]) hk cl_0 (k := 8) (by decide) fi_X0_36 rfl (fun _ => rfl) (fun _ => rfl) (Nat.le_of_ble_eq_true rfl) rfl dX0_init_70 ?_
  refine cu_aload dX0_init_73 rfl ?_
  refine cu_iconst (v := 0) dX0_init_74 (by decide) ?_
  refine cp_put (fs2 := [.ref (k + 1), .ref (k + 2), .ref (k + 3), .ref (k + 4), .ref (k + 5), .ref (k + 6), .ref (k + 7), .ref (k + 8), .int 0, .int 0, .int 0]) hk cl_0 (k := 9) (by decide) fi_X0_40 rfl (fun _ => rfl) (fun _ => rfl) (Nat.le_of_ble_eq_true rfl) rfl dX0_init_75 ?_
  refine cu_aload dX0_init_78 rfl ?_
  refine cu_iconst (v := 1) dX0_init_79 (by decide) ?_
  refine cp_put (fs2 := [.ref (k + 1), .ref (k + 2), .ref (k + 3), .ref (k + 4), .ref (k + 5), .ref (k + 6), .ref (k + 7), .ref (k + 8), .int 0, .int 0, .int 1]) hk cl_0 (k := 10) (by decide) fi_X0_43 rfl (fun _ => rfl) (fun _ => rfl) (Nat.le_of_ble_eq_true rfl) rfl dX0_init_80 ?_
  exact cu_ret ⟨rfl, dX0_init_83⟩
theorem ol_X3 : Cond.methodLink RX3 3 Lib.objectInit ∈ lw_g := am_mem 343 (by decide +kernel) (by decide +kernel)
theorem fi_X3_11 : Cond.fieldLink RX3 11 (TX3 0).1 (TX3 0).2.1 (TX3 0).2.2.1 ∈ lw_g := am_mem 344 (by decide +kernel) (by decide +kernel)
theorem fi_X3_15 : Cond.fieldLink RX3 15 (TX3 1).1 (TX3 1).2.1 (TX3 1).2.2.1 ∈ lw_g := am_mem 345 (by decide +kernel) (by decide +kernel)
theorem fi_X3_18 : Cond.fieldLink RX3 18 (TX3 2).1 (TX3 2).2.1 (TX3 2).2.2.1 ∈ lw_g := am_mem 346 (by decide +kernel) (by decide +kernel)
theorem fi_X3_21 : Cond.fieldLink RX3 21 (TX3 3).1 (TX3 3).2.1 (TX3 3).2.2.1 ∈ lw_g := am_mem 347 (by decide +kernel) (by decide +kernel)
theorem fi_X3_24 : Cond.fieldLink RX3 24 (TX3 4).1 (TX3 4).2.1 (TX3 4).2.2.1 ∈ lw_g := am_mem 348 (by decide +kernel) (by decide +kernel)
theorem fi_X3_27 : Cond.fieldLink RX3 27 (TX3 5).1 (TX3 5).2.1 (TX3 5).2.2.1 ∈ lw_g := am_mem 349 (by decide +kernel) (by decide +kernel)
theorem fi_X3_30 : Cond.fieldLink RX3 30 (TX3 6).1 (TX3 6).2.1 (TX3 6).2.2.1 ∈ lw_g := am_mem 350 (by decide +kernel) (by decide +kernel)
theorem fi_X3_33 : Cond.fieldLink RX3 33 (TX3 7).1 (TX3 7).2.1 (TX3 7).2.2.1 ∈ lw_g := am_mem 351 (by decide +kernel) (by decide +kernel)
theorem fi_X3_37 : Cond.fieldLink RX3 37 (TX3 8).1 (TX3 8).2.1 (TX3 8).2.2.1 ∈ lw_g := am_mem 353 (by decide +kernel) (by decide +kernel)
theorem mii_X3 : Cond.instanceMethod yX3_init ∈ lw_g := am_mem 341 (by decide +kernel) (by decide +kernel)
set_option maxRecDepth 100000 in
theorem mfi_X3 : am_mf mX3_init 0 := ⟨am_mem 342 rfl (by decide +kernel), am_mem 118 (by decide +kernel) (by decide +kernel), (by decide +kernel), by decide, (by decide +kernel)⟩
def zX3 (k : Nat) : List am_E := .inr (3, [.ref (k + 1), .ref (k + 2), .ref (k + 3), .ref (k + 4), .ref (k + 5), .ref (k + 6), .ref (k + 7), .int 0, .int 0]) :: [zi 16, zi 16, zi 16, zi 16, zi 512, zi 64, zi 10]
set_option maxRecDepth 100000 in
set_option maxHeartbeats 4000000 in
theorem c_X3 {pre : List am_E} {k : Nat} (hk : pre.length = k) : Sc mX3_init 1 [.ref k] (pre ++ [.inr (3, [.null, .null, .null, .null, .null, .null, .null, .int 0, .int 0])]) (pre ++ zX3 k) 7 650 := by
  refine Sc_of mfi_X3 rfl rfl (Nat.le_of_ble_eq_true rfl) (L := [.ref k]) rfl ?_
  show Cu mX3_init 1 0 [.ref k] [] (pre ++ .inr (3, [.null, .null, .null, .null, .null, .null, .null, .int 0, .int 0]) :: []) 7 650 _
  refine cu_aload dX3_init_0 rfl ?_
  refine cu_obj (by omega) ol_X3 ob_in ob_co dX3_init_1 ?_
  refine cu_aload dX3_init_4 rfl ?_
  refine cu_bipush (v := 16) dX3_init_5 (by decide) ?_
  refine cp_newa (at0 := .int) (ty := .int) (app2 := [zi 16]) (a := (k + 1)) (N := 16) (nc := 6) (ns := 634) hk rfl (by simp) aq_int (by decide) (by decide) (by decide) rfl rfl dX3_init_7 ?_
  refine cp_putF (fs2 := [.ref (k + 1), .null, .null, .null, .null, .null, .null, .int 0, .int 0]) hk cl_3 (k := 0) (by decide) fi_X3_11 rfl rfl rfl (fun _ => rfl) (fun _ => rfl) (Nat.le_of_ble_eq_true rfl) rfl dX3_init_9 ?_
  refine cu_aload dX3_init_12 rfl ?_
  refine cu_bipush (v := 16) dX3_init_13 (by decide) ?_
  refine cp_newa (at0 := .int) (ty := .int) (app2 := [zi 16, zi 16]) (a := (k + 2)) (N := 16) (nc := 5) (ns := 618) hk rfl (by simp) aq_int (by decide) (by decide) (by decide) rfl rfl dX3_init_15 ?_
  refine cp_putF (fs2 := [.ref (k + 1), .ref (k + 2), .null, .null, .null, .null, .null, .int 0, .int 0]) hk cl_3 (k := 1) (by decide) fi_X3_15 rfl rfl rfl (fun _ => rfl) (fun _ => rfl) (Nat.le_of_ble_eq_true rfl) rfl dX3_init_17 ?_
  refine cu_aload dX3_init_20 rfl ?_
  refine cu_bipush (v := 16) dX3_init_21 (by decide) ?_
  refine cp_newa (at0 := .int) (ty := .int) (app2 := [zi 16, zi 16, zi 16]) (a := (k + 3)) (N := 16) (nc := 4) (ns := 602) hk rfl (by simp) aq_int (by decide) (by decide) (by decide) rfl rfl dX3_init_23 ?_
  refine cp_putF (fs2 := [.ref (k + 1), .ref (k + 2), .ref (k + 3), .null, .null, .null, .null, .int 0, .int 0]) hk cl_3 (k := 2) (by decide) fi_X3_18 rfl rfl rfl (fun _ => rfl) (fun _ => rfl) (Nat.le_of_ble_eq_true rfl) rfl dX3_init_25 ?_
  refine cu_aload dX3_init_28 rfl ?_
  refine cu_bipush (v := 16) dX3_init_29 (by decide) ?_
  refine cp_newa (at0 := .int) (ty := .int) (app2 := [zi 16, zi 16, zi 16, zi 16]) (a := (k + 4)) (N := 16) (nc := 3) (ns := 586) hk rfl (by simp) aq_int (by decide) (by decide) (by decide) rfl rfl dX3_init_31 ?_
  refine cp_putF (fs2 := [.ref (k + 1), .ref (k + 2), .ref (k + 3), .ref (k + 4), .null, .null, .null, .int 0, .int 0]) hk cl_3 (k := 3) (by decide) fi_X3_21 rfl rfl rfl (fun _ => rfl) (fun _ => rfl) (Nat.le_of_ble_eq_true rfl) rfl dX3_init_33 ?_
  refine cu_aload dX3_init_36 rfl ?_
  refine cu_sipush (v := 512) dX3_init_37 (by decide) ?_
  refine cp_newa (at0 := .int) (ty := .int) (app2 := [zi 16, zi 16, zi 16, zi 16, zi 512]) (a := (k + 5)) (N := 512) (nc := 2) (ns := 74) hk rfl (by simp) aq_int (by decide) (by decide) (by decide) rfl rfl dX3_init_40 ?_
  refine cp_putF (fs2 := [.ref (k + 1), .ref (k + 2), .ref (k + 3), .ref (k + 4), .ref (k + 5), .null, .null, .int 0, .int 0]) hk cl_3 (k := 4) (by decide) fi_X3_24 rfl rfl rfl (fun _ => rfl) (fun _ => rfl) (Nat.le_of_ble_eq_true rfl) rfl dX3_init_42 ?_
  refine cu_aload dX3_init_45 rfl ?_
  refine cu_bipush (v := 64) dX3_init_46 (by decide) ?_
  refine cp_newa (at0 := .int) (ty := .int) (app2 := [zi 16, zi 16, zi 16, zi 16, zi 512, zi 64]) (a := (k + 6)) (N := 64) (nc := 1) (ns := 10) hk rfl (by simp) aq_int (by decide) (by decide) (by decide) rfl rfl dX3_init_48 ?_
  refine cp_putF (fs2 := [.ref (k + 1), .ref (k + 2), .ref (k + 3), .ref (k + 4), .ref (k + 5), .ref (k + 6), .null, .int 0, .int 0]) hk cl_3 (k := 5) (by decide) fi_X3_27 rfl rfl rfl (fun _ => rfl) (fun _ => rfl) (Nat.le_of_ble_eq_true rfl) rfl dX3_init_50 ?_
  refine cu_aload dX3_init_53 rfl ?_
  refine cu_bipush (v := 10) dX3_init_54 (by decide) ?_
  refine cp_newa (at0 := .int) (ty := .int) (app2 := [zi 16, zi 16, zi 16, zi 16, zi 512, zi 64, zi 10]) (a := (k + 7)) (N := 10) (nc := 0) (ns := 0) hk rfl (by simp) aq_int (by decide) (by decide) (by decide) rfl rfl dX3_init_56 ?_
  refine cp_putF (fs2 := [.ref (k + 1), .ref (k + 2), .ref (k + 3), .ref (k + 4), .ref (k + 5), .ref (k + 6), .ref (k + 7), .int 0, .int 0]) hk cl_3 (k := 6) (by decide) fi_X3_30 rfl rfl rfl (fun _ => rfl) (fun _ => rfl) (Nat.le_of_ble_eq_true rfl) rfl dX3_init_58 ?_
  refine cu_aload dX3_init_61 rfl ?_
  refine cu_iconst (v := 0) dX3_init_62 (by decide) ?_
  refine cp_put (fs2 := [.ref (k + 1), .ref (k + 2), .ref (k + 3), .ref (k + 4), .ref (k + 5), .ref (k + 6), .ref (k + 7), .int 0, .int 0]) hk cl_3 (k := 7) (by decide) fi_X3_33 rfl (fun _ => rfl) (fun _ => rfl) (Nat.le_of_ble_eq_true rfl) rfl dX3_init_63 ?_
  refine cu_aload dX3_init_66 rfl ?_
  refine cu_iconst (v := 0) dX3_init_67 (by decide) ?_
  refine cp_put (fs2 := [.ref (k + 1), .ref (k + 2), .ref (k + 3), .ref (k + 4), .ref (k + 5), .ref (k + 6), .ref (k + 7), .int 0, .int 0]) hk cl_3 (k := 8) (by decide) fi_X3_37 rfl (fun _ => rfl) (fun _ => rfl) (Nat.le_of_ble_eq_true rfl) rfl dX3_init_68 ?_
  exact cu_ret ⟨rfl, dX3_init_71⟩
theorem ol_X4 : Cond.methodLink RX4 3 Lib.objectInit ∈ lw_g := am_mem 379 (by decide +kernel) (by decide +kernel)
theorem fi_X4_9 : Cond.fieldLink RX4 9 (TX4 0).1 (TX4 0).2.1 (TX4 0).2.2.1 ∈ lw_g := am_mem 380 (by decide +kernel) (by decide +kernel)
theorem fi_X4_15 : Cond.fieldLink RX4 15 (TX4 1).1 (TX4 1).2.1 (TX4 1).2.2.1 ∈ lw_g := am_mem 381 (by decide +kernel) (by decide +kernel)
theorem mii_X4 : Cond.instanceMethod yX4_init ∈ lw_g := am_mem 377 (by decide +kernel) (by decide +kernel)
set_option maxRecDepth 100000 in
theorem mfi_X4 : am_mf mX4_init 2 := ⟨am_mem 378 rfl (by decide +kernel), am_mem 119 (by decide +kernel) (by decide +kernel), (by decide +kernel), by decide, (by decide +kernel)⟩
def zX4 (k a1 a2 : Nat) : List am_E := .inr (4, [.ref a1, .ref a2]) :: []
set_option maxRecDepth 100000 in
set_option maxHeartbeats 4000000 in
theorem c_X4 {pre : List am_E} {k a1 a2 : Nat} (hk : pre.length = k) : Sc mX4_init 1 [.ref k, .ref a1, .ref a2] (pre ++ [.inr (4, [.null, .null])]) (pre ++ zX4 k a1 a2) 0 0 := by
  refine Sc_of mfi_X4 rfl rfl (Nat.le_of_ble_eq_true rfl) (L := [.ref k, .ref a1, .ref a2]) rfl ?_
  show Cu mX4_init 1 0 [.ref k, .ref a1, .ref a2] [] (pre ++ .inr (4, [.null, .null]) :: []) 0 0 _
  refine cu_aload dX4_init_0 rfl ?_
  refine cu_obj (by omega) ol_X4 ob_in ob_co dX4_init_1 ?_
  refine cu_aload dX4_init_4 rfl ?_
  refine cu_aload dX4_init_5 rfl ?_
  refine cp_putF (fs2 := [.ref a1, .null]) hk cl_4 (k := 0) (by decide) fi_X4_9 rfl rfl rfl (fun _ => rfl) (fun _ => rfl) (Nat.le_of_ble_eq_true rfl) rfl dX4_init_6 ?_
  refine cu_aload dX4_init_9 rfl ?_
  refine cu_aload dX4_init_10 rfl ?_
  refine cp_put (fs2 := [.ref a1, .ref a2]) hk cl_4 (k := 1) (by decide) fi_X4_15 rfl (fun _ => rfl) (fun _ => rfl) (Nat.le_of_ble_eq_true rfl) rfl dX4_init_11 ?_
  exact cu_ret ⟨rfl, dX4_init_14⟩
theorem ol_X11 : Cond.methodLink RX11 1 Lib.objectInit ∈ lw_g := am_mem 1151 (by decide +kernel) (by decide +kernel)
theorem fi_X11_7 : Cond.fieldLink RX11 7 (TX11 0).1 (TX11 0).2.1 (TX11 0).2.2.1 ∈ lw_g := am_mem 1152 (by decide +kernel) (by decide +kernel)
theorem fi_X11_13 : Cond.fieldLink RX11 13 (TX11 1).1 (TX11 1).2.1 (TX11 1).2.2.1 ∈ lw_g := am_mem 1153 (by decide +kernel) (by decide +kernel)
theorem fi_X11_16 : Cond.fieldLink RX11 16 (TX11 2).1 (TX11 2).2.1 (TX11 2).2.2.1 ∈ lw_g := am_mem 1154 (by decide +kernel) (by decide +kernel)
theorem fi_X11_19 : Cond.fieldLink RX11 19 (TX11 3).1 (TX11 3).2.1 (TX11 3).2.2.1 ∈ lw_g := am_mem 1155 (by decide +kernel) (by decide +kernel)
theorem fi_X11_22 : Cond.fieldLink RX11 22 (TX11 4).1 (TX11 4).2.1 (TX11 4).2.2.1 ∈ lw_g := am_mem 1156 (by decide +kernel) (by decide +kernel)
theorem fi_X11_25 : Cond.fieldLink RX11 25 (TX11 5).1 (TX11 5).2.1 (TX11 5).2.2.1 ∈ lw_g := am_mem 1157 (by decide +kernel) (by decide +kernel)
theorem fi_X11_28 : Cond.fieldLink RX11 28 (TX11 8).1 (TX11 8).2.1 (TX11 8).2.2.1 ∈ lw_g := am_mem 1160 (by decide +kernel) (by decide +kernel)
theorem fi_X11_32 : Cond.fieldLink RX11 32 (TX11 19).1 (TX11 19).2.1 (TX11 19).2.2.1 ∈ lw_g := am_mem 1171 (by decide +kernel) (by decide +kernel)
theorem fi_X11_35 : Cond.fieldLink RX11 35 (TX11 20).1 (TX11 20).2.1 (TX11 20).2.2.1 ∈ lw_g := am_mem 1172 (by decide +kernel) (by decide +kernel)
theorem fi_X11_38 : Cond.fieldLink RX11 38 (TX11 21).1 (TX11 21).2.1 (TX11 21).2.2.1 ∈ lw_g := am_mem 1173 (by decide +kernel) (by decide +kernel)
theorem fi_X11_41 : Cond.fieldLink RX11 41 (TX11 22).1 (TX11 22).2.1 (TX11 22).2.2.1 ∈ lw_g := am_mem 1174 (by decide +kernel) (by decide +kernel)
theorem fi_X11_44 : Cond.fieldLink RX11 44 (TX11 23).1 (TX11 23).2.1 (TX11 23).2.2.1 ∈ lw_g := am_mem 1175 (by decide +kernel) (by decide +kernel)
theorem fi_X11_47 : Cond.fieldLink RX11 47 (TX11 24).1 (TX11 24).2.1 (TX11 24).2.2.1 ∈ lw_g := am_mem 1176 (by decide +kernel) (by decide +kernel)
theorem fi_X11_50 : Cond.fieldLink RX11 50 (TX11 25).1 (TX11 25).2.1 (TX11 25).2.2.1 ∈ lw_g := am_mem 1177 (by decide +kernel) (by decide +kernel)
theorem fi_X11_53 : Cond.fieldLink RX11 53 (TX11 26).1 (TX11 26).2.1 (TX11 26).2.2.1 ∈ lw_g := am_mem 1178 (by decide +kernel) (by decide +kernel)
theorem fi_X11_56 : Cond.fieldLink RX11 56 (TX11 27).1 (TX11 27).2.1 (TX11 27).2.2.1 ∈ lw_g := am_mem 1179 (by decide +kernel) (by decide +kernel)
theorem fi_X11_59 : Cond.fieldLink RX11 59 (TX11 28).1 (TX11 28).2.1 (TX11 28).2.2.1 ∈ lw_g := am_mem 1180 (by decide +kernel) (by decide +kernel)
theorem fi_X11_62 : Cond.fieldLink RX11 62 (TX11 29).1 (TX11 29).2.1 (TX11 29).2.2.1 ∈ lw_g := am_mem 1181 (by decide +kernel) (by decide +kernel)
theorem fi_X11_65 : Cond.fieldLink RX11 65 (TX11 30).1 (TX11 30).2.1 (TX11 30).2.2.1 ∈ lw_g := am_mem 1182 (by decide +kernel) (by decide +kernel)
theorem fi_X11_68 : Cond.fieldLink RX11 68 (TX11 31).1 (TX11 31).2.1 (TX11 31).2.2.1 ∈ lw_g := am_mem 1183 (by decide +kernel) (by decide +kernel)
theorem fi_X11_71 : Cond.fieldLink RX11 71 (TX11 32).1 (TX11 32).2.1 (TX11 32).2.2.1 ∈ lw_g := am_mem 1184 (by decide +kernel) (by decide +kernel)
theorem fi_X11_74 : Cond.fieldLink RX11 74 (TX11 33).1 (TX11 33).2.1 (TX11 33).2.2.1 ∈ lw_g := am_mem 1185 (by decide +kernel) (by decide +kernel)
theorem fi_X11_77 : Cond.fieldLink RX11 77 (TX11 34).1 (TX11 34).2.1 (TX11 34).2.2.1 ∈ lw_g := am_mem 1186 (by decide +kernel) (by decide +kernel)
theorem fi_X11_80 : Cond.fieldLink RX11 80 (TX11 35).1 (TX11 35).2.1 (TX11 35).2.2.1 ∈ lw_g := am_mem 1187 (by decide +kernel) (by decide +kernel)
theorem fi_X11_83 : Cond.fieldLink RX11 83 (TX11 36).1 (TX11 36).2.1 (TX11 36).2.2.1 ∈ lw_g := am_mem 1188 (by decide +kernel) (by decide +kernel)
theorem fi_X11_86 : Cond.fieldLink RX11 86 (TX11 43).1 (TX11 43).2.1 (TX11 43).2.2.1 ∈ lw_g := am_mem 1195 (by decide +kernel) (by decide +kernel)
theorem fi_X11_89 : Cond.fieldLink RX11 89 (TX11 44).1 (TX11 44).2.1 (TX11 44).2.2.1 ∈ lw_g := am_mem 1196 (by decide +kernel) (by decide +kernel)
theorem fi_X11_92 : Cond.fieldLink RX11 92 (TX11 45).1 (TX11 45).2.1 (TX11 45).2.2.1 ∈ lw_g := am_mem 1197 (by decide +kernel) (by decide +kernel)
theorem fi_X11_95 : Cond.fieldLink RX11 95 (TX11 46).1 (TX11 46).2.1 (TX11 46).2.2.1 ∈ lw_g := am_mem 1198 (by decide +kernel) (by decide +kernel)
theorem fi_X11_98 : Cond.fieldLink RX11 98 (TX11 47).1 (TX11 47).2.1 (TX11 47).2.2.1 ∈ lw_g := am_mem 1199 (by decide +kernel) (by decide +kernel)
theorem fi_X11_101 : Cond.fieldLink RX11 101 (TX11 48).1 (TX11 48).2.1 (TX11 48).2.2.1 ∈ lw_g := am_mem 1200 (by decide +kernel) (by decide +kernel)
theorem fi_X11_104 : Cond.fieldLink RX11 104 (TX11 53).1 (TX11 53).2.1 (TX11 53).2.2.1 ∈ lw_g := am_mem 1205 (by decide +kernel) (by decide +kernel)
theorem fi_X11_107 : Cond.fieldLink RX11 107 (TX11 54).1 (TX11 54).2.1 (TX11 54).2.2.1 ∈ lw_g := am_mem 1206 (by decide +kernel) (by decide +kernel)
theorem fi_X11_110 : Cond.fieldLink RX11 110 (TX11 55).1 (TX11 55).2.1 (TX11 55).2.2.1 ∈ lw_g := am_mem 1207 (by decide +kernel) (by decide +kernel)
theorem fi_X11_113 : Cond.fieldLink RX11 113 (TX11 56).1 (TX11 56).2.1 (TX11 56).2.2.1 ∈ lw_g := am_mem 1208 (by decide +kernel) (by decide +kernel)
theorem fi_X11_116 : Cond.fieldLink RX11 116 (TX11 57).1 (TX11 57).2.1 (TX11 57).2.2.1 ∈ lw_g := am_mem 1209 (by decide +kernel) (by decide +kernel)
theorem fi_X11_119 : Cond.fieldLink RX11 119 (TX11 58).1 (TX11 58).2.1 (TX11 58).2.2.1 ∈ lw_g := am_mem 1210 (by decide +kernel) (by decide +kernel)
theorem fi_X11_122 : Cond.fieldLink RX11 122 (TX11 59).1 (TX11 59).2.1 (TX11 59).2.2.1 ∈ lw_g := am_mem 1211 (by decide +kernel) (by decide +kernel)
theorem mii_X11 : Cond.instanceMethod yX11_init ∈ lw_g := am_mem 1149 (by decide +kernel) (by decide +kernel)
set_option maxRecDepth 100000 in
theorem mfi_X11 : am_mf mX11_init 0 := ⟨am_mem 1150 rfl (by decide +kernel), am_mem 120 (by decide +kernel) (by decide +kernel), (by decide +kernel), by decide, (by decide +kernel)⟩
def zX11 (k : Nat) : List am_E := .inr (11, [.ref (k + 1), .ref (k + 2), .ref (k + 3), .ref (k + 4), .ref (k + 5), .ref (k + 6), .int 0, .int 0, .ref (k + 7), .int 0, .int 0, .int 0, .int 0, .int 0, .int 0, .int 0, .int 0, .int 0, .int 0, .ref (k + 8), .ref (k + 9), .ref (k + 10), .ref (k + 11), .ref (k + 12), .ref (k + 13), .ref (k + 14), .ref (k + 15), .ref (k + 16), .ref (k + 17), .ref (k + 18), .ref (k + 19), .ref (k + 20), .ref (k + 21), .ref (k + 22), .ref (k + 23), .ref (k + 24), .ref (k + 25), .int 0, .int 0, .int 0, .int 0, .int 0, .int 0, .ref (k + 26), .ref (k + 27), .ref (k + 28), .ref (k + 29), .ref (k + 30), .ref (k + 31), .int 0, .int 0, .int 0, .int 0, .ref (k + 32), .ref (k + 33), .ref (k + 34), .ref (k + 35), .ref (k + 36), .ref (k + 37), .ref (k + 38), .int 0, .int 0]) :: [.inl (.int, 74, upd (fun _ => 0) 73 1), zi 74, zi 74, zi 12, zi 24, zi 24, zb 260, zi 260, zi 260, zi 16, zi 16, zi 16, zi 16, zi 260, zi 16, zi 16, zi 16, zi 16, zi 260, zi 10, zi 12, zi 12, zi 24, zi 24, zi 24, zi 1024, zi 1024, zi 64, zi 2, zi 2, zi 2, zi 256, zi 256, zi 20, zi 256, zi 256, zi 16, zi 16]
set_option maxRecDepth 100000 in
set_option maxHeartbeats 4000000 in
theorem c_X11 {pre : List am_E} {k : Nat} (hk : pre.length = k) : Sc mX11_init 1 [.ref k] (pre ++ [.inr (11, [.null, .null, .null, .null, .null, .null, .int 0, .int 0, .null, .int 0, .int 0, .int 0, .int 0, .int 0, .int 0, .int 0, .int 0, .int 0, .int 0, .null, .null, .null, .null, .null, .null, .null, .null, .null, .null, .null, .null, .null, .null, .null, .null, .null, .null, .int 0, .int 0, .int 0, .int 0, .int 0, .int 0, .null, .null, .null, .null, .null, .null, .int 0, .int 0, .int 0, .int 0, .null, .null, .null, .null, .null, .null, .null, .int 0, .int 0])]) (pre ++ zX11 k) 38 5010 := by
  refine Sc_of mfi_X11 rfl rfl (Nat.le_of_ble_eq_true rfl) (L := [.ref k]) rfl ?_
  show Cu mX11_init 1 0 [.ref k] [] (pre ++ .inr (11, [.null, .null, .null, .null, .null, .null, .int 0, .int 0, .null, .int 0, .int 0, .int 0, .int 0, .int 0, .int 0, .int 0, .int 0, .int 0, .int 0, .null, .null, .null, .null, .null, .null, .null, .null, .null, .null, .null, .null, .null, .null, .null, .null, .null, .null, .int 0, .int 0, .int 0, .int 0, .int 0, .int 0, .null, .null, .null, .null, .null, .null, .int 0, .int 0, .int 0, .int 0, .null, .null, .null, .null, .null, .null, .null, .int 0, .int 0]) :: []) 38 5010 _
  refine cu_aload dX11_init_0 rfl ?_
  refine cu_obj (by omega) ol_X11 ob_in ob_co dX11_init_1 ?_
  refine cu_aload dX11_init_4 rfl ?_
  refine cu_bipush (v := 74) dX11_init_5 (by decide) ?_
  refine cp_newa (at0 := .int) (ty := .int) (app2 := [zi 74]) (a := (k + 1)) (N := 74) (nc := 37) (ns := 4936) hk rfl (by simp) aq_int (by decide) (by decide) (by decide) rfl rfl dX11_init_7 ?_
  refine cp_putF (fs2 := [.ref (k + 1), .null, .null, .null, .null, .null, .int 0, .int 0, .null, .int 0, .int 0, .int 0, .int 0, .int 0, .int 0, .int 0, .int 0, .int 0, .int 0, .null, .null, .null, .null, .null, .null, .null, .null, .null, .null, .null, .null, .null, .null, .null, .null, .null, .null, .int 0, .int 0, .int 0, .int 0, .int 0, .int 0, .null, .null, .null, .null, .null, .null, .int 0, .int 0, .int 0, .int 0, .null, .null, .null, .null, .null, .null, .null, .int 0, .int 0]) hk cl_11 (k := 0) (by decide) fi_X11_7 rfl rfl rfl (fun _ => rfl) (fun _ => rfl) (Nat.le_of_ble_eq_true rfl) rfl dX11_init_9 ?_
  refine cu_aload dX11_init_12 rfl ?_
  refine cu_bipush (v := 74) dX11_init_13 (by decide) ?_
  refine cp_newa (at0 := .int) (ty := .int) (app2 := [zi 74, zi 74]) (a := (k + 2)) (N := 74) (nc := 36) (ns := 4862) hk rfl (by simp) aq_int (by decide) (by decide) (by decide) rfl rfl dX11_init_15 ?_
  refine cp_putF (fs2 := [.ref (k + 1), .ref (k + 2), .null, .null, .null, .null, .int 0, .int 0, .null, .int 0, .int 0, .int 0, .int 0, .int 0, .int 0, .int 0, .int 0, .int 0, .int 0, .null, .null, .null, .null, .null, .null, .null, .null, .null, .null, .null, .null, .null, .null, .null, .null, .null, .null, .int 0, .int 0, .int 0, .int 0, .int 0, .int 0, .null, .null, .null, .null, .null, .null, .int 0, .int 0, .int 0, .int 0, .null, .null, .null, .null, .null, .null, .null, .int 0, .int 0]) hk cl_11 (k := 1) (by decide) fi_X11_13 rfl rfl rfl (fun _ => rfl) (fun _ => rfl) (Nat.le_of_ble_eq_true rfl) rfl dX11_init_17 ?_
  refine cu_aload dX11_init_20 rfl ?_
  refine cu_bipush (v := 74) dX11_init_21 (by decide) ?_
  refine cp_newa (at0 := .int) (ty := .int) (app2 := [zi 74, zi 74, zi 74]) (a := (k + 3)) (N := 74) (nc := 35) (ns := 4788) hk rfl (by simp) aq_int (by decide) (by decide) (by decide) rfl rfl dX11_init_23 ?_
  refine cp_putF (fs2 := [.ref (k + 1), .ref (k + 2), .ref (k + 3), .null, .null, .null, .int 0, .int 0, .null, .int 0, .int 0, .int 0, .int 0, .int 0, .int 0, .int 0, .int 0, .int 0, .int 0, .null, .null, .null, .null, .null, .null, .null, .null, .null, .null, .null, .null, .null, .null, .null, .null, .null, .null, .int 0, .int 0, .int 0, .int 0, .int 0, .int 0, .null, .null, .null, .null, .null, .null, .int 0, .int 0, .int 0, .int 0, .null, .null, .null, .null, .null, .null, .null, .int 0, .int 0]) hk cl_11 (k := 2) (by decide) fi_X11_16 rfl rfl rfl (fun _ => rfl) (fun _ => rfl) (Nat.le_of_ble_eq_true rfl) rfl dX11_init_25 ?_
  refine cu_aload dX11_init_28 rfl ?_
  refine cu_bipush (v := 12) dX11_init_29 (by decide) ?_
  refine cp_newa (at0 := .int) (ty := .int) (app2 := [zi 74, zi 74, zi 74, zi 12]) (a := (k + 4)) (N := 12) (nc := 34) (ns := 4776) hk rfl (by simp) aq_int (by decide) (by decide) (by decide) rfl rfl dX11_init_31 ?_
  refine cp_putF (fs2 := [.ref (k + 1), .ref (k + 2), .ref (k + 3), .ref (k + 4), .null, .null, .int 0, .int 0, .null, .int 0, .int 0, .int 0, .int 0, .int 0, .int 0, .int 0, .int 0, .int 0, .int 0, .null, .null, .null, .null, .null, .null, .null, .null, .null, .null, .null, .null, .null, .null, .null, .null, .null, .null, .int 0, .int 0, .int 0, .int 0, .int 0, .int 0, .null, .null, .null, .null, .null, .null, .int 0, .int 0, .int 0, .int 0, .null, .null, .null, .null, .null, .null, .null, .int 0, .int 0]) hk cl_11 (k := 3) (by decide) fi_X11_19 rfl rfl rfl (fun _ => rfl) (fun _ => rfl) (Nat.le_of_ble_eq_true rfl) rfl dX11_init_33 ?_
  refine cu_aload dX11_init_36 rfl ?_
  refine cu_bipush (v := 24) dX11_init_37 (by decide) ?_
  refine cp_newa (at0 := .int) (ty := .int) (app2 := [zi 74, zi 74, zi 74, zi 12, zi 24]) (a := (k + 5)) (N := 24) (nc := 33) (ns := 4752) hk rfl (by simp) aq_int (by decide) (by decide) (by decide) rfl rfl dX11_init_39 ?_
  refine cp_putF (fs2 := [.ref (k + 1), .ref (k + 2), .ref (k + 3), .ref (k + 4), .ref (k + 5), .null, .int 0, .int 0, .null, .int 0, .int 0, .int 0, .int 0, .int 0, .int 0, .int 0, .int 0, .int 0, .int 0, .null, .null, .null, .null, .null, .null, .null, .null, .null, .null, .null, .null, .null, .null, .null, .null, .null, .null, .int 0, .int 0, .int 0, .int 0, .int 0, .int 0, .null, .null, .null, .null, .null, .null, .int 0, .int 0, .int 0, .int 0, .null, .null, .null, .null, .null, .null, .null, .int 0, .int 0]) hk cl_11 (k := 4) (by decide) fi_X11_22 rfl rfl rfl (fun _ => rfl) (fun _ => rfl) (Nat.le_of_ble_eq_true rfl) rfl dX11_init_41 ?_
  refine cu_aload dX11_init_44 rfl ?_
  refine cu_bipush (v := 24) dX11_init_45 (by decide) ?_
  refine cp_newa (at0 := .int) (ty := .int) (app2 := [zi 74, zi 74, zi 74, zi 12, zi 24, zi 24]) (a := (k + 6)) (N := 24) (nc := 32) (ns := 4728) hk rfl (by simp) aq_int (by decide) (by decide) (by decide) rfl rfl dX11_init_47 ?_
  refine cp_putF (fs2 := [.ref (k + 1), .ref (k + 2), .ref (k + 3), .ref (k + 4), .ref (k + 5), .ref (k + 6), .int 0, .int 0, .null, .int 0, .int 0, .int 0, .int 0, .int 0, .int 0, .int 0, .int 0, .int 0, .int 0, .null, .null, .null, .null, .null, .null, .null, .null, .null, .null, .null, .null, .null, .null, .null, .null, .null, .null, .int 0, .int 0, .int 0, .int 0, .int 0, .int 0, .null, .null, .null, .null, .null, .null, .int 0, .int 0, .int 0, .int 0, .null, .null, .null, .null, .null, .null, .null, .int 0, .int 0]) hk cl_11 (k := 5) (by decide) fi_X11_25 rfl rfl rfl (fun _ => rfl) (fun _ => rfl) (Nat.le_of_ble_eq_true rfl) rfl dX11_init_49 ?_
  refine cu_aload dX11_init_52 rfl ?_
  refine cu_sipush (v := 260) dX11_init_53 (by decide) ?_
  refine cp_newa (at0 := .byte) (ty := .byte) (app2 := [zi 74, zi 74, zi 74, zi 12, zi 24, zi 24, zb 260]) (a := (k + 7)) (N := 260) (nc := 31) (ns := 4468) hk rfl (by simp) aq_byte (by decide) (by decide) (by decide) rfl rfl dX11_init_56 ?_
  refine cp_putF (fs2 := [.ref (k + 1), .ref (k + 2), .ref (k + 3), .ref (k + 4), .ref (k + 5), .ref (k + 6), .int 0, .int 0, .ref (k + 7), .int 0, .int 0, .int 0, .int 0, .int 0, .int 0, .int 0, .int 0, .int 0, .int 0, .null, .null, .null, .null, .null, .null, .null, .null, .null, .null, .null, .null, .null, .null, .null, .null, .null, .null, .int 0, .int 0, .int 0, .int 0, .int 0, .int 0, .null, .null, .null, .null, .null, .null, .int 0, .int 0, .int 0, .int 0, .null, .null, .null, .null, .null, .null, .null, .int 0, .int 0]) hk cl_11 (k := 8) (by decide) fi_X11_28 rfl rfl rfl (fun _ => rfl) (fun _ => rfl) (Nat.le_of_ble_eq_true rfl) rfl dX11_init_58 ?_
  refine cu_aload dX11_init_61 rfl ?_
  refine cu_sipush (v := 260) dX11_init_62 (by decide) ?_
  refine cp_newa (at0 := .int) (ty := .int) (app2 := [zi 74, zi 74, zi 74, zi 12, zi 24, zi 24, zb 260, zi 260]) (a := (k + 8)) (N := 260) (nc := 30) (ns := 4208) hk rfl (by simp) aq_int (by decide) (by decide) (by decide) rfl rfl dX11_init_65 ?_
  refine cp_putF (fs2 := [.ref (k + 1), .ref (k + 2), .ref (k + 3), .ref (k + 4), .ref (k + 5), .ref (k + 6), .int 0, .int 0, .ref (k + 7), .int 0, .int 0, .int 0, .int 0, .int 0, .int 0, .int 0, .int 0, .int 0, .int 0, .ref (k + 8), .null, .null, .null, .null, .null, .null, .null, .null, .null, .null, .null, .null, .null, .null, .null, .null, .null, .int 0, .int 0, .int 0, .int 0, .int 0, .int 0, .null, .null, .null, .null, .null, .null, .int 0, .int 0, .int 0, .int 0, .null, .null, .null, .null, .null, .null, .null, .int 0, .int 0]) hk cl_11 (k := 19) (by decide) fi_X11_32 rfl rfl rfl (fun _ => rfl) (fun _ => rfl) (Nat.le_of_ble_eq_true rfl) rfl dX11_init_67 ?_
  refine cu_aload dX11_init_70 rfl ?_
  refine cu_sipush (v := 260) dX11_init_71 (by decide) ?_
  refine cp_newa (at0 := .int) (ty := .int) (app2 := [zi 74, zi 74, zi 74, zi 12, zi 24, zi 24, zb 260, zi 260, zi 260]) (a := (k + 9)) (N := 260) (nc := 29) (ns := 3948) hk rfl (by simp) aq_int (by decide) (by decide) (by decide) rfl rfl dX11_init_74 ?_
  refine cp_putF (fs2 := [.ref (k + 1), .ref (k + 2), .ref (k + 3), .ref (k + 4), .ref (k + 5), .ref (k + 6), .int 0, .int 0, .ref (k + 7), .int 0, .int 0, .int 0, .int 0, .int 0, .int 0, .int 0, .int 0, .int 0, .int 0, .ref (k + 8), .ref (k + 9), .null, .null, .null, .null, .null, .null, .null, .null, .null, .null, .null, .null, .null, .null, .null, .null, .int 0, .int 0, .int 0, .int 0, .int 0, .int 0, .null, .null, .null, .null, .null, .null, .int 0, .int 0, .int 0, .int 0, .null, .null, .null, .null, .null, .null, .null, .int 0, .int 0]) hk cl_11 (k := 20) (by decide) fi_X11_35 rfl rfl rfl (fun _ => rfl) (fun _ => rfl) (Nat.le_of_ble_eq_true rfl) rfl dX11_init_76 ?_
  refine cu_aload dX11_init_79 rfl ?_
  refine cu_bipush (v := 16) dX11_init_80 (by decide) ?_
  refine cp_newa (at0 := .int) (ty := .int) (app2 := [zi 74, zi 74, zi 74, zi 12, zi 24, zi 24, zb 260, zi 260, zi 260, zi 16]) (a := (k + 10)) (N := 16) (nc := 28) (ns := 3932) hk rfl (by simp) aq_int (by decide) (by decide) (by decide) rfl rfl dX11_init_82 ?_
  refine cp_putF (fs2 := [.ref (k + 1), .ref (k + 2), .ref (k + 3), .ref (k + 4), .ref (k + 5), .ref (k + 6), .int 0, .int 0, .ref (k + 7), .int 0, .int 0, .int 0, .int 0, .int 0, .int 0, .int 0, .int 0, .int 0, .int 0, .ref (k + 8), .ref (k + 9), .ref (k + 10), .null, .null, .null, .null, .null, .null, .null, .null, .null, .null, .null, .null, .null, .null, .null, .int 0, .int 0, .int 0, .int 0, .int 0, .int 0, .null, .null, .null, .null, .null, .null, .int 0, .int 0, .int 0, .int 0, .null, .null, .null, .null, .null, .null, .null, .int 0, .int 0]) hk cl_11 (k := 21) (by decide) fi_X11_38 rfl rfl rfl (fun _ => rfl) (fun _ => rfl) (Nat.le_of_ble_eq_true rfl) rfl dX11_init_84 ?_
  refine cu_aload dX11_init_87 rfl ?_
  refine cu_bipush (v := 16) dX11_init_88 (by decide) ?_
  refine cp_newa (at0 := .int) (ty := .int) (app2 := [zi 74, zi 74, zi 74, zi 12, zi 24, zi 24, zb 260, zi 260, zi 260, zi 16, zi 16]) (a := (k + 11)) (N := 16) (nc := 27) (ns := 3916) hk rfl (by simp) aq_int (by decide) (by decide) (by decide) rfl rfl dX11_init_90 ?_
  refine cp_putF (fs2 := [.ref (k + 1), .ref (k + 2), .ref (k + 3), .ref (k + 4), .ref (k + 5), .ref (k + 6), .int 0, .int 0, .ref (k + 7), .int 0, .int 0, .int 0, .int 0, .int 0, .int 0, .int 0, .int 0, .int 0, .int 0, .ref (k + 8), .ref (k + 9), .ref (k + 10), .ref (k + 11), .null, .null, .null, .null, .null, .null, .null, .null, .null, .null, .null, .null, .null, .null, .int 0, .int 0, .int 0, .int 0, .int 0, .int 0, .null, .null, .null, .null, .null, .null, .int 0, .int 0, .int 0, .int 0, .null, .null, .null, .null, .null, .null, .null, .int 0, .int 0]) hk cl_11 (k := 22) (by decide) fi_X11_41 rfl rfl rfl (fun _ => rfl) (fun _ => rfl) (Nat.le_of_ble_eq_true rfl) rfl dX11_init_92 ?_
  refine cu_aload dX11_init_95 rfl ?_
  refine cu_bipush (v := 16) dX11_init_96 (by decide) ?_
  refine cp_newa (at0 := .int) (ty := .int) (app2 := [zi 74, zi 74, zi 74, zi 12, zi 24, zi 24, zb 260, zi 260, zi 260, zi 16, zi 16, zi 16]) (a := (k + 12)) (N := 16) (nc := 26) (ns := 3900) hk rfl (by simp) aq_int (by decide) (by decide) (by decide) rfl rfl dX11_init_98 ?_
  refine cp_putF (fs2 := [.ref (k + 1), .ref (k + 2), .ref (k + 3), .ref (k + 4), .ref (k + 5), .ref (k + 6), .int 0, .int 0, .ref (k + 7), .int 0, .int 0, .int 0, .int 0, .int 0, .int 0, .int 0, .int 0, .int 0, .int 0, .ref (k + 8), .ref (k + 9), .ref (k + 10), .ref (k + 11), .ref (k + 12), .null, .null, .null, .null, .null, .null, .null, .null, .null, .null, .null, .null, .null, .int 0, .int 0, .int 0, .int 0, .int 0, .int 0, .null, .null, .null, .null, .null, .null, .int 0, .int 0, .int 0, .int 0, .null, .null, .null, .null, .null, .null, .null, .int 0, .int 0]) hk cl_11 (k := 23) (by decide) fi_X11_44 rfl rfl rfl (fun _ => rfl) (fun _ => rfl) (Nat.le_of_ble_eq_true rfl) rfl dX11_init_100 ?_
  refine cu_aload dX11_init_103 rfl ?_
  refine cu_bipush (v := 16) dX11_init_104 (by decide) ?_
  refine cp_newa (at0 := .int) (ty := .int) (app2 := [zi 74, zi 74, zi 74, zi 12, zi 24, zi 24, zb 260, zi 260, zi 260, zi 16, zi 16, zi 16, zi 16]) (a := (k + 13)) (N := 16) (nc := 25) (ns := 3884) hk rfl (by simp) aq_int (by decide) (by decide) (by decide) rfl rfl dX11_init_106 ?_
  refine cp_putF (fs2 := [.ref (k + 1), .ref (k + 2), .ref (k + 3), .ref (k + 4), .ref (k + 5), .ref (k + 6), .int 0, .int 0, .ref (k + 7), .int 0, .int 0, .int 0, .int 0, .int 0, .int 0, .int 0, .int 0, .int 0, .int 0, .ref (k + 8), .ref (k + 9), .ref (k + 10), .ref (k + 11), .ref (k + 12), .ref (k + 13), .null, .null, .null, .null, .null, .null, .null, .null, .null, .null, .null, .null, .int 0, .int 0, .int 0, .int 0, .int 0, .int 0, .null, .null, .null, .null, .null, .null, .int 0, .int 0, .int 0, .int 0, .null, .null, .null, .null, .null, .null, .null, .int 0, .int 0]) hk cl_11 (k := 24) (by decide) fi_X11_47 rfl rfl rfl (fun _ => rfl) (fun _ => rfl) (Nat.le_of_ble_eq_true rfl) rfl dX11_init_108 ?_
  refine cu_aload dX11_init_111 rfl ?_
  refine cu_sipush (v := 260) dX11_init_112 (by decide) ?_
  refine cp_newa (at0 := .int) (ty := .int) (app2 := [zi 74, zi 74, zi 74, zi 12, zi 24, zi 24, zb 260, zi 260, zi 260, zi 16, zi 16, zi 16, zi 16, zi 260]) (a := (k + 14)) (N := 260) (nc := 24) (ns := 3624) hk rfl (by simp) aq_int (by decide) (by decide) (by decide) rfl rfl dX11_init_115 ?_
  refine cp_putF (fs2 := [.ref (k + 1), .ref (k + 2), .ref (k + 3), .ref (k + 4), .ref (k + 5), .ref (k + 6), .int 0, .int 0, .ref (k + 7), .int 0, .int 0, .int 0, .int 0, .int 0, .int 0, .int 0, .int 0, .int 0, .int 0, .ref (k + 8), .ref (k + 9), .ref (k + 10), .ref (k + 11), .ref (k + 12), .ref (k + 13), .ref (k + 14), .null, .null, .null, .null, .null, .null, .null, .null, .null, .null, .null, .int 0, .int 0, .int 0, .int 0, .int 0, .int 0, .null, .null, .null, .null, .null, .null, .int 0, .int 0, .int 0, .int 0, .null, .null, .null, .null, .null, .null, .null, .int 0, .int 0]) hk cl_11 (k := 25) (by decide) fi_X11_50 rfl rfl rfl (fun _ => rfl) (fun _ => rfl) (Nat.le_of_ble_eq_true rfl) rfl dX11_init_117 ?_
  refine cu_aload dX11_init_120 rfl ?_
  refine cu_bipush (v := 16) dX11_init_121 (by decide) ?_
  refine cp_newa (at0 := .int) (ty := .int) (app2 := [zi 74, zi 74, zi 74, zi 12, zi 24, zi 24, zb 260, zi 260, zi 260, zi 16, zi 16, zi 16, zi 16, zi 260, zi 16]) (a := (k + 15)) (N := 16) (nc := 23) (ns := 3608) hk rfl (by simp) aq_int (by decide) (by decide) (by decide) rfl rfl dX11_init_123 ?_
  refine cp_putF (fs2 := [.ref (k + 1), .ref (k + 2), .ref (k + 3), .ref (k + 4), .ref (k + 5), .ref (k + 6), .int 0, .int 0, .ref (k + 7), .int 0, .int 0, .int 0, .int 0, .int 0, .int 0, .int 0, .int 0, .int 0, .int 0, .ref (k + 8), .ref (k + 9), .ref (k + 10), .ref (k + 11), .ref (k + 12), .ref (k + 13), .ref (k + 14), .ref (k + 15), .null, .null, .null, .null, .null, .null, .null, .null, .null, .null, .int 0, .int 0, .int 0, .int 0, .int 0, .int 0, .null, .null, .null, .null, .null, .null, .int 0, .int 0, .int 0, .int 0, .null, .null, .null, .null, .null, .null, .null, .int 0, .int 0]) hk cl_11 (k := 26) (by decide) fi_X11_53 rfl rfl rfl (fun _ => rfl) (fun _ => rfl) (Nat.le_of_ble_eq_true rfl) rfl dX11_init_125 ?_
  refine cu_aload dX11_init_128 rfl ?_
  refine cu_bipush (v := 16) dX11_init_129 (by decide) ?_
  refine cp_newa (at0 := .int) (ty := .int) (app2 := [zi 74, zi 74, zi 74, zi 12, zi 24, zi 24, zb 260, zi 260, zi 260, zi 16, zi 16, zi 16, zi 16, zi 260, zi 16, zi 16]) (a := (k + 16)) (N := 16) (nc := 22) (ns := 3592) hk rfl (by simp) aq_int (by decide) (by decide) (by decide) rfl rfl dX11_init_131 ?_
  refine cp_putF (fs2 := [.ref (k + 1), .ref (k + 2), .ref (k + 3), .ref (k + 4), .ref (k + 5), .ref (k + 6), .int 0, .int 0, .ref (k + 7), .int 0, .int 0, .int 0, .int 0, .int 0, .int 0, .int 0, .int 0, .int 0, .int 0, .ref (k + 8), .ref (k + 9), .ref (k + 10), .ref (k + 11), .ref (k + 12), .ref (k + 13), .ref (k + 14), .ref (k + 15), .ref (k + 16), .null, .null, .null, .null, .null, .null, .null, .null, .null, .int 0, .int 0, .int 0, .int 0, .int 0, .int 0, .null, .null, .null, .null, .null, .null, .int 0, .int 0, .int 0, .int 0, .null, .null, .null, .null, .null, .null, .null, .int 0, .int 0]) hk cl_11 (k := 27) (by decide) fi_X11_56 rfl rfl rfl (fun _ => rfl) (fun _ => rfl) (Nat.le_of_ble_eq_true rfl) rfl dX11_init_133 ?_
  refine cu_aload dX11_init_136 rfl ?_
  refine cu_bipush (v := 16) dX11_init_137 (by decide) ?_
  refine cp_newa (at0 := .int) (ty := .int) (app2 := [zi 74, zi 74, zi 74, zi 12, zi 24, zi 24, zb 260, zi 260, zi 260, zi 16, zi 16, zi 16, zi 16, zi 260, zi 16, zi 16, zi 16]) (a := (k + 17)) (N := 16) (nc := 21) (ns := 3576) hk rfl (by simp) aq_int (by decide) (by decide) (by decide) rfl rfl dX11_init_139 ?_
  refine cp_putF (fs2 := [.ref (k + 1), .ref (k + 2), .ref (k + 3), .ref (k + 4), .ref (k + 5), .ref (k + 6), .int 0, .int 0, .ref (k + 7), .int 0, .int 0, .int 0, .int 0, .int 0, .int 0, .int 0, .int 0, .int 0, .int 0, .ref (k + 8), .ref (k + 9), .ref (k + 10), .ref (k + 11), .ref (k + 12), .ref (k + 13), .ref (k + 14), .ref (k + 15), .ref (k + 16), .ref (k + 17), .null, .null, .null, .null, .null, .null, .null, .null, .int 0, .int 0, .int 0, .int 0, .int 0, .int 0, .null, .null, .null, .null, .null, .null, .int 0, .int 0, .int 0, .int 0, .null, .null, .null, .null, .null, .null, .null, .int 0, .int 0]) hk cl_11 (k := 28) (by decide) fi_X11_59 rfl rfl rfl (fun _ => rfl) (fun _ => rfl) (Nat.le_of_ble_eq_true rfl) rfl dX11_init_141 ?_
  refine cu_aload dX11_init_144 rfl ?_
  refine cu_bipush (v := 16) dX11_init_145 (by decide) ?_
  refine cp_newa (at0 := .int) (ty := .int) (app2 := [zi 74, zi 74, zi 74, zi 12, zi 24, zi 24, zb 260, zi 260, zi 260, zi 16, zi 16, zi 16, zi 16, zi 260, zi 16, zi 16, zi 16, zi 16]) (a := (k + 18)) (N := 16) (nc := 20) (ns := 3560) hk rfl (by simp) aq_int (by decide) (by decide) (by decide) rfl rfl dX11_init_147 ?_
  refine cp_putF (fs2 := [.ref (k + 1), .ref (k + 2), .ref (k + 3), .ref (k + 4), .ref (k + 5), .ref (k + 6), .int 0, .int 0, .ref (k + 7), .int 0, .int 0, .int 0, .int 0, .int 0, .int 0, .int 0, .int 0, .int 0, .int 0, .ref (k + 8), .ref (k + 9), .ref (k + 10), .ref (k + 11), .ref (k + 12), .ref (k + 13), .ref (k + 14), .ref (k + 15), .ref (k + 16), .ref (k + 17), .ref (k + 18), .null, .null, .null, .null, .null, .null, .null, .int 0, .int 0, .int 0, .int 0, .int 0, .int 0, .null, .null, .null, .null, .null, .null, .int 0, .int 0, .int 0, .int 0, .null, .null, .null, .null, .null, .null, .null, .int 0, .int 0]) hk cl_11 (k := 29) (by decide) fi_X11_62 rfl rfl rfl (fun _ => rfl) (fun _ => rfl) (Nat.le_of_ble_eq_true rfl) rfl dX11_init_149 ?_
  refine cu_aload dX11_init_152 rfl ?_
  refine cu_sipush (v := 260) dX11_init_153 (by decide) ?_
  refine cp_newa (at0 := .int) (ty := .int) (app2 := [zi 74, zi 74, zi 74, zi 12, zi 24, zi 24, zb 260, zi 260, zi 260, zi 16, zi 16, zi 16, zi 16, zi 260, zi 16, zi 16, zi 16, zi 16, zi 260]) (a := (k + 19)) (N := 260) (nc := 19) (ns := 3300) hk rfl (by simp) aq_int (by decide) (by decide) (by decide) rfl rfl dX11_init_156 ?_
  refine cp_putF (fs2 := [.ref (k + 1), .ref (k + 2), .ref (k + 3), .ref (k + 4), .ref (k + 5), .ref (k + 6), .int 0, .int 0, .ref (k + 7), .int 0, .int 0, .int 0, .int 0, .int 0, .int 0, .int 0, .int 0, .int 0, .int 0, .ref (k + 8), .ref (k + 9), .ref (k + 10), .ref (k + 11), .ref (k + 12), .ref (k + 13), .ref (k + 14), .ref (k + 15), .ref (k + 16), .ref (k + 17), .ref (k + 18), .ref (k + 19), .null, .null, .null, .null, .null, .null, .int 0, .int 0, .int 0, .int 0, .int 0, .int 0, .null, .null, .null, .null, .null, .null, .int 0, .int 0, .int 0, .int 0, .null, .null, .null, .null, .null, .null, .null, .int 0, .int 0]) hk cl_11 (k := 30) (by decide) fi_X11_65 rfl rfl rfl (fun _ => rfl) (fun _ => rfl) (Nat.le_of_ble_eq_true rfl) rfl dX11_init_158 ?_
  refine cu_aload dX11_init_161 rfl ?_
  refine cu_bipush (v := 10) dX11_init_162 (by decide) ?_
  refine cp_newa (at0 := .int) (ty := .int) (app2 := [zi 74, zi 74, zi 74, zi 12, zi 24, zi 24, zb 260, zi 260, zi 260, zi 16, zi 16, zi 16, zi 16, zi 260, zi 16, zi 16, zi 16, zi 16, zi 260, zi 10]) (a := (k + 20)) (N := 10) (nc := 18) (ns := 3290) hk rfl (by simp) aq_int (by decide) (by decide) (by decide) rfl rfl dX11_init_164 ?_
  refine cp_putF (fs2 := [.ref (k + 1), .ref (k + 2), .ref (k + 3), .ref (k + 4), .ref (k + 5), .ref (k + 6), .int 0, .int 0, .ref (k + 7), .int 0, .int 0, .int 0, .int 0, .int 0, .int 0, .int 0, .int 0, .int 0, .int 0, .ref (k + 8), .ref (k + 9), .ref (k + 10), .ref (k + 11), .ref (k + 12), .ref (k + 13), .ref (k + 14), .ref (k + 15), .ref (k + 16), .ref (k + 17), .ref (k + 18), .ref (k + 19), .ref (k + 20), .null, .null, .null, .null, .null, .int 0, .int 0, .int 0, .int 0, .int 0, .int 0, .null, .null, .null, .null, .null, .null, .int 0, .int 0, .int 0, .int 0, .null, .null, .null, .null, .null, .null, .null, .int 0, .int 0]) hk cl_11 (k := 31) (by decide) fi_X11_68 rfl rfl rfl (fun _ => rfl) (fun _ => rfl) (Nat.le_of_ble_eq_true rfl) rfl dX11_init_166 ?_
  refine cu_aload dX11_init_169 rfl ?_
  refine cu_bipush (v := 12) dX11_init_170 (by decide) ?_
  refine cp_newa (at0 := .int) (ty := .int) (app2 := [zi 74, zi 74, zi 74, zi 12, zi 24, zi 24, zb 260, zi 260, zi 260, zi 16, zi 16, zi 16, zi 16, zi 260, zi 16, zi 16, zi 16, zi 16, zi 260, zi 10, zi 12]) (a := (k + 21)) (N := 12) (nc := 17) (ns := 3278) hk rfl (by simp) aq_int (by decide) (by decide) (by decide) rfl rfl dX11_init_172 ?_
  refine cp_putF (fs2 := [.ref (k + 1), .ref (k + 2), .ref (k + 3), .ref (k + 4), .ref (k + 5), .ref (k + 6), .int 0, .int 0, .ref (k + 7), .int 0, .int 0, .int 0, .int 0, .int 0, .int 0, .int 0, .int 0, .int 0, .int 0, .ref (k + 8), .ref (k + 9), .ref (k + 10), .ref (k + 11), .ref (k + 12), .ref (k + 13), .ref (k + 14), .ref (k + 15), .ref (k + 16), .ref (k + 17), .ref (k + 18), .ref (k + 19), .ref (k + 20), .ref (k + 21), .null, .null, .null, .null, .int 0, .int 0, .int 0, .int 0, .int 0, .int 0, .null, .null, .null, .null, .null, .null, .int 0, .int 0, .int 0, .int 0, .null, .null, .null, .null, .null, .null, .null, .int 0, .int 0]) hk cl_11 (k := 32) (by decide) fi_X11_71 rfl rfl rfl (fun _ => rfl) (fun _ => rfl) (Nat.le_of_ble_eq_true rfl) rfl dX11_init_174 ?_
  refine cu_aload dX11_init_177 rfl ?_
  refine cu_bipush (v := 12) dX11_init_178 (by decide) ?_
  refine cp_newa (at0 := .int) (ty := .int) (app2 := [zi 74, zi 74, zi 74, zi 12, zi 24, zi 24, zb 260, zi 260, zi 260, zi 16, zi 16, zi 16, zi 16, zi 260, zi 16, zi 16, zi 16, zi 16, zi 260, zi 10, zi 12, zi 12]) (a := (k + 22)) (N := 12) (nc := 16) (ns := 3266) hk rfl (by simp) aq_int (by decide) (by decide) (by decide) rfl rfl dX11_init_180 ?_
  refine cp_putF (fs2 := [.ref (k + 1), .ref (k + 2), .ref (k + 3), .ref (k + 4), .ref (k + 5), .ref (k + 6), .int 0, .int 0, .ref (k + 7), .int 0, .int 0, .int 0, .int 0, .int 0, .int 0, .int 0, .int 0, .int 0, .int 0, .ref (k + 8), .ref (k + 9), .ref (k + 10), .ref (k + 11), .ref (k + 12), .ref (k + 13), .ref (k + 14), .ref (k + 15), .ref (k + 16), .ref (k + 17), .ref (k + 18), .ref (k + 19), .ref (k + 20), .ref (k + 21), .ref (k + 22), .null, .null, .null, .int 0, .int 0, .int 0, .int 0, .int 0, .int 0, .null, .null, .null, .null, .null, .null, .int 0, .int 0, .int 0, .int 0, .null, .null, .null, .null, .null, .null, .null, .int 0, .int 0]) hk cl_11 (k := 33) (by decide) fi_X11_74 rfl rfl rfl (fun _ => rfl) (fun _ => rfl) (Nat.le_of_ble_eq_true rfl) rfl dX11_init_182 ?_
  refine cu_aload dX11_init_185 rfl ?_
  refine cu_bipush (v := 24) dX11_init_186 (by decide) ?_
  refine cp_newa (at0 := .int) (ty := .int) (app2 := [zi 74, zi 74, zi 74, zi 12, zi 24, zi 24, zb 260, zi 260, zi 260, zi 16, zi 16, zi 16, zi 16, zi 260, zi 16, zi 16, zi 16, zi 16, zi 260, zi 10, zi 12, zi 12, zi 24]) (a := (k + 23)) (N := 24) (nc := 15) (ns := 3242) hk rfl (by simp) aq_int (by decide) (by decide) (by decide) rfl rfl dX11_init_188 ?_
  refine cp_putF (fs2 := [.ref (k + 1), .ref (k + 2), .ref (k + 3), .ref (k + 4), .ref (k + 5), .ref (k + 6), .int 0, .int 0, .ref (k + 7), .int 0, .int 0, .int 0, .int 0, .int 0, .int 0, .int 0, .int 0, .int 0, .int 0, .ref (k + 8), .ref (k + 9), .ref (k + 10), .ref (k + 11), .ref (k + 12), .ref (k + 13), .ref (k + 14), .ref (k + 15), .ref (k + 16), .ref (k + 17), .ref (k + 18), .ref (k + 19), .ref (k + 20), .ref (k + 21), .ref (k + 22), .ref (k + 23), .null, .null, .int 0, .int 0, .int 0, .int 0, .int 0, .int 0, .null, .null, .null, .null, .null, .null, .int 0, .int 0, .int 0, .int 0, .null, .null, .null, .null, .null, .null, .null, .int 0, .int 0]) hk cl_11 (k := 34) (by decide) fi_X11_77 rfl rfl rfl (fun _ => rfl) (fun _ => rfl) (Nat.le_of_ble_eq_true rfl) rfl dX11_init_190 ?_
  refine cu_aload dX11_init_193 rfl ?_
  refine cu_bipush (v := 24) dX11_init_194 (by decide) ?_
  refine cp_newa (at0 := .int) (ty := .int) (app2 := [zi 74, zi 74, zi 74, zi 12, zi 24, zi 24, zb 260, zi 260, zi 260, zi 16, zi 16, zi 16, zi 16, zi 260, zi 16, zi 16, zi 16, zi 16, zi 260, zi 10, zi 12, zi 12, zi 24, zi 24]) (a := (k + 24)) (N := 24) (nc := 14) (ns := 3218) hk rfl (by simp) aq_int (by decide) (by decide) (by decide) rfl rfl dX11_init_196 ?_
  refine cp_putF (fs2 := [.ref (k + 1), .ref (k + 2), .ref (k + 3), .ref (k + 4), .ref (k + 5), .ref (k + 6), .int 0, .int 0, .ref (k + 7), .int 0, .int 0, .int 0, .int 0, .int 0, .int 0, .int 0, .int 0, .int 0, .int 0, .ref (k + 8), .ref (k + 9), .ref (k + 10), .ref (k + 11), .ref (k + 12), .ref (k + 13), .ref (k + 14), .ref (k + 15), .ref (k + 16), .ref (k + 17), .ref (k + 18), .ref (k + 19), .ref (k + 20), .ref (k + 21), .ref (k + 22), .ref (k + 23), .ref (k + 24), .null, .int 0, .int 0, .int 0, .int 0, .int 0, .int 0, .null, .null, .null, .null, .null, .null, .int 0, .int 0, .int 0, .int 0, .null, .null, .null, .null, .null, .null, .null, .int 0, .int 0]) hk cl_11 (k := 35) (by decide) fi_X11_80 rfl rfl rfl (fun _ => rfl) (fun _ => rfl) (Nat.le_of_ble_eq_true rfl) rfl dX11_init_198 ?_
  refine cu_aload dX11_init_201 rfl ?_
  refine cu_bipush (v := 24) dX11_init_202 (by decide) ?_
  refine cp_newa (at0 := .int) (ty := .int) (app2 := [zi 74, zi 74, zi 74, zi 12, zi 24, zi 24, zb 260, zi 260, zi 260, zi 16, zi 16, zi 16, zi 16, zi 260, zi 16, zi 16, zi 16, zi 16, zi 260, zi 10, zi 12, zi 12, zi 24, zi 24, zi 24]) (a := (k + 25)) (N := 24) (nc := 13) (ns := 3194) hk rfl (by simp) aq_int (by decide) (by decide) (by decide) rfl rfl dX11_init_204 ?_
  refine cp_putF (fs2 := [.ref (k + 1), .ref (k + 2), .ref (k + 3), .ref (k + 4), .ref (k + 5), .ref (k + 6), .int 0, .int 0, .ref (k + 7), .int 0, .int 0, .int 0, .int 0, .int 0, .int 0, .int 0, .int 0, .int 0, .int 0, .ref (k + 8), .ref (k + 9), .ref (k + 10), .ref (k + 11), .ref (k + 12), .ref (k + 13), .ref (k + 14), .ref (k + 15), .ref (k + 16), .ref (k + 17), .ref (k + 18), .ref (k + 19), .ref (k + 20), .ref (k + 21), .ref (k + 22), .ref (k + 23), .ref (k + 24), .ref (k + 25), .int 0, .int 0, .int 0, .int 0, .int 0, .int 0, .null, .null, .null, .null, .null, .null, .int 0, .int 0, .int 0, .int 0, .null, .null, .null, .null, .null, .null, .null, .int 0, .int 0]) hk cl_11 (k := 36) (by decide) fi_X11_83 rfl rfl rfl (fun _ => rfl) (fun _ => rfl) (Nat.le_of_ble_eq_true rfl) rfl dX11_init_206 ?_
  refine cu_aload dX11_init_209 rfl ?_
  refine cu_sipush (v := 1024) dX11_init_210 (by decide) ?_
  refine cp_newa (at0 := .int) (ty := .int) (app2 := [zi 74, zi 74, zi 74, zi 12, zi 24, zi 24, zb 260, zi 260, zi 260, zi 16, zi 16, zi 16, zi 16, zi 260, zi 16, zi 16, zi 16, zi 16, zi 260, zi 10, zi 12, zi 12, zi 24, zi 24, zi 24, zi 1024]) (a := (k + 26)) (N := 1024) (nc := 12) (ns := 2170) hk rfl (by simp) aq_int (by decide) (by decide) (by decide) rfl rfl dX11_init_213 ?_
  refine cp_putF (fs2 := [.ref (k + 1), .ref (k + 2), .ref (k + 3), .ref (k + 4), .ref (k + 5), .ref (k + 6), .int 0, .int 0, .ref (k + 7), .int 0, .int 0, .int 0, .int 0, .int 0, .int 0, .int 0, .int 0, .int 0, .int 0, .ref (k + 8), .ref (k + 9), .ref (k + 10), .ref (k + 11), .ref (k + 12), .ref (k + 13), .ref (k + 14), .ref (k + 15), .ref (k + 16), .ref (k + 17), .ref (k + 18), .ref (k + 19), .ref (k + 20), .ref (k + 21), .ref (k + 22), .ref (k + 23), .ref (k + 24), .ref (k + 25), .int 0, .int 0, .int 0, .int 0, .int 0, .int 0, .ref (k + 26), .null, .null, .null, .null, .null, .int 0, .int 0, .int 0, .int 0, .null, .null, .null, .null, .null, .null, .null, .int 0, .int 0]) hk cl_11 (k := 43) (by decide) fi_X11_86 rfl rfl rfl (fun _ => rfl) (fun _ => rfl) (Nat.le_of_ble_eq_true rfl) rfl dX11_init_215 ?_
  refine cu_aload dX11_init_218 rfl ?_
  refine cu_sipush (v := 1024) dX11_init_219 (by decide) ?_
  refine cp_newa (at0 := .int) (ty := .int) (app2 := [zi 74, zi 74, zi 74, zi 12, zi 24, zi 24, zb 260, zi 260, zi 260, zi 16, zi 16, zi 16, zi 16, zi 260, zi 16, zi 16, zi 16, zi 16, zi 260, zi 10, zi 12, zi 12, zi 24, zi 24, zi 24, zi 1024, zi 1024]) (a := (k + 27)) (N := 1024) (nc := 11) (ns := 1146) hk rfl (by simp) aq_int (by decide) (by decide) (by decide) rfl rfl dX11_init_222 ?_
  refine cp_putF (fs2 := [.ref (k + 1), .ref (k + 2), .ref (k + 3), .ref (k + 4), .ref (k + 5), .ref (k + 6), .int 0, .int 0, .ref (k + 7), .int 0, .int 0, .int 0, .int 0, .int 0, .int 0, .int 0, .int 0, .int 0, .int 0, .ref (k + 8), .ref (k + 9), .ref (k + 10), .ref (k + 11), .ref (k + 12), .ref (k + 13), .ref (k + 14), .ref (k + 15), .ref (k + 16), .ref (k + 17), .ref (k + 18), .ref (k + 19), .ref (k + 20), .ref (k + 21), .ref (k + 22), .ref (k + 23), .ref (k + 24), .ref (k + 25), .int 0, .int 0, .int 0, .int 0, .int 0, .int 0, .ref (k + 26), .ref (k + 27), .null, .null, .null, .null, .int 0, .int 0, .int 0, .int 0, .null, .null, .null, .null, .null, .null, .null, .int 0, .int 0]) hk cl_11 (k := 44) (by decide) fi_X11_89 rfl rfl rfl (fun _ => rfl) (fun _ => rfl) (Nat.le_of_ble_eq_true rfl) rfl dX11_init_224 ?_
  refine cu_aload dX11_init_227 rfl ?_
  refine cu_bipush (v := 64) dX11_init_228 (by decide) ?_
  refine cp_newa (at0 := .int) (ty := .int) (app2 := [zi 74, zi 74, zi 74, zi 12, zi 24, zi 24, zb 260, zi 260, zi 260, zi 16, zi 16, zi 16, zi 16, zi 260, zi 16, zi 16, zi 16, zi 16, zi 260, zi 10, zi 12, zi 12, zi 24, zi 24, zi 24, zi 1024, zi 1024, zi 64]) (a := (k + 28)) (N := 64) (nc := 10) (ns := 1082) hk rfl (by simp) aq_int (by decide) (by decide) (by decide) rfl rfl dX11_init_230 ?_
  refine cp_putF (fs2 := [.ref (k + 1), .ref (k + 2), .ref (k + 3), .ref (k + 4), .ref (k + 5), .ref (k + 6), .int 0, .int 0, .ref (k + 7), .int 0, .int 0, .int 0, .int 0, .int 0, .int 0, .int 0, .int 0, .int 0, .int 0, .ref (k + 8), .ref (k + 9), .ref (k + 10), .ref (k + 11), .ref (k + 12), .ref (k + 13), .ref (k + 14), .ref (k + 15), .ref (k + 16), .ref (k + 17), .ref (k + 18), .ref (k + 19), .ref (k + 20), .ref (k + 21), .ref (k + 22), .ref (k + 23), .ref (k + 24), .ref (k + 25), .int 0, .int 0, .int 0, .int 0, .int 0, .int 0, .ref (k + 26), .ref (k + 27), .ref (k + 28), .null, .null, .null, .int 0, .int 0, .int 0, .int 0, .null, .null, .null, .null, .null, .null, .null, .int 0, .int 0]) hk cl_11 (k := 45) (by decide) fi_X11_92 rfl rfl rfl (fun _ => rfl) (fun _ => rfl) (Nat.le_of_ble_eq_true rfl) rfl dX11_init_232 ?_
  refine cu_aload dX11_init_235 rfl ?_
  refine cu_iconst (v := 2) dX11_init_236 (by decide) ?_
  refine cp_newa (at0 := .int) (ty := .int) (app2 := [zi 74, zi 74, zi 74, zi 12, zi 24, zi 24, zb 260, zi 260, zi 260, zi 16, zi 16, zi 16, zi 16, zi 260, zi 16, zi 16, zi 16, zi 16, zi 260, zi 10, zi 12, zi 12, zi 24, zi 24, zi 24, zi 1024, zi 1024, zi 64, zi 2]) (a := (k + 29)) (N := 2) (nc := 9) (ns := 1080) hk rfl (by simp) aq_int (by decide) (by decide) (by decide) rfl rfl dX11_init_237 ?_
  refine cp_putF (fs2 := [.ref (k + 1), .ref (k + 2), .ref (k + 3), .ref (k + 4), .ref (k + 5), .ref (k + 6), .int 0, .int 0, .ref (k + 7), .int 0, .int 0, .int 0, .int 0, .int 0, .int 0, .int 0, .int 0, .int 0, .int 0, .ref (k + 8), .ref (k + 9), .ref (k + 10), .ref (k + 11), .ref (k + 12), .ref (k + 13), .ref (k + 14), .ref (k + 15), .ref (k + 16), .ref (k + 17), .ref (k + 18), .ref (k + 19), .ref (k + 20), .ref (k + 21), .ref (k + 22), .ref (k + 23), .ref (k + 24), .ref (k + 25), .int 0, .int 0, .int 0, .int 0, .int 0, .int 0, .ref (k + 26), .ref (k + 27), .ref (k + 28), .ref (k + 29), .null, .null, .int 0, .int 0, .int 0, .int 0, .null, .null, .null, .null, .null, .null, .null, .int 0, .int 0]) hk cl_11 (k := 46) (by decide) fi_X11_95 rfl rfl rfl (fun _ => rfl) (fun _ => rfl) (Nat.le_of_ble_eq_true rfl) rfl dX11_init_239 ?_
  refine cu_aload dX11_init_242 rfl ?_
  refine cu_iconst (v := 2) dX11_init_243 (by decide) ?_
  refine cp_newa (at0 := .int) (ty := .int) (app2 := [zi 74, zi 74, zi 74, zi 12, zi 24, zi 24, zb 260, zi 260, zi 260, zi 16, zi 16, zi 16, zi 16, zi 260, zi 16, zi 16, zi 16, zi 16, zi 260, zi 10, zi 12, zi 12, zi 24, zi 24, zi 24, zi 1024, zi 1024, zi 64, zi 2, zi 2]) (a := (k + 30)) (N := 2) (nc := 8) (ns := 1078) hk rfl (by simp) aq_int (by decide) (by decide) (by decide) rfl rfl dX11_init_244 ?_
  refine cp_putF (fs2 := [.ref (k + 1), .ref (k + 2), .ref (k + 3), .ref (k + 4), .ref (k + 5), .ref (k + 6), .int 0, .int 0, .ref (k + 7), .int 0, .int 0, .int 0, .int 0, .int 0, .int 0, .int 0, .int 0, .int 0, .int 0, .ref (k + 8), .ref (k + 9), .ref (k + 10), .ref (k + 11), .ref (k + 12), .ref (k + 13), .ref (k + 14), .ref (k + 15), .ref (k + 16), .ref (k + 17), .ref (k + 18), .ref (k + 19), .ref (k + 20), .ref (k + 21), .ref (k + 22), .ref (k + 23), .ref (k + 24), .ref (k + 25), .int 0, .int 0, .int 0, .int 0, .int 0, .int 0, .ref (k + 26), .ref (k + 27), .ref (k + 28), .ref (k + 29), .ref (k + 30), .null, .int 0, .int 0, .int 0, .int 0, .null, .null, .null, .null, .null, .null, .null, .int 0, .int 0]) hk cl_11 (k := 47) (by decide) fi_X11_98 rfl rfl rfl (fun _ => rfl) (fun _ => rfl) (Nat.le_of_ble_eq_true rfl) rfl dX11_init_246 ?_
  refine cu_aload dX11_init_249 rfl ?_
  refine cu_iconst (v := 2) dX11_init_250 (by decide) ?_
  refine cp_newa (at0 := .int) (ty := .int) (app2 := [zi 74, zi 74, zi 74, zi 12, zi 24, zi 24, zb 260, zi 260, zi 260, zi 16, zi 16, zi 16, zi 16, zi 260, zi 16, zi 16, zi 16, zi 16, zi 260, zi 10, zi 12, zi 12, zi 24, zi 24, zi 24, zi 1024, zi 1024, zi 64, zi 2, zi 2, zi 2]) (a := (k + 31)) (N := 2) (nc := 7) (ns := 1076) hk rfl (by simp) aq_int (by decide) (by decide) (by decide) rfl rfl dX11_init_251 ?_
  refine cp_putF (fs2 := [.ref (k + 1), .ref (k + 2), .ref (k + 3), .ref (k + 4), .ref (k + 5), .ref (k + 6), .int 0, .int 0, .ref (k + 7), .int 0, .int 0, .int 0, .int 0, .int 0, .int 0, .int 0, .int 0, .int 0, .int 0, .ref (k + 8), .ref (k + 9), .ref (k + 10), .ref (k + 11), .ref (k + 12), .ref (k + 13), .ref (k + 14), .ref (k + 15), .ref (k + 16), .ref (k + 17), .ref (k + 18), .ref (k + 19), .ref (k + 20), .ref (k + 21), .ref (k + 22), .ref (k + 23), .ref (k + 24), .ref (k + 25), .int 0, .int 0, .int 0, .int 0, .int 0, .int 0, .ref (k + 26), .ref (k + 27), .ref (k + 28), .ref (k + 29), .ref (k + 30), .ref (k + 31), .int 0, .int 0, .int 0, .int 0, .null, .null, .null, .null, .null, .null, .null, .int 0, .int 0]) hk cl_11 (k := 48) (by decide) fi_X11_101 rfl rfl rfl (fun _ => rfl) (fun _ => rfl) (Nat.le_of_ble_eq_true rfl) rfl dX11_init_253 ?_
  refine cu_aload dX11_init_256 rfl ?_
  refine cu_sipush (v := 256) dX11_init_257 (by decide) ?_
  refine cp_newa (at0 := .int) (ty := .int) (app2 := [zi 74, zi 74, zi 74, zi 12, zi 24, zi 24, zb 260, zi 260, zi 260, zi 16, zi 16, zi 16, zi 16, zi 260, zi 16, zi 16, zi 16, zi 16, zi 260, zi 10, zi 12, zi 12, zi 24, zi 24, zi 24, zi 1024, zi 1024, zi 64, zi 2, zi 2, zi 2, zi 256]) (a := (k + 32)) (N := 256) (nc := 6) (ns := 820) hk rfl (by simp) aq_int (by decide) (by decide) (by decide) rfl rfl dX11_init_260 ?_
  refine cp_putF (fs2 := [.ref (k + 1), .ref (k + 2), .ref (k + 3), .ref (k + 4), .ref (k + 5), .ref (k + 6), .int 0, .int 0, .ref (k + 7), .int 0, .int 0, .int 0, .int 0, .int 0, .int 0, .int 0, .int 0, .int 0, .int 0, .ref (k + 8), .ref (k + 9), .ref (k + 10), .ref (k + 11), .ref (k + 12), .ref (k + 13), .ref (k + 14), .ref (k + 15), .ref (k + 16), .ref (k + 17), .ref (k + 18), .ref (k + 19), .ref (k + 20), .ref (k + 21), .ref (k + 22), .ref (k + 23), .ref (k + 24), .ref (k + 25), .int 0, .int 0, .int 0, .int 0, .int 0, .int 0, .ref (k + 26), .ref (k + 27), .ref (k + 28), .ref (k + 29), .ref (k + 30), .ref (k + 31), .int 0, .int 0, .int 0, .int 0, .ref (k + 32), .null, .null, .null, .null, .null, .null, .int 0, .int 0]) hk cl_11 (k := 53) (by decide) fi_X11_104 rfl rfl rfl (fun _ => rfl) (fun _ => rfl) (Nat.le_of_ble_eq_true rfl) rfl dX11_init_262 ?_
  refine cu_aload dX11_init_265 rfl ?_
  refine cu_sipush (v := 256) dX11_init_266 (by decide) ?_
  refine cp_newa (at0 := .int) (ty := .int) (app2 := [zi 74, zi 74, zi 74, zi 12, zi 24, zi 24, zb 260, zi 260, zi 260, zi 16, zi 16, zi 16, zi 16, zi 260, zi 16, zi 16, zi 16, zi 16, zi 260, zi 10, zi 12, zi 12, zi 24, zi 24, zi 24, zi 1024, zi 1024, zi 64, zi 2, zi 2, zi 2, zi 256, zi 256]) (a := (k + 33)) (N := 256) (nc := 5) (ns := 564) hk rfl (by simp) aq_int (by decide) (by decide) (by decide) rfl rfl dX11_init_269 ?_
  refine cp_putF (fs2 := [.ref (k + 1), .ref (k + 2), .ref (k + 3), .ref (k + 4), .ref (k + 5), .ref (k + 6), .int 0, .int 0, .ref (k + 7), .int 0, .int 0, .int 0, .int 0, .int 0, .int 0, .int 0, .int 0, .int 0, .int 0, .ref (k + 8), .ref (k + 9), .ref (k + 10), .ref (k + 11), .ref (k + 12), .ref (k + 13), .ref (k + 14), .ref (k + 15), .ref (k + 16), .ref (k + 17), .ref (k + 18), .ref (k + 19), .ref (k + 20), .ref (k + 21), .ref (k + 22), .ref (k + 23), .ref (k + 24), .ref (k + 25), .int 0, .int 0, .int 0, .int 0, .int 0, .int 0, .ref (k + 26), .ref (k + 27), .ref (k + 28), .ref (k + 29), .ref (k + 30), .ref (k + 31), .int 0, .int 0, .int 0, .int 0, .ref (k + 32), .ref (k + 33), .null, .null, .null, .null, .null, .int 0, .int 0]) hk cl_11 (k := 54) (by decide) fi_X11_107 rfl rfl rfl (fun _ => rfl) (fun _ => rfl) (Nat.le_of_ble_eq_true rfl) rfl dX11_init_271 ?_
  refine cu_aload dX11_init_274 rfl ?_
  refine cu_bipush (v := 20) dX11_init_275 (by decide) ?_
  refine cp_newa (at0 := .int) (ty := .int) (app2 := [zi 74, zi 74, zi 74, zi 12, zi 24, zi 24, zb 260, zi 260, zi 260, zi 16, zi 16, zi 16, zi 16, zi 260, zi 16, zi 16, zi 16, zi 16, zi 260, zi 10, zi 12, zi 12, zi 24, zi 24, zi 24, zi 1024, zi 1024, zi 64, zi 2, zi 2, zi 2, zi 256, zi 256, zi 20]) (a := (k + 34)) (N := 20) (nc := 4) (ns := 544) hk rfl (by simp) aq_int (by decide) (by decide) (by decide) rfl rfl dX11_init_277 ?_
  refine cp_putF (fs2 := [.ref (k + 1), .ref (k + 2), .ref (k + 3), .ref (k + 4), .ref (k + 5), .ref (k + 6), .int 0, .int 0, .ref (k + 7), .int 0, .int 0, .int 0, .int 0, .int 0, .int 0, .int 0, .int 0, .int 0, .int 0, .ref (k + 8), .ref (k + 9), .ref (k + 10), .ref (k + 11), .ref (k + 12), .ref (k + 13), .ref (k + 14), .ref (k + 15), .ref (k + 16), .ref (k + 17), .ref (k + 18), .ref (k + 19), .ref (k + 20), .ref (k + 21), .ref (k + 22), .ref (k + 23), .ref (k + 24), .ref (k + 25), .int 0, .int 0, .int 0, .int 0, .int 0, .int 0, .ref (k + 26), .ref (k + 27), .ref (k + 28), .ref (k + 29), .ref (k + 30), .ref (k + 31), .int 0, .int 0, .int 0, .int 0, .ref (k + 32), .ref (k + 33), .ref (k + 34), .null, .null, .null, .null, .int 0, .int 0]) hk cl_11 (k := 55) (by decide) fi_X11_110 rfl rfl rfl (fun _ => rfl) (fun _ => rfl) (Nat.le_of_ble_eq_true rfl) rfl dX11_init_279 ?_
  refine cu_aload dX11_init_282 rfl ?_
  refine cu_sipush (v := 256) dX11_init_283 (by decide) ?_
  refine cp_newa (at0 := .int) (ty := .int) (app2 := [zi 74, zi 74, zi 74, zi 12, zi 24, zi 24, zb 260, zi 260, zi 260, zi 16, zi 16, zi 16, zi 16, zi 260, zi 16, zi 16, zi 16, zi 16, zi 260, zi 10, zi 12, zi 12, zi 24, zi 24, zi 24, zi 1024, zi 1024, zi 64, zi 2, zi 2, zi 2, zi 256, zi 256, zi 20, zi 256]) (a := (k + 35)) (N := 256) (nc := 3) (ns := 288) hk rfl (by simp) aq_int (by decide) (by decide) (by decide) rfl rfl dX11_init_286 ?_
  refine cp_putF (fs2 := [.ref (k + 1), .ref (k + 2), .ref (k + 3), .ref (k + 4), .ref (k + 5), .ref (k + 6), .int 0, .int 0, .ref (k + 7), .int 0, .int 0, .int 0, .int 0, .int 0, .int 0, .int 0, .int 0, .int 0, .int 0, .ref (k + 8), .ref (k + 9), .ref (k + 10), .ref (k + 11), .ref (k + 12), .ref (k + 13), .ref (k + 14), .ref (k + 15), .ref (k + 16), .ref (k + 17), .ref (k + 18), .ref (k + 19), .ref (k + 20), .ref (k + 21), .ref (k + 22), .ref (k + 23), .ref (k + 24), .ref (k + 25), .int 0, .int 0, .int 0, .int 0, .int 0, .int 0, .ref (k + 26), .ref (k + 27), .ref (k + 28), .ref (k + 29), .ref (k + 30), .ref (k + 31), .int 0, .int 0, .int 0, .int 0, .ref (k + 32), .ref (k + 33), .ref (k + 34), .ref (k + 35), .null, .null, .null, .int 0, .int 0]) hk cl_11 (k := 56) (by decide) fi_X11_113 rfl rfl rfl (fun _ => rfl) (fun _ => rfl) (Nat.le_of_ble_eq_true rfl) rfl dX11_init_288 ?_
  refine cu_aload dX11_init_291 rfl ?_
  refine cu_sipush (v := 256) dX11_init_292 (by decide) ?_
  refine cp_newa (at0 := .int) (ty := .int) (app2 := [zi 74, zi 74, zi 74, zi 12, zi 24, zi 24, zb 260, zi 260, zi 260, zi 16, zi 16, zi 16, zi 16, zi 260, zi 16, zi 16, zi 16, zi 16, zi 260, zi 10, zi 12, zi 12, zi 24, zi 24, zi 24, zi 1024, zi 1024, zi 64, zi 2, zi 2, zi 2, zi 256, zi 256, zi 20, zi 256, zi 256]) (a := (k + 36)) (N := 256) (nc := 2) (ns := 32) hk rfl (by simp) aq_int (by decide) (by decide) (by decide) rfl rfl dX11_init_295 ?_
  refine cp_putF (fs2 := [.ref (k + 1), .ref (k + 2), .ref (k + 3), .ref (k + 4), .ref (k + 5), .ref (k + 6), .int 0, .int 0, .ref (k + 7), .int 0, .int 0, .int 0, .int 0, .int 0, .int 0, .int 0, .int 0, .int 0, .int 0, .ref (k + 8), .ref (k + 9), .ref (k + 10), .ref (k + 11), .ref (k + 12), .ref (k + 13), .ref (k + 14), .ref (k + 15), .ref (k + 16), .ref (k + 17), .ref (k + 18), .ref (k + 19), .ref (k + 20), .ref (k + 21), .ref (k + 22), .ref (k + 23), .ref (k + 24), .ref (k + 25), .int 0, .int 0, .int 0, .int 0, .int 0, .int 0, .ref (k + 26), .ref (k + 27), .ref (k + 28), .ref (k + 29), .ref (k + 30), .ref (k + 31), .int 0, .int 0, .int 0, .int 0, .ref (k + 32), .ref (k + 33), .ref (k + 34), .ref (k + 35), .ref (k + 36), .null, .null, .int 0, .int 0]) hk cl_11 (k := 57) (by decide) fi_X11_116 rfl rfl rfl (fun _ => rfl) (fun _ => rfl) (Nat.le_of_ble_eq_true rfl) rfl dX11_init_297 ?_
  refine cu_aload dX11_init_300 rfl ?_
  refine cu_bipush (v := 16) dX11_init_301 (by decide) ?_
  refine cp_newa (at0 := .int) (ty := .int) (app2 := [zi 74, zi 74, zi 74, zi 12, zi 24, zi 24, zb 260, zi 260, zi 260, zi 16, zi 16, zi 16, zi 16, zi 260, zi 16, zi 16, zi 16, zi 16, zi 260, zi 10, zi 12, zi 12, zi 24, zi 24, zi 24, zi 1024, zi 1024, zi 64, zi 2, zi 2, zi 2, zi 256, zi 256, zi 20, zi 256, zi 256, zi 16]) (a := (k + 37)) (N := 16) (nc := 1) (ns := 16) hk rfl (by simp) aq_int (by decide) (by decide) (by decide) rfl rfl dX11_init_303 ?_
  refine cp_putF (fs2 := [.ref (k + 1), .ref (k + 2), .ref (k + 3), .ref (k + 4), .ref (k + 5), .ref (k + 6), .int 0, .int 0, .ref (k + 7), .int 0, .int 0, .int 0, .int 0, .int 0, .int 0, .int 0, .int 0, .int 0, .int 0, .ref (k + 8), .ref (k + 9), .ref (k + 10), .ref (k + 11), .ref (k + 12), .ref (k + 13), .ref (k + 14), .ref (k + 15), .ref (k + 16), .ref (k + 17), .ref (k + 18), .ref (k + 19), .ref (k + 20), .ref (k + 21), .ref (k + 22), .ref (k + 23), .ref (k + 24), .ref (k + 25), .int 0, .int 0, .int 0, .int 0, .int 0, .int 0, .ref (k + 26), .ref (k + 27), .ref (k + 28), .ref (k + 29), .ref (k + 30), .ref (k + 31), .int 0, .int 0, .int 0, .int 0, .ref (k + 32), .ref (k + 33), .ref (k + 34), .ref (k + 35), .ref (k + 36), .ref (k + 37), .null, .int 0, .int 0]) hk cl_11 (k := 58) (by decide) fi_X11_119 rfl rfl rfl (fun _ => rfl) (fun _ => rfl) (Nat.le_of_ble_eq_true rfl) rfl dX11_init_305 ?_
  refine cu_aload dX11_init_308 rfl ?_
  refine cu_bipush (v := 16) dX11_init_309 (by decide) ?_
  refine cp_newa (at0 := .int) (ty := .int) (app2 := [zi 74, zi 74, zi 74, zi 12, zi 24, zi 24, zb 260, zi 260, zi 260, zi 16, zi 16, zi 16, zi 16, zi 260, zi 16, zi 16, zi 16, zi 16, zi 260, zi 10, zi 12, zi 12, zi 24, zi 24, zi 24, zi 1024, zi 1024, zi 64, zi 2, zi 2, zi 2, zi 256, zi 256, zi 20, zi 256, zi 256, zi 16, zi 16]) (a := (k + 38)) (N := 16) (nc := 0) (ns := 0) hk rfl (by simp) aq_int (by decide) (by decide) (by decide) rfl rfl dX11_init_311 ?_
  refine cp_putF (fs2 := [.ref (k + 1), .ref (k + 2), .ref (k + 3), .ref (k + 4), .ref (k + 5), .ref (k + 6), .int 0, .int 0, .ref (k + 7), .int 0, .int 0, .int 0, .int 0, .int 0, .int 0, .int 0, .int 0, .int 0, .int 0, .ref (k + 8), .ref (k + 9), .ref (k + 10), .ref (k + 11), .ref (k + 12), .ref (k + 13), .ref (k + 14), .ref (k + 15), .ref (k + 16), .ref (k + 17), .ref (k + 18), .ref (k + 19), .ref (k + 20), .ref (k + 21), .ref (k + 22), .ref (k + 23), .ref (k + 24), .ref (k + 25), .int 0, .int 0, .int 0, .int 0, .int 0, .int 0, .ref (k + 26), .ref (k + 27), .ref (k + 28), .ref (k + 29), .ref (k + 30), .ref (k + 31), .int 0, .int 0, .int 0, .int 0, .ref (k + 32), .ref (k + 33), .ref (k + 34), .ref (k + 35), .ref (k + 36), .ref (k + 37), .ref (k + 38), .int 0, .int 0]) hk cl_11 (k := 59) (by decide) fi_X11_122 rfl rfl rfl (fun _ => rfl) (fun _ => rfl) (Nat.le_of_ble_eq_true rfl) rfl dX11_init_313 ?_
  refine cu_aload dX11_init_316 rfl ?_
  refine cp_get hk cl_11 (k := 0) (by decide) fi_X11_7 (v := .ref (k + 1)) rfl dX11_init_317 ?_
  refine cu_bipush (v := 73) dX11_init_320 (by decide) ?_
  refine cu_iconst (v := 1) dX11_init_322 (by decide) ?_
  refine cu_iast (a := (k + 1)) (n := 74) (am_pg1 hk) (by unfold vp_in; decide) (am_ps1 hk) dX11_init_323 ?_
  exact cu_ret ⟨rfl, dX11_init_324⟩
