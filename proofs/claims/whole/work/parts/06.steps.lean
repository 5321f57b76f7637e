def am_rem (x y : Int32) : Int32 := x - x / y * y
theorem am_rem_n {a d : Nat} (ha : a < 2 ^ 31) (h0 : 0 < d) (hd : d < 2 ^ 31) : am_rem (nI a) (nI d) = nI (a % d) := pk_rem ha h0 hd
def am_max (x y : Int32) : Int32 := if x < y then y else x
def am_min (x y : Int32) : Int32 := if y < x then y else x
def am_rest (st : List Value) : Bool := st.all am_g && decide (st.length ≤ 8)
theorem am_rest_sum {G : am_G} : ∀ {st : List Value}, st.all am_g = true → ((st.map (am_v G)).map fun v => v.category).sum = st.length
  | [], _ => rfl
  | v :: l, hst => by
    rw [List.all_cons, Bool.and_eq_true] at hst
    have := am_rest_sum (G := G) hst.2
    rw [List.map_cons, List.map_cons, List.sum_cons, this, am_cat hst.1, List.length_cons]
    omega
section AMSTEP
variable {M : am_M} {sc : Option (Nat × (Nat → Int32))} {d pc : Nat} {L L' st : List Value} {h : am_H} {Z : Int32 → am_H → Prop}
theorem st_iconst {n : Int} {v : Int32} (hd : decode M.2.1 pc = .ok (.iconst n, 1)) (hv : Int32.ofInt n = v) (k : Ru M sc d (pc + 1) L (.int v :: st) h Z) : Ru M sc d pc L (st) h Z := by
  intro p l e R s m args below meth c H locs cells slots Q G D cT ls C hP hS hL hret
  exact lv_iconst C.1 C.2.1 hd hv (k p l e R s m args below meth c H locs cells slots Q G D cT ls C hP hS hL hret)
theorem st_bipush {n : Int} {v : Int32} (hd : decode M.2.1 pc = .ok (.bipush n, 2)) (hv : (Int8.ofInt n).toInt32 = v) (k : Ru M sc d (pc + 2) L (.int v :: st) h Z) : Ru M sc d pc L (st) h Z := by
  intro p l e R s m args below meth c H locs cells slots Q G D cT ls C hP hS hL hret
  exact lv_bipush C.1 C.2.1 hd hv (k p l e R s m args below meth c H locs cells slots Q G D cT ls C hP hS hL hret)
theorem st_sipush {n : Int} {v : Int32} (hd : decode M.2.1 pc = .ok (.sipush n, 3)) (hv : (Int16.ofInt n).toInt32 = v) (k : Ru M sc d (pc + 3) L (.int v :: st) h Z) : Ru M sc d pc L (st) h Z := by
  intro p l e R s m args below meth c H locs cells slots Q G D cT ls C hP hS hL hret
  exact lv_sipush C.1 C.2.1 hd hv (k p l e R s m args below meth c H locs cells slots Q G D cT ls C hP hS hL hret)
theorem st_iadd {x y : Int32} (hd : decode M.2.1 pc = .ok (.iadd, 1))  (k : Ru M sc d (pc + 1) L (.int (x + y) :: st) h Z) : Ru M sc d pc L (.int y :: .int x :: st) h Z := by
  intro p l e R s m args below meth c H locs cells slots Q G D cT ls C hP hS hL hret
  exact lv_iadd C.1 C.2.1 hd  (k p l e R s m args below meth c H locs cells slots Q G D cT ls C hP hS hL hret)
theorem st_isub {x y : Int32} (hd : decode M.2.1 pc = .ok (.isub, 1))  (k : Ru M sc d (pc + 1) L (.int (x - y) :: st) h Z) : Ru M sc d pc L (.int y :: .int x :: st) h Z := by
  intro p l e R s m args below meth c H locs cells slots Q G D cT ls C hP hS hL hret
  exact lv_isub C.1 C.2.1 hd  (k p l e R s m args below meth c H locs cells slots Q G D cT ls C hP hS hL hret)
theorem st_imul {x y : Int32} (hd : decode M.2.1 pc = .ok (.imul, 1))  (k : Ru M sc d (pc + 1) L (.int (x * y) :: st) h Z) : Ru M sc d pc L (.int y :: .int x :: st) h Z := by
  intro p l e R s m args below meth c H locs cells slots Q G D cT ls C hP hS hL hret
  exact lv_imul C.1 C.2.1 hd  (k p l e R s m args below meth c H locs cells slots Q G D cT ls C hP hS hL hret)
theorem st_iand {x y : Int32} (hd : decode M.2.1 pc = .ok (.iand, 1))  (k : Ru M sc d (pc + 1) L (.int (x &&& y) :: st) h Z) : Ru M sc d pc L (.int y :: .int x :: st) h Z := by
  intro p l e R s m args below meth c H locs cells slots Q G D cT ls C hP hS hL hret
  exact lv_iand C.1 C.2.1 hd  (k p l e R s m args below meth c H locs cells slots Q G D cT ls C hP hS hL hret)
theorem st_ior {x y : Int32} (hd : decode M.2.1 pc = .ok (.ior, 1))  (k : Ru M sc d (pc + 1) L (.int (x ||| y) :: st) h Z) : Ru M sc d pc L (.int y :: .int x :: st) h Z := by
  intro p l e R s m args below meth c H locs cells slots Q G D cT ls C hP hS hL hret
  exact lv_ior C.1 C.2.1 hd  (k p l e R s m args below meth c H locs cells slots Q G D cT ls C hP hS hL hret)
theorem st_ixor {x y : Int32} (hd : decode M.2.1 pc = .ok (.ixor, 1))  (k : Ru M sc d (pc + 1) L (.int (x ^^^ y) :: st) h Z) : Ru M sc d pc L (.int y :: .int x :: st) h Z := by
  intro p l e R s m args below meth c H locs cells slots Q G D cT ls C hP hS hL hret
  exact lv_ixor C.1 C.2.1 hd  (k p l e R s m args below meth c H locs cells slots Q G D cT ls C hP hS hL hret)
theorem st_ishl {x y : Int32} (hd : decode M.2.1 pc = .ok (.ishl, 1))  (k : Ru M sc d (pc + 1) L (.int (x <<< (y &&& 31)) :: st) h Z) : Ru M sc d pc L (.int y :: .int x :: st) h Z := by
  intro p l e R s m args below meth c H locs cells slots Q G D cT ls C hP hS hL hret
  exact lv_ishl C.1 C.2.1 hd  (k p l e R s m args below meth c H locs cells slots Q G D cT ls C hP hS hL hret)
theorem st_ishr {x y : Int32} (hd : decode M.2.1 pc = .ok (.ishr, 1))  (k : Ru M sc d (pc + 1) L (.int (x >>> (y &&& 31)) :: st) h Z) : Ru M sc d pc L (.int y :: .int x :: st) h Z := by
  intro p l e R s m args below meth c H locs cells slots Q G D cT ls C hP hS hL hret
  exact lv_ishr C.1 C.2.1 hd  (k p l e R s m args below meth c H locs cells slots Q G D cT ls C hP hS hL hret)
theorem st_idiv {x y : Int32} (hd : decode M.2.1 pc = .ok (.idiv, 1)) (hne : ¬ y = 0) (k : Ru M sc d (pc + 1) L (.int (x / y) :: st) h Z) : Ru M sc d pc L (.int y :: .int x :: st) h Z := by
  intro p l e R s m args below meth c H locs cells slots Q G D cT ls C hP hS hL hret
  exact lv_idiv C.1 C.2.1 hd hne (k p l e R s m args below meth c H locs cells slots Q G D cT ls C hP hS hL hret)
theorem st_irem {x y : Int32} (hd : decode M.2.1 pc = .ok (.irem, 1)) (hne : ¬ y = 0) (k : Ru M sc d (pc + 1) L (.int (am_rem x y) :: st) h Z) : Ru M sc d pc L (.int y :: .int x :: st) h Z := by
  intro p l e R s m args below meth c H locs cells slots Q G D cT ls C hP hS hL hret
  exact lv_irem C.1 C.2.1 hd hne (k p l e R s m args below meth c H locs cells slots Q G D cT ls C hP hS hL hret)
theorem st_ineg {x : Int32} (hd : decode M.2.1 pc = .ok (.ineg, 1))  (k : Ru M sc d (pc + 1) L (.int (-x) :: st) h Z) : Ru M sc d pc L (.int x :: st) h Z := by
  intro p l e R s m args below meth c H locs cells slots Q G D cT ls C hP hS hL hret
  exact lv_ineg C.1 C.2.1 hd  (k p l e R s m args below meth c H locs cells slots Q G D cT ls C hP hS hL hret)
theorem st_iushr {x y : Int32} (hd : decode M.2.1 pc = .ok (.iushr, 1))  (k : Ru M sc d (pc + 1) L (.int ((x.toUInt32 >>> (y.toUInt32 &&& Int32.toUInt32 31)).toInt32) :: st) h Z) : Ru M sc d pc L (.int y :: .int x :: st) h Z := by
  intro p l e R s m args below meth c H locs cells slots Q G D cT ls C hP hS hL hret
  exact lv_iushr C.1 C.2.1 hd rfl (k p l e R s m args below meth c H locs cells slots Q G D cT ls C hP hS hL hret)
theorem st_i2b {x : Int32} (hd : decode M.2.1 pc = .ok (.i2b, 1))  (k : Ru M sc d (pc + 1) L (.int (x.toInt8.toInt32) :: st) h Z) : Ru M sc d pc L (.int x :: st) h Z := by
  intro p l e R s m args below meth c H locs cells slots Q G D cT ls C hP hS hL hret
  exact lv_i2b C.1 C.2.1 hd rfl (k p l e R s m args below meth c H locs cells slots Q G D cT ls C hP hS hL hret)
theorem st_i2c {x : Int32} (hd : decode M.2.1 pc = .ok (.i2c, 1))  (k : Ru M sc d (pc + 1) L (.int ((x.toUInt32 % 65536).toInt32) :: st) h Z) : Ru M sc d pc L (.int x :: st) h Z := by
  intro p l e R s m args below meth c H locs cells slots Q G D cT ls C hP hS hL hret
  exact lv_i2c C.1 C.2.1 hd rfl (k p l e R s m args below meth c H locs cells slots Q G D cT ls C hP hS hL hret)
theorem st_iadd0 {y : Int32} (hd : decode M.2.1 pc = .ok (.iadd, 1)) (k : Ru M sc d (pc + 1) L (.int y :: st) h Z) : Ru M sc d pc L (.int y :: .int 0 :: st) h Z := st_iadd hd (by rw [Int32.zero_add]; exact k)
theorem st_dup {v : Value} (hd : decode M.2.1 pc = .ok (.dup, 1)) (hg : am_g v = true) (k : Ru M sc d (pc + 1) L (v :: v :: st) h Z) : Ru M sc d pc L (v :: st) h Z := by
  intro p l e R s m args below meth c H locs cells slots Q G D cT ls C hP hS hL hret
  exact lv_dup C.1 C.2.1 hd (am_cat hg) (k p l e R s m args below meth c H locs cells slots Q G D cT ls C hP hS hL hret)
theorem st_pop {v : Value} (hd : decode M.2.1 pc = .ok (.pop, 1)) (hg : am_g v = true) (k : Ru M sc d (pc + 1) L st h Z) : Ru M sc d pc L (v :: st) h Z := by
  intro p l e R s m args below meth c H locs cells slots Q G D cT ls C hP hS hL hret
  exact lv_pop C.1 C.2.1 hd (am_cat hg) (k p l e R s m args below meth c H locs cells slots Q G D cT ls C hP hS hL hret)
theorem st_dup2 {v w : Value} (hd : decode M.2.1 pc = .ok (.dup2, 1)) (hg : am_g v = true) (hw : am_g w = true) (k : Ru M sc d (pc + 1) L (v :: w :: v :: w :: st) h Z) : Ru M sc d pc L (v :: w :: st) h Z := by
  intro p l e R s m args below meth c H locs cells slots Q G D cT ls C hP hS hL hret
  exact lv_dup2_11 C.1 C.2.1 hd (am_cat hg) (am_cat hw) (k p l e R s m args below meth c H locs cells slots Q G D cT ls C hP hS hL hret)
theorem st_iload_n {i : Fin 4} {x : Int32} (hd : decode M.2.1 pc = .ok (.iload_n i, 1)) (hl : L[(i : Nat)]? = some (.int x)) (k : Ru M sc d (pc + 1) L (.int x :: st) h Z) : Ru M sc d pc L st h Z := by
  intro p l e R s m args below meth c H locs cells slots Q G D cT ls C hP hS hL hret
  exact lv_iload_n C.1 C.2.1 hd rfl (hL.2.2.2 _ _ hl rfl) (k p l e R s m args below meth c H locs cells slots Q G D cT ls C hP hS hL hret)
theorem st_iload {i : Nat} {x : Int32} (hd : decode M.2.1 pc = .ok (.iload i, 2)) (hl : L[i]? = some (.int x)) (k : Ru M sc d (pc + 2) L (.int x :: st) h Z) : Ru M sc d pc L st h Z := by
  intro p l e R s m args below meth c H locs cells slots Q G D cT ls C hP hS hL hret
  exact lv_iload C.1 C.2.1 hd (hL.2.2.2 _ _ hl rfl) (k p l e R s m args below meth c H locs cells slots Q G D cT ls C hP hS hL hret)
theorem st_aload_n {i : Fin 4} {x : Nat} (hd : decode M.2.1 pc = .ok (.aload_n i, 1)) (hl : L[(i : Nat)]? = some (.ref x)) (k : Ru M sc d (pc + 1) L (.ref x :: st) h Z) : Ru M sc d pc L st h Z := by
  intro p l e R s m args below meth c H locs cells slots Q G D cT ls C hP hS hL hret
  exact lv_aload_n C.1 C.2.1 hd rfl (hL.2.2.2 _ _ hl rfl) (k p l e R s m args below meth c H locs cells slots Q G D cT ls C hP hS hL hret)
theorem st_aload {i : Nat} {x : Nat} (hd : decode M.2.1 pc = .ok (.aload i, 2)) (hl : L[i]? = some (.ref x)) (k : Ru M sc d (pc + 2) L (.ref x :: st) h Z) : Ru M sc d pc L st h Z := by
  intro p l e R s m args below meth c H locs cells slots Q G D cT ls C hP hS hL hret
  exact lv_aload C.1 C.2.1 hd (hL.2.2.2 _ _ hl rfl) (k p l e R s m args below meth c H locs cells slots Q G D cT ls C hP hS hL hret)
theorem st_aload0_n {i : Fin 4} (hd : decode M.2.1 pc = .ok (.aload_n i, 1)) (hl : L[(i : Nat)]? = some (.retAddr 0)) (k : Ru M sc d (pc + 1) L (.retAddr 0 :: st) h Z) : Ru M sc d pc L st h Z := by
  intro p l e R s m args below meth c H locs cells slots Q G D cT ls C hP hS hL hret
  exact lv_aload_n (x := G.2.1) C.1 C.2.1 hd rfl (hL.2.2.2 _ _ hl rfl) (k p l e R s m args below meth c H locs cells slots Q G D cT ls C hP hS hL hret)
theorem st_aload1_n {i : Fin 4} (hd : decode M.2.1 pc = .ok (.aload_n i, 1)) (hl : L[(i : Nat)]? = some (.retAddr 1)) (k : Ru M sc d (pc + 1) L (.retAddr 1 :: st) h Z) : Ru M sc d pc L st h Z := by
  intro p l e R s m args below meth c H locs cells slots Q G D cT ls C hP hS hL hret
  exact lv_aload_n (x := G.2.2.1) C.1 C.2.1 hd rfl (hL.2.2.2 _ _ hl rfl) (k p l e R s m args below meth c H locs cells slots Q G D cT ls C hP hS hL hret)
theorem st_aload2_n {i : Fin 4} (hd : decode M.2.1 pc = .ok (.aload_n i, 1)) (hl : L[(i : Nat)]? = some (.retAddr 2)) (k : Ru M sc d (pc + 1) L (.retAddr 2 :: st) h Z) : Ru M sc d pc L st h Z := by
  intro p l e R s m args below meth c H locs cells slots Q G D cT ls C hP hS hL hret
  exact lv_aload_n (x := G.2.2.2) C.1 C.2.1 hd rfl (hL.2.2.2 _ _ hl rfl) (k p l e R s m args below meth c H locs cells slots Q G D cT ls C hP hS hL hret)
theorem st_istore_n {i : Fin 4} {x : Int32} (hd : decode M.2.1 pc = .ok (.istore_n i, 1)) (hi : (i : Nat) < M.2.2.1) (hs : L.set (i : Nat) (.int x) = L') (k : Ru M sc d (pc + 1) L' st h Z) : Ru M sc d pc L (.int x :: st) h Z := by
  intro p l e R s m args below meth c H locs cells slots Q G D cT ls C hP hS hL hret
  exact lv_istore_n C.1 C.2.1 hd rfl (am_L_lv hL) hi rfl (fun ls' hl => k p l e R s m args below meth c H locs cells slots Q G D cT ls' C hP hS (am_L_set hL rfl hs hl) hret)
theorem st_istore {i : Nat} {x : Int32} (hd : decode M.2.1 pc = .ok (.istore i, 2)) (hi : i < M.2.2.1) (hs : L.set i (.int x) = L') (k : Ru M sc d (pc + 2) L' st h Z) : Ru M sc d pc L (.int x :: st) h Z := by
  intro p l e R s m args below meth c H locs cells slots Q G D cT ls C hP hS hL hret
  exact lv_istore C.1 C.2.1 hd (am_L_lv hL) hi rfl (fun ls' hl => k p l e R s m args below meth c H locs cells slots Q G D cT ls' C hP hS (am_L_set hL rfl hs hl) hret)
theorem st_astore_n {i : Fin 4} {x : Nat} (hd : decode M.2.1 pc = .ok (.astore_n i, 1)) (hi : (i : Nat) < M.2.2.1) (hs : L.set (i : Nat) (.ref x) = L') (k : Ru M sc d (pc + 1) L' st h Z) : Ru M sc d pc L (.ref x :: st) h Z := by
  intro p l e R s m args below meth c H locs cells slots Q G D cT ls C hP hS hL hret
  exact lv_astore_n C.1 C.2.1 hd rfl (am_L_lv hL) hi rfl (fun ls' hl => k p l e R s m args below meth c H locs cells slots Q G D cT ls' C hP hS (am_L_set hL rfl hs hl) hret)
theorem st_astore {i : Nat} {x : Nat} (hd : decode M.2.1 pc = .ok (.astore i, 2)) (hi : i < M.2.2.1) (hs : L.set i (.ref x) = L') (k : Ru M sc d (pc + 2) L' st h Z) : Ru M sc d pc L (.ref x :: st) h Z := by
  intro p l e R s m args below meth c H locs cells slots Q G D cT ls C hP hS hL hret
  exact lv_astore C.1 C.2.1 hd (am_L_lv hL) hi rfl (fun ls' hl => k p l e R s m args below meth c H locs cells slots Q G D cT ls' C hP hS (am_L_set hL rfl hs hl) hret)
theorem st_iinc {i : Nat} {n : Int} {x v : Int32} (hd : decode M.2.1 pc = .ok (.iinc i n, 3)) (hl : L[i]? = some (.int x)) (hv : x + Int32.ofInt n = v) (hi : i < M.2.2.1) (hs : L.set i (.int v) = L') (k : Ru M sc d (pc + 3) L' st h Z) : Ru M sc d pc L st h Z := by
  intro p l e R s m args below meth c H locs cells slots Q G D cT ls C hP hS hL hret
  have hm : (i, Value.int x) ∈ am_lv G L := am_lv_mem.mpr ⟨_, hl, rfl, rfl⟩
  obtain ⟨q, hq⟩ := List.getElem?_of_mem hm
  exact lv_iinc C.1 C.2.1 hd (am_L_lv hL) hq hv hi rfl (fun ls' hl => k p l e R s m args below meth c H locs cells slots Q G D cT ls' C hP hS (am_L_set hL rfl hs hl) hret)
theorem st_if_eq {x : Int32} {off : Int} {tgt : Nat} (hd : decode M.2.1 pc = .ok (.ifCond .eq off, 3)) (ht : (pc : Int) + off = (tgt : Int)) (kt : x = 0 → Ru M sc d tgt L st h Z) (kf : ¬ (x = 0) → Ru M sc d (pc + 3) L st h Z) : Ru M sc d pc L (.int x :: st) h Z := by
  intro p l e R s m args below meth c H locs cells slots Q G D cT ls C hP hS hL hret
  exact lv_if_eq C.1 C.2.1 hd ht (fun q => kt q p l e R s m args below meth c H locs cells slots Q G D cT ls C hP hS hL hret) (fun q => kf q p l e R s m args below meth c H locs cells slots Q G D cT ls C hP hS hL hret)
theorem st_if_ne {x : Int32} {off : Int} {tgt : Nat} (hd : decode M.2.1 pc = .ok (.ifCond .ne off, 3)) (ht : (pc : Int) + off = (tgt : Int)) (kt : ¬ x = 0 → Ru M sc d tgt L st h Z) (kf : x = 0 → Ru M sc d (pc + 3) L st h Z) : Ru M sc d pc L (.int x :: st) h Z := by
  intro p l e R s m args below meth c H locs cells slots Q G D cT ls C hP hS hL hret
  exact lv_if_ne C.1 C.2.1 hd ht (fun q => kt q p l e R s m args below meth c H locs cells slots Q G D cT ls C hP hS hL hret) (fun q => kf q p l e R s m args below meth c H locs cells slots Q G D cT ls C hP hS hL hret)
theorem st_if_lt {x : Int32} {off : Int} {tgt : Nat} (hd : decode M.2.1 pc = .ok (.ifCond .lt off, 3)) (ht : (pc : Int) + off = (tgt : Int)) (kt : x < 0 → Ru M sc d tgt L st h Z) (kf : ¬ (x < 0) → Ru M sc d (pc + 3) L st h Z) : Ru M sc d pc L (.int x :: st) h Z := by
  intro p l e R s m args below meth c H locs cells slots Q G D cT ls C hP hS hL hret
  exact lv_if_lt C.1 C.2.1 hd ht (fun q => kt q p l e R s m args below meth c H locs cells slots Q G D cT ls C hP hS hL hret) (fun q => kf q p l e R s m args below meth c H locs cells slots Q G D cT ls C hP hS hL hret)
theorem st_if_ge {x : Int32} {off : Int} {tgt : Nat} (hd : decode M.2.1 pc = .ok (.ifCond .ge off, 3)) (ht : (pc : Int) + off = (tgt : Int)) (kt : 0 ≤ x → Ru M sc d tgt L st h Z) (kf : ¬ (0 ≤ x) → Ru M sc d (pc + 3) L st h Z) : Ru M sc d pc L (.int x :: st) h Z := by
  intro p l e R s m args below meth c H locs cells slots Q G D cT ls C hP hS hL hret
  exact lv_if_ge C.1 C.2.1 hd ht (fun q => kt q p l e R s m args below meth c H locs cells slots Q G D cT ls C hP hS hL hret) (fun q => kf q p l e R s m args below meth c H locs cells slots Q G D cT ls C hP hS hL hret)
theorem st_if_gt {x : Int32} {off : Int} {tgt : Nat} (hd : decode M.2.1 pc = .ok (.ifCond .gt off, 3)) (ht : (pc : Int) + off = (tgt : Int)) (kt : 0 < x → Ru M sc d tgt L st h Z) (kf : ¬ (0 < x) → Ru M sc d (pc + 3) L st h Z) : Ru M sc d pc L (.int x :: st) h Z := by
  intro p l e R s m args below meth c H locs cells slots Q G D cT ls C hP hS hL hret
  exact lv_if_gt C.1 C.2.1 hd ht (fun q => kt q p l e R s m args below meth c H locs cells slots Q G D cT ls C hP hS hL hret) (fun q => kf q p l e R s m args below meth c H locs cells slots Q G D cT ls C hP hS hL hret)
theorem st_if_le {x : Int32} {off : Int} {tgt : Nat} (hd : decode M.2.1 pc = .ok (.ifCond .le off, 3)) (ht : (pc : Int) + off = (tgt : Int)) (kt : x ≤ 0 → Ru M sc d tgt L st h Z) (kf : ¬ (x ≤ 0) → Ru M sc d (pc + 3) L st h Z) : Ru M sc d pc L (.int x :: st) h Z := by
  intro p l e R s m args below meth c H locs cells slots Q G D cT ls C hP hS hL hret
  exact lv_if_le C.1 C.2.1 hd ht (fun q => kt q p l e R s m args below meth c H locs cells slots Q G D cT ls C hP hS hL hret) (fun q => kf q p l e R s m args below meth c H locs cells slots Q G D cT ls C hP hS hL hret)
theorem st_icmp_eq {x y : Int32} {off : Int} {tgt : Nat} (hd : decode M.2.1 pc = .ok (.if_icmp .eq off, 3)) (ht : (pc : Int) + off = (tgt : Int)) (kt : x = y → Ru M sc d tgt L st h Z) (kf : ¬ (x = y) → Ru M sc d (pc + 3) L st h Z) : Ru M sc d pc L (.int y :: .int x :: st) h Z := by
  intro p l e R s m args below meth c H locs cells slots Q G D cT ls C hP hS hL hret
  exact lv_icmp_eq C.1 C.2.1 hd ht (fun q => kt q p l e R s m args below meth c H locs cells slots Q G D cT ls C hP hS hL hret) (fun q => kf q p l e R s m args below meth c H locs cells slots Q G D cT ls C hP hS hL hret)
theorem st_icmp_ne {x y : Int32} {off : Int} {tgt : Nat} (hd : decode M.2.1 pc = .ok (.if_icmp .ne off, 3)) (ht : (pc : Int) + off = (tgt : Int)) (kt : ¬ x = y → Ru M sc d tgt L st h Z) (kf : x = y → Ru M sc d (pc + 3) L st h Z) : Ru M sc d pc L (.int y :: .int x :: st) h Z := by
  intro p l e R s m args below meth c H locs cells slots Q G D cT ls C hP hS hL hret
  exact lv_icmp_ne C.1 C.2.1 hd ht (fun q => kt q p l e R s m args below meth c H locs cells slots Q G D cT ls C hP hS hL hret) (fun q => kf q p l e R s m args below meth c H locs cells slots Q G D cT ls C hP hS hL hret)
theorem st_icmp_lt {x y : Int32} {off : Int} {tgt : Nat} (hd : decode M.2.1 pc = .ok (.if_icmp .lt off, 3)) (ht : (pc : Int) + off = (tgt : Int)) (kt : x < y → Ru M sc d tgt L st h Z) (kf : ¬ (x < y) → Ru M sc d (pc + 3) L st h Z) : Ru M sc d pc L (.int y :: .int x :: st) h Z := by
  intro p l e R s m args below meth c H locs cells slots Q G D cT ls C hP hS hL hret
  exact lv_icmp_lt C.1 C.2.1 hd ht (fun q => kt q p l e R s m args below meth c H locs cells slots Q G D cT ls C hP hS hL hret) (fun q => kf q p l e R s m args below meth c H locs cells slots Q G D cT ls C hP hS hL hret)
theorem st_icmp_ge {x y : Int32} {off : Int} {tgt : Nat} (hd : decode M.2.1 pc = .ok (.if_icmp .ge off, 3)) (ht : (pc : Int) + off = (tgt : Int)) (kt : y ≤ x → Ru M sc d tgt L st h Z) (kf : ¬ (y ≤ x) → Ru M sc d (pc + 3) L st h Z) : Ru M sc d pc L (.int y :: .int x :: st) h Z := by
  intro p l e R s m args below meth c H locs cells slots Q G D cT ls C hP hS hL hret
  exact lv_icmp_ge C.1 C.2.1 hd ht (fun q => kt q p l e R s m args below meth c H locs cells slots Q G D cT ls C hP hS hL hret) (fun q => kf q p l e R s m args below meth c H locs cells slots Q G D cT ls C hP hS hL hret)
theorem st_icmp_gt {x y : Int32} {off : Int} {tgt : Nat} (hd : decode M.2.1 pc = .ok (.if_icmp .gt off, 3)) (ht : (pc : Int) + off = (tgt : Int)) (kt : y < x → Ru M sc d tgt L st h Z) (kf : ¬ (y < x) → Ru M sc d (pc + 3) L st h Z) : Ru M sc d pc L (.int y :: .int x :: st) h Z := by
  intro p l e R s m args below meth c H locs cells slots Q G D cT ls C hP hS hL hret
  exact lv_icmp_gt C.1 C.2.1 hd ht (fun q => kt q p l e R s m args below meth c H locs cells slots Q G D cT ls C hP hS hL hret) (fun q => kf q p l e R s m args below meth c H locs cells slots Q G D cT ls C hP hS hL hret)
theorem st_icmp_le {x y : Int32} {off : Int} {tgt : Nat} (hd : decode M.2.1 pc = .ok (.if_icmp .le off, 3)) (ht : (pc : Int) + off = (tgt : Int)) (kt : x ≤ y → Ru M sc d tgt L st h Z) (kf : ¬ (x ≤ y) → Ru M sc d (pc + 3) L st h Z) : Ru M sc d pc L (.int y :: .int x :: st) h Z := by
  intro p l e R s m args below meth c H locs cells slots Q G D cT ls C hP hS hL hret
  exact lv_icmp_le C.1 C.2.1 hd ht (fun q => kt q p l e R s m args below meth c H locs cells slots Q G D cT ls C hP hS hL hret) (fun q => kf q p l e R s m args below meth c H locs cells slots Q G D cT ls C hP hS hL hret)
theorem st_goto {off : Int} {tgt : Nat} (hd : decode M.2.1 pc = .ok (.goto off, 3)) (ht : (pc : Int) + off = (tgt : Int)) (k : Ru M sc d tgt L st h Z) : Ru M sc d pc L st h Z := by
  intro p l e R s m args below meth c H locs cells slots Q G D cT ls C hP hS hL hret
  exact lv_goto C.1 C.2.1 hd ht (k p l e R s m args below meth c H locs cells slots Q G D cT ls C hP hS hL hret)
theorem st_tableOut {dflt lo hi : Int} {offs : Array Int} {len : Nat} {x : Int32} {tgt : Nat} (hd : decode M.2.1 pc = .ok (.tableswitch dflt lo hi offs, len)) (hx : x.toInt < lo ∨ hi < x.toInt) (ht : (pc : Int) + dflt = (tgt : Int)) (k : Ru M sc d tgt L st h Z) : Ru M sc d pc L (.int x :: st) h Z := by
  intro p l e R s m args below meth c H locs cells slots Q G D cT ls C hP hS hL hret
  exact lv_tableOut C.1 C.2.1 hd hx ht (k p l e R s m args below meth c H locs cells slots Q G D cT ls C hP hS hL hret)
theorem st_tableIn {dflt lo hi : Int} {offs : Array Int} {len : Nat} {x : Int32} {off : Int} {tgt : Nat} (hd : decode M.2.1 pc = .ok (.tableswitch dflt lo hi offs, len)) (h1 : ¬ x.toInt < lo) (h2 : ¬ hi < x.toInt) (ho : offs[(x.toInt - lo).toNat]? = some off) (ht : (pc : Int) + off = (tgt : Int)) (k : Ru M sc d tgt L st h Z) : Ru M sc d pc L (.int x :: st) h Z := by
  intro p l e R s m args below meth c H locs cells slots Q G D cT ls C hP hS hL hret
  exact lv_tableIn C.1 C.2.1 hd h1 h2 ho ht (k p l e R s m args below meth c H locs cells slots Q G D cT ls C hP hS hL hret)
theorem st_lookup {dflt : Int} {ps : Array (Int × Int)} {len : Nat} {x : Int32} {off : Int} {tgt : Nat} (hd : decode M.2.1 pc = .ok (.lookupswitch dflt ps, len)) (hp : (ps.toList.zip (ps.toList.drop 1)).all (fun (a, next) => a.1 < next.1) = true) (ho : Op.lookupswitch.offset ps.toList dflt x.toInt = off) (ht : (pc : Int) + off = (tgt : Int)) (k : Ru M sc d tgt L st h Z) : Ru M sc d pc L (.int x :: st) h Z := by
  intro p l e R s m args below meth c H locs cells slots Q G D cT ls C hP hS hL hret
  exact lv_lookup C.1 C.2.1 hd hp ho ht (k p l e R s m args below meth c H locs cells slots Q G D cT ls C hP hS hL hret)
theorem st_ldc {idx : Nat} {v : Int32} (hd : decode M.2.1 pc = .ok (.ldc idx, 2)) (hc : Jvm.Cond.constant M.1.cls idx v ∈ lw_g) (k : Ru M sc d (pc + 2) L (.int v :: st) h Z) : Ru M sc d pc L st h Z := by
  intro p l e R s m args below meth c H locs cells slots Q G D cT ls C hP hS hL hret
  exact lv_ldc C.1 C.2.1 C.2.2.2.1 (C.2.2.2.2.1 _ hc) hd (k p l e R s m args below meth c H locs cells slots Q G D cT ls C hP hS hL hret)
theorem st_ldcw {idx : Nat} {v : Int32} (hd : decode M.2.1 pc = .ok (.ldc_w idx, 3)) (hc : Jvm.Cond.constant M.1.cls idx v ∈ lw_g) (k : Ru M sc d (pc + 3) L (.int v :: st) h Z) : Ru M sc d pc L st h Z := by
  intro p l e R s m args below meth c H locs cells slots Q G D cT ls C hP hS hL hret
  exact lv_ldcw C.1 C.2.1 C.2.2.2.1 (C.2.2.2.2.1 _ hc) hd (k p l e R s m args below meth c H locs cells slots Q G D cT ls C hP hS hL hret)
theorem am_fvk {G : am_G} {h : am_H} {ci a k N : Nat} (hk : k < N) (hN : am_nf ci = N) : ((List.range (am_nf ci)).map (am_fv G h ci a))[k]? = some (am_fv G h ci a k) := by
  rw [List.getElem?_map, List.getElem?_range (by omega)]; rfl
theorem st_getI {idx ci a k : Nat}  (hl : am_fl M.1.cls idx ci k) (hk : am_fk ci k = 0)  (hd : decode M.2.1 pc = .ok (.getfield idx, 3)) (hs : am_sh a = .inr ci) (kk : Ru M sc d (pc + 3) L (.int (h.1 a k) :: st) h Z) : Ru M sc d pc L (.ref a :: st) h Z := by
  intro p l e R s m args below meth c H locs cells slots Q G D cT ls C hP hS hL hret
  obtain ⟨C', T, N, ty0, ⟨hc99, hcl, hin, hty, hnm, hN⟩, hkN, hlk⟩ := hl
  have hv : ((List.range (am_nf ci)).map (am_fv G h ci a))[k]? = some (.int (h.1 a k)) := by
    rw [am_fvk hkN hN]
    simp [am_fv, hk]
  exact va_get (C := C') (T := T) (N := N) (index := idx) C.1 C.2.1 C.2.2.2.2.1 hin C.2.2.2.1 C.2.2.2.2.2.1 hP a (am_ws_getr hs hc99) hcl k hkN (C.2.2.2.2.1 _ hlk) (fun x hx => hx) hv hd (kk p l e R s m args below meth c H locs cells slots Q G D cT ls C hP hS hL hret)
theorem st_getF {idx ci a k : Nat} {q : Nat} (hl : am_fl M.1.cls idx ci k) (hk : am_fk ci k = 1) (hq : am_lay ci a k = q) (hd : decode M.2.1 pc = .ok (.getfield idx, 3)) (hs : am_sh a = .inr ci) (kk : Ru M sc d (pc + 3) L (.ref q :: st) h Z) : Ru M sc d pc L (.ref a :: st) h Z := by
  intro p l e R s m args below meth c H locs cells slots Q G D cT ls C hP hS hL hret
  obtain ⟨C', T, N, ty0, ⟨hc99, hcl, hin, hty, hnm, hN⟩, hkN, hlk⟩ := hl
  have hv : ((List.range (am_nf ci)).map (am_fv G h ci a))[k]? = some (.ref (G.1 + q)) := by
    rw [am_fvk hkN hN]
    subst hq
    simp [am_fv, hk]
  exact va_get (C := C') (T := T) (N := N) (index := idx) C.1 C.2.1 C.2.2.2.2.1 hin C.2.2.2.1 C.2.2.2.2.2.1 hP a (am_ws_getr hs hc99) hcl k hkN (C.2.2.2.2.1 _ hlk) (fun x hx => hx) hv hd (kk p l e R s m args below meth c H locs cells slots Q G D cT ls C hP hS hL hret)
theorem st_getP {idx ci a k : Nat}  (hl : am_fl M.1.cls idx ci k) (hk : am_fk ci k = 2)  (hd : decode M.2.1 pc = .ok (.getfield idx, 3)) (hs : am_sh a = .inr ci) (kk : Ru M sc d (pc + 3) L (.ref (h.2.1 a k) :: st) h Z) : Ru M sc d pc L (.ref a :: st) h Z := by
  intro p l e R s m args below meth c H locs cells slots Q G D cT ls C hP hS hL hret
  obtain ⟨C', T, N, ty0, ⟨hc99, hcl, hin, hty, hnm, hN⟩, hkN, hlk⟩ := hl
  have hv : ((List.range (am_nf ci)).map (am_fv G h ci a))[k]? = some (.ref (G.1 + h.2.1 a k)) := by
    rw [am_fvk hkN hN]
    simp [am_fv, hk]
  exact va_get (C := C') (T := T) (N := N) (index := idx) C.1 C.2.1 C.2.2.2.2.1 hin C.2.2.2.1 C.2.2.2.2.2.1 hP a (am_ws_getr hs hc99) hcl k hkN (C.2.2.2.2.1 _ hlk) (fun x hx => hx) hv hd (kk p l e R s m args below meth c H locs cells slots Q G D cT ls C hP hS hL hret)
theorem st_putI {idx ci a k : Nat} {x : Int32} (hl : am_flp M.1.cls idx ci k .int) (hk : am_fk ci k = 0)  (hd : decode M.2.1 pc = .ok (.putfield idx, 3)) (hs : am_sh a = .inr ci) (kk : ∀ h1 : am_H, h1 = am_sI h a k x → Ru M sc d (pc + 3) L st h1 Z) : Ru M sc d pc L (.int x :: .ref a :: st) h Z := by
  intro p l e R s m args below meth c H locs cells slots Q G D cT ls C hP hS hL hret
  obtain ⟨C', T, N, ty0, ⟨hc99, hcl, hin, hty, hnm, hN⟩, hkN, hlk, hfin, hpd⟩ := hl
  exact va_put (C := C') (T := T) (N := N) (index := idx) (v := .int x) C.1 C.2.1 C.2.2.2.2.1 hin ty0 hty hnm C.2.2.2.1 C.2.2.2.2.2.1 hP am_wsD hS a (am_ws_getr hs hc99) hcl k hkN (C.2.2.2.2.1 _ hlk) (fun x hx => hx) hfin hpd rfl rfl (by rw [List.length_map, List.length_range, hN]; exact hkN) hd (fun H1 locs1 hP1 hD1 hS1 => kk _ rfl p l e R s m args below meth c H1 locs1 cells slots Q G D cT ls C (by rw [← am_ws_sI hs hk]; exact hP1) hS1 hL hret)
theorem st_putZ {idx ci a k : Nat} {x : Int32} (hl : am_flp M.1.cls idx ci k .boolean) (hk : am_fk ci k = 0) (hx : x = 0 ∨ x = 1) (hd : decode M.2.1 pc = .ok (.putfield idx, 3)) (hs : am_sh a = .inr ci) (kk : ∀ h1 : am_H, h1 = am_sI h a k x → Ru M sc d (pc + 3) L st h1 Z) : Ru M sc d pc L (.int x :: .ref a :: st) h Z := by
  intro p l e R s m args below meth c H locs cells slots Q G D cT ls C hP hS hL hret
  obtain ⟨C', T, N, ty0, ⟨hc99, hcl, hin, hty, hnm, hN⟩, hkN, hlk, hfin, hpd⟩ := hl
  exact va_put (C := C') (T := T) (N := N) (index := idx) (v := .int x) C.1 C.2.1 C.2.2.2.2.1 hin ty0 hty hnm C.2.2.2.1 C.2.2.2.2.2.1 hP am_wsD hS a (am_ws_getr hs hc99) hcl k hkN (C.2.2.2.2.1 _ hlk) (fun x hx => hx) hfin hpd (by rcases hx with rfl | rfl <;> rfl) (by rcases hx with rfl | rfl <;> rfl) (by rw [List.length_map, List.length_range, hN]; exact hkN) hd (fun H1 locs1 hP1 hD1 hS1 => kk _ rfl p l e R s m args below meth c H1 locs1 cells slots Q G D cT ls C (by rw [← am_ws_sI hs hk]; exact hP1) hS1 hL hret)
theorem st_putP {idx ci a k : Nat} {x : Nat} {E : String} (hl : am_flp M.1.cls idx ci k (.object E)) (hk : am_fk ci k = 2)  (hd : decode M.2.1 pc = .ok (.putfield idx, 3)) (hs : am_sh a = .inr ci) (kk : ∀ h1 : am_H, h1 = am_sP h a k x → Ru M sc d (pc + 3) L st h1 Z) : Ru M sc d pc L (.ref x :: .ref a :: st) h Z := by
  intro p l e R s m args below meth c H locs cells slots Q G D cT ls C hP hS hL hret
  obtain ⟨C', T, N, ty0, ⟨hc99, hcl, hin, hty, hnm, hN⟩, hkN, hlk, hfin, hpd⟩ := hl
  exact va_put (C := C') (T := T) (N := N) (index := idx) (v := .ref (G.1 + x)) C.1 C.2.1 C.2.2.2.2.1 hin ty0 hty hnm C.2.2.2.1 C.2.2.2.2.2.1 hP am_wsD hS a (am_ws_getr hs hc99) hcl k hkN (C.2.2.2.2.1 _ hlk) (fun x hx => hx) hfin hpd rfl rfl (by rw [List.length_map, List.length_range, hN]; exact hkN) hd (fun H1 locs1 hP1 hD1 hS1 => kk _ rfl p l e R s m args below meth c H1 locs1 cells slots Q G D cT ls C (by rw [← am_ws_sP hs hk]; exact hP1) hS1 hL hret)
theorem st_iald {a n : Nat} {i : Int32} (hd : decode M.2.1 pc = .ok (.iaload, 1)) (hs : am_sh a = .inl (.int, n)) (hi : vp_in i n) (k : Ru M sc d (pc + 1) L (.int (h.2.2 a i.toNatClampNeg) :: st) h Z) : Ru M sc d pc L (.int i :: .ref a :: st) h Z := by
  intro p l e R s m args below meth c H locs cells slots Q G D cT ls C hP hS hL hret
  exact va_iald C.1 C.2.1 C.2.2.2.2.2.1 hP a 0 (am_ws_getl hs) rfl hi hd (k p l e R s m args below meth c H locs cells slots Q G D cT ls C hP hS hL hret)
theorem st_bald {a n : Nat} {i : Int32} (hd : decode M.2.1 pc = .ok (.baload, 1)) (hs : am_sh a = .inl (.byte, n)) (hi : vp_in i n) (k : Ru M sc d (pc + 1) L (.int (h.2.2 a i.toNatClampNeg) :: st) h Z) : Ru M sc d pc L (.int i :: .ref a :: st) h Z := by
  intro p l e R s m args below meth c H locs cells slots Q G D cT ls C hP hS hL hret
  exact va_bald C.1 C.2.1 C.2.2.2.2.2.1 hP a 1 (am_ws_getl hs) rfl hi hd (k p l e R s m args below meth c H locs cells slots Q G D cT ls C hP hS hL hret)
theorem st_zald {a n : Nat} {i : Int32} (hd : decode M.2.1 pc = .ok (.baload, 1)) (hs : am_sh a = .inl (.boolean, n)) (hi : vp_in i n) (k : Ru M sc d (pc + 1) L (.int (h.2.2 a i.toNatClampNeg) :: st) h Z) : Ru M sc d pc L (.int i :: .ref a :: st) h Z := by
  intro p l e R s m args below meth c H locs cells slots Q G D cT ls C hP hS hL hret
  exact va_zald C.1 C.2.1 C.2.2.2.2.2.1 hP a 2 (am_ws_getl hs) rfl hi hd (k p l e R s m args below meth c H locs cells slots Q G D cT ls C hP hS hL hret)
theorem st_iast {a n : Nat} {i x : Int32} (hd : decode M.2.1 pc = .ok (.iastore, 1)) (hs : am_sh a = .inl (.int, n)) (hi : vp_in i n) (kk : ∀ h1 : am_H, h1 = am_sR h a (upd (h.2.2 a) i.toNatClampNeg x) → Ru M sc d (pc + 1) L st h1 Z) : Ru M sc d pc L (.int x :: .int i :: .ref a :: st) h Z := by
  intro p l e R s m args below meth c H locs cells slots Q G D cT ls C hP hS hL hret
  exact va_iast C.1 C.2.1 C.2.2.2.2.2.1 hP am_wsD hS a 0 (am_ws_getl hs) rfl hi hd (fun H1 locs1 hP1 hD1 hS1 => kk _ rfl p l e R s m args below meth c H1 locs1 cells slots Q G D cT ls C (by rw [← am_ws_sR hs]; exact hP1) hS1 hL hret)
theorem st_bast {a n : Nat} {i x : Int32} (hd : decode M.2.1 pc = .ok (.bastore, 1)) (hs : am_sh a = .inl (.byte, n)) (hi : vp_in i n) (kk : ∀ h1 : am_H, h1 = am_sR h a (upd (h.2.2 a) i.toNatClampNeg (vp_nar .byte x)) → Ru M sc d (pc + 1) L st h1 Z) : Ru M sc d pc L (.int x :: .int i :: .ref a :: st) h Z := by
  intro p l e R s m args below meth c H locs cells slots Q G D cT ls C hP hS hL hret
  exact va_bast C.1 C.2.1 C.2.2.2.2.2.1 hP am_wsD hS a 1 (am_ws_getl hs) rfl hi hd (fun H1 locs1 hP1 hD1 hS1 => kk _ rfl p l e R s m args below meth c H1 locs1 cells slots Q G D cT ls C (by rw [← am_ws_sR hs]; exact hP1) hS1 hL hret)
theorem st_zast {a n : Nat} {i x : Int32} (hd : decode M.2.1 pc = .ok (.bastore, 1)) (hs : am_sh a = .inl (.boolean, n)) (hi : vp_in i n) (kk : ∀ h1 : am_H, h1 = am_sR h a (upd (h.2.2 a) i.toNatClampNeg (vp_nar .boolean x)) → Ru M sc d (pc + 1) L st h1 Z) : Ru M sc d pc L (.int x :: .int i :: .ref a :: st) h Z := by
  intro p l e R s m args below meth c H locs cells slots Q G D cT ls C hP hS hL hret
  exact va_zast C.1 C.2.1 C.2.2.2.2.2.1 hP am_wsD hS a 2 (am_ws_getl hs) rfl hi hd (fun H1 locs1 hP1 hD1 hS1 => kk _ rfl p l e R s m args below meth c H1 locs1 cells slots Q G D cT ls C (by rw [← am_ws_sR hs]; exact hP1) hS1 hL hret)
theorem st_alen {a n : Nat} (hd : decode M.2.1 pc = .ok (.arraylength, 1)) (hs : am_sh a = .inl (.int, n)) (k : Ru M sc d (pc + 1) L (.int (Int32.ofNat n) :: st) h Z) : Ru M sc d pc L (.ref a :: st) h Z := by
  intro p l e R s m args below meth c H locs cells slots Q G D cT ls C hP hS hL hret
  exact va_alen C.1 C.2.1 C.2.2.2.2.2.1 hP a 0 (am_ws_getl hs) rfl rfl hd (k p l e R s m args below meth c H locs cells slots Q G D cT ls C hP hS hL hret)
theorem st_copy {a a0 n0 n1 idx : Nat} {sp dp n : Int32} (hd : decode M.2.1 pc = .ok (.invokestatic idx, 3)) (hlk : Cond.methodLink M.1.cls idx arraycopyName ∈ lw_g) (hnat : Cond.native arraycopyName ∈ lw_g) (hstat : Cond.static arraycopyName ∈ lw_g) (hini : Cond.initialized "java/lang/System" ∈ lw_g) (hs0 : am_sh a0 = .inl (.int, n0)) (hs1 : am_sh a = .inl (.int, n1))
    (h1 : ¬ sp < 0) (h2 : ¬ dp < 0) (h3 : ¬ n < 0) (h4 : sp.toNatClampNeg + n.toNatClampNeg ≤ n0) (h5 : dp.toNatClampNeg + n.toNatClampNeg ≤ n1) (hd1 : 1 ≤ d) (hr : st = [])
    (kk : ∀ h1 : am_H, h1 = am_sR h a (va_cpy (h.2.2 a0) (h.2.2 a) sp.toNatClampNeg dp.toNatClampNeg n.toNatClampNeg) → Ru M sc d (pc + 3) L st h1 Z) : Ru M sc d pc L (.int n :: .int dp :: .ref a :: .int sp :: .ref a0 :: st) h Z := by
  subst hr
  intro p l e R s m args below meth c H locs cells slots Q G D cT ls C hP hS hL hret
  refine va_copyi (ls := ls) C.1 C.2.1 (by rw [hL.2.1]; exact C.2.2.1) C.2.2.2.1 (C.2.2.2.2.1 _ hlk) (C.2.2.2.2.1 _ hnat) (C.2.2.2.2.1 _ hstat) (C.2.2.2.2.1 _ hini) C.2.2.2.2.2.1 hP am_wsD hS a0 a 0 0 (am_ws_getl hs0) (am_ws_getl hs1) rfl rfl rfl h1 h2 h3 h4 h5 (fun i _ => rfl) ?_ ?_ hd (fun H1 locs1 hP1 hD1 hS1 => kk _ rfl p l e R s m args below meth c H1 locs1 cells slots Q G D cT ls C (by rw [← am_ws_sR hs1]; exact hP1) hS1 hL hret)
  · have := C.2.2.2.2.2.2.2.2.2.1; omega
  · have h9 := C.2.2.2.2.2.2.2.2.2.2.1
    have hw : nativeFrameWords "java/lang/System" "arraycopy" 5 + 11 ≤ 40 := by decide +kernel
    simp only [List.map_nil, List.sum_nil]
    have : am_kk * 1 ≤ am_kk * d := Nat.mul_le_mul_left _ hd1
    simp only [am_kk] at this h9
    omega
theorem st_mmax {idx : Nat} {x y : Int32} (hd : decode M.2.1 pc = .ok (.invokestatic idx, 3)) (hlk : Cond.methodLink M.1.cls idx Lib.Math.max.name ∈ lw_g) (hd1 : 1 ≤ d) (hrs : am_rest st = true) (k : Ru M sc d (pc + 3) L (.int (am_max x y) :: st) h Z) : Ru M sc d pc L (.int y :: .int x :: st) h Z := by
  intro p l e R s m args below meth c H locs cells slots Q G D cT ls C hP hS hL hret
  obtain ⟨hx, hb, hml, hown, hts, hK, hSt, hX, hz, hf, hlo, hce, hsl⟩ := id C
  unfold am_rest at hrs
  rw [Bool.and_eq_true, decide_eq_true_eq] at hrs
  have h9 : am_kk * 1 ≤ am_kk * d := Nat.mul_le_mul_left _ hd1
  simp only [am_kk] at h9 hlo
  refine va_mmax (ls := ls) hx hb (by rw [hL.2.1]; exact hml) hown (hts _ hlk) (hts _ mm_max_s) (hts _ mm_init) (hts _ mm_max_c) (by omega) ?_ hce hsl hd (k p l e R s m args below meth c H locs cells slots Q G D cT ls C hP hS hL hret)
  rw [am_rest_sum hrs.1]; omega
theorem st_mmin {idx : Nat} {x y : Int32} (hd : decode M.2.1 pc = .ok (.invokestatic idx, 3)) (hlk : Cond.methodLink M.1.cls idx Lib.Math.min.name ∈ lw_g) (hd1 : 1 ≤ d) (hrs : am_rest st = true) (k : Ru M sc d (pc + 3) L (.int (am_min x y) :: st) h Z) : Ru M sc d pc L (.int y :: .int x :: st) h Z := by
  intro p l e R s m args below meth c H locs cells slots Q G D cT ls C hP hS hL hret
  obtain ⟨hx, hb, hml, hown, hts, hK, hSt, hX, hz, hf, hlo, hce, hsl⟩ := id C
  unfold am_rest at hrs
  rw [Bool.and_eq_true, decide_eq_true_eq] at hrs
  have h9 : am_kk * 1 ≤ am_kk * d := Nat.mul_le_mul_left _ hd1
  simp only [am_kk] at h9 hlo
  refine va_mmin (ls := ls) hx hb (by rw [hL.2.1]; exact hml) hown (hts _ hlk) (hts _ mm_min_s) (hts _ mm_init) (hts _ mm_min_c) (by omega) ?_ hce hsl hd (k p l e R s m args below meth c H locs cells slots Q G D cT ls C hP hS hL hret)
  rw [am_rest_sum hrs.1]; omega
theorem st_ireturn {x : Int32} {ty : FieldType} (hM : M.2.2.2 = some ty) (hn : narrow ty (.int x) = .int x) (hd : decode M.2.1 pc = .ok (.ireturn, 1)) (hz : Z x h) : Ru M sc d pc L [.int x] h Z := by
  intro p l e R s m args below meth c H locs cells slots Q G D cT ls C hP hS hL hret
  have hw := hret x h H locs pc ls hz (by unfold am_end; rw [hM]; exact hn) hP hS (by unfold am_ri; rw [hM]; exact hd)
  unfold am_rv at hw
  rw [hM] at hw
  exact hw
theorem st_return (hM : M.2.2.2 = none) (hd : decode M.2.1 pc = .ok (.return_, 1)) (hz : Z 0 h) : Ru M sc d pc L [] h Z := by
  intro p l e R s m args below meth c H locs cells slots Q G D cT ls C hP hS hL hret
  have hw := hret 0 h H locs pc ls hz (by unfold am_end; rw [hM]) hP hS (by unfold am_ri; rw [hM]; exact hd)
  unfold am_rv at hw
  rw [hM] at hw
  exact hw
theorem am_allgood : ∀ v ∈ lw_g, goodWord v = true := fun v hv => (List.mem_filter.mp hv).2

theorem am_good {w : Cond} (hw : w ∈ lw_g) : GoodIn lw_g (w :: lw_g) := fun v hv => by
  have hm : v ∈ lw_g := by
    rcases List.mem_cons.mp hv with rfl | h
    · exact hw
    · exact h
  exact ⟨hm, good_of_word (am_allgood v hm)⟩
def am_Pc (G : am_G) (D : va_G) (cT : FieldType → ClassId) (h : am_H) (args : List Value) : Array Value → State → Prop := va_Pc (args.map (am_v G)) (fun U => va_P D vwCl (am_ws G cT h) U.heap ∧ va_K D vwCl (am_tys cT) U ∧ am_S G U ∧ G.1 ≤ U.heap.size)
theorem am_blind {G : am_G} {D : va_G} {cT : FieldType → ClassId} {h : am_H} {args : List Value} : FrameBlind (am_Pc G D cT h args) := by
  intro a U g mk hq
  obtain ⟨q0, qP, qK, ⟨s1, s2, s3⟩, qz⟩ := hq
  exact ⟨q0, qP, va_K.moved (u := U) (U := U.calling g mk a) (Vm.Alike.refl U.vm) qK, ⟨vk_R.same (u := U) (U := U.calling g mk a) rfl s1, vk_S.moved (u := U) (U := U.calling g mk a) (Vm.Alike.refl U.vm) s2, va_Z.moved (u := U) (U := U.calling g mk a) (Vm.Alike.refl U.vm) s3⟩, qz⟩
theorem am_ran {p : Program} {l : Launch} {e : Env} {R : Room} {s : State} {m : MethodId} {args : Array Value} {below : List Frame} {meth : Method} {c : Code} {H : Heap} {locs : List Loc} {cells slots : Nat} {Q : State → Prop} {G : am_G} {D : va_G} {cT : FieldType → ClassId} {ls : Array Slot} {M' : am_M} {K : Int32 → am_H → Prop} {a : Array Value} {st0 rest : List Value}
    (C : am_C p R s m args c cells slots G D cT M sc d) (hS : va_S (am_A G) s.heap H locs) (hL : am_L G M.2.2.1 L ls)
    (hret : ∀ (r : Int32) (h' : am_H) (H' : Heap) (locs' : List Loc) (pc' : Nat) (ls' : Array Slot), Z r h' → am_end M r → va_P D vwCl (am_ws G cT h') H' → va_S (am_A G) s.heap H' locs' → decode M.2.1 pc' = .ok (am_ri M, 1) → W p l e R s m args below meth c H' locs' cells slots Q (F0 m pc' ls' (am_rv M r).toList))
    (hr : va_Run p l e R s m args below meth c H locs cells slots 0 0 (F0 m pc ls st0) (rest.map (am_v G)) (am_Q G D cT M' K a) (am_A G))
    (k : ∀ (r : Int32) (h' : am_H), K r h' → Ru M sc d (pc + 3) L ((am_rv M' r).toList ++ rest) h' Z) : W p l e R s m args below meth c H locs cells slots Q (F0 m pc ls st0) := by
  intro T hT X
  obtain ⟨v, st₀, t, T', L2, h0, X', hL2, e1, e2, ⟨⟨r, h', hv, hz, hP'⟩, hz1, hk⟩, stp⟩ := hr T hT X
  have hv' : v = am_rv M' r := Outcome.returned.inj hv
  subst hv'
  rw [h0] at hz1 hk
  have hS' : va_S (am_A G) s.heap T'.heap (locs ++ L2) := ⟨Nat.le_trans hS.1 (by rw [e1]; exact hz1), fun q g1 g2 => by rw [e1, hk q (Nat.lt_of_lt_of_le g1 hS.1) g2]; exact hS.2.1 q g1 g2, fun q hq => by
      rcases List.mem_append.mp hq with g | g
      · exact hS.2.2 q g
      · exact hL2 q g⟩
  obtain ⟨t2, a1, b1⟩ := k r h' hz p l e R s m args below meth c T'.heap (locs ++ L2) cells slots Q G D cT ls C (by rw [e1]; exact hP') hS' hL hret T' rfl X'
  refine ⟨t2, stp t2 ?_, b1⟩
  have ee : ((am_rv M' r).toList ++ rest).map (am_v G) = (am_rv M' r).toList ++ rest.map (am_v G) := by
    rw [List.map_append]
    congr 1
    unfold am_rv
    cases M'.2.2.2 <;> rfl
  rw [ee] at a1
  exact a1
theorem am_call_hR {R : Room} {d' mL : Nat} (hd' : d' < d) (hm : mL ≤ 21) (h1 : d ≤ R.frames) (h2 : am_kk * d ≤ R.locals) : (am_room d').frames + 1 ≤ R.frames ∧ 8 + (mL + 11) + (am_room d').locals ≤ R.locals := by
  have : am_kk * (d' + 1) ≤ am_kk * d := Nat.mul_le_mul_left _ hd'
  simp only [am_kk, am_room] at *
  omega
theorem st_callV {M' : am_M} {idx n a ci : Nat} {st0 : List Value} {K : Int32 → am_H → Prop} (As : List Value) (rest : List Value) (hd : decode M.2.1 pc = .ok (.invokevirtual idx, 3)) (hlk : Cond.methodLink M.1.cls idx M'.1 ∈ lw_g) (hm : am_mf M' n) (hv : am_mv M' ci) (hs : am_sh a = .inr ci) (hn : As.length = n) (hst : st0 = As.reverse ++ .ref a :: rest) (hrs : am_rest rest = true) (w : am_cl M' d (.ref a :: As) h K)
    (k : ∀ (r : Int32) (h' : am_H), K r h' → Ru M sc d (pc + 3) L ((am_rv M' r).toList ++ rest) h' Z) : Ru M sc d pc L st0 h Z := by
  intro p l e R s m args below meth c H locs cells slots Q G D cT ls C hP hS hL hret
  obtain ⟨d', hdd, hsp⟩ := w
  obtain ⟨g1, g2, g3, g4, g5⟩ := hm
  obtain ⟨v1, v2, v3, T, N, v4⟩ := hv
  obtain ⟨hx, hb, hml, hown, hts, hK, hSt, hX, hz, hf, hlo, hce, hsl⟩ := id C
  unfold am_rest at hrs
  rw [Bool.and_eq_true, decide_eq_true_eq] at hrs
  refine am_ran C hS hL hret (va_runV (C := M'.1.cls) (As := As.map (am_v G)) (rest := rest.map (am_v G)) (b := G.1 + a) ⟨hx, hb, hml, hown, hts⟩ (hsp l G D cT) ⟨callB_of n hts (am_good g1) rfl rfl rfl (hts _ g2) (hts _ hlk) g3 (am_call_hR hdd g4 hf hlo), hts _ v1, hts _ v2⟩ ⟨am_blind, va_recv hK hP v4 (am_ws_getr hs v3), fun U hU hW => ⟨rfl, by rw [hU]; exact hP, va_K.moved hW.alike hK, am_S_at hSt hS hU hW, by rw [hU]; exact Nat.le_trans hz hS.1⟩⟩ rfl (by rw [List.length_map]; exact hn) (by rw [show (F0 m pc ls (st0.map (am_v G))).locals = ls from rfl]; exact hL.2.1) ?_ (lv_room (by rw [am_rest_sum hrs.1]; exact hrs.2)) hd ⟨by simpa using hce, by simpa using hsl⟩) k
  subst hst
  show (As.reverse ++ .ref a :: rest).map (am_v G) = _
  rw [List.map_append, List.map_reverse]
  rfl
theorem st_callS {M' : am_M} {idx n : Nat} {st0 : List Value} {K : Int32 → am_H → Prop} (As : List Value) (rest : List Value) (hd : decode M.2.1 pc = .ok (.invokestatic idx, 3)) (hlk : Cond.methodLink M.1.cls idx M'.1 ∈ lw_g) (hm : am_mf M' n) (hv : Cond.static M'.1 ∈ lw_g) (hn : As.length = n) (hst : st0 = As.reverse ++ rest) (hrs : am_rest rest = true) (w : am_cl M' d As h K)
    (k : ∀ (r : Int32) (h' : am_H), K r h' → Ru M sc d (pc + 3) L ((am_rv M' r).toList ++ rest) h' Z) : Ru M sc d pc L st0 h Z := by
  intro p l e R s m args below meth c H locs cells slots Q G D cT ls C hP hS hL hret
  obtain ⟨d', hdd, hsp⟩ := w
  obtain ⟨g1, g2, g3, g4, g5⟩ := hm
  obtain ⟨hx, hb, hml, hown, hts, hK, hSt, hX, hz, hf, hlo, hce, hsl⟩ := id C
  unfold am_rest at hrs
  rw [Bool.and_eq_true, decide_eq_true_eq] at hrs
  refine am_ran C hS hL hret (va_runS (As := As.map (am_v G)) (rest := rest.map (am_v G)) ⟨hx, hb, hml, hown, hts⟩ (hsp l G D cT) ⟨callB_of n hts (am_good g1) rfl rfl rfl (hts _ g2) (hts _ hlk) g3 (am_call_hR hdd g4 hf hlo), hts _ hv⟩ ⟨am_blind, fun U hU hW => ⟨rfl, by rw [hU]; exact hP, va_K.moved hW.alike hK, am_S_at hSt hS hU hW, by rw [hU]; exact Nat.le_trans hz hS.1⟩⟩ rfl (by rw [List.length_map]; exact hn) (by rw [show (F0 m pc ls (st0.map (am_v G))).locals = ls from rfl]; exact hL.2.1) ?_ (lv_room (by rw [am_rest_sum hrs.1]; exact hrs.2)) hd ⟨by simpa using hce, by simpa using hsl⟩) k
  subst hst
  show (As.reverse ++ rest).map (am_v G) = _
  rw [List.map_append, List.map_reverse]

theorem am_sl {G : am_G} : ∀ {args : List Value}, args.all am_g = true → lg_sl (args.map (am_v G)) = args.map (fun v => Slot.val (am_v G v))
  | [], _ => rfl
  | v :: l, ha => by
    rw [List.all_cons, Bool.and_eq_true] at ha
    have ih := am_sl (G := G) ha.2
    unfold lg_sl at ih ⊢
    rw [List.map_cons, List.flatMap_cons, ih]
    have hc := am_cat (G := G) ha.1
    simp [hc]
theorem am_wfL {ls : Array Slot} (h1 : ∀ (i : Nat) (v : Value), ls[i]? = some (.val v) → v.category = 1) (h2 : ∀ i : Nat, ls[i]? ≠ some .second) : lv_wf ls :=
  ⟨fun i v hi hc => by have := h1 i v hi; omega, fun i hi => absurd hi (h2 i)⟩
theorem Sp_of {args : List Value} {n : Nat} (hm : am_mf M n) (ha : args.all am_g = true) (hlen : args.length ≤ M.2.2.1) (hL : args ++ List.replicate (M.2.2.1 - args.length) .null = L) (k : Ru M none d 0 L [] h Z) : Sp M d args h Z := by
  intro l G D cT
  refine Met.ofW (cc := M.2.1) (maxL := M.2.2.1) (ret := M.2.2.2) hm.2.2.2.2 rfl ?_
  intro p e s m args0 below meth c s₁ B hml hv
  obtain ⟨rfl, hP, hK, hSt, hz⟩ := hv
  have hts := atoms_spec (ws := Cond.code M.1 M.2.1 M.2.2.1 M.2.2.2 :: lw_g) B.pre
  have hown : s.vm.findClass M.1.cls = some m.cls := findClass_of_methodNamed B.named
  have hlocks := B.notSynchronized
  rw [lg_entry_eq]
  have hsl := am_sl (G := G) ha
  have hl := lv_entry (args.map (am_v G)) (n := M.2.2.1) (by rw [hsl, List.length_map]; exact hlen)
  generalize hls : (lg_sl (args.map (am_v G)) ++ List.replicate (M.2.2.1 - (lg_sl (args.map (am_v G))).length) Slot.unset).toArray = ls at hl ⊢
  have hLL : am_L G M.2.2.1 L ls := by
    refine ⟨by rw [← hL]; simp; omega, hl.1, hl.2.1, fun i v hi hg => ?_⟩
    rw [← hL] at hi
    rcases Nat.lt_or_ge i args.length with q | q
    · rw [List.getElem?_append_left q] at hi
      rw [← hls, hsl]
      have q2 : i < (args.map (fun v => Slot.val (am_v G v))).length := by rw [List.length_map]; exact q
      rw [List.getElem?_toArray, List.getElem?_append_left q2, List.getElem?_map, hi]
      rfl
    · rw [List.getElem?_append_right q] at hi
      obtain ⟨e1, e2⟩ := List.getElem?_eq_some_iff.mp hi
      rw [List.getElem_replicate] at e2
      rw [← e2] at hg
      cases hg
  refine k p l e _ s m _ below meth c s.heap [] 0 0 _ G D cT ls ⟨B.exec, B.bytes, hml, hown, fun w hw => hts w (List.mem_cons_of_mem _ hw), hK, hSt, trivial, hz, Nat.le_refl _, Nat.le_refl _, Nat.zero_le _, Nat.zero_le _⟩ hP va_S.rf hLL ?_
  intro r h' H' locs' pc' ls' hzz hend hP' hS' hdc
  unfold am_end at hend
  unfold am_ri at hdc
  unfold am_rv
  have hr := B.returns
  cases hM : M.2.2.2 with
  | none =>
    rw [hM] at hend hdc hr
    refine W.vret B.exec B.bytes hr (fun t ht hW => ⟨⟨r, h', by unfold am_rv; rw [hM], hzz, by rw [ht]; exact hP'⟩, hS'.F ht⟩) (fun q hq => hS'.2.2 q hq) hdc
  | some ty =>
    rw [hM] at hend hdc hr
    refine W.zret B.exec B.bytes hr hend (fun t ht hW => ⟨⟨r, h', by unfold am_rv; rw [hM], hzz, by rw [ht]; exact hP'⟩, hS'.F ht⟩) (fun q hq => hS'.2.2 q hq) hdc
theorem am_ru_mono {Z' : Int32 → am_H → Prop} (k : Ru M sc d pc L st h Z') (hz : ∀ r h', Z' r h' → Z r h') : Ru M sc d pc L st h Z := by
  intro p l e R s m args below meth c H locs cells slots Q G D cT ls C hP hS hL hret
  exact k p l e R s m args below meth c H locs cells slots Q G D cT ls C hP hS hL (fun r h' H' locs' pc' ls' z => hret r h' H' locs' pc' ls' (hz r h' z))
theorem am_sp_mono {args : List Value} {Z' : Int32 → am_H → Prop} (k : Sp M d args h Z') (hz : ∀ r h', Z' r h' → Z r h') : Sp M d args h Z := by
  intro l G D cT p e ha hc hk s m a below hf happ hpre htr
  obtain ⟨t, o, q1, q2, q3, ⟨⟨r, h', e1, e2, e3⟩, e4⟩, e5⟩ := k l G D cT p e ha hc hk s m a below hf happ hpre htr
  exact ⟨t, o, q1, q2, q3, ⟨⟨r, h', e1, hz r h' e2, e3⟩, e4⟩, e5⟩

def am_b (c : Prop) [Decidable c] : Int32 := if c then 1 else 0
theorem am_b1 {c : Prop} [Decidable c] (hc : c) : am_b c = 1 := if_pos hc
theorem am_b0 {c : Prop} [Decidable c] (hc : ¬ c) : am_b c = 0 := if_neg hc
theorem am_bz {c : Prop} [Decidable c] : am_b c = 0 ↔ ¬ c := by
  unfold am_b; by_cases hc : c <;> simp [hc]
theorem st_ifb_eq {c : Prop} [Decidable c] {off : Int} {tgt : Nat} (hd : decode M.2.1 pc = .ok (.ifCond .eq off, 3)) (ht : (pc : Int) + off = (tgt : Int)) (kt : ¬ c → Ru M sc d tgt L st h Z) (kf : c → Ru M sc d (pc + 3) L st h Z) : Ru M sc d pc L (.int (am_b c) :: st) h Z :=
  st_if_eq hd ht (fun q => kt (am_bz.mp q)) (fun q => kf (by by_cases hc : c; exact hc; exact absurd (am_bz.mpr hc) q))
theorem st_ifb_ne {c : Prop} [Decidable c] {off : Int} {tgt : Nat} (hd : decode M.2.1 pc = .ok (.ifCond .ne off, 3)) (ht : (pc : Int) + off = (tgt : Int)) (kt : c → Ru M sc d tgt L st h Z) (kf : ¬ c → Ru M sc d (pc + 3) L st h Z) : Ru M sc d pc L (.int (am_b c) :: st) h Z :=
  st_if_ne hd ht (fun q => kt (by by_cases hc : c; exact hc; exact absurd (am_bz.mpr hc) q)) (fun q => kf (am_bz.mp q))
theorem am_nb {x : Int32} (hx : x = 0 ∨ x = 1) : narrow .boolean (.int x) = .int x := by rcases hx with rfl | rfl <;> rfl
theorem am_b01 (c : Prop) [Decidable c] : am_b c = 0 ∨ am_b c = 1 := by by_cases hc : c; exact Or.inr (am_b1 hc); exact Or.inl (am_b0 hc)
theorem am_nbc (c : Prop) [Decidable c] : narrow .boolean (.int (am_b c)) = .int (am_b c) := am_nb (am_b01 c)
theorem am_toI {x : Int32} {v : Int} {k : Int32} (hx : x.toInt = v) (hk : k.toInt = v) : x = k := Int32.toInt_inj.mp (hx.trans hk.symm)
theorem am_tout {x : Int32} {lo hi : Int} (hq : ∀ v : Int, lo ≤ v → v ≤ hi → x.toInt = v → False) : x.toInt < lo ∨ hi < x.toInt := by
  rcases Int.lt_or_le x.toInt lo with q | q
  · exact Or.inl q
  · rcases Int.lt_or_le hi x.toInt with q2 | q2
    · exact Or.inr q2
    · exact (hq x.toInt q q2 rfl).elim
end AMSTEP
