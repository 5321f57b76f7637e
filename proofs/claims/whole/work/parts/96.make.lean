-- constructors: a world that grows, cell by cell
abbrev am_E : Type := (FieldType × Nat × (Nat → Int32)) ⊕ (Nat × List Value)
def am_ce (G : am_G) (cT : FieldType → ClassId) : am_E → va_E
  | .inl q => .inl (cT q.1, q.2.1, .inl q.2.2)
  | .inr o => .inr (o.1, o.2.map (am_v G))
def am_wc (G : am_G) (cT : FieldType → ClassId) (cs : List am_E) : va_W := cs.mapIdx (fun i e => (G.1 + i, am_ce G cT e))
section
variable {G : am_G} {cT : FieldType → ClassId} {cs : List am_E} {D : va_G} {H : Heap}
theorem am_wc_get (i : Nat) : (am_wc G cT cs)[i]? = (cs[i]?).map (fun e => (G.1 + i, am_ce G cT e)) := List.getElem?_mapIdx
theorem am_wc_g {i : Nat} {e : am_E} (h : cs[i]? = some e) : (am_wc G cT cs)[i]? = some (G.1 + i, am_ce G cT e) := by rw [am_wc_get, h]; rfl
theorem am_wc_len : (am_wc G cT cs).length = cs.length := List.length_mapIdx
theorem am_wc_at {i : Nat} {q : Nat × va_E} (h : (am_wc G cT cs)[i]? = some q) : q.1 = G.1 + i := by
  rw [am_wc_get] at h
  cases e : cs[i]? with
  | none => rw [e] at h; cases h
  | some x => rw [e] at h; cases h; rfl
theorem am_wc_app (e : am_E) : am_wc G cT (cs ++ [e]) = am_wc G cT cs ++ [(G.1 + cs.length, am_ce G cT e)] := by
  unfold am_wc; rw [List.mapIdx_append]; simp
theorem am_wc_set {i : Nat} {e0 e : am_E} (h : cs[i]? = some e0) : (am_wc G cT cs).set i (G.1 + i, am_ce G cT e) = am_wc G cT (cs.set i e) := by
  apply List.ext_getElem?
  intro j
  have hi : i < cs.length := (List.getElem?_eq_some_iff.mp h).1
  rw [am_wc_get]
  by_cases c : j = i
  · subst c
    rw [List.getElem?_set_self (by rw [am_wc_len]; exact hi), List.getElem?_set_self hi]; rfl
  · rw [List.getElem?_set_ne (Ne.symm c), List.getElem?_set_ne (Ne.symm c), am_wc_get]
theorem am_wcD : va_D (am_A G) (am_wc G cT cs) := ⟨fun i j p q hi hj e => by have := am_wc_at hi; have := am_wc_at hj; omega, fun k q hk => by have := am_wc_at hk; show G.1 ≤ q.1; omega⟩
theorem am_szE (hP : va_P D vwCl (am_wc G cT cs) H) (hne : 0 < cs.length) (hle : H.size ≤ G.1 + cs.length) : H.size = G.1 + cs.length := by
  have h1 : (am_wc G cT cs)[cs.length - 1]? = some (G.1 + (cs.length - 1), am_ce G cT (cs[cs.length - 1]'(by omega))) := am_wc_g (List.getElem?_eq_getElem (by omega))
  have h2 : G.1 + (cs.length - 1) < H.size := (hP _ _ h1).lt
  omega
/-- the place of a new cell -/
theorem am_newat {q : Nat} {e : va_E} (hP : va_P D vwCl (am_wc G cT cs ++ [(q, e)]) H) (hD : va_D (am_A G) (am_wc G cT cs ++ [(q, e)])) (hle : H.size ≤ G.1 + cs.length + 1) : q = G.1 + cs.length := by
  have h1 : (am_wc G cT cs ++ [(q, e)])[cs.length]? = some (q, e) := by rw [List.getElem?_append_right (by rw [am_wc_len]; exact Nat.le_refl _), am_wc_len, Nat.sub_self]; rfl
  have h2 : q < H.size := (hP _ _ h1).lt
  have h3 : G.1 ≤ q := hD.2 _ _ h1
  rcases Nat.lt_or_ge q (G.1 + cs.length) with c | c
  · exfalso
    have hi : q - G.1 < cs.length := by omega
    have h4 : (am_wc G cT cs ++ [(q, e)])[q - G.1]? = some (G.1 + (q - G.1), am_ce G cT (cs[q - G.1]'hi)) := by rw [List.getElem?_append_left (by rw [am_wc_len]; exact hi)]; exact am_wc_g (List.getElem?_eq_getElem hi)
    have := hD.1 _ _ _ _ h1 h4 (by show q = G.1 + (q - G.1); omega)
    omega
  · omega
end
section
variable {p : Program} {l : Launch} {e : Env} {R : Room} {s : State} {m : MethodId} {args : Array Value} {below : List Frame} {meth : Method} {c : Code} {H : Heap} {locs : List Loc} {cells slots : Nat} {Q : State → Prop}
theorem am_Wsz {g : JFrame} (kk : H.size ≤ s.heap.size + cells → W p l e R s m args below meth c H locs cells slots Q g) : W p l e R s m args below meth c H locs cells slots Q g := fun T hT X => kk (by rw [← hT]; exact X.heapSize) T hT X
end
/-- links inside the nest, as the tables have them -/
def am_NW (U : State) : Prop := va_Nw (.methodLinkNest RX10 9 yX9_init RX10) U ∧ va_Nw (.methodLinkNest RX10 43 yX2_init RX10) U ∧ va_Nw (.methodLinkNest RX10 64 yX0_init RX10) U ∧ va_Nw (.methodLinkNest RX10 80 yX3_init RX10) U
theorem am_NW_w {s U : State} (hW : s.WarmedH U.vm) (h : am_NW s) : am_NW U := ⟨va_Nw.warmM hW h.1, va_Nw.warmM hW h.2.1, va_Nw.warmM hW h.2.2.1, va_Nw.warmM hW h.2.2.2⟩
theorem am_NW_s {s U : State} (hW : s.vm = U.vm) (h : am_NW s) : am_NW U := ⟨va_Nw.same rfl hW h.1, va_Nw.same rfl hW h.2.1, va_Nw.same rfl hW h.2.2.1, va_Nw.same rfl hW h.2.2.2⟩
def am_CC (p : Program) (R : Room) (s : State) (m : MethodId) (args : Array Value) (meth : Method) (c : Code) (G : am_G) (D : va_G) (cT : FieldType → ClassId) (M : am_M) (d : Nat) : Prop :=
  p.tables.exec = Jvm.exec ∧ c.code = M.2.1 ∧ c.maxLocals = M.2.2.1 ∧ s.vm.findClass M.1.cls = some m.cls ∧ (∀ w ∈ lw_g, w.before args s = true) ∧ va_K D vwCl (am_tys cT) s ∧ G.1 ≤ s.heap.size ∧ d ≤ R.frames ∧ am_kk * d ≤ R.locals ∧ (M.1.name = "<init>" → meth.name = "<init>") ∧ am_NW s
/-- a run that makes cells: nc cells of ns slots may still come -/
def Cu (M : am_M) (d pc : Nat) (L st : List Value) (cs : List am_E) (nc ns : Nat) (Z : Nat → List Value → List am_E → Prop) : Prop :=
  ∀ (p : Program) (l : Launch) (e : Env) (R : Room) (s : State) (m : MethodId) (args : Array Value) (below : List Frame) (meth : Method) (c : Code) (H : Heap) (locs : List Loc) (cells slots : Nat) (Q : State → Prop) (G : am_G) (D : va_G) (cT : FieldType → ClassId) (ls : Array Slot),
    am_CC p R s m args meth c G D cT M d → cells + nc ≤ R.cells → slots + ns ≤ R.slots → va_P D vwCl (am_wc G cT cs) H → s.heap.size + cells = G.1 + cs.length → va_S (am_A G) s.heap H locs → am_L G M.2.2.1 L ls →
    (∀ (cs' : List am_E) (H' : Heap) (locs' : List Loc) (cells' slots' pc' : Nat) (ls' : Array Slot) (L' : List Value), Z pc' L' cs' → cells' ≤ cells + nc → slots' ≤ slots + ns → va_P D vwCl (am_wc G cT cs') H' → s.heap.size + cells' = G.1 + cs'.length → va_S (am_A G) s.heap H' locs' → am_L G M.2.2.1 L' ls' → W p l e R s m args below meth c H' locs' cells' slots' Q (F0 m pc' ls' [])) →
    W p l e R s m args below meth c H locs cells slots Q (F0 m pc ls (st.map (am_v G)))
/-- a constructor: from the cells cs to cs', mc cells of ms slots come -/
def Sc (M : am_M) (d : Nat) (args : List Value) (cs cs' : List am_E) (mc ms : Nat) : Prop :=
  ∀ (l : Launch) (G : am_G) (D : va_G) (cT : FieldType → ClassId), Met l M.1 (Cond.code M.1 M.2.1 M.2.2.1 M.2.2.2 :: lw_g) ({ frames := d, cells := mc, slots := ms, locals := am_kk * d } : Room) (va_Pc (args.map (am_v G)) (fun U => va_P D vwCl (am_wc G cT cs) U.heap ∧ va_K D vwCl (am_tys cT) U ∧ U.heap.size = G.1 + cs.length ∧ am_NW U)) (va_Qv (fun _ : Unit => True) (fun _ t => va_P D vwCl (am_wc G cT cs') t.heap) (am_A G)) mc ms (am_A G)
section
variable {M : am_M} {d pc nc ns : Nat} {L st : List Value} {cs : List am_E} {Z : Nat → List Value → List am_E → Prop}
theorem cu_aload {i : Fin 4} {x : Nat} (hd : decode M.2.1 pc = .ok (.aload_n i, 1)) (hl : L[(i : Nat)]? = some (.ref x)) (k : Cu M d (pc + 1) L (.ref x :: st) cs nc ns Z) : Cu M d pc L st cs nc ns Z := by
  intro p l e R s m args below meth c H locs cells slots Q G D cT ls C b1 b2 hP hz hS hL hret
  exact lv_aload_n C.1 C.2.1 hd rfl (hL.2.2.2 _ _ hl rfl) (k p l e R s m args below meth c H locs cells slots Q G D cT ls C b1 b2 hP hz hS hL hret)
theorem cu_dup {v : Value} (hd : decode M.2.1 pc = .ok (.dup, 1)) (hv : am_g v = true) (k : Cu M d (pc + 1) L (v :: v :: st) cs nc ns Z) : Cu M d pc L (v :: st) cs nc ns Z := by
  intro p l e R s m args below meth c H locs cells slots Q G D cT ls C b1 b2 hP hz hS hL hret
  exact lv_dup C.1 C.2.1 hd (am_cat hv) (k p l e R s m args below meth c H locs cells slots Q G D cT ls C b1 b2 hP hz hS hL hret)
theorem cu_ret (z : Z pc L cs) : Cu M d pc L [] cs nc ns Z := by
  intro p l e R s m args below meth c H locs cells slots Q G D cT ls C b1 b2 hP hz hS hL hret
  exact hret cs H locs cells slots pc ls L z (by omega) (by omega) hP hz hS hL
theorem cu_obj {x idx : Nat} (hd1 : 1 ≤ d) (hlk : Cond.methodLink M.1.cls idx Lib.objectInit ∈ lw_g) (hin : Cond.instanceMethod Lib.objectInit ∈ lw_g) (hco : Cond.code Lib.objectInit ⟨#[0xb1]⟩ 1 none ∈ lw_g) (hd : decode M.2.1 pc = .ok (.invokespecial idx, 3)) (k : Cu M d (pc + 3) L [] cs nc ns Z) : Cu M d pc L [.ref x] cs nc ns Z := by
  intro p l e R s m args below meth c H locs cells slots Q G D cT ls C b1 b2 hP hz hS hL hret
  have hk := C.2.2.2.2.2.2.2.2.1
  have hf := C.2.2.2.2.2.2.2.1
  refine W.objInit (a := G.1 + x) (rest := []) C.1 C.2.1 C.2.2.2.1 (C.2.2.2.2.1 _ hlk) (C.2.2.2.2.1 _ hin) (C.2.2.2.2.1 _ hco) rfl (by rw [C.2.2.1]; exact hL.2.1) rfl hd (by omega) (by show 2 * 0 + 0 + 12 ≤ R.locals; unfold am_kk at hk; omega) ?_
  exact W.eq (g2 := F0 m (pc + 3) ls []) rfl (k p l e R s m args below meth c H locs cells slots Q G D cT ls C b1 b2 hP hz hS hL hret)
theorem cu_newa {at0 : ArrayType} {ty : FieldType} {n : Int32} {N a : Nat} (hty : newarray.typeOf at0 = ty) (h3 : ty = .int ∨ ty = .byte ∨ ty = .boolean) (harr : Cond.arrayClass ty ∈ lw_g) (hn : ¬ n < 0) (hN : n.toNatClampNeg = N) (hb : N ≤ 100000) (ha : cs.length = a) (hd : decode M.2.1 pc = .ok (.newarray at0, 2)) (k : Cu M d (pc + 2) L (.ref a :: st) (cs ++ [.inl (ty, N, fun _ => 0)]) nc ns Z) : Cu M d pc L (.int n :: st) cs (nc + 1) (ns + N) Z := by
  intro p l e R s m args below meth c H locs cells slots Q G D cT ls C b1 b2 hP hz hS hL hret
  have hK := C.2.2.2.2.2.1
  have hG := C.2.2.2.2.2.2.1
  have h3' : (∀ cA : ClassId, vp_cell cA (N, .inl (fun _ => 0)) = arrV cA N (fun _ => defaultValue ty)) ∧ N * componentBytes ty ≤ 536870912 ∧ s.vm.findClass ("[" ++ ty.toString) = some (cT ty) ∧ (∀ cA, va_RA s cA ty → s.vm.findClass ("[" ++ ty.toString) = some cA) := by
    rcases h3 with rfl | rfl | rfl
    · exact ⟨fun _ => rfl, by show N * 4 ≤ _; omega, (hK.2 0 _ rfl).2, fun _ w => w⟩
    · exact ⟨fun _ => rfl, by show N * 1 ≤ _; omega, (hK.2 1 _ rfl).2, fun _ w => w⟩
    · exact ⟨fun _ => rfl, by show N * 1 ≤ _; omega, (hK.2 2 _ rfl).2, fun _ w => w⟩
  refine va_newa (a0 := (N, .inl (fun _ => 0))) (ty := ty) C.1 C.2.1 (by rw [hty]; exact C.2.2.2.2.1 _ harr) hty hK hP am_wcD hS (fun q hq => Nat.le_trans hG hq) h3'.1 hn hN h3'.2.1 (by omega) (by omega) hd (fun q cA H1 hK1 hP1 hD1 hS1 => am_Wsz (fun hsz => ?_))
  have eA : cA = cT ty := by
    have w := (hK1.2 3 (cA, ty) rfl).2
    have w1 := h3'.2.2.2 cA w
    rw [h3'.2.2.1] at w1
    exact (Option.some.inj w1).symm
  have eq : q = G.1 + cs.length := am_newat hP1 hD1 (by omega)
  subst eA
  subst eq
  have hP2 : va_P D vwCl (am_wc G cT (cs ++ [.inl (ty, N, fun _ => 0)])) H1 := by rw [am_wc_app]; exact hP1
  subst ha
  exact k p l e R s m args below meth c H1 locs (cells + 1) (slots + N) Q G D cT ls C (by omega) (by omega) hP2 (by rw [List.length_append]; show _ = G.1 + (cs.length + 1); omega) hS1 hL (fun cs' H' locs' cells' slots' pc' ls' L' w1 w2 w3 => hret cs' H' locs' cells' slots' pc' ls' L' w1 (by omega) (by omega))
theorem cu_new {ci N idx a : Nat} {C0 : String} {T : u_T} {ty0 : Nat → FieldType} {fs : List Value} (hc : am_cls ci C0 T N ty0) (hcl : Cond.classLink M.1.cls idx C0 ∈ lw_g) (hinst : Cond.instantiable C0 N ∈ lw_g) (hini : Cond.initialized C0 ∈ lw_g) (hm : ∀ G, fs.map (am_v G) = fs) (hfs : ∀ j, j < N → defaultValue (ty0 j) = vp_V fs j) (ha : cs.length = a) (hd : decode M.2.1 pc = .ok (.new idx, 3)) (k : Cu M d (pc + 3) L (.ref a :: st) (cs ++ [.inr (ci, fs)]) nc ns Z) : Cu M d pc L st cs (nc + 1) (ns + N) Z := by
  intro p l e R s m args below meth c H locs cells slots Q G D cT ls C b1 b2 hP hz hS hL hret
  have hK := C.2.2.2.2.2.1
  have hG := C.2.2.2.2.2.2.1
  have hts := C.2.2.2.2.1
  obtain ⟨k1, k2, k3, k4, k5, k6⟩ := hc
  refine va_new (ci := ci) (fs := fs) (C := C0) (T := T) (N := N) C.1 C.2.1 hts k3 ty0 k4 C.2.2.2.1 (hts _ hcl) (hts _ hinst) (hts _ hini) hK hP am_wcD hS (fun q hq => Nat.le_trans hG hq) k2 hfs (by omega) (by omega) hd (fun q H1 hP1 hD1 hS1 => am_Wsz (fun hsz => ?_))
  have eq : q = G.1 + cs.length := am_newat hP1 hD1 (by omega)
  subst eq
  have hP2 : va_P D vwCl (am_wc G cT (cs ++ [.inr (ci, fs)])) H1 := by
    rw [am_wc_app]
    show va_P D vwCl (am_wc G cT cs ++ [(G.1 + cs.length, .inr (ci, fs.map (am_v G)))]) H1
    rw [hm]; exact hP1
  subst ha
  exact k p l e R s m args below meth c H1 locs (cells + 1) (slots + N) Q G D cT ls C (by omega) (by omega) hP2 (by rw [List.length_append]; show _ = G.1 + (cs.length + 1); omega) hS1 hL (fun cs' H' locs' cells' slots' pc' ls' L' w1 w2 w3 => hret cs' H' locs' cells' slots' pc' ls' L' w1 (by omega) (by omega))
theorem cu_iconst {n : Int} {v : Int32} (hd : decode M.2.1 pc = .ok (.iconst n, 1)) (hv : Int32.ofInt n = v) (k : Cu M d (pc + 1) L (.int v :: st) cs nc ns Z) : Cu M d pc L st cs nc ns Z := by
  intro p l e R s m args below meth c H locs cells slots Q G D cT ls C b1 b2 hP hz hS hL hret
  exact lv_iconst C.1 C.2.1 hd hv (k p l e R s m args below meth c H locs cells slots Q G D cT ls C b1 b2 hP hz hS hL hret)
theorem cu_bipush {n : Int} {v : Int32} (hd : decode M.2.1 pc = .ok (.bipush n, 2)) (hv : (Int8.ofInt n).toInt32 = v) (k : Cu M d (pc + 2) L (.int v :: st) cs nc ns Z) : Cu M d pc L st cs nc ns Z := by
  intro p l e R s m args below meth c H locs cells slots Q G D cT ls C b1 b2 hP hz hS hL hret
  exact lv_bipush C.1 C.2.1 hd hv (k p l e R s m args below meth c H locs cells slots Q G D cT ls C b1 b2 hP hz hS hL hret)
theorem cu_sipush {n : Int} {v : Int32} (hd : decode M.2.1 pc = .ok (.sipush n, 3)) (hv : (Int16.ofInt n).toInt32 = v) (k : Cu M d (pc + 3) L (.int v :: st) cs nc ns Z) : Cu M d pc L st cs nc ns Z := by
  intro p l e R s m args below meth c H locs cells slots Q G D cT ls C b1 b2 hP hz hS hL hret
  exact lv_sipush C.1 C.2.1 hd hv (k p l e R s m args below meth c H locs cells slots Q G D cT ls C b1 b2 hP hz hS hL hret)
theorem cu_put {ci N idx a k : Nat} {C0 : String} {T : u_T} {ty0 : Nat → FieldType} {fs : List Value} {v : Value} {cs2 : List am_E} (hc : am_cls ci C0 T N ty0) (hk : k < N) (hlk : Cond.fieldLink M.1.cls idx (T k).1 (T k).2.1 (T k).2.2.1 ∈ lw_g) (hfin : (T k).2.2.2 = false) (hn : ∀ G, narrow (ty0 k) (am_v G v) = am_v G v) (hf : ∀ G, fits (ty0 k) (am_v G v) = true) (he : cs[a]? = some (.inr (ci, fs))) (hl : k < fs.length) (hs : cs.set a (.inr (ci, fs.set k v)) = cs2) (hd : decode M.2.1 pc = .ok (.putfield idx, 3)) (kk : Cu M d (pc + 3) L st cs2 nc ns Z) : Cu M d pc L (v :: .ref a :: st) cs nc ns Z := by
  intro p l e R s m args below meth c H locs cells slots Q G D cT ls C b1 b2 hP hz hS hL hret
  have hts := C.2.2.2.2.1
  obtain ⟨k1, k2, k3, k4, k5, k6⟩ := hc
  have he' : (am_wc G cT cs)[a]? = some (G.1 + a, .inr (ci, fs.map (am_v G))) := am_wc_g he
  have eW : (am_wc G cT cs).set a (G.1 + a, .inr (ci, (fs.map (am_v G)).set k (am_v G v))) = am_wc G cT cs2 := by
    rw [← hs, ← am_wc_set he]
    show _ = (am_wc G cT cs).set a (G.1 + a, .inr (ci, (fs.set k v).map (am_v G)))
    rw [List.map_set]
  have hl2 : cs2.length = cs.length := by rw [← hs, List.length_set]
  refine va_put (a := G.1 + a) C.1 C.2.1 hts k3 ty0 k4 k5 C.2.2.2.1 C.2.2.2.2.2.1 hP am_wcD hS a he' k2 k hk (hts _ hlk) (fun _ w => w) hfin (k4 k hk) (hn G) (hf G) (by rw [List.length_map]; exact hl) hd (fun H1 locs1 hP1 _ hS1 => ?_)
  rw [eW] at hP1
  exact kk p l e R s m args below meth c H1 locs1 cells slots Q G D cT ls C b1 b2 hP1 (by rw [hl2]; exact hz) hS1 hL hret
theorem cu_putF {ci N idx a k : Nat} {C0 : String} {T : u_T} {ty0 : Nat → FieldType} {fs : List Value} {v : Value} {cs2 : List am_E} (hc : am_cls ci C0 T N ty0) (hk : k < N) (hlk : Cond.fieldLink M.1.cls idx (T k).1 (T k).2.1 (T k).2.2.1 ∈ lw_g) (hfin : (T k).2.2.2 = true) (hdc : (T k).1 = M.1.cls) (hnm : M.1.name = "<init>") (hn : ∀ G, narrow (ty0 k) (am_v G v) = am_v G v) (hf : ∀ G, fits (ty0 k) (am_v G v) = true) (he : cs[a]? = some (.inr (ci, fs))) (hl : k < fs.length) (hs : cs.set a (.inr (ci, fs.set k v)) = cs2) (hd : decode M.2.1 pc = .ok (.putfield idx, 3)) (kk : Cu M d (pc + 3) L st cs2 nc ns Z) : Cu M d pc L (v :: .ref a :: st) cs nc ns Z := by
  intro p l e R s m args below meth c H locs cells slots Q G D cT ls C b1 b2 hP hz hS hL hret
  have hts := C.2.2.2.2.1
  obtain ⟨k1, k2, k3, k4, k5, k6⟩ := hc
  have he' : (am_wc G cT cs)[a]? = some (G.1 + a, .inr (ci, fs.map (am_v G))) := am_wc_g he
  have eW : (am_wc G cT cs).set a (G.1 + a, .inr (ci, (fs.map (am_v G)).set k (am_v G v))) = am_wc G cT cs2 := by
    rw [← hs, ← am_wc_set he]
    show _ = (am_wc G cT cs).set a (G.1 + a, .inr (ci, (fs.set k v).map (am_v G)))
    rw [List.map_set]
  have hl2 : cs2.length = cs.length := by rw [← hs, List.length_set]
  refine va_putF (a := G.1 + a) C.1 C.2.1 hts k3 ty0 k4 k5 C.2.2.2.1 C.2.2.2.2.2.1 hP am_wcD hS a he' k2 k hk (hts _ hlk) (fun _ w => w) hfin (C.2.2.2.2.2.2.2.2.2.1 hnm) hdc (k4 k hk) (hn G) (hf G) (by rw [List.length_map]; exact hl) hd (fun H1 locs1 hP1 _ hS1 => ?_)
  rw [eW] at hP1
  exact kk p l e R s m args below meth c H1 locs1 cells slots Q G D cT ls C b1 b2 hP1 (by rw [hl2]; exact hz) hS1 hL hret
theorem cu_get {ci N idx a k : Nat} {C0 : String} {T : u_T} {ty0 : Nat → FieldType} {fs : List Value} {v : Value} (hc : am_cls ci C0 T N ty0) (hk : k < N) (hlk : Cond.fieldLink M.1.cls idx (T k).1 (T k).2.1 (T k).2.2.1 ∈ lw_g) (he : cs[a]? = some (.inr (ci, fs))) (hv : fs[k]? = some v) (hd : decode M.2.1 pc = .ok (.getfield idx, 3)) (kk : Cu M d (pc + 3) L (v :: st) cs nc ns Z) : Cu M d pc L (.ref a :: st) cs nc ns Z := by
  intro p l e R s m args below meth c H locs cells slots Q G D cT ls C b1 b2 hP hz hS hL hret
  have hts := C.2.2.2.2.1
  obtain ⟨k1, k2, k3, k4, k5, k6⟩ := hc
  have he' : (am_wc G cT cs)[a]? = some (G.1 + a, .inr (ci, fs.map (am_v G))) := am_wc_g he
  exact va_get (a := G.1 + a) (v := am_v G v) C.1 C.2.1 hts k3 C.2.2.2.1 C.2.2.2.2.2.1 hP a he' k2 k hk (hts _ hlk) (fun _ w => w) (by rw [List.getElem?_map, hv]; rfl) hd (kk p l e R s m args below meth c H locs cells slots Q G D cT ls C b1 b2 hP hz hS hL hret)
theorem cu_iast {a n : Nat} {f : Nat → Int32} {i x : Int32} {cs2 : List am_E} (he : cs[a]? = some (.inl (.int, n, f))) (hi : vp_in i n) (hs : cs.set a (.inl (.int, n, upd f i.toNatClampNeg x)) = cs2) (hd : decode M.2.1 pc = .ok (.iastore, 1)) (kk : Cu M d (pc + 1) L st cs2 nc ns Z) : Cu M d pc L (.int x :: .int i :: .ref a :: st) cs nc ns Z := by
  intro p l e R s m args below meth c H locs cells slots Q G D cT ls C b1 b2 hP hz hS hL hret
  have he' : (am_wc G cT cs)[a]? = some (G.1 + a, .inl (cT .int, n, .inl f)) := am_wc_g he
  have eW : (am_wc G cT cs).set a (G.1 + a, .inl (cT .int, n, .inl (upd f i.toNatClampNeg x))) = am_wc G cT cs2 := by
    rw [← hs, ← am_wc_set he]; rfl
  have hl2 : cs2.length = cs.length := by rw [← hs, List.length_set]
  refine va_iast C.1 C.2.1 C.2.2.2.2.2.1 hP am_wcD hS a 0 he' rfl hi hd (fun H1 locs1 hP1 _ hS1 => ?_)
  rw [eW] at hP1
  exact kk p l e R s m args below meth c H1 locs1 cells slots Q G D cT ls C b1 b2 hP1 (by rw [hl2]; exact hz) hS1 hL hret
theorem cu_init {M' : am_M} {idx n a d' mc ms : Nat} {st0 : List Value} {cs2 : List am_E} (As rest : List Value) (hd : decode M.2.1 pc = .ok (.invokespecial idx, 3)) (hlk : Cond.methodLink M.1.cls idx M'.1 ∈ lw_g ∨ (∃ host, ∀ U, am_NW U → va_Nw (.methodLinkNest M.1.cls idx M'.1 host) U)) (hm : am_mf M' n) (hi : Cond.instanceMethod M'.1 ∈ lw_g) (hnm : M'.1.name = "<init>") (hr0 : M'.2.2.2 = none) (hdd : d' < d) (hAs : As.length = n) (hst : st0 = As.reverse ++ .ref a :: rest) (hrs : am_rest rest = true) (w : Sc M' d' (.ref a :: As) cs cs2 mc ms) (hpos : 0 < cs.length) (hlen : cs2.length = cs.length + mc) (k : Cu M d (pc + 3) L rest cs2 nc ns Z) : Cu M d pc L st0 cs (nc + mc) (ns + ms) Z := by
  intro p l e R s m args below meth c H locs cells slots Q G D cT ls C b1 b2 hP hz hS hL hret
  obtain ⟨y, bts, mL, rt⟩ := M'
  have hr1 : rt = none := hr0
  subst hr1
  obtain ⟨g1, g2, g3, g4, g5⟩ := hm
  obtain ⟨hx, hb, hml, hown, hts, hK, hG, hf, hlo, hmn, hnw⟩ := id C
  unfold am_rest at hrs
  rw [Bool.and_eq_true, decide_eq_true_eq] at hrs
  refine am_Wsz (fun hsz => ?_)
  have hH : H.size = G.1 + cs.length := am_szE hP hpos (by omega)
  have pre : PreS s H (va_Pc ((Value.ref a :: As).map (am_v G)) (fun U => va_P D vwCl (am_wc G cT cs) U.heap ∧ va_K D vwCl (am_tys cT) U ∧ U.heap.size = G.1 + cs.length ∧ am_NW U)) (.ref (G.1 + a) :: As.map (am_v G)) := by
    refine ⟨fun a1 U g mk hq => ?_, fun U hU hW => ⟨rfl, by rw [hU]; exact hP, va_K.moved hW.alike hK, by rw [hU]; exact hH, am_NW_w hW hnw⟩⟩
    obtain ⟨q0, qP, qK, qz, qn⟩ := hq
    exact ⟨q0, qP, va_K.moved (u := U) (U := U.calling g mk a1) (Vm.Alike.refl U.vm) qK, qz, am_NW_s (s := U) (U := U.calling g mk a1) rfl qn⟩
  have stk : st0.map (am_v G) = (As.map (am_v G)).reverse ++ .ref (G.1 + a) :: rest.map (am_v G) := by
    subst hst
    rw [List.map_append, List.map_reverse]
    rfl
  have rmx : 2 * (F0 m pc ls (st0.map (am_v G))).monitorRoom + ((rest.map (am_v G)).map fun v => v.category).sum ≤ 8 := lv_room (by rw [am_rest_sum hrs.1]; exact hrs.2)
  have run : va_Run p l e R s m args below meth c H locs cells slots mc ms (F0 m pc ls (st0.map (am_v G))) (rest.map (am_v G)) (va_Qv (fun _ : Unit => True) (fun _ t => va_P D vwCl (am_wc G cT cs2) t.heap) (am_A G) (Value.ref (G.1 + a) :: As.map (am_v G)).toArray) (am_A G) := by
    rcases hlk with hlk | ⟨host, hlk⟩
    · exact va_runI ⟨hx, hb, hml, hown, hts⟩ (w l G D cT) ⟨callB_of n hts (am_good g1) rfl rfl rfl (hts _ g2) (hts _ hlk) g3 (am_call_hR hdd g4 hf hlo), hnm, hts _ hi⟩ pre rfl (by rw [List.length_map]; exact hAs) (by rw [show (F0 m pc ls (st0.map (am_v G))).locals = ls from rfl]; exact hL.2.1) stk rmx hd ⟨by omega, by omega⟩
    · exact va_runIN ⟨hx, hb, hml, hown, hts⟩ (w l G D cT) ⟨va_cnB n hts (am_good g1) rfl rfl rfl (hlk s hnw) (hts _ g2) g3 (am_call_hR hdd g4 hf hlo), hnm, hts _ hi⟩ pre rfl (by rw [List.length_map]; exact hAs) (by rw [show (F0 m pc ls (st0.map (am_v G))).locals = ls from rfl]; exact hL.2.1) stk rmx hd ⟨by omega, by omega⟩
  refine va_callv run hS (fun q _ h => h) (fun q h => h) (fun u t H1 locs1 ht hvm _ hB _ _ hS1 => ?_)
  have hB' : va_P D vwCl (am_wc G cT cs2) t.heap := hB
  rw [ht] at hB'
  exact k p l e R s m args below meth c H1 locs1 (cells + mc) (slots + ms) Q G D cT ls C (by omega) (by omega) hB' (by rw [hlen]; omega) hS1 hL (fun cs' H' locs' cells' slots' pc' ls' L' w1 w2 w3 => hret cs' H' locs' cells' slots' pc' ls' L' w1 (by omega) (by omega))
theorem cu_astore {i : Fin 4} {x : Nat} {L' : List Value} (hd : decode M.2.1 pc = .ok (.astore_n i, 1)) (hi : (i : Nat) < M.2.2.1) (hs : L.set (i : Nat) (.ref x) = L') (k : Cu M d (pc + 1) L' st cs nc ns Z) : Cu M d pc L (.ref x :: st) cs nc ns Z := by
  intro p l e R s m args below meth c H locs cells slots Q G D cT ls C b1 b2 hP hz hS hL hret
  exact lv_astore_n C.1 C.2.1 hd rfl (am_L_lv hL) hi rfl (fun ls' hl => k p l e R s m args below meth c H locs cells slots Q G D cT ls' C b1 b2 hP hz hS (am_L_set hL rfl hs hl) hret)
theorem cu_istore {i : Fin 4} {x : Int32} {L' : List Value} (hd : decode M.2.1 pc = .ok (.istore_n i, 1)) (hi : (i : Nat) < M.2.2.1) (hs : L.set (i : Nat) (.int x) = L') (k : Cu M d (pc + 1) L' st cs nc ns Z) : Cu M d pc L (.int x :: st) cs nc ns Z := by
  intro p l e R s m args below meth c H locs cells slots Q G D cT ls C b1 b2 hP hz hS hL hret
  exact lv_istore_n C.1 C.2.1 hd rfl (am_L_lv hL) hi rfl (fun ls' hl => k p l e R s m args below meth c H locs cells slots Q G D cT ls' C b1 b2 hP hz hS (am_L_set hL rfl hs hl) hret)
theorem Sc_of {args : List Value} {n mc ms : Nat} {cs2 : List am_E} (hm : am_mf M n) (hr0 : M.2.2.2 = none) (ha : args.all am_g = true) (hlen : args.length ≤ M.2.2.1) (hL : args ++ List.replicate (M.2.2.1 - args.length) .null = L) (k : Cu M d 0 L [] cs mc ms (fun pc' _ x => x = cs2 ∧ decode M.2.1 pc' = .ok (.return_, 1))) : Sc M d args cs cs2 mc ms := by
  intro l G D cT
  refine Met.ofW (cc := M.2.1) (maxL := M.2.2.1) (ret := M.2.2.2) hm.2.2.2.2 rfl ?_
  intro p e s m args0 below meth c s₁ B hml hv
  obtain ⟨rfl, hP, hK, hz, hnw⟩ := hv
  have hts := atoms_spec (ws := Cond.code M.1 M.2.1 M.2.2.1 M.2.2.2 :: lw_g) B.pre
  have hown : s.vm.findClass M.1.cls = some m.cls := findClass_of_methodNamed B.named
  have hlocks := B.notSynchronized
  have hin : meth.name = M.1.name := (name_of_methodNamed B.named B.method).1
  have hrt : meth.sig.returnType = none := by rw [B.returns]; exact hr0
  rw [lg_entry_eq]
  have hsl := am_sl (G := G) ha
  have hl := lv_entry (args.map (am_v G)) (n := M.2.2.1) (by rw [hsl, List.length_map]; exact hlen)
  generalize hls : (lg_sl (args.map (am_v G)) ++ List.replicate (M.2.2.1 - (lg_sl (args.map (am_v G))).length) Slot.unset).toArray = ls at hl ⊢
  have hLL : am_L G M.2.2.1 L ls := by
    refine ⟨by rw [← hL]; simp; omega, hl.1, hl.2.1, fun i v hi hg => ?_⟩
    rw [← hL] at hi
    rcases Nat.lt_or_ge i args.length with q | q
    · rw [List.getElem?_append_left q] at hi
      rw [← hls, hsl]
      have q2 : i < (args.map (fun v => Slot.val (am_v G v))).length := by rw [List.length_map]; exact q
      rw [List.getElem?_toArray, List.getElem?_append_left q2, List.getElem?_map, hi]
      rfl
    · rw [List.getElem?_append_right q] at hi
      obtain ⟨e1, e2⟩ := List.getElem?_eq_some_iff.mp hi
      rw [List.getElem_replicate] at e2
      rw [← e2] at hg
      cases hg
  refine k p l e _ s m _ below meth c s.heap [] 0 0 _ G D cT ls ⟨B.exec, B.bytes, hml, hown, fun w hw => hts w (List.mem_cons_of_mem _ hw), hK, by omega, Nat.le_refl _, Nat.le_refl _, fun w => hin.trans w, hnw⟩ (by show 0 + mc ≤ mc; omega) (by show 0 + ms ≤ ms; omega) hP hz va_S.rf hLL ?_
  intro cs' H' locs' cells' slots' pc' ls' L' hzz h1 h2 hP' hz' hS' hL'
  obtain ⟨hzz, hdc⟩ := hzz
  subst hzz
  refine W.widen (k := mc) (n := ms) (by omega) (by omega) ?_
  exact W.vret B.exec B.bytes hrt (fun t ht hW => ⟨⟨(), rfl, trivial, by show va_P D vwCl (am_wc G cT cs') t.heap; rw [ht]; exact hP'⟩, hS'.F ht⟩) hS'.2.2 hdc
end
section
variable {M : am_M} {d pc nc ns k0 : Nat} {L st : List Value} {pre app app2 : List am_E} {x : am_E} {Z : Nat → List Value → List am_E → Prop}
theorem am_pg (hk : pre.length = k0) : (pre ++ x :: app)[k0]? = some x := by rw [List.getElem?_append_right (by omega), hk, Nat.sub_self]; rfl
theorem am_ps {y : am_E} (hk : pre.length = k0) : (pre ++ x :: app).set k0 y = pre ++ y :: app := by rw [List.set_append_right _ _ (by omega), hk, Nat.sub_self]; rfl
theorem am_pg1 {y : am_E} (hk : pre.length = k0) : (pre ++ x :: y :: app)[k0 + 1]? = some y := by rw [List.getElem?_append_right (by omega), hk, Nat.add_sub_cancel_left]; rfl
theorem am_ps1 {y z : am_E} (hk : pre.length = k0) : (pre ++ x :: y :: app).set (k0 + 1) z = pre ++ x :: z :: app := by rw [List.set_append_right _ _ (by omega), hk, Nat.add_sub_cancel_left]; rfl
theorem am_pl (hk : pre.length = k0) : (pre ++ x :: app).length = k0 + 1 + app.length := by rw [List.length_append, List.length_cons, hk]; omega
theorem cp_newa {at0 : ArrayType} {ty : FieldType} {n : Int32} {N a : Nat} (hk : pre.length = k0) (hty : newarray.typeOf at0 = ty) (h3 : ty = .int ∨ ty = .byte ∨ ty = .boolean) (harr : Cond.arrayClass ty ∈ lw_g) (hn : ¬ n < 0) (hN : n.toNatClampNeg = N) (hb : N ≤ 100000) (ha : k0 + 1 + app.length = a) (h2 : app ++ [.inl (ty, N, fun _ => 0)] = app2) (hd : decode M.2.1 pc = .ok (.newarray at0, 2)) (k : Cu M d (pc + 2) L (.ref a :: st) (pre ++ x :: app2) nc ns Z) : Cu M d pc L (.int n :: st) (pre ++ x :: app) (nc + 1) (ns + N) Z := by
  refine cu_newa hty h3 harr hn hN hb ((am_pl hk).trans ha) hd ?_
  rw [List.append_assoc]
  subst h2
  exact k
theorem cp_put {ci N idx k : Nat} {C0 : String} {T : u_T} {ty0 : Nat → FieldType} {fs fs2 : List Value} {v : Value} (hk0 : pre.length = k0) (hc : am_cls ci C0 T N ty0) (hk : k < N) (hlk : Cond.fieldLink M.1.cls idx (T k).1 (T k).2.1 (T k).2.2.1 ∈ lw_g) (hfin : (T k).2.2.2 = false) (hn : ∀ G, narrow (ty0 k) (am_v G v) = am_v G v) (hf : ∀ G, fits (ty0 k) (am_v G v) = true) (hl : k < fs.length) (h2 : fs.set k v = fs2) (hd : decode M.2.1 pc = .ok (.putfield idx, 3)) (kk : Cu M d (pc + 3) L st (pre ++ .inr (ci, fs2) :: app) nc ns Z) : Cu M d pc L (v :: .ref k0 :: st) (pre ++ .inr (ci, fs) :: app) nc ns Z :=
  cu_put hc hk hlk hfin hn hf (am_pg hk0) hl (am_ps hk0) hd (by rw [h2]; exact kk)
theorem cp_putF {ci N idx k : Nat} {C0 : String} {T : u_T} {ty0 : Nat → FieldType} {fs fs2 : List Value} {v : Value} (hk0 : pre.length = k0) (hc : am_cls ci C0 T N ty0) (hk : k < N) (hlk : Cond.fieldLink M.1.cls idx (T k).1 (T k).2.1 (T k).2.2.1 ∈ lw_g) (hfin : (T k).2.2.2 = true) (hdc : (T k).1 = M.1.cls) (hnm : M.1.name = "<init>") (hn : ∀ G, narrow (ty0 k) (am_v G v) = am_v G v) (hf : ∀ G, fits (ty0 k) (am_v G v) = true) (hl : k < fs.length) (h2 : fs.set k v = fs2) (hd : decode M.2.1 pc = .ok (.putfield idx, 3)) (kk : Cu M d (pc + 3) L st (pre ++ .inr (ci, fs2) :: app) nc ns Z) : Cu M d pc L (v :: .ref k0 :: st) (pre ++ .inr (ci, fs) :: app) nc ns Z :=
  cu_putF hc hk hlk hfin hdc hnm hn hf (am_pg hk0) hl (am_ps hk0) hd (by rw [h2]; exact kk)
theorem cp_get {ci N idx k : Nat} {C0 : String} {T : u_T} {ty0 : Nat → FieldType} {fs : List Value} {v : Value} (hk0 : pre.length = k0) (hc : am_cls ci C0 T N ty0) (hk : k < N) (hlk : Cond.fieldLink M.1.cls idx (T k).1 (T k).2.1 (T k).2.2.1 ∈ lw_g) (hv : fs[k]? = some v) (hd : decode M.2.1 pc = .ok (.getfield idx, 3)) (kk : Cu M d (pc + 3) L (v :: st) (pre ++ .inr (ci, fs) :: app) nc ns Z) : Cu M d pc L (.ref k0 :: st) (pre ++ .inr (ci, fs) :: app) nc ns Z :=
  cu_get hc hk hlk (am_pg hk0) hv hd kk
end
