abbrev am_H : Type := (Nat → Nat → Int32) × (Nat → Nat → Nat) × (Nat → Nat → Int32)
def lw_g : List Cond := lw_tbl.filter goodWord
abbrev am_M : Type := MethodName × ByteArray × Nat × Option FieldType
/-- z: where our cells begin; the script; the text constant; its bytes -/
abbrev am_G : Type := Nat × Nat × Nat × Nat
def am_shl : List ((FieldType × Nat) ⊕ Nat) := [.inr 10, .inr 9, .inl (.int, 260), .inr 7, .inr 1, .inr 8, .inl (.int, 64), .inl (.int, 26), .inr 2, .inl (.boolean, 12), .inr 6, .inl (.int, 24), .inl (.int, 24), .inl (.int, 1024), .inl (.int, 256), .inl (.int, 256), .inr 5, .inl (.int, 256), .inl (.int, 256), .inl (.int, 256), .inr 0, .inl (.int, 12), .inl (.int, 12), .inl (.int, 12), .inl (.int, 24), .inl (.int, 24), .inl (.int, 24), .inl (.int, 24), .inl (.int, 24), .inr 0, .inl (.int, 12), .inl (.int, 12), .inl (.int, 12), .inl (.int, 24), .inl (.int, 24), .inl (.int, 24), .inl (.int, 24), .inl (.int, 24), .inr 0, .inl (.int, 12), .inl (.int, 12), .inl (.int, 12), .inl (.int, 24), .inl (.int, 24), .inl (.int, 24), .inl (.int, 24), .inl (.int, 24), .inr 0, .inl (.int, 12), .inl (.int, 12), .inl (.int, 12), .inl (.int, 24), .inl (.int, 24), .inl (.int, 24), .inl (.int, 24), .inl (.int, 24), .inr 3, .inl (.int, 16), .inl (.int, 16), .inl (.int, 16), .inl (.int, 16), .inl (.int, 512), .inl (.int, 64), .inl (.int, 10), .inr 3, .inl (.int, 16), .inl (.int, 16), .inl (.int, 16), .inl (.int, 16), .inl (.int, 512), .inl (.int, 64), .inl (.int, 10), .inr 4, .inr 11, .inl (.int, 74), .inl (.int, 74), .inl (.int, 74), .inl (.int, 12), .inl (.int, 24), .inl (.int, 24), .inl (.byte, 260), .inl (.int, 260), .inl (.int, 260), .inl (.int, 16), .inl (.int, 16), .inl (.int, 16), .inl (.int, 16), .inl (.int, 260), .inl (.int, 16), .inl (.int, 16), .inl (.int, 16), .inl (.int, 16), .inl (.int, 260), .inl (.int, 10), .inl (.int, 12), .inl (.int, 12), .inl (.int, 24), .inl (.int, 24), .inl (.int, 24), .inl (.int, 1024), .inl (.int, 1024), .inl (.int, 64), .inl (.int, 2), .inl (.int, 2), .inl (.int, 2), .inl (.int, 256), .inl (.int, 256), .inl (.int, 20), .inl (.int, 256), .inl (.int, 256), .inl (.int, 16), .inl (.int, 16)]
def am_sh (a : Nat) : (FieldType × Nat) ⊕ Nat := am_shl.getD a (.inr 99)
def am_NC : Nat := 112
def am_nf (ci : Nat) : Nat := [11, 1, 3, 9, 2, 5, 6, 4, 4, 2, 15, 62].getD ci 0
def am_fk (ci j : Nat) : Nat := ([[1, 1, 1, 1, 1, 1, 1, 1, 0, 0, 0], [1], [1, 0, 0], [1, 1, 1, 1, 1, 1, 1, 0, 0], [1, 2], [1, 1, 1, 1, 0], [1, 1, 1, 1, 1, 1], [1, 0, 0, 0], [1, 1, 1, 0], [1, 0], [1, 1, 1, 1, 1, 1, 1, 1, 1, 1, 2, 2, 2, 2, 0], [1, 1, 1, 1, 1, 1, 0, 0, 1, 0, 0, 0, 0, 0, 0, 0, 0, 0, 0, 1, 1, 1, 1, 1, 1, 1, 1, 1, 1, 1, 1, 1, 1, 1, 1, 1, 1, 0, 0, 0, 0, 0, 0, 1, 1, 1, 1, 1, 1, 0, 0, 0, 0, 1, 1, 1, 1, 1, 1, 1, 0, 0]].getD ci []).getD j 0
def am_lay (ci a j : Nat) : Nat := match ci with
  | 0 => a + 1 + j
  | 3 => a + 1 + j
  | ci => ([[21, 22, 23, 24, 25, 26, 27, 28, 0, 0, 0], [3], [9, 0, 0], [57, 58, 59, 60, 61, 62, 63, 0, 0], [3, 0], [1, 17, 18, 19, 0], [1, 11, 12, 13, 14, 15], [1, 0, 0, 0], [3, 6, 7, 0], [2, 0], [1, 3, 4, 72, 5, 8, 10, 16, 20, 29, 0, 0, 0, 0, 0], [74, 75, 76, 77, 78, 79, 0, 0, 80, 0, 0, 0, 0, 0, 0, 0, 0, 0, 0, 81, 82, 83, 84, 85, 86, 87, 88, 89, 90, 91, 92, 93, 94, 95, 96, 97, 98, 0, 0, 0, 0, 0, 0, 99, 100, 101, 102, 103, 104, 0, 0, 0, 0, 105, 106, 107, 108, 109, 110, 111, 0, 0]].getD ci []).getD j 0

def am_sR (h : am_H) (a : Nat) (f : Nat → Int32) : am_H := (h.1, h.2.1, fun a' => if a' = a then f else h.2.2 a')
def am_sI (h : am_H) (a k : Nat) (x : Int32) : am_H := (fun a' => if a' = a then upd (h.1 a) k x else h.1 a', h.2)
def am_sP (h : am_H) (a k q : Nat) : am_H := (h.1, fun a' => if a' = a then (fun j => if j = k then q else h.2.1 a j) else h.2.1 a', h.2.2)
def am_v (G : am_G) : Value → Value
  | .ref k => .ref (G.1 + k)
  | .retAddr 0 => .ref G.2.1
  | .retAddr 1 => .ref G.2.2.1
  | .retAddr (_ + 2) => .ref G.2.2.2
  | v => v
def am_fv (G : am_G) (h : am_H) (ci a j : Nat) : Value := match am_fk ci j with
  | 0 => .int (h.1 a j)
  | 1 => .ref (G.1 + am_lay ci a j)
  | _ => .ref (G.1 + h.2.1 a j)
def am_cell (G : am_G) (cT : FieldType → ClassId) (h : am_H) (a : Nat) : va_E := match am_sh a with
  | .inl q => .inl (cT q.1, q.2, .inl (h.2.2 a))
  | .inr ci => .inr (ci, (List.range (am_nf ci)).map (am_fv G h ci a))
def am_ws (G : am_G) (cT : FieldType → ClassId) (h : am_H) : va_W := (List.range am_NC).map (fun a => (G.1 + a, am_cell G cT h a))
abbrev am_tys (cT : FieldType → ClassId) : List (ClassId × FieldType) := [(cT .int, .int), (cT .byte, .byte), (cT .boolean, .boolean)]
abbrev am_A (G : am_G) : Nat → Prop := fun q => G.1 ≤ q
theorem am_shl_len : am_shl.length = am_NC := by decide +kernel
theorem am_sh_lt {a : Nat} (h : am_sh a ≠ .inr 99) : a < am_NC := by
  rcases Nat.lt_or_ge a am_NC with q | q
  · exact q
  · exact absurd (by unfold am_sh; rw [List.getD_eq_getElem?_getD, List.getElem?_eq_none (by rw [am_shl_len]; exact q)]; rfl) h
theorem am_lt_l {a : Nat} {q : FieldType × Nat} (h : am_sh a = .inl q) : a < am_NC := am_sh_lt (by rw [h]; exact fun e => by cases e)
theorem am_lt_r {a ci : Nat} (h : am_sh a = .inr ci) (hc : ci < 99) : a < am_NC := am_sh_lt (by rw [h]; intro e; cases e; omega)
theorem am_ws_get {G : am_G} {cT : FieldType → ClassId} {h : am_H} {a : Nat} (ha : a < am_NC) : (am_ws G cT h)[a]? = some (G.1 + a, am_cell G cT h a) := by
  unfold am_ws; rw [List.getElem?_map, List.getElem?_range ha]; rfl
theorem am_ws_none {G : am_G} {cT : FieldType → ClassId} {h : am_H} {a : Nat} (ha : ¬ a < am_NC) : (am_ws G cT h)[a]? = none := by
  unfold am_ws; rw [List.getElem?_map, List.getElem?_eq_none (by rw [List.length_range]; omega)]; rfl
theorem am_ws_getl {G : am_G} {cT : FieldType → ClassId} {h : am_H} {a n : Nat} {ty : FieldType} (hs : am_sh a = .inl (ty, n)) : (am_ws G cT h)[a]? = some (G.1 + a, .inl (cT ty, n, .inl (h.2.2 a))) := by
  rw [am_ws_get (am_lt_l hs)]; unfold am_cell; rw [hs]
theorem am_ws_getr {G : am_G} {cT : FieldType → ClassId} {h : am_H} {a ci : Nat} (hs : am_sh a = .inr ci) (hc : ci < 99) : (am_ws G cT h)[a]? = some (G.1 + a, .inr (ci, (List.range (am_nf ci)).map (am_fv G h ci a))) := by
  rw [am_ws_get (am_lt_r hs hc)]; unfold am_cell; rw [hs]
theorem am_ws_set {G : am_G} {cT : FieldType → ClassId} {h h' : am_H} {a : Nat} {e : va_E} (he : am_cell G cT h' a = e) (ho : ∀ k, k ≠ a → am_cell G cT h' k = am_cell G cT h k) : (am_ws G cT h).set a (G.1 + a, e) = am_ws G cT h' := by
  apply List.ext_getElem?
  intro k
  by_cases hk : k < am_NC
  · by_cases hka : k = a
    · subst hka
      rw [List.getElem?_set_self (by unfold am_ws; simpa using hk), am_ws_get hk, he]
    · rw [List.getElem?_set_ne (Ne.symm hka), am_ws_get hk, am_ws_get hk, ho k hka]
  · have hl : ((am_ws G cT h).set a (G.1 + a, e)).length ≤ k := by unfold am_ws; simp; omega
    rw [List.getElem?_eq_none hl, am_ws_none hk]
theorem am_ws_sR {G : am_G} {cT : FieldType → ClassId} {h : am_H} {a n : Nat} {ty : FieldType} {f : Nat → Int32} (hs : am_sh a = .inl (ty, n)) : (am_ws G cT h).set a (G.1 + a, .inl (cT ty, n, .inl f)) = am_ws G cT (am_sR h a f) := by
  apply am_ws_set
  · unfold am_cell; rw [hs]; simp [am_sR]
  · intro k hk
    unfold am_cell am_sR
    simp only [hk, if_false]
    rfl
theorem am_ws_sI {G : am_G} {cT : FieldType → ClassId} {h : am_H} {a ci k : Nat} {x : Int32} (hs : am_sh a = .inr ci) (hf : am_fk ci k = 0) : (am_ws G cT h).set a (G.1 + a, .inr (ci, ((List.range (am_nf ci)).map (am_fv G h ci a)).set k (.int x))) = am_ws G cT (am_sI h a k x) := by
  apply am_ws_set
  · unfold am_cell; rw [hs]
    refine congrArg (fun l => (Sum.inr (ci, l) : va_E)) ?_
    apply List.ext_getElem?
    intro j
    by_cases hj : j < am_nf ci
    · by_cases hjk : j = k
      · subst hjk
        rw [List.getElem?_set_self (by simpa using hj), List.getElem?_map, List.getElem?_range hj]
        simp [am_fv, hf, am_sI, upd]
      · rw [List.getElem?_set_ne (Ne.symm hjk), List.getElem?_map, List.getElem?_map, List.getElem?_range hj]
        simp [am_fv, am_sI, upd, hjk]
    · rw [List.getElem?_eq_none (by simp; omega), List.getElem?_eq_none (by simp; omega)]
  · intro k' hk
    unfold am_cell
    cases am_sh k' with
    | inl q => simp [am_sI]
    | inr c => simp only [am_sI]; congr 2; apply List.map_congr_left; intro j _; simp [am_fv, hk]
theorem am_ws_sP {G : am_G} {cT : FieldType → ClassId} {h : am_H} {a ci k q : Nat} (hs : am_sh a = .inr ci) (hf : am_fk ci k = 2) : (am_ws G cT h).set a (G.1 + a, .inr (ci, ((List.range (am_nf ci)).map (am_fv G h ci a)).set k (.ref (G.1 + q)))) = am_ws G cT (am_sP h a k q) := by
  apply am_ws_set
  · unfold am_cell; rw [hs]
    refine congrArg (fun l => (Sum.inr (ci, l) : va_E)) ?_
    apply List.ext_getElem?
    intro j
    by_cases hj : j < am_nf ci
    · by_cases hjk : j = k
      · subst hjk
        rw [List.getElem?_set_self (by simpa using hj), List.getElem?_map, List.getElem?_range hj]
        simp [am_fv, hf, am_sP]
      · rw [List.getElem?_set_ne (Ne.symm hjk), List.getElem?_map, List.getElem?_map, List.getElem?_range hj]
        simp [am_fv, am_sP, hjk]
    · rw [List.getElem?_eq_none (by simp; omega), List.getElem?_eq_none (by simp; omega)]
  · intro k' hk
    unfold am_cell
    cases am_sh k' with
    | inl q => simp [am_sP]
    | inr c => simp only [am_sP]; congr 2; apply List.map_congr_left; intro j _; simp [am_fv, hk]
theorem am_wsD {G : am_G} {cT : FieldType → ClassId} {h : am_H} : va_D (am_A G) (am_ws G cT h) := by
  have key : ∀ (i : Nat) (p : Nat × va_E), (am_ws G cT h)[i]? = some p → p.1 = G.1 + i := by
    intro i p hp
    by_cases hi : i < am_NC
    · rw [am_ws_get hi] at hp; cases hp; rfl
    · rw [am_ws_none hi] at hp; cases hp
  refine ⟨fun i j p q hi hj e => ?_, fun k q hk => ?_⟩
  · have := key i p hi; have := key j q hj; omega
  · have := key k q hk; show G.1 ≤ q.1; omega
/-- locals -/
def am_g : Value → Bool
  | .int _ => true
  | .ref _ => true
  | .retAddr _ => true
  | _ => false
def am_L (G : am_G) (nL : Nat) (L : List Value) (ls : Array Slot) : Prop := L.length = nL ∧ ls.size = nL ∧ lv_wf ls ∧ ∀ (i : Nat) (v : Value), L[i]? = some v → am_g v = true → ls[i]? = some (.val (am_v G v))
theorem am_cat {G : am_G} {v : Value} (h : am_g v = true) : (am_v G v).category = 1 := by
  cases v with
  | retAddr k => rcases k with _ | _ | k <;> rfl
  | int x => rfl
  | ref x => rfl
  | _ => cases h
def am_lv (G : am_G) (L : List Value) : List (Nat × Value) := (List.range L.length).filterMap (fun i => match L[i]? with
  | some v => if am_g v then some (i, am_v G v) else none
  | none => none)
theorem am_lv_mem {G : am_G} {L : List Value} {q : Nat × Value} : q ∈ am_lv G L ↔ ∃ v, L[q.1]? = some v ∧ am_g v = true ∧ q.2 = am_v G v := by
  unfold am_lv
  rw [List.mem_filterMap]
  constructor
  · rintro ⟨i, hi, h⟩
    cases hv : L[i]? with
    | none => rw [hv] at h; cases h
    | some v =>
      rw [hv] at h
      by_cases hg : am_g v = true
      · simp only [hg, if_true] at h
        cases h
        exact ⟨v, hv, hg, rfl⟩
      · simp only [hg] at h; cases h
  · rintro ⟨v, h1, h2, h3⟩
    refine ⟨q.1, List.mem_range.mpr (List.getElem?_eq_some_iff.mp h1).1, ?_⟩
    rw [h1]
    simp only [h2, if_true]
    rw [← h3]
theorem am_L_lv {G : am_G} {nL : Nat} {L : List Value} {ls : Array Slot} (h : am_L G nL L ls) : lv_has ls nL (am_lv G L) := by
  refine ⟨h.2.1, h.2.2.1, fun q hq => ?_⟩
  obtain ⟨v, h1, h2, h3⟩ := am_lv_mem.mp hq
  rw [h3]
  exact h.2.2.2 q.1 v h1 h2
theorem am_L_set {G : am_G} {nL : Nat} {L L' : List Value} {ls ls' : Array Slot} {i : Nat} {v : Value} (h : am_L G nL L ls) (hg : am_g v = true) (hL : L.set i v = L') (hl : lv_has ls' nL ((i, am_v G v) :: (am_lv G L).filter (fun q => !(q.1 == i) && !(q.1 + 1 == i && q.2.category == 2)))) : am_L G nL L' ls' := by
  subst hL
  refine ⟨by rw [List.length_set]; exact h.1, hl.1, hl.2.1, fun j w hj hw => ?_⟩
  by_cases hji : j = i
  · subst hji
    have hlt : j < L.length := by
      have := (List.getElem?_eq_some_iff.mp hj).1
      rwa [List.length_set] at this
    rw [List.getElem?_set_self hlt] at hj
    cases hj
    exact hl.2.2 (j, am_v G v) List.mem_cons_self
  · rw [List.getElem?_set_ne (Ne.symm hji)] at hj
    refine hl.2.2 (j, am_v G w) (List.mem_cons_of_mem _ (List.mem_filter.mpr ⟨am_lv_mem.mpr ⟨w, hj, hw, rfl⟩, ?_⟩))
    have hc := am_cat (G := G) hw
    simp [hji, hc]
/-- the text constant, the switch of compact texts -/
def am_S (G : am_G) (U : State) : Prop := vk_R "BureauCrown$LawReader" 115 "pszdfnaitw" G.2.2.1 U ∧ vk_S 1 [10] [[112, 115, 122, 100, 102, 110, 97, 105, 116, 119]] (fun _ => G.2.2.1) (fun _ => G.2.2.2) (am_A G) U U.heap ∧ va_Z "java/lang/String" "COMPACT_STRINGS" "Z" (.int 1) (am_A G) U U.heap
theorem am_S_at {G : am_G} {s U : State} {H : Heap} {locs : List Loc} (h : am_S G s) (hS : va_S (am_A G) s.heap H locs) (hU : U.heap = H) (hW : s.WarmedH U.vm) : am_S G U := by
  obtain ⟨h1, h2, h3⟩ := h
  subst hU
  exact ⟨vk_R.warm hW h1, (h2.moved hW.alike).kept hS.2.1, (h3.moved hW.alike).kept hS.2.1⟩
def am_X (G : am_G) (sc : Option (Nat × (Nat → Int32))) (s : State) : Prop := match sc with
  | none => True
  | some x => va_X G.2.1 x.1 x.2 s s.heap ∧ G.2.1 < s.heap.size ∧ G.2.1 < G.1
abbrev am_kk : Nat := 40
def am_room (d : Nat) : Room := { frames := d, cells := 0, slots := 0, locals := am_kk * d }
def am_C (p : Program) (R : Room) (s : State) (m : MethodId) (args : Array Value) (c : Code) (cells slots : Nat) (G : am_G) (D : va_G) (cT : FieldType → ClassId) (M : am_M) (sc : Option (Nat × (Nat → Int32))) (d : Nat) : Prop :=
  p.tables.exec = Jvm.exec ∧ c.code = M.2.1 ∧ c.maxLocals = M.2.2.1 ∧ s.vm.findClass M.1.cls = some m.cls ∧ (∀ w ∈ lw_g, w.before args s = true) ∧ va_K D vwCl (am_tys cT) s ∧ am_S G s ∧ am_X G sc s ∧ G.1 ≤ s.heap.size ∧ d ≤ R.frames ∧ am_kk * d ≤ R.locals ∧ cells ≤ R.cells ∧ slots ≤ R.slots
/-- how a method may end: with r (0 where it answers nothing) -/
def am_end (M : am_M) (r : Int32) : Prop := match M.2.2.2 with
  | none => r = 0
  | some ty => narrow ty (.int r) = .int r
def am_rv (M : am_M) (r : Int32) : Option Value := match M.2.2.2 with
  | none => none
  | some _ => some (.int r)
def am_ri (M : am_M) : Instr := match M.2.2.2 with
  | none => .return_
  | some _ => .ireturn
theorem am_mem {w : Cond} (i : Nat) (hi : lw_tbl[i]? = some w) (hg : goodWord w = true) : w ∈ lw_g := List.mem_filter.mpr ⟨List.mem_of_getElem? hi, hg⟩
def am_cls (ci : Nat) (C : String) (T : u_T) (N : Nat) (ty0 : Nat → FieldType) : Prop := ci < 99 ∧ vwCl[ci]? = some (C, T, N) ∧ (∀ w ∈ u_ws C T N, w ∈ lw_g) ∧ (∀ k, k < N → parseFieldDescriptor (T k).2.2.1 = some (ty0 k)) ∧ (∀ a, a < N → ∀ b, b < N → a ≠ b → (T a).2.1 ≠ (T b).2.1) ∧ am_nf ci = N
def am_fl (own : String) (idx ci k : Nat) : Prop := ∃ (C : String) (T : u_T) (N : Nat) (ty0 : Nat → FieldType), am_cls ci C T N ty0 ∧ k < N ∧ Cond.fieldLink own idx (T k).1 (T k).2.1 (T k).2.2.1 ∈ lw_g
def am_flp (own : String) (idx ci k : Nat) (ty : FieldType) : Prop := ∃ (C : String) (T : u_T) (N : Nat) (ty0 : Nat → FieldType), am_cls ci C T N ty0 ∧ k < N ∧ Cond.fieldLink own idx (T k).1 (T k).2.1 (T k).2.2.1 ∈ lw_g ∧ (T k).2.2.2 = false ∧ parseFieldDescriptor (T k).2.2.1 = some ty
def am_mf (M : am_M) (n : Nat) : Prop := Cond.code M.1 M.2.1 M.2.2.1 M.2.2.2 ∈ lw_g ∧ Cond.initialized M.1.cls ∈ lw_g ∧ (M.1.cls ≠ "java/lang/invoke/MethodHandle" ∧ M.1.cls ≠ "java/lang/invoke/VarHandle" ∧ (parseMethodDescriptor M.1.desc).map (fun d => d.parameters.length) = some n) ∧ M.2.2.1 ≤ 21 ∧ plainName M.1.cls = true
def am_mv (M : am_M) (ci : Nat) : Prop := Cond.instanceMethod M.1 ∈ lw_g ∧ Cond.selects M.1.cls M.1 M.1 ∈ lw_g ∧ ci < 99 ∧ ∃ (T : u_T) (N : Nat), vwCl[ci]? = some (M.1.cls, T, N)
def Ru (M : am_M) (sc : Option (Nat × (Nat → Int32))) (d pc : Nat) (L st : List Value) (h : am_H) (Z : Int32 → am_H → Prop) : Prop :=
  ∀ (p : Program) (l : Launch) (e : Env) (R : Room) (s : State) (m : MethodId) (args : Array Value) (below : List Frame) (meth : Method) (c : Code) (H : Heap) (locs : List Loc) (cells slots : Nat) (Q : State → Prop) (G : am_G) (D : va_G) (cT : FieldType → ClassId) (ls : Array Slot),
    am_C p R s m args c cells slots G D cT M sc d → va_P D vwCl (am_ws G cT h) H → va_S (am_A G) s.heap H locs → am_L G M.2.2.1 L ls →
    (∀ (r : Int32) (h' : am_H) (H' : Heap) (locs' : List Loc) (pc' : Nat) (ls' : Array Slot), Z r h' → am_end M r → va_P D vwCl (am_ws G cT h') H' → va_S (am_A G) s.heap H' locs' → decode M.2.1 pc' = .ok (am_ri M, 1) → W p l e R s m args below meth c H' locs' cells slots Q (F0 m pc' ls' (am_rv M r).toList)) →
    W p l e R s m args below meth c H locs cells slots Q (F0 m pc ls (st.map (am_v G)))
def am_Q (G : am_G) (D : va_G) (cT : FieldType → ClassId) (M : am_M) (Z : Int32 → am_H → Prop) : Array Value → State → Outcome → State → Prop := fun _ st oc t =>
  (∃ (r : Int32) (h' : am_H), oc = .returned (am_rv M r) ∧ Z r h' ∧ va_P D vwCl (am_ws G cT h') t.heap) ∧ va_F (am_A G) st t
def Sp (M : am_M) (d : Nat) (args : List Value) (h : am_H) (Z : Int32 → am_H → Prop) : Prop :=
  ∀ (l : Launch) (G : am_G) (D : va_G) (cT : FieldType → ClassId), Met l M.1 (Cond.code M.1 M.2.1 M.2.2.1 M.2.2.2 :: lw_g) (am_room d) (va_Pc (args.map (am_v G)) (fun U => va_P D vwCl (am_ws G cT h) U.heap ∧ va_K D vwCl (am_tys cT) U ∧ am_S G U ∧ G.1 ≤ U.heap.size)) (am_Q G D cT M Z) 0 0 (am_A G)
/-- what a call owes: a contract below d -/
def am_cl (M : am_M) (d : Nat) (args : List Value) (h : am_H) (K : Int32 → am_H → Prop) : Prop := ∃ d', d' < d ∧ Sp M d' args h K

