/-! ===== the judgement: from a point of a method, with locals lv, stack st, memory M, the method comes to a return of r with memory M' ===== -/
def dC (M M' : AM) : Nat := M'.1.length - M.1.length
def dS (M M' : AM) : Nat := nSl M' - nSl M
def RetAt (b : ByteArray) (rt : Option FieldType) (pc : Nat) (r : Option Value) : Prop := match r with
  | none => decode b pc = .ok (.return_, 1) ∧ rt = none
  | some (.int v) => decode b pc = .ok (.ireturn, 1) ∧ ∃ ty, rt = some ty ∧ narrow ty (.int v) = .int v
  | some (.long _) => decode b pc = .ok (.lreturn, 1) ∧ rt = some .long
  | some (.ref _) => decode b pc = .ok (.areturn, 1) ∧ ∃ n, rt = some (.object n)
  | _ => False
def lvd (x : XC) (lv : List (Nat × Value)) : List (Nat × Value) := lv.map (fun q => (q.1, den x q.2))
def Cx (x : XC) (y : MethodName) (b : ByteArray) (nL d : Nat) (p : Program) (R : Room) (s : State) (m : MethodId) (args : Array Value) (meth : Method) (c : Code) : Prop :=
  p.tables.exec = Jvm.exec ∧ c.code = b ∧ c.maxLocals = nL ∧ s.vm.findClass y.cls = some m.cls ∧ (∀ w ∈ gw, w.before args s = true) ∧ Sx x s ∧ (d ≤ R.frames ∧ 64 * d ≤ R.locals) ∧ (y.name = "<init>" → meth.name = y.name)
def G (y : MethodName) (b : ByteArray) (nL : Nat) (rt : Option FieldType) (d : Nat) (pc : Nat) (lv : List (Nat × Value)) (st : List Value) (M : AM) (r : Option Value) (M' : AM) : Prop :=
  Mono M M' ∧ ∀ (p : Program) (l : Launch) (e : Env) (R : Room) (s : State) (m : MethodId) (args : Array Value) (below : List Frame) (meth : Method) (c : Code) (x : XC) (H : Heap) (locs : List Loc) (cells slots : Nat) (Q : State → Prop) (ls : Array Slot),
    Cx x y b nL d p R s m args meth c → va_S (xA x) s.heap H locs → Xx x M s s.heap → Hx x M H → lv_has ls nL (lvd x lv) → cells + dC M M' ≤ R.cells → slots + dS M M' ≤ R.slots →
    (∀ (pc' : Nat) (ls' : Array Slot) (H' : Heap) (locs' : List Loc), RetAt b rt pc' r → va_S (xA x) s.heap H' locs' → Hx x M' H' → W p l e R s m args below meth c H' locs' (cells + dC M M') (slots + dS M M') Q (F0 m pc' ls' ((r.map (den x)).toList))) →
    W p l e R s m args below meth c H locs cells slots Q (F0 m pc ls (st.map (den x)))
def Pm (x : XC) (M : AM) (av : List Value) : Array Value → State → Prop := fun a U => a = (av.map (den x)).toArray ∧ Sx x U ∧ Xx x M U U.heap ∧ Hx x M U.heap
def Qm (x : XC) (M' : AM) (r : Option Value) : Array Value → State → Outcome → State → Prop := fun _ st o t => o = .returned (r.map (den x)) ∧ Hx x M' t.heap ∧ va_F (xA x) st t
def rmm (d : Nat) (M M' : AM) : Room := { frames := d, cells := dC M M', slots := dS M M', locals := 64 * d }
/-- a method's contract -/
def Cn (y : MethodName) (b : ByteArray) (nL : Nat) (rt : Option FieldType) (d : Nat) (av : List Value) (M : AM) (r : Option Value) (M' : AM) : Prop :=
  Mono M M' ∧ ∀ (l : Launch) (x : XC), Met l y (.code y b nL rt :: gw) (rmm d M M') (Pm x M av) (Qm x M' r) (dC M M') (dS M M') (xA x)
/-! locals -/
def lg (lv : List (Nat × Value)) (i : Nat) : Option Value := (lv.find? (fun q => q.1 == i)).map (fun q => q.2)
def lst1 (i : Nat) (v : Value) (lv : List (Nat × Value)) : List (Nat × Value) := (i, v) :: lv.filter (fun q => !(q.1 == i) && !(q.1 + 1 == i && q.2.category == 2))
def lst2 (i : Nat) (v : Value) (lv : List (Nat × Value)) : List (Nat × Value) := (i, v) :: lv.filter (fun q => !(q.1 == i) && (!(q.1 == i + 1) && !(q.1 + 1 == i && q.2.category == 2)))
theorem den_cat (x : XC) (hx : x.2.2.2.2 = .null ∨ ∃ a, x.2.2.2.2 = .ref a) (v : Value) : (den x v).category = v.category := by
  cases v <;> try rfl
  rcases hx with h | ⟨a, h⟩ <;> simp [den, h, Value.category]
theorem den_cats (x : XC) (hx : x.2.2.2.2 = .null ∨ ∃ a, x.2.2.2.2 = .ref a) (st : List Value) : ((st.map (den x)).map fun v => v.category) = st.map (fun v => v.category) := by
  rw [List.map_map]
  exact List.map_congr_left fun v _ => den_cat x hx v
theorem lg_at {x : XC} {ls : Array Slot} {nL : Nat} {lv : List (Nat × Value)} (h : lv_has ls nL (lvd x lv)) {i : Nat} {v : Value} (hl : lg lv i = some v) : ls[i]? = some (.val (den x v)) := by
  simp only [lg, Option.map_eq_some_iff] at hl
  obtain ⟨q, h1, h2⟩ := hl
  have h3 := List.mem_of_find?_eq_some h1
  have h4 := List.find?_some h1
  simp at h4
  have h5 := h.2.2 (q.1, den x q.2) (List.mem_map.mpr ⟨q, h3, rfl⟩)
  rw [← h2, ← h4]
  exact h5
theorem lvd_filter1 (x : XC) (hx : x.2.2.2.2 = .null ∨ ∃ a, x.2.2.2.2 = .ref a) (i : Nat) (lv : List (Nat × Value)) : (lvd x lv).filter (fun q => !(q.1 == i) && !(q.1 + 1 == i && q.2.category == 2)) = lvd x (lv.filter (fun q => !(q.1 == i) && !(q.1 + 1 == i && q.2.category == 2))) := by
  simp only [lvd, List.filter_map]
  congr 1
  apply List.filter_congr
  intro q _
  simp [den_cat x hx]
theorem lvd_filter2 (x : XC) (hx : x.2.2.2.2 = .null ∨ ∃ a, x.2.2.2.2 = .ref a) (i : Nat) (lv : List (Nat × Value)) : (lvd x lv).filter (fun q => !(q.1 == i) && (!(q.1 == i + 1) && !(q.1 + 1 == i && q.2.category == 2))) = lvd x (lv.filter (fun q => !(q.1 == i) && (!(q.1 == i + 1) && !(q.1 + 1 == i && q.2.category == 2)))) := by
  simp only [lvd, List.filter_map]
  congr 1
  apply List.filter_congr
  intro q _
  simp [den_cat x hx]
theorem lvd_sub {x : XC} {ls : Array Slot} {nL : Nat} {lv lv' : List (Nat × Value)} (h : lv_has ls nL (lvd x lv)) (ks : List Nat) (hk : ks.filterMap (fun k => lv[k]?) = lv') : lv_has ls nL (lvd x lv') := by
  refine ⟨h.1, h.2.1, fun q hq => ?_⟩
  obtain ⟨q0, h1, rfl⟩ := List.mem_map.mp hq
  rw [← hk] at h1
  obtain ⟨k, -, h2⟩ := List.mem_filterMap.mp h1
  exact h.2.2 _ (List.mem_map.mpr ⟨q0, List.mem_of_getElem? h2, rfl⟩)
/-- shift right, zeros coming in -/
def ush (v w : Int32) : Int32 := (v.toUInt32 >>> (w.toUInt32 &&& Int32.toUInt32 31)).toInt32
section GR
variable {y : MethodName} {b : ByteArray} {nL : Nat} {rt : Option FieldType} {d pc : Nat} {lv : List (Nat × Value)} {st : List Value} {M M' : AM} {r : Option Value}
/-- a step that leaves the memory -/
theorem G.mk (hm : Mono M M') (h : ∀ (p : Program) (l : Launch) (e : Env) (R : Room) (s : State) (m : MethodId) (args : Array Value) (below : List Frame) (meth : Method) (c : Code) (x : XC) (H : Heap) (locs : List Loc) (cells slots : Nat) (Q : State → Prop) (ls : Array Slot),
    Cx x y b nL d p R s m args meth c → va_S (xA x) s.heap H locs → Xx x M s s.heap → Hx x M H → lv_has ls nL (lvd x lv) → cells + dC M M' ≤ R.cells → slots + dS M M' ≤ R.slots →
    (∀ (pc' : Nat) (ls' : Array Slot) (H' : Heap) (locs' : List Loc), RetAt b rt pc' r → va_S (xA x) s.heap H' locs' → Hx x M' H' → W p l e R s m args below meth c H' locs' (cells + dC M M') (slots + dS M M') Q (F0 m pc' ls' ((r.map (den x)).toList))) →
    W p l e R s m args below meth c H locs cells slots Q (F0 m pc ls (st.map (den x)))) : G y b nL rt d pc lv st M r M' := ⟨hm, h⟩
theorem G.sub {lv' : List (Nat × Value)} (ks : List Nat) (hk : ks.filterMap (fun k => lv[k]?) = lv') (k : G y b nL rt d pc lv' st M r M') : G y b nL rt d pc lv st M r M' :=
  ⟨k.1, fun p l e R s m args below meth c x H locs cells slots Q ls C hS hX hH hls hc hs kk => k.2 p l e R s m args below meth c x H locs cells slots Q ls C hS hX hH (lvd_sub hls ks hk) hc hs kk⟩
theorem G.iconst {n : Int} (v : Int32) (hd : decode b pc = .ok (.iconst n, 1)) (hv : Int32.ofInt n = v) (k : G y b nL rt d (pc + 1) lv (.int v :: st) M r M') : G y b nL rt d pc lv st M r M' :=
  ⟨k.1, fun p l e R s m args below meth c x H locs cells slots Q ls C hS hX hH hls hc hs kk => lv_iconst C.1 C.2.1 hd hv (k.2 p l e R s m args below meth c x H locs cells slots Q ls C hS hX hH hls hc hs kk)⟩
theorem G.bipush {n : Int} (v : Int32) (hd : decode b pc = .ok (.bipush n, 2)) (hv : (Int8.ofInt n).toInt32 = v) (k : G y b nL rt d (pc + 2) lv (.int v :: st) M r M') : G y b nL rt d pc lv st M r M' :=
  ⟨k.1, fun p l e R s m args below meth c x H locs cells slots Q ls C hS hX hH hls hc hs kk => lv_bipush C.1 C.2.1 hd hv (k.2 p l e R s m args below meth c x H locs cells slots Q ls C hS hX hH hls hc hs kk)⟩
theorem G.sipush {n : Int} (v : Int32) (hd : decode b pc = .ok (.sipush n, 3)) (hv : (Int16.ofInt n).toInt32 = v) (k : G y b nL rt d (pc + 3) lv (.int v :: st) M r M') : G y b nL rt d pc lv st M r M' :=
  ⟨k.1, fun p l e R s m args below meth c x H locs cells slots Q ls C hS hX hH hls hc hs kk => lv_sipush C.1 C.2.1 hd hv (k.2 p l e R s m args below meth c x H locs cells slots Q ls C hS hX hH hls hc hs kk)⟩
theorem G.lconst {n : Fin 2} (v : Int64) (hd : decode b pc = .ok (.lconst n, 1)) (hv : Int64.ofNat (n : Nat) = v) (k : G y b nL rt d (pc + 1) lv (.long v :: st) M r M') : G y b nL rt d pc lv st M r M' :=
  ⟨k.1, fun p l e R s m args below meth c x H locs cells slots Q ls C hS hX hH hls hc hs kk => lv_lconst C.1 C.2.1 hd hv (k.2 p l e R s m args below meth c x H locs cells slots Q ls C hS hX hH hls hc hs kk)⟩
theorem G.ldc {idx : Nat} (v : Int32) (hd : decode b pc = .ok (.ldc idx, 2)) (hw : Cond.constant y.cls idx v ∈ gw) (k : G y b nL rt d (pc + 2) lv (.int v :: st) M r M') : G y b nL rt d pc lv st M r M' :=
  ⟨k.1, fun p l e R s m args below meth c x H locs cells slots Q ls C hS hX hH hls hc hs kk => lv_ldc C.1 C.2.1 C.2.2.2.1 (C.2.2.2.2.1 _ hw) hd (k.2 p l e R s m args below meth c x H locs cells slots Q ls C hS hX hH hls hc hs kk)⟩
theorem G.ldc_w {idx : Nat} (v : Int32) (hd : decode b pc = .ok (.ldc_w idx, 3)) (hw : Cond.constant y.cls idx v ∈ gw) (k : G y b nL rt d (pc + 3) lv (.int v :: st) M r M') : G y b nL rt d pc lv st M r M' :=
  ⟨k.1, fun p l e R s m args below meth c x H locs cells slots Q ls C hS hX hH hls hc hs kk => lv_ldcw C.1 C.2.1 C.2.2.2.1 (C.2.2.2.2.1 _ hw) hd (k.2 p l e R s m args below meth c x H locs cells slots Q ls C hS hX hH hls hc hs kk)⟩
theorem G.ldc2 {idx : Nat} (v : Int64) (hd : decode b pc = .ok (.ldc2_w idx, 3)) (hw : Cond.constantLong y.cls idx v ∈ gw) (k : G y b nL rt d (pc + 3) lv (.long v :: st) M r M') : G y b nL rt d pc lv st M r M' :=
  ⟨k.1, fun p l e R s m args below meth c x H locs cells slots Q ls C hS hX hH hls hc hs kk => lv_ldc2 C.1 C.2.1 C.2.2.2.1 (C.2.2.2.2.1 _ hw) hd (k.2 p l e R s m args below meth c x H locs cells slots Q ls C hS hX hH hls hc hs kk)⟩
theorem G.ldcS {idx : Nat} (hy : y.cls = RX9) (hi : idx = 29) (hd : decode b pc = .ok (.ldc idx, 2)) (k : G y b nL rt d (pc + 2) lv (.ref 5 :: st) M r M') : G y b nL rt d pc lv st M r M' :=
  ⟨k.1, fun p l e R s m args below meth c x H locs cells slots Q ls C hS hX hH hls hc hs kk => va_ldcS C.1 C.2.1 (by rw [← C.2.2.2.1, hy]) (by rw [hi]; exact C.2.2.2.2.2.1.2.2.2.1) hd (k.2 p l e R s m args below meth c x H locs cells slots Q ls C hS hX hH hls hc hs kk)⟩
theorem G.iload_n {n : Fin 4} {i : Nat} {v : Int32} (hd : decode b pc = .ok (.iload_n n, 1)) (hi : (n : Nat) = i) (hl : lg lv i = some (.int v)) (k : G y b nL rt d (pc + 1) lv (.int v :: st) M r M') : G y b nL rt d pc lv st M r M' :=
  ⟨k.1, fun p l e R s m args below meth c x H locs cells slots Q ls C hS hX hH hls hc hs kk => lv_iload_n C.1 C.2.1 hd hi (lg_at hls hl) (k.2 p l e R s m args below meth c x H locs cells slots Q ls C hS hX hH hls hc hs kk)⟩
theorem G.iload {i : Nat} {v : Int32} (hd : decode b pc = .ok (.iload i, 2)) (hl : lg lv i = some (.int v)) (k : G y b nL rt d (pc + 2) lv (.int v :: st) M r M') : G y b nL rt d pc lv st M r M' :=
  ⟨k.1, fun p l e R s m args below meth c x H locs cells slots Q ls C hS hX hH hls hc hs kk => lv_iload C.1 C.2.1 hd (lg_at hls hl) (k.2 p l e R s m args below meth c x H locs cells slots Q ls C hS hX hH hls hc hs kk)⟩
theorem G.lload_n {n : Fin 4} {i : Nat} {v : Int64} (hd : decode b pc = .ok (.lload_n n, 1)) (hi : (n : Nat) = i) (hl : lg lv i = some (.long v)) (k : G y b nL rt d (pc + 1) lv (.long v :: st) M r M') : G y b nL rt d pc lv st M r M' :=
  ⟨k.1, fun p l e R s m args below meth c x H locs cells slots Q ls C hS hX hH hls hc hs kk => lv_lload_n C.1 C.2.1 hd hi (lg_at hls hl) (k.2 p l e R s m args below meth c x H locs cells slots Q ls C hS hX hH hls hc hs kk)⟩
theorem G.lload {i : Nat} {v : Int64} (hd : decode b pc = .ok (.lload i, 2)) (hl : lg lv i = some (.long v)) (k : G y b nL rt d (pc + 2) lv (.long v :: st) M r M') : G y b nL rt d pc lv st M r M' :=
  ⟨k.1, fun p l e R s m args below meth c x H locs cells slots Q ls C hS hX hH hls hc hs kk => lv_lload C.1 C.2.1 hd (lg_at hls hl) (k.2 p l e R s m args below meth c x H locs cells slots Q ls C hS hX hH hls hc hs kk)⟩
theorem G.aload_n {n : Fin 4} {i : Nat} {v : Nat} (hd : decode b pc = .ok (.aload_n n, 1)) (hi : (n : Nat) = i) (hl : lg lv i = some (.ref v)) (k : G y b nL rt d (pc + 1) lv (.ref v :: st) M r M') : G y b nL rt d pc lv st M r M' :=
  ⟨k.1, fun p l e R s m args below meth c x H locs cells slots Q ls C hS hX hH hls hc hs kk => lv_aload_n C.1 C.2.1 hd hi (lg_at hls hl) (k.2 p l e R s m args below meth c x H locs cells slots Q ls C hS hX hH hls hc hs kk)⟩
theorem G.aload {i : Nat} {v : Nat} (hd : decode b pc = .ok (.aload i, 2)) (hl : lg lv i = some (.ref v)) (k : G y b nL rt d (pc + 2) lv (.ref v :: st) M r M') : G y b nL rt d pc lv st M r M' :=
  ⟨k.1, fun p l e R s m args below meth c x H locs cells slots Q ls C hS hX hH hls hc hs kk => lv_aload C.1 C.2.1 hd (lg_at hls hl) (k.2 p l e R s m args below meth c x H locs cells slots Q ls C hS hX hH hls hc hs kk)⟩
theorem G.istore_n {n : Fin 4} {i : Nat} {v : Int32} {lv' : List (Nat × Value)} (hd : decode b pc = .ok (.istore_n n, 1)) (hi : (n : Nat) = i) (hn : i < nL) (hl : lst1 i (.int v) lv = lv') (k : G y b nL rt d (pc + 1) lv' st M r M') : G y b nL rt d pc lv (.int v :: st) M r M' :=
  ⟨k.1, fun p l e R s m args below meth c x H locs cells slots Q ls C hS hX hH hls hc hs kk => lv_istore_n C.1 C.2.1 hd hi hls hn rfl (fun ls' hls' => k.2 p l e R s m args below meth c x H locs cells slots Q ls' C hS hX hH (by rw [← hl]; rw [lvd_filter1 x C.2.2.2.2.2.1.2.2.2.2.2] at hls'; exact hls') hc hs kk)⟩
theorem G.istore {i : Nat} {v : Int32} {lv' : List (Nat × Value)} (hd : decode b pc = .ok (.istore i, 2)) (hn : i < nL) (hl : lst1 i (.int v) lv = lv') (k : G y b nL rt d (pc + 2) lv' st M r M') : G y b nL rt d pc lv (.int v :: st) M r M' :=
  ⟨k.1, fun p l e R s m args below meth c x H locs cells slots Q ls C hS hX hH hls hc hs kk => lv_istore C.1 C.2.1 hd hls hn rfl (fun ls' hls' => k.2 p l e R s m args below meth c x H locs cells slots Q ls' C hS hX hH (by rw [← hl]; rw [lvd_filter1 x C.2.2.2.2.2.1.2.2.2.2.2] at hls'; exact hls') hc hs kk)⟩
theorem G.lstore_n {n : Fin 4} {i : Nat} {v : Int64} {lv' : List (Nat × Value)} (hd : decode b pc = .ok (.lstore_n n, 1)) (hi : (n : Nat) = i) (hn : i + 1 < nL) (hl : lst2 i (.long v) lv = lv') (k : G y b nL rt d (pc + 1) lv' st M r M') : G y b nL rt d pc lv (.long v :: st) M r M' :=
  ⟨k.1, fun p l e R s m args below meth c x H locs cells slots Q ls C hS hX hH hls hc hs kk => lv_lstore_n C.1 C.2.1 hd hi hls hn rfl (fun ls' hls' => k.2 p l e R s m args below meth c x H locs cells slots Q ls' C hS hX hH (by rw [← hl]; rw [lvd_filter2 x C.2.2.2.2.2.1.2.2.2.2.2] at hls'; exact hls') hc hs kk)⟩
theorem G.lstore {i : Nat} {v : Int64} {lv' : List (Nat × Value)} (hd : decode b pc = .ok (.lstore i, 2)) (hn : i + 1 < nL) (hl : lst2 i (.long v) lv = lv') (k : G y b nL rt d (pc + 2) lv' st M r M') : G y b nL rt d pc lv (.long v :: st) M r M' :=
  ⟨k.1, fun p l e R s m args below meth c x H locs cells slots Q ls C hS hX hH hls hc hs kk => lv_lstore C.1 C.2.1 hd hls hn rfl (fun ls' hls' => k.2 p l e R s m args below meth c x H locs cells slots Q ls' C hS hX hH (by rw [← hl]; rw [lvd_filter2 x C.2.2.2.2.2.1.2.2.2.2.2] at hls'; exact hls') hc hs kk)⟩
theorem G.astore_n {n : Fin 4} {i : Nat} {v : Nat} {lv' : List (Nat × Value)} (hd : decode b pc = .ok (.astore_n n, 1)) (hi : (n : Nat) = i) (hn : i < nL) (hl : lst1 i (.ref v) lv = lv') (k : G y b nL rt d (pc + 1) lv' st M r M') : G y b nL rt d pc lv (.ref v :: st) M r M' :=
  ⟨k.1, fun p l e R s m args below meth c x H locs cells slots Q ls C hS hX hH hls hc hs kk => lv_astore_n C.1 C.2.1 hd hi hls hn rfl (fun ls' hls' => k.2 p l e R s m args below meth c x H locs cells slots Q ls' C hS hX hH (by rw [← hl]; rw [lvd_filter1 x C.2.2.2.2.2.1.2.2.2.2.2] at hls'; exact hls') hc hs kk)⟩
theorem G.astore {i : Nat} {v : Nat} {lv' : List (Nat × Value)} (hd : decode b pc = .ok (.astore i, 2)) (hn : i < nL) (hl : lst1 i (.ref v) lv = lv') (k : G y b nL rt d (pc + 2) lv' st M r M') : G y b nL rt d pc lv (.ref v :: st) M r M' :=
  ⟨k.1, fun p l e R s m args below meth c x H locs cells slots Q ls C hS hX hH hls hc hs kk => lv_astore C.1 C.2.1 hd hls hn rfl (fun ls' hls' => k.2 p l e R s m args below meth c x H locs cells slots Q ls' C hS hX hH (by rw [← hl]; rw [lvd_filter1 x C.2.2.2.2.2.1.2.2.2.2.2] at hls'; exact hls') hc hs kk)⟩
theorem idx_of {lv : List (Nat × Value)} {x : XC} {i : Nat} {v : Int32} (hl : lg lv i = some (.int v)) : ∃ k : Nat, (lvd x lv)[k]? = some (i, Value.int v) := by
  simp only [lg, Option.map_eq_some_iff] at hl
  obtain ⟨q, h1, h2⟩ := hl
  have h3 := List.mem_of_find?_eq_some h1
  have h4 := List.find?_some h1
  simp at h4
  obtain ⟨k, hk⟩ := List.getElem?_of_mem h3
  refine ⟨k, ?_⟩
  simp only [lvd, List.getElem?_map, hk, Option.map_some, h2, h4]
  rfl
theorem G.iinc {i : Nat} {n : Int} (v : Int32) {w : Int32} {lv' : List (Nat × Value)} (hd : decode b pc = .ok (.iinc i n, 3)) (hg : lg lv i = some (.int v)) (hw : v + Int32.ofInt n = w) (hn : i < nL) (hl : lst1 i (.int w) lv = lv') (k : G y b nL rt d (pc + 3) lv' st M r M') : G y b nL rt d pc lv st M r M' :=
  ⟨k.1, fun p l e R s m args below meth c x H locs cells slots Q ls C hS hX hH hls hc hs kk => by
    obtain ⟨k0, hk0⟩ := idx_of (x := x) hg
    exact lv_iinc C.1 C.2.1 hd hls hk0 hw hn rfl (fun ls' hls' => k.2 p l e R s m args below meth c x H locs cells slots Q ls' C hS hX hH (by rw [← hl]; rw [lvd_filter1 x C.2.2.2.2.2.1.2.2.2.2.2] at hls'; exact hls') hc hs kk)⟩
theorem G.goto {off : Int} (tgt : Nat) (hd : decode b pc = .ok (.goto off, 3)) (ht : (pc : Int) + off = (tgt : Int)) (k : G y b nL rt d tgt lv st M r M') : G y b nL rt d pc lv st M r M' :=
  ⟨k.1, fun p l e R s m args below meth c x H locs cells slots Q ls C hS hX hH hls hc hs kk => lv_goto C.1 C.2.1 hd ht (k.2 p l e R s m args below meth c x H locs cells slots Q ls C hS hX hH hls hc hs kk)⟩
theorem G.dup {v : Value} (hd : decode b pc = .ok (.dup, 1)) (hv : v.category = 1) (k : G y b nL rt d (pc + 1) lv (v :: v :: st) M r M') : G y b nL rt d pc lv (v :: st) M r M' :=
  ⟨k.1, fun p l e R s m args below meth c x H locs cells slots Q ls C hS hX hH hls hc hs kk => lv_dup C.1 C.2.1 hd (by rw [den_cat x C.2.2.2.2.2.1.2.2.2.2.2]; exact hv) (k.2 p l e R s m args below meth c x H locs cells slots Q ls C hS hX hH hls hc hs kk)⟩
theorem G.pop {v : Value} (hd : decode b pc = .ok (.pop, 1)) (hv : v.category = 1) (k : G y b nL rt d (pc + 1) lv st M r M') : G y b nL rt d pc lv (v :: st) M r M' :=
  ⟨k.1, fun p l e R s m args below meth c x H locs cells slots Q ls C hS hX hH hls hc hs kk => lv_pop C.1 C.2.1 hd (by rw [den_cat x C.2.2.2.2.2.1.2.2.2.2.2]; exact hv) (k.2 p l e R s m args below meth c x H locs cells slots Q ls C hS hX hH hls hc hs kk)⟩
theorem G.dup2 {v w : Value} (hd : decode b pc = .ok (.dup2, 1)) (hv : v.category = 1) (hw : w.category = 1) (k : G y b nL rt d (pc + 1) lv (v :: w :: v :: w :: st) M r M') : G y b nL rt d pc lv (v :: w :: st) M r M' :=
  ⟨k.1, fun p l e R s m args below meth c x H locs cells slots Q ls C hS hX hH hls hc hs kk => lv_dup2_11 C.1 C.2.1 hd (by rw [den_cat x C.2.2.2.2.2.1.2.2.2.2.2]; exact hv) (by rw [den_cat x C.2.2.2.2.2.1.2.2.2.2.2]; exact hw) (k.2 p l e R s m args below meth c x H locs cells slots Q ls C hS hX hH hls hc hs kk)⟩
theorem G.iadd {v w : Int32} (hd : decode b pc = .ok (.iadd, 1)) (k : G y b nL rt d (pc + 1) lv (.int (v + w) :: st) M r M') : G y b nL rt d pc lv (.int w :: .int v :: st) M r M' :=
  ⟨k.1, fun p l e R s m args below meth c x H locs cells slots Q ls C hS hX hH hls hc hs kk => lv_iadd C.1 C.2.1 hd (k.2 p l e R s m args below meth c x H locs cells slots Q ls C hS hX hH hls hc hs kk)⟩
theorem G.isub {v w : Int32} (hd : decode b pc = .ok (.isub, 1)) (k : G y b nL rt d (pc + 1) lv (.int (v - w) :: st) M r M') : G y b nL rt d pc lv (.int w :: .int v :: st) M r M' :=
  ⟨k.1, fun p l e R s m args below meth c x H locs cells slots Q ls C hS hX hH hls hc hs kk => lv_isub C.1 C.2.1 hd (k.2 p l e R s m args below meth c x H locs cells slots Q ls C hS hX hH hls hc hs kk)⟩
theorem G.imul {v w : Int32} (hd : decode b pc = .ok (.imul, 1)) (k : G y b nL rt d (pc + 1) lv (.int (v * w) :: st) M r M') : G y b nL rt d pc lv (.int w :: .int v :: st) M r M' :=
  ⟨k.1, fun p l e R s m args below meth c x H locs cells slots Q ls C hS hX hH hls hc hs kk => lv_imul C.1 C.2.1 hd (k.2 p l e R s m args below meth c x H locs cells slots Q ls C hS hX hH hls hc hs kk)⟩
theorem G.iand {v w : Int32} (hd : decode b pc = .ok (.iand, 1)) (k : G y b nL rt d (pc + 1) lv (.int (v &&& w) :: st) M r M') : G y b nL rt d pc lv (.int w :: .int v :: st) M r M' :=
  ⟨k.1, fun p l e R s m args below meth c x H locs cells slots Q ls C hS hX hH hls hc hs kk => lv_iand C.1 C.2.1 hd (k.2 p l e R s m args below meth c x H locs cells slots Q ls C hS hX hH hls hc hs kk)⟩
theorem G.ior {v w : Int32} (hd : decode b pc = .ok (.ior, 1)) (k : G y b nL rt d (pc + 1) lv (.int (v ||| w) :: st) M r M') : G y b nL rt d pc lv (.int w :: .int v :: st) M r M' :=
  ⟨k.1, fun p l e R s m args below meth c x H locs cells slots Q ls C hS hX hH hls hc hs kk => lv_ior C.1 C.2.1 hd (k.2 p l e R s m args below meth c x H locs cells slots Q ls C hS hX hH hls hc hs kk)⟩
theorem G.ixor {v w : Int32} (hd : decode b pc = .ok (.ixor, 1)) (k : G y b nL rt d (pc + 1) lv (.int (v ^^^ w) :: st) M r M') : G y b nL rt d pc lv (.int w :: .int v :: st) M r M' :=
  ⟨k.1, fun p l e R s m args below meth c x H locs cells slots Q ls C hS hX hH hls hc hs kk => lv_ixor C.1 C.2.1 hd (k.2 p l e R s m args below meth c x H locs cells slots Q ls C hS hX hH hls hc hs kk)⟩
theorem G.ishl {v w : Int32} (hd : decode b pc = .ok (.ishl, 1)) (k : G y b nL rt d (pc + 1) lv (.int (v <<< (w &&& 31)) :: st) M r M') : G y b nL rt d pc lv (.int w :: .int v :: st) M r M' :=
  ⟨k.1, fun p l e R s m args below meth c x H locs cells slots Q ls C hS hX hH hls hc hs kk => lv_ishl C.1 C.2.1 hd (k.2 p l e R s m args below meth c x H locs cells slots Q ls C hS hX hH hls hc hs kk)⟩
theorem G.ishr {v w : Int32} (hd : decode b pc = .ok (.ishr, 1)) (k : G y b nL rt d (pc + 1) lv (.int (v >>> (w &&& 31)) :: st) M r M') : G y b nL rt d pc lv (.int w :: .int v :: st) M r M' :=
  ⟨k.1, fun p l e R s m args below meth c x H locs cells slots Q ls C hS hX hH hls hc hs kk => lv_ishr C.1 C.2.1 hd (k.2 p l e R s m args below meth c x H locs cells slots Q ls C hS hX hH hls hc hs kk)⟩
theorem G.idiv {v w : Int32} (hd : decode b pc = .ok (.idiv, 1)) (hne : ¬ w = 0) (k : G y b nL rt d (pc + 1) lv (.int (v / w) :: st) M r M') : G y b nL rt d pc lv (.int w :: .int v :: st) M r M' :=
  ⟨k.1, fun p l e R s m args below meth c x H locs cells slots Q ls C hS hX hH hls hc hs kk => lv_idiv C.1 C.2.1 hd hne (k.2 p l e R s m args below meth c x H locs cells slots Q ls C hS hX hH hls hc hs kk)⟩
theorem G.irem {v w : Int32} (hd : decode b pc = .ok (.irem, 1)) (hne : ¬ w = 0) (k : G y b nL rt d (pc + 1) lv (.int (v - v / w * w) :: st) M r M') : G y b nL rt d pc lv (.int w :: .int v :: st) M r M' :=
  ⟨k.1, fun p l e R s m args below meth c x H locs cells slots Q ls C hS hX hH hls hc hs kk => lv_irem C.1 C.2.1 hd hne (k.2 p l e R s m args below meth c x H locs cells slots Q ls C hS hX hH hls hc hs kk)⟩
theorem G.ladd {v w : Int64} (hd : decode b pc = .ok (.ladd, 1)) (k : G y b nL rt d (pc + 1) lv (.long (v + w) :: st) M r M') : G y b nL rt d pc lv (.long w :: .long v :: st) M r M' :=
  ⟨k.1, fun p l e R s m args below meth c x H locs cells slots Q ls C hS hX hH hls hc hs kk => lv_ladd C.1 C.2.1 hd (k.2 p l e R s m args below meth c x H locs cells slots Q ls C hS hX hH hls hc hs kk)⟩
theorem G.lmul {v w : Int64} (hd : decode b pc = .ok (.lmul, 1)) (k : G y b nL rt d (pc + 1) lv (.long (v * w) :: st) M r M') : G y b nL rt d pc lv (.long w :: .long v :: st) M r M' :=
  ⟨k.1, fun p l e R s m args below meth c x H locs cells slots Q ls C hS hX hH hls hc hs kk => lv_lmul C.1 C.2.1 hd (k.2 p l e R s m args below meth c x H locs cells slots Q ls C hS hX hH hls hc hs kk)⟩
theorem G.i2l {v : Int32} (hd : decode b pc = .ok (.i2l, 1)) (k : G y b nL rt d (pc + 1) lv (.long v.toInt64 :: st) M r M') : G y b nL rt d pc lv (.int v :: st) M r M' :=
  ⟨k.1, fun p l e R s m args below meth c x H locs cells slots Q ls C hS hX hH hls hc hs kk => lv_i2l C.1 C.2.1 hd rfl (k.2 p l e R s m args below meth c x H locs cells slots Q ls C hS hX hH hls hc hs kk)⟩
theorem G.l2i {v : Int64} (hd : decode b pc = .ok (.l2i, 1)) (k : G y b nL rt d (pc + 1) lv (.int v.toInt32 :: st) M r M') : G y b nL rt d pc lv (.long v :: st) M r M' :=
  ⟨k.1, fun p l e R s m args below meth c x H locs cells slots Q ls C hS hX hH hls hc hs kk => lv_l2i C.1 C.2.1 hd rfl (k.2 p l e R s m args below meth c x H locs cells slots Q ls C hS hX hH hls hc hs kk)⟩
theorem G.i2b {v : Int32} (hd : decode b pc = .ok (.i2b, 1)) (k : G y b nL rt d (pc + 1) lv (.int v.toInt8.toInt32 :: st) M r M') : G y b nL rt d pc lv (.int v :: st) M r M' :=
  ⟨k.1, fun p l e R s m args below meth c x H locs cells slots Q ls C hS hX hH hls hc hs kk => lv_i2b C.1 C.2.1 hd rfl (k.2 p l e R s m args below meth c x H locs cells slots Q ls C hS hX hH hls hc hs kk)⟩
theorem G.i2c {v u : Int32} (hd : decode b pc = .ok (.i2c, 1)) (hu : (v.toUInt32 % 65536).toInt32 = u) (k : G y b nL rt d (pc + 1) lv (.int u :: st) M r M') : G y b nL rt d pc lv (.int v :: st) M r M' :=
  ⟨k.1, fun p l e R s m args below meth c x H locs cells slots Q ls C hS hX hH hls hc hs kk => lv_i2c C.1 C.2.1 hd hu (k.2 p l e R s m args below meth c x H locs cells slots Q ls C hS hX hH hls hc hs kk)⟩
theorem G.lcmp {v w : Int64} (hd : decode b pc = .ok (.lcmp, 1)) (k : G y b nL rt d (pc + 1) lv (.int (lg_cmp v w) :: st) M r M') : G y b nL rt d pc lv (.long w :: .long v :: st) M r M' :=
  ⟨k.1, fun p l e R s m args below meth c x H locs cells slots Q ls C hS hX hH hls hc hs kk => W.lcmp C.1 C.2.1 hd (k.2 p l e R s m args below meth c x H locs cells slots Q ls C hS hX hH hls hc hs kk)⟩
theorem G.iushr {v w : Int32} (hd : decode b pc = .ok (.iushr, 1)) (k : G y b nL rt d (pc + 1) lv (.int (ush v w) :: st) M r M') : G y b nL rt d pc lv (.int w :: .int v :: st) M r M' :=
  ⟨k.1, fun p l e R s m args below meth c x H locs cells slots Q ls C hS hX hH hls hc hs kk => lv_iushr C.1 C.2.1 hd rfl (k.2 p l e R s m args below meth c x H locs cells slots Q ls C hS hX hH hls hc hs kk)⟩
theorem G.if_eq {β : Type} {A B : Option β} {o : β} {v : Int32} {off : Int} (tgt : Nat) (hd : decode b pc = .ok (.ifCond .eq off, 3)) (ht : (pc : Int) + off = (tgt : Int)) (h : (if v = 0 then A else B) = some o) (kt : v = 0 → A = some o → G y b nL rt d tgt lv st M r M') (kf : ¬ v = 0 → B = some o → G y b nL rt d (pc + 3) lv st M r M') : G y b nL rt d pc lv (.int v :: st) M r M' := by
  by_cases q : v = 0
  · have k := kt q (by rw [if_pos q] at h; exact h)
    exact ⟨k.1, fun p l e R s m args below meth c x H locs cells slots Q ls C hS hX hH hls hc hs kk => lv_if_eq C.1 C.2.1 hd ht (fun _ => (k.2 p l e R s m args below meth c x H locs cells slots Q ls C hS hX hH hls hc hs kk)) (fun z => absurd q z)⟩
  · have k := kf q (by rw [if_neg q] at h; exact h)
    exact ⟨k.1, fun p l e R s m args below meth c x H locs cells slots Q ls C hS hX hH hls hc hs kk => lv_if_eq C.1 C.2.1 hd ht (fun z => absurd z q) (fun _ => (k.2 p l e R s m args below meth c x H locs cells slots Q ls C hS hX hH hls hc hs kk))⟩
theorem G.icmp_eq {β : Type} {A B : Option β} {o : β} {v w : Int32} {off : Int} (tgt : Nat) (hd : decode b pc = .ok (.if_icmp .eq off, 3)) (ht : (pc : Int) + off = (tgt : Int)) (h : (if v = w then A else B) = some o) (kt : v = w → A = some o → G y b nL rt d tgt lv st M r M') (kf : ¬ v = w → B = some o → G y b nL rt d (pc + 3) lv st M r M') : G y b nL rt d pc lv (.int w :: .int v :: st) M r M' := by
  by_cases q : v = w
  · have k := kt q (by rw [if_pos q] at h; exact h)
    exact ⟨k.1, fun p l e R s m args below meth c x H locs cells slots Q ls C hS hX hH hls hc hs kk => lv_icmp_eq C.1 C.2.1 hd ht (fun _ => (k.2 p l e R s m args below meth c x H locs cells slots Q ls C hS hX hH hls hc hs kk)) (fun z => absurd q z)⟩
  · have k := kf q (by rw [if_neg q] at h; exact h)
    exact ⟨k.1, fun p l e R s m args below meth c x H locs cells slots Q ls C hS hX hH hls hc hs kk => lv_icmp_eq C.1 C.2.1 hd ht (fun z => absurd z q) (fun _ => (k.2 p l e R s m args below meth c x H locs cells slots Q ls C hS hX hH hls hc hs kk))⟩
theorem G.if_ne {β : Type} {A B : Option β} {o : β} {v : Int32} {off : Int} (tgt : Nat) (hd : decode b pc = .ok (.ifCond .ne off, 3)) (ht : (pc : Int) + off = (tgt : Int)) (h : (if v = 0 then A else B) = some o) (kt : v = 0 → A = some o → G y b nL rt d (pc + 3) lv st M r M') (kf : ¬ v = 0 → B = some o → G y b nL rt d tgt lv st M r M') : G y b nL rt d pc lv (.int v :: st) M r M' := by
  by_cases q : v = 0
  · have k := kt q (by rw [if_pos q] at h; exact h)
    exact ⟨k.1, fun p l e R s m args below meth c x H locs cells slots Q ls C hS hX hH hls hc hs kk => lv_if_ne C.1 C.2.1 hd ht (fun z => absurd q z) (fun _ => (k.2 p l e R s m args below meth c x H locs cells slots Q ls C hS hX hH hls hc hs kk))⟩
  · have k := kf q (by rw [if_neg q] at h; exact h)
    exact ⟨k.1, fun p l e R s m args below meth c x H locs cells slots Q ls C hS hX hH hls hc hs kk => lv_if_ne C.1 C.2.1 hd ht (fun _ => (k.2 p l e R s m args below meth c x H locs cells slots Q ls C hS hX hH hls hc hs kk)) (fun z => absurd z q)⟩
theorem G.icmp_ne {β : Type} {A B : Option β} {o : β} {v w : Int32} {off : Int} (tgt : Nat) (hd : decode b pc = .ok (.if_icmp .ne off, 3)) (ht : (pc : Int) + off = (tgt : Int)) (h : (if v = w then A else B) = some o) (kt : v = w → A = some o → G y b nL rt d (pc + 3) lv st M r M') (kf : ¬ v = w → B = some o → G y b nL rt d tgt lv st M r M') : G y b nL rt d pc lv (.int w :: .int v :: st) M r M' := by
  by_cases q : v = w
  · have k := kt q (by rw [if_pos q] at h; exact h)
    exact ⟨k.1, fun p l e R s m args below meth c x H locs cells slots Q ls C hS hX hH hls hc hs kk => lv_icmp_ne C.1 C.2.1 hd ht (fun z => absurd q z) (fun _ => (k.2 p l e R s m args below meth c x H locs cells slots Q ls C hS hX hH hls hc hs kk))⟩
  · have k := kf q (by rw [if_neg q] at h; exact h)
    exact ⟨k.1, fun p l e R s m args below meth c x H locs cells slots Q ls C hS hX hH hls hc hs kk => lv_icmp_ne C.1 C.2.1 hd ht (fun _ => (k.2 p l e R s m args below meth c x H locs cells slots Q ls C hS hX hH hls hc hs kk)) (fun z => absurd z q)⟩
theorem G.if_lt {β : Type} {A B : Option β} {o : β} {v : Int32} {off : Int} (tgt : Nat) (hd : decode b pc = .ok (.ifCond .lt off, 3)) (ht : (pc : Int) + off = (tgt : Int)) (h : (if v < 0 then A else B) = some o) (kt : v < 0 → A = some o → G y b nL rt d tgt lv st M r M') (kf : ¬ v < 0 → B = some o → G y b nL rt d (pc + 3) lv st M r M') : G y b nL rt d pc lv (.int v :: st) M r M' := by
  by_cases q : v < 0
  · have k := kt q (by rw [if_pos q] at h; exact h)
    exact ⟨k.1, fun p l e R s m args below meth c x H locs cells slots Q ls C hS hX hH hls hc hs kk => lv_if_lt C.1 C.2.1 hd ht (fun _ => (k.2 p l e R s m args below meth c x H locs cells slots Q ls C hS hX hH hls hc hs kk)) (fun z => absurd q z)⟩
  · have k := kf q (by rw [if_neg q] at h; exact h)
    exact ⟨k.1, fun p l e R s m args below meth c x H locs cells slots Q ls C hS hX hH hls hc hs kk => lv_if_lt C.1 C.2.1 hd ht (fun z => absurd z q) (fun _ => (k.2 p l e R s m args below meth c x H locs cells slots Q ls C hS hX hH hls hc hs kk))⟩
theorem G.icmp_lt {β : Type} {A B : Option β} {o : β} {v w : Int32} {off : Int} (tgt : Nat) (hd : decode b pc = .ok (.if_icmp .lt off, 3)) (ht : (pc : Int) + off = (tgt : Int)) (h : (if v < w then A else B) = some o) (kt : v < w → A = some o → G y b nL rt d tgt lv st M r M') (kf : ¬ v < w → B = some o → G y b nL rt d (pc + 3) lv st M r M') : G y b nL rt d pc lv (.int w :: .int v :: st) M r M' := by
  by_cases q : v < w
  · have k := kt q (by rw [if_pos q] at h; exact h)
    exact ⟨k.1, fun p l e R s m args below meth c x H locs cells slots Q ls C hS hX hH hls hc hs kk => lv_icmp_lt C.1 C.2.1 hd ht (fun _ => (k.2 p l e R s m args below meth c x H locs cells slots Q ls C hS hX hH hls hc hs kk)) (fun z => absurd q z)⟩
  · have k := kf q (by rw [if_neg q] at h; exact h)
    exact ⟨k.1, fun p l e R s m args below meth c x H locs cells slots Q ls C hS hX hH hls hc hs kk => lv_icmp_lt C.1 C.2.1 hd ht (fun z => absurd z q) (fun _ => (k.2 p l e R s m args below meth c x H locs cells slots Q ls C hS hX hH hls hc hs kk))⟩
theorem G.if_ge {β : Type} {A B : Option β} {o : β} {v : Int32} {off : Int} (tgt : Nat) (hd : decode b pc = .ok (.ifCond .ge off, 3)) (ht : (pc : Int) + off = (tgt : Int)) (h : (if 0 ≤ v then A else B) = some o) (kt : 0 ≤ v → A = some o → G y b nL rt d tgt lv st M r M') (kf : ¬ 0 ≤ v → B = some o → G y b nL rt d (pc + 3) lv st M r M') : G y b nL rt d pc lv (.int v :: st) M r M' := by
  by_cases q : 0 ≤ v
  · have k := kt q (by rw [if_pos q] at h; exact h)
    exact ⟨k.1, fun p l e R s m args below meth c x H locs cells slots Q ls C hS hX hH hls hc hs kk => lv_if_ge C.1 C.2.1 hd ht (fun _ => (k.2 p l e R s m args below meth c x H locs cells slots Q ls C hS hX hH hls hc hs kk)) (fun z => absurd q z)⟩
  · have k := kf q (by rw [if_neg q] at h; exact h)
    exact ⟨k.1, fun p l e R s m args below meth c x H locs cells slots Q ls C hS hX hH hls hc hs kk => lv_if_ge C.1 C.2.1 hd ht (fun z => absurd z q) (fun _ => (k.2 p l e R s m args below meth c x H locs cells slots Q ls C hS hX hH hls hc hs kk))⟩
theorem G.icmp_ge {β : Type} {A B : Option β} {o : β} {v w : Int32} {off : Int} (tgt : Nat) (hd : decode b pc = .ok (.if_icmp .ge off, 3)) (ht : (pc : Int) + off = (tgt : Int)) (h : (if w ≤ v then A else B) = some o) (kt : w ≤ v → A = some o → G y b nL rt d tgt lv st M r M') (kf : ¬ w ≤ v → B = some o → G y b nL rt d (pc + 3) lv st M r M') : G y b nL rt d pc lv (.int w :: .int v :: st) M r M' := by
  by_cases q : w ≤ v
  · have k := kt q (by rw [if_pos q] at h; exact h)
    exact ⟨k.1, fun p l e R s m args below meth c x H locs cells slots Q ls C hS hX hH hls hc hs kk => lv_icmp_ge C.1 C.2.1 hd ht (fun _ => (k.2 p l e R s m args below meth c x H locs cells slots Q ls C hS hX hH hls hc hs kk)) (fun z => absurd q z)⟩
  · have k := kf q (by rw [if_neg q] at h; exact h)
    exact ⟨k.1, fun p l e R s m args below meth c x H locs cells slots Q ls C hS hX hH hls hc hs kk => lv_icmp_ge C.1 C.2.1 hd ht (fun z => absurd z q) (fun _ => (k.2 p l e R s m args below meth c x H locs cells slots Q ls C hS hX hH hls hc hs kk))⟩
theorem G.if_gt {β : Type} {A B : Option β} {o : β} {v : Int32} {off : Int} (tgt : Nat) (hd : decode b pc = .ok (.ifCond .gt off, 3)) (ht : (pc : Int) + off = (tgt : Int)) (h : (if 0 < v then A else B) = some o) (kt : 0 < v → A = some o → G y b nL rt d tgt lv st M r M') (kf : ¬ 0 < v → B = some o → G y b nL rt d (pc + 3) lv st M r M') : G y b nL rt d pc lv (.int v :: st) M r M' := by
  by_cases q : 0 < v
  · have k := kt q (by rw [if_pos q] at h; exact h)
    exact ⟨k.1, fun p l e R s m args below meth c x H locs cells slots Q ls C hS hX hH hls hc hs kk => lv_if_gt C.1 C.2.1 hd ht (fun _ => (k.2 p l e R s m args below meth c x H locs cells slots Q ls C hS hX hH hls hc hs kk)) (fun z => absurd q z)⟩
  · have k := kf q (by rw [if_neg q] at h; exact h)
    exact ⟨k.1, fun p l e R s m args below meth c x H locs cells slots Q ls C hS hX hH hls hc hs kk => lv_if_gt C.1 C.2.1 hd ht (fun z => absurd z q) (fun _ => (k.2 p l e R s m args below meth c x H locs cells slots Q ls C hS hX hH hls hc hs kk))⟩
theorem G.icmp_gt {β : Type} {A B : Option β} {o : β} {v w : Int32} {off : Int} (tgt : Nat) (hd : decode b pc = .ok (.if_icmp .gt off, 3)) (ht : (pc : Int) + off = (tgt : Int)) (h : (if w < v then A else B) = some o) (kt : w < v → A = some o → G y b nL rt d tgt lv st M r M') (kf : ¬ w < v → B = some o → G y b nL rt d (pc + 3) lv st M r M') : G y b nL rt d pc lv (.int w :: .int v :: st) M r M' := by
  by_cases q : w < v
  · have k := kt q (by rw [if_pos q] at h; exact h)
    exact ⟨k.1, fun p l e R s m args below meth c x H locs cells slots Q ls C hS hX hH hls hc hs kk => lv_icmp_gt C.1 C.2.1 hd ht (fun _ => (k.2 p l e R s m args below meth c x H locs cells slots Q ls C hS hX hH hls hc hs kk)) (fun z => absurd q z)⟩
  · have k := kf q (by rw [if_neg q] at h; exact h)
    exact ⟨k.1, fun p l e R s m args below meth c x H locs cells slots Q ls C hS hX hH hls hc hs kk => lv_icmp_gt C.1 C.2.1 hd ht (fun z => absurd z q) (fun _ => (k.2 p l e R s m args below meth c x H locs cells slots Q ls C hS hX hH hls hc hs kk))⟩
theorem G.if_le {β : Type} {A B : Option β} {o : β} {v : Int32} {off : Int} (tgt : Nat) (hd : decode b pc = .ok (.ifCond .le off, 3)) (ht : (pc : Int) + off = (tgt : Int)) (h : (if v ≤ 0 then A else B) = some o) (kt : v ≤ 0 → A = some o → G y b nL rt d tgt lv st M r M') (kf : ¬ v ≤ 0 → B = some o → G y b nL rt d (pc + 3) lv st M r M') : G y b nL rt d pc lv (.int v :: st) M r M' := by
  by_cases q : v ≤ 0
  · have k := kt q (by rw [if_pos q] at h; exact h)
    exact ⟨k.1, fun p l e R s m args below meth c x H locs cells slots Q ls C hS hX hH hls hc hs kk => lv_if_le C.1 C.2.1 hd ht (fun _ => (k.2 p l e R s m args below meth c x H locs cells slots Q ls C hS hX hH hls hc hs kk)) (fun z => absurd q z)⟩
  · have k := kf q (by rw [if_neg q] at h; exact h)
    exact ⟨k.1, fun p l e R s m args below meth c x H locs cells slots Q ls C hS hX hH hls hc hs kk => lv_if_le C.1 C.2.1 hd ht (fun z => absurd z q) (fun _ => (k.2 p l e R s m args below meth c x H locs cells slots Q ls C hS hX hH hls hc hs kk))⟩
theorem G.icmp_le {β : Type} {A B : Option β} {o : β} {v w : Int32} {off : Int} (tgt : Nat) (hd : decode b pc = .ok (.if_icmp .le off, 3)) (ht : (pc : Int) + off = (tgt : Int)) (h : (if v ≤ w then A else B) = some o) (kt : v ≤ w → A = some o → G y b nL rt d tgt lv st M r M') (kf : ¬ v ≤ w → B = some o → G y b nL rt d (pc + 3) lv st M r M') : G y b nL rt d pc lv (.int w :: .int v :: st) M r M' := by
  by_cases q : v ≤ w
  · have k := kt q (by rw [if_pos q] at h; exact h)
    exact ⟨k.1, fun p l e R s m args below meth c x H locs cells slots Q ls C hS hX hH hls hc hs kk => lv_icmp_le C.1 C.2.1 hd ht (fun _ => (k.2 p l e R s m args below meth c x H locs cells slots Q ls C hS hX hH hls hc hs kk)) (fun z => absurd q z)⟩
  · have k := kf q (by rw [if_neg q] at h; exact h)
    exact ⟨k.1, fun p l e R s m args below meth c x H locs cells slots Q ls C hS hX hH hls hc hs kk => lv_icmp_le C.1 C.2.1 hd ht (fun z => absurd z q) (fun _ => (k.2 p l e R s m args below meth c x H locs cells slots Q ls C hS hX hH hls hc hs kk))⟩
theorem G.tableIn {dflt lo hi : Int} {offs : Array Int} {len : Nat} {v : Int32} {off : Int} (tgt : Nat) (hd : decode b pc = .ok (.tableswitch dflt lo hi offs, len)) (h1 : ¬ v.toInt < lo) (h2 : ¬ hi < v.toInt) (ho : offs[(v.toInt - lo).toNat]? = some off) (ht : (pc : Int) + off = (tgt : Int)) (k : G y b nL rt d tgt lv st M r M') : G y b nL rt d pc lv (.int v :: st) M r M' :=
  ⟨k.1, fun p l e R s m args below meth c x H locs cells slots Q ls C hS hX hH hls hc hs kk => lv_tableIn C.1 C.2.1 hd h1 h2 ho ht (k.2 p l e R s m args below meth c x H locs cells slots Q ls C hS hX hH hls hc hs kk)⟩
theorem G.tableOut {dflt lo hi : Int} {offs : Array Int} {len : Nat} {v : Int32} (tgt : Nat) (hd : decode b pc = .ok (.tableswitch dflt lo hi offs, len)) (h1 : v.toInt < lo ∨ hi < v.toInt) (ht : (pc : Int) + dflt = (tgt : Int)) (k : G y b nL rt d tgt lv st M r M') : G y b nL rt d pc lv (.int v :: st) M r M' :=
  ⟨k.1, fun p l e R s m args below meth c x H locs cells slots Q ls C hS hX hH hls hc hs kk => lv_tableOut C.1 C.2.1 hd h1 ht (k.2 p l e R s m args below meth c x H locs cells slots Q ls C hS hX hH hls hc hs kk)⟩
theorem G.ret {pc' : Nat} (hr : RetAt b rt pc' r) (hp : pc' = pc) (hs : r.toList = st) : G y b nL rt d pc lv st M r M :=
  ⟨Mono.rfl' M, fun p l e R s m args below meth c x H locs cells slots Q ls C hS hX hH hls hc hs2 kk => by
    have k := kk pc ls H locs (hp ▸ hr) hS hH
    have e1 : dC M M = 0 := Nat.sub_self _
    have e2 : dS M M = 0 := Nat.sub_self _
    rw [e1, e2, Nat.add_zero, Nat.add_zero] at k
    have e3 : (r.map (den x)).toList = st.map (den x) := by rw [← hs]; cases r <;> rfl
    rw [e3] at k
    exact k⟩
end GR
