/-! ===== making cells, calls, contracts ===== -/
theorem Sx.same {x : XC} {u U : State} (hv : u.vm = U.vm) (hh : U.heap = u.heap) (h : Sx x u) : Sx x U := by
  have ha : u.vm.Alike U.vm := by rw [hv]; exact Vm.Alike.refl _
  obtain ⟨h1, h2, ⟨z1, z2, z3, z4, z5, z6, z7, z8, z9⟩, h4, h5, h6⟩ := h
  refine ⟨h1.moved ha, fun w hw => ?_, ?_, h4.same hv.symm, by rw [hh]; exact h5, h6⟩
  · have hn := (List.mem_filter.mp hw).2
    refine (h2 w hw).same ?_ hv
    cases w <;> first | rfl | (simp [isNest] at hn)
  · rw [hh]
    exact ⟨z1.moved ha, z2.moved ha, z3.moved ha, z4.moved ha, z5.moved ha, z6.moved ha, z7.moved ha, z8.moved ha, z9.moved ha⟩
theorem Pm.blind (x : XC) (M : AM) (av : List Value) : FrameBlind (Pm x M av) := by
  intro a U g mk ⟨h1, h2, h3, h4⟩
  exact ⟨h1, Sx.same (u := U) (U := U.calling g mk a) rfl rfl h2, fun k hk t n hn => (h3 k hk t n hn).moved (U := U.calling g mk a) (Vm.Alike.refl U.vm), h4⟩
theorem Pm.at {x : XC} {M : AM} {av : List Value} {s U : State} {H : Heap} {locs : List Loc} (hS : va_S (xA x) s.heap H locs) (hs : Sx x s) (hX : Xx x M s s.heap) (hH : Hx x M H) (hU : U.heap = H) (hW : s.WarmedH U.vm) : Pm x M av (av.map (den x)).toArray U :=
  ⟨rfl, hs.at hS hU hW, hX.at hS hU hW, by rw [hU]; exact hH⟩
theorem W_after {p : Program} {l : Launch} {e : Env} {R : Room} {s : State} {m : MethodId} {args : Array Value} {below : List Frame} {meth : Method} {c : Code} {H : Heap} {locs : List Loc} {cells slots mc ms : Nat} {Q : State → Prop} {x : XC} {M1 : AM} {r1 : Option Value} {a : Array Value} {pc : Nat} {ls : Array Slot} {st0 rest : List Value}
    (hr : va_Run p l e R s m args below meth c H locs cells slots mc ms (F0 m pc ls st0) rest (Qm x M1 r1 a) (xA x)) (hS : va_S (xA x) s.heap H locs)
    (kk : ∀ (H1 : Heap) (locs1 : List Loc), va_S (xA x) s.heap H1 locs1 → Hx x M1 H1 → W p l e R s m args below meth c H1 locs1 (cells + mc) (slots + ms) Q (F0 m (pc + 3) ls ((r1.map (den x)).toList ++ rest))) : W p l e R s m args below meth c H locs cells slots Q (F0 m pc ls st0) := by
  intro T hT X
  obtain ⟨v, st₀, t, T', L, h0, X', hL, e1, e2, ⟨hv, hb, hz, hk⟩, st⟩ := hr T hT X
  cases hv
  rw [h0] at hz hk
  rw [← e1] at hz hk hb
  obtain ⟨t2, a1, b1⟩ := kk T'.heap (locs ++ L) ⟨Nat.le_trans hS.1 hz, fun q h1 h2 => (hk q (Nat.lt_of_lt_of_le h1 hS.1) h2).trans (hS.2.1 q h1 h2), fun q hq => by
      rcases List.mem_append.mp hq with h | h
      · exact hS.2.2 q h
      · exact hL q h⟩ hb T' rfl X'
  exact ⟨t2, st t2 a1, b1⟩
theorem gw_good {w : Cond} (h : w ∈ gw) : w ∈ gw ∧ ((w.onTables && w.keeps) = true ∨ ∃ ty, w = .arrayClass ty) := ⟨h, good_of_word (List.mem_filter.mp h).2⟩
def dscN (y : MethodName) (n : Nat) : Prop := y.cls ≠ "java/lang/invoke/MethodHandle" ∧ y.cls ≠ "java/lang/invoke/VarHandle" ∧ (parseMethodDescriptor y.desc).map (fun d => d.parameters.length) = some n
/-- what the tables say of a method that is called: an instance's, a static one, a constructor -/
def InstOK (y : MethodName) (b : ByteArray) (nL : Nat) (rt : Option FieldType) (n : Nat) : Prop := Cond.instanceMethod y ∈ gw ∧ Cond.selects y.cls y y ∈ gw ∧ Cond.initialized y.cls ∈ gw ∧ Cond.code y b nL rt ∈ gw ∧ dscN y n ∧ nL ≤ 45
def StatOK (y : MethodName) (b : ByteArray) (nL : Nat) (rt : Option FieldType) (n : Nat) : Prop := Cond.static y ∈ gw ∧ Cond.initialized y.cls ∈ gw ∧ Cond.code y b nL rt ∈ gw ∧ dscN y n ∧ nL ≤ 45
def InitOK (y : MethodName) (b : ByteArray) (nL : Nat) (n : Nat) : Prop := Cond.instanceMethod y ∈ gw ∧ Cond.initialized y.cls ∈ gw ∧ Cond.code y b nL none ∈ gw ∧ dscN y n ∧ nL ≤ 45 ∧ y.name = "<init>"
def LinkOK (own : String) (idx : Nat) (y : MethodName) : Prop := Cond.methodLink own idx y ∈ gw ∨ ∃ host, Cond.methodLinkNest own idx y host ∈ nw
theorem goodAll {y : MethodName} {b : ByteArray} {nL : Nat} {rt : Option FieldType} (hc : Cond.code y b nL rt ∈ gw) : GoodIn gw (Cond.code y b nL rt :: gw) := by
  intro w hw
  rcases List.mem_cons.mp hw with h | h
  · rw [h]; exact gw_good hc
  · exact gw_good h
section GR3
variable {y : MethodName} {b : ByteArray} {nL : Nat} {rt : Option FieldType} {d pc : Nat} {lv : List (Nat × Value)} {st : List Value} {M M' : AM} {r : Option Value} {α β : Type} {o : β}
theorem room_ok {R : Room} {d d2 nL2 : Nat} (hR : d ≤ R.frames ∧ 64 * d ≤ R.locals) (hdd : d2 + 1 ≤ d) (hn : nL2 ≤ 45) : d2 + 1 ≤ R.frames ∧ 8 + (nL2 + 11) + 64 * d2 ≤ R.locals := by omega
theorem dC_tr {M M1 M2 : AM} (h1 : Mono M M1) (h2 : Mono M1 M2) : dC M M2 = dC M M1 + dC M1 M2 := by
  have a := h1.1
  have b := h2.1
  simp only [dC]
  omega
theorem dS_tr {M M1 M2 : AM} (h1 : Mono M M1) (h2 : Mono M1 M2) : dS M M2 = dS M M1 + dS M1 M2 := by
  have a := h1.2.1
  have b := h2.2.1
  simp only [dS]
  omega
theorem G.callV {u : Option α} {f : α → Option β} {r1 : α → Option Value} {m1 : α → AM} {y2 : MethodName} {b2 : ByteArray} {nL2 n d2 idx ci t : Nat} {rt2 : Option FieldType} {stk : List Value} (as st : List Value) (hd : decode b pc = .ok (.invokevirtual idx, 3)) (hl : LinkOK y.cls idx y2) (hi : InstOK y2 b2 nL2 rt2 n) (hci : (CL[ci]?).map (fun q => q.1) = some y2.cls)
    (hC : ∀ v, u = some v → Cn y2 b2 nL2 rt2 d2 (.ref t :: as) M (r1 v) (m1 v)) (hdd : d2 + 1 ≤ d) (hn : as.length = n) (hst : stk = as.reverse ++ .ref t :: st) (hcat : (st.map fun v => v.category).sum ≤ 8)
    (h : (rcv ci M t u).bind f = some o) (k : ∀ v, f v = some o → G y b nL rt d (pc + 3) lv ((r1 v).toList ++ st) (m1 v) r M') : G y b nL rt d pc lv stk M r M' := by
  obtain ⟨v, h1, h2⟩ := bind_some' h
  unfold rcv at h1
  split at h1
  case isFalse => cases h1
  rename_i hc
  have k := k v h2
  have hC := hC v h1
  obtain ⟨i1, i2, i3, i4, i5, i6⟩ := hi
  obtain ⟨q0, hq0, hq1⟩ := Option.map_eq_some_iff.mp hci
  refine ⟨hC.1.tr k.1, fun p l e R s m args below meth c x H locs cells slots Q ls C hS hX hH hls hc2 hs kk => ?_⟩
  have e1 := dC_tr hC.1 k.1
  have e2 := dS_tr hC.1 k.1
  have hfit : cells + dC M (m1 v) ≤ R.cells ∧ slots + dS M (m1 v) ≤ R.slots := by omega
  have hM := hC.2 l x
  have hts := C.2.2.2.2.1
  have hsx := C.2.2.2.2.2.1
  have hro := room_ok C.2.2.2.2.2.2.1 hdd i6
  have hstk : (stk.map (den x)) = (as.map (den x)).reverse ++ .ref (xad x t) :: st.map (den x) := by rw [hst]; simp [den]
  have hrecv : ∃ cellB : Cell, H[xad x t]? = some cellB ∧ cellB.vm.isStatics = false ∧ s.vm.findClass y2.cls = some cellB.cls := by
    rw [← hq1]
    exact va_recv hsx.1 hH.1 hq0 (wld_obj x hc.2 hc.1)
  have hpre : PreV s H y2.cls (xad x t) (Pm x M (.ref t :: as)) (as.map (den x)) := ⟨Pm.blind x M _, hrecv, fun U hU hW => Pm.at (av := .ref t :: as) hS hsx hX hH hU hW⟩
  have hcat' : 2 * (F0 m pc ls (stk.map (den x))).monitorRoom + ((st.map (den x)).map fun v => v.category).sum ≤ 8 := by rw [den_cats x hsx.2.2.2.2.2]; exact lv_room hcat
  have fin : ∀ (H1 : Heap) (locs1 : List Loc), va_S (xA x) s.heap H1 locs1 → Hx x (m1 v) H1 → W p l e R s m args below meth c H1 locs1 (cells + dC M (m1 v)) (slots + dS M (m1 v)) Q (F0 m (pc + 3) ls (((r1 v).map (den x)).toList ++ st.map (den x))) := by
    intro H1 locs1 hS1 hH1
    have k2 := k.2 p l e R s m args below meth c x H1 locs1 (cells + dC M (m1 v)) (slots + dS M (m1 v)) Q ls C hS1 (hX.mono hC.1) hH1 hls (by omega) (by omega) (fun pc' ls' H' locs' a1 a2 a3 => by
      have z := kk pc' ls' H' locs' a1 a2 a3
      rw [e1, e2, ← Nat.add_assoc, ← Nat.add_assoc] at z
      exact z)
    have e3 : ((r1 v).toList ++ st).map (den x) = ((r1 v).map (den x)).toList ++ st.map (den x) := by cases r1 v <;> simp
    rw [e3] at k2
    exact k2
  rcases hl with hl | ⟨host, hl⟩
  · exact W_after (va_runV (As := as.map (den x)) (rest := st.map (den x)) ⟨C.1, C.2.1, C.2.2.1, C.2.2.2.1, hts⟩ hM (cwV n hts (fun w hw => by
      rcases List.mem_append.mp hw with hw | hw
      · rcases List.mem_cons.mp hw with rfl | hw
        · exact gw_good hl
        rcases List.mem_cons.mp hw with rfl | hw
        · exact gw_good i1
        rcases List.mem_cons.mp hw with rfl | hw
        · exact gw_good i2
        rcases List.mem_cons.mp hw with rfl | hw
        · exact gw_good i3
        cases hw
      · exact goodAll i4 w hw) rfl rfl rfl ⟨rfl, i5⟩ hro) hpre rfl (by rw [List.length_map]; exact hn) hls.1 hstk hcat' hd hfit) hS fin
  · exact W_after (va_runVN (As := as.map (den x)) (rest := st.map (den x)) ⟨C.1, C.2.1, C.2.2.1, C.2.2.2.1, hts⟩ hM ⟨va_cnB n hts (goodAll i4) rfl rfl rfl (hsx.2.1 _ hl) (hts _ i3) i5 hro, hts _ i1, hts _ i2⟩ hpre rfl (by rw [List.length_map]; exact hn) hls.1 hstk hcat' hd hfit) hS fin
theorem G.callI {u : Option α} {f : α → Option β} {m1 : α → AM} {y2 : MethodName} {b2 : ByteArray} {nL2 n d2 idx t : Nat} {stk : List Value} (as st : List Value) (hd : decode b pc = .ok (.invokespecial idx, 3)) (hl : LinkOK y.cls idx y2) (hi : InitOK y2 b2 nL2 n)
    (hC : ∀ v, u = some v → Cn y2 b2 nL2 none d2 (.ref t :: as) M none (m1 v)) (hdd : d2 + 1 ≤ d) (hn : as.length = n) (hst : stk = as.reverse ++ .ref t :: st) (hcat : (st.map fun v => v.category).sum ≤ 8)
    (h : u.bind f = some o) (k : ∀ v, f v = some o → G y b nL rt d (pc + 3) lv st (m1 v) r M') : G y b nL rt d pc lv stk M r M' := by
  obtain ⟨v, h1, h2⟩ := bind_some' h
  have k := k v h2
  have hC := hC v h1
  obtain ⟨i1, i3, i4, i5, i6, i7⟩ := hi
  refine ⟨hC.1.tr k.1, fun p l e R s m args below meth c x H locs cells slots Q ls C hS hX hH hls hc2 hs kk => ?_⟩
  have e1 := dC_tr hC.1 k.1
  have e2 := dS_tr hC.1 k.1
  have hfit : cells + dC M (m1 v) ≤ R.cells ∧ slots + dS M (m1 v) ≤ R.slots := by omega
  have hM := hC.2 l x
  have hts := C.2.2.2.2.1
  have hsx := C.2.2.2.2.2.1
  have hro := room_ok C.2.2.2.2.2.2.1 hdd i6
  have hstk : (stk.map (den x)) = (as.map (den x)).reverse ++ .ref (xad x t) :: st.map (den x) := by rw [hst]; simp [den]
  have hpre : PreS s H (Pm x M (.ref t :: as)) (.ref (xad x t) :: as.map (den x)) := ⟨Pm.blind x M _, fun U hU hW => Pm.at (av := .ref t :: as) hS hsx hX hH hU hW⟩
  have hcat' : 2 * (F0 m pc ls (stk.map (den x))).monitorRoom + ((st.map (den x)).map fun v => v.category).sum ≤ 8 := by rw [den_cats x hsx.2.2.2.2.2]; exact lv_room hcat
  have fin : ∀ (H1 : Heap) (locs1 : List Loc), va_S (xA x) s.heap H1 locs1 → Hx x (m1 v) H1 → W p l e R s m args below meth c H1 locs1 (cells + dC M (m1 v)) (slots + dS M (m1 v)) Q (F0 m (pc + 3) ls (((none : Option Value).map (den x)).toList ++ st.map (den x))) := by
    intro H1 locs1 hS1 hH1
    exact k.2 p l e R s m args below meth c x H1 locs1 (cells + dC M (m1 v)) (slots + dS M (m1 v)) Q ls C hS1 (hX.mono hC.1) hH1 hls (by omega) (by omega) (fun pc' ls' H' locs' a1 a2 a3 => by
      have z := kk pc' ls' H' locs' a1 a2 a3
      rw [e1, e2, ← Nat.add_assoc, ← Nat.add_assoc] at z
      exact z)
  rcases hl with hl | ⟨host, hl⟩
  · exact W_after (va_runI (As := as.map (den x)) (rest := st.map (den x)) ⟨C.1, C.2.1, C.2.2.1, C.2.2.2.1, hts⟩ hM (cwI n hts (goodAll i4) rfl rfl rfl (hts _ i3) (hts _ hl) (hts _ i1) i7 i5 hro) hpre rfl (by rw [List.length_map]; exact hn) hls.1 hstk hcat' hd hfit) hS fin
  · exact W_after (va_runIN (As := as.map (den x)) (rest := st.map (den x)) ⟨C.1, C.2.1, C.2.2.1, C.2.2.2.1, hts⟩ hM ⟨va_cnB n hts (goodAll i4) rfl rfl rfl (hsx.2.1 _ hl) (hts _ i3) i5 hro, i7, hts _ i1⟩ hpre rfl (by rw [List.length_map]; exact hn) hls.1 hstk hcat' hd hfit) hS fin
theorem G.callS {u : Option α} {f : α → Option β} {r1 : α → Option Value} {m1 : α → AM} {y2 : MethodName} {b2 : ByteArray} {nL2 n d2 idx : Nat} {rt2 : Option FieldType} {stk : List Value} (as st : List Value) (hd : decode b pc = .ok (.invokestatic idx, 3)) (hl : LinkOK y.cls idx y2) (hi : StatOK y2 b2 nL2 rt2 n)
    (hC : ∀ v, u = some v → Cn y2 b2 nL2 rt2 d2 as M (r1 v) (m1 v)) (hdd : d2 + 1 ≤ d) (hn : as.length = n) (hst : stk = as.reverse ++ st) (hcat : (st.map fun v => v.category).sum ≤ 8)
    (h : u.bind f = some o) (k : ∀ v, f v = some o → G y b nL rt d (pc + 3) lv ((r1 v).toList ++ st) (m1 v) r M') : G y b nL rt d pc lv stk M r M' := by
  obtain ⟨v, h1, h2⟩ := bind_some' h
  have k := k v h2
  have hC := hC v h1
  obtain ⟨i1, i3, i4, i5, i6⟩ := hi
  refine ⟨hC.1.tr k.1, fun p l e R s m args below meth c x H locs cells slots Q ls C hS hX hH hls hc2 hs kk => ?_⟩
  have e1 := dC_tr hC.1 k.1
  have e2 := dS_tr hC.1 k.1
  have hfit : cells + dC M (m1 v) ≤ R.cells ∧ slots + dS M (m1 v) ≤ R.slots := by omega
  have hM := hC.2 l x
  have hts := C.2.2.2.2.1
  have hsx := C.2.2.2.2.2.1
  have hro := room_ok C.2.2.2.2.2.2.1 hdd i6
  have hstk : (stk.map (den x)) = (as.map (den x)).reverse ++ st.map (den x) := by rw [hst]; simp
  have hpre : PreS s H (Pm x M as) (as.map (den x)) := ⟨Pm.blind x M _, fun U hU hW => Pm.at hS hsx hX hH hU hW⟩
  have hcat' : 2 * (F0 m pc ls (stk.map (den x))).monitorRoom + ((st.map (den x)).map fun v => v.category).sum ≤ 8 := by rw [den_cats x hsx.2.2.2.2.2]; exact lv_room hcat
  have fin : ∀ (H1 : Heap) (locs1 : List Loc), va_S (xA x) s.heap H1 locs1 → Hx x (m1 v) H1 → W p l e R s m args below meth c H1 locs1 (cells + dC M (m1 v)) (slots + dS M (m1 v)) Q (F0 m (pc + 3) ls (((r1 v).map (den x)).toList ++ st.map (den x))) := by
    intro H1 locs1 hS1 hH1
    have k2 := k.2 p l e R s m args below meth c x H1 locs1 (cells + dC M (m1 v)) (slots + dS M (m1 v)) Q ls C hS1 (hX.mono hC.1) hH1 hls (by omega) (by omega) (fun pc' ls' H' locs' a1 a2 a3 => by
      have z := kk pc' ls' H' locs' a1 a2 a3
      rw [e1, e2, ← Nat.add_assoc, ← Nat.add_assoc] at z
      exact z)
    have e3 : ((r1 v).toList ++ st).map (den x) = ((r1 v).map (den x)).toList ++ st.map (den x) := by cases r1 v <;> simp
    rw [e3] at k2
    exact k2
  rcases hl with hl | ⟨host, hl⟩
  · exact W_after (va_runS (As := as.map (den x)) (rest := st.map (den x)) ⟨C.1, C.2.1, C.2.2.1, C.2.2.2.1, hts⟩ hM (va_cwS n hts (fun w hw => by
      rcases List.mem_append.mp hw with hw | hw
      · rcases List.mem_cons.mp hw with rfl | hw
        · exact gw_good hl
        rcases List.mem_cons.mp hw with rfl | hw
        · exact gw_good i1
        rcases List.mem_cons.mp hw with rfl | hw
        · exact gw_good i3
        cases hw
      · exact goodAll i4 w hw) rfl rfl rfl i5 hro) hpre rfl (by rw [List.length_map]; exact hn) hls.1 hstk hcat' hd hfit) hS fin
  · exact W_after (va_runSN (As := as.map (den x)) (rest := st.map (den x)) ⟨C.1, C.2.1, C.2.2.1, C.2.2.2.1, hts⟩ hM ⟨va_cnB n hts (goodAll i4) rfl rfl rfl (hsx.2.1 _ hl) (hts _ i3) i5 hro, hts _ i1, trivial⟩ hpre rfl (by rw [List.length_map]; exact hn) hls.1 hstk hcat' hd hfit) hS fin
theorem lvd_args (x : XC) (hx : x.2.2.2.2 = .null ∨ ∃ a, x.2.2.2.2 = .ref a) (av : List Value) : ∀ i, lv_args i (av.map (den x)) = lvd x (lv_args i av) := by
  induction av with
  | nil => intro i; rfl
  | cons v vs ih =>
    intro i
    simp only [List.map_cons, lv_args, den_cat x hx, ih]
    rfl
theorem lgsl_len (x : XC) (hx : x.2.2.2.2 = .null ∨ ∃ a, x.2.2.2.2 = .ref a) (av : List Value) : (lg_sl (av.map (den x))).length = (lg_sl av).length := by
  induction av with
  | nil => rfl
  | cons v vs ih =>
    simp only [lg_sl, List.map_cons, List.flatMap_cons, List.length_append] at ih ⊢
    rw [ih, den_cat x hx]
    by_cases h : v.category = 2
    · simp [h]
    · simp [h]
theorem Cn.of {av : List Value} (hy : plainName y.cls = true) (hav : (lg_sl av).length ≤ nL) (hG : G y b nL rt d 0 (lv_args 0 av) [] M r M') : Cn y b nL rt d av M r M' := by
  refine ⟨hG.1, fun l x => Met.ofW (cc := b) (maxL := nL) (ret := rt) hy rfl ?_⟩
  intro p e s m args below meth c s₁ B hml ⟨hargs, hsx, hX, hH⟩
  have hts := atoms_spec (ws := .code y b nL rt :: gw) B.pre
  have hx6 := hsx.2.2.2.2.2
  have hS : va_S (xA x) s.heap s.heap [] := va_S.rf
  have hl := lv_entry (av.map (den x)) (n := nL) (by rw [lgsl_len x hx6]; exact hav)
  rw [lvd_args x hx6] at hl
  subst hargs
  rw [lg_entry_eq]
  refine hG.2 p l e _ s m _ below meth c x s.heap [] 0 0 _ _ ⟨B.exec, B.bytes, hml, findClass_of_methodNamed B.named, fun w hw => hts w (List.mem_cons_of_mem _ hw), hsx, ⟨Nat.le_refl _, Nat.le_refl _⟩, fun _ => (name_of_methodNamed B.named B.method).1⟩ hS hX hH hl (by rw [Nat.zero_add]; exact Nat.le_refl _) (by rw [Nat.zero_add]; exact Nat.le_refl _) ?_
  intro pc' ls' H' locs' hret hS' hH'
  rw [Nat.zero_add, Nat.zero_add]
  have hq : ∀ t : State, t.heap = H' → Qm x M' r (List.map (den x) av).toArray s (.returned (r.map (den x))) t := fun t ht => ⟨rfl, by rw [ht]; exact hH', hS'.F ht⟩
  have hr := B.returns
  have hlo := B.notSynchronized
  match r, hret, hq with
  | none, hret, hq => exact W.vret B.exec B.bytes (hr.trans hret.2) (fun t ht _ => hq t ht) hS'.2.2 hret.1 hlo
  | some (.int v), hret, hq =>
    obtain ⟨hd, ty, h1, h2⟩ := hret
    exact W.zret B.exec B.bytes (hr.trans h1) h2 (fun t ht _ => hq t ht) hS'.2.2 hd hlo
  | some (.long v), hret, hq => exact W.lret B.exec B.bytes (hr.trans hret.2) (fun t ht _ => hq t ht) hS'.2.2 hret.1 hlo
  | some (.ref v), hret, hq =>
    obtain ⟨hd, n, h1⟩ := hret
    exact W.aret B.exec B.bytes (hr.trans h1) (Or.inl ⟨n, rfl⟩) (Or.inr ⟨_, rfl⟩) (fun t ht _ => hq t ht) hS'.2.2 hd hlo
end GR3
