/-! ===== making cells; what the JDK does; the combinators of the trees ===== -/
def kDef : Bool := (List.range 13).all (fun ci => (List.range (nF ci)).all (fun j => defaultValue (FT ci j) == if isRef (FT ci j) then .null else .int 0))
theorem kDef_ok : kDef = true := by decide +kernel
theorem def_of {ci j : Nat} (hc : ci < 13) (hj : j < nF ci) : defaultValue (FT ci j) = if isRef (FT ci j) = true then .null else .int 0 := by
  have h := kDef_ok
  unfold kDef at h
  have h1 := List.all_eq_true.mp h ci (List.mem_range.mpr hc)
  have h2 := List.all_eq_true.mp h1 j (List.mem_range.mpr hj)
  exact eq_of_beq h2
theorem CL_lt {ci : Nat} {q : vw_C} (h : CL[ci]? = some q) : ci < 13 := (List.getElem?_eq_some_iff.mp h).1
theorem nSl_new (M : AM) (q : Nat ⊕ (Nat × Nat)) : nSl (newC M q) = nSl M + slC q := by simp [nSl, newC]
section GR4
variable {y : MethodName} {b : ByteArray} {nL : Nat} {rt : Option FieldType} {d pc : Nat} {lv : List (Nat × Value)} {st : List Value} {M M' : AM} {r : Option Value} {α β : Type} {o : β}
theorem Hx.push {x : XC} {H H1 : Heap} {q : Nat ⊕ (Nat × Nat)} (hH : Hx x M H) (hz : H1.size = H.size + 1) (ho : ∀ k, k < H.size → H1[k]? = H[k]?) (he : va_at x.2.2.1 CL (xad x M.1.length, enc x (newC M q) M.1.length) H1) : Hx x (newC M q) H1 := by
  have hlen : (newC M q).1.length = M.1.length + 1 := by simp [newC]
  refine ⟨?_, by rw [hz, hH.2.1, hlen]; have := hH.2.2; omega, by rw [hlen]; have := hH.2.2; omega⟩
  rw [wld_push x M q hH.2.2]
  refine (hH.1.kept (fun k p hk => ho p.1 ((hH.1 k p hk).lt))).app ?_
  intro k p hk
  have hz : k < 1 := (List.getElem?_eq_some_iff.mp hk).1
  rw [show k = 0 by omega] at hk
  cases hk
  exact he
theorem xad_new {x : XC} {H : Heap} (hH : Hx x M H) : xad x M.1.length = H.size := by
  have h := hH.2.2
  have h2 : ¬ M.1.length < 8 := by omega
  simp [xad, h2, hH.2.1]
theorem room_new {R : Room} {M M1 M2 : AM} {cells slots n : Nat} (h1 : M1.1.length = M.1.length + 1) (h2 : nSl M1 = nSl M + n) (k : Mono M1 M2) (hc : cells + dC M M2 ≤ R.cells) (hs : slots + dS M M2 ≤ R.slots) :
    cells + 1 ≤ R.cells ∧ slots + n ≤ R.slots ∧ cells + 1 + dC M1 M2 = cells + dC M M2 ∧ slots + n + dS M1 M2 = slots + dS M M2 := by
  have a := k.1
  have c := k.2.1
  simp only [dC, dS] at *
  omega
theorem G.new {f : AM → Option β} {idx ci : Nat} {C1 : String} {T : u_T} {N : Nat} (hd : decode b pc = .ok (.new idx, 3)) (hCo : COK ci C1 T N) (hl : Cond.classLink y.cls idx C1 ∈ gw) (hi : Cond.instantiable C1 N ∈ gw) (hn : Cond.initialized C1 ∈ gw) (h : (nOb ci M).bind f = some o) (k : ∀ M1, f M1 = some o → G y b nL rt d (pc + 3) lv (.ref M.1.length :: st) M1 r M') : G y b nL rt d pc lv st M r M' := by
  obtain ⟨M1, h1, h2⟩ := bind_some' h
  unfold nOb at h1
  split at h1
  case isFalse => cases h1
  rename_i h8
  cases h1
  have k := k _ h2
  obtain ⟨c1, c2, c3, c4⟩ := hCo
  refine ⟨(Mono.new h8).tr k.1, fun p l e R s m args below meth c x H locs cells slots Q ls C hS hX hH hls hc2 hs kk => ?_⟩
  have hts := C.2.2.2.2.1
  have hKn := C.2.2.2.2.2.1.1.1 ci _ c1
  have hnF := nF_of c1
  obtain ⟨r1, r2, r3, r4⟩ := room_new (M := M) (n := N) (by simp [newC]) (by rw [nSl_new]; simp [slC, hnF]) k.1 hc2 hs
  refine W.newcK C.1 C.2.1 C.2.2.2.1 (hts _ hl) (hts _ hi) (hts _ hn) rfl hd r1 r2 hKn.2.1 rfl fun H1 kC hkC e1 z1 o1 => ?_
  have hH1 : Hx x (newC M (.inl ci)) H1 := by
    refine hH.push z1 o1 ?_
    rw [xad_new hH]
    have e4 : enc x (newC M (.inl ci)) M.1.length = .inr (ci, encF x (newC M (.inl ci)) ci M.1.length) := by simp [enc, newC]
    rw [e4]
    refine ⟨_, c1, (u_born (FT ci) hts c2 hKn hkC e1 c3).to ?_⟩
    intro j hj
    have hj2 : j < nF ci := by rw [hnF]; exact hj
    rw [def_of (CL_lt c1) hj2]
    have e5 := encF_at x (newC M (.inl ci)) (ci := ci) (k := M.1.length) hj2
    have e6 : (newC M (.inl ci)).2.2.2 M.1.length j = none := by simp [newC, upf]
    have e7 : (newC M (.inl ci)).2.1 M.1.length j = 0 := by simp [newC, upf]
    rw [e6, e7] at e5
    rw [vp_V, List.getD_eq_getElem?_getD, e5]
    rfl
  have k2 := k.2 p l e R s m args below meth c x H1 locs (cells + 1) (slots + N) Q ls C ⟨Nat.le_trans hS.1 (by rw [z1]; exact Nat.le_succ _), fun q g1 g2 => (o1 q (Nat.lt_of_lt_of_le g1 hS.1)).trans (hS.2.1 q g1 g2), hS.2.2⟩ (hX.mono (Mono.new h8)) hH1 hls (by omega) (by omega) (fun pc' ls' H' locs' a1 a2 a3 => by
    have z := kk pc' ls' H' locs' a1 a2 a3
    rw [r3, r4]
    exact z)
  have e8 : (Value.ref M.1.length :: st).map (den x) = .ref H.size :: st.map (den x) := by rw [List.map_cons, den_ref, xad_new hH]
  rw [e8] at k2
  exact k2
def tyC : Nat → ArrayType
  | 0 => .int
  | 1 => .byte
  | 2 => .long
  | _ => .boolean
theorem tyC_of {t : Nat} (ht : t < 4) : newarray.typeOf (tyC t) = tyN t := by
  match t, ht with
  | 0, _ => rfl
  | 1, _ => rfl
  | 2, _ => rfl
  | 3, _ => rfl
theorem cb_tyN {t : Nat} (ht : t < 4) : componentBytes (tyN t) ≤ 8 := by
  match t, ht with
  | 0, _ => decide
  | 1, _ => decide
  | 2, _ => decide
  | 3, _ => decide
theorem G.newa {f : AM → Option β} {n : Int32} (t : Nat) (hd : decode b pc = .ok (.newarray (tyC t), 2)) (ht : t < 4) (hw : Cond.arrayClass (tyN t) ∈ gw) (h : (nAr t M n).bind f = some o) (k : ∀ M1, f M1 = some o → G y b nL rt d (pc + 2) lv (.ref M.1.length :: st) M1 r M') : G y b nL rt d pc lv (.int n :: st) M r M' := by
  obtain ⟨M1, h1, h2⟩ := bind_some' h
  unfold nAr at h1
  split at h1
  case isFalse => cases h1
  rename_i hc
  cases h1
  obtain ⟨hn0, hnB, h8⟩ := hc
  have k := k _ h2
  refine ⟨(Mono.new h8).tr k.1, fun p l e R s m args below meth c x H locs cells slots Q ls C hS hX hH hls hc2 hs kk => ?_⟩
  have hts := C.2.2.2.2.1
  have hKk := C.2.2.2.2.2.1.1
  obtain ⟨r1, r2, r3, r4⟩ := room_new (M := M) (n := n.toNatClampNeg) (by simp [newC]) (by rw [nSl_new]; simp [slC]) k.1 hc2 hs
  have hcb := cb_tyN ht
  refine va_newaK C.1 C.2.1 (atype := tyC t) (by rw [tyC_of ht]; exact hts _ hw) rfl hd rfl (Int32.not_lt.mpr hn0) rfl (by rw [tyC_of ht]; exact Nat.le_trans (Nat.mul_le_mul hnB hcb) (by decide)) r1 r2 rfl fun H1 cA e1 z1 o1 _ hNm => ?_
  rw [tyC_of ht] at e1 hNm
  have hcA : cA = x.2.2.2.1 t := by
    have h3 := (hKk.2 t _ (xty_at x ht)).2
    have h4 : s.vm.findClass ("[" ++ (tyN t).toString) = some (x.2.2.2.1 t) := by
      match t, ht, h3 with
      | 0, _, h3 => exact h3
      | 1, _, h3 => exact h3
      | 2, _, h3 => exact h3
      | 3, _, h3 => exact h3
    exact Option.some.inj (hNm.symm.trans h4)
  have hH1 : Hx x (newC M (.inr (t, n.toNatClampNeg))) H1 := by
    refine hH.push z1 o1 ?_
    rw [xad_new hH]
    have e4 : enc x (newC M (.inr (t, n.toNatClampNeg))) M.1.length = .inl (x.2.2.2.1 t, (n.toNatClampNeg, if t = 2 then .inr (.inl (fun _ => 0)) else .inl (fun _ => 0))) := by simp [enc, newC, upf]
    rw [e4]
    show H1[H.size]? = some (vp_cell _ _)
    rw [e1, hcA]
    match t, ht with
    | 0, _ => rfl
    | 1, _ => rfl
    | 2, _ => rfl
    | 3, _ => rfl
  have k2 := k.2 p l e R s m args below meth c x H1 locs (cells + 1) (slots + n.toNatClampNeg) Q ls C ⟨Nat.le_trans hS.1 (by rw [z1]; exact Nat.le_succ _), fun q g1 g2 => (o1 q (Nat.lt_of_lt_of_le g1 hS.1)).trans (hS.2.1 q g1 g2), hS.2.2⟩ (hX.mono (Mono.new h8)) hH1 hls (by omega) (by omega) (fun pc' ls' H' locs' a1 a2 a3 => by
    have z := kk pc' ls' H' locs' a1 a2 a3
    rw [r3, r4]
    exact z)
  have e8 : (Value.ref M.1.length :: st).map (den x) = .ref H.size :: st.map (den x) := by rw [List.map_cons, den_ref, xad_new hH]
  rw [e8] at k2
  exact k2
theorem G.objInit {idx t : Nat} (hd : decode b pc = .ok (.invokespecial idx, 3)) (hl : Cond.methodLink y.cls idx Lib.objectInit ∈ gw) (hi : Cond.instanceMethod Lib.objectInit ∈ gw) (hc : Cond.code Lib.objectInit ⟨#[0xb1]⟩ 1 none ∈ gw) (h1 : 1 ≤ d) (hcat : (st.map fun v => v.category).sum ≤ 8) (k : G y b nL rt d (pc + 3) lv st M r M') : G y b nL rt d pc lv (.ref t :: st) M r M' :=
  ⟨k.1, fun p l e R s m args below meth c x H locs cells slots Q ls C hS hX hH hls hc2 hs kk => W.objInit C.1 C.2.1 C.2.2.2.1 (C.2.2.2.2.1 _ hl) (C.2.2.2.2.1 _ hi) (C.2.2.2.2.1 _ hc) rfl (hls.1.trans C.2.2.1.symm) rfl hd (Nat.le_trans h1 C.2.2.2.2.2.2.1.1) (by
      have a := C.2.2.2.2.2.2.1.2
      rw [den_cats x C.2.2.2.2.2.1.2.2.2.2.2]
      show 2 * 0 + _ + 12 ≤ _
      omega) (k.2 p l e R s m args below meth c x H locs cells slots Q ls C hS hX hH hls hc2 hs kk)⟩
def mxI (v w : Int32) : Int32 := if v < w then w else v
def mnI (v w : Int32) : Int32 := if w < v then w else v
theorem G.mmax {idx : Nat} {v w : Int32} (hd : decode b pc = .ok (.invokestatic idx, 3)) (hl : Cond.methodLink y.cls idx Lib.Math.max.name ∈ gw) (h1 : Cond.static Lib.Math.max.name ∈ gw) (h2 : Cond.initialized "java/lang/Math" ∈ gw) (h3 : Cond.code Lib.Math.max.name Lib.Math.max.code 2 (some .int) ∈ gw) (h4 : 1 ≤ d) (hcat : (st.map fun v => v.category).sum ≤ 8) (k : G y b nL rt d (pc + 3) lv (.int (mxI v w) :: st) M r M') : G y b nL rt d pc lv (.int w :: .int v :: st) M r M' :=
  ⟨k.1, fun p l e R s m args below meth c x H locs cells slots Q ls C hS hX hH hls hc2 hs kk => va_mmax C.1 C.2.1 (C.2.2.1.trans hls.1.symm) C.2.2.2.1 (C.2.2.2.2.1 _ hl) (C.2.2.2.2.1 _ h1) (C.2.2.2.2.1 _ h2) (C.2.2.2.2.1 _ h3) (Nat.le_trans h4 C.2.2.2.2.2.2.1.1) (by
      have a := C.2.2.2.2.2.2.1.2
      rw [den_cats x C.2.2.2.2.2.1.2.2.2.2.2]
      omega) (by omega) (by omega) hd (k.2 p l e R s m args below meth c x H locs cells slots Q ls C hS hX hH hls hc2 hs kk)⟩
theorem G.mmin {idx : Nat} {v w : Int32} (hd : decode b pc = .ok (.invokestatic idx, 3)) (hl : Cond.methodLink y.cls idx Lib.Math.min.name ∈ gw) (h1 : Cond.static Lib.Math.min.name ∈ gw) (h2 : Cond.initialized "java/lang/Math" ∈ gw) (h3 : Cond.code Lib.Math.min.name Lib.Math.min.code 2 (some .int) ∈ gw) (h4 : 1 ≤ d) (hcat : (st.map fun v => v.category).sum ≤ 8) (k : G y b nL rt d (pc + 3) lv (.int (mnI v w) :: st) M r M') : G y b nL rt d pc lv (.int w :: .int v :: st) M r M' :=
  ⟨k.1, fun p l e R s m args below meth c x H locs cells slots Q ls C hS hX hH hls hc2 hs kk => va_mmin C.1 C.2.1 (C.2.2.1.trans hls.1.symm) C.2.2.2.1 (C.2.2.2.2.1 _ hl) (C.2.2.2.2.1 _ h1) (C.2.2.2.2.1 _ h2) (C.2.2.2.2.1 _ h3) (Nat.le_trans h4 C.2.2.2.2.2.2.1.1) (by
      have a := C.2.2.2.2.2.2.1.2
      rw [den_cats x C.2.2.2.2.2.1.2.2.2.2.2]
      omega) (by omega) (by omega) hd (k.2 p l e R s m args below meth c x H locs cells slots Q ls C hS hX hH hls hc2 hs kk)⟩
/-- an array of numbers that the class keeps as a constant -/
def stN : Nat → String
  | 1 => "MOST"
  | 2 => "NAMES_OF"
  | 3 => "INTS_OF"
  | _ => "COUNTED"
theorem G.gets {idx : Nat} (n : Nat) (hn : n = 1 ∨ n = 2 ∨ n = 3 ∨ n = 4) (hd : decode b pc = .ok (.getstatic idx, 3)) (hl : Cond.fieldLink y.cls idx RX11 (stN n) "[I" ∈ gw ∨ ∃ host, Cond.fieldLinkNest y.cls idx RX11 (stN n) "[I" host ∈ nw) (k : G y b nL rt d (pc + 3) lv (.ref n :: st) M r M') : G y b nL rt d pc lv st M r M' := by
  refine ⟨k.1, fun p l e R s m args below meth c x H locs cells slots Q ls C hS hX hH hls hc2 hs kk => ?_⟩
  have k2 := k.2 p l e R s m args below meth c x H locs cells slots Q ls C hS hX hH hls hc2 hs kk
  obtain ⟨z1, z2, z3, z4, -⟩ := C.2.2.2.2.2.1.2.2.1
  have hZ : va_Z RX11 (stN n) "[I" (.ref (xad x n)) (xA x) s s.heap := by rcases hn with rfl | rfl | rfl | rfl <;> assumption
  rcases hl with hl | ⟨host, hl⟩
  · exact va_gets C.1 C.2.1 hZ hS C.2.2.2.1 (C.2.2.2.2.1 _ hl) (fun _ h => h) hd k2
  · exact va_getsN C.1 C.2.1 hZ hS C.2.2.2.1 (va_Nw.use rfl (C.2.2.2.2.2.1.2.1 _ hl)) (fun _ h => h) hd k2
theorem G.getsC {idx : Nat} (hd : decode b pc = .ok (.getstatic idx, 3)) (hl : Cond.fieldLink y.cls idx "java/lang/String" "COMPACT_STRINGS" "Z" ∈ gw) (k : G y b nL rt d (pc + 3) lv (.int 1 :: st) M r M') : G y b nL rt d pc lv st M r M' :=
  ⟨k.1, fun p l e R s m args below meth c x H locs cells slots Q ls C hS hX hH hls hc2 hs kk => va_gets C.1 C.2.1 C.2.2.2.2.2.1.2.2.1.2.2.2.2.2.2.2.1 hS C.2.2.2.1 (C.2.2.2.2.1 _ hl) (fun _ h => h) hd (k.2 p l e R s m args below meth c x H locs cells slots Q ls C hS hX hH hls hc2 hs kk)⟩
theorem G.getsF {idx : Nat} (hd : decode b pc = .ok (.getstatic idx, 3)) (hl : Cond.fieldLink y.cls idx "jdk/internal/util/Preconditions" "SIOOBE_FORMATTER" "Ljava/util/function/BiFunction;" ∈ gw) (k : G y b nL rt d (pc + 3) lv (.float 0 :: st) M r M') : G y b nL rt d pc lv st M r M' :=
  ⟨k.1, fun p l e R s m args below meth c x H locs cells slots Q ls C hS hX hH hls hc2 hs kk => va_gets C.1 C.2.1 C.2.2.2.2.2.1.2.2.1.2.2.2.2.2.2.2.2 hS C.2.2.2.1 (C.2.2.2.2.1 _ hl) (fun _ h => h) hd (k.2 p l e R s m args below meth c x H locs cells slots Q ls C hS hX hH hls hc2 hs kk)⟩
theorem G.strV {idx : Nat} (hd : decode b pc = .ok (.getfield idx, 3)) (hl : Cond.fieldLink y.cls idx "java/lang/String" "value" "[B" ∈ gw) (k : G y b nL rt d (pc + 3) lv (.ref 6 :: st) M r M') : G y b nL rt d pc lv (.ref 5 :: st) M r M' :=
  ⟨k.1, fun p l e R s m args below meth c x H locs cells slots Q ls C hS hX hH hls hc2 hs kk => vk_getf C.1 C.2.1 C.2.2.2.2.2.1.2.2.1.2.2.2.2.2.2.1 hS C.2.2.2.1 (C.2.2.2.2.1 _ hl) (fun _ h => h) hd (k.2 p l e R s m args below meth c x H locs cells slots Q ls C hS hX hH hls hc2 hs kk)⟩
theorem G.strC {idx : Nat} (hd : decode b pc = .ok (.getfield idx, 3)) (hl : Cond.fieldLink y.cls idx "java/lang/String" "coder" "B" ∈ gw) (k : G y b nL rt d (pc + 3) lv (.int 0 :: st) M r M') : G y b nL rt d pc lv (.ref 5 :: st) M r M' :=
  ⟨k.1, fun p l e R s m args below meth c x H locs cells slots Q ls C hS hX hH hls hc2 hs kk => vk_getf C.1 C.2.1 C.2.2.2.2.2.1.2.2.1.2.2.2.2.2.1 hS C.2.2.2.1 (C.2.2.2.2.1 _ hl) (fun _ h => h) hd (k.2 p l e R s m args below meth c x H locs cells slots Q ls C hS hX hH hls hc2 hs kk)⟩
/-- a call on the text -/
theorem G.callT {u : Option α} {f : α → Option β} {r1 : α → Option Value} {m1 : α → AM} {y2 : MethodName} {b2 : ByteArray} {nL2 n d2 idx : Nat} {rt2 : Option FieldType} {stk : List Value} (as st : List Value) (hd : decode b pc = .ok (.invokevirtual idx, 3)) (hl : Cond.methodLink y.cls idx y2 ∈ gw) (hi : InstOK y2 b2 nL2 rt2 n) (hci : y2.cls = "java/lang/String")
    (hC : ∀ v, u = some v → Cn y2 b2 nL2 rt2 d2 (.ref 5 :: as) M (r1 v) (m1 v)) (hdd : d2 + 1 ≤ d) (hn : as.length = n) (hst : stk = as.reverse ++ .ref 5 :: st) (hcat : (st.map fun v => v.category).sum ≤ 8)
    (h : u.bind f = some o) (k : ∀ v, f v = some o → G y b nL rt d (pc + 3) lv ((r1 v).toList ++ st) (m1 v) r M') : G y b nL rt d pc lv stk M r M' := by
  obtain ⟨v, h1, h2⟩ := bind_some' h
  have k := k v h2
  have hC := hC v h1
  obtain ⟨i1, i2, i3, i4, i5, i6⟩ := hi
  refine ⟨hC.1.tr k.1, fun p l e R s m args below meth c x H locs cells slots Q ls C hS hX hH hls hc2 hs kk => ?_⟩
  have e1 := dC_tr hC.1 k.1
  have e2 := dS_tr hC.1 k.1
  have hfit : cells + dC M (m1 v) ≤ R.cells ∧ slots + dS M (m1 v) ≤ R.slots := by omega
  have hM := hC.2 l x
  have hts := C.2.2.2.2.1
  have hsx := C.2.2.2.2.2.1
  have hro := room_ok C.2.2.2.2.2.2.1 hdd i6
  have hstk : (stk.map (den x)) = (as.map (den x)).reverse ++ .ref (xad x 5) :: st.map (den x) := by rw [hst]; simp [den]
  have hrecv : ∃ cellB : Cell, H[xad x 5]? = some cellB ∧ cellB.vm.isStatics = false ∧ s.vm.findClass y2.cls = some cellB.cls := by
    rw [hci]
    exact va_Orecv hsx.2.2.1.2.2.2.2.1 hS
  have hpre : PreV s H y2.cls (xad x 5) (Pm x M (.ref 5 :: as)) (as.map (den x)) := ⟨Pm.blind x M _, hrecv, fun U hU hW => Pm.at (av := .ref 5 :: as) hS hsx hX hH hU hW⟩
  have hcat' : 2 * (F0 m pc ls (stk.map (den x))).monitorRoom + ((st.map (den x)).map fun v => v.category).sum ≤ 8 := by rw [den_cats x hsx.2.2.2.2.2]; exact lv_room hcat
  refine W_after (va_runV (As := as.map (den x)) (rest := st.map (den x)) ⟨C.1, C.2.1, C.2.2.1, C.2.2.2.1, hts⟩ hM (cwV n hts (fun w hw => by
      rcases List.mem_append.mp hw with hw | hw
      · rcases List.mem_cons.mp hw with rfl | hw
        · exact gw_good hl
        rcases List.mem_cons.mp hw with rfl | hw
        · exact gw_good i1
        rcases List.mem_cons.mp hw with rfl | hw
        · exact gw_good i2
        rcases List.mem_cons.mp hw with rfl | hw
        · exact gw_good i3
        cases hw
      · exact goodAll i4 w hw) rfl rfl rfl ⟨rfl, i5⟩ hro) hpre rfl (by rw [List.length_map]; exact hn) hls.1 hstk hcat' hd hfit) hS ?_
  intro H1 locs1 hS1 hH1
  have k2 := k.2 p l e R s m args below meth c x H1 locs1 (cells + dC M (m1 v)) (slots + dS M (m1 v)) Q ls C hS1 (hX.mono hC.1) hH1 hls (by omega) (by omega) (fun pc' ls' H' locs' a1 a2 a3 => by
    have z := kk pc' ls' H' locs' a1 a2 a3
    rw [e1, e2, ← Nat.add_assoc, ← Nat.add_assoc] at z
    exact z)
  have e3 : ((r1 v).toList ++ st).map (den x) = ((r1 v).map (den x)).toList ++ st.map (den x) := by cases r1 v <;> simp
  rw [e3] at k2
  exact k2
theorem cpI_spec {a bb : Nat} {sp dp n : Int32} {M1 : AM} (h : cpI M a sp bb dp n = some M1) : ∃ n0 n1, M.1[a]? = some (.inr (0, n0)) ∧ M.1[bb]? = some (.inr (0, n1)) ∧ (0 ≤ sp ∧ 0 ≤ dp ∧ 0 ≤ n ∧ sp.toNatClampNeg + n.toNatClampNeg ≤ n0 ∧ dp.toNatClampNeg + n.toNatClampNeg ≤ n1 ∧ 8 ≤ a ∧ 8 ≤ bb) ∧ M1 = (M.1, upf M.2.1 bb (va_cpy (M.2.1 a) (M.2.1 bb) sp.toNatClampNeg dp.toNatClampNeg n.toNatClampNeg), M.2.2.1, M.2.2.2) := by
  unfold cpI at h
  split at h
  · rename_i n0 n1 e0 e1
    split at h
    · rename_i hc
      cases h
      exact ⟨n0, n1, e0, e1, hc, rfl⟩
    · cases h
  · cases h
theorem nn32 {z : Int32} (hz : 0 ≤ z) : z.toInt = (z.toNatClampNeg : Int) := by
  have hz0 : (0 : Int) ≤ z.toInt := by simpa using Int32.le_iff_toInt_le.mp hz
  show z.toInt = ((z.toInt.toNat : Nat) : Int)
  omega
theorem G.copy {f : AM → Option β} {idx a bb : Nat} {sp dp n : Int32} (hd : decode b pc = .ok (.invokestatic idx, 3)) (hl : Cond.methodLink y.cls idx arraycopyName ∈ gw) (h1 : Cond.native arraycopyName ∈ gw) (h2 : Cond.static arraycopyName ∈ gw) (h3 : Cond.initialized "java/lang/System" ∈ gw) (h4 : 1 ≤ d) (hcat : (st.map fun v => v.category).sum ≤ 8)
    (h : (cpI M a sp bb dp n).bind f = some o) (k : ∀ M1, f M1 = some o → G y b nL rt d (pc + 3) lv st M1 r M') : G y b nL rt d pc lv (.int n :: .int dp :: .ref bb :: .int sp :: .ref a :: st) M r M' := by
  obtain ⟨M1, g1, g2⟩ := bind_some' h
  have k := k M1 g2
  obtain ⟨n0, n1, e0, e1, ⟨c1, c2, c3, c4, c5, c6, c7⟩, eM⟩ := cpI_spec g1
  have hmo : Mono M M1 := by
    rw [eM]
    exact ⟨Nat.le_refl _, Nat.le_refl _, fun j hj => ⟨rfl, upf_ne _ _ (by omega)⟩⟩
  refine ⟨hmo.tr k.1, fun p l e R s m args below meth c x H locs cells slots Q ls C hS hX hH hls hc2 hs kk => ?_⟩
  have hts := C.2.2.2.2.1
  have hKk := C.2.2.2.2.2.1.1
  have hx6 := C.2.2.2.2.2.1.2.2.2.2.2
  have w0 : H[xad x a]? = some (vp_cell (x.2.2.2.1 0) (n0, .inl (M.2.1 a))) := hH.1 _ _ (wld_arr x c6 e0 (by decide))
  have w1 : H[xad x bb]? = some (vp_cell (x.2.2.2.1 0) (n1, .inl (M.2.1 bb))) := hH.1 _ _ (wld_arr x c7 e1 (by decide))
  obtain ⟨-, k0, hk0, cm0, hkk0⟩ := (hKk.2 0 _ (xty_at x (by decide))).1 n0 (fun j => .int (M.2.1 a j))
  obtain ⟨-, k1, hk1, cm1, hkk1⟩ := (hKk.2 0 _ (xty_at x (by decide))).1 n1 (fun j => .int (M.2.1 bb j))
  have hloc := C.2.2.2.2.2.2.1
  intro T hT X
  obtain ⟨vm', X', step⟩ := X.arraycopy C.1 C.2.2.2.1 (hts _ hl) (hts _ h1) (hts _ h2) (hts _ h3) (src := xad x a) (dst := xad x bb) (cs := vp_cell (x.2.2.2.1 0) (n0, .inl (M.2.1 a))) (cd := vp_cell (x.2.2.2.1 0) (n1, .inl (M.2.1 bb))) (srcPos := sp) (destPos := dp) (n := n) (by rw [hT]; exact w0) (by rw [hT]; exact w1)
    (fun _ h => by cases h) (fun _ h => by cases h) (fun h => by cases h) (fun h => by cases h) hk0 hk1 hkk0 hkk1 (by rfl) (Int32.not_lt.mpr c1) (Int32.not_lt.mpr c2) (Int32.not_lt.mpr c3)
    (by rw [nn32 c1, nn32 c3, vp_sz]; omega) (by rw [nn32 c2, nn32 c3, vp_sz]; omega)
    (fun vm₁ _ i hi => by
      have ev : (vp_cell (x.2.2.2.1 0) (n0, .inl (M.2.1 a))).slots.getD (sp.toNatClampNeg + i) .null = .int (M.2.1 a (sp.toNatClampNeg + i)) := by
        show (arrV _ n0 (fun j => .int (M.2.1 a j))).slots.getD _ _ = _
        rw [Array.getD_eq_getD_getElem?, arrV_read _ _ (by omega)]
        rfl
      exact ⟨by rw [ev]; rfl, by rw [ev]; exact trivial⟩)
    (g := F0 m pc ls (.int n :: .int dp :: .ref (xad x bb) :: .int sp :: .ref (xad x a) :: st.map (den x))) rfl (hls.1.trans C.2.2.1.symm) (rest := st.map (den x)) rfl (by rw [C.2.1]; exact hd) (Nat.le_trans h4 hloc.1) (by
      rw [den_cats x hx6]
      show 2 * 0 + _ + (nativeFrameWords "java/lang/System" "arraycopy" 5 + 11) ≤ _
      have e : nativeFrameWords "java/lang/System" "arraycopy" 5 = 7 := by decide
      rw [e]
      omega)
  have ec : copied (vp_cell (x.2.2.2.1 0) (n0, .inl (M.2.1 a))) (vp_cell (x.2.2.2.1 0) (n1, .inl (M.2.1 bb))) sp dp n = vp_cell (x.2.2.2.1 0) (n1, .inl (va_cpy (M.2.1 a) (M.2.1 bb) sp.toNatClampNeg dp.toNatClampNeg n.toNatClampNeg)) := va_copied (fun z => .int z) _ _ (M.2.1 a) (M.2.1 bb) c4
  rw [ec] at X' step
  have hlt : xad x bb < H.size := (Array.getElem?_eq_some_iff.mp w1).1
  have oq : ∀ (cell : Cell) (q : Nat), q ≠ xad x bb → (H.setIfInBounds (xad x bb) cell)[q]? = H[q]? := fun cell q hq => by simp [Array.getElem?_setIfInBounds, Ne.symm hq]
  have hheap : ∀ cell : Cell, ((T.setVm vm').setCell (xad x bb) cell).heap = H.setIfInBounds (xad x bb) cell := fun cell => by rw [← hT]; rfl
  have hH1 : Hx x M1 (H.setIfInBounds (xad x bb) (vp_cell (x.2.2.2.1 0) (n1, .inl (va_cpy (M.2.1 a) (M.2.1 bb) sp.toNatClampNeg dp.toNatClampNeg n.toNatClampNeg)))) := by
    subst eM
    refine hH.set1 c7 (lt_of_kind e1) rfl (fun i hi => ⟨upf_ne _ _ hi, rfl, rfl⟩) ?_ (by simp) (oq _)
    have e4 : enc x (M.1, upf M.2.1 bb (va_cpy (M.2.1 a) (M.2.1 bb) sp.toNatClampNeg dp.toNatClampNeg n.toNatClampNeg), M.2.2.1, M.2.2.2) bb = .inl (x.2.2.2.1 0, (n1, .inl (va_cpy (M.2.1 a) (M.2.1 bb) sp.toNatClampNeg dp.toNatClampNeg n.toNatClampNeg))) := by simp [enc, e1, upf]
    rw [e4]
    show (H.setIfInBounds (xad x bb) _)[xad x bb]? = some (vp_cell _ _)
    simp [Array.getElem?_setIfInBounds, hlt]
  have hcc : dC M1 M' = dC M M' ∧ dS M1 M' = dS M M' := by rw [eM]; exact ⟨rfl, rfl⟩
  obtain ⟨t, a1, b1⟩ := k.2 p l e R s m args below meth c x _ _ cells slots Q ls C ⟨by simp; exact hS.1, fun q g1 g2 => by
      rw [oq _ q (fun e => g2 (by rw [e]; exact xad_A c7))]
      exact hS.2.1 q g1 g2, fun q hq => by
      rcases List.mem_append.mp hq with h | h
      · exact hS.2.2 q h
      · obtain ⟨z, -, hz⟩ := List.mem_map.mp h
        rw [← hz]
        exact xad_A c7⟩ (hX.mono hmo) hH1 hls (by rw [hcc.1]; exact hc2) (by rw [hcc.2]; exact hs) (by rw [hcc.1, hcc.2]; exact kk) _ (hheap _) X'
  exact ⟨t, step t a1, b1⟩
end GR4
/-! combinators -/
/-- a loop: again and again until it comes out -/
def iter {σ ρ : Type} (f : σ → Option (σ ⊕ ρ)) : Nat → σ → Option ρ
  | 0, _ => none
  | n + 1, s => (f s).bind fun x => match x with
    | .inl s' => iter f n s'
    | .inr e => some e
def Kx {σ ρ β : Type} (P : σ → Prop) (g : ρ → Option β) (o : β) : σ ⊕ ρ → Prop
  | .inl s => P s
  | .inr e => g e = some o
theorem iter_elim {σ ρ β : Type} {f : σ → Option (σ ⊕ ρ)} {n : Nat} {s0 : σ} {g : ρ → Option β} {o : β} (P : σ → Prop) (h : (iter f n s0).bind g = some o) (body : ∀ s x, f s = some x → Kx P g o x → P s) : P s0 := by
  induction n generalizing s0 with
  | zero => cases h
  | succ n ih =>
    rw [iter] at h
    cases hf : f s0 with
    | none => rw [hf] at h; cases h
    | some x =>
      rw [hf] at h
      refine body s0 x hf ?_
      cases x with
      | inl s' => exact ih h
      | inr e => exact h
theorem leafL {σ ρ β : Type} {P : σ → Prop} {g : ρ → Option β} {o : β} {s : σ} {x : σ ⊕ ρ} (h : some (Sum.inl s) = some x) (K : Kx P g o x) : P s := by cases h; exact K
theorem leafR {σ ρ β : Type} {P : σ → Prop} {g : ρ → Option β} {o : β} {e : ρ} {x : σ ⊕ ρ} (h : some (Sum.inr e) = some x) (K : Kx P g o x) : g e = some o := by cases h; exact K
/-- a place where ways come together -/
def jn {α β : Type} (A : α) (f : α → β) : β := f A
theorem jn_elim {α β : Type} {A : α} {f : α → Option β} {o : β} {P : Prop} (J : α → Prop) (h : jn A f = some o) (h1 : J A) (h2 : ∀ j, J j → f j = some o → P) : P := h2 A h1 h
/-- a number that is kept -/
def lets {α β : Type} (v : α) (f : α → β) : β := f v
theorem lets_elim {α β : Type} {v : α} {f : α → Option β} {o : β} {P : Prop} (h : lets v f = some o) (k : ∀ w, w = v → f w = some o → P) : P := k v rfl h
/-- a condition that must hold -/
def gd {β : Type} (p : Prop) [Decidable p] (u : Option β) : Option β := if p then u else none
theorem gd_elim {β : Type} {p : Prop} [Decidable p] {u : Option β} {o : β} {P : Prop} (h : gd p u = some o) (k : p → u = some o → P) : P := by
  unfold gd at h
  split at h
  · rename_i hp
    exact k hp h
  · cases h
theorem some_inj' {β : Type} {v w : β} (h : some v = some w) : v = w := Option.some.inj h
