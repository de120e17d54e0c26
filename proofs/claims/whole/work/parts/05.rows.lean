/-! ===== rows that read and write the memory, each beside a step of a tree of cases ===== -/
/-- a field j of class ci as the constant place idx of class own names it -/
def COK (ci : Nat) (C : String) (T : u_T) (N : Nat) : Prop := CL[ci]? = some (C, T, N) ∧ (∀ w ∈ u_ws C T N, w ∈ gw) ∧ (∀ k, k < N → parseFieldDescriptor (T k).2.2.1 = some (FT ci k)) ∧ ∀ a, a < N → ∀ b, b < N → a ≠ b → (T a).2.1 ≠ (T b).2.1
def FOK (own : String) (idx ci j : Nat) : Prop := ∃ (C : String) (T : u_T) (N : Nat), COK ci C T N ∧ j < N ∧ (Cond.fieldLink own idx (T j).1 (T j).2.1 (T j).2.2.1 ∈ gw ∨ ∃ host, Cond.fieldLinkNest own idx (T j).1 (T j).2.1 (T j).2.2.1 host ∈ nw)
/-- it isn't final -/
def FNF (ci j : Nat) : Prop := ∃ (C : String) (T : u_T) (N : Nat), CL[ci]? = some (C, T, N) ∧ (T j).2.2.2 = false
theorem den_ref (x : XC) (k : Nat) : den x (.ref k) = .ref (xad x k) := rfl
theorem nF_of {ci N : Nat} {C : String} {T : u_T} (h : CL[ci]? = some (C, T, N)) : nF ci = N := by simp [nF, h]
theorem W_get {p : Program} {l : Launch} {e : Env} {R : Room} {s : State} {m : MethodId} {args : Array Value} {below : List Frame} {meth : Method} {c : Code} {H : Heap} {locs : List Loc} {cells slots : Nat} {Q : State → Prop} {y : MethodName} {b : ByteArray} {nL d pc idx ci j t : Nat} {x : XC} {M : AM} {ls : Array Slot} {rest : List Value} {v : Value}
    (C : Cx x y b nL d p R s m args meth c) (hH : Hx x M H) (hF : FOK y.cls idx ci j) (hk : M.1[t]? = some (.inl ci)) (h8 : 8 ≤ t) (hv : ∀ hj : j < nF ci, (encF x M ci t)[j]? = some v) (hd : decode b pc = .ok (.getfield idx, 3))
    (kk : W p l e R s m args below meth c H locs cells slots Q (F0 m (pc + 3) ls (v :: rest))) : W p l e R s m args below meth c H locs cells slots Q (F0 m pc ls (.ref (xad x t) :: rest)) := by
  obtain ⟨C1, T, N, ⟨c1, c2, c3, c4⟩, hj, hl | ⟨host, hl⟩⟩ := hF
  · exact va_get C.1 C.2.1 C.2.2.2.2.1 c2 C.2.2.2.1 C.2.2.2.2.2.1.1 hH.1 (t - 8) (wld_obj x h8 hk) c1 j hj (C.2.2.2.2.1 _ hl) (fun _ h => h) (hv (by rw [nF_of c1]; exact hj)) hd kk
  · exact va_getN C.1 C.2.1 C.2.2.2.2.1 c2 C.2.2.2.1 C.2.2.2.2.2.1.1 hH.1 (t - 8) (wld_obj x h8 hk) c1 j hj (va_Nw.use rfl (C.2.2.2.2.2.1.2.1 _ hl)) (fun _ h => h) (hv (by rw [nF_of c1]; exact hj)) hd kk
/-- the world behind a write into one cell -/
theorem Hx.set1 {x : XC} {M M1 : AM} {H H1 : Heap} {t : Nat} (hH : Hx x M H) (h8 : 8 ≤ t) (ht : t < M.1.length) (hK : M1.1 = M.1) (ho : ∀ j, j ≠ t → M1.2.1 j = M.2.1 j ∧ M1.2.2.1 j = M.2.2.1 j ∧ M1.2.2.2 j = M.2.2.2 j)
    (he : va_at x.2.2.1 CL (xad x t, enc x M1 t) H1) (hz : H1.size = H.size) (oq : ∀ q : Nat, q ≠ xad x t → H1[q]? = H[q]?) : Hx x M1 H1 := by
  refine ⟨?_, by rw [hz, hH.2.1, hK], by rw [hK]; exact hH.2.2⟩
  have h := hH.1.set (wld_D x M) (wld_at x M h8 ht) he oq
  rw [wld_set x h8 ht (by rw [hK]) (fun j _ _ hj => enc_congr (by rw [hK]) (ho j hj).1 (ho j hj).2.1 (ho j hj).2.2)] at h
  exact h
theorem xad_A {x : XC} {t : Nat} (h8 : 8 ≤ t) : xA x (xad x t) := by
  have h2 : ¬ t < 8 := by omega
  show x.1 ≤ xad x t
  simp [xad, h2]
theorem W_put {p : Program} {l : Launch} {e : Env} {R : Room} {s : State} {m : MethodId} {args : Array Value} {below : List Frame} {meth : Method} {c : Code} {H : Heap} {locs : List Loc} {cells slots : Nat} {Q : State → Prop} {y : MethodName} {b : ByteArray} {nL d pc idx ci j t : Nat} {x : XC} {M M1 : AM} {ls : Array Slot} {rest : List Value} {v : Value}
    (C : Cx x y b nL d p R s m args meth c) (hS : va_S (xA x) s.heap H locs) (hH : Hx x M H) (hF : FOK y.cls idx ci j) (hn : FNF ci j) (hk : M.1[t]? = some (.inl ci)) (h8 : 8 ≤ t) (hnar : narrow (FT ci j) v = v) (hfit : fits (FT ci j) v = true) (hK : M1.1 = M.1) (ho : ∀ j, j ≠ t → M1.2.1 j = M.2.1 j ∧ M1.2.2.1 j = M.2.2.1 j ∧ M1.2.2.2 j = M.2.2.2 j) (hv : j < nF ci → (encF x M ci t).set j v = encF x M1 ci t) (hd : decode b pc = .ok (.putfield idx, 3))
    (kk : ∀ (H1 : Heap) (locs1 : List Loc), va_S (xA x) s.heap H1 locs1 → Hx x M1 H1 → W p l e R s m args below meth c H1 locs1 cells slots Q (F0 m (pc + 3) ls rest)) : W p l e R s m args below meth c H locs cells slots Q (F0 m pc ls (v :: .ref (xad x t) :: rest)) := by
  obtain ⟨C1, T, N, ⟨c1, c2, c3, c4⟩, hj, hl⟩ := hF
  obtain ⟨C1', T', N', c1', hfin⟩ := hn
  rw [c1] at c1'
  cases c1'
  have hjn : j < nF ci := by rw [nF_of c1]; exact hj
  have hts := C.2.2.2.2.1
  have hKk := C.2.2.2.2.2.1.1
  have hap := va_apart (own := y.cls) hts c2 (FT ci) c3 c4 hKk c1
  obtain ⟨r, h1, cell, q1, q2, q3, q4⟩ := hH.1 (t - 8) _ (wld_obj x h8 hk)
  have hr : r = (C1, T, N) := Option.some.inj (h1.symm.trans c1)
  subst hr
  obtain ⟨hSl, hfc, kC, hkC, hkind⟩ := hKk.1 ci _ c1
  obtain ⟨cf, kf, fi, f, hi, hsl⟩ := hSl j hj
  have hlay := hts _ (c2 _ (u_in_lay hj))
  unfold u_lay at hlay
  rw [if_neg (by rw [hfin]; decide)] at hlay
  have hst := (u_facts hfc hkC (u_lays hts c2 hj) hi).1
  have h6 := u_store hfc hkC hkind hlay hi (c3 j hj) hnar hfit
  have fin : ∀ (H' : Heap), H'[xad x t]? = some (cell.setSlot f.slot v) → H'.size = H.size → (∀ q, q ≠ xad x t → H'[q]? = H[q]?) → W p l e R s m args below meth c H' (locs ++ [⟨xad x t, f.slot⟩]) cells slots Q (F0 m (pc + 3) ls rest) := by
    intro H' e1 e2 e3
    rw [hsl] at e1
    refine kk H' _ (hS.put e2 e3 (xad_A h8)) (hH.set1 h8 (lt_of_kind hk) hK ho ?_ e2 e3)
    have e4 : enc x M1 t = .inr (ci, encF x M1 ci t) := by simp [enc, hK, hk]
    rw [e4, ← hv hjn]
    exact ⟨_, c1, t_OB.to (V := updV (vp_V (encF x M ci t)) j v) ⟨_, e1, q2, q3, t_set q4 hap hj v⟩ (fun i _ => vp_updV_set (by rw [nF_len]; exact hjn) v i)⟩
  rcases hl with hl | ⟨host, hl⟩
  · exact W.putK C.1 C.2.1 (f := f) ⟨C.2.2.2.1, hts _ hl, ⟨_, _, _, hi⟩, hst⟩ (by rw [q2]; exact h6) q1 q3 (by rw [hsl]; exact k2_hasslot (q4 j hj)) rfl rfl hd fin
  · exact va_WputK C.1 C.2.1 (f := f) C.2.2.2.1 (va_Nw.use rfl (C.2.2.2.2.2.1.2.1 _ hl)) hi hst (by rw [q2]; exact h6) q1 q3 (by rw [hsl]; exact k2_hasslot (q4 j hj)) rfl rfl hd fin
/-- a final field, in its class's constructor -/
theorem W_putF {p : Program} {l : Launch} {e : Env} {R : Room} {s : State} {m : MethodId} {args : Array Value} {below : List Frame} {meth : Method} {c : Code} {H : Heap} {locs : List Loc} {cells slots : Nat} {Q : State → Prop} {y : MethodName} {b : ByteArray} {nL d pc idx ci j t : Nat} {x : XC} {M M1 : AM} {ls : Array Slot} {rest : List Value} {v : Value} {C1 : String} {T : u_T} {N : Nat}
    (C : Cx x y b nL d p R s m args meth c) (hS : va_S (xA x) s.heap H locs) (hH : Hx x M H) (hCo : COK ci C1 T N) (hj : j < N) (hl : Cond.fieldLink y.cls idx (T j).1 (T j).2.1 (T j).2.2.1 ∈ gw) (hfin : (T j).2.2.2 = true) (hin : y.name = "<init>") (hdecl : (T j).1 = y.cls) (hk : M.1[t]? = some (.inl ci)) (h8 : 8 ≤ t) (hnar : narrow (FT ci j) v = v) (hfit : fits (FT ci j) v = true) (hK : M1.1 = M.1) (ho : ∀ j, j ≠ t → M1.2.1 j = M.2.1 j ∧ M1.2.2.1 j = M.2.2.1 j ∧ M1.2.2.2 j = M.2.2.2 j) (hv : j < nF ci → (encF x M ci t).set j v = encF x M1 ci t) (hd : decode b pc = .ok (.putfield idx, 3))
    (kk : ∀ (H1 : Heap) (locs1 : List Loc), va_S (xA x) s.heap H1 locs1 → Hx x M1 H1 → W p l e R s m args below meth c H1 locs1 cells slots Q (F0 m (pc + 3) ls rest)) : W p l e R s m args below meth c H locs cells slots Q (F0 m pc ls (v :: .ref (xad x t) :: rest)) := by
  obtain ⟨c1, c2, c3, c4⟩ := hCo
  have hjn : j < nF ci := by rw [nF_of c1]; exact hj
  have hts := C.2.2.2.2.1
  have hKk := C.2.2.2.2.2.1.1
  have hap := va_apart (own := y.cls) hts c2 (FT ci) c3 c4 hKk c1
  obtain ⟨r, h1, cell, q1, q2, q3, q4⟩ := hH.1 (t - 8) _ (wld_obj x h8 hk)
  have hr : r = (C1, T, N) := Option.some.inj (h1.symm.trans c1)
  subst hr
  obtain ⟨hSl, hfc, kC, hkC, hkind⟩ := hKk.1 ci _ c1
  obtain ⟨cf, kf, fi, f, hi, hsl⟩ := hSl j hj
  have hlay := hts _ (c2 _ (u_in_lay hj))
  unfold u_lay at hlay
  rw [if_pos hfin] at hlay
  have hst := (u_facts hfc hkC (u_lays hts c2 hj) hi).1
  have hcf : m.cls = cf := by
    obtain ⟨_, _, c', _, _, _, -, -, hf', -, -, -, hown2, -⟩ := Cond.laysFinal_spec hlay
    have e1 : c' = cf := by have := hi.symm.trans hf'; simp at this; exact this.1.symm
    rw [hdecl] at hown2
    rw [← e1]; exact Option.some.inj (C.2.2.2.1.symm.trans hown2)
  have h6 := u_fits hfc hkC hkind (Or.inr hlay) hi (c3 j hj) hnar hfit
  refine W.putFinK C.1 C.2.1 C.2.2.2.1 (hts _ hl) hi hst hcf ((C.2.2.2.2.2.2.2 hin).trans hin) (by rw [q2]; exact h6) q1 q3 (by rw [hsl]; exact k2_hasslot (q4 j hj)) rfl rfl hd ?_
  intro H' e1 e2 e3
  rw [hsl] at e1
  refine kk H' _ (hS.put e2 e3 (xad_A h8)) (hH.set1 h8 (lt_of_kind hk) hK ho ?_ e2 e3)
  have e4 : enc x M1 t = .inr (ci, encF x M1 ci t) := by simp [enc, hK, hk]
  rw [e4, ← hv hjn]
  exact ⟨_, c1, t_OB.to (V := updV (vp_V (encF x M ci t)) j v) ⟨_, e1, q2, q3, t_set q4 hap hj v⟩ (fun i _ => vp_updV_set (by rw [nF_len]; exact hjn) v i)⟩
theorem setI_ho (M : AM) (t j : Nat) (v : Int32) : ∀ i, i ≠ t → (setI M t j v).2.1 i = M.2.1 i ∧ (setI M t j v).2.2.1 i = M.2.2.1 i ∧ (setI M t j v).2.2.2 i = M.2.2.2 i := fun i hi => ⟨upf_ne _ _ hi, rfl, rfl⟩
theorem setL_ho (M : AM) (t j : Nat) (v : Int64) : ∀ i, i ≠ t → (setL M t j v).2.1 i = M.2.1 i ∧ (setL M t j v).2.2.1 i = M.2.2.1 i ∧ (setL M t j v).2.2.2 i = M.2.2.2 i := fun i hi => ⟨rfl, upf_ne _ _ hi, rfl⟩
theorem setR_ho (M : AM) (t j : Nat) (v : Option Nat) : ∀ i, i ≠ t → (setR M t j v).2.1 i = M.2.1 i ∧ (setR M t j v).2.2.1 i = M.2.2.1 i ∧ (setR M t j v).2.2.2 i = M.2.2.2 i := fun i hi => ⟨rfl, rfl, upf_ne _ _ hi⟩
section GR2
variable {y : MethodName} {b : ByteArray} {nL : Nat} {rt : Option FieldType} {d pc : Nat} {lv : List (Nat × Value)} {st : List Value} {M M' : AM} {r : Option Value} {β : Type} {o : β}
theorem bind_some' {α : Type} {u : Option α} {f : α → Option β} (h : u.bind f = some o) : ∃ v, u = some v ∧ f v = some o := by
  cases u with
  | none => cases h
  | some v => exact ⟨v, rfl, h⟩
theorem G.getI {f : Int32 → Option β} {idx ci j t : Nat} (hd : decode b pc = .ok (.getfield idx, 3)) (hF : FOK y.cls idx ci j) (hty : isRef (FT ci j) = false) (h : (gI ci j M t).bind f = some o) (k : ∀ v, f v = some o → G y b nL rt d (pc + 3) lv (.int v :: st) M r M') : G y b nL rt d pc lv (.ref t :: st) M r M' := by
  obtain ⟨v, h1, h2⟩ := bind_some' h
  have k := k v h2
  unfold gI at h1
  split at h1
  · rename_i hc
    cases h1
    exact ⟨k.1, fun p l e R s m args below meth c x H locs cells slots Q ls C hS hX hH hls hc2 hs kk => W_get C hH hF hc.1 hc.2 (v := .int (M.2.1 t j)) (fun hj => by rw [encF_at x M hj, hty]; rfl) hd (k.2 p l e R s m args below meth c x H locs cells slots Q ls C hS hX hH hls hc2 hs kk)⟩
  · cases h1
theorem G.getR {f : Nat → Option β} {idx ci j t : Nat} (hd : decode b pc = .ok (.getfield idx, 3)) (hF : FOK y.cls idx ci j) (hty : isRef (FT ci j) = true) (h : (gR ci j M t).bind f = some o) (k : ∀ v, f v = some o → G y b nL rt d (pc + 3) lv (.ref v :: st) M r M') : G y b nL rt d pc lv (.ref t :: st) M r M' := by
  obtain ⟨v, h1, h2⟩ := bind_some' h
  have k := k v h2
  unfold gR at h1
  split at h1
  · rename_i hc
    exact ⟨k.1, fun p l e R s m args below meth c x H locs cells slots Q ls C hS hX hH hls hc2 hs kk => W_get C hH hF hc.1 hc.2 (v := .ref (xad x v)) (fun hj => by rw [encF_at x M hj, hty, if_pos rfl, h1]; rfl) hd (k.2 p l e R s m args below meth c x H locs cells slots Q ls C hS hX hH hls hc2 hs kk)⟩
  · cases h1
theorem G.putI {f : AM → Option β} {idx ci j t : Nat} {v : Int32} (hd : decode b pc = .ok (.putfield idx, 3)) (hF : FOK y.cls idx ci j) (hn : FNF ci j) (hty : FT ci j = .int) (h : (pI ci j M t v).bind f = some o) (k : ∀ M1, f M1 = some o → G y b nL rt d (pc + 3) lv st M1 r M') : G y b nL rt d pc lv (.int v :: .ref t :: st) M r M' := by
  obtain ⟨M1, h1, h2⟩ := bind_some' h
  have k := k M1 h2
  unfold pI at h1
  split at h1
  · rename_i hc
    cases h1
    exact ⟨(Mono.setI hc.2).tr k.1, fun p l e R s m args below meth c x H locs cells slots Q ls C hS hX hH hls hc2 hs kk => W_put C hS hH hF hn hc.1 hc.2 (by rw [hty]; rfl) (by rw [hty]; rfl) (M1 := setI M t j v) rfl (setI_ho M t j v) (fun hj => encF_setI x M v hj (by rw [hty]; rfl)) hd (fun H1 locs1 hS1 hH1 => k.2 p l e R s m args below meth c x H1 locs1 cells slots Q ls C hS1 (hX.mono (Mono.setI hc.2)) hH1 hls hc2 hs kk)⟩
  · cases h1
theorem G.putZ {f : AM → Option β} {idx ci j t : Nat} {v : Int32} (hd : decode b pc = .ok (.putfield idx, 3)) (hF : FOK y.cls idx ci j) (hn : FNF ci j) (hty : FT ci j = .boolean) (h : (pZ ci j M t v).bind f = some o) (k : ∀ M1, f M1 = some o → G y b nL rt d (pc + 3) lv st M1 r M') : G y b nL rt d pc lv (.int v :: .ref t :: st) M r M' := by
  obtain ⟨M1, h1, h2⟩ := bind_some' h
  have k := k M1 h2
  unfold pZ at h1
  split at h1
  · rename_i hc
    cases h1
    have hnf : narrow (FT ci j) (.int v) = .int v ∧ fits (FT ci j) (.int v) = true := by
      rw [hty]
      rcases hc.2.2 with rfl | rfl <;> exact ⟨by decide, by decide⟩
    exact ⟨(Mono.setI hc.2.1).tr k.1, fun p l e R s m args below meth c x H locs cells slots Q ls C hS hX hH hls hc2 hs kk => W_put C hS hH hF hn hc.1 hc.2.1 hnf.1 hnf.2 (M1 := setI M t j v) rfl (setI_ho M t j v) (fun hj => encF_setI x M v hj (by rw [hty]; rfl)) hd (fun H1 locs1 hS1 hH1 => k.2 p l e R s m args below meth c x H1 locs1 cells slots Q ls C hS1 (hX.mono (Mono.setI hc.2.1)) hH1 hls hc2 hs kk)⟩
  · cases h1
theorem nar_ref {ty : FieldType} (h : isRef ty = true) (a : Nat) : narrow ty (.ref a) = .ref a ∧ fits ty (.ref a) = true := by cases ty <;> first | (cases h; done) | exact ⟨rfl, rfl⟩
theorem G.putR {f : AM → Option β} {idx ci j t v : Nat} (hd : decode b pc = .ok (.putfield idx, 3)) (hF : FOK y.cls idx ci j) (hn : FNF ci j) (hty : isRef (FT ci j) = true) (h : (pR ci j M t v).bind f = some o) (k : ∀ M1, f M1 = some o → G y b nL rt d (pc + 3) lv st M1 r M') : G y b nL rt d pc lv (.ref v :: .ref t :: st) M r M' := by
  obtain ⟨M1, h1, h2⟩ := bind_some' h
  have k := k M1 h2
  unfold pR at h1
  split at h1
  · rename_i hc
    cases h1
    exact ⟨(Mono.setR).tr k.1, fun p l e R s m args below meth c x H locs cells slots Q ls C hS hX hH hls hc2 hs kk => W_put C hS hH hF hn hc.1 hc.2 (nar_ref hty _).1 (nar_ref hty _).2 (M1 := setR M t j (some v)) rfl (setR_ho M t j (some v)) (fun hj => encF_setR x M (some v) hj hty) hd (fun H1 locs1 hS1 hH1 => k.2 p l e R s m args below meth c x H1 locs1 cells slots Q ls C hS1 (hX.mono (Mono.setR)) hH1 hls hc2 hs kk)⟩
  · cases h1
/-- a final field of references, in the constructor -/
theorem G.putRF {f : AM → Option β} {idx ci j t v : Nat} {C1 : String} {T : u_T} {N : Nat} (hd : decode b pc = .ok (.putfield idx, 3)) (hCo : COK ci C1 T N) (hj : j < N) (hl : Cond.fieldLink y.cls idx (T j).1 (T j).2.1 (T j).2.2.1 ∈ gw) (hfin : (T j).2.2.2 = true) (hin : y.name = "<init>") (hdecl : (T j).1 = y.cls) (hty : isRef (FT ci j) = true) (h : (pR ci j M t v).bind f = some o) (k : ∀ M1, f M1 = some o → G y b nL rt d (pc + 3) lv st M1 r M') : G y b nL rt d pc lv (.ref v :: .ref t :: st) M r M' := by
  obtain ⟨M1, h1, h2⟩ := bind_some' h
  have k := k M1 h2
  unfold pR at h1
  split at h1
  · rename_i hc
    cases h1
    exact ⟨(Mono.setR).tr k.1, fun p l e R s m args below meth c x H locs cells slots Q ls C hS hX hH hls hc2 hs kk => W_putF C hS hH hCo hj hl hfin hin hdecl hc.1 hc.2 (nar_ref hty _).1 (nar_ref hty _).2 (M1 := setR M t j (some v)) rfl (setR_ho M t j (some v)) (fun hj => encF_setR x M (some v) hj hty) hd (fun H1 locs1 hS1 hH1 => k.2 p l e R s m args below meth c x H1 locs1 cells slots Q ls C hS1 (hX.mono (Mono.setR)) hH1 hls hc2 hs kk)⟩
  · cases h1
theorem rdK_spec {a : Nat} {i : Int32} {ok : Nat → Bool} (h : rdK M a i ok = true) : ∃ t n, M.1[a]? = some (.inr (t, n)) ∧ ok t = true ∧ vp_in i n := by
  unfold rdK at h
  split at h
  · rename_i q hq
    simp only [Bool.and_eq_true, decide_eq_true_eq] at h
    refine ⟨q.1, q.2, hq, h.1, fun z => ?_⟩
    rcases z with z | z
    · exact absurd z (Int32.not_lt.mpr h.2.1)
    · omega
  · cases h
theorem xty_at (x : XC) {t : Nat} (ht : t < 4) : (xty x)[t]? = some (x.2.2.2.1 t, tyN t) := by
  match t, ht with
  | 0, _ => rfl
  | 1, _ => rfl
  | 2, _ => rfl
  | 3, _ => rfl
theorem G.iald {f : Int32 → Option β} {a : Nat} {i : Int32} (hd : decode b pc = .ok (.iaload, 1)) (h : (rdI M a i).bind f = some o) (k : ∀ v, f v = some o → G y b nL rt d (pc + 1) lv (.int v :: st) M r M') : G y b nL rt d pc lv (.int i :: .ref a :: st) M r M' := by
  obtain ⟨v, h1, h2⟩ := bind_some' h
  have k := k v h2
  unfold rdI at h1
  split at h1
  · rename_i hc
    cases h1
    obtain ⟨t, n, hk, ht, hin⟩ := rdK_spec hc
    have ht0 : t = 0 := by simpa using ht
    subst ht0
    refine ⟨k.1, fun p l e R s m args below meth c x H locs cells slots Q ls C hS hX hH hls hc2 hs kk => ?_⟩
    have k2 := k.2 p l e R s m args below meth c x H locs cells slots Q ls C hS hX hH hls hc2 hs kk
    by_cases h8 : a < 8
    · exact va_ti C.1 C.2.1 (hX a h8 0 n hk) hS hin rfl hd k2
    · exact va_iald C.1 C.2.1 C.2.2.2.2.2.1.1 hH.1 (a - 8) 0 (wld_arr x (by omega) hk (by decide)) (xty_at x (by decide)) hin hd k2
  · cases h1
theorem G.bald {f : Int32 → Option β} {a : Nat} {i : Int32} (hd : decode b pc = .ok (.baload, 1)) (h : (rdB M a i).bind f = some o) (k : ∀ v, f v = some o → G y b nL rt d (pc + 1) lv (.int v :: st) M r M') : G y b nL rt d pc lv (.int i :: .ref a :: st) M r M' := by
  obtain ⟨v, h1, h2⟩ := bind_some' h
  have k := k v h2
  unfold rdB at h1
  split at h1
  · rename_i hc
    cases h1
    obtain ⟨t, n, hk, ht, hin⟩ := rdK_spec hc
    refine ⟨k.1, fun p l e R s m args below meth c x H locs cells slots Q ls C hS hX hH hls hc2 hs kk => ?_⟩
    have k2 := k.2 p l e R s m args below meth c x H locs cells slots Q ls C hS hX hH hls hc2 hs kk
    have ht2 : t = 1 ∨ t = 3 := by simpa using ht
    by_cases h8 : a < 8
    · rcases ht2 with rfl | rfl
      · exact va_tb C.1 C.2.1 (hX a h8 1 n hk) hS hin rfl hd k2
      · exact va_tz C.1 C.2.1 (hX a h8 3 n hk) hS hin rfl hd k2
    · rcases ht2 with rfl | rfl
      · exact va_bald C.1 C.2.1 C.2.2.2.2.2.1.1 hH.1 (a - 8) 1 (wld_arr x (by omega) hk (by decide)) (xty_at x (by decide)) hin hd k2
      · exact va_zald C.1 C.2.1 C.2.2.2.2.2.1.1 hH.1 (a - 8) 3 (wld_arr x (by omega) hk (by decide)) (xty_at x (by decide)) hin hd k2
  · cases h1
theorem G.lald {f : Int64 → Option β} {a : Nat} {i : Int32} (hd : decode b pc = .ok (.laload, 1)) (h : (rdL M a i).bind f = some o) (k : ∀ v, f v = some o → G y b nL rt d (pc + 1) lv (.long v :: st) M r M') : G y b nL rt d pc lv (.int i :: .ref a :: st) M r M' := by
  obtain ⟨v, h1, h2⟩ := bind_some' h
  have k := k v h2
  unfold rdL at h1
  split at h1
  · rename_i hc
    cases h1
    obtain ⟨t, n, hk, ht, hin⟩ := rdK_spec hc.1
    have ht0 : t = 2 := by simpa using ht
    subst ht0
    refine ⟨k.1, fun p l e R s m args below meth c x H locs cells slots Q ls C hS hX hH hls hc2 hs kk => ?_⟩
    exact va_lald C.1 C.2.1 C.2.2.2.2.2.1.1 hH.1 (a - 8) 2 (wld_arrL x hc.2 hk) (xty_at x (by decide)) hin hd (k.2 p l e R s m args below meth c x H locs cells slots Q ls C hS hX hH hls hc2 hs kk)
  · cases h1
theorem vp_sz {cA : ClassId} {n : Nat} {f : Nat → Int32} : (vp_cell cA (n, .inl f)).slots.size = n := by show (arrV _ _ _).slots.size = _; rw [arrV_size]
/-- the world behind a store into an array of numbers -/
theorem Hx.arr {x : XC} {H H1 : Heap} {a t n j : Nat} {v : Int32} (hH : Hx x M H) (h8 : 8 ≤ a) (hk : M.1[a]? = some (.inr (t, n))) (ht : t ≠ 2) (e : H1[xad x a]? = some ((vp_cell (x.2.2.2.1 t) (n, .inl (M.2.1 a))).setSlot j (.int v))) (z : H1.size = H.size) (oq : ∀ q : Nat, q ≠ xad x a → H1[q]? = H[q]?) : Hx x (setI M a j v) H1 := by
  refine hH.set1 h8 (lt_of_kind hk) rfl (setI_ho M a j v) ?_ z oq
  have e4 : enc x (setI M a j v) a = .inl (x.2.2.2.1 t, (n, .inl (upf (M.2.1 a) j v))) := by simp [enc, setI, hk, ht, upf]
  rw [e4]
  show H1[xad x a]? = some (vp_cell _ _)
  rw [e, vp_cell_i, vp_cell_i, arrV_store]
  congr 2
  funext q
  by_cases hq : q = j
  · subst hq
    simp [updV, upf]
  · simp [updV, upf, hq]
theorem G.iast {f : AM → Option β} {a : Nat} {i v : Int32} (hd : decode b pc = .ok (.iastore, 1)) (h : (wrI M a i v).bind f = some o) (k : ∀ M1, f M1 = some o → G y b nL rt d (pc + 1) lv st M1 r M') : G y b nL rt d pc lv (.int v :: .int i :: .ref a :: st) M r M' := by
  obtain ⟨M1, h1, h2⟩ := bind_some' h
  have k := k M1 h2
  unfold wrI at h1
  split at h1
  · rename_i hc
    cases h1
    obtain ⟨t, n, hk, ht, hin⟩ := rdK_spec hc.1
    have ht0 : t = 0 := by simpa using ht
    subst ht0
    refine ⟨(Mono.setI hc.2).tr k.1, fun p l e R s m args below meth c x H locs cells slots Q ls C hS hX hH hls hc2 hs kk => ?_⟩
    refine W.iast C.1 C.2.1 (hH.1 (a - 8) _ (wld_arr x hc.2 hk (by decide))) ((C.2.2.2.2.2.1.1.2 0 _ (xty_at x (by decide))).1 n (fun j => .int (M.2.1 a j))) (fun q => by cases q) (by rw [vp_sz]; exact hin) rfl rfl hd fun H1 e1 z oq => ?_
    exact k.2 p l e R s m args below meth c x H1 _ cells slots Q ls C (hS.put z oq (xad_A hc.2)) (hX.mono (Mono.setI hc.2)) (hH.arr hc.2 hk (by decide) e1 z oq) hls hc2 hs kk
  · cases h1
theorem G.bast {f : AM → Option β} {a : Nat} {i v : Int32} (hd : decode b pc = .ok (.bastore, 1)) (h : (wrB M a i v).bind f = some o) (k : ∀ M1, f M1 = some o → G y b nL rt d (pc + 1) lv st M1 r M') : G y b nL rt d pc lv (.int v :: .int i :: .ref a :: st) M r M' := by
  obtain ⟨M1, h1, h2⟩ := bind_some' h
  have k := k M1 h2
  unfold wrB at h1
  split at h1
  · rename_i hc
    cases h1
    obtain ⟨t, n, hk, ht, hin⟩ := rdK_spec hc.1
    have ht0 : t = 1 := by simpa using ht
    subst ht0
    refine ⟨(Mono.setI hc.2).tr k.1, fun p l e R s m args below meth c x H locs cells slots Q ls C hS hX hH hls hc2 hs kk => ?_⟩
    refine W.bast C.1 C.2.1 (hH.1 (a - 8) _ (wld_arr x hc.2 hk (by decide))) ((C.2.2.2.2.2.1.1.2 1 _ (xty_at x (by decide))).1 n (fun j => .int (M.2.1 a j))) (fun q => by cases q) (by rw [vp_sz]; exact hin) rfl rfl hd fun H1 e1 z oq => ?_
    exact k.2 p l e R s m args below meth c x H1 _ cells slots Q ls C (hS.put z oq (xad_A hc.2)) (hX.mono (Mono.setI hc.2)) (hH.arr hc.2 hk (by decide) e1 z oq) hls hc2 hs kk
  · cases h1
theorem G.zast {f : AM → Option β} {a : Nat} {i v : Int32} (hd : decode b pc = .ok (.bastore, 1)) (h : (wrZ M a i v).bind f = some o) (k : ∀ M1, f M1 = some o → G y b nL rt d (pc + 1) lv st M1 r M') : G y b nL rt d pc lv (.int v :: .int i :: .ref a :: st) M r M' := by
  obtain ⟨M1, h1, h2⟩ := bind_some' h
  have k := k M1 h2
  unfold wrZ at h1
  split at h1
  · rename_i hc
    cases h1
    obtain ⟨t, n, hk, ht, hin⟩ := rdK_spec hc.1
    have ht0 : t = 3 := by simpa using ht
    subst ht0
    refine ⟨(Mono.setI hc.2).tr k.1, fun p l e R s m args below meth c x H locs cells slots Q ls C hS hX hH hls hc2 hs kk => ?_⟩
    refine W.zast C.1 C.2.1 (hH.1 (a - 8) _ (wld_arr x hc.2 hk (by decide))) ((C.2.2.2.2.2.1.1.2 3 _ (xty_at x (by decide))).1 n (fun j => .int (M.2.1 a j))) (fun q => by cases q) (by rw [vp_sz]; exact hin) rfl rfl hd fun H1 e1 z oq => ?_
    exact k.2 p l e R s m args below meth c x H1 _ cells slots Q ls C (hS.put z oq (xad_A hc.2)) (hX.mono (Mono.setI hc.2)) (hH.arr hc.2 hk (by decide) e1 z oq) hls hc2 hs kk
  · cases h1
theorem G.last {f : AM → Option β} {a : Nat} {i : Int32} {v : Int64} (hd : decode b pc = .ok (.lastore, 1)) (h : (wrL M a i v).bind f = some o) (k : ∀ M1, f M1 = some o → G y b nL rt d (pc + 1) lv st M1 r M') : G y b nL rt d pc lv (.long v :: .int i :: .ref a :: st) M r M' := by
  obtain ⟨M1, h1, h2⟩ := bind_some' h
  have k := k M1 h2
  unfold wrL at h1
  split at h1
  · rename_i hc
    cases h1
    obtain ⟨t, n, hk, ht, hin⟩ := rdK_spec hc.1
    have ht0 : t = 2 := by simpa using ht
    subst ht0
    refine ⟨(Mono.setL).tr k.1, fun p l e R s m args below meth c x H locs cells slots Q ls C hS hX hH hls hc2 hs kk => ?_⟩
    refine W.last C.1 C.2.1 (hH.1 (a - 8) _ (wld_arrL x hc.2 hk)) ((C.2.2.2.2.2.1.1.2 2 _ (xty_at x (by decide))).1 n (fun j => .long (M.2.2.1 a j))) (fun q => by cases q) (by show ¬ (_ ∨ (arrV _ _ _).slots.size ≤ _); rw [arrV_size]; exact hin) rfl rfl hd fun H1 e1 z oq => ?_
    have hH1 : Hx x (setL M a i.toNatClampNeg v) H1 := by
      refine hH.set1 hc.2 (lt_of_kind hk) rfl (setL_ho M a _ v) ?_ z oq
      have e4 : enc x (setL M a i.toNatClampNeg v) a = .inl (x.2.2.2.1 2, (n, .inr (.inl (upf (M.2.2.1 a) i.toNatClampNeg v)))) := by simp [enc, setL, hk, upf]
      rw [e4]
      show H1[xad x a]? = some (vp_cell _ _)
      rw [e1, vp_cell_l, vp_cell_l, arrV_store]
      congr 2
      funext q
      by_cases hq : q = i.toNatClampNeg
      · subst hq
        simp [updV, upf]
      · simp [updV, upf, hq]
    exact k.2 p l e R s m args below meth c x H1 _ cells slots Q ls C (hS.put z oq (xad_A hc.2)) (hX.mono (Mono.setL)) hH1 hls hc2 hs kk
  · cases h1
theorem G.alen {f : Int32 → Option β} {a : Nat} (hd : decode b pc = .ok (.arraylength, 1)) (h : (aln M a).bind f = some o) (k : ∀ v, f v = some o → G y b nL rt d (pc + 1) lv (.int v :: st) M r M') : G y b nL rt d pc lv (.ref a :: st) M r M' := by
  obtain ⟨v, h1, h2⟩ := bind_some' h
  have k := k v h2
  unfold aln at h1
  split at h1
  · rename_i q hk
    split at h1
    case isFalse => cases h1
    rename_i ht
    cases h1
    obtain ⟨t, n⟩ := q
    refine ⟨k.1, fun p l e R s m args below meth c x H locs cells slots Q ls C hS hX hH hls hc2 hs kk => ?_⟩
    have k2 := k.2 p l e R s m args below meth c x H locs cells slots Q ls C hS hX hH hls hc2 hs kk
    by_cases h8 : a < 8
    · exact va_tlen C.1 C.2.1 (hX a h8 t n hk) hS rfl hd k2
    · have e := wld_at x M (k := a) (by omega) (lt_of_kind hk)
      have e2 : enc x M a = .inl (x.2.2.2.1 t, (n, if t = 2 then .inr (.inl (M.2.2.1 a)) else .inl (M.2.1 a))) := by simp [enc, hk]
      rw [e2] at e
      exact va_alen C.1 C.2.1 C.2.2.2.2.2.1.1 hH.1 (a - 8) t e (xty_at x ht) rfl hd k2
  · cases h1
end GR2
