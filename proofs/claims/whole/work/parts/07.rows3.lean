/-! ===== rows in the form that a program prints ===== -/
def Kq {σ ρ : Type} (P : σ → Prop) (X : ρ → Prop) : σ ⊕ ρ → Prop
  | .inl s => P s
  | .inr e => X e
theorem loopE {σ ρ β : Type} {f : σ → Option (σ ⊕ ρ)} {n : Nat} {s0 : σ} {g : ρ → Option β} {o : β} (P : σ → Prop) (X : ρ → Prop) (h : (iter f n s0).bind g = some o) (rest : ∀ e, g e = some o → X e) (body : ∀ s x, f s = some x → Kq P X x → P s) : P s0 :=
  iter_elim P h (fun s x hf hk => body s x hf (by
    cases x with
    | inl s' => exact hk
    | inr e => exact rest e hk))
theorem leafL' {σ ρ : Type} {P : σ → Prop} {X : ρ → Prop} {s : σ} {x : σ ⊕ ρ} (h : some (Sum.inl s) = some x) (K : Kq P X x) : P s := by cases h; exact K
theorem leafR' {σ ρ : Type} {P : σ → Prop} {X : ρ → Prop} {e : ρ} {x : σ ⊕ ρ} (h : some (Sum.inr e) = some x) (K : Kq P X x) : X e := by cases h; exact K
theorem sum_inl {α β γ : Type} {f : α → γ} {g : β → γ} {a : α} {o : γ} (h : Sum.elim f g (Sum.inl a) = o) : f a = o := h
theorem sum_inr {α β γ : Type} {f : α → γ} {g : β → γ} {a : β} {o : γ} (h : Sum.elim f g (Sum.inr a) = o) : g a = o := h
section GR5
variable {y : MethodName} {b : ByteArray} {nL : Nat} {rt : Option FieldType} {d pc : Nat} {lv : List (Nat × Value)} {M M' : AM} {r : Option Value} {α β : Type} {o : β}
theorem G.iret {ty : FieldType} {v w : Int32} (hd : decode b pc = .ok (.ireturn, 1)) (hrt : rt = some ty) (hn : narrow ty (.int v) = .int v) (h : some v = some w) : G y b nL rt d pc lv [.int v] M (some (.int w)) M := by
  cases h
  exact G.ret (pc' := pc) ⟨hd, ty, hrt, hn⟩ rfl rfl
theorem G.iretW {ty : FieldType} {v : Int32} {w : Int32 × AM} (hd : decode b pc = .ok (.ireturn, 1)) (hrt : rt = some ty) (hn : narrow ty (.int v) = .int v) (h : some (v, M) = some w) : G y b nL rt d pc lv [.int v] M (some (.int w.1)) w.2 := by
  cases h
  exact G.ret (pc' := pc) ⟨hd, ty, hrt, hn⟩ rfl rfl
theorem G.lret {v w : Int64} (hd : decode b pc = .ok (.lreturn, 1)) (hrt : rt = some .long) (h : some v = some w) : G y b nL rt d pc lv [.long v] M (some (.long w)) M := by
  cases h
  exact G.ret (pc' := pc) ⟨hd, hrt⟩ rfl rfl
theorem G.aret {v w : Nat} {n : String} (hd : decode b pc = .ok (.areturn, 1)) (hrt : rt = some (.object n)) (h : some v = some w) : G y b nL rt d pc lv [.ref v] M (some (.ref w)) M := by
  cases h
  exact G.ret (pc' := pc) ⟨hd, n, hrt⟩ rfl rfl
theorem G.aretW {v : Nat} {w : Nat × AM} {n : String} (hd : decode b pc = .ok (.areturn, 1)) (hrt : rt = some (.object n)) (h : some (v, M) = some w) : G y b nL rt d pc lv [.ref v] M (some (.ref w.1)) w.2 := by
  cases h
  exact G.ret (pc' := pc) ⟨hd, n, hrt⟩ rfl rfl
theorem G.vret {u : Unit} {w : Unit} (hd : decode b pc = .ok (.return_, 1)) (hrt : rt = none) (h : some u = some w) : G y b nL rt d pc lv [] M none M := G.ret (pc' := pc) ⟨hd, hrt⟩ rfl rfl
theorem G.vretW {w : AM} (hd : decode b pc = .ok (.return_, 1)) (hrt : rt = none) (h : some M = some w) : G y b nL rt d pc lv [] M none w := by
  cases h
  exact G.ret (pc' := pc) ⟨hd, hrt⟩ rfl rfl
theorem G.sw {A B : Option β} {v c : Int32} {st : List Value} (h : (if v = c then A else B) = some o) (kt : v = c → A = some o → G y b nL rt d pc lv st M r M') (kf : ¬ v = c → B = some o → G y b nL rt d pc lv st M r M') : G y b nL rt d pc lv st M r M' := by
  by_cases q : v = c
  · exact kt q (by rw [if_pos q] at h; exact h)
  · exact kf q (by rw [if_neg q] at h; exact h)
theorem sw_out {v : Int32} {lo hi : Int} (h : ∀ z : Int, lo ≤ z → z ≤ hi → v = Int32.ofInt z → False) : v.toInt < lo ∨ hi < v.toInt := by
  rcases Int.lt_or_le v.toInt lo with a | a
  · exact Or.inl a
  rcases Int.lt_or_le hi v.toInt with c | c
  · exact Or.inr c
  exact absurd (Int32.ofInt_toInt v).symm (fun e => h v.toInt a c e)
variable {u : Option α} {f : α → Option β} {m1 : α → AM} {y2 : MethodName} {b2 : ByteArray} {nL2 n d2 idx ci t : Nat} {rt2 : Option FieldType} {stk : List Value}
theorem G.callVi {rv : α → Int32} (as st : List Value) (hd : decode b pc = .ok (.invokevirtual idx, 3)) (hl : LinkOK y.cls idx y2) (hi : InstOK y2 b2 nL2 rt2 n) (hci : (CL[ci]?).map (fun q => q.1) = some y2.cls) (hC : ∀ v, u = some v → Cn y2 b2 nL2 rt2 d2 (.ref t :: as) M (some (.int (rv v))) (m1 v)) (hdd : d2 + 1 ≤ d) (hn : as.length = n) (hst : stk = as.reverse ++ .ref t :: st) (hcat : (st.map fun v => v.category).sum ≤ 8)
    (h : (rcv ci M t u).bind f = some o) (k : ∀ v, f v = some o → G y b nL rt d (pc + 3) lv (.int (rv v) :: st) (m1 v) r M') : G y b nL rt d pc lv stk M r M' := G.callV as st hd hl hi hci hC hdd hn hst hcat h k
theorem G.callVl {rv : α → Int64} (as st : List Value) (hd : decode b pc = .ok (.invokevirtual idx, 3)) (hl : LinkOK y.cls idx y2) (hi : InstOK y2 b2 nL2 rt2 n) (hci : (CL[ci]?).map (fun q => q.1) = some y2.cls) (hC : ∀ v, u = some v → Cn y2 b2 nL2 rt2 d2 (.ref t :: as) M (some (.long (rv v))) (m1 v)) (hdd : d2 + 1 ≤ d) (hn : as.length = n) (hst : stk = as.reverse ++ .ref t :: st) (hcat : (st.map fun v => v.category).sum ≤ 8)
    (h : (rcv ci M t u).bind f = some o) (k : ∀ v, f v = some o → G y b nL rt d (pc + 3) lv (.long (rv v) :: st) (m1 v) r M') : G y b nL rt d pc lv stk M r M' := G.callV as st hd hl hi hci hC hdd hn hst hcat h k
theorem G.callVr {rv : α → Nat} (as st : List Value) (hd : decode b pc = .ok (.invokevirtual idx, 3)) (hl : LinkOK y.cls idx y2) (hi : InstOK y2 b2 nL2 rt2 n) (hci : (CL[ci]?).map (fun q => q.1) = some y2.cls) (hC : ∀ v, u = some v → Cn y2 b2 nL2 rt2 d2 (.ref t :: as) M (some (.ref (rv v))) (m1 v)) (hdd : d2 + 1 ≤ d) (hn : as.length = n) (hst : stk = as.reverse ++ .ref t :: st) (hcat : (st.map fun v => v.category).sum ≤ 8)
    (h : (rcv ci M t u).bind f = some o) (k : ∀ v, f v = some o → G y b nL rt d (pc + 3) lv (.ref (rv v) :: st) (m1 v) r M') : G y b nL rt d pc lv stk M r M' := G.callV as st hd hl hi hci hC hdd hn hst hcat h k
theorem G.callVv (as st : List Value) (hd : decode b pc = .ok (.invokevirtual idx, 3)) (hl : LinkOK y.cls idx y2) (hi : InstOK y2 b2 nL2 rt2 n) (hci : (CL[ci]?).map (fun q => q.1) = some y2.cls) (hC : ∀ v, u = some v → Cn y2 b2 nL2 rt2 d2 (.ref t :: as) M none (m1 v)) (hdd : d2 + 1 ≤ d) (hn : as.length = n) (hst : stk = as.reverse ++ .ref t :: st) (hcat : (st.map fun v => v.category).sum ≤ 8)
    (h : (rcv ci M t u).bind f = some o) (k : ∀ v, f v = some o → G y b nL rt d (pc + 3) lv st (m1 v) r M') : G y b nL rt d pc lv stk M r M' := G.callV as st hd hl hi hci hC hdd hn hst hcat h k
theorem G.callTi {rv : α → Int32} (as st : List Value) (hd : decode b pc = .ok (.invokevirtual idx, 3)) (hl : Cond.methodLink y.cls idx y2 ∈ gw) (hi : InstOK y2 b2 nL2 rt2 n) (hci : y2.cls = "java/lang/String") (hC : ∀ v, u = some v → Cn y2 b2 nL2 rt2 d2 (.ref 5 :: as) M (some (.int (rv v))) (m1 v)) (hdd : d2 + 1 ≤ d) (hn : as.length = n) (hst : stk = as.reverse ++ .ref 5 :: st) (hcat : (st.map fun v => v.category).sum ≤ 8)
    (h : u.bind f = some o) (k : ∀ v, f v = some o → G y b nL rt d (pc + 3) lv (.int (rv v) :: st) (m1 v) r M') : G y b nL rt d pc lv stk M r M' := G.callT as st hd hl hi hci hC hdd hn hst hcat h k
theorem G.callSi {rv : α → Int32} (as st : List Value) (hd : decode b pc = .ok (.invokestatic idx, 3)) (hl : LinkOK y.cls idx y2) (hi : StatOK y2 b2 nL2 rt2 n) (hC : ∀ v, u = some v → Cn y2 b2 nL2 rt2 d2 as M (some (.int (rv v))) (m1 v)) (hdd : d2 + 1 ≤ d) (hn : as.length = n) (hst : stk = as.reverse ++ st) (hcat : (st.map fun v => v.category).sum ≤ 8)
    (h : u.bind f = some o) (k : ∀ v, f v = some o → G y b nL rt d (pc + 3) lv (.int (rv v) :: st) (m1 v) r M') : G y b nL rt d pc lv stk M r M' := G.callS as st hd hl hi hC hdd hn hst hcat h k
theorem G.callSl {rv : α → Int64} (as st : List Value) (hd : decode b pc = .ok (.invokestatic idx, 3)) (hl : LinkOK y.cls idx y2) (hi : StatOK y2 b2 nL2 rt2 n) (hC : ∀ v, u = some v → Cn y2 b2 nL2 rt2 d2 as M (some (.long (rv v))) (m1 v)) (hdd : d2 + 1 ≤ d) (hn : as.length = n) (hst : stk = as.reverse ++ st) (hcat : (st.map fun v => v.category).sum ≤ 8)
    (h : u.bind f = some o) (k : ∀ v, f v = some o → G y b nL rt d (pc + 3) lv (.long (rv v) :: st) (m1 v) r M') : G y b nL rt d pc lv stk M r M' := G.callS as st hd hl hi hC hdd hn hst hcat h k
theorem G.callSv (as st : List Value) (hd : decode b pc = .ok (.invokestatic idx, 3)) (hl : LinkOK y.cls idx y2) (hi : StatOK y2 b2 nL2 rt2 n) (hC : ∀ v, u = some v → Cn y2 b2 nL2 rt2 d2 as M none (m1 v)) (hdd : d2 + 1 ≤ d) (hn : as.length = n) (hst : stk = as.reverse ++ st) (hcat : (st.map fun v => v.category).sum ≤ 8)
    (h : u.bind f = some o) (k : ∀ v, f v = some o → G y b nL rt d (pc + 3) lv st (m1 v) r M') : G y b nL rt d pc lv stk M r M' := G.callS as st hd hl hi hC hdd hn hst hcat h k
end GR5
