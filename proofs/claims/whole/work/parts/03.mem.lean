/-! ===== an abstract memory: cells by number, each an object of a class of CL or an array; 0 .. 7 are cells of the world outside ===== -/
def gw : List Cond := lw_tbl.filter goodWord
def isNest : Cond → Bool
  | .fieldLinkNest _ _ _ _ _ _ => true
  | .methodLinkNest _ _ _ _ => true
  | _ => false
def nw : List Cond := lw_tbl.filter isNest
def CL : List vw_C := [(RX0, TX0, 3), (RX1, TX1, 6), (RX2, TX2, 10), (RX3, TX3, 1), (RX4, TX4, 9), (RX5, TX5, 4), (RX6, TX6, 4), (RX7, TX7, 1), (RX8, TX8, 7), (RX9, TX9, 5), (RX10, TX10, 17), (RX11, TX11, 15), (RX12, TX12, 94)]
def FT (ci j : Nat) : FieldType := match ci with
  | 0 => tyX0 j
  | 1 => tyX1 j
  | 2 => tyX2 j
  | 3 => tyX3 j
  | 4 => tyX4 j
  | 5 => tyX5 j
  | 6 => tyX6 j
  | 7 => tyX7 j
  | 8 => tyX8 j
  | 9 => tyX9 j
  | 10 => tyX10 j
  | 11 => tyX11 j
  | _ => tyX12 j
def isRef : FieldType → Bool
  | .object _ => true
  | .array _ => true
  | _ => false
def nF (ci : Nat) : Nat := (CL[ci]?.map (fun q => q.2.2)).getD 0
abbrev AK : Type := List (Nat ⊕ (Nat × Nat))
abbrev AM : Type := AK × (Nat → Nat → Int32) × (Nat → Nat → Int64) × (Nat → Nat → Option Nat)
abbrev mK (M : AM) : AK := M.1
abbrev mI (M : AM) : Nat → Nat → Int32 := M.2.1
abbrev mL (M : AM) : Nat → Nat → Int64 := M.2.2.1
abbrev mR (M : AM) : Nat → Nat → Option Nat := M.2.2.2
def upf {α : Type} (f : Nat → α) (k : Nat) (v : α) : Nat → α := fun j => if j = k then v else f j
theorem upf_same {α : Type} (f : Nat → α) (k : Nat) (v : α) : upf f k v k = v := by simp [upf]
theorem upf_ne {α : Type} (f : Nat → α) {k j : Nat} (v : α) (h : j ≠ k) : upf f k v j = f j := by simp [upf, h]
def setI (M : AM) (a j : Nat) (v : Int32) : AM := (M.1, upf M.2.1 a (upf (M.2.1 a) j v), M.2.2.1, M.2.2.2)
def setL (M : AM) (a j : Nat) (v : Int64) : AM := (M.1, M.2.1, upf M.2.2.1 a (upf (M.2.2.1 a) j v), M.2.2.2)
def setR (M : AM) (a j : Nat) (v : Option Nat) : AM := (M.1, M.2.1, M.2.2.1, upf M.2.2.2 a (upf (M.2.2.2 a) j v))
/-- a new cell: all its places are 0, null -/
def newC (M : AM) (q : Nat ⊕ (Nat × Nat)) : AM := (M.1 ++ [q], upf M.2.1 M.1.length (fun _ => 0), upf M.2.2.1 M.1.length (fun _ => 0), upf M.2.2.2 M.1.length (fun _ => none))
def slC : Nat ⊕ (Nat × Nat) → Nat
  | .inl ci => nF ci
  | .inr q => q.2
def nSl (M : AM) : Nat := (M.1.map slC).sum
/-! what a method reads and writes -/
def gI (ci j : Nat) (M : AM) (t : Nat) : Option Int32 := if M.1[t]? = some (.inl ci) ∧ 8 ≤ t then some (M.2.1 t j) else none
def gR (ci j : Nat) (M : AM) (t : Nat) : Option Nat := if M.1[t]? = some (.inl ci) ∧ 8 ≤ t then M.2.2.2 t j else none
def pI (ci j : Nat) (M : AM) (t : Nat) (v : Int32) : Option AM := if M.1[t]? = some (.inl ci) ∧ 8 ≤ t then some (setI M t j v) else none
def pZ (ci j : Nat) (M : AM) (t : Nat) (v : Int32) : Option AM := if M.1[t]? = some (.inl ci) ∧ 8 ≤ t ∧ (v = 0 ∨ v = 1) then some (setI M t j v) else none
def pR (ci j : Nat) (M : AM) (t : Nat) (a : Nat) : Option AM := if M.1[t]? = some (.inl ci) ∧ 8 ≤ t then some (setR M t j (some a)) else none
def rdK (M : AM) (a : Nat) (i : Int32) (ok : Nat → Bool) : Bool := match M.1[a]? with
  | some (.inr q) => ok q.1 && (decide (0 ≤ i) && decide (i.toNatClampNeg < q.2))
  | _ => false
def rdI (M : AM) (a : Nat) (i : Int32) : Option Int32 := if rdK M a i (fun t => t == 0) = true then some (M.2.1 a i.toNatClampNeg) else none
def rdB (M : AM) (a : Nat) (i : Int32) : Option Int32 := if rdK M a i (fun t => t == 1 || t == 3) = true then some (M.2.1 a i.toNatClampNeg) else none
def rdL (M : AM) (a : Nat) (i : Int32) : Option Int64 := if rdK M a i (fun t => t == 2) = true ∧ 8 ≤ a then some (M.2.2.1 a i.toNatClampNeg) else none
def wrI (M : AM) (a : Nat) (i v : Int32) : Option AM := if rdK M a i (fun t => t == 0) = true ∧ 8 ≤ a then some (setI M a i.toNatClampNeg v) else none
def wrB (M : AM) (a : Nat) (i v : Int32) : Option AM := if rdK M a i (fun t => t == 1) = true ∧ 8 ≤ a then some (setI M a i.toNatClampNeg v.toInt8.toInt32) else none
def wrZ (M : AM) (a : Nat) (i v : Int32) : Option AM := if rdK M a i (fun t => t == 3) = true ∧ 8 ≤ a then some (setI M a i.toNatClampNeg (v &&& 1)) else none
def wrL (M : AM) (a : Nat) (i : Int32) (v : Int64) : Option AM := if rdK M a i (fun t => t == 2) = true ∧ 8 ≤ a then some (setL M a i.toNatClampNeg v) else none
def aln (M : AM) (a : Nat) : Option Int32 := match M.1[a]? with
  | some (.inr q) => if q.1 < 4 then some (Int32.ofNat q.2) else none
  | _ => none
/-- a receiver of a class -/
def rcv {α : Type} (ci : Nat) (M : AM) (t : Nat) (u : Option α) : Option α := if M.1[t]? = some (.inl ci) ∧ 8 ≤ t then u else none
def nOb (ci : Nat) (M : AM) : Option AM := if 8 ≤ M.1.length then some (newC M (.inl ci)) else none
def nAr (t : Nat) (M : AM) (n : Int32) : Option AM := if 0 ≤ n ∧ n.toNatClampNeg ≤ 1000000 ∧ 8 ≤ M.1.length then some (newC M (.inr (t, n.toNatClampNeg))) else none
/-- System.arraycopy between int arrays -/
def cpI (M : AM) (a : Nat) (sp : Int32) (b : Nat) (dp n : Int32) : Option AM := match M.1[a]?, M.1[b]? with
  | some (.inr (0, n0)), some (.inr (0, n1)) => if 0 ≤ sp ∧ 0 ≤ dp ∧ 0 ≤ n ∧ sp.toNatClampNeg + n.toNatClampNeg ≤ n0 ∧ dp.toNatClampNeg + n.toNatClampNeg ≤ n1 ∧ 8 ≤ a ∧ 8 ≤ b then
      some (M.1, upf M.2.1 b (va_cpy (M.2.1 a) (M.2.1 b) sp.toNatClampNeg dp.toNatClampNeg n.toNatClampNeg), M.2.2.1, M.2.2.2) else none
  | _, _ => none
/-! ===== how a memory lies in the machine's heap ===== -/
/-- where: the first own cell's address; the outer cells' addresses; the classes; the array classes by type number; one more value that is a reference or null -/
abbrev XC : Type := Nat × (Nat → Nat) × va_G × (Nat → ClassId) × Value
def xad (x : XC) (k : Nat) : Nat := if k < 8 then x.2.1 k else x.1 + (k - 8)
def den (x : XC) : Value → Value
  | .ref k => .ref (xad x k)
  | .float _ => x.2.2.2.2
  | v => v
def xA (x : XC) : Nat → Prop := fun q => x.1 ≤ q
def tyN : Nat → FieldType
  | 0 => .int
  | 1 => .byte
  | 2 => .long
  | _ => .boolean
def xty (x : XC) : List (ClassId × FieldType) := [(x.2.2.2.1 0, .int), (x.2.2.2.1 1, .byte), (x.2.2.2.1 2, .long), (x.2.2.2.1 3, .boolean)]
def encF (x : XC) (M : AM) (ci k : Nat) : List Value := (List.range (nF ci)).map (fun j => if isRef (FT ci j) = true then va_rf ((M.2.2.2 k j).map (xad x)) else .int (M.2.1 k j))
def enc (x : XC) (M : AM) (k : Nat) : va_E := match M.1[k]? with
  | some (.inl ci) => .inr (ci, encF x M ci k)
  | some (.inr q) => .inl (x.2.2.2.1 q.1, (q.2, if q.1 = 2 then .inr (.inl (M.2.2.1 k)) else .inl (M.2.1 k)))
  | none => .inr (0, [])
def wld (x : XC) (M : AM) : va_W := (List.range (M.1.length - 8)).map (fun k => (x.1 + k, enc x M (k + 8)))
theorem wld_len (x : XC) (M : AM) : (wld x M).length = M.1.length - 8 := by simp [wld]
theorem wld_at (x : XC) (M : AM) {k : Nat} (h8 : 8 ≤ k) (hk : k < M.1.length) : (wld x M)[k - 8]? = some (xad x k, enc x M k) := by
  have h1 : k - 8 < M.1.length - 8 := by omega
  have h2 : ¬ k < 8 := by omega
  have h3 : k - 8 + 8 = k := by omega
  simp [wld, List.getElem?_map, List.getElem?_range h1, xad, h2, h3]
theorem lt_of_kind {M : AM} {k : Nat} {q : Nat ⊕ (Nat × Nat)} (h : M.1[k]? = some q) : k < M.1.length := (List.getElem?_eq_some_iff.mp h).1
theorem wld_obj (x : XC) {M : AM} {k ci : Nat} (h8 : 8 ≤ k) (hk : M.1[k]? = some (.inl ci)) : (wld x M)[k - 8]? = some (xad x k, .inr (ci, encF x M ci k)) := by
  rw [wld_at x M h8 (lt_of_kind hk)]
  simp [enc, hk]
theorem wld_arr (x : XC) {M : AM} {k t n : Nat} (h8 : 8 ≤ k) (hk : M.1[k]? = some (.inr (t, n))) (ht : t ≠ 2) : (wld x M)[k - 8]? = some (xad x k, .inl (x.2.2.2.1 t, (n, .inl (M.2.1 k)))) := by
  rw [wld_at x M h8 (lt_of_kind hk)]
  simp [enc, hk, ht]
theorem wld_arrL (x : XC) {M : AM} {k n : Nat} (h8 : 8 ≤ k) (hk : M.1[k]? = some (.inr (2, n))) : (wld x M)[k - 8]? = some (xad x k, .inl (x.2.2.2.1 2, (n, .inr (.inl (M.2.2.1 k))))) := by
  rw [wld_at x M h8 (lt_of_kind hk)]
  simp [enc, hk]
/-- a memory that differs at one cell -/
theorem wld_set (x : XC) {M M1 : AM} {k : Nat} (h8 : 8 ≤ k) (hk : k < M.1.length) (hl : M1.1.length = M.1.length) (ho : ∀ j, 8 ≤ j → j < M.1.length → j ≠ k → enc x M1 j = enc x M j) :
    (wld x M).set (k - 8) (xad x k, enc x M1 k) = wld x M1 := by
  apply List.ext_getElem?
  intro i
  by_cases hi : i = k - 8
  · subst hi
    rw [List.getElem?_set_self (by rw [wld_len]; omega), wld_at x M1 h8 (by omega)]
  · rw [List.getElem?_set_ne (Ne.symm hi)]
    by_cases hlt : i < M.1.length - 8
    · have e := wld_at x M (k := i + 8) (by omega) (by omega)
      have e1 := wld_at x M1 (k := i + 8) (by omega) (by omega)
      rw [show i + 8 - 8 = i by omega] at e e1
      rw [e, e1, ho (i + 8) (by omega) (by omega) (by omega)]
    · rw [List.getElem?_eq_none (by rw [wld_len]; omega), List.getElem?_eq_none (by rw [wld_len]; omega)]
theorem encF_congr {x : XC} {M M1 : AM} {ci k : Nat} (h1 : M1.2.1 k = M.2.1 k) (h2 : M1.2.2.2 k = M.2.2.2 k) : encF x M1 ci k = encF x M ci k := by
  simp [encF, h1, h2]
theorem enc_congr {x : XC} {M M1 : AM} {k : Nat} (h0 : M1.1[k]? = M.1[k]?) (h1 : M1.2.1 k = M.2.1 k) (hL : M1.2.2.1 k = M.2.2.1 k) (h2 : M1.2.2.2 k = M.2.2.2 k) : enc x M1 k = enc x M k := by
  simp only [enc, h0, h1, hL, encF_congr h1 h2]
theorem nF_len (x : XC) (M : AM) (ci k : Nat) : (encF x M ci k).length = nF ci := by simp [encF]
theorem encF_at (x : XC) (M : AM) {ci k j : Nat} (hj : j < nF ci) : (encF x M ci k)[j]? = some (if isRef (FT ci j) = true then va_rf ((M.2.2.2 k j).map (xad x)) else .int (M.2.1 k j)) := by
  simp [encF, List.getElem?_map, List.getElem?_range hj]
theorem encF_setI (x : XC) (M : AM) {ci k j : Nat} (v : Int32) (hj : j < nF ci) (hr : isRef (FT ci j) = false) : (encF x M ci k).set j (.int v) = encF x (setI M k j v) ci k := by
  apply List.ext_getElem?
  intro i
  by_cases hi : i = j
  · subst hi
    rw [List.getElem?_set_self (by rw [nF_len]; exact hj), encF_at x _ hj]
    simp [hr, setI, upf]
  · rw [List.getElem?_set_ne (Ne.symm hi)]
    by_cases hlt : i < nF ci
    · rw [encF_at x _ hlt, encF_at x _ hlt]
      simp [setI, upf, hi]
    · rw [List.getElem?_eq_none (by rw [nF_len]; omega), List.getElem?_eq_none (by rw [nF_len]; omega)]
theorem encF_setR (x : XC) (M : AM) {ci k j : Nat} (v : Option Nat) (hj : j < nF ci) (hr : isRef (FT ci j) = true) : (encF x M ci k).set j (va_rf (v.map (xad x))) = encF x (setR M k j v) ci k := by
  apply List.ext_getElem?
  intro i
  by_cases hi : i = j
  · subst hi
    rw [List.getElem?_set_self (by rw [nF_len]; exact hj), encF_at x _ hj]
    simp [hr, setR, upf]
  · rw [List.getElem?_set_ne (Ne.symm hi)]
    by_cases hlt : i < nF ci
    · rw [encF_at x _ hlt, encF_at x _ hlt]
      simp [setR, upf, hi]
    · rw [List.getElem?_eq_none (by rw [nF_len]; omega), List.getElem?_eq_none (by rw [nF_len]; omega)]
theorem wld_push (x : XC) (M : AM) (q : Nat ⊕ (Nat × Nat)) (h8 : 8 ≤ M.1.length) : wld x (newC M q) = wld x M ++ [(xad x M.1.length, enc x (newC M q) M.1.length)] := by
  have hk : (newC M q).1.length = M.1.length + 1 := by simp [newC]
  apply List.ext_getElem?
  intro i
  by_cases hlt : i < M.1.length - 8
  · rw [List.getElem?_append_left (by rw [wld_len]; exact hlt)]
    have e := wld_at x M (k := i + 8) (by omega) (by omega)
    have e1 := wld_at x (newC M q) (k := i + 8) (by omega) (by omega)
    rw [show i + 8 - 8 = i by omega] at e e1
    rw [e, e1]
    have hne : i + 8 ≠ M.1.length := by omega
    rw [enc_congr (M := M) (M1 := newC M q) (by simp [newC, List.getElem?_append_left (show i + 8 < M.1.length by omega)]) (by simp [newC, upf, hne]) (by simp [newC, upf, hne]) (by simp [newC, upf, hne])]
  · by_cases he : i = M.1.length - 8
    · subst he
      rw [List.getElem?_append_right (by rw [wld_len]; exact Nat.le_refl _), wld_len, Nat.sub_self]
      rw [wld_at x (newC M q) h8 (by omega)]
      rfl
    · rw [List.getElem?_eq_none (by rw [wld_len]; omega), List.getElem?_eq_none (by simp [wld_len]; omega)]
theorem wld_D (x : XC) (M : AM) : va_D (xA x) (wld x M) := by
  have key : ∀ (k : Nat) (q : Nat × va_E), (wld x M)[k]? = some q → q.1 = x.1 + k := by
    intro k q h
    have hk : k < M.1.length - 8 := by have := (List.getElem?_eq_some_iff.mp h).1; rwa [wld_len] at this
    simp [wld, List.getElem?_map, List.getElem?_range hk] at h
    rw [← h]
  refine ⟨fun i j p q hi hj hpq => ?_, fun k q hk => ?_⟩
  · have := key i p hi
    have := key j q hj
    omega
  · rw [key k q hk]
    exact Nat.le_add_right _ _
def Hx (x : XC) (M : AM) (H : Heap) : Prop := va_P x.2.2.1 CL (wld x M) H ∧ H.size = x.1 + (M.1.length - 8) ∧ 8 ≤ M.1.length
/-- outer arrays -/
def Xx (x : XC) (M : AM) (s : State) (H : Heap) : Prop := ∀ k, k < 8 → ∀ t n, M.1[k]? = some (.inr (t, n)) → va_T (tyN t) (xad x k) n (fun j => .int (M.2.1 k j)) (xA x) s H
def txW : String := "place person thing thin at knows must act task say ask birth if or and not mine yours hour crowd"
/-- outer values -/
def Zx (x : XC) (s : State) (H : Heap) : Prop := va_Z RX11 "MOST" "[I" (.ref (xad x 1)) (xA x) s H ∧ va_Z RX11 "NAMES_OF" "[I" (.ref (xad x 2)) (xA x) s H ∧ va_Z RX11 "INTS_OF" "[I" (.ref (xad x 3)) (xA x) s H ∧ va_Z RX11 "COUNTED" "[I" (.ref (xad x 4)) (xA x) s H
  ∧ va_O "java/lang/String" (xad x 5) (xA x) s H ∧ va_OF "java/lang/String" "coder" "B" (.int 0) (xad x 5) (xA x) s H ∧ va_OF "java/lang/String" "value" "[B" (.ref (xad x 6)) (xad x 5) (xA x) s H
  ∧ va_Z "java/lang/String" "COMPACT_STRINGS" "Z" (.int 1) (xA x) s H ∧ va_Z "jdk/internal/util/Preconditions" "SIOOBE_FORMATTER" "Ljava/util/function/BiFunction;" x.2.2.2.2 (xA x) s H
def Sx (x : XC) (s : State) : Prop := va_K x.2.2.1 CL (xty x) s ∧ (∀ w ∈ nw, va_Nw w s) ∧ Zx x s s.heap ∧ vk_R RX9 29 txW (xad x 5) s ∧ x.1 ≤ s.heap.size ∧ (x.2.2.2.2 = .null ∨ ∃ a, x.2.2.2.2 = .ref a)
theorem keepA {x : XC} {s : State} {H : Heap} {locs : List Loc} (hS : va_S (xA x) s.heap H locs) : ∀ a : Nat, a < s.heap.size → ¬ xA x a → H[a]? = s.heap[a]? := hS.2.1
theorem Sx.at {x : XC} {s U : State} {H : Heap} {locs : List Loc} (h : Sx x s) (hS : va_S (xA x) s.heap H locs) (hU : U.heap = H) (hW : s.WarmedH U.vm) : Sx x U := by
  obtain ⟨h1, h2, ⟨z1, z2, z3, z4, z5, z6, z7, z8, z9⟩, h4, h5, h6⟩ := h
  have ha := hW.alike
  subst hU
  have hk := keepA hS
  refine ⟨h1.moved ha, fun w hw => ?_, ⟨(z1.moved ha).kept hk, (z2.moved ha).kept hk, (z3.moved ha).kept hk, (z4.moved ha).kept hk, (z5.moved ha).kept hk, (z6.moved ha).kept hk, (z7.moved ha).kept hk, (z8.moved ha).kept hk, (z9.moved ha).kept hk⟩, h4.warm hW, Nat.le_trans h5 hS.1, h6⟩
  have h3 := h2 w hw
  have hn := (List.mem_filter.mp hw).2
  cases w <;> first | (exact h3.warmF hW) | (exact h3.warmM hW) | (simp [isNest] at hn)
theorem Xx.at {x : XC} {M : AM} {s U : State} {H : Heap} {locs : List Loc} (h : Xx x M s s.heap) (hS : va_S (xA x) s.heap H locs) (hU : U.heap = H) (hW : s.WarmedH U.vm) : Xx x M U U.heap := by
  subst hU
  exact fun k hk t n hn => ((h k hk t n hn).moved hW.alike).kept (keepA hS)
def Mono (M M' : AM) : Prop := M.1.length ≤ M'.1.length ∧ nSl M ≤ nSl M' ∧ ∀ k, k < 8 → M'.1[k]? = M.1[k]? ∧ M'.2.1 k = M.2.1 k
theorem Mono.rfl' (M : AM) : Mono M M := ⟨Nat.le_refl _, Nat.le_refl _, fun _ _ => ⟨rfl, rfl⟩⟩
theorem Mono.tr {M M1 M2 : AM} (h : Mono M M1) (h' : Mono M1 M2) : Mono M M2 := ⟨Nat.le_trans h.1 h'.1, Nat.le_trans h.2.1 h'.2.1, fun k hk => ⟨(h'.2.2 k hk).1.trans (h.2.2 k hk).1, (h'.2.2 k hk).2.trans (h.2.2 k hk).2⟩⟩
theorem Xx.mono {x : XC} {M M1 : AM} {s : State} {H : Heap} (h : Xx x M s H) (hm : Mono M M1) : Xx x M1 s H := by
  intro k hk t n hn
  rw [(hm.2.2 k hk).1] at hn
  rw [(hm.2.2 k hk).2]
  exact h k hk t n hn
theorem Mono.setI {M : AM} {a j : Nat} {v : Int32} (h8 : 8 ≤ a) : Mono M (setI M a j v) := ⟨Nat.le_refl _, Nat.le_refl _, fun k hk => ⟨rfl, upf_ne _ _ (by omega)⟩⟩
theorem Mono.setL {M : AM} {a j : Nat} {v : Int64} : Mono M (setL M a j v) := ⟨Nat.le_refl _, Nat.le_refl _, fun k hk => ⟨rfl, rfl⟩⟩
theorem Mono.setR {M : AM} {a j : Nat} {v : Option Nat} : Mono M (setR M a j v) := ⟨Nat.le_refl _, Nat.le_refl _, fun k hk => ⟨rfl, rfl⟩⟩
theorem Mono.new {M : AM} {q : Nat ⊕ (Nat × Nat)} (h8 : 8 ≤ M.1.length) : Mono M (newC M q) := ⟨by simp [newC], by simp [newC, nSl], fun k hk => ⟨by simp [newC, List.getElem?_append_left (show k < M.1.length by omega)], upf_ne _ _ (by omega)⟩⟩
