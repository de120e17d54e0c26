/-! THE CLAIM OUT OF ONE WALK OF THE LAW'S BODY. Your part is whole_start (and what it stands on); all else here is the same for every law, but numbers. -/
def R_law : String := "OnlyUpwardLaw"
def lw_P (b : Addr) (xs : List Int32) (args : Array Value) (s : State) : Prop := args = #[.ref b] ∧ s.IntsAt b xs ∧ xs.length ≤ 3584 ∧ (Jvm.Cond.and given_1 narrow_1).before args s = true
def lw_Q (_ : Array Value) (s : State) (o : Outcome) (t : State) : Prop := o = .returned (some (.int 1)) ∧ Framed s o t [] 600000 7302250
def lw_Z (below : List Frame) (a : Array Value) (s : State) : State → Prop := fun t => ∃ o, t.status = .running ∧ Ended t below o ∧ lw_Q a s o t
/-- the law's own end, with 1 on the stack, nothing written that was there before, its room as the claim has it -/
theorem lw_ret {p : Program} {l : Launch} {e : Env} {s : State} {m : MethodId} {below : List Frame} {meth : Method} {c : Code} {b : Nat} (hx : p.tables.exec = Jvm.exec) (hb : c.code = code) (hr : meth.sig.returnType = ret) (hlocks : meth.locks = false) {pc : Nat} {H : Heap} {ls : Array Slot} (hdg : decode code pc = .ok (.ireturn, 1)) : W p l e room_1 s m #[Value.ref b] below meth c H [] 600000 7302250 (lw_Z below #[Value.ref b] s) (F0 m pc ls [.int 1]) := by
  intro T hT X
  obtain ⟨fs, hret, hrun, hended, hW, hframe⟩ := X.leave (v := some (.int 1)) (hlocks := hlocks) (fun h => by rw [hr] at h; cases h)
  have hmeth' : T.vm.method? m = some meth := X.method'
  refine ⟨T.setFrames fs, ?_, .returned (some (.int 1)), hrun, hended, rfl, ⟨_, rfl⟩, hW, hframe⟩
  jvm_step X.here [X.here.top, hx, hb, hdg, hmeth', hr, ret, narrow_b1]
  (try refine ⟨rfl, ?_⟩); (try refine ⟨rfl, ?_⟩)
  first | (intro acts; rw [hret _ acts rfl rfl rfl]) | rw [hret _ _ rfl rfl rfl]
  exact Steps.refl _
/-- what holds at the law's entry: the machine, the code, the tables' words (any of lw_tbl by 'hts w (by decide +kernel)'), the script of L ints xs at the cell b, what the Statement gives of the start (any of its parts by flat_of_before) -/
def lw_At (p : Program) (s : State) (m : MethodId) (meth : Method) (c : Code) (b L : Nat) (xs : Nat → Int32) : Prop :=
  p.tables.exec = Jvm.exec ∧ c.code = code ∧ meth.sig.returnType = ret ∧ c.maxLocals = 4 ∧ s.vm.findClass R_law = some m.cls ∧ (∀ w ∈ lw_tbl, w.before #[Value.ref b] s = true) ∧ va_X b L xs s s.heap ∧ b < s.heap.size ∧ meth.locks = false ∧ (Jvm.Cond.and given_1 narrow_1).before #[Value.ref b] s = true
/-! ===== from the machine's start to the abstract memory ===== -/
def flN : List Cond := flatC (Jvm.Cond.and given_1 narrow_1)
theorem elS (nm : String) (N : Nat) (l : List Int32) (h : (List.range N).all (fun j => decide (Cond.eq (.elem (.static "OnlyUpward" nm "[I") (.int (Int32.ofNat j))) (.int (l.getD j 0)) ∈ flN)) = true) : ∀ j, j < N → Cond.eq (.elem (.static "OnlyUpward" nm "[I") (.int (Int32.ofNat j))) (.int (l.getD j 0)) ∈ flN := by
  intro j hj
  have h1 := List.all_eq_true.mp h j (List.mem_range.mpr hj)
  exact of_decide_eq_true h1
theorem elB : ∀ j, j < 96 → Cond.eq (.elem (.field (.string "OnlyUpward$Tokens" 29) "java/lang/String" "value" "[B") (.int (Int32.ofNat j))) (.int (arrW.getD j 0)) ∈ flN := by
  intro j hj
  have h : (List.range 96).all (fun j => decide (Cond.eq (.elem (.field (.string "OnlyUpward$Tokens" 29) "java/lang/String" "value" "[B") (.int (Int32.ofNat j))) (.int (arrW.getD j 0)) ∈ flN)) = true := by decide +kernel
  have h1 := List.all_eq_true.mp h j (List.mem_range.mpr hj)
  exact of_decide_eq_true h1
theorem elMOST : ∀ j, j < 11 → Cond.eq (.elem (.static "OnlyUpward" "MOST" "[I") (.int (Int32.ofNat j))) (.int (arrMOST.getD j 0)) ∈ flN := elS "MOST" 11 arrMOST (by decide +kernel)
theorem elNAMES_OF : ∀ j, j < 11 → Cond.eq (.elem (.static "OnlyUpward" "NAMES_OF" "[I") (.int (Int32.ofNat j))) (.int (arrNAMES_OF.getD j 0)) ∈ flN := elS "NAMES_OF" 11 arrNAMES_OF (by decide +kernel)
theorem elINTS_OF : ∀ j, j < 11 → Cond.eq (.elem (.static "OnlyUpward" "INTS_OF" "[I") (.int (Int32.ofNat j))) (.int (arrINTS_OF.getD j 0)) ∈ flN := elS "INTS_OF" 11 arrINTS_OF (by decide +kernel)
theorem elCOUNTED : ∀ j, j < 10 → Cond.eq (.elem (.static "OnlyUpward" "COUNTED" "[I") (.int (Int32.ofNat j))) (.int (arrCOUNTED.getD j 0)) ∈ flN := elS "COUNTED" 10 arrCOUNTED (by decide +kernel)
theorem knAll {s : State} {args : Array Value} (hts : ∀ w ∈ gw, w.before args s = true) : ∀ ci : Nat, ∃ q : ClassId × (Nat → Nat), ∀ r : vw_C, CL[ci]? = some r → u_Kn s r.1 r.2.1 r.2.2 q.1 q.2 := by
  intro ci
  have key : ∀ (C : String) (T : u_T) (N : Nat), COK ci C T N → Cond.instantiable C N ∈ gw → ∃ q : ClassId × (Nat → Nat), ∀ r : vw_C, CL[ci]? = some r → u_Kn s r.1 r.2.1 r.2.2 q.1 q.2 := by
    intro C T N hC hi
    obtain ⟨cC, iS, hk⟩ := u_known (C := C) (T := T) (N := N) hts hC.2.1 (hts _ hi)
    exact ⟨(cC, iS), fun r hr => by
      have e := hC.1.symm.trans hr
      cases e
      exact hk⟩
  match ci with
  | 0 => exact key _ _ _ cok0 kiX0
  | 1 => exact key _ _ _ cok1 kiX1
  | 2 => exact key _ _ _ cok2 kiX2
  | 3 => exact key _ _ _ cok3 kiX3
  | 4 => exact key _ _ _ cok4 kiX4
  | 5 => exact key _ _ _ cok5 kiX5
  | 6 => exact key _ _ _ cok6 kiX6
  | 7 => exact key _ _ _ cok7 kiX7
  | 8 => exact key _ _ _ cok8 kiX8
  | 9 => exact key _ _ _ cok9 kiX9
  | 10 => exact key _ _ _ cok10 kiX10
  | 11 => exact key _ _ _ cok11 kiX11
  | 12 => exact key _ _ _ cok12 kiX12
  | n + 13 => exact ⟨(0, fun _ => 0), fun r hr => by
      have h := (List.getElem?_eq_some_iff.mp hr).1
      have h2 : CL.length = 13 := rfl
      omega⟩
theorem arAll {s : State} {args : Array Value} (hts : ∀ w ∈ gw, w.before args s = true) : ∀ t : Nat, ∃ cA : ClassId, t < 4 → ArrOfT s cA (tyN t) ∧ va_RA s cA (tyN t) := by
  intro t
  have key : Cond.arrayClass (tyN t) ∈ gw → t < 4 → ∃ cA : ClassId, t < 4 → ArrOfT s cA (tyN t) ∧ va_RA s cA (tyN t) := by
    intro hw ht
    obtain ⟨c, k, comp, h1, h2, h3⟩ := Cond.arrayClass_spec (hts _ hw)
    refine ⟨c, fun _ => ⟨fun n z => ⟨fun k h => (by cases h), k, h2, comp, h3⟩, ?_⟩⟩
    match t, ht, h1 with
    | 0, _, h1 => exact h1
    | 1, _, h1 => exact h1
    | 2, _, h1 => exact h1
    | 3, _, h1 => exact h1
  match t with
  | 0 => exact key arc_0 (by decide)
  | 1 => exact key arc_1 (by decide)
  | 2 => exact key arc_2 (by decide)
  | 3 => exact key arc_3 (by decide)
  | n + 4 => exact ⟨0, fun h => absurd h (by omega)⟩
theorem start_mem {p : Program} {s : State} {m : MethodId} {meth : Method} {c : Code} {b L : Nat} {xs : Nat → Int32} (hL : L ≤ 3584) (C0 : lw_At p s m meth c b L xs) : ∃ x : XC, x.1 = s.heap.size ∧ x.2.1 0 = b ∧ Sx x s ∧ Xx x (M0 L xs) s s.heap ∧ Hx x (M0 L xs) s.heap := by
  obtain ⟨hx, hb, hr, hml, hown, htl, hX, hbl, hlocks, hgv⟩ := C0
  have hts : ∀ w ∈ gw, w.before #[Value.ref b] s = true := fun w hw => htl w (List.mem_filter.mp hw).1
  have hs : ∀ c ∈ flN, c.before #[Value.ref b] s = true := flat_of_before _ hgv
  have hA : ∀ a : Nat, a < s.heap.size → ¬ (fun q : Nat => s.heap.size ≤ q) a := fun a h => Nat.not_le.mpr h
  obtain ⟨kn, hkn⟩ := Classical.axiomOfChoice (knAll (s := s) hts)
  obtain ⟨dA, hdA⟩ := Classical.axiomOfChoice (arAll (s := s) hts)
  obtain ⟨t1, e1, T1⟩ := va_Tof (s := s) (args := #[Value.ref b]) (tm := .static "OnlyUpward" "MOST" "[I") (ty := .int) (N := 11) (f := fun j => .int (arrMOST.getD j 0)) (A := fun q : Nat => s.heap.size ≤ q) (by decide) (hs _ (by decide +kernel)) (va_eqt (hs (.eq (.length (.static "OnlyUpward" "MOST" "[I")) (.int 11)) (by decide +kernel))) (fun j hj => va_eqt (hs _ (elMOST j hj))) hA
  have Z1 := va_Zof (s := s) (args := #[Value.ref b]) (C := "OnlyUpward") (n := "MOST") (d := "[I") (htl _ (ti_3 _ (List.mem_of_getElem? (i := 58) rfl))) (htl _ (ti_1 _ (List.mem_of_getElem? (i := 1) rfl))) e1 hA
  obtain ⟨t2, e2, T2⟩ := va_Tof (s := s) (args := #[Value.ref b]) (tm := .static "OnlyUpward" "NAMES_OF" "[I") (ty := .int) (N := 11) (f := fun j => .int (arrNAMES_OF.getD j 0)) (A := fun q : Nat => s.heap.size ≤ q) (by decide) (hs _ (by decide +kernel)) (va_eqt (hs (.eq (.length (.static "OnlyUpward" "NAMES_OF" "[I")) (.int 11)) (by decide +kernel))) (fun j hj => va_eqt (hs _ (elNAMES_OF j hj))) hA
  have Z2 := va_Zof (s := s) (args := #[Value.ref b]) (C := "OnlyUpward") (n := "NAMES_OF") (d := "[I") (htl _ (ti_3 _ (List.mem_of_getElem? (i := 64) rfl))) (htl _ (ti_1 _ (List.mem_of_getElem? (i := 1) rfl))) e2 hA
  obtain ⟨t3, e3, T3⟩ := va_Tof (s := s) (args := #[Value.ref b]) (tm := .static "OnlyUpward" "INTS_OF" "[I") (ty := .int) (N := 11) (f := fun j => .int (arrINTS_OF.getD j 0)) (A := fun q : Nat => s.heap.size ≤ q) (by decide) (hs _ (by decide +kernel)) (va_eqt (hs (.eq (.length (.static "OnlyUpward" "INTS_OF" "[I")) (.int 11)) (by decide +kernel))) (fun j hj => va_eqt (hs _ (elINTS_OF j hj))) hA
  have Z3 := va_Zof (s := s) (args := #[Value.ref b]) (C := "OnlyUpward") (n := "INTS_OF") (d := "[I") (htl _ (ti_3 _ (List.mem_of_getElem? (i := 66) rfl))) (htl _ (ti_1 _ (List.mem_of_getElem? (i := 1) rfl))) e3 hA
  obtain ⟨t4, e4, T4⟩ := va_Tof (s := s) (args := #[Value.ref b]) (tm := .static "OnlyUpward" "COUNTED" "[I") (ty := .int) (N := 10) (f := fun j => .int (arrCOUNTED.getD j 0)) (A := fun q : Nat => s.heap.size ≤ q) (by decide) (hs _ (by decide +kernel)) (va_eqt (hs (.eq (.length (.static "OnlyUpward" "COUNTED" "[I")) (.int 10)) (by decide +kernel))) (fun j hj => va_eqt (hs _ (elCOUNTED j hj))) hA
  have Z4 := va_Zof (s := s) (args := #[Value.ref b]) (C := "OnlyUpward") (n := "COUNTED") (d := "[I") (htl _ (ti_6 _ (List.mem_of_getElem? (i := 32) rfl))) (htl _ (ti_1 _ (List.mem_of_getElem? (i := 1) rfl))) e4 hA
  have Zc := va_Zof (s := s) (args := #[Value.ref b]) (C := "java/lang/String") (n := "COMPACT_STRINGS") (d := "Z") (v := .int 1) (htl _ (ti_1 _ (List.mem_of_getElem? (i := 46) rfl))) (htl _ (ti_1 _ (List.mem_of_getElem? (i := 3) rfl))) (va_eqi (hs _ (by decide +kernel))) hA
  have Zf0 := va_Zqof (s := s) (args := #[Value.ref b]) (C := "jdk/internal/util/Preconditions") (n := "SIOOBE_FORMATTER") (d := "Ljava/util/function/BiFunction;") (htl _ (ti_1 _ (List.mem_of_getElem? (i := 62) rfl))) (htl _ (ti_1 _ (List.mem_of_getElem? (i := 5) rfl))) (hs _ (by decide +kernel)) hA
  obtain ⟨fm, hfm, Zf⟩ : ∃ v : Value, (v = .null ∨ ∃ a, v = .ref a) ∧ va_Z "jdk/internal/util/Preconditions" "SIOOBE_FORMATTER" "Ljava/util/function/BiFunction;" v (fun q : Nat => s.heap.size ≤ q) s s.heap := by
    rcases Zf0 with h | ⟨t, h⟩
    · exact ⟨_, Or.inl rfl, h⟩
    · exact ⟨_, Or.inr ⟨t, rfl⟩, h⟩
  obtain ⟨adK, adV, hSt, hev⟩ := vk_Sof (s := s) (args := #[Value.ref b]) (N := 1) (tm := fun _ => .string "OnlyUpward$Tokens" 29) (len := [96]) (byt := [arrW]) (A := fun q : Nat => s.heap.size ≤ q)
    (fun i hi => by rw [show i = 0 by omega]; decide) (fun i hi => hs _ (by decide +kernel)) (fun i hi => hs _ (by decide +kernel)) (fun i hi => hs _ (by decide +kernel)) (fun i hi => by rw [show i = 0 by omega]; exact hs _ (by decide +kernel)) (fun i hi j hj => by
      rw [show i = 0 by omega] at hj ⊢
      exact hs _ (elB j hj)) (fun i j hi hj hne => absurd (show i = j by omega) hne) hA
  obtain ⟨⟨S1, S2, S3, S4⟩⟩ := (⟨hSt.1 0 (by decide)⟩ : PLift _)
  refine ⟨(s.heap.size, (fun k => match k with
    | 0 => b
    | 1 => t1
    | 2 => t2
    | 3 => t3
    | 4 => t4
    | 5 => adK 0
    | 6 => adV 0
    | _ => 0), (fun k => (kn k).1, fun k => (kn k).2), dA, fm), rfl, rfl, ⟨⟨fun ci q hq => hkn ci q hq, ?_⟩, ?_, ⟨Z1, Z2, Z3, Z4, S1, S2, S3, Zc, Zf⟩, ?_, Nat.le_refl _, hfm⟩, ?_, ?_⟩
  · intro k q hq
    match k, hq with
    | 0, hq => cases hq; exact hdA 0 (by decide)
    | 1, hq => cases hq; exact hdA 1 (by decide)
    | 2, hq => cases hq; exact hdA 2 (by decide)
    | 3, hq => cases hq; exact hdA 3 (by decide)
    | n + 4, hq => simp [xty] at hq
  · intro w hw
    have h1 := List.mem_filter.mp hw
    refine va_Nw.of ?_ (htl w h1.1)
    have hn := h1.2
    cases w <;> first | rfl | (simp [isNest] at hn)
  · exact vk_R.of (htl (.stringRef "OnlyUpward$Tokens" 29 txW) (ti_1 _ (List.mem_of_getElem? (i := 36) rfl))) (hev 0 (by decide))
  · intro k hk t n hn
    match k, hk, hn with
    | 0, _, hn =>
      cases hn
      obtain ⟨scr, h1, h2, h3, h4, h5⟩ := hX
      exact ⟨scr, h1, h2, h3, Nat.le_of_eq h4.symm, by rw [h4] <;> rfl, h5, hA _ hbl⟩
    | 1, _, hn => cases hn; exact T1
    | 2, _, hn => cases hn; exact T2
    | 3, _, hn => cases hn; exact T3
    | 4, _, hn => cases hn; exact T4
    | 5, _, hn => cases hn
    | 6, _, hn => cases hn; exact S4
    | 7, _, hn => cases hn
    | n + 8, hk, _ => omega
  · refine ⟨fun k q h => ?_, rfl, Nat.le_refl 8⟩
    simp [wld, M0] at h
theorem whole_of {p : Program} {e : Env} {s : State} {m : MethodId} {below : List Frame} {meth : Method} {c : Code} (l : Launch) {b L : Nat} {xs : Nat → Int32} (hL : L ≤ 3584) (C0 : lw_At p s m meth c b L xs) (hp : ∃ (n : Nat) (o : Int32 × AM), F_L_law n (M0 L xs) 0 = some o ∧ o.1 = 1 ∧ o.2.1.length ≤ 100000 ∧ nSl o.2 ≤ 7000000) : W p l e room_1 s m #[Value.ref b] below meth c s.heap [] 0 0 (lw_Z below #[Value.ref b] s) (entryFrame m ([Value.ref b] : List Value).toArray 4) := by
  obtain ⟨x, hx1, hx2, hSx, hXx, hHx⟩ := start_mem hL C0
  obtain ⟨hx, hb, hr, hml, hown, htl, hX, hbl, hlocks, hgv⟩ := C0
  have hts : ∀ w ∈ gw, w.before #[Value.ref b] s = true := fun w hw => htl w (List.mem_filter.mp hw).1
  obtain ⟨n, o, hF, ho1, hlen, hsl⟩ := hp
  have hG := G_L_law hF
  have hd : dC (M0 L xs) o.2 ≤ 600000 ∧ dS (M0 L xs) o.2 ≤ 7302250 := by
    simp only [dC, dS]
    omega
  have hl := lv_entry ([Value.ref b]) (n := 4) (Nat.le_of_ble_eq_true rfl)
  rw [lg_entry_eq]
  have hlv : lv_args 0 [Value.ref b] = lvd x [(0, .ref 0)] := by
    rw [← hx2]
    rfl
  rw [hlv] at hl
  refine hG.2 p l e room_1 s m #[Value.ref b] below meth c x s.heap [] 0 0 _ _ ⟨hx, hb, hml, hown, hts, hSx, ⟨by decide, by decide⟩, fun h => absurd h (by decide)⟩ va_S.rf hXx hHx hl (by rw [Nat.zero_add]; exact hd.1) (by rw [Nat.zero_add]; exact hd.2) ?_
  intro pc' ls' H' locs' hret hS' hH'
  rw [Nat.zero_add, Nat.zero_add]
  refine va_forget (fun q hq => by have := hS'.2.2 q hq; rw [← hx1]; exact this) ?_
  refine W.widen (k := 600000) (n := 7302250) hd.1 hd.2 ?_
  rw [ho1] at hret ⊢
  exact lw_ret hx hb hr hlocks hret.1
