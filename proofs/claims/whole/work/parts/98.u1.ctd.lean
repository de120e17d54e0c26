/-! ===== the class is told: what holds between two tells ===== -/
def TC : List (Nat × Nat × Nat) := [(1, 2, 1), (2, 3, 1), (3, 4, 2), (12, 7, 6), (13, 8, 6), (14, 9, 6), (15, 10, 7), (16, 11, 7), (17, 12, 8)]
def rowR (r : Nat) : Nat := ([0, 1, 1, 2, 3, 3, 4, 4, 4, 4, 5, 5, 6, 6, 6, 7, 7, 8] : List Nat).getD r 0
theorem TC_ok : ∀ q ∈ TC, 1 ≤ q.1 ∧ q.1 ≤ 17 ∧ rowR q.1 = q.2.2 ∧ 2 ≤ q.2.1 ∧ q.2.1 ≤ 12 ∧ q.2.1 ≠ 5 ∧ q.2.1 ≠ 6 ∧ q.2.2 < 9 := by decide
theorem TW_row : ∀ r : Fin 18, 1 ≤ r.val → ∃ q ∈ TW, q.1 = r.val ∧ q.2.2.2 = rowR r.val := by decide
theorem semW_rk {K V : Nat → Nat} {T : NTb} {k m i : Nat} {W : VW} {r j : Nat} (h1 : 1 ≤ r) (h2 : r ≤ 17) (h : rowR r ≠ k) : semW K V T k m i W r j = W r j := by
  obtain ⟨q, hq, e1, e2⟩ := TW_row ⟨r, by omega⟩ h1
  have := semW_row (K := K) (V := V) (T := T) (k := k) (m := m) (i := i) (W := W) (j := j) q hq (by rw [e2]; exact h)
  rw [e1] at this
  exact this
def thN (W : VW) (n a b : Nat) : Bool := anyN (fun k => decide ((W 4 k = a ∧ W 5 k = b) ∨ (W 4 k = b ∧ W 5 k = a))) n
def fiN (W : VW) (n p t : Nat) : Bool := anyN (fun k => W 10 k == p && W 11 k == t) n
def stY (W : VW) (n p h : Nat) : Bool := anyN (fun k => decide (W 6 k = p ∧ W 8 k ≤ h ∧ h ≤ W 9 k)) n
/-- the world of the class so far -/
def CTd (w : Nat) (cnt : Nat → Nat) (W : VW) (S : ST) : Prop := (∀ k, k < 11 → S.1 (w + 1) k = nI (cnt k)) ∧ (∀ q ∈ TC, ∀ j, j < cnt q.2.2 → S.1 (w + q.2.1) j = nI (W q.1 j)) ∧ (∀ a, a < 6 → S.1 (w + 5) a = bs (thN W (cnt 3) a) 6) ∧ (∀ p, p < 10 → S.1 (w + 6) p = bs (fiN W (cnt 5) p) 6) ∧ ∀ p h, p < 10 → h < 24 → S.1 (w + 21) (p * 24 + h) = if stY W (cnt 4) p h = true then nI (wAt W p h (cnt 4)) else -nI 2
theorem wAt_congr {W W' : VW} {p h : Nat} : ∀ n, (∀ r k, 6 ≤ r → r ≤ 9 → k < n → W' r k = W r k) → wAt W' p h n = wAt W p h n := by
  intro n
  induction n with
  | zero => intro _; rfl
  | succ n ih =>
    intro e
    rw [wAt, wAt, e 6 n (by decide) (by decide) (Nat.lt_succ_self n), e 7 n (by decide) (by decide) (Nat.lt_succ_self n), e 8 n (by decide) (by decide) (Nat.lt_succ_self n), e 9 n (by decide) (by decide) (Nat.lt_succ_self n), ih (fun r k h1 h2 h3 => e r k h1 h2 (by omega))]
theorem thN_congr {W W' : VW} {n a b : Nat} (e : ∀ r k, 4 ≤ r → r ≤ 5 → k < n → W' r k = W r k) : thN W' n a b = thN W n a b := anyN_congr (fun k hk => by rw [e 4 k (by decide) (by decide) hk, e 5 k (by decide) (by decide) hk])
theorem fiN_congr {W W' : VW} {n a b : Nat} (e : ∀ r k, 10 ≤ r → r ≤ 11 → k < n → W' r k = W r k) : fiN W' n a b = fiN W n a b := anyN_congr (fun k hk => by rw [e 10 k (by decide) (by decide) hk, e 11 k (by decide) (by decide) hk])
theorem stY_congr {W W' : VW} {n a b : Nat} (e : ∀ r k, 6 ≤ r → r ≤ 9 → k < n → W' r k = W r k) : stY W' n a b = stY W n a b := anyN_congr (fun k hk => by rw [e 6 k (by decide) (by decide) hk, e 8 k (by decide) (by decide) hk, e 9 k (by decide) (by decide) hk])
theorem bit_bt {b i : Nat} (hb : b < 32) (hi : i < 32) : bt ((1 : Int32) <<< (nI b &&& 31)) i = decide (i = b) := by
  rw [b_shl b hb 1 hi, bt_one]
  by_cases e : i = b
  · subst e; simp
  · by_cases c : b ≤ i
    · have : ¬ i - b = 0 := by omega
      simp [e, this]
    · simp [e, c]
section CTD
variable {n L w : Nat} {c : Nat → Nat} {cnt : Nat → Nat} {W W' : VW} {S S' : ST}
theorem CTd.fr (h : CTd w cnt W S) (e : ∀ a j, w + 1 ≤ a → a ≤ w + 21 → S'.1 a j = S.1 a j) : CTd w cnt W S' := by
  obtain ⟨h1, h2, h3, h4, h5⟩ := h
  refine ⟨fun k hk => by rw [e _ _ (by omega) (by omega)]; exact h1 k hk, fun q hq j hj => ?_, fun a ha => by rw [e _ _ (by omega) (by omega)]; exact h3 a ha, fun p hp => by rw [e _ _ (by omega) (by omega)]; exact h4 p hp, fun p h hp hh => by rw [e _ _ (by omega) (by omega)]; exact h5 p h hp hh⟩
  have := TC_ok q hq
  rw [e _ _ (by omega) (by omega)]
  exact h2 q hq j hj
theorem CTd.up {k : Nat} (hC : CTd w cnt W S)
    (hW : ∀ r j, 1 ≤ r → r ≤ 17 → (rowR r ≠ k ∨ j ≠ cnt k) → W' r j = W r j)
    (h1 : S'.1 (w + 1) k = nI (cnt k + 1)) (h1' : ∀ j, j ≠ k → S'.1 (w + 1) j = S.1 (w + 1) j)
    (hr : ∀ q ∈ TC, q.2.2 = k → S'.1 (w + q.2.1) (cnt k) = nI (W' q.1 (cnt k)))
    (hr' : ∀ q ∈ TC, ∀ j, (q.2.2 ≠ k ∨ j ≠ cnt k) → S'.1 (w + q.2.1) j = S.1 (w + q.2.1) j)
    (h5 : k ≠ 3 → ∀ a, S'.1 (w + 5) a = S.1 (w + 5) a) (h5' : k = 3 → ∀ a, a < 6 → S'.1 (w + 5) a = bs (thN W' (cnt 3 + 1) a) 6)
    (h6 : k ≠ 5 → ∀ a, S'.1 (w + 6) a = S.1 (w + 6) a) (h6' : k = 5 → ∀ a, a < 10 → S'.1 (w + 6) a = bs (fiN W' (cnt 5 + 1) a) 6)
    (h2 : k ≠ 4 → ∀ a, S'.1 (w + 21) a = S.1 (w + 21) a) (h2' : k = 4 → ∀ p h, p < 10 → h < 24 → S'.1 (w + 21) (p * 24 + h) = if stY W' (cnt 4 + 1) p h = true then nI (wAt W' p h (cnt 4 + 1)) else -nI 2) :
    CTd w (upN cnt k (cnt k + 1)) W' S' := by
  obtain ⟨g1, g2, g3, g4, g5⟩ := hC
  refine ⟨fun j hj => ?_, fun q hq j hj => ?_, fun a ha => ?_, fun p hp => ?_, fun p h hp hh => ?_⟩
  · by_cases e : j = k
    · rw [e, upN_s]; exact h1
    · rw [upN_n e, h1' j e]; exact g1 j hj
  · have hq2 := TC_ok q hq
    by_cases e : q.2.2 = k
    · rw [e, upN_s] at hj
      by_cases e2 : j = cnt k
      · rw [e2]; exact hr q hq e
      · rw [hr' q hq j (Or.inr e2), hW _ _ (by omega) (by omega) (Or.inr e2)]
        exact g2 q hq j (by rw [e]; omega)
    · rw [upN_n e] at hj
      rw [hr' q hq j (Or.inl e), hW _ _ (by omega) (by omega) (Or.inl (by rw [hq2.2.2.1]; exact e))]
      exact g2 q hq j hj
  · by_cases e : k = 3
    · subst e; rw [upN_s]; exact h5' rfl a ha
    · rw [upN_n (fun z => e z.symm), h5 e, g3 a ha]
      exact bs_congr (fun i _ => (thN_congr (fun r j q1 q2 _ => hW r j (by omega) (by omega) (Or.inl (by
        have : r = 4 ∨ r = 5 := by omega
        rcases this with q | q
        · subst q; exact fun z => e z.symm
        · subst q; exact fun z => e z.symm)))).symm)
  · by_cases e : k = 5
    · subst e; rw [upN_s]; exact h6' rfl p hp
    · rw [upN_n (fun z => e z.symm), h6 e, g4 p hp]
      exact bs_congr (fun i _ => (fiN_congr (fun r j q1 q2 _ => hW r j (by omega) (by omega) (Or.inl (by
        have : r = 10 ∨ r = 11 := by omega
        rcases this with q | q
        · subst q; exact fun z => e z.symm
        · subst q; exact fun z => e z.symm)))).symm)
  · by_cases e : k = 4
    · subst e; rw [upN_s]; exact h2' rfl p h hp hh
    · have hrow : ∀ r j, 6 ≤ r → r ≤ 9 → W' r j = W r j := fun r j q1 q2 => hW r j (by omega) (by omega) (Or.inl (by
        have : r = 6 ∨ r = 7 ∨ r = 8 ∨ r = 9 := by omega
        rcases this with q | q | q | q
        · subst q; exact fun z => e z.symm
        · subst q; exact fun z => e z.symm
        · subst q; exact fun z => e z.symm
        · subst q; exact fun z => e z.symm))
      rw [upN_n (fun z => e z.symm), h2 e, g5 p h hp hh, stY_congr (fun r j q1 q2 _ => hrow r j q1 q2), wAt_congr _ (fun r j q1 q2 _ => hrow r j q1 q2)]
/-- a tell in the class: names, the first fault, the tokens -/
def CBg (c : Nat → Nat) (L e : Nat) (T : NTb) (sf : SF) (S : ST) : Prop := CTk c L S ∧ NTC T S ∧ NTv T ∧ FC sf S ∧ e ≤ 400 ∧ ∀ j, j < e → tkK c L j ≠ 35
theorem c_old {e k j : Nat} {T : NTb} {sf : SF} (hn : 30000 ≤ n) (h : CBg c L e T sf S) (hj : j < e) (hk : k < 11) : Ok (E_X8_oldName n S (nI k) (nI j)) (fun r => r.1 = nI (oN (tkV c L) T k j) ∧ Df XFc S r.2 ∧ CBg c L e T (orF sf (cOld (tkV c L) T k j)) r.2) := by
  obtain ⟨h1, h2, h3, h4, h5, h6⟩ := h
  refine (c_oldName (n := n) hn h1 (by omega) (fun i hi => h6 i (by omega)) (h6 j hj) h2 h3 h4 hk).mono (fun r hr => ?_)
  obtain ⟨r1, r2, r3⟩ := hr
  exact ⟨r1, r2, h1.fc r2, h2.fr r2, h3, r3, h5, h6⟩
theorem c_num {e lo hi j : Nat} {T : NTb} {sf : SF} (h : CBg c L e T sf S) (hj : j < e) (hk : tkK c L j = 21) (hlo : lo < 10000) (hhi : hi < 10000) : Ok (E_X8_within n S (nI j) (nI lo) (nI hi)) (fun r => r.1 = nI (if lo ≤ tkV c L j ∧ tkV c L j ≤ hi then tkV c L j else lo) ∧ Df XFc S r.2 ∧ CBg c L e T (orF sf (cIn (tkV c L) lo hi j)) r.2) := by
  obtain ⟨h1, h2, h3, h4, h5, h6⟩ := h
  refine (c_bounds (n := n) h1 (by omega) (fun i hi => h6 i (by omega)) hk h4 hlo hhi).mono (fun r hr => ?_)
  obtain ⟨r1, r2, r3⟩ := hr
  exact ⟨r1, r2, h1.fc r2, h2.fr r2, h3, r3, h5, h6⟩
theorem c_ref {e f j : Nat} {T : NTb} {sf : SF} (h : CBg c L e T sf S) (hf : f ≠ 0) (hf2 : f < 10) : Ok (E_X8_refuse n S (nI f) (nI j)) (fun S' => Df XFc S S' ∧ CBg c L e T (orF sf (some (f, j))) S') := by
  obtain ⟨h1, h2, h3, h4, h5, h6⟩ := h
  refine (c_refuse (n := n) h4 hf hf2).mono (fun r hr => ?_)
  obtain ⟨r2, r3⟩ := hr
  exact ⟨r2, h1.fc r2, h2.fr r2, h3, r3, h5, h6⟩
/-- cells of the tables of names -/
theorem CTk.nw {m : Nat} (h : CTk c L S) (d : D2 (XNw m) YNw S S') : CTk c L S' := h.d2 d (fun a j hx => by
  simp only [XSc, Bool.or_eq_true, Bool.and_eq_true, beq_iff_eq] at hx
  simp only [XNw, Bool.or_eq_false_iff, Bool.and_eq_false_iff, beq_eq_false_iff_ne]
  omega) rfl
theorem NTv_app {T : NTb} {v k m : Nat} (h : NTv T) (h1 : v < 2 ^ 63) (h2 : k < 11) (h3 : m < 100) : NTv (T ++ [(v, k, m)]) := fun e he => by
  rcases List.mem_append.mp he with he | he
  · exact h e he
  · rw [List.mem_singleton.mp he]; exact ⟨h1, h2, h3⟩
/-- a new name: the names then are T' -/
theorem c_new {e k j m w : Nat} {T : NTb} (hn : 30000 ≤ n) (h : CBg c L e T none S) (hj : j < e) (hk : k < 11) (hw : w = 22 ∨ w = 47) (hm : S.1 (w + 1) k = nI m) (hm2 : m < 100) (hlen : T.length < 32) : Ok (E_X8_newName n S w (nI k) (nI j)) (fun S' => D2 (XNw T.length) YNw S S' ∧ ∃ T', CBg c L e T' (cNew (tkV c L) T j) S' ∧ (cNew (tkV c L) T j = none → T' = T ++ [(tkV c L j, k, m)]) ∧ (T' = T ∨ T' = T ++ [(tkV c L j, k, m)])) := by
  obtain ⟨h1, h2, h3, h4, h5, h6⟩ := h
  refine (c_newName (n := n) hn h1 (by omega) (fun i hi => h6 i (by omega)) (h6 j hj) h2 h3 h4 hk hw hm hlen).mono (fun S' hr => ?_)
  obtain ⟨r1, r2, r3, r4⟩ := hr
  refine ⟨r1, ?_⟩
  cases hc : cNew (tkV c L) T j with
  | none =>
    rw [hc] at r2
    exact ⟨_, ⟨h1.nw r1, r3 hc, NTv_app h3 tkV_63 hk hm2, r2, h5, h6⟩, fun _ => rfl, Or.inr rfl⟩
  | some x =>
    rw [hc] at r2
    exact ⟨T, ⟨h1.nw r1, r4 (by rw [hc]; intro z; cases z), h3, r2, h5, h6⟩, (fun z => by cases z), Or.inl rfl⟩
theorem CBg.fr {e : Nat} {T : NTb} {sf : SF} (h : CBg c L e T sf S) (e2 : S'.2 = S.2) (e1 : ∀ a j, a < 22 → S'.1 a j = S.1 a j) : CBg c L e T sf S' := by
  obtain ⟨h1, h2, h3, h4, h5, h6⟩ := h
  refine ⟨h1.d2 (X := fun a _ => decide (22 ≤ a)) (Y := YN) ⟨fun a _ => congrFun e2 a, fun a j hx => e1 a j (by simp only [decide_eq_false_iff_not] at hx; omega)⟩ (fun a j hx => by
    simp only [XSc, Bool.or_eq_true, Bool.and_eq_true, beq_iff_eq] at hx
    simp only [decide_eq_false_iff_not]
    omega) rfl, ⟨?_, h2.2.1, fun j hj => ?_⟩, h3, ⟨fun z => ?_, fun x hx => ?_⟩, h5, h6⟩
  · rw [e1 _ _ (by decide)]; exact h2.1
  · rw [e2, e1 _ _ (by decide), e1 _ _ (by decide)]; exact h2.2.2 j hj
  · rw [e1 _ _ (by decide)]; exact h4.1 z
  · rw [e1 _ _ (by decide), e1 _ _ (by decide)]; exact h4.2 x hx
theorem oN_lt {V : Nat → Nat} {T : NTb} {cnt : Nat → Nat} {k j cap : Nat} (hw : NTw cnt T) (hc : cnt k ≤ cap) (h0 : 0 < cap) : oN V T k j < cap := by
  unfold oN
  cases h : oldN V T k j with
  | none => exact h0
  | some m =>
    unfold oldN at h
    cases hl : lk T (V j) with
    | none => rw [hl] at h; cases h
    | some e =>
      rw [hl] at h
      have h' : (if e.2.1 = k then some e.2.2 else none) = some m := h
      split at h'
      case isFalse => cases h'
      rename_i ek
      obtain ⟨m1, m2⟩ := lk_some hl
      obtain ⟨q1, q2, q3⟩ := hw.1 e m1
      rw [ek] at q3
      have := Option.some.inj h'
      show m < cap
      omega
/-- a new name of another kind changes nothing for the old ones -/
theorem oldN_app {V : Nat → Nat} {T : NTb} {v k k2 m j : Nat} (hk : k2 ≠ k) : oldN V (T ++ [(v, k2, m)]) k j = oldN V T k j := by
  unfold oldN lk
  rw [List.find?_append]
  cases h : T.find? (fun e => e.1 == V j) with
  | some e => rfl
  | none =>
    show Option.bind (List.find? (fun e => e.1 == V j) [(v, k2, m)]) (fun e => if e.2.1 = k then some e.2.2 else none) = none
    by_cases e : v = V j
    · rw [List.find?_cons_of_pos (by exact beq_iff_eq.mpr e)]
      exact if_neg hk
    · rw [List.find?_cons_of_neg (by exact fun z => e (beq_iff_eq.mp z))]; rfl
theorem oldN_or {V : Nat → Nat} {T T' : NTb} {v k k2 m j : Nat} (hk : k2 ≠ k) (h : T' = T ∨ T' = T ++ [(v, k2, m)]) : oldN V T' k j = oldN V T k j := by
  rcases h with h | h
  · rw [h]
  · rw [h]; exact oldN_app hk
theorem cOld_eq {V : Nat → Nat} {T T' : NTb} {k j : Nat} (h : oldN V T' k j = oldN V T k j) : cOld V T' k j = cOld V T k j := by unfold cOld; rw [h]
theorem oN_eq {V : Nat → Nat} {T T' : NTb} {k j : Nat} (h : oldN V T' k j = oldN V T k j) : oN V T' k j = oN V T k j := by unfold oN; rw [h]
end CTD
