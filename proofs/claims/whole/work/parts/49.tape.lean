/-! ===== the tape ===== -/
def shf (i : Nat) : Int32 := if i = 4 then -nI 8 else nI (24 - 8 * i)
/-- the i-th byte of a word -/
def byt (a : Int32) (i : Nat) : Int32 := (((ush a (shf i))).toInt8.toInt32).toInt8.toInt32
theorem sh_byte (a : Int32) (k : Nat) (hk : k ≤ 24) : (ush a (nI k)).toInt8 = (a >>> (nI k &&& 31)).toInt8 := by
  have e1 : (nI k &&& 31 : Int32).toBitVec = BitVec.ofNat 32 k := by
    have : ∀ k : Fin 25, (nI k.val &&& 31 : Int32).toBitVec = BitVec.ofNat 32 k.val := by decide
    exact this ⟨k, by omega⟩
  have e2 : ((nI k).toUInt32 &&& Int32.toUInt32 31).toBitVec = BitVec.ofNat 32 k := by
    have : ∀ k : Fin 25, ((nI k.val).toUInt32 &&& Int32.toUInt32 31).toBitVec = BitVec.ofNat 32 k.val := by decide
    exact this ⟨k, by omega⟩
  have e3 : ((BitVec.ofNat 32 k).smod (32 : BitVec 32)).toNat = k := by
    have : ∀ k : Fin 25, ((BitVec.ofNat 32 k.val).smod 32#32).toNat = k.val := by decide
    exact this ⟨k, by omega⟩
  have e4 : (BitVec.ofNat 32 k % (32 : BitVec 32)).toNat = k := by
    have : ∀ k : Fin 25, (BitVec.ofNat 32 k.val % 32#32).toNat = k.val := by decide
    exact this ⟨k, by omega⟩
  unfold ush
  apply Int8.toBitVec_inj.mp
  rw [Int32.toBitVec_toInt8, Int32.toBitVec_toInt8]
  apply BitVec.eq_of_getLsbD_eq
  intro i hi
  rw [BitVec.signExtend_eq_setWidth_of_le _ (by decide), BitVec.signExtend_eq_setWidth_of_le _ (by decide), BitVec.getLsbD_setWidth, BitVec.getLsbD_setWidth]
  congr 1
  rw [Int32.toBitVec_shiftRight, e1, BitVec.sshiftRight', e3, BitVec.getLsbD_sshiftRight]
  have e5 : (a.toUInt32 >>> ((nI k).toUInt32 &&& Int32.toUInt32 31)).toInt32.toBitVec = a.toBitVec >>> k := by
    show (a.toUInt32 >>> ((nI k).toUInt32 &&& Int32.toUInt32 31)).toBitVec = _
    rw [UInt32.toBitVec_shiftRight, e2]
    show a.toBitVec >>> ((BitVec.ofNat 32 k % (32 : BitVec 32)).toNat) = _
    rw [e4]
  rw [e5, BitVec.getLsbD_ushiftRight]
  have : k + i < 32 := by omega
  simp [this]
  omega
theorem shf_step {i : Nat} (h : i < 4) : shf i + (-8 : Int32) = shf (i + 1) := by
  match i, h with
  | 0, _ => rfl
  | 1, _ => rfl
  | 2, _ => rfl
  | 3, _ => rfl
theorem byt_r (a : Int32) {i : Nat} (h : i < 4) : ((a >>> (shf i &&& 31)).toInt8.toInt32).toInt8.toInt32 = byt a i := by
  have : ¬ i = 4 := by omega
  unfold byt shf
  rw [if_neg this, sh_byte _ _ (by omega)]
def putN (a : Int32) (T : Nat) (m : Nat) (A : Nat → Int32) (k : Nat) : Int32 := if T ≤ k ∧ k < T + m then byt a (k - T) else A k
theorem putN_0 {a : Int32} {T : Nat} {A : Nat → Int32} : putN a T 0 A = A := by
  funext k
  unfold putN
  rw [if_neg (by omega)]
theorem putN_s {a : Int32} {T m : Nat} {A : Nat → Int32} : (fun j => if j = T + m then byt a m else putN a T m A j) = putN a T (m + 1) A := by
  funext k
  unfold putN
  by_cases e : k = T + m
  · rw [if_pos e, if_pos (by omega)]
    congr 1; omega
  · rw [if_neg e]
    by_cases c : T ≤ k ∧ k < T + m
    · rw [if_pos c, if_pos (by omega)]
    · rw [if_neg c, if_neg (by omega)]
def XTc (a j : Nat) : Bool := a == 9 || (a == 8 && j == 1)
def XTr (a j : Nat) : Bool := a == 96 || (a == 95 && j == 2)
section TAP
variable {n : Nat} {S : ST}
theorem c_put {tw : Nat} {a : Int32} {T : Nat} (hn : 30000 ≤ n) (hT : T + 4 ≤ 2000) (e : S.1 8 1 = nI T) : Ok (E_X11_putBytes n S tw a) (fun S' => Df XTc S S' ∧ S'.1 8 1 = nI (T + 4) ∧ S'.1 9 = putN a T 4 (S.1 9)) := by
  unfold E_X11_putBytes
  refine bindL (fun i q => q.1 = shf i ∧ Df XTc S q.2 ∧ q.2.1 8 1 = nI (T + i) ∧ q.2.1 9 = putN a T i (S.1 9)) (fun S' => Df XTc S S' ∧ S'.1 8 1 = nI (T + 4) ∧ S'.1 9 = putN a T 4 (S.1 9)) 0 4 (by decide) (by omega) ⟨rfl, Df.refl _ _, e, putN_0.symm⟩ ?_ ?_ (fun S' h => Ok.ret h)
  · rintro i ⟨y, S1⟩ _ hi ⟨rfl, d1, h1, h2⟩
    dsimp only at d1 h1 h2 ⊢
    have n4 : ¬ i = 4 := by omega
    refine Ok.ifF (by rw [shf, if_neg n4]; exact nI_pos (by omega)) ?_
    refine Ok.ifF (by rw [h1]; exact nI_ge (a := T + i) (b := 2000) (by omega) (by decide)) ?_
    apply Ok.step (x := upI S1 9 (T + i) (byt a i)) (by rw [h1, wr_nI (by omega) (by decide)]; rfl)
    apply Ok.letsU
    refine Ok.inl ⟨shf_step hi, (d1.up rfl).up rfl, ?_, ?_⟩
    · dsimp only
      rw [upI_at, if_pos ⟨rfl, rfl⟩, upI_at, if_neg (by omega), h1, nI_1]; rfl
    · dsimp only
      rw [← putN_s, ← h2]
      funext j
      rw [upI_at, if_neg (by omega), upI_at]
      by_cases c : j = T + i
      · rw [if_pos ⟨rfl, c⟩, if_pos c]
      · rw [if_neg (fun z => c z.2), if_neg c]
  · rintro ⟨y, S1⟩ ⟨rfl, d1, h1, h2⟩
    exact Ok.ifT (show shf 4 < 0 by decide) (Ok.inr ⟨d1, h1, h2⟩)
theorem r_put {a : Int32} {T : Nat} (hn : 30000 ≤ n) (hT : T + 4 ≤ 2000) (e : S.1 95 2 = nI T) : Ok (E_X12_put n S a) (fun S' => Df XTr S S' ∧ S'.1 95 2 = nI (T + 4) ∧ S'.1 96 = putN a T 4 (S.1 96)) := by
  unfold E_X12_put
  refine bindL (fun i q => q.1 = shf i ∧ Df XTr S q.2 ∧ q.2.1 95 2 = nI (T + i) ∧ q.2.1 96 = putN a T i (S.1 96)) (fun S' => Df XTr S S' ∧ S'.1 95 2 = nI (T + 4) ∧ S'.1 96 = putN a T 4 (S.1 96)) 0 4 (by decide) (by omega) ⟨rfl, Df.refl _ _, e, putN_0.symm⟩ ?_ ?_ (fun S' h => Ok.ret h)
  · rintro i ⟨y, S1⟩ _ hi ⟨rfl, d1, h1, h2⟩
    dsimp only at d1 h1 h2 ⊢
    have n4 : ¬ i = 4 := by omega
    refine Ok.ifF (by rw [shf, if_neg n4]; exact nI_pos (by omega)) ?_
    rw [byt_r a hi]
    apply Ok.step (x := upI S1 96 (T + i) (byt a i)) (by rw [h1, wr_nI (by omega) (by decide)])
    apply Ok.letsU
    refine Ok.inl ⟨shf_step hi, (d1.up rfl).up rfl, ?_, ?_⟩
    · dsimp only
      rw [upI_at, if_pos ⟨rfl, rfl⟩, upI_at, if_neg (by omega), h1, nI_1]; rfl
    · dsimp only
      rw [← putN_s, ← h2]
      funext j
      rw [upI_at, if_neg (by omega), upI_at]
      by_cases c : j = T + i
      · rw [if_pos ⟨rfl, c⟩, if_pos c]
      · rw [if_neg (fun z => c z.2), if_neg c]
  · rintro ⟨y, S1⟩ ⟨rfl, d1, h1, h2⟩
    exact Ok.ifT (show shf 4 < 0 by decide) (Ok.inr ⟨d1, h1, h2⟩)
end TAP
/-- the tape is one -/
def TI (S : ST) : Prop := ∃ T, T ≤ 2000 ∧ S.1 8 1 = nI T ∧ S.1 95 2 = nI T ∧ ∀ k, k < T → S.1 9 k = S.1 96 k ∧ ∃ b : Int8, S.1 9 k = b.toInt32
theorem CI.dfX {W : VW} {V : VL} {tw en : Nat} {P : PL} {N : Nat} {H : HL} {S S' : ST} {X : Nat → Nat → Bool} (hC : CI W V tw en P N H S) (d : Df X S S') (nx : ∀ a j, ((21 < a ∧ (a < 95 ∨ 160 < a)) ∨ (a = 8 ∧ j = 10)) → X a j = false) : CI W V tw en P N H S' := by
  obtain ⟨h1, h2, h3, h4, h5, h6⟩ := hC
  have hw := h1.1
  refine ⟨h1.df d (fun a j h => nx a j (by omega)), h2.df d (fun a j h => nx a j (by omega)), h3.df d (fun a j _ _ => nx a j (by omega)), ?_, ?_, h6.df d (fun a j h => nx a j (by omega))⟩
  · rw [d.2 8 10 (nx _ _ (by omega))]
    rcases h4 with z | z
    · exact Or.inl z
    · exact Or.inr ⟨z.1, z.2.df d (fun a j h => nx a j (by omega))⟩
  · rw [d.2 92 3 (nx _ _ (by omega))]
    rcases h5 with z | z
    · exact Or.inl z
    · exact Or.inr ⟨z.1, z.2.df d (fun a j h => nx a j (by omega))⟩
def XTp (a j : Nat) : Bool := XTc a j || XTr a j
section TP2
variable {W : VW} {V : VL} {tw en sd : Nat} {P : PL} {N : Nat} {H : HL} {n : Nat} {S : ST}
theorem XTc_Tp {S S' : ST} (h : Df XTc S S') : Df XTp S S' := h.mono (fun a j hx => by
  simp only [XTp, Bool.or_eq_false_iff] at hx; exact hx.1)
theorem XTr_Tp {S S' : ST} (h : Df XTr S S') : Df XTp S S' := h.mono (fun a j hx => by
  simp only [XTp, Bool.or_eq_false_iff] at hx; exact hx.2)
theorem IV.tp {S' : ST} (hI : IV W V tw en sd P N H S) (d : Df XTp S S') : IV W V tw en sd P N H S' := by
  obtain ⟨hW, hPW, hHW, hC, hR⟩ := hI
  have nx : ∀ a j, (a ≠ 9 ∧ a ≠ 96 ∧ (a ≠ 8 ∨ j ≠ 1) ∧ (a ≠ 95 ∨ j ≠ 2)) → XTp a j = false := fun a j h => by
    simp only [XTp, XTc, XTr, Bool.or_eq_false_iff, Bool.and_eq_false_iff, beq_eq_false_iff_ne]
    omega
  refine ⟨hW, hPW, hHW, hC.dfX d (fun a j h => nx a j (by omega)), hR.1.df d (fun a j h => nx a j (by omega)), hR.2.1.df d (fun a j h => nx a j (by simp only [lawC, decide_eq_true_eq] at h; omega)), hR.2.2.1.df d (fun a j h => nx a j (by omega)), ?_, ?_, ?_⟩
  · intro s hs
    obtain ⟨h1, h2⟩ := hR.2.2.2.1 s hs
    have o : ∀ a j, 154 < a → a < 161 → S'.1 a j = S.1 a j := fun a j h1 h2 => d.2 a j (nx a j (by omega))
    refine ⟨fun z => by rw [o _ _ (by omega) (by omega)]; exact h1 z, fun q hq => ?_⟩
    obtain ⟨h3, h4⟩ := h2 q hq
    refine ⟨by rw [o _ _ (by omega) (by omega)]; exact h3, fun k hk => ?_⟩
    obtain ⟨p1, p2, p3, p4, p5⟩ := h4 k hk
    exact ⟨by rw [o _ _ (by omega) (by omega)]; exact p1, by rw [o _ _ (by omega) (by omega)]; exact p2, by rw [o _ _ (by omega) (by omega)]; exact p3, by rw [o _ _ (by omega) (by omega)]; exact p4, by rw [o _ _ (by omega) (by omega)]; exact p5⟩
  · rw [d.2 95 61 (nx _ _ (by omega))]; exact hR.2.2.2.2.1
  · rw [d.2 95 73 (nx _ _ (by omega))]; exact hR.2.2.2.2.2
theorem putN_eq {a : Int32} {T : Nat} {A B : Nat → Int32} (h : ∀ k, k < T → A k = B k) : ∀ k, k < T + 4 → putN a T 4 A k = putN a T 4 B k := by
  intro k hk
  unfold putN
  by_cases c : T ≤ k ∧ k < T + 4
  · rw [if_pos c, if_pos c]
  · rw [if_neg c, if_neg c]
    exact h k (by omega)
theorem putN_b {a : Int32} {T : Nat} {A : Nat → Int32} (h : ∀ k, k < T → ∃ b : Int8, A k = b.toInt32) : ∀ k, k < T + 4 → ∃ b : Int8, putN a T 4 A k = b.toInt32 := by
  intro k hk
  unfold putN
  by_cases c : T ≤ k ∧ k < T + 4
  · rw [if_pos c]; exact ⟨_, rfl⟩
  · rw [if_neg c]
    exact h k (by omega)
theorem q_feed (hI : IV W V tw en sd P N H S) (hn : 30000 ≤ n) (hT : TI S) (a1 a2 a3 a4 a5 : Int32) : ∃ v S1 S2, E_X11_feed n S tw a1 a2 a3 a4 a5 = some (v, S1) ∧ E_X12_feed n S1 a1 a2 a3 a4 a5 = some (v, S2) ∧ IV W V tw en sd P N H S2 ∧ TI S2 ∧ Df XTp S S2 := by
  obtain ⟨T, hT0, h1, h2, h3⟩ := hT
  unfold E_X11_feed E_X12_feed
  by_cases c : T + 20 ≤ 2000
  case neg =>
    refine ⟨-1, S, S, ?_, ?_, hI, ⟨T, hT0, h1, h2, h3⟩, Df.refl _ _⟩
    · rw [if_neg]
      rw [h1, show (20 : Int32) = nI 20 from rfl, nI_add]
      exact nI_ge (a := 2000) (by omega) (by omega)
    · rw [if_neg]
      rw [h2, show (20 : Int32) = nI 20 from rfl, nI_add]
      exact nI_ge (a := 2000) (by omega) (by omega)
  obtain ⟨C1, e1, d1, l1, t1⟩ := c_put (tw := tw) (a := a1) (S := S) hn (by omega) h1
  obtain ⟨C2, e2, d2, l2, t2⟩ := c_put (tw := tw) (a := a2) (S := C1) hn (by omega) l1
  obtain ⟨C3, e3, d3, l3, t3⟩ := c_put (tw := tw) (a := a3) (S := C2) hn (by omega) l2
  obtain ⟨C4, e4, d4, l4, t4⟩ := c_put (tw := tw) (a := a4) (S := C3) hn (by omega) l3
  obtain ⟨C5, e5, d5, l5, t5⟩ := c_put (tw := tw) (a := a5) (S := C4) hn (by omega) l4
  have dC : Df XTc S C5 := (((d1.trans d2).trans d3).trans d4).trans d5
  have hr : C5.1 95 2 = nI T := by rw [dC.2 _ _ rfl]; exact h2
  have hr2 : C5.1 96 = S.1 96 := funext fun k => dC.2 _ _ rfl
  obtain ⟨R1, f1, g1, m1, u1⟩ := r_put (a := a1) (S := C5) hn (by omega) hr
  obtain ⟨R2, f2, g2, m2, u2⟩ := r_put (a := a2) (S := R1) hn (by omega) m1
  obtain ⟨R3, f3, g3, m3, u3⟩ := r_put (a := a3) (S := R2) hn (by omega) m2
  obtain ⟨R4, f4, g4, m4, u4⟩ := r_put (a := a4) (S := R3) hn (by omega) m3
  obtain ⟨R5, f5, g5, m5, u5⟩ := r_put (a := a5) (S := R4) hn (by omega) m4
  have dR : Df XTr C5 R5 := (((g1.trans g2).trans g3).trans g4).trans g5
  have dA : Df XTp S R5 := (XTc_Tp dC).trans (XTr_Tp dR)
  have ec : R5.1 8 1 = nI (T + 20) := by rw [dR.2 _ _ rfl, l5]
  have er : R5.1 95 2 = nI (T + 20) := m5
  refine ⟨nI (T + 20), C5, R5, ?_, ?_, hI.tp dA, ⟨T + 20, c, ec, er, ?_⟩, dA⟩
  · rw [if_pos, e1, Option.bind_some, e2, Option.bind_some, e3, Option.bind_some, e4, Option.bind_some, e5, Option.bind_some, l5]
    rw [h1, show (20 : Int32) = nI 20 from rfl, nI_add]
    exact nI_le (b := 2000) c (by decide)
  · rw [if_pos, f1, Option.bind_some, f2, Option.bind_some, f3, Option.bind_some, f4, Option.bind_some, f5, Option.bind_some, m5]
    rw [hr, show (20 : Int32) = nI 20 from rfl, nI_add]
    exact nI_le (b := 2000) c (by decide)
  · have o9 : R5.1 9 = C5.1 9 := funext fun k => dR.2 _ _ rfl
    rw [o9, u5, u4, u3, u2, u1, hr2, t5, t4, t3, t2, t1]
    exact fun k hk => ⟨putN_eq (putN_eq (putN_eq (putN_eq (putN_eq (fun k hk => (h3 k hk).1))))) k hk, putN_b (putN_b (putN_b (putN_b (putN_b (fun k hk => (h3 k hk).2))))) k hk⟩
theorem q_back (hI : IV W V tw en sd P N H S) (hT : TI S) (x : Int32) : ∃ v S1 S2, E_X11_back n S tw x = some (v, S1) ∧ E_X12_back n S1 x = some (v, S2) ∧ IV W V tw en sd P N H S2 ∧ TI S2 ∧ Df XTp S S2 := by
  obtain ⟨T, hT0, h1, h2, h3⟩ := hT
  unfold E_X11_back E_X12_back
  by_cases c0 : x < 0
  · exact ⟨-1, S, S, by rw [if_pos c0], by rw [if_pos c0], hI, ⟨T, hT0, h1, h2, h3⟩, Df.refl _ _⟩
  obtain ⟨j, hj, rfl⟩ := nI_of c0
  by_cases c : j ≤ T
  case neg =>
    have : ¬ nI j ≤ nI T := nI_ge (by omega) hj
    exact ⟨-1, S, S, by rw [if_neg c0, h1, if_neg this], by rw [if_neg c0, h2, if_neg this], hI, ⟨T, hT0, h1, h2, h3⟩, Df.refl _ _⟩
  have cl : nI j ≤ nI T := nI_le c (by omega)
  have es : nI T - nI j = nI (T - j) := by
    rw [show T = (T - j) + j by omega, ← nI_add, Int32.add_sub_cancel, Nat.add_sub_cancel]
  have d1 : Df XTc S (upI S 8 1 (nI (T - j))) := (Df.refl _ _).up rfl
  have d2 : Df XTr (upI S 8 1 (nI (T - j))) (upI (upI S 8 1 (nI (T - j))) 95 2 (nI (T - j))) := (Df.refl _ _).up rfl
  have dA := (XTc_Tp d1).trans (XTr_Tp d2)
  refine ⟨nI (T - j), upI S 8 1 (nI (T - j)), upI (upI S 8 1 (nI (T - j))) 95 2 (nI (T - j)), ?_, ?_, hI.tp dA, ⟨T - j, by omega, ?_, ?_, ?_⟩, dA⟩
  · rw [if_neg c0, h1, if_pos cl, es]
    simp only [lets]
    rw [upI_at, if_pos ⟨rfl, rfl⟩]
  · have : (upI S 8 1 (nI (T - j))).1 95 2 = nI T := by rw [upI_at, if_neg (by omega)]; exact h2
    rw [if_neg c0, this, if_pos cl, es]
    simp only [lets]
    rw [upI_at, if_pos ⟨rfl, rfl⟩]
  · rw [upI_at, if_neg (by omega), upI_at, if_pos ⟨rfl, rfl⟩]
  · rw [upI_at, if_pos ⟨rfl, rfl⟩]
  · intro k hk
    have e9 : ∀ (u v : Int32), (upI (upI S 8 1 u) 95 2 v).1 9 k = S.1 9 k := fun u v => by rw [upI_at, if_neg (by omega), upI_at, if_neg (by omega)]
    have e96 : ∀ (u v : Int32), (upI (upI S 8 1 u) 95 2 v).1 96 k = S.1 96 k := fun u v => by rw [upI_at, if_neg (by omega), upI_at, if_neg (by omega)]
    rw [e9, e96]
    exact h3 k (by omega)
end TP2
