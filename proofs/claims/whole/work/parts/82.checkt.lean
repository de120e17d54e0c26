/-! ===== the class checks a text ===== -/
theorem lawQ_f {K V : Nat → Nat} {y : Nat × Nat} (h : y.1 ≠ 0) : lawQ K V y = cInit y := by
  unfold lawQ
  rw [tk_f h]
  show (if cdnB K (cInit y) = true then cInit y else _) = _
  rw [if_pos (cdnB_iff.mpr (Or.inl h))]
theorem lawQ_f2 {K V : Nat → Nat} {y : Nat × Nat} (h : (tk K 12 y).1 ≠ 0) : lawQ K V y = cInit (tk K 12 y) := by
  show (if cdnB K (cInit (tk K 12 y)) = true then cInit (tk K 12 y) else _) = _
  rw [if_pos (cdnB_iff.mpr (Or.inl h))]
theorem getD_app {α : Type} {A : List α} {x d : α} {i : Nat} (h : i < A.length) : (A ++ [x]).getD i d = A.getD i d := by
  rw [List.getD_eq_getElem?_getD, List.getD_eq_getElem?_getD, List.getElem?_append_left h]
theorem getD_last {α : Type} {A : List α} {x d : α} : (A ++ [x]).getD A.length d = x := by
  rw [List.getD_eq_getElem?_getD, List.getElem?_append_right (Nat.le_refl _), Nat.sub_self]; rfl
theorem cfE_len {K : Nat → Nat} {b0 : Nat} {q : CQ} (hQ : CQI K b0 q) (h0 : q.y.1 = 0) (d : cdn K q) : (cfE q).length = totQ q := by
  rcases d with z | ⟨z1, z2, z3, z4⟩
  · exact absurd h0 z
  cases hlf : q.lf with
  | none => exact absurd hlf z4
  | some x =>
    obtain ⟨how, li⟩ := x
    rw [cfE_st hQ.2.1 z3 hlf, List.length_append, opsC_len]
    have := fl_len q
    omega
theorem pfx_f {K V : Nat → Nat} {k : Nat} {y : Nat × Nat} (h : y.1 ≠ 0) : pfx K V k y = y := by
  unfold pfx birY
  simp only [tk_f h, fur_f h, lawQ_f h]
  repeat' split
  all_goals rfl
theorem tY_full {K V : Nat → Nat} {k m : Nat} {y : Nat × Nat} (h : m = cmx k) : tY K V k m y = (2, y.2) := by
  unfold tY begY
  rw [if_pos h, pfx_f (by intro z; cases z), tk_f (by intro z; cases z)]
theorem birY_alt {K : Nat → Nat} {a : Nat × Nat} : (if K a.2 = 11 then tk K 21 (tk K 11 a) else a) = birY K a := by
  unfold birY
  by_cases h : a.1 = 0
  · by_cases h2 : K a.2 = 11
    · rw [if_pos h2, if_pos ⟨h, h2⟩]
    · rw [if_neg h2, if_neg (fun z => h2 z.2)]
  · have e : ¬ (a.1 = 0 ∧ K a.2 = 11) := fun z => h z.1
    rw [if_neg e, tk_f h, tk_f h]
    split <;> rfl
theorem pfx_le {K V : Nat → Nat} {k : Nat} (hk : k < 9) (z : Nat × Nat) : z.2 ≤ (pfx K V k z).2 := by
  have a := fun (k : Nat) (z : Nat × Nat) => tk_le (K := K) (k := k) z
  have fu : ∀ (n : Nat) (z : Nat × Nat), z.2 ≤ (fur K n z).2 := by
    intro n
    induction n with
    | zero => intro z; exact Nat.le_refl _
    | succ n ih =>
      intro z
      rw [fur]
      split
      · exact Nat.le_trans (Nat.le_trans (a 23 z) (a 20 _)) (ih _)
      · exact Nat.le_refl _
  unfold pfx
  split
  · exact a _ _
  split
  · unfold birY
    split
    · exact Nat.le_trans (Nat.le_trans (Nat.le_trans (a _ _) (a _ _)) (a _ _)) (a _ _)
    · exact Nat.le_trans (a _ _) (a _ _)
  split
  · exact Nat.le_trans (a _ _) (a _ _)
  split
  · exact Nat.le_trans (a _ _) (a _ _)
  split
  · exact Nat.le_trans (Nat.le_trans (Nat.le_trans (a _ _) (a _ _)) (a _ _)) (a _ _)
  split
  · exact Nat.le_trans (a _ _) (a _ _)
  split
  · exact Nat.le_trans (Nat.le_trans (a _ _) (a _ _)) (a _ _)
  split
  · exact Nat.le_trans (Nat.le_trans (a _ _) (a _ _)) (a _ _)
  split
  · exact Nat.le_trans (Nat.le_trans (a _ _) (a _ _)) (fu _ _)
  · omega
def LwC (l : Nat) (E : CD) (i N : Nat) (S : ST) : Prop := ∃ a, S.1 (l + 3) i = nI a ∧ S.1 (l + 4) i = nI (a + E.length) ∧ a + E.length ≤ N ∧ StpC l a E S
/-- the laws so far, by the class -/
def LwsC (l : Nat) (Y : SY) (S : ST) : Prop := ∃ N, S.1 l 7 = nI N ∧ N ≤ Y.1.2 ∧ N ≤ 400 ∧ ∀ s, s < 2 → S.1 (l + 5) s = nI (Y.2.1 (9 + s)) ∧ (Y.2.2.2 s).length = Y.2.1 (9 + s) ∧ ∀ i, i < Y.2.1 (9 + s) → LwC l ((Y.2.2.2 s).getD i []) (4 * s + i) N S
def CSY (c : Nat → Nat) (L l : Nat) (Y : SY) (S : ST) : Prop := CY Y.1 S ∧ yW (tkK c L) Y.1 ∧ (Y.1.1 = 0 → (∀ k, k < 11 → S.1 16 k = nI (Y.2.1 k) ∧ Y.2.1 k ≤ cmx k) ∧ LwsC l Y S)
theorem cmx_le {k : Nat} (hk : k < 11) : cmx k ≤ 20 := by
  have : ∀ k : Fin 11, cmx k.val ≤ 20 := by decide
  exact this ⟨k, hk⟩
theorem cmx_law {s : Nat} (hs : s < 2) : cmx (9 + s) = 4 := by
  have : ∀ s : Fin 2, cmx (9 + s.val) = 4 := by decide
  exact this ⟨s, hs⟩
section CCT
variable {n L l : Nat} {c : Nat → Nat} {S : ST}
theorem c_lbegin {s m N : Nat} (hl : l = 35 ∨ l = 60) (hs : s < 2) (hm : m < 4) (h5 : S.1 (l + 5) s = nI m) (h7 : S.1 l 7 = nI N) : Ok (E_X4_begin n S l (nI s)) (fun S' => (∀ a j, (a ≠ l ∨ j ≠ 8) → (a ≠ l + 5 ∨ j ≠ s) → ((a ≠ l + 3 ∧ a ≠ l + 4) ∨ j ≠ 4 * s + m) → S'.1 a j = S.1 a j) ∧ S'.2 = S.2 ∧ S'.1 l 8 = nI (4 * s + m) ∧ S'.1 (l + 5) s = nI (m + 1) ∧ S'.1 (l + 3) (4 * s + m) = nI N ∧ S'.1 (l + 4) (4 * s + m) = nI N) := by
  unfold E_X4_begin
  apply Ok.jnU
  have go : Ok ((rd (S.1 (l + 5)) 2 (nI s)).bind fun v2 => if (4 : Int32) ≤ v2 then some S else (rd (S.1 (l + 5)) 2 (nI s)).bind fun v4 => lets (upI S l 8 (((nI s) * (4 : Int32)) + v4)) fun (S5 : ST) => (rd (S5.1 (l + 5)) 2 (nI s)).bind fun v6 => (wr S5 (l + 5) 2 (nI s) (v6 + (1 : Int32))).bind fun S7 => (wr S7 (l + 3) 8 (S7.1 l 8) (S7.1 l 7)).bind fun S8 => (wr S8 (l + 4) 8 (S8.1 l 8) (S8.1 l 7)).bind fun S9 => some S9) (fun S' => (∀ a j, (a ≠ l ∨ j ≠ 8) → (a ≠ l + 5 ∨ j ≠ s) → ((a ≠ l + 3 ∧ a ≠ l + 4) ∨ j ≠ 4 * s + m) → S'.1 a j = S.1 a j) ∧ S'.2 = S.2 ∧ S'.1 l 8 = nI (4 * s + m) ∧ S'.1 (l + 5) s = nI (m + 1) ∧ S'.1 (l + 3) (4 * s + m) = nI N ∧ S'.1 (l + 4) (4 * s + m) = nI N) := by
    apply Ok.step (rd_nI hs (by decide))
    rw [h5]
    refine Ok.ifF (nI_ge (b := 4) hm (by decide)) ?_
    apply Ok.step (rd_nI hs (by decide))
    rw [h5]
    apply Ok.letsU
    have ei : (nI s * (4 : Int32)) + nI m = nI (4 * s + m) := by rw [show (4 : Int32) = nI 4 from rfl, nI_mulN, nI_add, Nat.mul_comm]
    rw [ei]
    apply Ok.step (x := nI m) (by rw [rd_nI hs (by decide), upI_at, if_neg (by omega), h5])
    apply Ok.step (wr_nI hs (by decide))
    generalize eS7 : upI (upI S l 8 (nI (4 * s + m))) (l + 5) s (nI m + 1) = S7
    have e8 : S7.1 l 8 = nI (4 * s + m) := by rw [← eS7, upI_at, if_neg (by omega), upI_at, if_pos ⟨rfl, rfl⟩]
    have e7 : S7.1 l 7 = nI N := by rw [← eS7, upI_at, if_neg (by omega), upI_at, if_neg (by omega)]; exact h7
    rw [e8, e7]
    apply Ok.step (wr_nI (by omega) (by decide))
    rw [upI_at, if_neg (by omega), e8, upI_at, if_neg (by omega), e7]
    apply Ok.step (wr_nI (by omega) (by decide))
    refine Ok.ret ⟨fun a j h1 h2 h3 => ?_, ?_, ?_, ?_, ?_, ?_⟩
    · rw [upI_at, if_neg (by omega), upI_at, if_neg (by omega), ← eS7, upI_at, if_neg (by omega), upI_at, if_neg (by omega)]
    · rw [← eS7]; rfl
    · rw [upI_at, if_neg (by omega), upI_at, if_neg (by omega)]; exact e8
    · rw [upI_at, if_neg (by omega), upI_at, if_neg (by omega), ← eS7, upI_at, if_pos ⟨rfl, rfl⟩, nI_1]
    · rw [upI_at, if_neg (by omega), upI_at, if_pos ⟨rfl, rfl⟩]
    · rw [upI_at, if_pos ⟨rfl, rfl⟩]
  have h2 : s = 0 ∨ s = 1 := by omega
  rcases h2 with h | h
  · subst h; exact Ok.ifT rfl go
  · subst h; exact Ok.ifF (by decide) go
theorem c_checkTell {Y : SY} (hn : 30000 ≤ n) (hl : l = 35 ∨ l = 60) (hT : CTk c L S) (hC : CnT S) (hY : CSY c L l Y S) (h0 : Y.1.1 = 0) : Ok (E_X2_checkTell n S l) (fun S' => Df (XCk l) S S' ∧ CSY c L l (syT (tkK c L) (tkV c L) Y) S') := by
  obtain ⟨hy, hw, hd⟩ := hY
  obtain ⟨hcnt, N, n7, nN, n400, nL⟩ := hd h0
  have hw2 := hw.2.1
  have hkl := tkK_le (c := c) (L := L) (j := Y.1.2)
  unfold E_X2_checkTell
  rw [hy.1]
  apply Ok.step (c_kind hT hw2)
  unfold syT
  generalize hk : tkK c L Y.1.2 = k at *
  have x15 : ∀ j, 3 ≤ j → XCk l 15 j = true := fun j hj => by
    have : ¬ j < 3 := by omega
    simp [XCk, this]
  by_cases k11 : k < 11
  case neg =>
    rw [if_neg k11]
    refine Ok.ifF (nI_nlt (b := 11) (by omega) (by omega)) ?_
    apply Ok.letsU
    refine Ok.ret ⟨(Df.refl _ _).up (x15 5 (by decide)), ⟨?_, ?_⟩, ⟨(by decide : (1 : Nat) ≤ 2), hw.2⟩, fun z => absurd z Nat.one_ne_zero⟩
    · show _ = nI Y.1.2; rw [upI_at, if_neg (by omega)]; exact hy.1
    · show _ = nI 1; rw [upI_at, if_pos ⟨rfl, rfl⟩]; rfl
  rw [if_pos k11]
  obtain ⟨q1, q2⟩ := hcnt k k11
  have hmx := cmx_le k11
  refine Ok.ifT (nI_lt (b := 11) k11 (by decide)) ?_
  apply Ok.step (rd_nI k11 (by decide))
  apply Ok.step (wr_nI k11 (by decide))
  rw [q1, nI_1]
  generalize hm : Y.2.1 k = m at *
  generalize eS4 : upI S 16 k (nI (m + 1)) = S4
  have d4 : Df (XCk l) S S4 := by rw [← eS4]; exact (Df.refl _ _).up (by simp [XCk])
  have o4 : ∀ a j, a ≠ 16 → S4.1 a j = S.1 a j := fun a j h => by rw [← eS4, upI_at, if_neg (by omega)]
  have hC4 := hC.ck hl d4
  have hT4 := hT.ck hl d4
  have y4 : CY Y.1 S4 := ⟨by rw [o4 _ _ (by omega)]; exact hy.1, by rw [o4 _ _ (by omega)]; exact hy.2⟩
  apply Ok.step (x := nI (m + 1)) (by rw [rd_nI k11 (by decide), ← eS4, upI_at, if_pos ⟨rfl, rfl⟩])
  apply Ok.step (x := nI (cmx k)) (by rw [rd_nI k11 (by decide), (hC4 k k11).1])
  by_cases cm : m = cmx k
  · refine Ok.ifF (nI_ge (by omega) (by omega)) ?_
    apply Ok.letsU
    rw [tY_full cm]
    refine Ok.ret ⟨d4.up (x15 5 (by decide)), ⟨?_, ?_⟩, ⟨Nat.le_refl 2, hw.2⟩, fun z => absurd z (by intro z; cases z)⟩
    · show _ = nI Y.1.2; rw [upI_at, if_neg (by omega)]; exact y4.1
    · show _ = nI 2; rw [upI_at, if_pos ⟨rfl, rfl⟩]; rfl
  refine Ok.ifT (nI_le (by omega) (by omega)) ?_
  have ebeg : begY (tkK c L) k m Y.1 = tk (tkK c L) k Y.1 := if_neg cm
  obtain ⟨S9, e9, d9, y9⟩ := c_take (n := n) (k := k) hT4 y4 hw (by omega)
  apply Ok.step e9
  have w9 := tk_w (k := k) hw (by omega)
  have d9' : Df (XCk l) S S9 := d4.trans (XTk_Ck d9)
  have xk : ∀ {S3 S4 : ST}, Df XTk S3 S4 → ∀ a j, (a ≠ 15 ∨ (j ≠ 4 ∧ j ≠ 5)) → S4.1 a j = S3.1 a j := fun d a j h => d.2 _ _ (by simp only [XTk, Bool.and_eq_false_iff, Bool.or_eq_false_iff, beq_eq_false_iff_ne]; omega)
  have hnm : nmO k ≤ 2 ∧ inO k ≤ 2 := by
    have : ∀ k : Fin 11, nmO k.val ≤ 2 ∧ inO k.val ≤ 2 := by decide
    exact this ⟨k, k11⟩
  refine c_takes (l := l) (k := 20) (a := 2) hn hl (hT.ck hl d9') (hC.ck hl d9') y9 w9 (by decide) k11 (Or.inl rfl) (fun S' h => (h k k11).2.1) hnm.1 ?_
  intro S10 d10 y10
  have w10 := tkn_w (K := tkK c L) (k := 20) (by decide) (nmO k) w9
  have d10' : Df (XCk l) S S10 := d9'.trans (XTk_Ck d10)
  refine c_takes (l := l) (k := 21) (a := 3) hn hl (hT.ck hl d10') (hC.ck hl d10') y10 w10 (by decide) k11 (Or.inr rfl) (fun S' h => (h k k11).2.2) hnm.2 ?_
  intro S15 d15 y15
  have w15 := tkn_w (K := tkK c L) (k := 21) (by decide) (inO k) w10
  have d15' : Df (XCk l) S S15 := d10'.trans (XTk_Ck d15)
  have o15 : ∀ a j, (a ≠ 15 ∨ (j ≠ 4 ∧ j ≠ 5)) → S15.1 a j = S4.1 a j := fun a j h => by rw [xk d15 _ _ h, xk d10 _ _ h, xk d9 _ _ h]
  generalize eY3 : tkn (tkK c L) 21 (inO k) (tkn (tkK c L) 20 (nmO k) (tk (tkK c L) k Y.1)) = Y3 at *
  have hT15 := hT.ck hl d15'
  -- the end, where no law was told
  have fin : 9 ≤ k ∨ (∀ (S22 : ST) (yP : Nat × Nat), pfx (tkK c L) (tkV c L) k (tk (tkK c L) k Y.1) = yP → yW (tkK c L) yP → CY yP S22 → (∀ a j, (a ≠ 15 ∨ (j ≠ 4 ∧ j ≠ 5)) → S22.1 a j = S4.1 a j) → Df (XCk l) S S22 → Ok ((E_X2_take n S22 (22 : Int32)).bind fun S24 => some S24) (fun S' => Df (XCk l) S S' ∧ CSY c L l (tY (tkK c L) (tkV c L) k m Y.1, upN Y.2.1 k (m + 1), if 9 ≤ k then upN Y.2.2.1 (k - 9) (Y.2.2.1 (k - 9) ++ [cfL (lawQ (tkK c L) (tkV c L) (begY (tkK c L) k m Y.1))]) else Y.2.2.1, if 9 ≤ k then upN Y.2.2.2 (k - 9) (Y.2.2.2 (k - 9) ++ [cfE (lawQ (tkK c L) (tkV c L) (begY (tkK c L) k m Y.1))]) else Y.2.2.2) S')) := by
    by_cases k9 : 9 ≤ k
    · exact Or.inl k9
    right
    intro S22 yP eP wP y22 o22 d22
    obtain ⟨S24, e24, d24, y24⟩ := c_take (n := n) (k := 22) (hT.ck hl d22) y22 wP (by decide)
    apply Ok.step (show E_X2_take n S22 (22 : Int32) = some S24 from e24)
    rw [if_neg k9, if_neg k9]
    have etY : tY (tkK c L) (tkV c L) k m Y.1 = tk (tkK c L) 22 yP := by unfold tY; rw [ebeg, eP]
    have o24 : ∀ a j, (a ≠ 15 ∨ (j ≠ 4 ∧ j ≠ 5)) → S24.1 a j = S4.1 a j := fun a j h => by rw [xk d24 _ _ h, o22 _ _ h]
    refine Ok.ret ⟨d22.trans (XTk_Ck d24), ?_, ?_, fun z => ⟨fun j hj => ?_, N, ?_, ?_, n400, fun s hs => ?_⟩⟩
    · show CY (tY _ _ _ _ _) S24; rw [etY]; exact y24
    · show yW _ (tY _ _ _ _ _); rw [etY]; exact tk_w wP (by decide)
    · show S24.1 16 j = nI (upN Y.2.1 k (m + 1) j) ∧ upN Y.2.1 k (m + 1) j ≤ cmx j
      rw [o24 _ _ (by omega), ← eS4, upI_at]
      by_cases e : j = k
      · subst e; rw [if_pos ⟨rfl, rfl⟩, upN_s]; exact ⟨rfl, by omega⟩
      · rw [if_neg (fun z => e z.2), upN_n e]; exact hcnt j hj
    · rw [o24 _ _ (by omega), o4 _ _ (by omega)]; exact n7
    · show N ≤ (tY _ _ _ _ _).2
      have hz : (tY (tkK c L) (tkV c L) k m Y.1).1 = 0 := z
      rw [etY] at hz ⊢
      have h1 := tk_le (K := tkK c L) (k := 22) yP
      have h2 : Y.1.2 ≤ yP.2 := by
        rw [← eP]
        have h3 := tk_le (K := tkK c L) (k := k) Y.1
        exact Nat.le_trans h3 (pfx_le (by omega) _)
      omega
    · obtain ⟨g1, g2, g3⟩ := nL s hs
      show S24.1 (l + 5) s = nI (upN Y.2.1 k (m + 1) (9 + s)) ∧ (Y.2.2.2 s).length = upN Y.2.1 k (m + 1) (9 + s) ∧ ∀ i, i < upN Y.2.1 k (m + 1) (9 + s) → LwC l ((Y.2.2.2 s).getD i []) (4 * s + i) N S24
      rw [upN_n (by omega), o24 _ _ (by omega), o4 _ _ (by omega)]
      refine ⟨g1, g2, fun i hi => ?_⟩
      obtain ⟨a, a1, a2, a3, a4⟩ := g3 i hi
      refine ⟨a, by rw [o24 _ _ (by omega), o4 _ _ (by omega)]; exact a1, by rw [o24 _ _ (by omega), o4 _ _ (by omega)]; exact a2, a3, a4.fr (fun j _ _ => ⟨by rw [o24 _ _ (by omega), o4 _ _ (by omega)], by rw [o24 _ _ (by omega), o4 _ _ (by omega)]⟩)⟩
  have ne : ∀ j, j < 100 → k ≠ j → ¬ nI k = nI j := fun j hj h z => h ((nI_eq (by omega) (by omega)).mp z)
  apply Ok.jnU
  by_cases k1 : k = 1
  · subst k1
    rcases fin with z | fin
    · omega
    have e3 : Y3 = tk (tkK c L) 21 (tk (tkK c L) 20 (tk (tkK c L) 1 Y.1)) := eY3.symm
    have eP : pfx (tkK c L) (tkV c L) 1 (tk (tkK c L) 1 Y.1) = birY (tkK c L) Y3 := by rw [e3]; rfl
    rw [← birY_alt] at eP
    have hkl3 := tkK_le (c := c) (L := L) (j := Y3.2)
    refine Ok.ifT rfl ?_
    rw [y15.1]
    apply Ok.step (c_kind hT15 w15.2.1)
    by_cases c11 : tkK c L Y3.2 = 11
    · rw [if_pos c11] at eP
      refine Ok.ifT (by rw [c11]; rfl) ?_
      obtain ⟨S49, e49, d49, y49⟩ := c_take (n := n) (k := 11) hT15 y15 w15 (by decide)
      apply Ok.step (show E_X2_take n S15 (11 : Int32) = some S49 from e49)
      have w49 := tk_w (k := 11) w15 (by decide)
      have d49' : Df (XCk l) S S49 := d15'.trans (XTk_Ck d49)
      obtain ⟨S51, e51, d51, y51⟩ := c_take (n := n) (k := 21) (hT.ck hl d49') y49 w49 (by decide)
      apply Ok.step (show E_X2_take n S49 (21 : Int32) = some S51 from e51)
      apply Ok.jnU
      refine Ok.ifF (by decide) ?_
      apply Ok.jnU
      apply Ok.jnU
      refine Ok.ifF (by decide) (Ok.ifF (by decide) ?_)
      exact fin S51 _ eP (tk_w w49 (by decide)) y51 (fun a j h => by rw [xk d51 _ _ h, xk d49 _ _ h, o15 _ _ h]) (d49'.trans (XTk_Ck d51))
    · rw [if_neg c11] at eP
      refine Ok.ifF (fun z => c11 ((nI_eq (b := 11) (by omega) (by decide)).mp z)) ?_
      apply Ok.jnU
      refine Ok.ifF (by decide) ?_
      apply Ok.jnU
      apply Ok.jnU
      refine Ok.ifF (by decide) (Ok.ifF (by decide) ?_)
      exact fin S15 _ eP w15 y15 o15 d15'
  refine Ok.ifF (ne 1 (by decide) k1) ?_
  apply Ok.jnU
  by_cases k8 : k = 8
  · subst k8
    rcases fin with z | fin
    · omega
    have e3 : Y3 = tk (tkK c L) 20 (tk (tkK c L) 20 (tk (tkK c L) 8 Y.1)) := eY3.symm
    have eP : pfx (tkK c L) (tkV c L) 8 (tk (tkK c L) 8 Y.1) = fur (tkK c L) 401 Y3 := by rw [e3]; rfl
    refine Ok.ifT rfl ?_
    obtain ⟨S43, e43, d43, y43⟩ := c_further (n := n) hn hl hT15 y15 w15
    apply Ok.step e43
    apply Ok.jnU
    apply Ok.jnU
    refine Ok.ifF (by decide) (Ok.ifF (by decide) ?_)
    exact fin S43 _ eP (fur_w _ w15) y43 (fun a j h => by rw [xk d43 _ _ h, o15 _ _ h]) (d15'.trans (XTk_Ck d43))
  refine Ok.ifF (ne 8 (by decide) k8) ?_
  apply Ok.jnU
  apply Ok.jnU
  by_cases k9 : k < 9
  · rcases fin with z | fin
    · omega
    refine Ok.ifF (ne 9 (by decide) (by omega)) (Ok.ifF (ne 10 (by decide) (by omega)) ?_)
    refine fin S15 _ ?_ w15 y15 o15 d15'
    rw [← eY3]
    have h7 : k = 0 ∨ k = 2 ∨ k = 3 ∨ k = 4 ∨ k = 5 ∨ k = 6 ∨ k = 7 := by omega
    rcases h7 with h | h | h | h | h | h | h
    all_goals (subst h; rfl)
  -- laws
  have hlaw : ∀ s, s < 2 → k = 9 + s → Ok ((E_X2_take n S15 (12 : Int32)).bind fun S27 => (E_X4_begin n S27 l (nI s)).bind fun S30 => (E_X2_takeCondition n S30 l).bind fun S32 => (E_X4_end n S32 l).bind fun S34 => (E_X2_take n S34 (22 : Int32)).bind fun S24 => some S24) (fun S' => Df (XCk l) S S' ∧ CSY c L l (tY (tkK c L) (tkV c L) k m Y.1, upN Y.2.1 k (m + 1), if 9 ≤ k then upN Y.2.2.1 (k - 9) (Y.2.2.1 (k - 9) ++ [cfL (lawQ (tkK c L) (tkV c L) (begY (tkK c L) k m Y.1))]) else Y.2.2.1, if 9 ≤ k then upN Y.2.2.2 (k - 9) (Y.2.2.2 (k - 9) ++ [cfE (lawQ (tkK c L) (tkV c L) (begY (tkK c L) k m Y.1))]) else Y.2.2.2) S') := fun s hs ek => by
    subst ek
    have e3 : Y3 = tk (tkK c L) (9 + s) Y.1 := by
      rw [← eY3]
      have : s = 0 ∨ s = 1 := by omega
      rcases this with h | h
      all_goals (subst h; rfl)
    have m4 : m < 4 := by rw [cmx_law hs] at q2 cm; omega
    rw [if_pos (by omega), if_pos (by omega), show 9 + s - 9 = s by omega, ebeg, ← e3]
    have etY : tY (tkK c L) (tkV c L) (9 + s) m Y.1 = tk (tkK c L) 22 (lawQ (tkK c L) (tkV c L) Y3).y := by
      unfold tY
      rw [ebeg, ← e3]
      unfold pfx
      rw [if_neg (by omega), if_neg (by omega), if_neg (by omega), if_neg (by omega), if_neg (by omega), if_neg (by omega), if_neg (by omega), if_neg (by omega), if_neg (by omega)]
    rw [etY]
    obtain ⟨S27, e27, d27, y27⟩ := c_take (n := n) (k := 12) hT15 y15 w15 (by decide)
    apply Ok.step (show E_X2_take n S15 (12 : Int32) = some S27 from e27)
    have w27 := tk_w (k := 12) w15 (by decide)
    have d27' : Df (XCk l) S S27 := d15'.trans (XTk_Ck d27)
    have o27 : ∀ a j, (a ≠ 15 ∨ (j ≠ 4 ∧ j ≠ 5)) → a ≠ 16 → S27.1 a j = S.1 a j := fun a j h h2 => by rw [xk d27 _ _ h, o15 _ _ h, o4 _ _ h2]
    obtain ⟨g1, g2, g3⟩ := nL s hs
    rw [hm] at g1 g2 g3
    obtain ⟨S30, e30, o30, l30, a1, a2, a3, a4⟩ := c_lbegin (n := n) (S := S27) hl hs m4 (by rw [o27 _ _ (by omega) (by omega)]; exact g1) (by rw [o27 _ _ (by omega) (by omega)]; exact n7)
    apply Ok.step e30
    have d30 : Df (XCk l) S27 S30 := ⟨l30, fun a j hx => by
      refine o30 a j ?_ ?_ ?_
      all_goals
        simp only [XCk, Bool.or_eq_false_iff, Bool.and_eq_false_iff, beq_eq_false_iff_ne, decide_eq_false_iff_not] at hx
        omega⟩
    have d30' := d27'.trans d30
    have y30 : CY (tk (tkK c L) 12 Y3) S30 := ⟨by rw [o30 _ _ (by omega) (by omega) (by omega)]; exact y27.1, by rw [o30 _ _ (by omega) (by omega) (by omega)]; exact y27.2⟩
    have hT30 := hT.ck hl d30'
    by_cases f0 : (tk (tkK c L) 12 Y3).1 = 0
    case neg =>
      obtain ⟨S32, e32, d32, y32, o32⟩ := c_condF (n := n) (l := l) hn hl y30 w27 f0
      apply Ok.step e32
      have e8 : S32.1 l 8 = nI (4 * s + m) := by rw [o32 _ _ (by omega)]; exact a1
      unfold E_X4_end
      rw [e8]
      apply Ok.step (x := upI S32 (l + 4) (4 * s + m) (S32.1 l 7)) (by rw [wr_nI (by omega) (by decide)]; rfl)
      have d34 : Df (XCk l) S (upI S32 (l + 4) (4 * s + m) (S32.1 l 7)) := (d30'.trans d32).up (by
        have : ¬ (l + 5 < l + 4) := by omega
        simp [XCk])
      obtain ⟨S24, e24, d24, y24⟩ := c_take (n := n) (k := 22) (hT.ck hl d34) (y := tk (tkK c L) 12 Y3) ⟨by rw [upI_at, if_neg (by omega)]; exact y32.1, by rw [upI_at, if_neg (by omega)]; exact y32.2⟩ w27 (by decide)
      apply Ok.step (show E_X2_take n _ (22 : Int32) = some S24 from e24)
      rw [lawQ_f2 f0]
      refine Ok.ret ⟨d34.trans (XTk_Ck d24), y24, tk_w w27 (by decide), fun z => ?_⟩
      have z' : (tk (tkK c L) 22 (tk (tkK c L) 12 Y3)).1 = 0 := z
      rw [tk_f f0] at z'
      exact absurd z' f0
    obtain ⟨u1, u2, u3, u4⟩ := tk_0 f0
    have u1' := u1
    rw [e3] at u1'
    obtain ⟨v1, v2, v3, v4⟩ := tk_0 u1'
    have ey2 : (tk (tkK c L) 12 Y3).2 = Y.1.2 + 2 := by rw [u4, e3, v4]
    obtain ⟨S32, e32, q, hr, dn, hQ, d32, y32, hfin, z, ez, hz⟩ := c_cond (n := n) (N0 := N) hn hT30 hl y30 w27 (by omega) (by rw [o30 _ _ (by omega) (by omega) (by omega), o27 _ _ (by omega) (by omega)]; exact n7)
    apply Ok.step e32
    have eq : lawQ (tkK c L) (tkV c L) Y3 = q := crun_of (CQI.init w27) hr dn
    have x8 : XGr l N l 8 = false := by
      simp only [XGr, Bool.or_eq_false_iff, Bool.and_eq_false_iff, beq_eq_false_iff_ne, decide_eq_false_iff_not]
      omega
    have e8 : S32.1 l 8 = nI (4 * s + m) := by rw [d32.2 _ _ x8]; exact a1
    unfold E_X4_end
    rw [e8, ez]
    apply Ok.step (x := upI S32 (l + 4) (4 * s + m) (nI z)) (by rw [wr_nI (by omega) (by decide)]; rfl)
    have d34 : Df (XCk l) S (upI S32 (l + 4) (4 * s + m) (nI z)) := (d30'.trans (XGr_Ck d32)).up (by simp [XCk])
    obtain ⟨S24, e24, d24, y24⟩ := c_take (n := n) (k := 22) (hT.ck hl d34) (y := q.y) ⟨by rw [upI_at, if_neg (by omega)]; exact y32.1, by rw [upI_at, if_neg (by omega)]; exact y32.2⟩ hQ.1 (by decide)
    apply Ok.step (show E_X2_take n _ (22 : Int32) = some S24 from e24)
    rw [eq]
    refine Ok.ret ⟨d34.trans (XTk_Ck d24), y24, tk_w hQ.1 (by decide), fun zz => ?_⟩
    have z0 : (tk (tkK c L) 22 q.y).1 = 0 := zz
    obtain ⟨p1, p2, p3, p4⟩ := tk_0 z0
    obtain ⟨h7, hst, hb⟩ := hfin p1
    have hlen := cfE_len hQ p1 dn
    have htot : totQ q + (tk (tkK c L) 12 Y3).2 ≤ q.y.2 + q.y.1 := hQ.2.2.2.1
    have ezz : z = N + (cfE q).length := by
      rw [ez] at h7
      exact (nI_eq (by omega) (by omega)).mp h7
    subst ezz
    -- what the end does not change
    have o24 : ∀ a j, (a ≠ 15) → (a ≠ l + 4 ∨ j ≠ 4 * s + m) → S24.1 a j = S32.1 a j := fun a j h h2 => by rw [xk d24 _ _ (by omega), upI_at, if_neg (by omega)]
    have o32 : ∀ a j, a ≠ 15 → a ≠ 17 → (a ≠ l ∨ j ≠ 7) → ((a ≠ l + 1 ∧ a ≠ l + 2) ∨ j < N) → S32.1 a j = S30.1 a j := fun a j h1 h2 h3 h4 => d32.2 _ _ (by
      simp only [XGr, Bool.or_eq_false_iff, Bool.and_eq_false_iff, beq_eq_false_iff_ne, decide_eq_false_iff_not]
      omega)
    -- a law told ahead
    have old : ∀ (E : CD) (i : Nat), i < 8 → i ≠ 4 * s + m → LwC l E i N S → LwC l E i (N + (cfE q).length) S24 := fun E i hi hne hE => by
      obtain ⟨a, b1, b2, b3, b4⟩ := hE
      refine ⟨a, ?_, ?_, by omega, b4.fr (fun j hj1 hj2 => ⟨?_, ?_⟩)⟩
      · rw [o24 _ _ (by omega) (by omega), o32 _ _ (by omega) (by omega) (by omega) (by omega), o30 _ _ (by omega) (by omega) (by omega), o27 _ _ (by omega) (by omega)]; exact b1
      · rw [o24 _ _ (by omega) (by omega), o32 _ _ (by omega) (by omega) (by omega) (by omega), o30 _ _ (by omega) (by omega) (by omega), o27 _ _ (by omega) (by omega)]; exact b2
      · rw [o24 _ _ (by omega) (by omega), o32 _ _ (by omega) (by omega) (by omega) (by omega), o30 _ _ (by omega) (by omega) (by omega), o27 _ _ (by omega) (by omega)]
      · rw [o24 _ _ (by omega) (by omega), o32 _ _ (by omega) (by omega) (by omega) (by omega), o30 _ _ (by omega) (by omega) (by omega), o27 _ _ (by omega) (by omega)]
    refine ⟨fun j hj => ?_, N + (cfE q).length, ?_, ?_, hb, fun s' hs' => ?_⟩
    · show S24.1 16 j = nI (upN Y.2.1 (9 + s) (m + 1) j) ∧ upN Y.2.1 (9 + s) (m + 1) j ≤ cmx j
      rw [o24 _ _ (by omega) (by omega), o32 _ _ (by omega) (by omega) (by omega) (by omega), o30 _ _ (by omega) (by omega) (by omega), xk d27 _ _ (by omega), o15 _ _ (by omega), ← eS4, upI_at]
      by_cases e : j = 9 + s
      · subst e; rw [if_pos ⟨rfl, rfl⟩, upN_s]; exact ⟨rfl, by omega⟩
      · rw [if_neg (fun z => e z.2), upN_n e]; exact hcnt j hj
    · rw [o24 _ _ (by omega) (by omega)]; exact ez
    · show N + (cfE q).length ≤ (tk (tkK c L) 22 q.y).2
      rw [p4]
      show N + (cfE q).length ≤ q.y.2 + 1
      omega
    · by_cases ess : s' = s
      · subst ess
        show S24.1 (l + 5) s' = nI (upN Y.2.1 (9 + s') (m + 1) (9 + s')) ∧ (upN Y.2.2.2 s' (Y.2.2.2 s' ++ [cfE q]) s').length = upN Y.2.1 (9 + s') (m + 1) (9 + s') ∧ ∀ i, i < upN Y.2.1 (9 + s') (m + 1) (9 + s') → LwC l ((upN Y.2.2.2 s' (Y.2.2.2 s' ++ [cfE q]) s').getD i []) (4 * s' + i) (N + (cfE q).length) S24
        rw [upN_s, upN_s]
        refine ⟨?_, by rw [List.length_append, g2]; rfl, fun i hi => ?_⟩
        · rw [o24 _ _ (by omega) (by omega), o32 _ _ (by omega) (by omega) (by omega) (by omega)]; exact a2
        · by_cases e : i = m
          · subst e
            rw [← g2, getD_last, g2]
            refine ⟨N, ?_, ?_, Nat.le_refl _, hst.fr (fun j _ _ => ⟨o24 _ _ (by omega) (by omega), o24 _ _ (by omega) (by omega)⟩)⟩
            · rw [o24 _ _ (by omega) (by omega), o32 _ _ (by omega) (by omega) (by omega) (by omega)]; exact a3
            · rw [xk d24 _ _ (by omega), upI_at, if_pos ⟨rfl, rfl⟩]
          · rw [getD_app (by omega)]
            exact old _ _ (by omega) (by omega) (g3 i (by omega))
      · obtain ⟨r1, r2, r3⟩ := nL s' hs'
        have rb : Y.2.1 (9 + s') ≤ 4 := by
          have := (hcnt (9 + s') (by omega)).2
          rw [cmx_law hs'] at this
          exact this
        show S24.1 (l + 5) s' = nI (upN Y.2.1 (9 + s) (m + 1) (9 + s')) ∧ (upN Y.2.2.2 s (Y.2.2.2 s ++ [cfE q]) s').length = upN Y.2.1 (9 + s) (m + 1) (9 + s') ∧ ∀ i, i < upN Y.2.1 (9 + s) (m + 1) (9 + s') → LwC l ((upN Y.2.2.2 s (Y.2.2.2 s ++ [cfE q]) s').getD i []) (4 * s' + i) (N + (cfE q).length) S24
        rw [upN_n (by omega), upN_n ess]
        refine ⟨?_, r2, fun i hi => old _ _ (by omega) (by omega) (r3 i hi)⟩
        rw [o24 _ _ (by omega) (by omega), o32 _ _ (by omega) (by omega) (by omega) (by omega), o30 _ _ (by omega) (by omega) (by omega), o27 _ _ (by omega) (by omega)]; exact r1
  by_cases k9' : k = 9
  · refine Ok.ifT (by rw [k9']; rfl) ?_
    have h := hlaw 0 (by decide) (by omega)
    obtain ⟨S', h1, h2⟩ := h
    refine ⟨S', ?_, h2⟩
    rw [← h1]
    simp only [jn, if_neg (show ¬ nI k = (10 : Int32) from ne 10 (by decide) (by omega))]
    rfl
  · refine Ok.ifF (ne 9 (by decide) k9') (Ok.ifT (by rw [show k = 10 by omega]; rfl) ?_)
    have h := hlaw 1 (by decide) (by omega)
    obtain ⟨S', h1, h2⟩ := h
    refine ⟨S', ?_, h2⟩
    rw [← h1]
    simp only [jn, if_pos (show nI k = (10 : Int32) by rw [show k = 10 by omega]; rfl)]
    rfl
end CCT
