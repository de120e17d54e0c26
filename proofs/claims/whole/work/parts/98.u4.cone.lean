/-! ===== the class is told: one by one ===== -/
/-- no semicolon on the way -/
def Ns (K : Nat → Nat) (y y' : Nat × Nat) : Prop := y'.1 = 0 → y.1 = 0 ∧ y.2 ≤ y'.2 ∧ ∀ p, y.2 ≤ p → p < y'.2 → K p ≠ 22
theorem Ns.rf {K : Nat → Nat} (y : Nat × Nat) : Ns K y y := fun h => ⟨h, Nat.le_refl _, fun p h1 h2 => absurd h2 (by omega)⟩
theorem Ns.tr {K : Nat → Nat} {a b d : Nat × Nat} (h : Ns K a b) (h2 : Ns K b d) : Ns K a d := fun z => by
  obtain ⟨g1, g2, g3⟩ := h2 z
  obtain ⟨q1, q2, q3⟩ := h g1
  refine ⟨q1, by omega, fun p p1 p2 => ?_⟩
  rcases Nat.lt_or_ge p b.2 with r | r
  · exact q3 p p1 r
  · exact g3 p r p2
theorem Ns.tkN {K : Nat → Nat} {k : Nat} (hk : k ≠ 22) (y : Nat × Nat) : Ns K y (tk K k y) := fun z => by
  obtain ⟨a1, a2, a3, a4⟩ := tk_0 z
  rw [a4]
  refine ⟨a1, Nat.le_succ _, fun p p1 p2 => ?_⟩
  dsimp only at p2
  rw [show p = y.2 by omega, a2]; exact hk
theorem Ns.furN {K : Nat → Nat} : ∀ (n : Nat) (y : Nat × Nat), Ns K y (fur K n y) := by
  intro n
  induction n with
  | zero => exact fun y => Ns.rf y
  | succ n ih =>
    intro y
    rw [fur]
    split
    · exact ((Ns.tkN (by decide) y).tr (Ns.tkN (by decide) _)).tr (ih _)
    · exact Ns.rf y
theorem Ns.cst {K V : Nat → Nat} (q : CQ) (h0 : q.y.1 = 0) : Ns K q.y (cst K V q).y := fun z => by
  obtain ⟨h1, h2⟩ := cst_22 z
  refine ⟨h0, by omega, fun p p1 p2 => ?_⟩
  rw [show p = q.y.2 by omega]; exact h2
theorem Ns.crunN {K V : Nat → Nat} : ∀ (n : Nat) (q : CQ), Ns K q.y (crun K V n q).y := by
  intro n
  induction n with
  | zero => exact fun q => Ns.rf _
  | succ n ih =>
    intro q
    rw [crun]
    by_cases c : cdnB K q = true
    · rw [if_pos c]; exact Ns.rf _
    · rw [if_neg c]
      have h0 : q.y.1 = 0 := by
        rcases Nat.eq_zero_or_pos q.y.1 with h | h
        · exact h
        · exact absurd (cdnB_iff.mpr (Or.inl (by omega))) c
      exact (Ns.cst q h0).tr (ih _)
theorem Ns.pfxN {K V : Nat → Nat} {k : Nat} (y : Nat × Nat) : Ns K y (pfx K V k y) := by
  have t : ∀ {j : Nat} {a b : Nat × Nat}, j ≠ 22 → Ns K a b → Ns K a (tk K j b) := fun hj h => h.tr (Ns.tkN hj _)
  unfold pfx
  split
  · exact t (by decide) (Ns.rf y)
  split
  · unfold birY
    split
    · exact t (by decide) (t (by decide) (t (by decide) (t (by decide) (Ns.rf y))))
    · exact t (by decide) (t (by decide) (Ns.rf y))
  split
  · exact t (by decide) (t (by decide) (Ns.rf y))
  split
  · exact t (by decide) (t (by decide) (Ns.rf y))
  split
  · exact t (by decide) (t (by decide) (t (by decide) (t (by decide) (Ns.rf y))))
  split
  · exact t (by decide) (t (by decide) (Ns.rf y))
  split
  · exact t (by decide) (t (by decide) (t (by decide) (Ns.rf y)))
  split
  · exact t (by decide) (t (by decide) (t (by decide) (Ns.rf y)))
  split
  · exact (t (by decide) (t (by decide) (Ns.rf y))).tr (Ns.furN _ _)
  · unfold lawQ
    exact (t (by decide) (Ns.rf y)).tr (Ns.crunN 402 (cInit _))
theorem tY_semi {K V : Nat → Nat} {k m : Nat} {y : Nat × Nat} (hw : yW K y) (hk : k < 11) (h0 : (tY K V k m y).1 = 0) : ∀ p, y.2 ≤ p → p < (tY K V k m y).2 → (K p = 22 ↔ p + 1 = (tY K V k m y).2) := by
  obtain ⟨t1, t2, t3, t4, t5, t6⟩ := tY_lt hw hk h0
  intro p p1 p2
  rw [t5] at p2 ⊢
  dsimp only at p2 ⊢
  obtain ⟨q1, q2, q3⟩ := (Ns.tkN (K := K) (k := k) (by omega) y).tr (Ns.pfxN (V := V) (k := k) _) t4
  rcases Nat.lt_or_ge p (pfx K V k (tk K k y)).2 with r | r
  · exact ⟨fun z => absurd z (q3 p p1 r), fun z => by omega⟩
  · have : p = (pfx K V k (tk K k y)).2 := by omega
    rw [this]
    exact ⟨fun _ => rfl, fun _ => t6⟩
theorem syR_ok {K V : Nat → Nat} {n : Nat} {Y : SY} (h : (syR K V (n + 1) Y).1.1 = 0) : Y.1.1 = 0 ∧ (K Y.1.2 = 35 ∨ (K Y.1.2 < 11 ∧ (syT K V Y).1.1 = 0)) := by
  by_cases d : Y.1.1 ≠ 0 ∨ K Y.1.2 = 35
  · rw [syR_done d] at h
    exact ⟨h, Or.inl (by omega)⟩
  have h0 : Y.1.1 = 0 := by omega
  have e : syR K V (n + 1) Y = syR K V n (syT K V Y) := if_neg d
  rw [e] at h
  have h1 : (syT K V Y).1.1 = 0 := by
    rcases Nat.eq_zero_or_pos (syT K V Y).1.1 with q | q
    · exact q
    · rw [syR_done (Or.inl (by omega))] at h; exact h
  refine ⟨h0, Or.inr ⟨?_, h1⟩⟩
  rcases Nat.lt_or_ge (K Y.1.2) 11 with q | q
  · exact q
  · rw [syT_f (by omega)] at h1; cases h1
theorem syT_cnt {K V : Nat → Nat} {Y : SY} (h : K Y.1.2 < 11) : (syT K V Y).2.1 = upN Y.2.1 (K Y.1.2) (Y.2.1 (K Y.1.2) + 1) := by
  unfold syT
  rw [if_pos h]
theorem seT_some {K V : Nat → Nat} {cnt : Nat → Nat} {i : Nat} {M : SM} {x : Nat × Nat} (h : M.2.2 = some x) : seT K V cnt i M = M := by
  unfold seT
  rw [h, if_pos (by rfl)]
theorem smR_some {K V : Nat → Nat} {x : Nat × Nat} : ∀ (n : Nat) (Y : SY) (M : SM), M.2.2 = some x → smR K V n Y M = M := by
  intro n
  induction n with
  | zero => intro Y M _; rfl
  | succ n ih =>
    intro Y M h
    rw [smR]
    split
    · rfl
    split
    · rw [seT_some h]; exact ih _ _ h
    · rfl
theorem NT_up {K V : Nat → Nat} {cnt : Nat → Nat} {T : NTb} {k i : Nat} (hw : NTw cnt T) (hF : semF K V T k i = none) (hv : V (i + 1) < 2 ^ 63) : NTw (upN cnt k (cnt k + 1)) (semT V T k (cnt k) i) := by
  have up : ∀ a, cnt a ≤ upN cnt k (cnt k + 1) a := fun a => by
    by_cases e : a = k
    · rw [e, upN_s]; omega
    · rw [upN_n e]; exact Nat.le_refl _
  unfold semT
  cases hn : isNm k with
  | true =>
    rw [if_pos rfl]
    have hl := lk_none (semF_nm hn hF)
    refine ⟨fun e he => ?_, fun a b ha hb hab => ?_⟩
    · rcases List.mem_append.mp he with he | he
      · obtain ⟨g1, g2, g3⟩ := hw.1 e he
        exact ⟨g1, g2, Nat.lt_of_lt_of_le g3 (up _)⟩
      · rw [List.mem_singleton.mp he]
        exact ⟨hv, hn, by show cnt k < upN cnt k (cnt k + 1) k; rw [upN_s]; omega⟩
    · rw [List.length_append] at ha hb
      simp only [List.length_cons, List.length_nil] at ha hb
      by_cases ea : a = T.length
      · by_cases eb : b = T.length
        · omega
        · rw [ea, getD_last, getD_app (by omega)] at hab
          exact absurd hab.symm (hl _ (getD_mem (by omega)))
      · by_cases eb : b = T.length
        · rw [eb, getD_last, getD_app (by omega)] at hab
          exact absurd hab (hl _ (getD_mem (by omega)))
        · rw [getD_app (by omega), getD_app (by omega)] at hab
          exact hw.2 a b (by omega) (by omega) hab
  | false =>
    rw [if_neg (by decide)]
    refine ⟨fun e he => ?_, hw.2⟩
    obtain ⟨g1, g2, g3⟩ := hw.1 e he
    exact ⟨g1, g2, Nat.lt_of_lt_of_le g3 (up _)⟩
theorem semT_len {V : Nat → Nat} {cnt : Nat → Nat} {T : NTb} {k i : Nat} (hk : k < 11) (h : T.length = nmN cnt) : (semT V T k (cnt k) i).length = nmN (upN cnt k (cnt k + 1)) := by
  rw [nmN_up hk]
  unfold semT
  cases hn : isNm k with
  | true => rw [if_pos rfl, if_pos rfl, List.length_append, h]; rfl
  | false => rw [if_neg (by decide), if_neg (by decide)]; exact h
theorem NTw_v {cnt : Nat → Nat} {T : NTb} (h : NTw cnt T) (hc : ∀ k, k < 11 → cnt k ≤ 20) : NTv T := fun e he => by
  obtain ⟨h1, h2, h3⟩ := h.1 e he
  have := isNm_lt h2
  have := hc _ this
  exact ⟨h1, by omega, by omega⟩
section CON
variable {n L w : Nat} {c : Nat → Nat} {S S' : ST}
theorem c_tellOne {Y : SY} {M : SM} (hn : 30000 ≤ n) (hw : w = 22 ∨ w = 47) (hY : yW (tkK c L) Y.1) (h0 : Y.1.1 = 0) (hk : tkK c L Y.1.2 < 11) (hz : (syT (tkK c L) (tkV c L) Y).1.1 = 0) (hnx : tkK c L (syT (tkK c L) (tkV c L) Y).1.2 ≠ 20) (hcm : ∀ k, k < 11 → Y.2.1 k ≤ cmx k) (hT : CTk c L S) (hN : NTC M.1 S) (hlen : M.1.length = nmN Y.2.1) (hNw : NTw Y.2.1 M.1) (hF : FC none S) (hC : CTd w Y.2.1 M.2.1 S) :
    Ok (E_X8_tellOne n S w (nI Y.1.2)) (CRs c L w Y.2.1 M.1 M.2.1 (tkK c L Y.1.2) Y.1.2 S) := by
  have hz' := hz
  rw [syT_1 hk] at hz hnx
  have hwe := tY_w (V := tkV c L) (m := Y.2.1 (tkK c L Y.1.2)) hY hk
  obtain ⟨_, tm, _, _, _, _⟩ := tY_lt hY hk hz
  have hB : CBg c L (tY (tkK c L) (tkV c L) (tkK c L Y.1.2) (Y.2.1 (tkK c L Y.1.2)) Y.1).2 M.1 none S := ⟨hT, hN, NTw_v hNw (fun k hk => Nat.le_trans (hcm k hk) (cmx_le hk)), hF, hwe.2.1, hwe.2.2⟩
  have hl32 : isNm (tkK c L Y.1.2) = true → M.1.length < 32 := fun h => by rw [hlen]; exact nmN_lt hcm h tm
  have hc0 : Y.2.1 0 ≤ 6 := hcm 0 (by decide)
  have hc1 : Y.2.1 1 ≤ 10 := hcm 1 (by decide)
  have hc2 : Y.2.1 2 ≤ 6 := hcm 2 (by decide)
  have hck := hcm _ hk
  unfold E_X8_tellOne
  apply Ok.step (c_kind (n := n) hT hY.2.1)
  apply Ok.jnU
  apply Ok.jnU
  apply Ok.jnU
  apply Ok.jnU
  have hcs : tkK c L Y.1.2 = 0 ∨ tkK c L Y.1.2 = 1 ∨ tkK c L Y.1.2 = 2 ∨ tkK c L Y.1.2 = 3 ∨ tkK c L Y.1.2 = 4 ∨ tkK c L Y.1.2 = 5 ∨ tkK c L Y.1.2 = 6 ∨ tkK c L Y.1.2 = 7 ∨ tkK c L Y.1.2 = 8 ∨ tkK c L Y.1.2 = 9 ∨ tkK c L Y.1.2 = 10 := by omega
  generalize hkk : tkK c L Y.1.2 = k at *
  rcases hcs with h | h | h | h | h | h | h | h | h | h | h
  · subst h
    obtain ⟨q1, q2⟩ := tok_0 hY hz
    refine Ok.ifT (by decide) ?_
    obtain ⟨S1, f1, r1⟩ := c_tell0 (n := n) (i := Y.1.2) hn hw hB (hl32 rfl) hC (by have : Y.2.1 0 ≠ 6 := tm; omega) (by omega)
    exact Ok.step f1 (Ok.ret r1)
  · subst h
    obtain ⟨q1, q2, q3, q4⟩ := tok_1 hY hz
    refine Ok.ifF (by decide) (Ok.ifT (by decide) ?_)
    obtain ⟨S1, f1, r1⟩ := c_tell1 (n := n) (i := Y.1.2) hn hw hB (hl32 rfl) hC (by have : Y.2.1 1 ≠ 10 := tm; omega) (by
      by_cases e : tkK c L (Y.1.2 + 3) = 11
      · have := (q3 e).2; omega
      · have := q4 e; omega) q2 (fun e => ⟨by have := (q3 e).2; omega, (q3 e).1⟩)
    exact Ok.step f1 (Ok.ret r1)
  · subst h
    obtain ⟨q1, q2, q3⟩ := tok_2 hY hz
    refine Ok.ifF (by decide) (Ok.ifF (by decide) (Ok.ifT (by decide) ?_))
    obtain ⟨S1, f1, r1⟩ := c_tell2 (n := n) (i := Y.1.2) hn hw hB (hl32 rfl) hC (by have : Y.2.1 2 ≠ 6 := tm; omega) (by omega) q2
    exact Ok.step f1 (Ok.ret r1)
  · subst h
    have q1 := tok_35 (Or.inl rfl) hY hz
    refine Ok.ifF (by decide) (Ok.ifF (by decide) (Ok.ifF (by decide) (Ok.ifT (by decide) ?_)))
    obtain ⟨S1, f1, r1⟩ := c_tell3 (n := n) (i := Y.1.2) hn hw hB hNw hc0 hC (by omega)
    exact Ok.step f1 (Ok.ret r1)
  · subst h
    obtain ⟨q1, q2, q3⟩ := tok_4 hY hz
    refine Ok.ifF (by decide) (Ok.ifF (by decide) (Ok.ifF (by decide) (Ok.ifF (by decide) (Ok.ifT (by decide) ?_))))
    obtain ⟨S1, f1, r1⟩ := c_tell4 (n := n) (i := Y.1.2) hn hw hB hNw hc0 hc1 hC (by omega) q1 q2
    exact Ok.step f1 (Ok.ret r1)
  · subst h
    have q1 := tok_35 (Or.inr rfl) hY hz
    refine Ok.ifF (by decide) (Ok.ifF (by decide) (Ok.ifF (by decide) (Ok.ifF (by decide) (Ok.ifF (by decide) (Ok.ifT (by decide) ?_)))))
    obtain ⟨S1, f1, r1⟩ := c_tell5 (n := n) (i := Y.1.2) hn hw hB hNw hc1 hc2 hC (by omega)
    exact Ok.step f1 (Ok.ret r1)
  · subst h
    obtain ⟨q1, q2⟩ := tok_67 (Or.inl rfl) hY hz
    refine Ok.ifF (by decide) (Ok.ifF (by decide) (Ok.ifF (by decide) (Ok.ifF (by decide) (Ok.ifF (by decide) (Ok.ifF (by decide) (Ok.ifT (by decide) ?_))))))
    obtain ⟨S1, f1, r1⟩ := c_tell6 (n := n) (i := Y.1.2) hn hw hB hC (by have : Y.2.1 6 ≠ 12 := tm; have : Y.2.1 6 ≤ 12 := hck; omega) (by omega) q1
    exact Ok.step f1 (Ok.ret r1)
  · subst h
    obtain ⟨q1, q2⟩ := tok_67 (Or.inr rfl) hY hz
    refine Ok.ifF (by decide) (Ok.ifF (by decide) (Ok.ifF (by decide) (Ok.ifF (by decide) (Ok.ifF (by decide) (Ok.ifF (by decide) (Ok.ifF (by decide) (Ok.ifT (by decide) ?_)))))))
    exact c_tell7 (n := n) (i := Y.1.2) hn hw hB (hl32 rfl) hC (by have : Y.2.1 7 ≠ 6 := tm; have : Y.2.1 7 ≤ 6 := hck; omega) (by omega) q1
  · subst h
    obtain ⟨_, _, s3, s4⟩ := beg_0 (m := Y.2.1 8) hY (by decide) hz
    have e1 : pfx (tkK c L) (tkV c L) 8 (0, Y.1.2 + 1) = fur (tkK c L) 401 (tk (tkK c L) 20 (tk (tkK c L) 20 (0, Y.1.2 + 1))) := rfl
    have h1 : (tk (tkK c L) 20 (0, Y.1.2 + 1)).1 = 0 := by
      rcases Nat.eq_zero_or_pos (tk (tkK c L) 20 (0, Y.1.2 + 1)).1 with q | q
      · exact q
      · rw [e1, tk_f (k := 20) (y := tk (tkK c L) 20 (0, Y.1.2 + 1)) (by omega), fur_f (by omega)] at s3; exact s3
    obtain ⟨a1, a2⟩ := tk_00 h1
    have a2' : tk (tkK c L) 20 (0, Y.1.2 + 1) = (0, Y.1.2 + 2) := a2
    rw [a2'] at e1
    have h2 : Y.1.2 + 2 < (tY (tkK c L) (tkV c L) 8 (Y.2.1 8) Y.1).2 := by
      obtain ⟨_, q2, _⟩ := (Ns.tkN (K := tkK c L) (k := 20) (by decide) (0, Y.1.2 + 2)).tr (Ns.furN 401 _) (by rw [← e1]; exact s3)
      rw [s4, e1]
      dsimp only at q2 ⊢
      omega
    refine Ok.ifF (by decide) (Ok.ifF (by decide) (Ok.ifF (by decide) (Ok.ifF (by decide) (Ok.ifF (by decide) (Ok.ifF (by decide) (Ok.ifF (by decide) (Ok.ifF (by decide) (Ok.ifT (by decide) ?_))))))))
    exact c_tell8 (n := n) (i := Y.1.2) hn hw hB hNw (hl32 rfl) hc2 hC (by have : Y.2.1 8 ≠ 4 := tm; have : Y.2.1 8 ≤ 4 := hck; omega) rfl (by rw [← e1]; exact s3) (by rw [s4, e1]) hnx h2
  · subst h
    refine Ok.ifF (by decide) (Ok.ifF (by decide) (Ok.ifF (by decide) (Ok.ifF (by decide) (Ok.ifF (by decide) (Ok.ifF (by decide) (Ok.ifF (by decide) (Ok.ifF (by decide) (Ok.ifF (by decide) (Ok.ifT (by decide) ?_)))))))))
    exact c_tellL (Or.inl rfl) hw hB hC
  · subst h
    refine Ok.ifF (by decide) (Ok.ifF (by decide) (Ok.ifF (by decide) (Ok.ifF (by decide) (Ok.ifF (by decide) (Ok.ifF (by decide) (Ok.ifF (by decide) (Ok.ifF (by decide) (Ok.ifF (by decide) (Ok.ifF (by decide) (Ok.ifT (by decide) ?_))))))))))
    exact c_tellL (Or.inr rfl) hw hB hC
/-- the end of the text is no tell -/
theorem c_tellEnd {i : Nat} (hT : CTk c L S) (hi : i ≤ 400) (hk : tkK c L i = 35) : E_X8_tellOne n S w (nI i) = some S := by
  apply Ok.e
  unfold E_X8_tellOne
  apply Ok.step (c_kind (n := n) hT hi)
  apply Ok.jnU
  apply Ok.jnU
  apply Ok.jnU
  apply Ok.jnU
  rw [hk]
  exact Ok.ifF (by decide) (Ok.ifF (by decide) (Ok.ifF (by decide) (Ok.ifF (by decide) (Ok.ifF (by decide) (Ok.ifF (by decide) (Ok.ifF (by decide) (Ok.ifF (by decide) (Ok.ifF (by decide) (Ok.ifF (by decide) (Ok.ifF (by decide) (Ok.ret rfl)))))))))))
end CON
