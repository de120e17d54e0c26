/-! ===== the class is told: tasks, all tells ===== -/
theorem tsk_ext {K V : Nat → Nat} {T T' : NTb} (h : ∀ j, oldN V T' 2 j = oldN V T 2 j) : ∀ n s j, tsk K V T' n s j = tsk K V T n s j := by
  intro n
  induction n with
  | zero => intro s j; rfl
  | succ n ih =>
    intro s j
    rw [tsk, tsk, h j]
    cases oldN V T 2 j with
    | none => rfl
    | some t =>
      dsimp only
      rw [ih]
section CTT
variable {n L w e i : Nat} {c : Nat → Nat} {cnt : Nat → Nat} {W W' : VW} {T : NTb} {S S' : ST}
/-- how many tokens there are -/
theorem c_size (h : CTk c L S) : ∃ z, S.1 10 4 = nI (z + 1) ∧ z ≤ 401 ∧ (∀ p, p ≤ 400 → (∀ i, i ≤ p → tkK c L i ≠ 35) → p < z) ∧ ∀ p, p ≤ 400 → tkK c L p = 35 → (∀ i, i < p → tkK c L i ≠ 35) → p = z := by
  obtain ⟨z, hz, h1, h2, h3, h4, h5, h6⟩ := h
  refine ⟨z, h1, hz, fun p hp hv => ?_, fun p hp h35 hv => ?_⟩
  · rcases h6 with h6 | h6
    · rcases Nat.lt_or_ge p z with q | q
      · exact q
      · exact absurd (tkK_end.mpr h6) (hv z q)
    · omega
  · rcases Nat.lt_or_ge p z with q | q
    · have := (h2 p q).1
      rw [tkK_end.mp h35] at this
      omega
    · rcases h6 with h6 | h6
      · rcases Nat.lt_or_ge z p with q2 | q2
        · exact absurd (tkK_end.mpr h6) (hv z q2)
        · omega
      · omega
theorem c_things {j0 sN : Nat} {sf0 sfF : SF} {yF : Nat × Nat} (hn : 30000 ≤ n) (hB : CBg c L e T sf0 S) (hT : NTw cnt T ∨ ∃ T0 v m, NTw cnt T0 ∧ T = T0 ++ [(v, 8, m)]) (hc2 : cnt 2 ≤ 6)
    (hyF : fur (tkK c L) 401 (tk (tkK c L) 20 (0, j0)) = yF) (hy0 : yF.1 = 0) (hye : yF.2 + 1 = e) (hend : tkK c L e ≠ 20) (hsF : orF sf0 (tsk (tkK c L) (tkV c L) T 401 0 j0).1 = sfF) (hsN : (tsk (tkK c L) (tkV c L) T 401 0 j0).2 = sN) (hj0 : j0 ≤ 400) :
    Ok (E_X8_taskThings n S (nI j0)) (fun r => Df XFc S r.2 ∧ CBg c L e T sfF r.2 ∧ (sfF = none → r.1 = nI sN)) := by
  have hon : ∀ j, oN (tkV c L) T 2 j < 6 := fun j => by
    rcases hT with h | ⟨T0, v, m, h, h2⟩
    · exact oN_lt h hc2 (by decide)
    · rw [h2, oN_eq (oldN_app (by decide))]; exact oN_lt h hc2 (by decide)
  have he := hB.2.2.2.2.1
  have hev := hB.2.2.2.2.2
  unfold E_X8_taskThings
  refine bindW (fun d (s : Int32 × Int32 × ST) => ∃ j sf, s.2.1 = nI j ∧ j ≤ e ∧ d = 402 - j ∧ Df XFc S s.2.2 ∧ CBg c L e T sf s.2.2 ∧ ((j = e ∧ sf = sfF ∧ (sf = none → s.1 = nI sN)) ∨ ∃ m t, 2 * m ≤ j ∧ fur (tkK c L) (401 - m) (tk (tkK c L) 20 (0, j)) = yF ∧ orF sf (tsk (tkK c L) (tkV c L) T (401 - m) t j).1 = sfF ∧ (sf = none → s.1 = nI t ∧ t < 2 ^ 6 ∧ (tsk (tkK c L) (tkV c L) T (401 - m) t j).2 = sN))) (402 - j0)
    (fun r => Df XFc S r.2 ∧ CBg c L e T sfF r.2 ∧ (sfF = none → r.1 = nI sN)) (by omega) ?_ ?_ (fun r h => Ok.ret h)
  · refine ⟨j0, sf0, rfl, ?_, rfl, Df.refl _ _, hB, Or.inr ⟨0, 0, Nat.zero_le _, hyF, hsF, fun _ => ⟨rfl, by decide, hsN⟩⟩⟩
    have : j0 ≤ yF.2 := by
      have h1 := tk_le (K := tkK c L) (k := 20) (0, j0)
      have h2 : ∀ (n : Nat) (y : Nat × Nat), y.2 ≤ (fur (tkK c L) n y).2 := by
        intro n
        induction n with
        | zero => intro y; exact Nat.le_refl _
        | succ n ih =>
          intro y
          rw [fur]
          split
          · exact Nat.le_trans (Nat.le_trans (tk_le _) (tk_le _)) (ih _)
          · exact Nat.le_refl _
      have h3 := h2 401 (tk (tkK c L) 20 (0, j0))
      rw [hyF] at h3
      exact Nat.le_trans h1 h3
    omega
  · rintro d ⟨u, v, S1⟩ ⟨j, sf, hv, hje, rfl, d1, b1, hI⟩
    dsimp only at hv d1 b1 hI ⊢
    subst hv
    obtain ⟨z, z1, z2, z3, _⟩ := c_size b1.1
    rcases hI with ⟨rfl, rfl, hE⟩ | ⟨m, t, hm, hzF, hF1, hS1⟩
    · refine Ok.ifC (fun _ => Ok.inr ⟨d1, b1, hE⟩) (fun _ => ?_)
      have hkl := tkK_le (c := c) (L := L) (j := j)
      apply Ok.step (c_kind (n := n) b1.1 he)
      exact Ok.ifF (fun q => hend ((nI_eq (b := 20) (by omega) (by decide)).mp q)) (Ok.inr ⟨d1, b1, hE⟩)
    -- a name
    have h0 : (tk (tkK c L) 20 (0, j)).1 = 0 := by
      rcases Nat.eq_zero_or_pos (tk (tkK c L) 20 (0, j)).1 with q | q
      · exact q
      · rw [fur_f (by omega)] at hzF
        rw [hzF] at q
        omega
    obtain ⟨a1, a2⟩ := tk_00 h0
    rw [a2] at hzF
    have hjlt : j < e := by
      rcases Nat.lt_or_ge j e with q | q
      · exact q
      · have : j = e := by omega
        rw [this] at a1
        exact absurd a1 hend
    have e401 : 401 - m = (400 - m) + 1 := by omega
    rw [e401] at hzF hF1 hS1
    rw [fur] at hzF
    dsimp only at hzF
    have hjz := z3 j (by omega) (fun i hi => hev i (by omega))
    refine Ok.ifF (by rw [z1]; exact nI_ge (by omega) (by omega)) ?_
    apply Ok.step (c_kind (n := n) b1.1 (by omega : j ≤ 400))
    refine Ok.ifT (by rw [a1]; rfl) ?_
    obtain ⟨⟨v2, S2⟩, f2, e2, d2, b2⟩ := c_old (n := n) (k := 2) hn b1 hjlt (by decide)
    dsimp only at e2 d2 b2
    apply Ok.step (show E_X8_oldName n S1 (2 : Int32) (nI j) = some (v2, S2) from f2)
    have hb := hon j
    subst e2
    apply Ok.step (c_hasBit (by omega))
    refine jnH1 (fun S3 => ∃ sf2, Df XFc S S3 ∧ CBg c L e T sf2 S3 ∧ ∃ t2, (tkK c L (j + 1) = 23 → orF sf2 (tsk (tkK c L) (tkV c L) T (400 - m) t2 (j + 2)).1 = sfF ∧ (sf2 = none → u ||| ((1 : Int32) <<< (nI (oN (tkV c L) T 2 j) &&& 31)) = nI t2 ∧ t2 < 2 ^ 6 ∧ (tsk (tkK c L) (tkV c L) T (400 - m) t2 (j + 2)).2 = sN)) ∧ (tkK c L (j + 1) ≠ 23 → sf2 = sfF ∧ (sf2 = none → u ||| ((1 : Int32) <<< (nI (oN (tkV c L) T 2 j) &&& 31)) = nI sN))) ?_ (fun J hJ => ?_)
    case refine_1 =>
      rintro S3 ⟨sf2, d3, b3, t2, p1, p2⟩
      have e2' : nI j + (2 : Int32) = nI (j + 2) := by rw [show (2 : Int32) = nI 2 from rfl, nI_add]
      by_cases c2 : tkK c L (j + 1) = 23
      · rw [if_pos ⟨rfl, c2⟩] at hzF
        have h23 : (tk (tkK c L) 23 (0, j + 1)).1 = 0 := by
          rcases Nat.eq_zero_or_pos (tk (tkK c L) 23 (0, j + 1)).1 with q | q
          · exact q
          · rw [tk_f (k := 20) (by omega), fur_f (by omega)] at hzF
            rw [hzF] at q
            omega
        obtain ⟨q1, q2⟩ := tk_00 h23
        have q2' : tk (tkK c L) 23 (0, j + 1) = (0, j + 2) := q2
        rw [q2'] at hzF
        obtain ⟨r1, r2⟩ := p1 c2
        have hj2 : j + 2 ≤ e := by
          have h1 := tk_le (K := tkK c L) (k := 20) (0, j + 2)
          have h2 : ∀ (n : Nat) (y : Nat × Nat), y.2 ≤ (fur (tkK c L) n y).2 := by
            intro n
            induction n with
            | zero => intro y; exact Nat.le_refl _
            | succ n ih =>
              intro y
              rw [fur]
              split
              · exact Nat.le_trans (Nat.le_trans (tk_le _) (tk_le _)) (ih _)
              · exact Nat.le_refl _
          have h3 := h2 (400 - m) (tk (tkK c L) 20 (0, j + 2))
          rw [hzF] at h3
          have : j + 2 ≤ yF.2 := Nat.le_trans h1 h3
          omega
        refine Ok.inl ⟨402 - (j + 2), by omega, j + 2, sf2, e2', hj2, rfl, d3, b3, Or.inr ⟨m + 1, t2, by omega, ?_, ?_, ?_⟩⟩
        · rw [show 401 - (m + 1) = 400 - m by omega]; exact hzF
        · rw [show 401 - (m + 1) = 400 - m by omega]; exact r1
        · rw [show 401 - (m + 1) = 400 - m by omega]; exact r2
      · rw [if_neg (fun q => c2 q.2)] at hzF
        obtain ⟨r1, r2⟩ := p2 c2
        have hje2 : j + 2 = e := by rw [← hye, ← hzF]
        exact Ok.inl ⟨402 - (j + 2), by omega, j + 2, sf2, e2', by omega, rfl, d3, b3, Or.inl ⟨hje2, r1, r2⟩⟩
    -- the first fault
    have k2 : ∀ sf2, sf2 ≠ none → (∀ t, orF sf2 (tsk (tkK c L) (tkV c L) T (400 - m) t (j + 2)).1 = sfF) → sf2 = sfF → ∀ S3, Df XFc S S3 → CBg c L e T sf2 S3 → Ok (J S3) _ := fun sf2 hne h1 h2 S3 d3 b3 => hJ S3 ⟨sf2, d3, b3, 0, fun _ => ⟨h1 0, fun q => absurd q hne⟩, fun _ => ⟨h2, fun q => absurd q hne⟩⟩
    cases hsf : sf with
    | some x =>
      rw [hsf] at b2 hF1
      have hx : some x = sfF := hF1
      have keep := k2 (some x) (fun q => by cases q) (fun _ => hx) hx
      by_cases q : bt u (oN (tkV c L) T 2 j) = true
      · rw [q]
        refine Ok.ifF (by decide) ?_
        obtain ⟨S3, f3, d3, b3⟩ := c_ref (n := n) (f := 3) (j := j) b2 (by decide) (by decide)
        apply Ok.step (show E_X8_refuse n S2 (3 : Int32) (nI j) = some S3 from f3)
        exact keep S3 ((d1.trans d2).trans d3) b3
      · simp only [Bool.not_eq_true] at q
        rw [q]
        exact Ok.ifT rfl (keep S2 (d1.trans d2) b2)
    | none =>
      rw [hsf] at b2 hF1 hS1
      obtain ⟨u1, u2, u3⟩ := hS1 rfl
      rw [tsk] at hF1 u3
      cases ho : oldN (tkV c L) T 2 j with
      | none =>
        rw [ho] at hF1 u3
        have e4 : cOld (tkV c L) T 2 j = some (4, j) := by unfold cOld; rw [ho]; rfl
        rw [e4] at b2
        have hx : some (4, j) = sfF := hF1
        have keep := k2 (some (4, j)) (fun q => by cases q) (fun _ => hx) hx
        by_cases q : bt u (oN (tkV c L) T 2 j) = true
        · rw [q]
          refine Ok.ifF (by decide) ?_
          obtain ⟨S3, f3, d3, b3⟩ := c_ref (n := n) (f := 3) (j := j) b2 (by decide) (by decide)
          apply Ok.step (show E_X8_refuse n S2 (3 : Int32) (nI j) = some S3 from f3)
          exact keep S3 ((d1.trans d2).trans d3) b3
        · simp only [Bool.not_eq_true] at q
          rw [q]
          exact Ok.ifT rfl (keep S2 (d1.trans d2) b2)
      | some t' =>
        rw [ho] at hF1 u3
        dsimp only at hF1 u3
        have e4 : cOld (tkV c L) T 2 j = none := by unfold cOld; rw [ho]; rfl
        rw [e4] at b2
        have eo : oN (tkV c L) T 2 j = t' := oN_of ho
        rw [eo] at hb hJ ⊢
        have ht : bt u t' = t.testBit t' := by rw [u1, bt_nI _ _ (by omega)]
        by_cases cb : t.testBit t' = true
        · rw [if_pos cb] at hF1 u3
          have hx : some (3, j) = sfF := hF1
          rw [ht, cb]
          refine Ok.ifF (by decide) ?_
          obtain ⟨S3, f3, d3, b3⟩ := c_ref (n := n) (f := 3) (j := j) b2 (by decide) (by decide)
          apply Ok.step (show E_X8_refuse n S2 (3 : Int32) (nI j) = some S3 from f3)
          exact hJ S3 ⟨some (3, j), (d1.trans d2).trans d3, b3, 0, fun _ => ⟨hx, fun q => by cases q⟩, fun _ => ⟨hx, fun q => by cases q⟩⟩
        · rw [if_neg cb] at hF1 u3
          have hpm : 2 ^ t' < 2 ^ 6 := Nat.pow_lt_pow_right (by decide) hb
          have hor : t ||| 2 ^ t' < 2 ^ 6 := Nat.or_lt_two_pow u2 hpm
          have hUn : u ||| ((1 : Int32) <<< (nI t' &&& 31)) = nI (t ||| 2 ^ t') := by
            rw [u1, bit_nI (by omega), nI_orN (by omega) (by omega)]
          have cbf : bt u t' = false := by rw [ht]; simpa using cb
          rw [cbf]
          refine Ok.ifT rfl (hJ S2 ⟨none, d1.trans d2, b2, t ||| 2 ^ t', fun q => ?_, fun q => ?_⟩)
          · rw [if_pos q] at hF1 u3
            exact ⟨hF1, fun _ => ⟨hUn, hor, u3⟩⟩
          · rw [if_neg q] at hF1 u3
            exact ⟨hF1, fun _ => by rw [← u3]; exact hUn⟩
theorem c_tell8 {yF : Nat × Nat} (hn : 30000 ≤ n) (hw : w = 22 ∨ w = 47) (hB : CBg c L e T none S) (hT : NTw cnt T) (hlen : T.length < 32) (hc2 : cnt 2 ≤ 6) (hC : CTd w cnt W S) (hm : cnt 8 < 4) (hyF : fur (tkK c L) 401 (tk (tkK c L) 20 (0, i + 2)) = yF) (hy0 : yF.1 = 0) (hye : yF.2 + 1 = e) (hend : tkK c L e ≠ 20) (h2 : i + 2 < e) :
    Ok ((E_X8_newName n S w (8 : Int32) (nI i + (1 : Int32))).bind fun S30 => (E_X8_taskThings n S30 (nI i + (2 : Int32))).bind fun v31 => (E_X10_addTask n v31.2 w v31.1).bind fun S33 => some S33) (CRs c L w cnt T W 8 i S) := by
  rw [nI_1, show nI i + (2 : Int32) = nI (i + 2) by rw [show (2 : Int32) = nI 2 from rfl, nI_add]]
  obtain ⟨S2, f2, d2, T', b2, g2, t2⟩ := c_new (n := n) (k := 8) (m := cnt 8) hn hB (by omega : i + 1 < e) (by decide) hw (hC.1 8 (by decide)) (by omega) hlen
  apply Ok.step (show E_X8_newName n S w (8 : Int32) (nI (i + 1)) = some S2 from f2)
  have hC2 := hC.nw hw d2
  have he := b2.2.2.2.2.1
  have eo : ∀ j, oldN (tkV c L) T' 2 j = oldN (tkV c L) T 2 j := fun j => oldN_or (by decide) t2
  have hT' : NTw cnt T' ∨ ∃ T0 v m, NTw cnt T0 ∧ T' = T0 ++ [(v, 8, m)] := by
    rcases t2 with h | h
    · exact Or.inl (h ▸ hT)
    · exact Or.inr ⟨T, _, _, hT, h⟩
  obtain ⟨⟨v3, S3⟩, f3, d3, b3, g3⟩ := c_things (n := n) (j0 := i + 2) hn b2 hT' hc2 hyF hy0 hye hend rfl rfl (by omega)
  dsimp only at d3 b3 g3
  apply Ok.step f3
  rw [tsk_ext eo] at b3 g3
  have hC3 := hC2.fc hw d3
  have d13 := (XNw_Cd hw d2).trans (XFc_Cd (w := w) d3)
  obtain ⟨S6, f6, l6, o6, v6, w6⟩ := c_addTask (n := n) (v := v3) hw (hC3.1 8 (by decide)) hm
  apply Ok.step f6
  have b6 := b3.fr l6 (fun a j h => o6 _ _ (by omega) (by omega))
  have eF : semF (tkK c L) (tkV c L) T 8 i = orF (cNew (tkV c L) T (i + 1)) (tsk (tkK c L) (tkV c L) T 401 0 (i + 2)).1 := rfl
  rw [← eF] at b6 g3
  refine Ok.ret ⟨d13.trans (add_Cd l6 (fun a j h => o6 _ _ (by omega) (by omega))), b6.2.2.2.1, fun hF => ?_⟩
  have g3' := g3 hF
  rw [eF] at hF
  obtain ⟨hF1, hF2⟩ := orF_none hF
  have eT : T' = semT (tkV c L) T 8 (cnt 8) i := g2 hF1
  rw [← eT]
  refine ⟨b6.2.1, hC3.up (k := 8) semW_hW v6 (fun j h => o6 _ _ (Or.inr h) (by omega)) (fun q hq h => ?_) (fun q hq j h => by
      simp only [TC, List.mem_cons, List.not_mem_nil, or_false] at hq
      rcases hq with q1 | q1 | q1 | q1 | q1 | q1 | q1 | q1 | q1
      all_goals
        subst q1
        dsimp only at h ⊢
        exact o6 _ _ (by omega) (by omega)) (fun _ a => o6 _ _ (by omega) (by omega)) (fun z => absurd z (by decide)) (fun _ a => o6 _ _ (by omega) (by omega)) (fun z => absurd z (by decide)) (fun _ a => o6 _ _ (by omega) (by omega)) (fun z => absurd z (by decide))⟩
  have := (by decide : ∀ q ∈ TC, q.2.2 = 8 → q = (17, 12, 8)) q hq h
  subst this
  dsimp only
  rw [w6, g3']
  show _ = nI (wS W 17 (cnt 8) (tsk (tkK c L) (tkV c L) T 401 0 (i + 2)).2 17 (cnt 8))
  rw [wS_s]
theorem c_tellL {k : Nat} (hk : k = 9 ∨ k = 10) (hw : w = 22 ∨ w = 47) (hB : CBg c L e T none S) (hC : CTd w cnt W S) : Ok ((rd (S.1 (w + 1)) 11 (nI k)).bind fun v2 => (wr S (w + 1) 11 (nI k) (v2 + (1 : Int32))).bind fun S3 => some S3) (CRs c L w cnt T W k i S) := by
  apply Ok.step (rd_nI (by omega) (by decide))
  rw [hC.1 k (by omega)]
  apply Ok.step (wr_nI (by omega) (by decide))
  have o6 : ∀ a j, (a ≠ w + 1 ∨ j ≠ k) → (upI S (w + 1) k (nI (cnt k) + 1)).1 a j = S.1 a j := fun a j h => by rw [upI_at, if_neg (by omega)]
  have v6 : (upI S (w + 1) k (nI (cnt k) + 1)).1 (w + 1) k = nI (cnt k + 1) := by rw [upI_at, if_pos ⟨rfl, rfl⟩, nI_1]
  have l6 : (upI S (w + 1) k (nI (cnt k) + 1)).2 = S.2 := rfl
  generalize upI S (w + 1) k (nI (cnt k) + 1) = S6 at *
  have b6 := hB.fr l6 (fun a j h => o6 _ _ (by omega))
  have eF : semF (tkK c L) (tkV c L) T k i = none := by rcases hk with h | h <;> (subst h; rfl)
  have eT : semT (tkV c L) T k (cnt k) i = T := by rcases hk with h | h <;> (subst h; rfl)
  have eW : semW (tkK c L) (tkV c L) T k (cnt k) i W = W := by rcases hk with h | h <;> (subst h; rfl)
  refine Ok.ret ⟨add_Cd l6 (fun a j h => o6 _ _ (by omega)), by rw [eF]; exact b6.2.2.2.1, fun _ => ⟨by rw [eT]; exact b6.2.1, ?_⟩⟩
  rw [eW]
  exact hC.up (k := k) (fun _ _ _ _ _ => rfl) v6 (fun j h => o6 _ _ (Or.inr h)) (fun q hq h => absurd (TC_ok q hq).2.2.2.2.2.2.2 (by omega)) (fun q hq j h => o6 _ _ (by have := TC_ok q hq; omega)) (fun _ a => o6 _ _ (by omega)) (fun z => absurd z (by omega)) (fun _ a => o6 _ _ (by omega)) (fun z => absurd z (by omega)) (fun _ a => o6 _ _ (by omega)) (fun z => absurd z (by omega))
end CTT
