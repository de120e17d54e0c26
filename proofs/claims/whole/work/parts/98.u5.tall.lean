/-! ===== the class is told: all of it ===== -/
theorem syR_w {K V : Nat → Nat} : ∀ (n : Nat) (Y : SY), yW K Y.1 → yW K (syR K V n Y).1 := by
  intro n
  induction n with
  | zero => intro Y h; exact h
  | succ n ih =>
    intro Y h
    by_cases d : Y.1.1 ≠ 0 ∨ K Y.1.2 = 35
    · rw [syR_done d]; exact h
    · have e : syR K V (n + 1) Y = syR K V n (syT K V Y) := if_neg d
      rw [e]
      exact ih _ (syT_w h (by omega)).1
def CFa (w : Nat) (Y : SY) (M : SM) (S : ST) : Prop := NTC M.1 S ∧ M.1.length = nmN Y.2.1 ∧ NTw Y.2.1 M.1 ∧ FC none S ∧ CTd w Y.2.1 M.2.1 S
section CAL
variable {n L w : Nat} {c : Nat → Nat} {S S' : ST}
theorem CTk.cd (hw : w = 22 ∨ w = 47) (h : CTk c L S) (d : D2 (XCd w) YNw S S') : CTk c L S' := h.d2 d (fun a j hx => by
  simp only [XSc, Bool.or_eq_true, Bool.and_eq_true, beq_iff_eq] at hx
  simp only [XCd, Bool.or_eq_false_iff, Bool.and_eq_false_iff, beq_eq_false_iff_ne, decide_eq_false_iff_not]
  omega) rfl
theorem c_tellAll {YF : SY} {MF : SM} (hn : 30000 ≤ n) (hw : w = 22 ∨ w = 47) (hT : CTk c L S) (hYF : syR (tkK c L) (tkV c L) 402 sy0 = YF) (hF0 : YF.1.1 = 0) (hMF : smR (tkK c L) (tkV c L) 402 sy0 sm0 = MF) (hC : CTd w (fun _ => 0) (fun _ _ => 0) S) :
    Ok (E_X8_tellAll n S w) (fun r => D2 (XCd w) YNw S r.2 ∧ (MF.2.2 = none → r.1 = 0 ∧ CTd w YF.2.1 MF.2.1 r.2) ∧ ∀ x, MF.2.2 = some x → r.1 = nI x.1 ∧ r.2.1 18 6 = nI x.2) := by
  have hms : ∀ y : Nat × Nat, cms y ≤ 401 := fun y => by unfold cms; split <;> omega
  have hw0 : yW (tkK c L) sy0.1 := ⟨Nat.zero_le _, Nat.zero_le _, fun i hi => absurd hi (Nat.not_lt_zero i)⟩
  have hwF : yW (tkK c L) YF.1 := by rw [← hYF]; exact syR_w 402 _ hw0
  have h35 : tkK c L YF.1.2 = 35 := by
    have : syE (tkK c L) YF := by rw [← hYF]; exact syR_end 402 sy0 hw0 (by have := hms sy0.1; omega)
    rcases this with h | h
    · exact absurd hF0 h
    · exact h
  unfold E_X8_tellAll
  apply Ok.letsU
  apply Ok.letsU
  generalize eS2 : upI (upI S 18 4 (0 : Int32)) 18 5 (0 : Int32) = S2
  have x4 : XCd w 18 4 = true := by simp [XCd]
  have x5 : XCd w 18 5 = true := by simp [XCd]
  have d2 : D2 (XCd w) YNw S S2 := by rw [← eS2]; exact ((D2.refl _ _ _).up x4).up x5
  have n2 : NTC ([] : NTb) S2 := ⟨by rw [← eS2, upI_at, if_neg (by omega), upI_at, if_pos ⟨rfl, rfl⟩]; rfl, Nat.zero_le _, fun j hj => absurd hj (Nat.not_lt_zero j)⟩
  have f2 : FC none S2 := ⟨fun _ => by rw [← eS2, upI_at, if_pos ⟨rfl, rfl⟩], fun x hx => (by cases hx)⟩
  have c2 : CTd w (fun _ => 0) (fun _ _ => 0) S2 := hC.fr (fun a j h1 h2 => by rw [← eS2, upI_at, if_neg (by omega), upI_at, if_neg (by omega)])
  refine bindW (fun d (s : Int32 × Int32 × ST) => ∃ p0, s.2.1 = nI p0 ∧ d = 403 - p0 ∧ p0 ≤ 402 ∧ D2 (XCd w) YNw S s.2.2 ∧
      ((∃ Y M j, j + cms Y.1 ≤ 401 ∧ yW (tkK c L) Y.1 ∧ Y.1.1 = 0 ∧ syR (tkK c L) (tkV c L) (402 - j) Y = YF ∧ smR (tkK c L) (tkV c L) (402 - j) Y M = MF ∧ (∀ k, k < 11 → Y.2.1 k ≤ cmx k) ∧ ((s.1 = 1 ∧ p0 = Y.1.2) ∨ (s.1 = 0 ∧ p0 < Y.1.2)) ∧ (∀ p, p0 ≤ p → p < Y.1.2 → (tkK c L p = 22 ↔ p + 1 = Y.1.2)) ∧ ((M.2.2 = none ∧ CFa w Y M s.2.2) ∨ ∃ x, M.2.2 = some x ∧ FC (some x) s.2.2))
       ∨ (p0 = YF.1.2 + 1 ∧ MF.2.2 = none ∧ CFa w YF MF s.2.2)))
    403 (fun e => D2 (XCd w) YNw S e ∧ (MF.2.2 = none → FC none e ∧ CTd w YF.2.1 MF.2.1 e) ∧ ∀ x, MF.2.2 = some x → FC (some x) e) (by omega) ?_ ?_ ?_
  · exact ⟨0, rfl, rfl, by omega, d2, Or.inl ⟨sy0, sm0, 0, by have := hms sy0.1; omega, hw0, rfl, hYF, hMF, fun k hk => Nat.zero_le _, Or.inl ⟨rfl, rfl⟩, fun p h1 h2 => absurd h2 (Nat.not_lt_zero p), Or.inl ⟨rfl, n2, rfl, ⟨(fun e he => by cases he), fun i j hi => absurd hi (Nat.not_lt_zero i)⟩, f2, c2⟩⟩⟩
  · rintro d ⟨b, v, S1⟩ ⟨p0, hv, rfl, hp, d1, hI⟩
    dsimp only at hv d1 hI ⊢
    subst hv
    have hT1 := hT.cd hw d1
    obtain ⟨z, z1, z2, _, z4⟩ := c_size hT1
    have hzF : YF.1.2 = z := z4 _ hwF.2.1 h35 hwF.2.2
    rcases hI with ⟨Y, M, j, hj, hwY, h0, hRY, hRM, hcm, hb, hsem, hM⟩ | ⟨hpe, hMn, hfa⟩
    case inr =>
      refine Ok.ifT (by rw [z1]; exact nI_le (by omega) (by omega)) (Ok.inr ⟨d1, fun _ => ⟨hfa.2.2.2.1, hfa.2.2.2.2⟩, fun x hx => ?_⟩)
      rw [hMn] at hx; cases hx
    have hYle : Y.1.2 ≤ YF.1.2 := by
      rcases Nat.lt_or_ge YF.1.2 Y.1.2 with q | q
      · exact absurd h35 (hwY.2.2 _ q)
      · exact q
    have hpY : p0 ≤ Y.1.2 := by rcases hb with q | q <;> omega
    refine Ok.ifF (by rw [z1]; exact nI_ge (by omega) (by omega)) ?_
    rcases hM with ⟨hMn, hfa⟩ | ⟨x, hMx, hfx⟩
    case inr =>
      have eM : MF = M := by rw [← hRM]; exact smR_some _ _ _ hMx
      obtain ⟨x1, x2, x3, x4⟩ := hfx.2 x rfl
      refine Ok.ifF (fun q => x3 ?_) (Ok.inr ⟨d1, fun q => ?_, fun x' hx' => ?_⟩)
      · rw [x1] at q
        exact (nI_eq (b := 0) (by omega) (by decide)).mp q
      · rw [eM, hMx] at q; cases q
      · rw [eM, hMx] at hx'
        rw [← Option.some.inj hx']; exact hfx
    obtain ⟨g1, g2, g3, g4, g5⟩ := hfa
    refine Ok.ifT (g4.1 rfl) ?_
    have hc1 : 1 ≤ cms Y.1 := by have := hwY.2.1; unfold cms; rw [if_pos h0]; omega
    have e402 : 402 - j = (401 - j) + 1 := by omega
    rcases hb with ⟨rfl, rfl⟩ | ⟨rfl, hlt⟩
    case inr =>
      apply Ok.jnU
      refine Ok.ifT rfl ?_
      apply Ok.step (c_kind (n := n) hT1 (by have := hwY.2.1; omega))
      apply Ok.jnU
      have hkl := tkK_le (c := c) (L := L) (j := p0)
      by_cases c22 : tkK c L p0 = 22
      · have := (hsem p0 (Nat.le_refl _) hlt).mp c22
        refine Ok.ifT (by rw [c22]; rfl) (Ok.inl ⟨403 - (p0 + 1), by omega, p0 + 1, nI_1 _, rfl, by have := hwY.2.1; omega, d1, Or.inl ⟨Y, M, j, hj, hwY, h0, hRY, hRM, hcm, Or.inl ⟨rfl, this⟩, fun p h1 h2 => hsem p (by omega) h2, Or.inl ⟨hMn, g1, g2, g3, g4, g5⟩⟩⟩)
      · have : p0 + 1 ≠ Y.1.2 := fun q => c22 ((hsem p0 (Nat.le_refl _) hlt).mpr q)
        refine Ok.ifF (fun q => c22 ((nI_eq (b := 22) (by omega) (by decide)).mp q)) (Ok.inl ⟨403 - (p0 + 1), by omega, p0 + 1, nI_1 _, rfl, by have := hwY.2.1; omega, d1, Or.inl ⟨Y, M, j, hj, hwY, h0, hRY, hRM, hcm, Or.inr ⟨rfl, by omega⟩, fun p h1 h2 => hsem p (by omega) h2, Or.inl ⟨hMn, g1, g2, g3, g4, g5⟩⟩⟩)
    -- a tell begins
    rw [e402] at hRY hRM
    have hRY0 : (syR (tkK c L) (tkV c L) (401 - j + 1) Y).1.1 = 0 := by rw [hRY]; exact hF0
    obtain ⟨_, hcase⟩ := syR_ok hRY0
    have hY400 := hwY.2.1
    apply Ok.jnU
    refine Ok.ifF (by decide) ?_
    rcases hcase with hk35 | ⟨hk, hz0⟩
    · have eY : Y = YF := by rw [← hRY, syR_done (Or.inr hk35)]
      have eM : M = MF := by
        rw [smR, if_pos (Or.inr hk35)] at hRM
        exact hRM
      apply Ok.step (c_tellEnd (n := n) hT1 hY400 hk35)
      apply Ok.step (c_kind (n := n) hT1 hY400)
      apply Ok.jnU
      refine Ok.ifF (by rw [hk35]; decide) (Ok.inl ⟨403 - (Y.1.2 + 1), by omega, Y.1.2 + 1, nI_1 _, rfl, by omega, d1, Or.inr ⟨by rw [eY], by rw [← eM]; exact hMn, ?_⟩⟩)
      rw [← eY, ← eM]
      exact ⟨g1, g2, g3, g4, g5⟩
    have hRY' : syR (tkK c L) (tkV c L) (401 - j) (syT (tkK c L) (tkV c L) Y) = YF := by
      rw [syR, if_neg (by omega)] at hRY; exact hRY
    have hRM' : smR (tkK c L) (tkV c L) (401 - j) (syT (tkK c L) (tkV c L) Y) (seT (tkK c L) (tkV c L) Y.2.1 Y.1.2 M) = MF := by
      rw [smR, if_neg (by omega), if_pos hz0] at hRM; exact hRM
    have hnx : tkK c L (syT (tkK c L) (tkV c L) Y).1.2 ≠ 20 := by
      have e401 : 401 - j = (400 - j) + 1 := by omega
      have : (syR (tkK c L) (tkV c L) (400 - j + 1) (syT (tkK c L) (tkV c L) Y)).1.1 = 0 := by rw [← e401, hRY']; exact hF0
      obtain ⟨_, q | ⟨q, _⟩⟩ := syR_ok this
      · omega
      · omega
    obtain ⟨S14, f14, r1, r2, r3⟩ := c_tellOne (n := n) hn hw hwY h0 hk hz0 hnx hcm hT1 g1 g2 g3 g4 g5
    apply Ok.step f14
    have hT14 := hT1.cd hw r1
    apply Ok.step (c_kind (n := n) hT14 hY400)
    apply Ok.jnU
    obtain ⟨w1, w2⟩ := syT_w (V := tkV c L) hwY h0
    have esy := syT_1 (V := tkV c L) hk
    have hzt := hz0
    rw [esy] at hzt
    obtain ⟨t1, tm, _⟩ := tY_lt hwY hk hzt
    have hsm := tY_semi hwY hk hzt
    have hne : Y.1.2 + 1 ≠ (tY (tkK c L) (tkV c L) (tkK c L Y.1.2) (Y.2.1 (tkK c L Y.1.2)) Y.1).2 := fun q => by
      have := (hsm Y.1.2 (Nat.le_refl _) t1).mpr q
      omega
    refine Ok.ifF (fun q => absurd ((nI_eq (b := 22) (by omega) (by decide)).mp q) (by omega)) (Ok.inl ⟨403 - (Y.1.2 + 1), by omega, Y.1.2 + 1, nI_1 _, rfl, by omega, d1.trans r1, Or.inl ⟨syT (tkK c L) (tkV c L) Y, seT (tkK c L) (tkV c L) Y.2.1 Y.1.2 M, j + 1, by omega, w1, hz0, ?_, ?_, ?_, Or.inr ⟨rfl, ?_⟩, fun p h1 h2 => ?_, ?_⟩⟩)
    · rw [show 402 - (j + 1) = 401 - j by omega]; exact hRY'
    · rw [show 402 - (j + 1) = 401 - j by omega]; exact hRM'
    · intro k hk2
      rw [syT_cnt hk]
      by_cases e : k = tkK c L Y.1.2
      · rw [e, upN_s]
        have := hcm _ hk
        omega
      · rw [upN_n e]; exact hcm k hk2
    · rw [esy]; omega
    · rw [esy] at h2 ⊢
      exact hsm p (by omega) h2
    · cases hF : semF (tkK c L) (tkV c L) M.1 (tkK c L Y.1.2) Y.1.2 with
      | none =>
        obtain ⟨a1, a2⟩ := r3 hF
        rw [hF] at r2
        have eM : seT (tkK c L) (tkV c L) Y.2.1 Y.1.2 M = (semT (tkV c L) M.1 (tkK c L Y.1.2) (Y.2.1 (tkK c L Y.1.2)) Y.1.2, semW (tkK c L) (tkV c L) M.1 (tkK c L Y.1.2) (Y.2.1 (tkK c L Y.1.2)) Y.1.2 M.2.1, none) := by
          unfold seT
          rw [hMn, if_neg (by decide), hF, if_neg (by decide)]
        rw [eM]
        left
        refine ⟨rfl, a1, ?_, ?_, r2, ?_⟩
        · rw [syT_cnt hk]; exact semT_len hk g2
        · rw [syT_cnt hk]; exact NT_up g3 hF tkV_63
        · rw [syT_cnt hk]; exact a2
      | some x =>
        rw [hF] at r2
        have eM : seT (tkK c L) (tkV c L) Y.2.1 Y.1.2 M = (M.1, M.2.1, some x) := by
          unfold seT
          rw [hMn, if_neg (by decide), hF, if_pos (by rfl)]
        rw [eM]
        exact Or.inr ⟨x, rfl, r2⟩
  · rintro e ⟨q1, q2, q3⟩
    refine Ok.ret ⟨q1, fun h => ⟨(q2 h).1.1 rfl, (q2 h).2⟩, fun x hx => ?_⟩
    obtain ⟨x1, x2, _⟩ := (q3 x hx).2 x rfl
    exact ⟨x1, x2⟩
end CAL
