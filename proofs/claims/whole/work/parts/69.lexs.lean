/-! ===== the reference cuts a text: all of it ===== -/
section RLX
variable {n L : Nat} {c : Nat → Nat} {S : ST}
theorem r_cut (hn : 30000 ≤ n) (hB : TB c L 97 S) (hs : S.1 95 4 = nI L) (hK : KWr S) : Ok (E_X12_cut n S) (fun S' => D2 XRc YRc S S' ∧ RTk c L S') := by
  have hL := hB.1
  unfold E_X12_cut
  apply Ok.letsU
  refine bindW (fun d (s : Int32 × ST) => ∃ i z, s.1 = nI i ∧ d = L - i ∧ i ≤ L ∧ z ≤ 401 ∧ RT c L z s.2 ∧ D2 XRc YRc S s.2 ∧ eor isBl c L i = tkS c L z) L (fun r => D2 XRc YRc S (Sum.elim id id r) ∧ RTk c L (Sum.elim id id r)) (by omega) ?_ ?_ ?_
  · refine ⟨0, 0, rfl, rfl, Nat.zero_le _, Nat.zero_le _, ⟨?_, fun j hj => absurd hj (by omega)⟩, (D2.refl _ _ _).up rfl, rfl⟩
    rw [upI_at, if_pos ⟨rfl, rfl⟩]; rfl
  · rintro d ⟨u, S1⟩ ⟨i, z, rfl, rfl, hi, hz, hT, d1, hst⟩
    dsimp only at hT d1 ⊢
    by_cases c2 : z = 401
    · refine Ok.ifT (by rw [hT.1, c2]; decide) (Ok.inr ⟨d1, fun j hj _ => (hT.2 j (by omega)).2⟩)
    refine Ok.ifF (by rw [hT.1]; exact nI_nlt (a := 400) (by omega) (by omega)) ?_
    have hB1 := hB.d2 d1 (fun _ => rfl)
    have hs1 : S1.1 95 4 = nI L := by rw [d1.2 _ _ rfl]; exact hs
    apply Ok.step (r_byte hB1 hs1 (by omega))
    by_cases c1 : i < L
    case neg =>
      refine Ok.ifF (by rw [hs1]; exact nI_nlt (by omega) (by omega)) ?_
      obtain ⟨S2, f1, d2, f2, f3, f4, f5, f6, f7⟩ := r_tput (n := n) (k := 0) (p := L) (v := 0) (nm := 0) hT.1 (by omega)
      rw [hs1]
      apply Ok.step (show E_X12_token n S1 (0 : Int32) (nI L) (0 : Int32) (0 : Int64) = some S2 from f1)
      refine Ok.inr ⟨d1.trans d2, fun j hj hv => ?_⟩
      have hzL : tkS c L z = L := by rw [← hst, eor_end (by omega)]; omega
      show RTok c L j S2
      rcases Nat.lt_or_ge j z with g | g
      · obtain ⟨q1, q2, q3, q4⟩ := f7 j (by omega)
        unfold RTok
        rw [q1, q2, q3, q4]
        exact (hT.2 j g).2
      · have : j = z := by
          rcases Nat.lt_or_ge z j with g2 | g2
          · exact absurd (tkK_end.mpr hzL) (hv z g2)
          · omega
        subst this
        have ek : tkK c L j = 35 := tkK_end.mpr hzL
        unfold RTok
        rw [ek, hzL]
        exact ⟨f3, f4, fun y => absurd y (by decide), fun y => absurd y (by decide)⟩
    refine Ok.ifT (by rw [hs1]; exact nI_lt c1 (by omega)) ?_
    have eb : byA c L i = c i := if_pos c1
    obtain ⟨b1, b2⟩ := hB1.2 i c1
    rw [eb]
    apply Ok.jnU
    have blank : isBl (c i) = true → Ok (some (.inl ((nI i + (1 : Int32)), S1)) : Option ((Int32 × ST) ⊕ (ST ⊕ ST))) (Sum.elim (fun s' => ∃ d', d' < L - i ∧ ∃ i z, s'.1 = nI i ∧ d' = L - i ∧ i ≤ L ∧ z ≤ 401 ∧ RT c L z s'.2 ∧ D2 XRc YRc S s'.2 ∧ eor isBl c L i = tkS c L z) (fun r => D2 XRc YRc S (Sum.elim id id r) ∧ RTk c L (Sum.elim id id r))) := fun h => by
      refine Ok.inl ⟨L - (i + 1), by omega, i + 1, z, nI_1 _, rfl, by omega, hz, hT, d1, ?_⟩
      rw [← eor_step (by omega) h]; exact hst
    apply Ok.jnU
    by_cases g1 : c i = 9
    · exact Ok.ifT (by rw [g1]; rfl) (blank (by rw [g1]; rfl))
    refine Ok.ifF (fun y => g1 ((nI_eq (b := 9) (by omega) (by decide)).mp y)) ?_
    by_cases g2 : c i = 10
    · exact Ok.ifT (by rw [g2]; rfl) (blank (by rw [g2]; rfl))
    refine Ok.ifF (fun y => g2 ((nI_eq (b := 10) (by omega) (by decide)).mp y)) ?_
    by_cases g3 : c i = 13
    · exact Ok.ifT (by rw [g3]; rfl) (blank (by rw [g3]; rfl))
    refine Ok.ifF (fun y => g3 ((nI_eq (b := 13) (by omega) (by decide)).mp y)) ?_
    by_cases g4 : c i = 32
    · exact Ok.ifT (by rw [g4]; rfl) (blank (by rw [g4]; rfl))
    refine Ok.ifF (fun y => g4 ((nI_eq (b := 32) (by omega) (by decide)).mp y)) ?_
    have hb : isBl (c i) = false := by
      simp only [isBl, Bool.or_eq_false_iff, beq_eq_false_iff_ne]
      exact ⟨g4, g1, g2, g3⟩
    rw [eor_stop hb] at hst
    have hsi : tkS c L z < L := by omega
    have hE := lxE_spec (c := c) c1
    -- a token is put
    have fin : ∀ S2, RPut c L i z S1 S2 → Ok (some (.inl (nI (lxE c L i), S2)) : Option ((Int32 × ST) ⊕ (ST ⊕ ST))) (Sum.elim (fun s' => ∃ d', d' < L - i ∧ ∃ i z, s'.1 = nI i ∧ d' = L - i ∧ i ≤ L ∧ z ≤ 401 ∧ RT c L z s'.2 ∧ D2 XRc YRc S s'.2 ∧ eor isBl c L i = tkS c L z) (fun r => D2 XRc YRc S (Sum.elim id id r) ∧ RTk c L (Sum.elim id id r))) := fun S2 hp => by
      obtain ⟨d2, f2, f3, f4, f5, f6, f7⟩ := hp
      refine Ok.inl ⟨L - lxE c L i, by omega, lxE c L i, z + 1, rfl, rfl, hE.2, by omega, ⟨f2, fun j hj => ?_⟩, d1.trans d2, ?_⟩
      · by_cases g : j = z
        · subst g
          have ek : tkK c L j = lxK c L i := by rw [tkK, if_pos hsi, ← hst]
          have ev : tkV c L j = lxV c L i := by rw [tkV, if_pos hsi, ← hst]
          refine ⟨hsi, ?_⟩
          unfold RTok
          rw [ek, ev, ← hst]
          exact ⟨f3, f4, f5, f6⟩
        · obtain ⟨q1, q2, q3, q4⟩ := f7 j g
          obtain ⟨h0, h1⟩ := hT.2 j (by omega)
          refine ⟨h0, ?_⟩
          unfold RTok at h1 ⊢
          dsimp only
          rw [q1, q2, q3, q4]
          exact h1
      · rw [tkS, if_pos hsi, ← hst]
    apply Ok.step (r_isLet b1)
    cases hl : isLt (c i)
    case true =>
      refine Ok.ifF (by decide) ?_
      obtain ⟨s1, s2, s3, s4⟩ := eor_spec (P := isLt) (c := c) (L := L) (i := i) (by omega)
      have eE : lxE c L i = eor isLt c L i := by unfold lxE; rw [if_pos hl]
      have eK : lxK c L i = if eor isLt c L i - i ≤ 8 then kw (wd c i (eor isLt c L i - i)) else 34 := by unfold lxK; rw [if_pos hl]
      have eV : lxV c L i = if eor isLt c L i - i ≤ 8 then wd c i (eor isLt c L i - i) else 0 := by unfold lxV; rw [if_pos hl]
      have hgt := eor_gt c1 hl
      rw [eE] at fin
      unfold RPut at fin
      rw [eK, eV] at fin
      generalize eor isLt c L i = e1 at *
      have hw : ∀ j, j < e1 - i → isLt (c (i + j)) = true := fun j hj => s3 _ (by omega) (by omega)
      have hk8 : ∀ k, k ≤ 8 → k ≤ e1 - i → wd c i k < 2 ^ 63 := fun k h1 h2 => by
        have h3 := wd_lt (c := c) (i := i) k (fun j hj => hw j (by omega))
        have h4 : 27 ^ k ≤ 27 ^ 8 := Nat.pow_le_pow_right (by decide) h1
        omega
      refine bindP (fun k => (nI k, nL (wd c i (if k ≤ 8 then k else 8)))) (nI (e1 - i), nL (wd c i (if e1 - i ≤ 8 then e1 - i else 8))) 0 (e1 - i) (Nat.zero_le _) (by omega) rfl ?_ ?_ ?_
      · intro k _ hk
        have hl2 := hw k hk
        have eb2 : byA c L (i + k) = c (i + k) := if_pos (by omega)
        have b3 := (hB1.2 (i + k) (by omega)).1
        dsimp only
        rw [nI_add]
        apply Ok.step (r_byte hB1 hs1 (by omega))
        rw [eb2]
        apply Ok.step (r_isLet b3)
        rw [hl2]
        refine Ok.ifF (by decide) ?_
        apply Ok.jnU
        by_cases g : 8 ≤ k
        · refine Ok.ifT (nI_le (a := 8) g (by omega)) (Ok.ret ?_)
          have e2 : (if k + 1 ≤ 8 then k + 1 else 8) = (if k ≤ 8 then k else 8) := by split <;> split <;> omega
          rw [nI_1, e2]
        · refine Ok.ifF (nI_ge (b := 8) (by omega) (by decide)) ?_
          apply Ok.step (r_byte hB1 hs1 (by omega))
          rw [eb2]
          apply Ok.step (r_app hl2)
          refine Ok.ret ?_
          rw [nI_1, if_pos (by omega), if_pos (by omega)]; rfl
      · dsimp only
        rw [nI_add, show i + (e1 - i) = e1 by omega]
        apply Ok.step (r_byte hB1 hs1 (by omega))
        apply Ok.step (r_isLet (byA_lt hB1 e1))
        have : isLt (byA c L e1) = false := by
          unfold byA
          by_cases g : e1 < L
          · rw [if_pos g]; exact s4 g
          · rw [if_neg g]; rfl
        rw [this]
        exact Ok.ifT rfl (Ok.ret rfl)
      apply Ok.jnU
      have put : ∀ k, k < 100 → (k = kR (if e1 - i ≤ 8 then kw (wd c i (e1 - i)) else 34)) → Ok ((E_X12_token n S1 (nI k) (nI i) (0 : Int32) (nL (wd c i (if e1 - i ≤ 8 then e1 - i else 8)))).bind fun S46 => (some (.inl ((nI i + nI (e1 - i)), S46)) : Option ((Int32 × ST) ⊕ (ST ⊕ ST)))) (Sum.elim (fun s' => ∃ d', d' < L - i ∧ ∃ i z, s'.1 = nI i ∧ d' = L - i ∧ i ≤ L ∧ z ≤ 401 ∧ RT c L z s'.2 ∧ D2 XRc YRc S s'.2 ∧ eor isBl c L i = tkS c L z) (fun r => D2 XRc YRc S (Sum.elim id id r) ∧ RTk c L (Sum.elim id id r))) := fun k hk ek => by
        obtain ⟨S2, f1, d2, f2, f3, f4, f5, f6, f7⟩ := r_tput (n := n) (k := k) (p := i) (v := 0) (nm := nL (wd c i (if e1 - i ≤ 8 then e1 - i else 8))) hT.1 (by omega)
        apply Ok.step (show E_X12_token n S1 (nI k) (nI i) (0 : Int32) (nL (wd c i (if e1 - i ≤ 8 then e1 - i else 8))) = some S2 from f1)
        rw [nI_add, show i + (e1 - i) = e1 by omega]
        refine fin S2 ⟨d2, f2, by rw [f3, ek], f4, ?_, ?_, f7⟩
        · intro y
          exfalso
          split at y
          · have := kw_le (wd c i (e1 - i)); omega
          · omega
        · intro y
          split at y
          · rename_i g8
            rw [f6, if_pos g8, if_pos g8]
          · omega
      apply Ok.jnU
      by_cases g7 : e1 - i ≤ 7
      · have g8 : e1 - i ≤ 8 := by omega
        refine Ok.ifT (nI_le (b := 8) g8 (by decide)) ?_
        apply Ok.jnU
        refine Ok.ifF (nI_nlt (a := 7) (by omega) (by omega)) ?_
        refine bindP (fun k => (nI (keyL (wd c i (e1 - i)) k), nI k)) (nI (keyL (wd c i (e1 - i)) 20)) 0 20 (Nat.zero_le _) (by omega) rfl ?_ ?_ ?_
        · intro k _ hk
          refine Ok.ifF (nI_ge (b := 20) (by omega) (by decide)) ?_
          apply Ok.step (rd_nI (by omega) (by decide))
          apply Ok.jnU
          have hKk : S1.2 102 k = nL (keyN k) := by rw [d1.1 102 rfl]; exact hK k hk
          rw [hKk]
          have hk2 : keyN k < 2 ^ 63 := by
            have : ∀ k : Fin 20, keyN k.val < 2 ^ 63 := by decide
            exact this ⟨k, hk⟩
          have hv := hk8 _ g8 (Nat.le_refl _)
          rw [if_pos g8]
          by_cases g : keyN k = wd c i (e1 - i)
          · refine Ok.ifT ((lg_cmp_eq _ _).mpr (by rw [g])) (Ok.ret ?_)
            dsimp only
            rw [nI_1, keyL, if_pos g, show (20 : Int32) = nI 20 from rfl, nI_add]
          · refine Ok.ifF (fun y => g ((nL_inj hk2 hv).mp ((lg_cmp_eq _ _).mp y))) (Ok.ret ?_)
            dsimp only
            rw [nI_1, keyL, if_neg g]
        · exact Ok.ifT (nI_le (a := 20) (by omega) (by decide)) (Ok.ret rfl)
        refine put _ ?_ ?_
        · rw [key_kw]
          have h1 := kw_le (wd c i (e1 - i))
          have h2 : ∀ k : Fin 21, kR k.val < 100 := by decide
          exact h2 ⟨kw (wd c i (e1 - i)), by omega⟩
        · rw [if_pos g8, key_kw]
      · by_cases g8 : e1 - i ≤ 8
        · refine Ok.ifT (nI_le (b := 8) g8 (by decide)) ?_
          apply Ok.jnU
          refine Ok.ifT (nI_lt (a := 7) (by omega) (by omega)) ?_
          refine put 1 (by decide) ?_
          have e8 : e1 - i = 7 + 1 := by omega
          rw [if_pos g8, e8, kw_big (wd_ge 7 (fun j hj => hw j (by omega)))]; rfl
        · refine Ok.ifF (nI_ge (a := 8) (by omega) (by omega)) ?_
          apply Ok.jnU
          refine Ok.ifT (nI_lt (a := 7) (by omega) (by omega)) ?_
          refine put 3 (by decide) ?_
          rw [if_neg g8]; rfl
    refine Ok.ifT rfl ?_
    have hl' : ¬ isLt (c i) = true := by rw [hl]; decide
    apply Ok.step (r_isDig b1)
    cases hd : isDg (c i)
    case true =>
      refine Ok.ifF (by decide) ?_
      obtain ⟨s1, s2, s3, s4⟩ := eor_spec (P := isDg) (c := c) (L := L) (i := i) (by omega)
      have eE : lxE c L i = eor isDg c L i := by unfold lxE; rw [if_neg hl', if_pos hd]
      have eK : lxK c L i = if eor isDg c L i - i ≤ 4 then 21 else 34 := by unfold lxK; rw [if_neg hl', if_pos hd]
      have eV : lxV c L i = if eor isDg c L i - i ≤ 4 then dg c i (eor isDg c L i - i) else 0 := by unfold lxV; rw [if_neg hl', if_pos hd]
      have hgt := eor_gt c1 hd
      rw [eE] at fin
      unfold RPut at fin
      rw [eK, eV] at fin
      generalize eor isDg c L i = e1 at *
      have hw : ∀ j, j < e1 - i → isDg (c (i + j)) = true := fun j hj => s3 _ (by omega) (by omega)
      refine bindP (fun k => (nI k, nI (dg c i (if k ≤ 4 then k else 4)))) (nI (e1 - i), nI (dg c i (if e1 - i ≤ 4 then e1 - i else 4))) 0 (e1 - i) (Nat.zero_le _) (by omega) rfl ?_ ?_ ?_
      · intro k _ hk
        have hl2 := hw k hk
        have hl3 := hl2
        simp only [isDg, Bool.and_eq_true, decide_eq_true_eq] at hl3
        have eb2 : byA c L (i + k) = c (i + k) := if_pos (by omega)
        have b3 := (hB1.2 (i + k) (by omega)).1
        dsimp only
        rw [nI_add]
        apply Ok.step (r_byte hB1 hs1 (by omega))
        rw [eb2]
        apply Ok.step (r_isDig b3)
        rw [hl2]
        refine Ok.ifF (by decide) ?_
        apply Ok.jnU
        by_cases g : 4 ≤ k
        · refine Ok.ifT (nI_le (a := 4) g (by omega)) (Ok.ret ?_)
          have e2 : (if k + 1 ≤ 4 then k + 1 else 4) = (if k ≤ 4 then k else 4) := by split <;> split <;> omega
          rw [nI_1, e2]
        · refine Ok.ifF (nI_ge (b := 4) (by omega) (by decide)) ?_
          apply Ok.step (r_byte hB1 hs1 (by omega))
          rw [eb2]
          apply Ok.letsU
          refine Ok.ret ?_
          rw [nI_1, if_pos (by omega), if_pos (by omega), dg, show (10 : Int32) = nI 10 from rfl, show (48 : Int32) = nI 48 from rfl, nI_mulN, nI_add]
          congr 2
          have := nI_subC 48 (10 * dg c i k + (c (i + k) - 48))
          rw [show 48 + (10 * dg c i k + (c (i + k) - 48)) = 10 * dg c i k + c (i + k) by omega] at this
          rw [this]
      · dsimp only
        rw [nI_add, show i + (e1 - i) = e1 by omega]
        apply Ok.step (r_byte hB1 hs1 (by omega))
        apply Ok.step (r_isDig (byA_lt hB1 e1))
        have : isDg (byA c L e1) = false := by
          unfold byA
          by_cases g : e1 < L
          · rw [if_pos g]; exact s4 g
          · rw [if_neg g]; rfl
        rw [this]
        exact Ok.ifT rfl (Ok.ret rfl)
      apply Ok.jnU
      have put : ∀ k, k = (if e1 - i ≤ 4 then 2 else 3) → Ok ((E_X12_token n S1 (nI k) (nI i) (nI (dg c i (if e1 - i ≤ 4 then e1 - i else 4))) (0 : Int64)).bind fun S46 => (some (.inl ((nI i + nI (e1 - i)), S46)) : Option ((Int32 × ST) ⊕ (ST ⊕ ST)))) (Sum.elim (fun s' => ∃ d', d' < L - i ∧ ∃ i z, s'.1 = nI i ∧ d' = L - i ∧ i ≤ L ∧ z ≤ 401 ∧ RT c L z s'.2 ∧ D2 XRc YRc S s'.2 ∧ eor isBl c L i = tkS c L z) (fun r => D2 XRc YRc S (Sum.elim id id r) ∧ RTk c L (Sum.elim id id r))) := fun k ek => by
        obtain ⟨S2, f1, d2, f2, f3, f4, f5, f6, f7⟩ := r_tput (n := n) (k := k) (p := i) (v := dg c i (if e1 - i ≤ 4 then e1 - i else 4)) (nm := 0) hT.1 (by omega)
        apply Ok.step f1
        rw [nI_add, show i + (e1 - i) = e1 by omega]
        refine fin S2 ⟨d2, f2, ?_, f4, ?_, ?_, f7⟩
        · rw [f3, ek]; split <;> rfl
        · intro y
          split at y
          · rename_i g8
            rw [f5, if_pos g8, if_pos g8]
          · omega
        · intro y
          exfalso
          split at y <;> omega
      by_cases g8 : e1 - i ≤ 4
      · refine Ok.ifT (nI_le (b := 4) g8 (by decide)) ?_
        exact put 2 (by rw [if_pos g8])
      · refine Ok.ifF (nI_ge (a := 4) (by omega) (by omega)) ?_
        exact put 3 (by rw [if_neg g8])
    refine Ok.ifT rfl ?_
    rw [nI_1]
    apply Ok.step (r_byte hB1 hs1 (by omega))
    obtain ⟨⟨v, S2⟩, f1, f2, f3⟩ := r_sign (n := n) hB1 c1 hT.1 (by omega) hl hd
    apply Ok.step f1
    dsimp only at f2 f3 ⊢
    rw [f2]
    exact fin S2 f3
  · rintro (S1 | S1) h
    · exact Ok.ret h
    · exact Ok.ret h
end RLX
