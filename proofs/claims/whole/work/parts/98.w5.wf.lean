/-! ===== what is told is a village ===== -/
def Wc (cnt : Nat → Nat) (W : VW) : VW := fun r j => if r = 0 then cnt j else W r j
theorem Wc_0 {cnt : Nat → Nat} {W : VW} {j : Nat} : Wc cnt W 0 j = cnt j := rfl
theorem Wc_r {cnt : Nat → Nat} {W : VW} {r j : Nat} (h : r ≠ 0) : Wc cnt W r j = W r j := if_neg h
/-- what holds of the j-th of a kind -/
def Pk (k : Nat) (cnt : Nat → Nat) (W : VW) (j : Nat) : Prop := match k with
  | 1 => W 1 j ≤ 99 ∧ W 2 j ≤ 99
  | 2 => W 3 j ≤ 99
  | 3 => W 4 j < cnt 0 ∧ W 5 j < cnt 0
  | 4 => W 6 j < cnt 1 ∧ W 7 j < cnt 0 ∧ W 8 j ≤ W 9 j ∧ W 9 j ≤ 23
  | 5 => W 10 j < cnt 1 ∧ W 11 j < cnt 2
  | 6 => W 12 j < cnt 1 ∧ W 13 j < cnt 2 ∧ W 14 j ≤ 23
  | 7 => W 15 j < cnt 2 ∧ 1 ≤ W 16 j ∧ W 16 j ≤ 99
  | 8 => W 17 j < 2 ^ cnt 2
  | _ => True
def WFq (cnt : Nat → Nat) (W : VW) : Prop := (∀ k, k < 11 → cnt k ≤ cmx k) ∧ ∀ k, k < 9 → ∀ j, j < cnt k → Pk k cnt W j
theorem WFq.wf {cnt : Nat → Nat} {W : VW} (h : WFq cnt W) : WF (Wc cnt W) := by
  obtain ⟨h1, h2⟩ := h
  have hm : ∀ k : Fin 11, MX k.val = cmx k.val := by decide
  exact ⟨fun k hk => by rw [Wc_0, hm ⟨k, hk⟩]; exact h1 k hk, fun p hp => h2 1 (by decide) p hp, fun t ht => h2 2 (by decide) t ht, fun k hk => h2 3 (by decide) k hk, fun k hk => h2 4 (by decide) k hk, fun k hk => h2 5 (by decide) k hk, fun k hk => h2 6 (by decide) k hk, fun k hk => h2 7 (by decide) k hk, fun k hk => h2 8 (by decide) k hk⟩
theorem Pk_mono {k : Nat} {cnt cnt' : Nat → Nat} {W W' : VW} {j : Nat} (hk : k < 9) (h : ∀ a, cnt a ≤ cnt' a) (hr : ∀ r, 1 ≤ r → r ≤ 17 → rowR r = k → W' r j = W r j) (hp : Pk k cnt W j) : Pk k cnt' W' j := by
  have h0 := h 0
  have h1 := h 1
  have h2 := h 2
  have hcs : k = 0 ∨ k = 1 ∨ k = 2 ∨ k = 3 ∨ k = 4 ∨ k = 5 ∨ k = 6 ∨ k = 7 ∨ k = 8 := by omega
  rcases hcs with e | e | e | e | e | e | e | e | e
  · subst e; trivial
  · subst e
    have q1 := hr 1 (by decide) (by decide) rfl
    have q2 := hr 2 (by decide) (by decide) rfl
    have hp' : W 1 j ≤ 99 ∧ W 2 j ≤ 99 := hp
    show W' 1 j ≤ 99 ∧ W' 2 j ≤ 99
    omega
  · subst e
    have q1 := hr 3 (by decide) (by decide) rfl
    have hp' : W 3 j ≤ 99 := hp
    show W' 3 j ≤ 99
    omega
  · subst e
    have q1 := hr 4 (by decide) (by decide) rfl
    have q2 := hr 5 (by decide) (by decide) rfl
    have hp' : W 4 j < cnt 0 ∧ W 5 j < cnt 0 := hp
    show W' 4 j < cnt' 0 ∧ W' 5 j < cnt' 0
    omega
  · subst e
    have q1 := hr 6 (by decide) (by decide) rfl
    have q2 := hr 7 (by decide) (by decide) rfl
    have q3 := hr 8 (by decide) (by decide) rfl
    have q4 := hr 9 (by decide) (by decide) rfl
    have hp' : W 6 j < cnt 1 ∧ W 7 j < cnt 0 ∧ W 8 j ≤ W 9 j ∧ W 9 j ≤ 23 := hp
    show W' 6 j < cnt' 1 ∧ W' 7 j < cnt' 0 ∧ W' 8 j ≤ W' 9 j ∧ W' 9 j ≤ 23
    omega
  · subst e
    have q1 := hr 10 (by decide) (by decide) rfl
    have q2 := hr 11 (by decide) (by decide) rfl
    have hp' : W 10 j < cnt 1 ∧ W 11 j < cnt 2 := hp
    show W' 10 j < cnt' 1 ∧ W' 11 j < cnt' 2
    omega
  · subst e
    have q1 := hr 12 (by decide) (by decide) rfl
    have q2 := hr 13 (by decide) (by decide) rfl
    have q3 := hr 14 (by decide) (by decide) rfl
    have hp' : W 12 j < cnt 1 ∧ W 13 j < cnt 2 ∧ W 14 j ≤ 23 := hp
    show W' 12 j < cnt' 1 ∧ W' 13 j < cnt' 2 ∧ W' 14 j ≤ 23
    omega
  · subst e
    have q1 := hr 15 (by decide) (by decide) rfl
    have q2 := hr 16 (by decide) (by decide) rfl
    have hp' : W 15 j < cnt 2 ∧ 1 ≤ W 16 j ∧ W 16 j ≤ 99 := hp
    show W' 15 j < cnt' 2 ∧ 1 ≤ W' 16 j ∧ W' 16 j ≤ 99
    omega
  · subst e
    have q1 := hr 17 (by decide) (by decide) rfl
    have q2 : 2 ^ cnt 2 ≤ 2 ^ cnt' 2 := Nat.pow_le_pow_right (by decide) h2
    have hp' : W 17 j < 2 ^ cnt 2 := hp
    show W' 17 j < 2 ^ cnt' 2
    rw [q1]
    exact Nat.lt_of_lt_of_le hp' q2
theorem oN_old {V : Nat → Nat} {T : NTb} {cnt : Nat → Nat} {k j : Nat} (hw : NTw cnt T) (h : cOld V T k j = none) : oN V T k j < cnt k := by
  obtain ⟨m, hm⟩ := cOld_none h
  rw [oN_of hm]
  unfold oldN at hm
  cases hl : lk T (V j) with
  | none => rw [hl] at hm; cases hm
  | some e =>
    rw [hl] at hm
    have h' : (if e.2.1 = k then some e.2.2 else none) = some m := hm
    split at h'
    case isFalse => cases h'
    rename_i ek
    obtain ⟨m1, m2⟩ := lk_some hl
    obtain ⟨q1, q2, q3⟩ := hw.1 e m1
    rw [ek] at q3
    rw [← Option.some.inj h']
    exact q3
theorem tsk_lt {K V : Nat → Nat} {T : NTb} {cnt : Nat → Nat} (hw : NTw cnt T) : ∀ (n s j : Nat), s < 2 ^ cnt 2 → (tsk K V T n s j).1 = none → (tsk K V T n s j).2 < 2 ^ cnt 2 := by
  intro n
  induction n with
  | zero => intro s j h _; exact h
  | succ n ih =>
    intro s j h hF
    rw [tsk] at hF ⊢
    cases ho : oldN V T 2 j with
    | none => rw [ho] at hF; cases hF
    | some t =>
      rw [ho] at hF
      dsimp only at hF ⊢
      by_cases c : s.testBit t = true
      · rw [if_pos c] at hF; cases hF
      rw [if_neg c] at hF ⊢
      have hc : cOld V T 2 j = none := by unfold cOld; rw [ho]; rfl
      have ht := oN_old hw hc
      rw [oN_of ho] at ht
      have hor : s ||| 2 ^ t < 2 ^ cnt 2 := Nat.or_lt_two_pow h (Nat.pow_lt_pow_right (by decide) ht)
      split
      · rename_i c2
        rw [if_pos c2] at hF
        exact ih _ _ hor hF
      · exact hor
theorem Pk_new {K V : Nat → Nat} {T : NTb} {cnt : Nat → Nat} {W : VW} {k m i : Nat} (hk : k < 9) (hw : NTw cnt T) (hF : semF K V T k i = none) : Pk k cnt (semW K V T k m i W) m := by
  have hcs : k = 0 ∨ k = 1 ∨ k = 2 ∨ k = 3 ∨ k = 4 ∨ k = 5 ∨ k = 6 ∨ k = 7 ∨ k = 8 := by omega
  rcases hcs with e | e | e | e | e | e | e | e | e
  · subst e; trivial
  · subst e
    have hF' : orF (cNew V T (i + 1)) (orF (cIn V 0 99 (i + 2)) (if K (i + 3) = 11 then cIn V 0 23 (i + 4) else none)) = none := hF
    obtain ⟨f1, f2⟩ := orF_none hF'
    obtain ⟨f2, f3⟩ := orF_none f2
    have eW : semW K V T 1 m i W = wS (wS W 1 m (V (i + 2))) 2 m (bth K V i) := rfl
    rw [eW]
    show wS (wS W 1 m (V (i + 2))) 2 m (bth K V i) 1 m ≤ 99 ∧ wS (wS W 1 m (V (i + 2))) 2 m (bth K V i) 2 m ≤ 99
    rw [wS_n (Or.inl (by decide)), wS_s, wS_s]
    refine ⟨(cIn_none f2).2, ?_⟩
    unfold bth
    split
    · rename_i c
      rw [if_pos c] at f3
      have := (cIn_none f3).2
      omega
    · exact Nat.le_refl _
  · subst e
    have hF' : orF (cNew V T (i + 1)) (cIn V 0 99 (i + 2)) = none := hF
    obtain ⟨f1, f2⟩ := orF_none hF'
    show wS W 3 m (V (i + 2)) 3 m ≤ 99
    rw [wS_s]
    exact (cIn_none f2).2
  · subst e
    have hF' : orF (cOld V T 0 (i + 1)) (orF (cOld V T 0 (i + 2)) (if oldN V T 0 (i + 1) = oldN V T 0 (i + 2) then some (5, i + 2) else none)) = none := hF
    obtain ⟨f1, f2⟩ := orF_none hF'
    obtain ⟨f2, f3⟩ := orF_none f2
    show wS (wS W 4 m (oN V T 0 (i + 1))) 5 m (oN V T 0 (i + 2)) 4 m < cnt 0 ∧ wS (wS W 4 m (oN V T 0 (i + 1))) 5 m (oN V T 0 (i + 2)) 5 m < cnt 0
    rw [wS_n (Or.inl (by decide)), wS_s, wS_s]
    exact ⟨oN_old hw f1, oN_old hw f2⟩
  · subst e
    have hF' : orF (cOld V T 1 (i + 1)) (orF (cOld V T 0 (i + 2)) (orF (cIn V 0 23 (i + 3)) (cIn V (V (i + 3)) 23 (i + 4)))) = none := hF
    obtain ⟨f1, f2⟩ := orF_none hF'
    obtain ⟨f2, f3⟩ := orF_none f2
    obtain ⟨f3, f4⟩ := orF_none f3
    have eW : semW K V T 4 m i W = wS (wS (wS (wS W 6 m (oN V T 1 (i + 1))) 7 m (oN V T 0 (i + 2))) 8 m (V (i + 3))) 9 m (V (i + 4)) := rfl
    rw [eW]
    show wS _ 9 m _ 6 m < cnt 1 ∧ wS _ 9 m _ 7 m < cnt 0 ∧ wS _ 9 m _ 8 m ≤ wS _ 9 m _ 9 m ∧ wS _ 9 m _ 9 m ≤ 23
    rw [wS_n (Or.inl (by decide)), wS_n (Or.inl (by decide)), wS_n (Or.inl (by decide)), wS_s, wS_n (Or.inl (by decide)), wS_n (Or.inl (by decide)), wS_s, wS_n (Or.inl (by decide)), wS_s, wS_s]
    exact ⟨oN_old hw f1, oN_old hw f2, (cIn_none f4).1, (cIn_none f4).2⟩
  · subst e
    have hF' : orF (cOld V T 1 (i + 1)) (cOld V T 2 (i + 2)) = none := hF
    obtain ⟨f1, f2⟩ := orF_none hF'
    show wS (wS W 10 m (oN V T 1 (i + 1))) 11 m (oN V T 2 (i + 2)) 10 m < cnt 1 ∧ wS (wS W 10 m (oN V T 1 (i + 1))) 11 m (oN V T 2 (i + 2)) 11 m < cnt 2
    rw [wS_n (Or.inl (by decide)), wS_s, wS_s]
    exact ⟨oN_old hw f1, oN_old hw f2⟩
  · subst e
    have hF' : orF (cOld V T 1 (i + 1)) (orF (cOld V T 2 (i + 2)) (cIn V 0 23 (i + 3))) = none := hF
    obtain ⟨f1, f2⟩ := orF_none hF'
    obtain ⟨f2, f3⟩ := orF_none f2
    show wS (wS (wS W 12 m (oN V T 1 (i + 1))) 13 m (oN V T 2 (i + 2))) 14 m (V (i + 3)) 12 m < cnt 1 ∧ wS (wS (wS W 12 m (oN V T 1 (i + 1))) 13 m (oN V T 2 (i + 2))) 14 m (V (i + 3)) 13 m < cnt 2 ∧ wS (wS (wS W 12 m (oN V T 1 (i + 1))) 13 m (oN V T 2 (i + 2))) 14 m (V (i + 3)) 14 m ≤ 23
    rw [wS_n (Or.inl (by decide)), wS_n (Or.inl (by decide)), wS_s, wS_n (Or.inl (by decide)), wS_s, wS_s]
    exact ⟨oN_old hw f1, oN_old hw f2, (cIn_none f3).2⟩
  · subst e
    have hF' : orF (cNew V T (i + 1)) (orF (cOld V T 2 (i + 2)) (cIn V 1 99 (i + 3))) = none := hF
    obtain ⟨f1, f2⟩ := orF_none hF'
    obtain ⟨f2, f3⟩ := orF_none f2
    show wS (wS W 15 m (oN V T 2 (i + 2))) 16 m (V (i + 3)) 15 m < cnt 2 ∧ 1 ≤ wS (wS W 15 m (oN V T 2 (i + 2))) 16 m (V (i + 3)) 16 m ∧ wS (wS W 15 m (oN V T 2 (i + 2))) 16 m (V (i + 3)) 16 m ≤ 99
    rw [wS_n (Or.inl (by decide)), wS_s, wS_s]
    exact ⟨oN_old hw f2, (cIn_none f3).1, (cIn_none f3).2⟩
  · subst e
    have hF' : orF (cNew V T (i + 1)) (tsk K V T 401 0 (i + 2)).1 = none := hF
    obtain ⟨f1, f2⟩ := orF_none hF'
    show wS W 17 m (tsk K V T 401 0 (i + 2)).2 17 m < 2 ^ cnt 2
    rw [wS_s]
    exact tsk_lt hw 401 0 (i + 2) (Nat.two_pow_pos _) f2
/-- all that is told is a village -/
theorem smR_wf {K V : Nat → Nat} (hv : ∀ j, V j < 2 ^ 63) : ∀ (n : Nat) (Y : SY) (M : SM), yW K Y.1 → Y.1.1 = 0 → cms Y.1 < n → (syR K V n Y).1.1 = 0 → (M.2.2 = none → NTw Y.2.1 M.1 ∧ WFq Y.2.1 M.2.1) → (smR K V n Y M).2.2 = none → WFq (syR K V n Y).2.1 (smR K V n Y M).2.1 := by
  intro n
  induction n with
  | zero => intro Y M _ _ h; omega
  | succ n ih =>
    intro Y M hw h0 hc hR hM hF
    obtain ⟨_, hcase⟩ := syR_ok hR
    rcases hcase with h35 | ⟨hk, hz⟩
    · rw [syR_done (Or.inr h35)]
      rw [smR, if_pos (Or.inr h35)] at hF ⊢
      exact (hM hF).2
    have h35 : K Y.1.2 ≠ 35 := by omega
    have e1 : syR K V (n + 1) Y = syR K V n (syT K V Y) := if_neg (by omega)
    have e2 : smR K V (n + 1) Y M = smR K V n (syT K V Y) (seT K V Y.2.1 Y.1.2 M) := by
      rw [smR, if_neg (by omega), if_pos hz]
    rw [e1] at hR ⊢
    rw [e2] at hF ⊢
    obtain ⟨w1, w2⟩ := syT_w (V := V) hw h0
    refine ih _ _ w1 hz (by omega) hR (fun hS => ?_) hF
    have hMn : M.2.2 = none := by
      cases h : M.2.2 with
      | none => rfl
      | some x => rw [seT_some h, h] at hS; cases hS
    obtain ⟨nT, ⟨nc, nP⟩⟩ := hM hMn
    have hsf : semF K V M.1 (K Y.1.2) Y.1.2 = none := by
      cases h : semF K V M.1 (K Y.1.2) Y.1.2 with
      | none => rfl
      | some x =>
        unfold seT at hS
        rw [hMn, if_neg (by decide), h, if_pos (by rfl)] at hS
        cases hS
    have eM : seT K V Y.2.1 Y.1.2 M = (semT V M.1 (K Y.1.2) (Y.2.1 (K Y.1.2)) Y.1.2, semW K V M.1 (K Y.1.2) (Y.2.1 (K Y.1.2)) Y.1.2 M.2.1, none) := by
      unfold seT
      rw [hMn, if_neg (by decide), hsf, if_neg (by decide)]
    rw [eM, syT_cnt hk]
    have hz' : (tY K V (K Y.1.2) (Y.2.1 (K Y.1.2)) Y.1).1 = 0 := by rw [← syT_1 hk]; exact hz
    obtain ⟨_, tm, _⟩ := tY_lt hw hk hz'
    have up : ∀ a, Y.2.1 a ≤ upN Y.2.1 (K Y.1.2) (Y.2.1 (K Y.1.2) + 1) a := fun a => by
      by_cases e : a = K Y.1.2
      · rw [e, upN_s]; omega
      · rw [upN_n e]; exact Nat.le_refl _
    refine ⟨NT_up nT hsf (hv _), fun k hk2 => ?_, fun k hk2 j hj => ?_⟩
    · by_cases e : k = K Y.1.2
      · rw [e, upN_s]
        have := nc _ hk
        omega
      · rw [upN_n e]; exact nc k hk2
    · by_cases e : k = K Y.1.2
      · rw [e, upN_s] at hj
        by_cases ej : j = Y.2.1 (K Y.1.2)
        · rw [ej, e]
          exact Pk_mono (by omega) up (fun _ _ _ _ => rfl) (Pk_new (by omega) nT hsf)
        · refine Pk_mono hk2 up (fun r _ _ _ => semW_ne ej) (nP k hk2 j ?_)
          rw [e]; omega
      · rw [upN_n e] at hj
        exact Pk_mono hk2 up (fun r r1 r2 r3 => semW_rk r1 r2 (by rw [r3]; exact e)) (nP k hk2 j hj)
