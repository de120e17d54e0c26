/-! ===== the cheapest way, by the reference: which option ===== -/
section CHF
variable {W : VW} {V : VL} {tw en sd : Nat} {P : PL} {N : Nat} {H : HL} {n : Nat} {S : ST}
theorem Lb_sorted {t h i j : Nat} (hij : i ≤ j) (hj : j < (Lb W V t h 2000).length) : (Lb W V t h 2000).getD i 0 ≤ (Lb W V t h 2000).getD j 0 := by
  have hp : (Lb W V t h 2000).Pairwise (· < ·) := List.Pairwise.filter _ List.pairwise_lt_range
  rw [List.getD_eq_getElem?_getD, List.getD_eq_getElem?_getD, List.getElem?_eq_getElem hj, List.getElem?_eq_getElem (show i < (Lb W V t h 2000).length by omega)]
  show (Lb W V t h 2000)[i] ≤ (Lb W V t h 2000)[j]
  by_cases e : i = j
  · subst e; exact Nat.le_refl _
  · exact Nat.le_of_lt ((List.pairwise_iff_getElem.mp hp) i j (by omega) hj (by omega))
/-- an option that the least way takes -/
def gdC (W : VW) (V : VL) (q t d x c : Nat) : Prop := x.testBit (pC c) = true ∧ chOpt W V q t d (x ||| sC W (23 - d) c) ≠ 500000 ∧ vlC W (chOpt W V q t d) (23 - d) x c = chOpt W V q t (d + 1) x
theorem r_find {q t d x : Nat} {β : Type} {cont : Int32 → Option β} {R : β → Prop} (hR : RRep W sd S) (hW : WF W) (hn : 30000 ≤ n) (hd : d < 24) (hx : x < 2 ^ W 0 1) (hq : x.testBit q = false) (hO : OptR W (23 - d) (Lb W V t (23 - d) 2000) S) (hl : (Lb W V t (23 - d) 2000).length ≤ 160) (hT : TRw W V q t (24 - d) S) (hT2 : TRw W V q t (23 - d) S)
    (hc : ∀ e, (chEn W V q t (23 - d) x % 2048 = 2047 → e = -1) → (chEn W V q t (23 - d) x % 2048 ≠ 2047 → ∃ j, j < 160 ∧ e = nI j ∧ (Lb W V t (23 - d) 2000)[j]? = some (chEn W V q t (23 - d) x % 2048)) → Ok (cont e) R) :
    Ok ((iter (fun (s13 : Int32 × Int32) => if (S.1 95 76) ≤ s13.2 then some (.inr s13.1) else if s13.1 = (-1 : Int32) then (E_X12_canTake n S s13.2 (nI x)).bind fun v16 => jn (fun (u17 : Int32) => some (.inl (u17, (s13.2 + (1 : Int32))))) fun j18 => if v16 = 0 then j18 s13.1 else (rd (S.1 153) 160 s13.2).bind fun v20 => (rd (S.1 149) 25600 ((((1024 : Int32) * (nI (23 - d))) + (1024 : Int32)) + ((nI x) ||| v20))).bind fun v21 => if v21 = (-1 : Int32) then j18 s13.1 else (E_X12_price n S s13.2).bind fun v23 => (rd (S.1 149) 25600 (((1024 : Int32) * (nI (23 - d))) + (nI x))).bind fun v24 => if (v21 + v23) = v24 then j18 s13.2 else j18 s13.1 else some (.inr s13.1)) n ((-1 : Int32), (0 : Int32))).bind fun (e13 : Int32) => cont e13) R := by
  have hm1 : W 0 1 ≤ 10 := hW.mx (k := 1) (by decide)
  have hpow : 2 ^ W 0 1 ≤ 2 ^ 10 := Nat.pow_le_pow_right (by decide) hm1
  rw [hO.1]
  refine bindL (fun i s => s.2 = nI i ∧ ((s.1 = -1 ∧ ∀ j, j < i → ¬ gdC W V q t d x ((Lb W V t (23 - d) 2000).getD j 0)) ∨ ∃ j, j < i ∧ s.1 = nI j ∧ gdC W V q t d x ((Lb W V t (23 - d) 2000).getD j 0) ∧ ∀ l, l < j → ¬ gdC W V q t d x ((Lb W V t (23 - d) 2000).getD l 0)))
    (fun e => (e = -1 ∧ ∀ j, j < (Lb W V t (23 - d) 2000).length → ¬ gdC W V q t d x ((Lb W V t (23 - d) 2000).getD j 0)) ∨ ∃ j, j < (Lb W V t (23 - d) 2000).length ∧ e = nI j ∧ gdC W V q t d x ((Lb W V t (23 - d) 2000).getD j 0) ∧ ∀ l, l < j → ¬ gdC W V q t d x ((Lb W V t (23 - d) 2000).getD l 0)) 0 (Lb W V t (23 - d) 2000).length (Nat.zero_le _) (by omega) ⟨rfl, Or.inl ⟨rfl, fun j hj => absurd hj (by omega)⟩⟩ ?_ ?_ ?_
  · rintro i ⟨e, y⟩ _ hi ⟨rfl, hs⟩
    dsimp only at hs ⊢
    refine Ok.ifF (nI_ge hi (by omega)) ?_
    rcases hs with ⟨rfl, hno⟩ | ⟨j, h1, rfl, h2, h3⟩
    case inr => exact Ok.ifF (nI_m1 (by omega)) (Ok.inr (Or.inr ⟨j, by omega, rfl, h2, h3⟩))
    refine Ok.ifT rfl ?_
    have hv := Lb_get (W := W) (V := V) (t := t) (h := 23 - d) hi
    have hk := kC_le hW hv
    have hp := vC_p hv
    have hpr := r_price (n := n) hR hW hO hl hi
    have hci : (Lb W V t (23 - d) 2000)[i]? = some ((Lb W V t (23 - d) 2000).getD i 0) := by
      rw [List.getD_eq_getElem?_getD, List.getElem?_eq_getElem hi]; rfl
    obtain ⟨o1, o2, o3, o4⟩ := hO.2 i _ hci
    have no : ¬ gdC W V q t d x ((Lb W V t (23 - d) 2000).getD i 0) → Ok (some (Sum.inl ((-1 : Int32), nI i + 1) : Int32 × Int32 ⊕ Int32)) (Sum.elim (fun s => s.2 = nI (i + 1) ∧ ((s.1 = -1 ∧ ∀ j, j < i + 1 → ¬ gdC W V q t d x ((Lb W V t (23 - d) 2000).getD j 0)) ∨ ∃ j, j < i + 1 ∧ s.1 = nI j ∧ gdC W V q t d x ((Lb W V t (23 - d) 2000).getD j 0) ∧ ∀ l, l < j → ¬ gdC W V q t d x ((Lb W V t (23 - d) 2000).getD l 0))) (fun e => (e = -1 ∧ ∀ j, j < (Lb W V t (23 - d) 2000).length → ¬ gdC W V q t d x ((Lb W V t (23 - d) 2000).getD j 0)) ∨ ∃ j, j < (Lb W V t (23 - d) 2000).length ∧ e = nI j ∧ gdC W V q t d x ((Lb W V t (23 - d) 2000).getD j 0) ∧ ∀ l, l < j → ¬ gdC W V q t d x ((Lb W V t (23 - d) 2000).getD l 0))) := fun hg => by
      refine Ok.inl ⟨nI_1 _, Or.inl ⟨rfl, fun j hj => ?_⟩⟩
      by_cases e : j = i
      · rw [e]; exact hg
      · exact hno j (by omega)
    have yes : gdC W V q t d x ((Lb W V t (23 - d) 2000).getD i 0) → Ok (some (Sum.inl (nI i, nI i + 1) : Int32 × Int32 ⊕ Int32)) (Sum.elim (fun s => s.2 = nI (i + 1) ∧ ((s.1 = -1 ∧ ∀ j, j < i + 1 → ¬ gdC W V q t d x ((Lb W V t (23 - d) 2000).getD j 0)) ∨ ∃ j, j < i + 1 ∧ s.1 = nI j ∧ gdC W V q t d x ((Lb W V t (23 - d) 2000).getD j 0) ∧ ∀ l, l < j → ¬ gdC W V q t d x ((Lb W V t (23 - d) 2000).getD l 0))) (fun e => (e = -1 ∧ ∀ j, j < (Lb W V t (23 - d) 2000).length → ¬ gdC W V q t d x ((Lb W V t (23 - d) 2000).getD j 0)) ∨ ∃ j, j < (Lb W V t (23 - d) 2000).length ∧ e = nI j ∧ gdC W V q t d x ((Lb W V t (23 - d) 2000).getD j 0) ∧ ∀ l, l < j → ¬ gdC W V q t d x ((Lb W V t (23 - d) 2000).getD l 0))) := fun hg => by
      exact Ok.inl ⟨nI_1 _, Or.inr ⟨i, by omega, rfl, hg, hno⟩⟩
    generalize (Lb W V t (23 - d) 2000).getD i 0 = c at *
    have hs := sC_lt (W := W) (h := 23 - d) (c := c)
    have hy : x ||| sC W (23 - d) c < 2 ^ W 0 1 := Nat.or_lt_two_pow hx hs
    have ect : E_X12_canTake n S (nI i) (nI x) = some (bI (x.testBit (pC c))) := by
      unfold E_X12_canTake
      apply Ok.e
      apply Ok.step (x := nI (pC c)) (by rw [rd_nI (by omega) (by decide), o2])
      by_cases cb : x.testBit (pC c) = true
      · exact Ok.ifT ((shr_1 _ (by omega)).mpr (by rw [bt_nI _ _ (by omega)]; exact cb)) (Ok.ret (by rw [cb]; rfl))
      · refine Ok.ifF (fun z => cb ?_) (Ok.ret ?_)
        · have := (shr_1 _ (by omega)).mp z
          rw [bt_nI _ _ (by omega)] at this
          exact this
        · simp only [Bool.not_eq_true] at cb
          rw [cb]; rfl
    apply Ok.step ect
    apply Ok.jnU
    by_cases cb : x.testBit (pC c) = true
    case neg =>
      have : ¬ gdC W V q t d x c := fun z => cb z.1
      simp only [Bool.not_eq_true] at cb
      rw [cb]
      exact Ok.ifT rfl (no this)
    rw [cb]
    refine Ok.ifF (by decide) ?_
    apply Ok.step (x := nI (sC W (23 - d) c)) (by rw [rd_nI (by omega) (by decide), o4])
    have ea : (((1024 : Int32) * (nI (23 - d))) + (1024 : Int32)) + ((nI x) ||| nI (sC W (23 - d) c)) = nI (1024 * (24 - d) + (x ||| sC W (23 - d) c)) := by
      rw [nI_orN (by omega) (by omega), show (1024 : Int32) = nI 1024 from rfl, nI_mulN, nI_add, nI_add, show 1024 * (23 - d) + 1024 = 1024 * (24 - d) by omega]
    rw [ea]
    apply Ok.step (x := cv (chOpt W V q t d (x ||| sC W (23 - d) c))) (by rw [rd_nI (by omega) (by decide), hT _ hy, show 24 - (24 - d) = d by omega])
    have wf2 := chOpt_wf (V := V) (q := q) (t := t) hW d (x ||| sC W (23 - d) c) (by omega)
    by_cases cf : chOpt W V q t d (x ||| sC W (23 - d) c) = 500000
    · exact Ok.ifT ((cv_m1 wf2 (by omega)).mpr cf) (no (fun z => z.2.1 cf))
    refine Ok.ifF (fun z => cf ((cv_m1 wf2 (by omega)).mp z)) ?_
    apply Ok.step hpr
    have e3 := cv_price wf2 hd cf hk
    have wf3 : WFc 24 (vlC W (chOpt W V q t d) (23 - d) x c) := by
      unfold vlC
      rcases wf2 with z | ⟨z1, z2⟩
      · exact absurd z cf
      · exact Or.inr ⟨by omega, by omega⟩
    have wf4 := chOpt_wf (V := V) (q := q) (t := t) hW (d + 1) x (by omega)
    have wf5 : WFc 24 (chOpt W V q t (d + 1) x) := by
      rcases wf4 with z | ⟨z1, z2⟩
      · exact Or.inl z
      · exact Or.inr ⟨by omega, by omega⟩
    have ea2 : ((1024 : Int32) * (nI (23 - d))) + nI x = nI (1024 * (23 - d) + x) := by
      rw [show (1024 : Int32) = nI 1024 from rfl, nI_mulN, nI_add]
    rw [ea2]
    apply Ok.step (x := cv (chOpt W V q t (d + 1) x)) (by rw [rd_nI (by omega) (by decide), hT2 _ hx, show 24 - (23 - d) = d + 1 by omega])
    have e4 : cv (chOpt W V q t d (x ||| sC W (23 - d) c)) + nI (1000 * kC W c + 1) = cv (vlC W (chOpt W V q t d) (23 - d) x c) := e3
    rw [e4]
    by_cases cg : vlC W (chOpt W V q t d) (23 - d) x c = chOpt W V q t (d + 1) x
    · exact Ok.ifT (by rw [cg]) (yes ⟨cb, cf, cg⟩)
    · exact Ok.ifF (fun z => cg (cv_inj wf3 wf5 (by omega) z)) (no (fun z => cg z.2.2))
  · rintro ⟨e, y⟩ ⟨rfl, hs⟩
    dsimp only at hs ⊢
    refine Ok.ifT (Int32.le_refl _) (Ok.inr ?_)
    exact hs
  · rintro e he
    obtain ⟨h1, h2, h3⟩ := opt_min (V := V) (t := t) hW hd hq
    refine hc e (fun z => ?_) (fun z => ?_)
    · rcases he with ⟨y, _⟩ | ⟨j, j1, j2, j3, j4⟩
      · exact y
      · have := (h2 z).2 _ (Lb_get j1) j3.1
        have := j3.2.2
        omega
    · obtain ⟨h4, h5, h6⟩ := h3 z
      obtain ⟨hv, hb, _⟩ := chEn_code (V := V) (q := q) (t := t) (h := 23 - d) (x := x) hW z
      obtain ⟨i0, hi0, ei0⟩ := Lb_idx hv
      have g0 : gdC W V q t d x ((Lb W V t (23 - d) 2000).getD i0 0) := by rw [ei0]; exact ⟨hb, h4, h5.symm⟩
      rcases he with ⟨_, y⟩ | ⟨j, j1, j2, j3, j4⟩
      · exact absurd g0 (y i0 hi0)
      · have hji : j ≤ i0 := by
          by_cases c : j ≤ i0
          · exact c
          · exact absurd g0 (j4 i0 (by omega))
        have a1 := Lb_sorted hji hi0
        have a2 := h6 _ (Lb_get j1) j3.1 j3.2.2.symm
        rw [ei0] at a1
        refine ⟨j, by omega, j2, ?_⟩
        have : (Lb W V t (23 - d) 2000)[j]? = some ((Lb W V t (23 - d) 2000).getD j 0) := by
          rw [List.getD_eq_getElem?_getD, List.getElem?_eq_getElem j1]; rfl
        rw [this, show (Lb W V t (23 - d) 2000).getD j 0 = chEn W V q t (23 - d) x % 2048 from Nat.le_antisymm a1 a2]
end CHF
