/-! ===== the cheapest way, step by step, by the class ===== -/
/-- the a-th doing of the cheapest way: from d hours before the end, what is known, how many were done -/
def wStep (W : VW) (V : VL) (q t a : Nat) : Nat → Nat → Nat → Option Nat
  | 0, _, _ => none
  | d + 1, x, j => if x.testBit q = true then none else
      if chEn W V q t (23 - d) x % 2048 = 2047 then wStep W V q t a d x j
      else if j = a then some (10000 * (23 - d) + chEn W V q t (23 - d) x % 2048)
      else wStep W V q t a d (x ||| sC W (23 - d) (chEn W V q t (23 - d) x % 2048)) (j + 1)
section CHS
variable {W : VW} {V : VL} {tw en sd : Nat} {P : PL} {N : Nat} {H : HL} {n : Nat} {S : ST}
/-- the code of an entry -/
theorem chEn_code {q t h x : Nat} (hW : WF W) (hx : chEn W V q t h x % 2048 ≠ 2047) : vC W V t h (chEn W V q t h x % 2048) ∧ x.testBit (pC (chEn W V q t h x % 2048)) = true ∧ chEn W V q t h x = gC W (chOpt W V q t (23 - h)) h x (chEn W V q t h x % 2048) := by
  have hm1 : W 0 1 ≤ 10 := hW.mx (k := 1) (by decide)
  have hm7 : W 0 7 ≤ 6 := hW.mx (k := 7) (by decide)
  obtain ⟨h1, h2, h3⟩ := chEnt_min (V := V) (t := t) (f := chOpt W V q t (23 - h)) (h := h) (x := x) hm1 hm7 (chOpt_le _ _) (W 0 1) (Nat.le_refl _)
  have e : chEn W V q t h x = chEnt W V t (chOpt W V q t (23 - h)) h x (W 0 1) := rfl
  rw [← e] at h1
  rcases h1 with z | ⟨p, z1, z2, c, z3, z4, z5, z6, z7⟩
  · rw [z] at hx; omega
  · have ec : chEn W V q t h x % 2048 = c := by rw [z7]; unfold gC; omega
    rw [ec, z5]
    exact ⟨z4, z2, z7⟩
theorem chEn_le {q t h x : Nat} : chEn W V q t h x ≤ 1024002047 := chEnt_le (chOpt_le _ _) _
theorem sC_lt {h c : Nat} : sC W h c < 2 ^ W 0 1 := by
  unfold sC
  split
  · exact wHearN_lt
  · exact wStandN_lt
theorem c_step {q t z h0 a : Nat} (hC : CW W V tw S) (hW : WF W) (hn : 30000 ≤ n) (hq : q < W 0 1) (ht : t < 6) (hz : z < 2 ^ W 0 1) (hh : h0 < 24) (ha : a < 2 ^ 31) (hJ : ChJ W V q t S) :
    Ok (E_X0_step n S tw (nI h0) (nI z) (nI a)) (fun r => r.1 = (if chOpt W V q t (24 - h0) z = 500000 then none else wStep W V q t a (24 - h0) z 0).elim (-1) nI ∧ Df (Xc 161) S r.2 ∧ ChJ W V q t r.2) := by
  have hw := hC.1
  have hm1 : W 0 1 ≤ 10 := hW.mx (k := 1) (by decide)
  have hpow : 2 ^ W 0 1 ≤ 2 ^ 10 := Nat.pow_le_pow_right (by decide) hm1
  have hCd : ∀ {S'}, Df (Xc 161) S S' → CW W V tw S' := fun d => hC.df d (fun a j ha => by
    simp only [Xc, beq_eq_false_iff_ne]
    omega)
  unfold E_X0_step
  obtain ⟨⟨v, S1⟩, e1, e2, d1, j1⟩ := c_least (V := V) (tw := tw) hW hn hq ht (24 - h0) 26 S z (by omega) (by omega) hz hC hJ
  dsimp only at e2 d1 j1
  subst e2
  rw [show 24 - (24 - h0) = h0 by omega] at e1
  apply Ok.step e1
  have ol := chOpt_le (W := W) (V := V) (q := q) (t := t) (24 - h0) z
  by_cases c0 : chOpt W V q t (24 - h0) z = 500000
  · rw [if_pos c0]
    exact Ok.ifT (by rw [c0]; rfl) (Ok.ret ⟨rfl, d1, j1⟩)
  rw [if_neg c0]
  refine Ok.ifF (fun y => c0 ((nI_eq (b := 500000) (by omega) (by decide)).mp y)) ?_
  refine bindL (fun i s => ∃ x j, s.1 = nI x ∧ s.2.1 = nI j ∧ s.2.2.1 = nI i ∧ x < 2 ^ W 0 1 ∧ j ≤ i ∧ Df (Xc 161) S s.2.2.2 ∧ ChJ W V q t s.2.2.2 ∧ wStep W V q t a (24 - i) x j = wStep W V q t a (24 - h0) z 0)
    (Sum.elim (fun S' => Df (Xc 161) S S' ∧ ChJ W V q t S' ∧ wStep W V q t a (24 - h0) z 0 = none) (fun r => r.1 = (wStep W V q t a (24 - h0) z 0).elim (-1) nI ∧ Df (Xc 161) S r.2 ∧ ChJ W V q t r.2)) h0 24 (by omega) (by omega) ⟨z, 0, rfl, rfl, rfl, hz, Nat.zero_le _, d1, j1, rfl⟩ ?_ ?_ ?_
  · rintro i ⟨u1, u2, u3, S2⟩ _ hi ⟨x, j, rfl, rfl, rfl, hx, hj, d2, j2, ew⟩
    dsimp only at d2 j2 ⊢
    have hC2 := hCd d2
    refine Ok.ifF (nI_ge (b := 24) (by omega) (by decide)) ?_
    rw [j2.1]
    apply Ok.step (c_hasBit (by omega))
    rw [bt_nI _ _ (by omega)]
    obtain ⟨d, ed⟩ : ∃ d, 24 - i = d + 1 := ⟨23 - i, by omega⟩
    have ed2 : 23 - d = i := by omega
    rw [ed, wStep, ed2] at ew
    by_cases c1 : x.testBit q = true
    · rw [c1]
      rw [if_pos c1] at ew
      exact Ok.ifF (by decide) (Ok.inr ⟨d2, j2, ew.symm⟩)
    rw [if_neg c1] at ew
    have c2 : x.testBit q = false := by simpa using c1
    rw [c2]
    refine Ok.ifT rfl ?_
    obtain ⟨⟨v, S3⟩, e3, e4, d3, j3⟩ := c_entry (V := V) (tw := tw) (q := q) (t := t) (h := i) (x := x) (El := E_X0_least n 26 tw) hC2 hW hn (by omega) hx ht j2 (by
      intro S' y hC' hy hJ'
      rw [show i + 1 = 24 - (23 - i) by omega]
      exact c_least (V := V) hW hn hq ht (23 - i) 26 S' y (by omega) (by omega) hy hC' hJ')
    dsimp only at e4 d3 j3
    subst e4
    apply Ok.step e3
    have hl := chEn_le (W := W) (V := V) (q := q) (t := t) (h := i) (x := x)
    have hcode := chEn_code (V := V) (q := q) (t := t) (h := i) (x := x) hW
    have em : nI (chEn W V q t i x) - nI (chEn W V q t i x) / (2048 : Int32) * (2048 : Int32) = nI (chEn W V q t i x % 2048) := by
      rw [show (2048 : Int32) = nI 2048 from rfl, nI_divN (by omega) (by decide), nI_mulN]
      have : chEn W V q t i x = (chEn W V q t i x % 2048) + chEn W V q t i x / 2048 * 2048 := by omega
      generalize chEn W V q t i x / 2048 * 2048 = b at *
      generalize chEn W V q t i x % 2048 = c at *
      rw [this, ← nI_add, Int32.add_sub_cancel]
    refine Ok.gdT (by decide) ?_
    apply Ok.letsU
    dsimp only
    rw [em]
    have d4 := d2.trans d3
    have hc : chEn W V q t i x % 2048 < 2048 := Nat.mod_lt _ (by decide)
    generalize chEn W V q t i x % 2048 = c at *
    apply Ok.jnU
    by_cases c3 : c = 2047
    · rw [if_pos c3] at ew
      refine Ok.ifT (by rw [c3]; rfl) (Ok.inl ⟨x, j, rfl, rfl, nI_1 _, hx, by omega, d4, j3, ?_⟩)
      rw [show 24 - (i + 1) = d by omega]; exact ew
    rw [if_neg c3] at ew
    refine Ok.ifF (fun y => c3 ((nI_eq (b := 2047) (by omega) (by decide)).mp y)) ?_
    by_cases c4 : j = a
    · rw [if_pos c4] at ew
      refine Ok.ifT (by rw [c4]) (Ok.inr ⟨?_, d4, j3⟩)
      dsimp only
      rw [← ew, show (10000 : Int32) = nI 10000 from rfl, nI_mulN, nI_add]; rfl
    rw [if_neg c4] at ew
    refine Ok.ifF (fun y => c4 ((nI_eq (by omega) ha).mp y)) ?_
    obtain ⟨hv, hb, _⟩ := hcode c3
    have hp := vC_p hv
    have ep : (nI c - nI c / (1000 : Int32) * (1000 : Int32)) / (20 : Int32) = nI (pC c) := by
      rw [show (1000 : Int32) = nI 1000 from rfl, show (20 : Int32) = nI 20 from rfl, nI_divN (by omega) (by decide), nI_mulN]
      have e5 : nI c - nI (c / 1000 * 1000) = nI (c % 1000) := by
        have : c = c % 1000 + c / 1000 * 1000 := by omega
        generalize c / 1000 * 1000 = b at *
        generalize c % 1000 = r at *
        rw [this, ← nI_add, Int32.add_sub_cancel]
      rw [e5, nI_divN (by omega) (by decide)]; rfl
    rw [ep]
    refine Ok.gdT (by decide) (Ok.gdT (by decide) ?_)
    have hC3 := hCd d4
    apply Ok.step (c_placeOf hC3 hW hp (by omega))
    refine jnH1 (fun u => u = nI (sC W i c)) ?_ ?_
    · rintro _ rfl
      refine Ok.inl ⟨x ||| sC W i c, j + 1, ?_, nI_1 _, nI_1 _, Nat.or_lt_two_pow hx sC_lt, by omega, d4, j3, ?_⟩
      · have := sC_lt (W := W) (h := i) (c := c)
        exact nI_orN (by omega) (by omega)
      · rw [show 24 - (i + 1) = d by omega]; exact ew
    · intro K hK
      by_cases c5 : c < 1000
      · refine Ok.ifF (nI_ge (b := 1000) c5 (by decide)) ?_
        apply Ok.step (c_hearers hC3 hW (by omega))
        exact hK _ (by unfold sC; rw [if_pos c5, bs_nI _ (by omega)]; rfl)
      · refine Ok.ifT (nI_le (a := 1000) (by omega) (by omega)) ?_
        apply Ok.step (c_standers hC3 hW (by omega))
        exact hK _ (by unfold sC; rw [if_neg c5, bs_nI _ (by omega)]; rfl)
  · rintro ⟨u1, u2, u3, S2⟩ ⟨x, j, rfl, rfl, rfl, hx, hj, d2, j2, ew⟩
    dsimp only at d2 j2 ⊢
    exact Ok.ifT (by decide) (Ok.inr ⟨d2, j2, by rw [← ew]; rfl⟩)
  · rintro (S2 | ⟨v, S2⟩) hq2
    · exact ⟨_, rfl, by rw [hq2.2.2]; rfl, hq2.1, hq2.2.1⟩
    · exact ⟨_, rfl, hq2.1, hq2.2.1, hq2.2.2⟩
end CHS
