/-! ===== cheapAt by the reference ===== -/
section CHW
variable {W : VW} {V : VL} {tw en sd : Nat} {P : PL} {N : Nat} {H : HL} {n : Nat} {S : ST}
theorem nI_dec (b : Nat) : nI (b + 1) + (-1 : Int32) = nI b := by
  rw [← nI_add, Int32.add_assoc, show nI 1 + (-1 : Int32) = 0 from rfl, Int32.add_zero]
theorem code_parts {c : Nat} (h : c < 2000) : 1000 * (if c < 1000 then 0 else 1) + 20 * pC c + c % 20 = c := by
  unfold pC
  by_cases e : c < 1000
  · rw [if_pos e]; omega
  · rw [if_neg e]; omega
theorem TRw.df {q t i : Nat} {X : Nat → Nat → Bool} {S S' : ST} (h : TRw W V q t i S) (d : Df X S S') (hx : ∀ j, X 149 j = false) : TRw W V q t i S' := fun y hy => by rw [d.2 _ _ (hx _)]; exact h y hy
theorem r_cheapAt {q t z h0 a : Nat} (hR : RRep W sd S) (hL : RLw V W sd S) (hW : WF W) (hn : 30000 ≤ n) (hq : q < W 0 1) (ht : t < 6) (hz : z < 2 ^ W 0 1) (hh : h0 < 24) (ha : a < 2 ^ 31) (hv : E_X12_isCheap n S (nI q) (nI t) (nI z) (nI h0) = some 1) :
    Ok (E_X12_cheapAt n S (nI q) (nI t) (nI z) (nI h0) (nI a)) (fun r => r.1 = (if chOpt W V q t (24 - h0) z = 500000 then none else wStep W V q t a (24 - h0) z 0).elim (-1) nI ∧ Df XCh S r.2 ∧ r.2.1 95 61 = 0) := by
  have hm1 : W 0 1 ≤ 10 := hW.mx (k := 1) (by decide)
  have hpow : 2 ^ W 0 1 ≤ 2 ^ 10 := Nat.pow_le_pow_right (by decide) hm1
  have RR : ∀ {S'}, Df XCh S S' → RRep W sd S' := fun d => hR.df d (fun a j hx => nx_Ch (by omega))
  have RL : ∀ {S'}, Df XCh S S' → RLw V W sd S' := fun d => hL.df d (fun a j hx => nx_Ch (by simp only [lawC, decide_eq_true_eq] at hx; omega))
  unfold E_X12_cheapAt
  apply Ok.step hv
  refine Ok.ifF (by decide) (Ok.ifT (nI_pos' ha) ?_)
  obtain ⟨S5, e5, d5, z5, t5⟩ := r_cheapens (V := V) hR hL hW hn hq ht hh
  apply Ok.step e5
  have ea : ((1024 : Int32) * (nI h0)) + nI z = nI (1024 * h0 + z) := by
    rw [show (1024 : Int32) = nI 1024 from rfl, nI_mulN, nI_add]
  rw [ea]
  apply Ok.step (x := cv (chOpt W V q t (24 - h0) z)) (by rw [rd_nI (by omega) (by decide), t5 h0 (Nat.le_refl _) (by omega) z hz])
  have wf := chOpt_wf (V := V) (q := q) (t := t) hW (24 - h0) z (by omega)
  by_cases c0 : chOpt W V q t (24 - h0) z = 500000
  · rw [if_pos c0]
    exact Ok.ifT ((cv_m1 wf (by omega)).mpr c0) (Ok.ret ⟨rfl, d5, z5⟩)
  rw [if_neg c0]
  refine Ok.ifF (fun y => c0 ((cv_m1 wf (by omega)).mp y)) ?_
  refine bindL (fun i s => ∃ x j, s.1 = nI x ∧ s.2.1 = nI (a - j) ∧ s.2.2.1 = nI i ∧ x < 2 ^ W 0 1 ∧ j ≤ a ∧ Df XCh S s.2.2.2 ∧ s.2.2.2.1 95 61 = 0 ∧ (∀ i', h0 ≤ i' → i' ≤ 24 → TRw W V q t i' s.2.2.2) ∧ wStep W V q t a (24 - i) x j = wStep W V q t a (24 - h0) z 0)
    (Sum.elim (fun S' => Df XCh S S' ∧ S'.1 95 61 = 0 ∧ wStep W V q t a (24 - h0) z 0 = none) (fun r => r.1 = (wStep W V q t a (24 - h0) z 0).elim (-1) nI ∧ Df XCh S r.2 ∧ r.2.1 95 61 = 0)) h0 24 (by omega) (by omega) ⟨z, 0, rfl, rfl, rfl, hz, Nat.zero_le _, d5, z5, t5, rfl⟩ ?_ ?_ ?_
  · rintro i ⟨u1, u2, u3, S2⟩ hi0 hi ⟨x, j, rfl, rfl, rfl, hx, hj, d2, z2, t2, ew⟩
    dsimp only at d2 z2 t2 ⊢
    refine Ok.ifF (nI_ge (b := 24) (by omega) (by decide)) ?_
    obtain ⟨d, hd, hid⟩ : ∃ d, d < 24 ∧ i = 23 - d := ⟨23 - i, by omega, by omega⟩
    subst hid
    have ed : 24 - (23 - d) = d + 1 := by omega
    have nx : 24 - (23 - d + 1) = d := by omega
    rw [ed, wStep] at ew
    have shr0 : ((nI x >>> (nI q &&& 31)) &&& (1 : Int32) = 0) ↔ x.testBit q = false := by rw [shr_0 _ (by omega), bt_nI _ _ (by omega)]
    by_cases c1 : x.testBit q = true
    · rw [if_pos c1] at ew
      refine Ok.ifF (fun y => ?_) (Ok.inr ⟨d2, z2, ew.symm⟩)
      have := shr0.mp y
      rw [c1] at this; cases this
    rw [if_neg c1] at ew
    have c2 : x.testBit q = false := by simpa using c1
    refine Ok.ifT (shr0.mpr c2) ?_
    obtain ⟨S3, e3, d3, o3, l3⟩ := r_optionsAt (V := V) (t := t) (h := 23 - d) (RR d2) (RL d2) hW hn z2 (by omega) ht
    apply Ok.step e3
    have d23 := d2.trans (XOp_XCh d3)
    have z3 : S3.1 95 61 = 0 := by rw [d3.2 _ _ rfl]; exact z2
    have t3 : ∀ i', h0 ≤ i' → i' ≤ 24 → TRw W V q t i' S3 := fun i' h1 h2 => (t2 i' h1 h2).df d3 (fun _ => rfl)
    refine r_find (V := V) (q := q) (t := t) (RR d23) hW hn hd hx c2 o3 l3 (t3 (24 - d) (by omega) (by omega)) (t3 (23 - d) (by omega) (by omega)) ?_
    intro e he1 he2
    apply Ok.jnU
    by_cases c3 : chEn W V q t (23 - d) x % 2048 = 2047
    · rw [if_pos c3] at ew
      refine Ok.ifT (he1 c3) (Ok.inl ⟨x, j, rfl, rfl, nI_1 _, hx, hj, d23, z3, t3, ?_⟩)
      rw [nx]; exact ew
    rw [if_neg c3] at ew
    obtain ⟨k, hk, rfl, hc⟩ := he2 c3
    obtain ⟨o1, o2, o4, o5⟩ := o3.2 k _ hc
    have hvc := (chEn_code (V := V) (q := q) (t := t) (h := 23 - d) (x := x) hW c3).1
    have hc2 : chEn W V q t (23 - d) x % 2048 < 2000 := by
      obtain ⟨_, ⟨y, _⟩ | ⟨_, y, _⟩⟩ := hvc
      · omega
      · exact y
    generalize chEn W V q t (23 - d) x % 2048 = c at *
    refine Ok.ifF (nI_m1 (by omega)) ?_
    by_cases c4 : j = a
    · rw [if_pos c4] at ew
      refine Ok.ifT (by rw [c4, Nat.sub_self]; rfl) ?_
      apply Ok.step (rd_nI (by omega) (by decide))
      apply Ok.step (rd_nI (by omega) (by decide))
      apply Ok.step (rd_nI (by omega) (by decide))
      rw [o1, o2, o4]
      refine Ok.inr ⟨?_, d23, z3⟩
      dsimp only
      rw [← ew, show (10000 : Int32) = nI 10000 from rfl, show (1000 : Int32) = nI 1000 from rfl, show (20 : Int32) = nI 20 from rfl, nI_mulN, nI_mulN, nI_mulN, nI_add, nI_add, nI_add]
      show _ = nI (10000 * (23 - d) + c)
      rw [Nat.add_assoc, Nat.add_assoc, ← Nat.add_assoc (1000 * _), code_parts hc2]
    rw [if_neg c4] at ew
    refine Ok.ifF (fun y => c4 (by have := (nI_eq (b := 0) (by omega) (by decide)).mp y; omega)) ?_
    apply Ok.step (rd_nI (by omega) (by decide))
    rw [o5]
    have hs := sC_lt (W := W) (h := 23 - d) (c := c)
    refine Ok.inl ⟨x ||| sC W (23 - d) c, j + 1, nI_orN (by omega) (by omega), ?_, nI_1 _, Nat.or_lt_two_pow hx hs, by omega, d23, z3, t3, ?_⟩
    · dsimp only
      rw [show a - j = (a - (j + 1)) + 1 by omega, nI_dec]
    · rw [nx]; exact ew
  · rintro ⟨u1, u2, u3, S2⟩ ⟨x, j, rfl, rfl, rfl, hx, hj, d2, z2, t2, ew⟩
    dsimp only at d2 z2 t2 ⊢
    exact Ok.ifT (by decide) (Ok.inr ⟨d2, z2, by rw [← ew]; rfl⟩)
  · rintro (S2 | ⟨v, S2⟩) hq2
    · exact ⟨_, rfl, by rw [hq2.2.2]; rfl, hq2.1, hq2.2.1⟩
    · exact ⟨_, rfl, hq2.1, hq2.2.1, hq2.2.2⟩
end CHW
