/-! ===== aim: what it does ===== -/
def XAm (a j : Nat) : Bool := a == 161 || (a == 90 && (j == 0 || j == 1))
section AI2
variable {W : VW} {V : VL} {tw en sd : Nat} {n : Nat} {S : ST} {K0 K : AK} {R : Nat → Nat → Option Nat}
theorem aim_fill {q t : Nat} (hn : 30000 ≤ n) (hL : Lay K R tw 161) (hE : K[161]? = some (.inr (0, 24576))) (hm : W 0 1 ≤ 10) (hne : ¬ (nI q = S.1 90 0 ∧ nI t = S.1 90 1)) : ∃ S', aimB n (nI q) (nI t) (mkM K R S) = some (mkM K R S') ∧ Df XAm S S' ∧ ChJ W V q t S' := by
  have k90 := kd_90 hL
  have hpow : 2 ^ W 0 1 ≤ 2 ^ 10 := Nat.pow_le_pow_right (by decide) hm
  have core : ((pI 0 0 (mkM K R S) 90 (nI q)).bind fun M5 => (pI 0 1 M5 90 (nI t)).bind fun M6 => (gR 0 2 M6 90).bind fun v7 => (F_J7_fill_53178 n M6 v7 (-1 : Int32)).bind fun M9 => some M9) = some (mkM K R (fillS (upI (upI S 90 0 (nI q)) 90 1 (nI t)) 161 24576 (-1))) := by
    have e1 : pI 0 0 (mkM K R S) 90 (nI q) = some (mkM K R (upI S 90 0 (nI q))) := by simp [pI, mkM, k90, setI, upI]
    have e2 : pI 0 1 (mkM K R (upI S 90 0 (nI q))) 90 (nI t) = some (mkM K R (upI (upI S 90 0 (nI q)) 90 1 (nI t))) := by simp [pI, mkM, k90, setI, upI]
    have e3 : gR 0 2 (mkM K R (upI (upI S 90 0 (nI q)) 90 1 (nI t))) 90 = some 161 := by simp [gR, mkM, k90, hL.2.2.2.2.2]
    rw [e1, Option.bind_some, e2, Option.bind_some, e3, Option.bind_some, F_fill hE (by decide) (by omega) (by decide), Option.bind_some]
  refine ⟨fillS (upI (upI S 90 0 (nI q)) 90 1 (nI t)) 161 24576 (-1), ?_, ?_, ?_⟩
  · have g0 : gI 0 0 (mkM K R S) 90 = some (S.1 90 0) := by simp [gI, mkM, k90]
    have g1 : gI 0 1 (mkM K R S) 90 = some (S.1 90 1) := by simp [gI, mkM, k90]
    unfold aimB
    simp only [jn]
    rw [g0, Option.bind_some, core]
    by_cases c : nI q = S.1 90 0
    · rw [if_pos c, g1, Option.bind_some, if_neg (fun z => hne ⟨c, z⟩)]
    · rw [if_neg c]
  · exact ((((Df.refl _ _).up rfl).up rfl).trans (Xc_set.mono (fun a j hx => by
      simp only [XAm, Xc, Bool.or_eq_false_iff, beq_eq_false_iff_ne] at hx ⊢
      exact hx.1)))
  · unfold fillS
    refine ⟨?_, ?_, fun h x hh hx => Or.inl ?_⟩
    · rw [setC_ne (by omega), upI_at, if_neg (by omega), upI_at, if_pos ⟨rfl, rfl⟩]
    · rw [setC_ne (by omega), upI_at, if_pos ⟨rfl, rfl⟩]
    · rw [setC_eq, if_pos (by omega)]
theorem F_aim {q t : Nat} (hn : 30000 ≤ n) (hLy : LyP K0 K R tw en) (hz : S.2 161 = fun _ => 0) (hC : ChI W V en S) (hm : W 0 1 ≤ 10) (hq : q < W 0 1) (hm2 : W 0 2 ≤ 6) (ht : t < W 0 2) : ∃ K' R' S', F_X0_aim n (mkM K R S) 90 (nI q) (nI t) = some (mkM K' R' S') ∧ LyP K0 K' R' tw 161 ∧ Df XAm S S' ∧ ChJ W V q t S' := by
  obtain ⟨he, hc⟩ := hC
  rcases he with rfl | rfl
  · have h90 : S.1 90 0 = -1 := by
      rcases hc with z | ⟨_, _, _, _, z, _⟩
      · exact z
      · omega
    have hN := hLy.new
    have d0 : Df XAm S (setC S 161 (fun _ => 0)) := Xc_set.mono (fun a j hx => by
      simp only [XAm, Xc, Bool.or_eq_false_iff, beq_eq_false_iff_ne] at hx ⊢
      exact hx.1)
    obtain ⟨S', e1, d1, j1⟩ := aim_fill (n := n) (W := W) (V := V) (q := q) (t := t) (S := setC S 161 (fun _ => 0)) hn hN.1 hN.hE hm (fun z => by
      have z1 := z.1
      rw [setC_ne (by omega), h90] at z1
      exact nI_m1 (by omega) z1)
    exact ⟨_, _, S', by rw [aim_new hLy hz]; exact e1, hN, d0.trans d1, j1⟩
  · rw [aim_old hLy.1 hLy.hE]
    by_cases c : nI q = S.1 90 0 ∧ nI t = S.1 90 1
    · refine ⟨K, R, S, ?_, hLy, Df.refl _ _, c.1.symm, c.2.symm, ?_⟩
      · have k90 := kd_90 hLy.1
        have g0 : gI 0 0 (mkM K R S) 90 = some (S.1 90 0) := by simp [gI, mkM, k90]
        have g1 : gI 0 1 (mkM K R S) 90 = some (S.1 90 1) := by simp [gI, mkM, k90]
        unfold aimB
        simp only [jn]
        rw [g0, Option.bind_some, if_pos c.1, g1, Option.bind_some, if_pos c.2]
      · rcases hc with z | ⟨q', t', h1, h2, _, h4, h5, h6⟩
        · rw [z] at c; exact absurd c.1 (nI_m1 (by omega))
        · have eq : q = q' := (nI_eq (by omega) (by omega)).mp (by rw [c.1, h4])
          have et : t = t' := (nI_eq (by omega) (by omega)).mp (by rw [c.2, h5])
          subst eq et
          exact h6
    · obtain ⟨S', e1, d1, j1⟩ := aim_fill (n := n) (W := W) (V := V) (q := q) (t := t) hn hLy.1 hLy.hE hm c
      exact ⟨K, R, S', e1, hLy, d1, j1⟩
end AI2
