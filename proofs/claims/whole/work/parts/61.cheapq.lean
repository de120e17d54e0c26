/-! ===== cheap by the reference ===== -/
section CHQ
variable {W : VW} {V : VL} {tw en sd : Nat} {P : PL} {N : Nat} {H : HL} {n : Nat} {S : ST}
theorem nI_modN {a b : Nat} (ha : a < 2 ^ 31) (hb : b < 2 ^ 31) : nI a - nI a / nI b * nI b = nI (a % b) := by
  rw [nI_divN ha hb, nI_mulN]
  have e : a = a % b + a / b * b := by rw [Nat.mul_comm]; exact (Nat.mod_add_div a b).symm
  generalize a / b * b = c at *
  generalize a % b = r at *
  rw [e, ← nI_add, Int32.add_sub_cancel]
theorem r_cheap {q t z h0 b : Nat} (hR : RRep W sd S) (hL : RLw V W sd S) (hW : WF W) (hn : 30000 ≤ n) (hq : q < W 0 1) (ht : t < 6) (hz : z < 2 ^ W 0 1) (hh : h0 < 24) (hb : b < 2) (hv : E_X12_isCheap n S (nI q) (nI t) (nI z) (nI h0) = some 1) (hw : E_X12_in n S (nI b) (0 : Int32) (1 : Int32) = some 1) :
    Ok (E_X12_cheap n S (nI q) (nI t) (nI z) (nI h0) (nI b)) (fun r => r.1 = (if chOpt W V q t (24 - h0) z = 500000 then -2 else if b = 0 then nI (chOpt W V q t (24 - h0) z / 32) else nI (chOpt W V q t (24 - h0) z % 32)) ∧ Df XCh S r.2 ∧ r.2.1 95 61 = 0) := by
  have hm1 : W 0 1 ≤ 10 := hW.mx (k := 1) (by decide)
  have hpow : 2 ^ W 0 1 ≤ 2 ^ 10 := Nat.pow_le_pow_right (by decide) hm1
  unfold E_X12_cheap
  apply Ok.step hv
  refine Ok.ifF (by decide) ?_
  apply Ok.step hw
  refine Ok.ifF (by decide) ?_
  obtain ⟨S5, e5, d5, z5, t5⟩ := r_cheapens (V := V) hR hL hW hn hq ht hh
  apply Ok.step e5
  have ea : ((1024 : Int32) * (nI h0)) + nI z = nI (1024 * h0 + z) := by
    rw [show (1024 : Int32) = nI 1024 from rfl, nI_mulN, nI_add]
  rw [ea]
  apply Ok.step (x := cv (chOpt W V q t (24 - h0) z)) (by rw [rd_nI (by omega) (by decide), t5 h0 (Nat.le_refl _) (by omega) z hz])
  have wf := chOpt_wf (V := V) (q := q) (t := t) hW (24 - h0) z (by omega)
  generalize chOpt W V q t (24 - h0) z = c at *
  by_cases c0 : c = 500000
  · rw [if_pos c0]
    exact Ok.ifT ((cv_m1 wf (by omega)).mpr c0) (Ok.ret ⟨rfl, d5, z5⟩)
  rw [if_neg c0]
  refine Ok.ifF (fun y => c0 ((cv_m1 wf (by omega)).mp y)) ?_
  rcases wf with y | ⟨w1, w2⟩
  · exact absurd y c0
  have ev : cv c = nI (1000 * (c / 32) + c % 32) := by unfold cv; rw [if_neg c0]
  rw [ev, show (1000 : Int32) = nI 1000 from rfl, nI_modN (by omega) (by decide), nI_divN (by omega) (by decide), show (1000 * (c / 32) + c % 32) / 1000 = c / 32 by omega, show (1000 * (c / 32) + c % 32) % 1000 = c % 32 by omega]
  by_cases b0 : b = 0
  · rw [if_pos b0]
    exact Ok.ifT (by rw [b0]; rfl) (Ok.gdT (by decide) (Ok.ret ⟨rfl, d5, z5⟩))
  · rw [if_neg b0]
    exact Ok.ifF (fun y => b0 ((nI_eq (b := 0) (by omega) (by decide)).mp y)) (Ok.gdT (by decide) (Ok.ret ⟨rfl, d5, z5⟩))
end CHQ
