/-! ===== laws of a text, told: both sides judge alike ===== -/
def vof (m y h x : Int32) : Nat → Int32 := fun j => if j = 0 then m else if j = 1 then y else if j = 2 then h else x
theorem vof_eq {f : Nat → Int32} : ∀ j, j < 4 → vof (f 0) (f 1) (f 2) (f 3) j = f j := fun j hj => by
  have : j = 0 ∨ j = 1 ∨ j = 2 ∨ j = 3 := by omega
  rcases this with h | h | h | h <;> (subst h; rfl)
def Vt (Y : SY) : VL := fun s k m y h x => lawV (vof m y h x) ((Y.2.2.1 s).getD k [])
theorem LitR.fr2 {x : LT} {i c0 : Nat} {S S' : ST} (h : LitR x i c0 S) (e : ∀ a, 128 ≤ a → a ≤ 133 → S'.1 a i = S.1 a i) (e2 : ∀ a j, a = 134 ∨ a = 135 → c0 ≤ j → j < c0 + (x.2.2.2.1.length + x.2.2.2.2.length) → S'.1 a j = S.1 a j) : LitR x i c0 S' := by
  obtain ⟨h1, h2, h3, h4, h5, h6, h7, h8⟩ := h
  refine ⟨by rw [e _ (by decide) (by decide)]; exact h1, by rw [e _ (by decide) (by decide)]; exact h2, by rw [e _ (by decide) (by decide)]; exact h3, by rw [e _ (by decide) (by decide)]; exact h4, by rw [e _ (by decide) (by decide)]; exact h5, by rw [e _ (by decide) (by decide)]; exact h6, h7.fr (fun j hj hj2 => ?_), h8.fr (fun j hj hj2 => ?_)⟩
  · exact ⟨e2 _ _ (Or.inl rfl) (by omega) (by omega), e2 _ _ (Or.inr rfl) (by omega) (by omega)⟩
  · exact ⟨e2 _ _ (Or.inl rfl) (by omega) (by omega), e2 _ _ (Or.inr rfl) (by omega) (by omega)⟩
theorem LitsR.fr2 {ls : List LT} {S S' : ST} : ∀ {i c0 : Nat}, LitsR ls i c0 S → (∀ a j, 128 ≤ a → a ≤ 133 → i ≤ j → j < i + ls.length → S'.1 a j = S.1 a j) → (∀ a j, a = 134 ∨ a = 135 → c0 ≤ j → j < c0 + cdt ls → S'.1 a j = S.1 a j) → LitsR ls i c0 S' := by
  induction ls with
  | nil => intro i c0 _ _ _; trivial
  | cons x r ih =>
    intro i c0 h e e2
    rw [List.length_cons] at e
    rw [cdt] at e2
    exact ⟨h.1.fr2 (fun a h1 h2 => e a i h1 h2 (by omega) (by omega)) (fun a j h1 h2 h3 => e2 a j h1 h2 (by omega)), ih h.2 (fun a j h1 h2 h3 h4 => e a j h1 h2 (by omega) (by omega)) (fun a j h1 h2 h3 => e2 a j h1 (by omega) (by omega))⟩
section LWX
variable {n L sd w : Nat} {c : Nat → Nat} {S S' : ST}
theorem RLw_of {W : VW} {Y : SY} (hsd : sd < 2) (h : LwsR sd Y S) (hy : Y.1.2 ≤ 400) (hl : SYL Y) (h0 : Y.1.1 = 0) (hcm : ∀ k, k < 11 → Y.2.1 k ≤ cmx k) (hW : ∀ s, s < 2 → W 0 (9 + s) = Y.2.1 (9 + s)) : RLw (Vt Y) W sd S := by
  intro S' n s k hn he hs hk
  obtain ⟨lt, cb, l1, l2, l3, l4, l5, l6, l7, l8⟩ := h
  obtain ⟨g1, g2⟩ := l8 s hs
  rw [hW s hs] at hk
  have hc4 : Y.2.1 (9 + s) ≤ 4 := by
    have := hcm (9 + s) (by omega)
    rw [cmx_law hs] at this
    exact this
  obtain ⟨l0, c0, b1, b2, b3, b4, b5, b6, b7⟩ := g2 k hk
  have hok := (hl h0 s hs).2.2 k hk
  have eJ : ∀ a j, ((a = 126 ∨ a = 127) ∧ j = 8 * sd + 4 * s + k) ∨ ((128 ≤ a ∧ a ≤ 133) ∧ l0 ≤ j ∧ j < l0 + ((Y.2.2.1 s).getD k []).length) ∨ ((a = 134 ∨ a = 135) ∧ c0 ≤ j ∧ j < c0 + cdt ((Y.2.2.1 s).getD k [])) → S'.1 a j = S.1 a j := fun a j hj => he a j (by simp only [lawC, decide_eq_true_eq]; omega) (by simp only [lawJ, decide_eq_true_eq]; omega)
  have hx : LwR ((Y.2.2.1 s).getD k []) (8 * sd + 4 * s + k) l0 c0 S' := ⟨by rw [eJ _ _ (by omega)]; exact b5, by rw [eJ _ _ (by omega)]; exact b6, b7.fr2 (fun a j q1 q2 q3 q4 => eJ _ _ (by omega)) (fun a j q1 q2 q3 => eJ _ _ (by omega))⟩
  exact r_holdsL (n := n) hn hx (by omega) hok.2.2 (by omega) (by omega) (vof_eq (f := S'.1 137))
theorem CLw_of {W : VW} {Y : SY} {l : Nat} (h : LwsC l Y S) (hl : SYL Y) (h0 : Y.1.1 = 0) (hcm : ∀ k, k < 11 → Y.2.1 k ≤ cmx k) (hW : ∀ s, s < 2 → W 0 (9 + s) = Y.2.1 (9 + s)) : CLw (Vt Y) W l S := by
  obtain ⟨N, n1, n2, n3, n4⟩ := h
  refine ⟨fun s hs => by rw [hW s hs]; exact (n4 s hs).1, fun S' n s k hn he hs hk => ?_⟩
  obtain ⟨g1, g2, g3⟩ := n4 s hs
  rw [hW s hs] at hk
  have hc4 : Y.2.1 (9 + s) ≤ 4 := by
    have := hcm (9 + s) (by omega)
    rw [cmx_law hs] at this
    exact this
  obtain ⟨a, a1, a2, a3, a4⟩ := g3 k hk
  have hok := (hl h0 s hs).2.2 k hk
  rw [show 4 * s + k = s * 4 + k by omega] at a1 a2
  exact c_holdsE (n := n) (a := a) (E := (Y.2.2.2 s).getD k []) (vv := vof (S'.1 (l + 6) 0) (S'.1 (l + 6) 1) (S'.1 (l + 6) 2) (S'.1 (l + 6) 3)) hn (by omega) (by rw [he _ _ (by omega) (by omega)]; exact a1) (by rw [he _ _ (by omega) (by omega)]; exact a2) (by omega) (a4.fr (fun j _ _ => ⟨he _ _ (by omega) (by omega), he _ _ (by omega) (by omega)⟩)) hok.2.1 (vof_eq (f := S'.1 (l + 6))) (hok.1 _)
theorem RRep_of {Y : SY} {M : SM} (hsd : sd < 2) (h : RRt c L sd Y M S) (h0 : Y.1.1 = 0) (hM : M.2.2 = none) (h18 : S.1 95 18 = nI sd) : RRep (Wc Y.2.1 M.2.1) sd S := by
  obtain ⟨hy0, hw, h19, hd⟩ := h
  obtain ⟨hcm, hcr, h20, hlw, hwr, hsb, htb⟩ := hd h0
  obtain ⟨t1, t2, t3, t4⟩ := htb hM
  refine ⟨hsd, h18, hcr.1, hcr.2.1, hcr.2.2, fun q hq k hk => ?_⟩
  have := TW_ok q hq
  rw [Wc_r (by omega)]
  exact t4 q hq k hk
theorem CTd_Wc {cnt : Nat → Nat} {W : VW} (h : CTd w cnt W S) : CTd w (Wc cnt W 0) (Wc cnt W) S := by
  obtain ⟨h1, h2, h3, h4, h5⟩ := h
  refine ⟨h1, fun q hq j hj => ?_, fun a ha => ?_, fun p hp => ?_, fun p h hp hh => ?_⟩
  · have := TC_ok q hq
    rw [Wc_r (by omega)]
    exact h2 q hq j hj
  · rw [h3 a ha]
    exact bs_congr (fun i _ => thN_congr (fun r k q1 q2 _ => (Wc_r (by omega)).symm))
  · rw [h4 p hp]
    exact bs_congr (fun i _ => fiN_congr (fun r k q1 q2 _ => (Wc_r (by omega)).symm))
  · rw [h5 p h hp hh]
    have e1 := stY_congr (W := W) (W' := Wc cnt W) (n := cnt 4) (a := p) (b := h) (fun r k q1 q2 _ => Wc_r (by omega))
    have e2 := wAt_congr (W := W) (W' := Wc cnt W) (p := p) (h := h) (cnt 4) (fun r k q1 q2 _ => Wc_r (by omega))
    rw [Wc_0, e1, e2]
theorem c_clear (hw : w = 22 ∨ w = 47) : Ok (E_X10_clear n S w) (fun S' => CTd w (fun _ => 0) (fun _ _ => 0) S' ∧ S'.1 (w + 13) 7 = 0 ∧ (∀ s, s < 2 → S'.1 (w + 18) s = 0) ∧ S'.2 = S.2 ∧ ∀ a j, (a < w ∨ w + 24 < a) → S'.1 a j = S.1 a j) := by
  unfold E_X10_clear
  apply Ok.letsU
  apply Ok.letsU
  apply Ok.letsU
  apply Ok.letsU
  generalize eS4 : fillS (fillS (fillS (fillS S (w + 1) 11 (0 : Int32)) (w + 5) 6 (0 : Int32)) (w + 6) 10 (0 : Int32)) (w + 21) 240 (-2 : Int32) = S4
  have o4 : ∀ a j, a ≠ w + 1 → a ≠ w + 5 → a ≠ w + 6 → a ≠ w + 21 → S4.1 a j = S.1 a j := fun a j h1 h2 h3 h4 => by
    rw [← eS4]; unfold fillS; rw [setC_ne h4, setC_ne h3, setC_ne h2, setC_ne h1]
  have l4 : S4.2 = S.2 := by rw [← eS4]; rfl
  have c1 : ∀ j, j < 11 → S4.1 (w + 1) j = 0 := fun j hj => by
    rw [← eS4]; unfold fillS; rw [setC_ne (by omega), setC_ne (by omega), setC_ne (by omega), setC_eq, if_pos hj]
  have c5 : ∀ j, j < 6 → S4.1 (w + 5) j = 0 := fun j hj => by
    rw [← eS4]; unfold fillS; rw [setC_ne (by omega), setC_ne (by omega), setC_eq, if_pos hj]
  have c6 : ∀ j, j < 10 → S4.1 (w + 6) j = 0 := fun j hj => by
    rw [← eS4]; unfold fillS; rw [setC_ne (by omega), setC_eq, if_pos hj]
  have c21 : ∀ j, j < 240 → S4.1 (w + 21) j = -2 := fun j hj => by
    rw [← eS4]; unfold fillS; rw [setC_eq, if_pos hj]
  apply Ok.step (x := fillS (upI S4 (w + 13) 7 (0 : Int32)) (w + 18) 2 (0 : Int32)) rfl
  have o5 : ∀ a j, a ≠ w + 18 → (a ≠ w + 13 ∨ j ≠ 7) → (fillS (upI S4 (w + 13) 7 (0 : Int32)) (w + 18) 2 (0 : Int32)).1 a j = S4.1 a j := fun a j h1 h2 => by
    unfold fillS; rw [setC_ne h1, upI_at, if_neg (by omega)]
  refine Ok.ret ⟨⟨fun k hk => ?_, fun q hq j hj => absurd hj (Nat.not_lt_zero j), fun a ha => ?_, fun p hp => ?_, fun p h hp hh => ?_⟩, ?_, fun s hs => ?_, ?_, fun a j h => ?_⟩
  · rw [o5 _ _ (by omega) (by omega)]; exact c1 k hk
  · rw [o5 _ _ (by omega) (by omega), c5 a ha]; rfl
  · rw [o5 _ _ (by omega) (by omega), c6 p hp]; rfl
  · rw [o5 _ _ (by omega) (by omega), c21 _ (by omega)]; rfl
  · unfold fillS; rw [setC_ne (by omega), upI_at, if_pos ⟨rfl, rfl⟩]
  · unfold fillS; rw [setC_eq, if_pos hs]
  · exact l4
  · rw [o5 _ _ (by omega) (by omega), o4 _ _ (by omega) (by omega) (by omega) (by omega)]
end LWX
