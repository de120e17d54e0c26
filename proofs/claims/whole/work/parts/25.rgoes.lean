/-! ===== the reference goes through all hours ===== -/
def mixV (h it : Int32) : Int32 := (((h ^^^ it) * (1103515245 : Int32)) + (12345 : Int32)) ^^^ (ush (((h ^^^ it) * (1103515245 : Int32)) + (12345 : Int32)) (15 : Int32))
def lotV (seed which : Int32) : Int32 := (ush (mixV (mixV seed 17) which) (1 : Int32)) - (ush (mixV (mixV seed 17) which) (1 : Int32)) / 100 * 100
def LTs (seed frail : Int32) (h p : Nat) : Bool := decide (frail ≠ -1) && (decide (0 < h) && decide (lotV seed (nI (100 * h + p)) < frail))
/-- who is dead at an hour -/
def DDs (seed frail : Int32) (m : Nat) : Nat → Nat → Bool
  | 0, _ => false
  | h + 1, p => DDs seed frail m h p || (decide (p < m) && LTs seed frail (h + 1) p)
def DDp (seed frail : Int32) (m h : Nat) : Nat → Bool := if h = 0 then fun _ => false else DDs seed frail m (h - 1)
theorem DDs_p {seed frail : Int32} {m h p : Nat} : DDs seed frail m h p = (DDp seed frail m h p || (decide (p < m) && LTs seed frail h p)) := by
  cases h with
  | zero => simp [DDs, DDp, LTs]
  | succ h => simp [DDs, DDp]
theorem r_mixed {n : Nat} {S : ST} {a b : Int32} : E_X12_mixed n S a b = some (mixV a b) := rfl
theorem r_lot {n : Nat} {S : ST} {a b : Int32} : E_X12_lot n S a b (100 : Int32) = some (lotV a b) := by
  unfold E_X12_lot
  rw [r_mixed, Option.bind_some, r_mixed, Option.bind_some, gd_pos (by decide)]
  rfl
theorem c_lot {n : Nat} {S : ST} {a b : Int32} : E_X11_lot n S (100 : Int32) a b = some (lotV a b) := by
  unfold E_X11_lot
  have e : ∀ x y : Int32, E_X11_mix n S x y = some (mixV x y) := fun _ _ => rfl
  rw [e, Option.bind_some, e, Option.bind_some, if_pos (by decide), gd_pos (by decide)]
  rfl
/-- what is written at a place (of hours ahead of h) -/
def wWr (W : VW) (P : PL) (N : Nat) (Y : Nat → Nat) (h a t : Nat) : Bool := anyN (fun k => decide (P 1 k < h) && decide (P 0 k = 2) && decide (Y k = 0) && decide (P 4 k = t) && decide (wPl W (P 2 k) (P 1 k) = a)) N
def XG (a j : Nat) : Bool := XD a j || (a == 145 || (a == 95 && j == 61))
def X1 (a j : Nat) : Bool := a == 144 || (a == 95 && j == 61)
theorem XD_XG {S S' : ST} (h : Df XD S S') : Df XG S S' := h.mono (fun a j hx => by
  simp only [XG, Bool.or_eq_false_iff] at hx
  exact hx.1)
theorem X1_XG {S S' : ST} (h : Df X1 S S') : Df XG S S' := h.mono (fun a j hx => by
  simp only [XG, XD, X1, Bool.or_eq_false_iff] at hx ⊢
  exact ⟨hx.1.2.1, hx.2.2⟩)
theorem XG_R {W : VW} {sd : Nat} {S S' : ST} (hR : RRep W sd S) (h : Df XG S S') : RRep W sd S' := hR.df h (fun a j hx => by
  simp only [XG, XD, XM, Bool.or_eq_false_iff, beq_eq_false_iff_ne, Bool.and_eq_false_iff]
  omega)
theorem XG_L {V : VL} {W : VW} {sd : Nat} {S S' : ST} (hL : RLw V W sd S) (h : Df XG S S') : RLw V W sd S' := hL.df h (fun a j hx => by
  simp only [lawC, decide_eq_true_eq] at hx
  simp only [XG, XD, XM, Bool.or_eq_false_iff, beq_eq_false_iff_ne, Bool.and_eq_false_iff]
  omega)
theorem XG_P {P : PL} {N : Nat} {S S' : ST} (hP : PRef P N S) (h : Df XG S S') : PRef P N S' := hP.df h (fun a j hx => by
  simp only [XG, XD, XM, Bool.or_eq_false_iff, beq_eq_false_iff_ne, Bool.and_eq_false_iff]
  omega)
/-- the reference at the beginning of an hour -/
def RH (W : VW) (P : PL) (N : Nat) (h : Nat) (Z : CS) (Dp : Nat → Bool) (S : ST) : Prop :=
  (∀ j, j ≤ h → KRow S (W 0 1) j (fun p t => decide (Z.1 p t ≤ j))) ∧ (∀ j, h < j → j < 25 → KRow S (W 0 1) j (fun _ _ => false)) ∧ (∀ k, k < N → P 1 k < h → S.1 145 k = nI (Z.2.1 k))
  ∧ (∀ s o t, s < 10 → o < 10 → t < 6 → S.1 146 (60 * s + 6 * o + t) = nI (Z.2.2 s o t)) ∧ (∀ a b, a < 6 → b < 32 → bt (S.1 147 a) b = (decide (b < 12) && wWr W P N Z.2.1 h a (if b < 6 then b else b - 6))) ∧ bt (S.1 95 61) = Dp
theorem b_63 (i : Nat) : bt 63 i = decide (i < 6) := by
  rcases Nat.lt_or_ge i 32 with h | h
  · exact (by decide +kernel : ∀ i, i < 32 → bt 63 i = decide (i < 6)) i h
  · rw [b_big h, decide_eq_false (by omega)]
theorem bs_false (m : Nat) : bs (fun _ => false) m = 0 := by
  induction m with
  | zero => rfl
  | succ m ih => rw [bs, ih]; rfl
section RGS
variable {W : VW} {V : VL} {P : PL} {N sd n : Nat} {S : ST}
/-- hour by hour: one hour -/
theorem wRead_wr {D : Nat → Bool} {Y : Nat → Nat} {h p t : Nat} (hW : WF W) (hD : wOn W D p = true → 0 < W 0 0) : anyN (fun a => wStand W D a h p && wWr W P N Y h a t) (W 0 0) = anyN (fun k => wRead W P D Y h k p t) N := by
  apply Bool.eq_iff_iff.mpr
  rw [anyN_iff, anyN_iff]
  constructor
  · rintro ⟨a, ha, h2⟩
    simp only [Bool.and_eq_true] at h2
    obtain ⟨k, hk, h3⟩ := anyN_iff.mp h2.2
    refine ⟨k, hk, ?_⟩
    simp only [Bool.and_eq_true, decide_eq_true_eq] at h3
    unfold wRead
    simp only [Bool.and_eq_true, decide_eq_true_eq]
    exact ⟨h3.1, by rw [h3.2]; exact h2.1⟩
  · rintro ⟨k, hk, h2⟩
    unfold wRead at h2
    simp only [Bool.and_eq_true, decide_eq_true_eq] at h2
    have h3 := h2.2
    simp only [wStand, Bool.and_eq_true, decide_eq_true_eq] at h3
    refine ⟨wPl W (P 2 k) (P 1 k), wPl_lt hW (hD h3.1) _ _, ?_⟩
    simp only [Bool.and_eq_true]
    refine ⟨h2.2, anyN_iff.mpr ⟨k, hk, ?_⟩⟩
    simp only [Bool.and_eq_true, decide_eq_true_eq]
    exact ⟨h2.1, trivial⟩
theorem r_goes (hR : RRep W sd S) (hW : WF W) (hL : RLw V W sd S) (hn : 30000 ≤ n) (hP : PRef P N S) (hPW : PWF W P N) (hfr : S.1 95 73 = -1 ∨ 0 ≤ S.1 95 73) :
    Ok (E_X12_goes n S) (fun S' => Df XG S S' ∧ RH W P N 24 (cSt W V P N (DDs (S.1 95 72) (S.1 95 73) (W 0 1)) 24) (DDs (S.1 95 72) (S.1 95 73) (W 0 1) 23) S') := by
  have hm1 : W 0 1 ≤ 10 := hW.mx (k := 1) (by decide)
  have hm2 : W 0 2 ≤ 6 := hW.mx (k := 2) (by decide)
  have hm5 : W 0 5 ≤ 12 := hW.mx (k := 5) (by decide)
  have hm0 : W 0 0 ≤ 6 := hW.mx (k := 0) (by decide)
  have hN := hPW.1
  generalize hse : S.1 95 72 = seed
  generalize hfa : S.1 95 73 = frail
  sorry
end RGS
