/-! ===== where people are, who hears whom: the reference ===== -/
def wAge (W : VW) (p h : Nat) : Nat := W 1 p + (if W 2 p ≤ h then 1 else 0)
/-- the place by the first k stays -/
def wAt (W : VW) (p h : Nat) : Nat → Nat
  | 0 => 0
  | k + 1 => if W 6 k = p ∧ W 8 k ≤ h ∧ h ≤ W 9 k then W 7 k else wAt W p h k
/-- one is there (not dead, and there are places) -/
def wOn (W : VW) (D : Nat → Bool) (p : Nat) : Bool := !D p && decide (0 < W 0 0)
def wPl (W : VW) (p h : Nat) : Nat := wAt W p h (W 0 4)
def wThin (W : VW) (a b : Nat) : Bool := (List.range (W 0 3)).any (fun k => decide ((W 4 k = a ∧ W 5 k = b) ∨ (W 4 k = b ∧ W 5 k = a)))
def wStand (W : VW) (D : Nat → Bool) (x h : Nat) (p : Nat) : Bool := wOn W D p && decide (wPl W p h = x)
def wHear (W : VW) (D : Nat → Bool) (x h : Nat) (p : Nat) : Bool := wOn W D p && (decide (wPl W p h = x) || wThin W (wPl W p h) x)
theorem wAt_lt {W : VW} (hW : WF W) (h0 : 0 < W 0 0) (p h : Nat) : ∀ k, k ≤ W 0 4 → wAt W p h k < W 0 0 := by
  intro k
  induction k with
  | zero => intro _; exact h0
  | succ k ih =>
    intro hk
    rw [wAt]
    split
    · exact (hW.2.2.2.2.1 k (by omega)).2.1
    · exact ih (by omega)
theorem wPl_lt {W : VW} (hW : WF W) (h0 : 0 < W 0 0) (p h : Nat) : wPl W p h < W 0 0 := wAt_lt hW h0 p h _ (Nat.le_refl _)
section REF2
variable {W : VW} {sd n : Nat} {S : ST}
theorem r_h0 (hR : RRep W sd S) : E_X12_has n S (0 : Int32) = some (nI (W 0 0)) := r_has (k := 0) hR (by decide)
theorem r_h1 (hR : RRep W sd S) : E_X12_has n S (1 : Int32) = some (nI (W 0 1)) := r_has (k := 1) hR (by decide)
theorem r_h2 (hR : RRep W sd S) : E_X12_has n S (2 : Int32) = some (nI (W 0 2)) := r_has (k := 2) hR (by decide)
theorem r_h3 (hR : RRep W sd S) : E_X12_has n S (3 : Int32) = some (nI (W 0 3)) := r_has (k := 3) hR (by decide)
theorem r_h4 (hR : RRep W sd S) : E_X12_has n S (4 : Int32) = some (nI (W 0 4)) := r_has (k := 4) hR (by decide)
theorem r_h5 (hR : RRep W sd S) : E_X12_has n S (5 : Int32) = some (nI (W 0 5)) := r_has (k := 5) hR (by decide)
theorem r_h6 (hR : RRep W sd S) : E_X12_has n S (6 : Int32) = some (nI (W 0 6)) := r_has (k := 6) hR (by decide)
theorem r_h7 (hR : RRep W sd S) : E_X12_has n S (7 : Int32) = some (nI (W 0 7)) := r_has (k := 7) hR (by decide)
theorem r_ageAt (hR : RRep W sd S) (hW : WF W) {p h : Nat} (hp : p < W 0 1) (hh : h < 1000) : E_X12_ageAt n S (nI p) (nI h) = some (nI (wAge W p h)) := by
  unfold E_X12_ageAt
  rw [rw_108 hR hW hp, Option.bind_some, rw_109 hR hW hp, Option.bind_some]
  have hb := (hW.2.1 p hp).2
  simp only [jn, wAge]
  by_cases c : W 2 p ≤ h
  · rw [if_neg (show ¬ nI h < nI (W 2 p) from nI_nlt c (by omega)), if_pos c]
    rw [nI_1]
  · rw [if_pos (show nI h < nI (W 2 p) from nI_lt (by omega) (by omega)), if_neg c]
    rw [show (0 : Int32) = nI 0 from rfl, nI_add]
theorem r_isDead {p : Nat} (hp : p < 32) : E_X12_isDead n S (nI p) = some (if bt (S.1 95 61) p = true then 1 else 0) := by
  unfold E_X12_isDead
  by_cases c : bt (S.1 95 61) p = true
  · rw [if_pos ((shr_1 _ hp).mpr c), if_pos c]
  · rw [if_neg (fun h => c ((shr_1 _ hp).mp h)), if_neg c]
theorem r_placeOf (hR : RRep W sd S) (hW : WF W) (hn : 30000 ≤ n) {p h : Nat} (hp : p < W 0 1) (hh : h < 1000) : E_X12_placeOf n S (nI p) (nI h) = some (if wOn W (bt (S.1 95 61)) p = true then nI (wPl W p h) else -2) := by
  have hm1 : W 0 1 ≤ 10 := hW.mx (k := 1) (by decide)
  have hm4 : W 0 4 ≤ 20 := hW.mx (k := 4) (by decide)
  have hm0 : W 0 0 ≤ 6 := hW.mx (k := 0) (by decide)
  unfold E_X12_placeOf
  rw [r_isDead (by omega), Option.bind_some]
  by_cases c : bt (S.1 95 61) p = true
  · have e : wOn W (bt (S.1 95 61)) p = false := by simp [wOn, c]
    rw [if_pos c, if_neg (by decide), e]
    rfl
  rw [if_neg c, if_pos rfl, r_h0 hR, Option.bind_some]
  by_cases c0 : W 0 0 = 0
  · have e : wOn W (bt (S.1 95 61)) p = false := by simp [wOn, c0]
    rw [c0, nI_0, if_pos rfl, e]
    rfl
  have e : wOn W (bt (S.1 95 61)) p = true := by simp [wOn, c]; omega
  rw [if_neg (nI_ne0 (by omega) (by omega)), e, if_pos rfl]
  refine bindI (fun k => (nI (wAt W p h k), nI k)) (W 0 4) (nI (wPl W p h)) rfl ?_ ?_ (by omega) rfl
  · intro k hk
    have hs := hW.2.2.2.2.1 k hk
    dsimp only
    rw [r_h4 hR, Option.bind_some, if_neg (nI_ge hk (by omega)), rw_113 hR hW hk, Option.bind_some]
    simp only [jn]
    by_cases c1 : W 6 k = p
    · rw [if_pos (by rw [c1])]
      rw [rw_115 hR hW hk, Option.bind_some, rw_116 hR hW hk, Option.bind_some]
      by_cases c2 : W 8 k ≤ h ∧ h ≤ W 9 k
      · rw [r_in1 (nI_le c2.1 (by omega)) (nI_le c2.2 (by omega)), Option.bind_some, if_neg (by decide), rw_114 hR hW hk, Option.bind_some]
        rw [wAt, if_pos ⟨c1, c2⟩, nI_succ]
      · rw [r_in0 (fun z => c2 ⟨(nI_leI (by omega) (by omega)).mp z.1, (nI_leI (by omega) (by omega)).mp z.2⟩), Option.bind_some, if_pos rfl]
        rw [wAt, if_neg (fun z => c2 z.2), nI_succ]
    · rw [if_neg (fun z => c1 ((nI_eq (by omega) (by omega)).mp z))]
      rw [wAt, if_neg (fun z => c1 z.1), nI_succ]
  · dsimp only
    rw [r_h4 hR, Option.bind_some, if_pos (Int32.le_refl _)]
    rfl
theorem m2_nI {x : Nat} (hx : x < 2 ^ 31) : ¬ ((-2 : Int32) = nI x) := by
  intro h
  have h1 := nI_pos' hx
  rw [← h] at h1
  exact absurd h1 (by decide)
/-- a loop that gathers a set of people -/
theorem r_set {ρ β : Type} (hR : RRep W sd S) (hW : WF W) (hn : 30000 ≤ n) (P : Nat → Bool) {f : Int32 × Int32 → Option (Int32 × Int32 ⊕ ρ)} {g : ρ → Option β} {o : Option β} (e : ρ) (hs : ∀ i, i < W 0 1 → f (bs P i, nI i) = some (.inl (bs P (i + 1), nI (i + 1)))) (he : f (bs P (W 0 1), nI (W 0 1)) = some (.inr e)) (hg : g e = o) : (iter f n ((0 : Int32), (0 : Int32))).bind g = o := by
  have hm1 : W 0 1 ≤ 10 := hW.mx (k := 1) (by decide)
  exact bindI (fun i => (bs P i, nI i)) (W 0 1) e rfl hs he (by omega) hg
theorem r_crowdAt (hR : RRep W sd S) (hW : WF W) (hn : 30000 ≤ n) {x h : Nat} (hx : x < 2 ^ 31) (hh : h < 1000) : E_X12_crowdAt n S (nI x) (nI h) = some (bs (wStand W (bt (S.1 95 61)) x h) (W 0 1)) := by
  have hm1 : W 0 1 ≤ 10 := hW.mx (k := 1) (by decide)
  have hm0 : W 0 0 ≤ 6 := hW.mx (k := 0) (by decide)
  unfold E_X12_crowdAt
  refine r_set hR hW hn (wStand W (bt (S.1 95 61)) x h) (bs (wStand W (bt (S.1 95 61)) x h) (W 0 1)) ?_ ?_ rfl
  · intro i hi
    dsimp only
    rw [r_h1 hR, Option.bind_some, if_neg (nI_ge hi (by omega)), r_placeOf hR hW hn hi hh, Option.bind_some]
    simp only [jn]
    by_cases c : wOn W (bt (S.1 95 61)) i = true
    · have h0 : 0 < W 0 0 := by
        simp [wOn] at c
        omega
      have hp := wPl_lt hW h0 i h
      rw [if_pos c]
      by_cases c1 : wPl W i h = x
      · have e : wStand W (bt (S.1 95 61)) x h i = true := by simp [wStand, c, c1]
        rw [if_pos (by rw [c1]), bs, if_pos e, nI_succ]
      · have e : wStand W (bt (S.1 95 61)) x h i = false := by simp [wStand, c1]
        rw [if_neg (fun z => c1 ((nI_eq (by omega) hx).mp z)), bs, e, nI_succ]
        rfl
    · have e : wStand W (bt (S.1 95 61)) x h i = false := by simp [wStand, c]
      rw [if_neg c, if_neg (m2_nI hx), bs, e, nI_succ]
      rfl
  · dsimp only
    rw [r_h1 hR, Option.bind_some, if_pos (Int32.le_refl _)]
theorem r_isThin (hR : RRep W sd S) (hW : WF W) (hn : 30000 ≤ n) {a b : Nat} (ha : a < 2 ^ 31) (hb : b < 2 ^ 31) : E_X12_isThin n S (nI a) (nI b) = some (if wThin W a b = true then 1 else 0) := by
  have hm3 : W 0 3 ≤ 8 := hW.mx (k := 3) (by decide)
  have hm0 : W 0 0 ≤ 6 := hW.mx (k := 0) (by decide)
  unfold E_X12_isThin
  refine bindFind (fun i => nI i) (W 0 3) (fun k => decide ((W 4 k = a ∧ W 5 k = b) ∨ (W 4 k = b ∧ W 5 k = a))) (fun _ => .inr 1) (.inl ()) rfl ?_ ?_ (by omega) ?_
  · intro k hk
    have hs := hW.2.2.2.1 k hk
    rw [r_h3 hR, Option.bind_some, if_neg (nI_ge hk (by omega)), rw_111 hR hW hk, Option.bind_some]
    simp only [jn, Option.bind_some]
    rw [rw_112 hR hW hk]
    simp only [Option.bind_some, ← nI_succ]
    simp only [nI_eq (show W 4 k < 2 ^ 31 by omega) ha, nI_eq (show W 4 k < 2 ^ 31 by omega) hb, nI_eq (show W 5 k < 2 ^ 31 by omega) ha, nI_eq (show W 5 k < 2 ^ 31 by omega) hb]
    by_cases c1 : W 4 k = a <;> by_cases c2 : W 5 k = b <;> by_cases c3 : W 4 k = b <;> by_cases c4 : W 5 k = a <;> simp [c1, c2, c3, c4]
  · rw [r_h3 hR, Option.bind_some, if_pos (Int32.le_refl _)]
  · have e : wThin W a b = (srch (fun k => decide ((W 4 k = a ∧ W 5 k = b) ∨ (W 4 k = b ∧ W 5 k = a))) 0 (W 0 3)).isSome := (srch_any _ _).symm
    rw [e]
    cases srch (fun k => decide ((W 4 k = a ∧ W 5 k = b) ∨ (W 4 k = b ∧ W 5 k = a))) 0 (W 0 3) <;> rfl
theorem r_earshotOf (hR : RRep W sd S) (hW : WF W) (hn : 30000 ≤ n) {x h : Nat} (hx : x < 2 ^ 31) (hh : h < 1000) : E_X12_earshotOf n S (nI x) (nI h) = some (bs (wHear W (bt (S.1 95 61)) x h) (W 0 1)) := by
  have hm1 : W 0 1 ≤ 10 := hW.mx (k := 1) (by decide)
  have hm0 : W 0 0 ≤ 6 := hW.mx (k := 0) (by decide)
  unfold E_X12_earshotOf
  refine r_set hR hW hn (wHear W (bt (S.1 95 61)) x h) (bs (wHear W (bt (S.1 95 61)) x h) (W 0 1)) ?_ ?_ rfl
  · intro i hi
    dsimp only
    rw [r_h1 hR, Option.bind_some, if_neg (nI_ge hi (by omega)), r_placeOf hR hW hn hi hh, Option.bind_some]
    simp only [jn]
    by_cases c : wOn W (bt (S.1 95 61)) i = true
    · have h0 : 0 < W 0 0 := by
        simp [wOn] at c
        omega
      have hp := wPl_lt hW h0 i h
      rw [if_pos c, if_neg (nI_pos (by omega))]
      by_cases c1 : wPl W i h = x
      · have e : wHear W (bt (S.1 95 61)) x h i = true := by simp [wHear, c, c1]
        rw [if_pos (by rw [c1]), bs, if_pos e, nI_succ]
      · rw [if_neg (fun z => c1 ((nI_eq (by omega) hx).mp z)), r_isThin hR hW hn (by omega) hx, Option.bind_some]
        by_cases c2 : wThin W (wPl W i h) x = true
        · have e : wHear W (bt (S.1 95 61)) x h i = true := by simp [wHear, c, c2]
          rw [if_pos c2, if_neg (by decide), bs, if_pos e, nI_succ]
        · have e : wHear W (bt (S.1 95 61)) x h i = false := by simp [wHear, c1, c2]
          rw [if_neg c2, if_pos rfl, bs, e, nI_succ]
          rfl
    · have e : wHear W (bt (S.1 95 61)) x h i = false := by simp [wHear, c]
      rw [if_neg c, if_pos (by decide), bs, e, nI_succ]
      rfl
  · dsimp only
    rw [r_h1 hR, Option.bind_some, if_pos (Int32.le_refl _)]
/-- how many of the first m -/
def cnt (P : Nat → Bool) : Nat → Nat
  | 0 => 0
  | m + 1 => cnt P m + (if P m = true then 1 else 0)
theorem cnt_le (P : Nat → Bool) : ∀ m, cnt P m ≤ m := by
  intro m
  induction m with
  | zero => exact Nat.le_refl _
  | succ m ih => rw [cnt]; split <;> omega
theorem shr_bit (x : Int32) {k : Nat} (hk : k < 32) : (x >>> (nI k &&& 31)) &&& 1 = nI (if bt x k = true then 1 else 0) := by
  by_cases c : bt x k = true
  · rw [if_pos c]; exact (shr_1 x hk).mpr c
  · rw [if_neg c]; exact (shr_0 x hk).mpr (by simpa using c)
theorem r_bits {x : Int32} (hn : 30000 ≤ n) : E_X12_bits n S x = some (nI (cnt (bt x) 10)) := by
  unfold E_X12_bits
  refine bindI (fun i => (nI (cnt (bt x) i), nI i)) 10 (nI (cnt (bt x) 10)) rfl ?_ ?_ (by omega) rfl
  · intro i hi
    dsimp only
    rw [if_neg (show ¬ (10 : Int32) ≤ nI i from nI_ge (b := 10) hi (by decide))]
    simp only [lets]
    rw [shr_bit x (by omega), nI_add, nI_succ]
    rfl
  · dsimp only
    rw [if_pos (show (10 : Int32) ≤ nI 10 from Int32.le_refl _)]
end REF2
