/-! ===== the village as numbers: W 0 k how many (0 places 1 people 2 things 3 thin 4 stays 5 known 6 musts 7 acts 8 tasks 9 laws of saying 10 of asking); 1 age 2 birth 3 worth 4 5 thin 6 7 8 9 stay (who, place, from, to) 10 11 known (who, thing) 12 13 14 must (who, thing, hour) 15 16 act (thing, cost) 17 task (bits) ===== -/
abbrev VW : Type := Nat → Nat → Nat
def TW : List (Nat × Nat × Nat × Nat) := [(1, 108, 10, 1), (2, 109, 10, 1), (3, 110, 6, 2), (4, 111, 8, 3), (5, 112, 8, 3), (6, 113, 20, 4), (7, 114, 20, 4), (8, 115, 20, 4), (9, 116, 20, 4), (10, 117, 12, 5), (11, 118, 12, 5), (12, 119, 12, 6), (13, 120, 12, 6), (14, 121, 12, 6), (15, 122, 6, 7), (16, 123, 6, 7), (17, 124, 4, 8)]
def MX : Nat → Nat := fun k => match k with
  | 0 => 6
  | 1 => 10
  | 2 => 6
  | 3 => 8
  | 4 => 20
  | 5 => 12
  | 6 => 12
  | 7 => 6
  | 8 => 4
  | 9 => 4
  | _ => 4
/-- as the reference holds it, on its side sd -/
def RRep (W : VW) (sd : Nat) (S : ST) : Prop := sd < 2 ∧ S.1 95 18 = nI sd ∧ (∀ k, k < 8 → S.1 106 (8 * sd + k) = nI (W 0 k)) ∧ S.1 107 sd = nI (W 0 8) ∧ (∀ s, s < 2 → S.1 125 (2 * sd + s) = nI (W 0 (9 + s))) ∧ ∀ q ∈ TW, ∀ k, k < W 0 q.2.2.2 → S.1 q.2.1 (q.2.2.1 * sd + k) = nI (W q.1 k)
/-- how many there may be, and that all numbers name what there is -/
def WF (W : VW) : Prop := (∀ k, k < 11 → W 0 k ≤ MX k) ∧ (∀ p, p < W 0 1 → W 1 p ≤ 99 ∧ W 2 p ≤ 99) ∧ (∀ t, t < W 0 2 → W 3 t ≤ 99) ∧ (∀ k, k < W 0 3 → W 4 k < W 0 0 ∧ W 5 k < W 0 0) ∧ (∀ k, k < W 0 4 → W 6 k < W 0 1 ∧ W 7 k < W 0 0 ∧ W 8 k ≤ W 9 k ∧ W 9 k ≤ 23)
  ∧ (∀ k, k < W 0 5 → W 10 k < W 0 1 ∧ W 11 k < W 0 2) ∧ (∀ k, k < W 0 6 → W 12 k < W 0 1 ∧ W 13 k < W 0 2 ∧ W 14 k ≤ 23) ∧ (∀ k, k < W 0 7 → W 15 k < W 0 2 ∧ 1 ≤ W 16 k ∧ W 16 k ≤ 99) ∧ ∀ k, k < W 0 8 → W 17 k < 2 ^ W 0 2
theorem WF.mx {W : VW} (h : WF W) {k : Nat} (hk : k < 11) : W 0 k ≤ MX k := h.1 k hk
/-- a number that is an argument: one of the first m -/
def vi (x : Int32) (m : Nat) : Prop := 0 ≤ x ∧ x < nI m
theorem vi_nat {x : Int32} {m : Nat} (hm : m < 2 ^ 31) (h : vi x m) : ∃ p, p < m ∧ x = nI p := by
  obtain ⟨j, hj, rfl⟩ := nI_of (x := x) (Int32.not_lt.mpr h.1)
  exact ⟨j, (nI_ltI hj hm).mp h.2, rfl⟩
theorem nat_vi {p m : Nat} (hm : m < 2 ^ 31) (h : p < m) : vi (nI p) m := ⟨nI_pos' (by omega), nI_lt h hm⟩
theorem rw_108 {W : VW} {sd : Nat} {S : ST} (hR : RRep W sd S) (hW : WF W) {k : Nat} (hk : k < W 0 1) : rd (S.1 108) 20 ((10 : Int32) * (S.1 95 18) + nI k) = some (nI (W 1 k)) := by
  have hm := hW.mx (k := 1) (by decide)
  have hm : W 0 1 ≤ 10 := hm
  have e : (10 : Int32) * (S.1 95 18) + nI k = nI (10 * sd + k) := by
    rw [hR.2.1, show (10 : Int32) = nI 10 from rfl, pk_mul, nI_add]
  have hs := hR.1
  rw [e, rd_nI (by omega) (by decide), hR.2.2.2.2.2 (1, 108, 10, 1) (by decide) k hk]
theorem rw_109 {W : VW} {sd : Nat} {S : ST} (hR : RRep W sd S) (hW : WF W) {k : Nat} (hk : k < W 0 1) : rd (S.1 109) 20 ((10 : Int32) * (S.1 95 18) + nI k) = some (nI (W 2 k)) := by
  have hm := hW.mx (k := 1) (by decide)
  have hm : W 0 1 ≤ 10 := hm
  have e : (10 : Int32) * (S.1 95 18) + nI k = nI (10 * sd + k) := by
    rw [hR.2.1, show (10 : Int32) = nI 10 from rfl, pk_mul, nI_add]
  have hs := hR.1
  rw [e, rd_nI (by omega) (by decide), hR.2.2.2.2.2 (2, 109, 10, 1) (by decide) k hk]
theorem rw_110 {W : VW} {sd : Nat} {S : ST} (hR : RRep W sd S) (hW : WF W) {k : Nat} (hk : k < W 0 2) : rd (S.1 110) 12 ((6 : Int32) * (S.1 95 18) + nI k) = some (nI (W 3 k)) := by
  have hm := hW.mx (k := 2) (by decide)
  have hm : W 0 2 ≤ 6 := hm
  have e : (6 : Int32) * (S.1 95 18) + nI k = nI (6 * sd + k) := by
    rw [hR.2.1, show (6 : Int32) = nI 6 from rfl, pk_mul, nI_add]
  have hs := hR.1
  rw [e, rd_nI (by omega) (by decide), hR.2.2.2.2.2 (3, 110, 6, 2) (by decide) k hk]
theorem rw_111 {W : VW} {sd : Nat} {S : ST} (hR : RRep W sd S) (hW : WF W) {k : Nat} (hk : k < W 0 3) : rd (S.1 111) 16 ((8 : Int32) * (S.1 95 18) + nI k) = some (nI (W 4 k)) := by
  have hm := hW.mx (k := 3) (by decide)
  have hm : W 0 3 ≤ 8 := hm
  have e : (8 : Int32) * (S.1 95 18) + nI k = nI (8 * sd + k) := by
    rw [hR.2.1, show (8 : Int32) = nI 8 from rfl, pk_mul, nI_add]
  have hs := hR.1
  rw [e, rd_nI (by omega) (by decide), hR.2.2.2.2.2 (4, 111, 8, 3) (by decide) k hk]
theorem rw_112 {W : VW} {sd : Nat} {S : ST} (hR : RRep W sd S) (hW : WF W) {k : Nat} (hk : k < W 0 3) : rd (S.1 112) 16 ((8 : Int32) * (S.1 95 18) + nI k) = some (nI (W 5 k)) := by
  have hm := hW.mx (k := 3) (by decide)
  have hm : W 0 3 ≤ 8 := hm
  have e : (8 : Int32) * (S.1 95 18) + nI k = nI (8 * sd + k) := by
    rw [hR.2.1, show (8 : Int32) = nI 8 from rfl, pk_mul, nI_add]
  have hs := hR.1
  rw [e, rd_nI (by omega) (by decide), hR.2.2.2.2.2 (5, 112, 8, 3) (by decide) k hk]
theorem rw_113 {W : VW} {sd : Nat} {S : ST} (hR : RRep W sd S) (hW : WF W) {k : Nat} (hk : k < W 0 4) : rd (S.1 113) 40 ((20 : Int32) * (S.1 95 18) + nI k) = some (nI (W 6 k)) := by
  have hm := hW.mx (k := 4) (by decide)
  have hm : W 0 4 ≤ 20 := hm
  have e : (20 : Int32) * (S.1 95 18) + nI k = nI (20 * sd + k) := by
    rw [hR.2.1, show (20 : Int32) = nI 20 from rfl, pk_mul, nI_add]
  have hs := hR.1
  rw [e, rd_nI (by omega) (by decide), hR.2.2.2.2.2 (6, 113, 20, 4) (by decide) k hk]
theorem rw_114 {W : VW} {sd : Nat} {S : ST} (hR : RRep W sd S) (hW : WF W) {k : Nat} (hk : k < W 0 4) : rd (S.1 114) 40 ((20 : Int32) * (S.1 95 18) + nI k) = some (nI (W 7 k)) := by
  have hm := hW.mx (k := 4) (by decide)
  have hm : W 0 4 ≤ 20 := hm
  have e : (20 : Int32) * (S.1 95 18) + nI k = nI (20 * sd + k) := by
    rw [hR.2.1, show (20 : Int32) = nI 20 from rfl, pk_mul, nI_add]
  have hs := hR.1
  rw [e, rd_nI (by omega) (by decide), hR.2.2.2.2.2 (7, 114, 20, 4) (by decide) k hk]
theorem rw_115 {W : VW} {sd : Nat} {S : ST} (hR : RRep W sd S) (hW : WF W) {k : Nat} (hk : k < W 0 4) : rd (S.1 115) 40 ((20 : Int32) * (S.1 95 18) + nI k) = some (nI (W 8 k)) := by
  have hm := hW.mx (k := 4) (by decide)
  have hm : W 0 4 ≤ 20 := hm
  have e : (20 : Int32) * (S.1 95 18) + nI k = nI (20 * sd + k) := by
    rw [hR.2.1, show (20 : Int32) = nI 20 from rfl, pk_mul, nI_add]
  have hs := hR.1
  rw [e, rd_nI (by omega) (by decide), hR.2.2.2.2.2 (8, 115, 20, 4) (by decide) k hk]
theorem rw_116 {W : VW} {sd : Nat} {S : ST} (hR : RRep W sd S) (hW : WF W) {k : Nat} (hk : k < W 0 4) : rd (S.1 116) 40 ((20 : Int32) * (S.1 95 18) + nI k) = some (nI (W 9 k)) := by
  have hm := hW.mx (k := 4) (by decide)
  have hm : W 0 4 ≤ 20 := hm
  have e : (20 : Int32) * (S.1 95 18) + nI k = nI (20 * sd + k) := by
    rw [hR.2.1, show (20 : Int32) = nI 20 from rfl, pk_mul, nI_add]
  have hs := hR.1
  rw [e, rd_nI (by omega) (by decide), hR.2.2.2.2.2 (9, 116, 20, 4) (by decide) k hk]
theorem rw_117 {W : VW} {sd : Nat} {S : ST} (hR : RRep W sd S) (hW : WF W) {k : Nat} (hk : k < W 0 5) : rd (S.1 117) 24 ((12 : Int32) * (S.1 95 18) + nI k) = some (nI (W 10 k)) := by
  have hm := hW.mx (k := 5) (by decide)
  have hm : W 0 5 ≤ 12 := hm
  have e : (12 : Int32) * (S.1 95 18) + nI k = nI (12 * sd + k) := by
    rw [hR.2.1, show (12 : Int32) = nI 12 from rfl, pk_mul, nI_add]
  have hs := hR.1
  rw [e, rd_nI (by omega) (by decide), hR.2.2.2.2.2 (10, 117, 12, 5) (by decide) k hk]
theorem rw_118 {W : VW} {sd : Nat} {S : ST} (hR : RRep W sd S) (hW : WF W) {k : Nat} (hk : k < W 0 5) : rd (S.1 118) 24 ((12 : Int32) * (S.1 95 18) + nI k) = some (nI (W 11 k)) := by
  have hm := hW.mx (k := 5) (by decide)
  have hm : W 0 5 ≤ 12 := hm
  have e : (12 : Int32) * (S.1 95 18) + nI k = nI (12 * sd + k) := by
    rw [hR.2.1, show (12 : Int32) = nI 12 from rfl, pk_mul, nI_add]
  have hs := hR.1
  rw [e, rd_nI (by omega) (by decide), hR.2.2.2.2.2 (11, 118, 12, 5) (by decide) k hk]
theorem rw_119 {W : VW} {sd : Nat} {S : ST} (hR : RRep W sd S) (hW : WF W) {k : Nat} (hk : k < W 0 6) : rd (S.1 119) 24 ((12 : Int32) * (S.1 95 18) + nI k) = some (nI (W 12 k)) := by
  have hm := hW.mx (k := 6) (by decide)
  have hm : W 0 6 ≤ 12 := hm
  have e : (12 : Int32) * (S.1 95 18) + nI k = nI (12 * sd + k) := by
    rw [hR.2.1, show (12 : Int32) = nI 12 from rfl, pk_mul, nI_add]
  have hs := hR.1
  rw [e, rd_nI (by omega) (by decide), hR.2.2.2.2.2 (12, 119, 12, 6) (by decide) k hk]
theorem rw_120 {W : VW} {sd : Nat} {S : ST} (hR : RRep W sd S) (hW : WF W) {k : Nat} (hk : k < W 0 6) : rd (S.1 120) 24 ((12 : Int32) * (S.1 95 18) + nI k) = some (nI (W 13 k)) := by
  have hm := hW.mx (k := 6) (by decide)
  have hm : W 0 6 ≤ 12 := hm
  have e : (12 : Int32) * (S.1 95 18) + nI k = nI (12 * sd + k) := by
    rw [hR.2.1, show (12 : Int32) = nI 12 from rfl, pk_mul, nI_add]
  have hs := hR.1
  rw [e, rd_nI (by omega) (by decide), hR.2.2.2.2.2 (13, 120, 12, 6) (by decide) k hk]
theorem rw_121 {W : VW} {sd : Nat} {S : ST} (hR : RRep W sd S) (hW : WF W) {k : Nat} (hk : k < W 0 6) : rd (S.1 121) 24 ((12 : Int32) * (S.1 95 18) + nI k) = some (nI (W 14 k)) := by
  have hm := hW.mx (k := 6) (by decide)
  have hm : W 0 6 ≤ 12 := hm
  have e : (12 : Int32) * (S.1 95 18) + nI k = nI (12 * sd + k) := by
    rw [hR.2.1, show (12 : Int32) = nI 12 from rfl, pk_mul, nI_add]
  have hs := hR.1
  rw [e, rd_nI (by omega) (by decide), hR.2.2.2.2.2 (14, 121, 12, 6) (by decide) k hk]
theorem rw_122 {W : VW} {sd : Nat} {S : ST} (hR : RRep W sd S) (hW : WF W) {k : Nat} (hk : k < W 0 7) : rd (S.1 122) 12 ((6 : Int32) * (S.1 95 18) + nI k) = some (nI (W 15 k)) := by
  have hm := hW.mx (k := 7) (by decide)
  have hm : W 0 7 ≤ 6 := hm
  have e : (6 : Int32) * (S.1 95 18) + nI k = nI (6 * sd + k) := by
    rw [hR.2.1, show (6 : Int32) = nI 6 from rfl, pk_mul, nI_add]
  have hs := hR.1
  rw [e, rd_nI (by omega) (by decide), hR.2.2.2.2.2 (15, 122, 6, 7) (by decide) k hk]
theorem rw_123 {W : VW} {sd : Nat} {S : ST} (hR : RRep W sd S) (hW : WF W) {k : Nat} (hk : k < W 0 7) : rd (S.1 123) 12 ((6 : Int32) * (S.1 95 18) + nI k) = some (nI (W 16 k)) := by
  have hm := hW.mx (k := 7) (by decide)
  have hm : W 0 7 ≤ 6 := hm
  have e : (6 : Int32) * (S.1 95 18) + nI k = nI (6 * sd + k) := by
    rw [hR.2.1, show (6 : Int32) = nI 6 from rfl, pk_mul, nI_add]
  have hs := hR.1
  rw [e, rd_nI (by omega) (by decide), hR.2.2.2.2.2 (16, 123, 6, 7) (by decide) k hk]
theorem rw_124 {W : VW} {sd : Nat} {S : ST} (hR : RRep W sd S) (hW : WF W) {k : Nat} (hk : k < W 0 8) : rd (S.1 124) 8 ((4 : Int32) * (S.1 95 18) + nI k) = some (nI (W 17 k)) := by
  have hm := hW.mx (k := 8) (by decide)
  have hm : W 0 8 ≤ 4 := hm
  have e : (4 : Int32) * (S.1 95 18) + nI k = nI (4 * sd + k) := by
    rw [hR.2.1, show (4 : Int32) = nI 4 from rfl, pk_mul, nI_add]
  have hs := hR.1
  rw [e, rd_nI (by omega) (by decide), hR.2.2.2.2.2 (17, 124, 4, 8) (by decide) k hk]
section REF1
variable {W : VW} {sd n : Nat} {S : ST}
theorem r_has (hR : RRep W sd S) {k : Nat} (hk : k < 8) : E_X12_has n S (nI k) = some (nI (W 0 k)) := by
  unfold E_X12_has
  have hs := hR.1
  have e : (8 : Int32) * (S.1 95 18) + nI k = nI (8 * sd + k) := by
    rw [hR.2.1, show (8 : Int32) = nI 8 from rfl, pk_mul, nI_add]
  rw [e, rd_nI (by omega) (by decide), hR.2.2.1 k hk]
  rfl
theorem r_in {x a b : Int32} : E_X12_in n S x a b = some (if x < a then 0 else if b < x then 0 else 1) := by
  unfold E_X12_in
  split
  · rfl
  · split <;> rfl
theorem r_in1 {x a b : Int32} (h1 : a ≤ x) (h2 : x ≤ b) : E_X12_in n S x a b = some 1 := by
  rw [r_in, if_neg (Int32.not_lt.mpr h1), if_neg (Int32.not_lt.mpr h2)]
theorem r_in0 {x a b : Int32} (h : ¬ (a ≤ x ∧ x ≤ b)) : E_X12_in n S x a b = some 0 := by
  rw [r_in]
  by_cases h1 : x < a
  · rw [if_pos h1]
  · rw [if_neg h1, if_pos (Int32.not_le.mp (fun h2 => h ⟨Int32.not_lt.mp h1, h2⟩))]
theorem le_pred {x : Int32} {m : Nat} (hm : m < 2 ^ 30) (h0 : 0 ≤ x) : x ≤ nI m - 1 ↔ x < nI m := by
  obtain ⟨j, hj, rfl⟩ := nI_of (x := x) (Int32.not_lt.mpr h0)
  cases m with
  | zero =>
    have e1 : ¬ nI j ≤ nI 0 - 1 := by
      intro h
      have h2 : (0 : Int32) ≤ nI 0 - 1 := Int32.le_trans (nI_pos' hj) h
      exact absurd h2 (by decide)
    have e2 : ¬ nI j < nI 0 := fun h => by have := (nI_ltI hj (by decide)).mp h; omega
    exact ⟨fun h => absurd h e1, fun h => absurd h e2⟩
  | succ m =>
    rw [nI_pred, nI_leI hj (by omega), nI_ltI hj (by omega)]
    omega
theorem r_chk {x : Int32} {m : Nat} (hm : m < 2 ^ 30) : (vi x m → E_X12_in n S x 0 (nI m - 1) = some 1) ∧ (¬ vi x m → E_X12_in n S x 0 (nI m - 1) = some 0) := by
  refine ⟨fun h => r_in1 h.1 ((le_pred hm h.1).mpr h.2), fun h => r_in0 (fun h2 => h ⟨h2.1, (le_pred hm h2.1).mp h2.2⟩)⟩
theorem nar1 : narrow .boolean (.int (1 : Int32)) = .int (1 : Int32) := by decide
theorem nar0 : narrow .boolean (.int (0 : Int32)) = .int (0 : Int32) := by decide
theorem gd_pos {β : Type} {p : Prop} [Decidable p] {u : Option β} (h : p) : gd p u = u := if_pos h
theorem r_isPerson (hR : RRep W sd S) (hW : WF W) {x : Int32} : (vi x (W 0 1) → E_X12_isPerson n S x = some 1) ∧ (¬ vi x (W 0 1) → E_X12_isPerson n S x = some 0) := by
  have hm : W 0 1 ≤ 10 := hW.mx (k := 1) (by decide)
  unfold E_X12_isPerson
  rw [show (1 : Int32) = nI 1 from rfl, r_has hR (by decide), Option.bind_some]
  refine ⟨fun h => ?_, fun h => ?_⟩
  · rw [show nI 1 = (1 : Int32) from rfl, (r_chk (by omega)).1 h, Option.bind_some, gd_pos nar1]
  · rw [show nI 1 = (1 : Int32) from rfl, (r_chk (by omega)).2 h, Option.bind_some, gd_pos nar0]
end REF1

