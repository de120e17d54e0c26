/-! ===== the layout: which cell is what; trees over numbers alone ===== -/
abbrev ST : Type := (Nat → Nat → Int32) × (Nat → Nat → Int64)
def mkM (K : AK) (R : Nat → Nat → Option Nat) (S : ST) : AM := (K, S.1, S.2, R)
def KAll : AK := [.inr (0, 0), .inr (0, 11), .inr (0, 11), .inr (0, 11), .inr (0, 10), .inl 1000, .inr (1, 96), .inl 1000, .inl 11, .inr (1, 2000), .inl 9, .inr (0, 402), .inr (0, 402), .inr (2, 402), .inr (2, 20), .inl 2, .inr (0, 11), .inr (0, 400), .inl 8, .inr (2, 32), .inr (0, 32), .inr (0, 32), .inl 10, .inr (0, 11), .inr (0, 10), .inr (0, 10), .inr (0, 6), .inr (0, 6), .inr (0, 10), .inr (0, 12), .inr (0, 12), .inr (0, 12), .inr (0, 6), .inr (0, 6), .inr (0, 4), .inl 4, .inr (0, 400), .inr (0, 400), .inr (0, 8), .inr (0, 8), .inr (0, 2), .inr (0, 4), .inr (0, 32), .inr (0, 240), .inr (0, 144), .inr (0, 144), .inr (0, 240), .inl 10, .inr (0, 11), .inr (0, 10), .inr (0, 10), .inr (0, 6), .inr (0, 6), .inr (0, 10), .inr (0, 12), .inr (0, 12), .inr (0, 12), .inr (0, 6), .inr (0, 6), .inr (0, 4), .inl 4, .inr (0, 400), .inr (0, 400), .inr (0, 8), .inr (0, 8), .inr (0, 2), .inr (0, 4), .inr (0, 32), .inr (0, 240), .inr (0, 144), .inr (0, 144), .inr (0, 240), .inl 5, .inr (0, 150), .inr (0, 450), .inr (0, 3), .inl 1, .inl 3, .inr (0, 60), .inr (0, 600), .inr (0, 30), .inr (0, 10), .inl 1, .inl 3, .inr (0, 60), .inr (0, 600), .inr (0, 30), .inr (0, 10), .inl 7, .inr (0, 10), .inl 0, .inr (0, 0), .inl 6, .inl 3, .inr (0, 60), .inl 12, .inr (1, 2000), .inr (1, 2000), .inr (0, 403), .inr (0, 403), .inr (0, 403), .inr (2, 403), .inr (2, 20), .inr (2, 32), .inr (0, 32), .inr (0, 32), .inr (0, 16), .inr (0, 2), .inr (0, 20), .inr (0, 20), .inr (0, 12), .inr (0, 16), .inr (0, 16), .inr (0, 40), .inr (0, 40), .inr (0, 40), .inr (0, 40), .inr (0, 24), .inr (0, 24), .inr (0, 24), .inr (0, 24), .inr (0, 24), .inr (0, 12), .inr (0, 12), .inr (0, 8), .inr (0, 4), .inr (0, 16), .inr (0, 16), .inr (0, 300), .inr (3, 300), .inr (3, 300), .inr (0, 300), .inr (0, 300), .inr (0, 300), .inr (0, 840), .inr (0, 840), .inr (0, 64), .inr (0, 4), .inr (0, 400), .inr (0, 30), .inr (0, 30), .inr (0, 30), .inr (0, 30), .inr (0, 30), .inr (0, 250), .inr (0, 30), .inr (0, 600), .inr (0, 6), .inr (0, 25), .inr (0, 25600), .inr (0, 160), .inr (0, 160), .inr (0, 160), .inr (0, 160), .inr (0, 10), .inr (0, 3), .inr (0, 90), .inr (0, 90), .inr (0, 90), .inr (0, 90), .inr (0, 90)]
def RAll : List (Nat × Nat × Nat) := [(8, 0, 9), (8, 3, 10), (8, 4, 15), (8, 5, 18), (8, 8, 72), (8, 9, 76), (8, 11, 82), (8, 12, 88), (8, 13, 90), (8, 14, 92), (10, 0, 11), (10, 1, 12), (10, 2, 13), (10, 3, 14), (15, 0, 10), (15, 1, 16), (15, 2, 17), (18, 0, 10), (18, 1, 19), (18, 2, 20), (18, 3, 21), (22, 0, 23), (22, 1, 24), (22, 2, 25), (22, 3, 26), (22, 4, 27), (22, 5, 28), (22, 6, 29), (22, 7, 30), (22, 8, 31), (22, 9, 32), (22, 10, 33), (22, 11, 34), (22, 12, 35), (22, 13, 43), (22, 14, 44), (22, 15, 45), (22, 16, 46), (35, 0, 36), (35, 1, 37), (35, 2, 38), (35, 3, 39), (35, 4, 40), (35, 5, 41), (35, 6, 42), (47, 0, 48), (47, 1, 49), (47, 2, 50), (47, 3, 51), (47, 4, 52), (47, 5, 53), (47, 6, 54), (47, 7, 55), (47, 8, 56), (47, 9, 57), (47, 10, 58), (47, 11, 59), (47, 12, 60), (47, 13, 68), (47, 14, 69), (47, 15, 70), (47, 16, 71), (60, 0, 61), (60, 1, 62), (60, 2, 63), (60, 3, 64), (60, 4, 65), (60, 5, 66), (60, 6, 67), (72, 0, 73), (72, 2, 74), (72, 3, 75), (76, 0, 77), (76, 1, 79), (76, 2, 80), (76, 3, 81), (77, 0, 78), (82, 0, 83), (82, 1, 85), (82, 2, 86), (82, 3, 87), (83, 0, 84), (88, 0, 89), (92, 0, 93), (93, 0, 94), (95, 1, 96), (95, 3, 97), (95, 5, 98), (95, 6, 99), (95, 7, 100), (95, 8, 101), (95, 9, 102), (95, 21, 103), (95, 22, 104), (95, 23, 105), (95, 24, 106), (95, 25, 107), (95, 26, 108), (95, 27, 109), (95, 28, 110), (95, 29, 111), (95, 30, 112), (95, 31, 113), (95, 32, 114), (95, 33, 115), (95, 34, 116), (95, 35, 117), (95, 36, 118), (95, 37, 119), (95, 38, 120), (95, 39, 121), (95, 40, 122), (95, 41, 123), (95, 42, 124), (95, 43, 125), (95, 44, 126), (95, 45, 127), (95, 47, 128), (95, 48, 129), (95, 49, 130), (95, 50, 131), (95, 51, 132), (95, 52, 133), (95, 54, 134), (95, 55, 135), (95, 56, 136), (95, 58, 137), (95, 59, 138), (95, 63, 139), (95, 64, 140), (95, 65, 141), (95, 66, 142), (95, 67, 143), (95, 68, 144), (95, 69, 145), (95, 70, 146), (95, 71, 147), (95, 74, 148), (95, 75, 149), (95, 77, 150), (95, 78, 151), (95, 79, 152), (95, 80, 153), (95, 81, 154), (95, 88, 155), (95, 89, 156), (95, 90, 157), (95, 91, 158), (95, 92, 159), (95, 93, 160)]
def Lay (K : AK) (R : Nat → Nat → Option Nat) (tw en : Nat) : Prop := (∀ k, 1 ≤ k → k < 161 → K[k]? = KAll[k]?) ∧ (∀ q ∈ RAll, R q.1 q.2.1 = some q.2.2) ∧ R 8 6 = some tw ∧ R 8 7 = some (69 - tw) ∧ (tw = 22 ∨ tw = 47) ∧ R 90 2 = some en
def KsW : AK := [.inl 10, .inr (0, 11), .inr (0, 10), .inr (0, 10), .inr (0, 6), .inr (0, 6), .inr (0, 10), .inr (0, 12), .inr (0, 12), .inr (0, 12), .inr (0, 6), .inr (0, 6), .inr (0, 4), .inl 4, .inr (0, 400), .inr (0, 400), .inr (0, 8), .inr (0, 8), .inr (0, 2), .inr (0, 4), .inr (0, 32), .inr (0, 240), .inr (0, 144), .inr (0, 144), .inr (0, 240)]
def RsW : List (Nat × Nat × Nat) := [(0, 0, 1), (0, 1, 2), (0, 2, 3), (0, 3, 4), (0, 4, 5), (0, 5, 6), (0, 6, 7), (0, 7, 8), (0, 8, 9), (0, 9, 10), (0, 10, 11), (0, 11, 12), (0, 12, 13), (0, 13, 21), (0, 14, 22), (0, 15, 23), (0, 16, 24), (13, 0, 14), (13, 1, 15), (13, 2, 16), (13, 3, 17), (13, 4, 18), (13, 5, 19), (13, 6, 20)]
def LW (K : AK) (R : Nat → Nat → Option Nat) (w : Nat) : Prop := (∀ i, i < 25 → K[w + i]? = KsW[i]?) ∧ (∀ q ∈ RsW, R (w + q.1) q.2.1 = some (w + q.2.2)) ∧ 8 ≤ w
theorem kW_0 {K : AK} {R : Nat → Nat → Option Nat} {w : Nat} (h : LW K R w) : K[w]? = some (.inl 10) := h.1 0 (by decide)
theorem kW_1 {K : AK} {R : Nat → Nat → Option Nat} {w : Nat} (h : LW K R w) : K[w + 1]? = some (.inr (0, 11)) := h.1 1 (by decide)
theorem kW_2 {K : AK} {R : Nat → Nat → Option Nat} {w : Nat} (h : LW K R w) : K[w + 2]? = some (.inr (0, 10)) := h.1 2 (by decide)
theorem kW_3 {K : AK} {R : Nat → Nat → Option Nat} {w : Nat} (h : LW K R w) : K[w + 3]? = some (.inr (0, 10)) := h.1 3 (by decide)
theorem kW_4 {K : AK} {R : Nat → Nat → Option Nat} {w : Nat} (h : LW K R w) : K[w + 4]? = some (.inr (0, 6)) := h.1 4 (by decide)
theorem kW_5 {K : AK} {R : Nat → Nat → Option Nat} {w : Nat} (h : LW K R w) : K[w + 5]? = some (.inr (0, 6)) := h.1 5 (by decide)
theorem kW_6 {K : AK} {R : Nat → Nat → Option Nat} {w : Nat} (h : LW K R w) : K[w + 6]? = some (.inr (0, 10)) := h.1 6 (by decide)
theorem kW_7 {K : AK} {R : Nat → Nat → Option Nat} {w : Nat} (h : LW K R w) : K[w + 7]? = some (.inr (0, 12)) := h.1 7 (by decide)
theorem kW_8 {K : AK} {R : Nat → Nat → Option Nat} {w : Nat} (h : LW K R w) : K[w + 8]? = some (.inr (0, 12)) := h.1 8 (by decide)
theorem kW_9 {K : AK} {R : Nat → Nat → Option Nat} {w : Nat} (h : LW K R w) : K[w + 9]? = some (.inr (0, 12)) := h.1 9 (by decide)
theorem kW_10 {K : AK} {R : Nat → Nat → Option Nat} {w : Nat} (h : LW K R w) : K[w + 10]? = some (.inr (0, 6)) := h.1 10 (by decide)
theorem kW_11 {K : AK} {R : Nat → Nat → Option Nat} {w : Nat} (h : LW K R w) : K[w + 11]? = some (.inr (0, 6)) := h.1 11 (by decide)
theorem kW_12 {K : AK} {R : Nat → Nat → Option Nat} {w : Nat} (h : LW K R w) : K[w + 12]? = some (.inr (0, 4)) := h.1 12 (by decide)
theorem kW_13 {K : AK} {R : Nat → Nat → Option Nat} {w : Nat} (h : LW K R w) : K[w + 13]? = some (.inl 4) := h.1 13 (by decide)
theorem kW_14 {K : AK} {R : Nat → Nat → Option Nat} {w : Nat} (h : LW K R w) : K[w + 14]? = some (.inr (0, 400)) := h.1 14 (by decide)
theorem kW_15 {K : AK} {R : Nat → Nat → Option Nat} {w : Nat} (h : LW K R w) : K[w + 15]? = some (.inr (0, 400)) := h.1 15 (by decide)
theorem kW_16 {K : AK} {R : Nat → Nat → Option Nat} {w : Nat} (h : LW K R w) : K[w + 16]? = some (.inr (0, 8)) := h.1 16 (by decide)
theorem kW_17 {K : AK} {R : Nat → Nat → Option Nat} {w : Nat} (h : LW K R w) : K[w + 17]? = some (.inr (0, 8)) := h.1 17 (by decide)
theorem kW_18 {K : AK} {R : Nat → Nat → Option Nat} {w : Nat} (h : LW K R w) : K[w + 18]? = some (.inr (0, 2)) := h.1 18 (by decide)
theorem kW_19 {K : AK} {R : Nat → Nat → Option Nat} {w : Nat} (h : LW K R w) : K[w + 19]? = some (.inr (0, 4)) := h.1 19 (by decide)
theorem kW_20 {K : AK} {R : Nat → Nat → Option Nat} {w : Nat} (h : LW K R w) : K[w + 20]? = some (.inr (0, 32)) := h.1 20 (by decide)
theorem kW_21 {K : AK} {R : Nat → Nat → Option Nat} {w : Nat} (h : LW K R w) : K[w + 21]? = some (.inr (0, 240)) := h.1 21 (by decide)
theorem kW_22 {K : AK} {R : Nat → Nat → Option Nat} {w : Nat} (h : LW K R w) : K[w + 22]? = some (.inr (0, 144)) := h.1 22 (by decide)
theorem kW_23 {K : AK} {R : Nat → Nat → Option Nat} {w : Nat} (h : LW K R w) : K[w + 23]? = some (.inr (0, 144)) := h.1 23 (by decide)
theorem kW_24 {K : AK} {R : Nat → Nat → Option Nat} {w : Nat} (h : LW K R w) : K[w + 24]? = some (.inr (0, 240)) := h.1 24 (by decide)
theorem k8W {K : AK} {R : Nat → Nat → Option Nat} {w : Nat} (i : Nat) (h : LW K R w) : 8 ≤ w + i := Nat.le_trans h.2.2 (Nat.le_add_right _ _)
theorem rW_0_0 {K : AK} {R : Nat → Nat → Option Nat} {w : Nat} (h : LW K R w) : R (w) 0 = some (w + 1) := h.2.1 (0, 0, 1) (by decide)
theorem rW_0_1 {K : AK} {R : Nat → Nat → Option Nat} {w : Nat} (h : LW K R w) : R (w) 1 = some (w + 2) := h.2.1 (0, 1, 2) (by decide)
theorem rW_0_2 {K : AK} {R : Nat → Nat → Option Nat} {w : Nat} (h : LW K R w) : R (w) 2 = some (w + 3) := h.2.1 (0, 2, 3) (by decide)
theorem rW_0_3 {K : AK} {R : Nat → Nat → Option Nat} {w : Nat} (h : LW K R w) : R (w) 3 = some (w + 4) := h.2.1 (0, 3, 4) (by decide)
theorem rW_0_4 {K : AK} {R : Nat → Nat → Option Nat} {w : Nat} (h : LW K R w) : R (w) 4 = some (w + 5) := h.2.1 (0, 4, 5) (by decide)
theorem rW_0_5 {K : AK} {R : Nat → Nat → Option Nat} {w : Nat} (h : LW K R w) : R (w) 5 = some (w + 6) := h.2.1 (0, 5, 6) (by decide)
theorem rW_0_6 {K : AK} {R : Nat → Nat → Option Nat} {w : Nat} (h : LW K R w) : R (w) 6 = some (w + 7) := h.2.1 (0, 6, 7) (by decide)
theorem rW_0_7 {K : AK} {R : Nat → Nat → Option Nat} {w : Nat} (h : LW K R w) : R (w) 7 = some (w + 8) := h.2.1 (0, 7, 8) (by decide)
theorem rW_0_8 {K : AK} {R : Nat → Nat → Option Nat} {w : Nat} (h : LW K R w) : R (w) 8 = some (w + 9) := h.2.1 (0, 8, 9) (by decide)
theorem rW_0_9 {K : AK} {R : Nat → Nat → Option Nat} {w : Nat} (h : LW K R w) : R (w) 9 = some (w + 10) := h.2.1 (0, 9, 10) (by decide)
theorem rW_0_10 {K : AK} {R : Nat → Nat → Option Nat} {w : Nat} (h : LW K R w) : R (w) 10 = some (w + 11) := h.2.1 (0, 10, 11) (by decide)
theorem rW_0_11 {K : AK} {R : Nat → Nat → Option Nat} {w : Nat} (h : LW K R w) : R (w) 11 = some (w + 12) := h.2.1 (0, 11, 12) (by decide)
theorem rW_0_12 {K : AK} {R : Nat → Nat → Option Nat} {w : Nat} (h : LW K R w) : R (w) 12 = some (w + 13) := h.2.1 (0, 12, 13) (by decide)
theorem rW_0_13 {K : AK} {R : Nat → Nat → Option Nat} {w : Nat} (h : LW K R w) : R (w) 13 = some (w + 21) := h.2.1 (0, 13, 21) (by decide)
theorem rW_0_14 {K : AK} {R : Nat → Nat → Option Nat} {w : Nat} (h : LW K R w) : R (w) 14 = some (w + 22) := h.2.1 (0, 14, 22) (by decide)
theorem rW_0_15 {K : AK} {R : Nat → Nat → Option Nat} {w : Nat} (h : LW K R w) : R (w) 15 = some (w + 23) := h.2.1 (0, 15, 23) (by decide)
theorem rW_0_16 {K : AK} {R : Nat → Nat → Option Nat} {w : Nat} (h : LW K R w) : R (w) 16 = some (w + 24) := h.2.1 (0, 16, 24) (by decide)
theorem rW_13_0 {K : AK} {R : Nat → Nat → Option Nat} {w : Nat} (h : LW K R w) : R (w + 13) 0 = some (w + 14) := h.2.1 (13, 0, 14) (by decide)
theorem rW_13_1 {K : AK} {R : Nat → Nat → Option Nat} {w : Nat} (h : LW K R w) : R (w + 13) 1 = some (w + 15) := h.2.1 (13, 1, 15) (by decide)
theorem rW_13_2 {K : AK} {R : Nat → Nat → Option Nat} {w : Nat} (h : LW K R w) : R (w + 13) 2 = some (w + 16) := h.2.1 (13, 2, 16) (by decide)
theorem rW_13_3 {K : AK} {R : Nat → Nat → Option Nat} {w : Nat} (h : LW K R w) : R (w + 13) 3 = some (w + 17) := h.2.1 (13, 3, 17) (by decide)
theorem rW_13_4 {K : AK} {R : Nat → Nat → Option Nat} {w : Nat} (h : LW K R w) : R (w + 13) 4 = some (w + 18) := h.2.1 (13, 4, 18) (by decide)
theorem rW_13_5 {K : AK} {R : Nat → Nat → Option Nat} {w : Nat} (h : LW K R w) : R (w + 13) 5 = some (w + 19) := h.2.1 (13, 5, 19) (by decide)
theorem rW_13_6 {K : AK} {R : Nat → Nat → Option Nat} {w : Nat} (h : LW K R w) : R (w + 13) 6 = some (w + 20) := h.2.1 (13, 6, 20) (by decide)
def KsL : AK := [.inl 4, .inr (0, 400), .inr (0, 400), .inr (0, 8), .inr (0, 8), .inr (0, 2), .inr (0, 4), .inr (0, 32)]
def RsL : List (Nat × Nat × Nat) := [(0, 0, 1), (0, 1, 2), (0, 2, 3), (0, 3, 4), (0, 4, 5), (0, 5, 6), (0, 6, 7)]
def LL (K : AK) (R : Nat → Nat → Option Nat) (l : Nat) : Prop := (∀ i, i < 8 → K[l + i]? = KsL[i]?) ∧ (∀ q ∈ RsL, R (l + q.1) q.2.1 = some (l + q.2.2)) ∧ 8 ≤ l
theorem kL_0 {K : AK} {R : Nat → Nat → Option Nat} {l : Nat} (h : LL K R l) : K[l]? = some (.inl 4) := h.1 0 (by decide)
theorem kL_1 {K : AK} {R : Nat → Nat → Option Nat} {l : Nat} (h : LL K R l) : K[l + 1]? = some (.inr (0, 400)) := h.1 1 (by decide)
theorem kL_2 {K : AK} {R : Nat → Nat → Option Nat} {l : Nat} (h : LL K R l) : K[l + 2]? = some (.inr (0, 400)) := h.1 2 (by decide)
theorem kL_3 {K : AK} {R : Nat → Nat → Option Nat} {l : Nat} (h : LL K R l) : K[l + 3]? = some (.inr (0, 8)) := h.1 3 (by decide)
theorem kL_4 {K : AK} {R : Nat → Nat → Option Nat} {l : Nat} (h : LL K R l) : K[l + 4]? = some (.inr (0, 8)) := h.1 4 (by decide)
theorem kL_5 {K : AK} {R : Nat → Nat → Option Nat} {l : Nat} (h : LL K R l) : K[l + 5]? = some (.inr (0, 2)) := h.1 5 (by decide)
theorem kL_6 {K : AK} {R : Nat → Nat → Option Nat} {l : Nat} (h : LL K R l) : K[l + 6]? = some (.inr (0, 4)) := h.1 6 (by decide)
theorem kL_7 {K : AK} {R : Nat → Nat → Option Nat} {l : Nat} (h : LL K R l) : K[l + 7]? = some (.inr (0, 32)) := h.1 7 (by decide)
theorem k8L {K : AK} {R : Nat → Nat → Option Nat} {l : Nat} (i : Nat) (h : LL K R l) : 8 ≤ l + i := Nat.le_trans h.2.2 (Nat.le_add_right _ _)
theorem rL_0_0 {K : AK} {R : Nat → Nat → Option Nat} {l : Nat} (h : LL K R l) : R (l) 0 = some (l + 1) := h.2.1 (0, 0, 1) (by decide)
theorem rL_0_1 {K : AK} {R : Nat → Nat → Option Nat} {l : Nat} (h : LL K R l) : R (l) 1 = some (l + 2) := h.2.1 (0, 1, 2) (by decide)
theorem rL_0_2 {K : AK} {R : Nat → Nat → Option Nat} {l : Nat} (h : LL K R l) : R (l) 2 = some (l + 3) := h.2.1 (0, 2, 3) (by decide)
theorem rL_0_3 {K : AK} {R : Nat → Nat → Option Nat} {l : Nat} (h : LL K R l) : R (l) 3 = some (l + 4) := h.2.1 (0, 3, 4) (by decide)
theorem rL_0_4 {K : AK} {R : Nat → Nat → Option Nat} {l : Nat} (h : LL K R l) : R (l) 4 = some (l + 5) := h.2.1 (0, 4, 5) (by decide)
theorem rL_0_5 {K : AK} {R : Nat → Nat → Option Nat} {l : Nat} (h : LL K R l) : R (l) 5 = some (l + 6) := h.2.1 (0, 5, 6) (by decide)
theorem rL_0_6 {K : AK} {R : Nat → Nat → Option Nat} {l : Nat} (h : LL K R l) : R (l) 6 = some (l + 7) := h.2.1 (0, 6, 7) (by decide)
def KsC : AK := [.inl 1, .inl 3, .inr (0, 60), .inr (0, 600), .inr (0, 30), .inr (0, 10)]
def RsC : List (Nat × Nat × Nat) := [(0, 0, 1), (0, 1, 3), (0, 2, 4), (0, 3, 5), (1, 0, 2)]
def LC (K : AK) (R : Nat → Nat → Option Nat) (c : Nat) : Prop := (∀ i, i < 6 → K[c + i]? = KsC[i]?) ∧ (∀ q ∈ RsC, R (c + q.1) q.2.1 = some (c + q.2.2)) ∧ 8 ≤ c
theorem kC_0 {K : AK} {R : Nat → Nat → Option Nat} {c : Nat} (h : LC K R c) : K[c]? = some (.inl 1) := h.1 0 (by decide)
theorem kC_1 {K : AK} {R : Nat → Nat → Option Nat} {c : Nat} (h : LC K R c) : K[c + 1]? = some (.inl 3) := h.1 1 (by decide)
theorem kC_2 {K : AK} {R : Nat → Nat → Option Nat} {c : Nat} (h : LC K R c) : K[c + 2]? = some (.inr (0, 60)) := h.1 2 (by decide)
theorem kC_3 {K : AK} {R : Nat → Nat → Option Nat} {c : Nat} (h : LC K R c) : K[c + 3]? = some (.inr (0, 600)) := h.1 3 (by decide)
theorem kC_4 {K : AK} {R : Nat → Nat → Option Nat} {c : Nat} (h : LC K R c) : K[c + 4]? = some (.inr (0, 30)) := h.1 4 (by decide)
theorem kC_5 {K : AK} {R : Nat → Nat → Option Nat} {c : Nat} (h : LC K R c) : K[c + 5]? = some (.inr (0, 10)) := h.1 5 (by decide)
theorem k8C {K : AK} {R : Nat → Nat → Option Nat} {c : Nat} (i : Nat) (h : LC K R c) : 8 ≤ c + i := Nat.le_trans h.2.2 (Nat.le_add_right _ _)
theorem rC_0_0 {K : AK} {R : Nat → Nat → Option Nat} {c : Nat} (h : LC K R c) : R (c) 0 = some (c + 1) := h.2.1 (0, 0, 1) (by decide)
theorem rC_0_1 {K : AK} {R : Nat → Nat → Option Nat} {c : Nat} (h : LC K R c) : R (c) 1 = some (c + 3) := h.2.1 (0, 1, 3) (by decide)
theorem rC_0_2 {K : AK} {R : Nat → Nat → Option Nat} {c : Nat} (h : LC K R c) : R (c) 2 = some (c + 4) := h.2.1 (0, 2, 4) (by decide)
theorem rC_0_3 {K : AK} {R : Nat → Nat → Option Nat} {c : Nat} (h : LC K R c) : R (c) 3 = some (c + 5) := h.2.1 (0, 3, 5) (by decide)
theorem rC_1_0 {K : AK} {R : Nat → Nat → Option Nat} {c : Nat} (h : LC K R c) : R (c + 1) 0 = some (c + 2) := h.2.1 (1, 0, 2) (by decide)
def KsN : AK := [.inl 3, .inr (0, 60)]
def RsN : List (Nat × Nat × Nat) := [(0, 0, 1)]
def LN (K : AK) (R : Nat → Nat → Option Nat) (k : Nat) : Prop := (∀ i, i < 2 → K[k + i]? = KsN[i]?) ∧ (∀ q ∈ RsN, R (k + q.1) q.2.1 = some (k + q.2.2)) ∧ 8 ≤ k
theorem kN_0 {K : AK} {R : Nat → Nat → Option Nat} {k : Nat} (h : LN K R k) : K[k]? = some (.inl 3) := h.1 0 (by decide)
theorem kN_1 {K : AK} {R : Nat → Nat → Option Nat} {k : Nat} (h : LN K R k) : K[k + 1]? = some (.inr (0, 60)) := h.1 1 (by decide)
theorem k8N {K : AK} {R : Nat → Nat → Option Nat} {k : Nat} (i : Nat) (h : LN K R k) : 8 ≤ k + i := Nat.le_trans h.2.2 (Nat.le_add_right _ _)
theorem rN_0_0 {K : AK} {R : Nat → Nat → Option Nat} {k : Nat} (h : LN K R k) : R (k) 0 = some (k + 1) := h.2.1 (0, 0, 1) (by decide)
theorem kd_1 {K : AK} {R : Nat → Nat → Option Nat} {tw en : Nat} (h : Lay K R tw en) : K[1]? = some (.inr (0, 11)) := h.1 1 (by decide) (by decide)
theorem kd_2 {K : AK} {R : Nat → Nat → Option Nat} {tw en : Nat} (h : Lay K R tw en) : K[2]? = some (.inr (0, 11)) := h.1 2 (by decide) (by decide)
theorem kd_3 {K : AK} {R : Nat → Nat → Option Nat} {tw en : Nat} (h : Lay K R tw en) : K[3]? = some (.inr (0, 11)) := h.1 3 (by decide) (by decide)
theorem kd_4 {K : AK} {R : Nat → Nat → Option Nat} {tw en : Nat} (h : Lay K R tw en) : K[4]? = some (.inr (0, 10)) := h.1 4 (by decide) (by decide)
theorem kd_5 {K : AK} {R : Nat → Nat → Option Nat} {tw en : Nat} (h : Lay K R tw en) : K[5]? = some (.inl 1000) := h.1 5 (by decide) (by decide)
theorem kd_6 {K : AK} {R : Nat → Nat → Option Nat} {tw en : Nat} (h : Lay K R tw en) : K[6]? = some (.inr (1, 96)) := h.1 6 (by decide) (by decide)
theorem kd_7 {K : AK} {R : Nat → Nat → Option Nat} {tw en : Nat} (h : Lay K R tw en) : K[7]? = some (.inl 1000) := h.1 7 (by decide) (by decide)
theorem kd_8 {K : AK} {R : Nat → Nat → Option Nat} {tw en : Nat} (h : Lay K R tw en) : K[8]? = some (.inl 11) := h.1 8 (by decide) (by decide)
theorem kd_9 {K : AK} {R : Nat → Nat → Option Nat} {tw en : Nat} (h : Lay K R tw en) : K[9]? = some (.inr (1, 2000)) := h.1 9 (by decide) (by decide)
theorem kd_10 {K : AK} {R : Nat → Nat → Option Nat} {tw en : Nat} (h : Lay K R tw en) : K[10]? = some (.inl 9) := h.1 10 (by decide) (by decide)
theorem kd_11 {K : AK} {R : Nat → Nat → Option Nat} {tw en : Nat} (h : Lay K R tw en) : K[11]? = some (.inr (0, 402)) := h.1 11 (by decide) (by decide)
theorem kd_12 {K : AK} {R : Nat → Nat → Option Nat} {tw en : Nat} (h : Lay K R tw en) : K[12]? = some (.inr (0, 402)) := h.1 12 (by decide) (by decide)
theorem kd_13 {K : AK} {R : Nat → Nat → Option Nat} {tw en : Nat} (h : Lay K R tw en) : K[13]? = some (.inr (2, 402)) := h.1 13 (by decide) (by decide)
theorem kd_14 {K : AK} {R : Nat → Nat → Option Nat} {tw en : Nat} (h : Lay K R tw en) : K[14]? = some (.inr (2, 20)) := h.1 14 (by decide) (by decide)
theorem kd_15 {K : AK} {R : Nat → Nat → Option Nat} {tw en : Nat} (h : Lay K R tw en) : K[15]? = some (.inl 2) := h.1 15 (by decide) (by decide)
theorem kd_16 {K : AK} {R : Nat → Nat → Option Nat} {tw en : Nat} (h : Lay K R tw en) : K[16]? = some (.inr (0, 11)) := h.1 16 (by decide) (by decide)
theorem kd_17 {K : AK} {R : Nat → Nat → Option Nat} {tw en : Nat} (h : Lay K R tw en) : K[17]? = some (.inr (0, 400)) := h.1 17 (by decide) (by decide)
theorem kd_18 {K : AK} {R : Nat → Nat → Option Nat} {tw en : Nat} (h : Lay K R tw en) : K[18]? = some (.inl 8) := h.1 18 (by decide) (by decide)
theorem kd_19 {K : AK} {R : Nat → Nat → Option Nat} {tw en : Nat} (h : Lay K R tw en) : K[19]? = some (.inr (2, 32)) := h.1 19 (by decide) (by decide)
theorem kd_20 {K : AK} {R : Nat → Nat → Option Nat} {tw en : Nat} (h : Lay K R tw en) : K[20]? = some (.inr (0, 32)) := h.1 20 (by decide) (by decide)
theorem kd_21 {K : AK} {R : Nat → Nat → Option Nat} {tw en : Nat} (h : Lay K R tw en) : K[21]? = some (.inr (0, 32)) := h.1 21 (by decide) (by decide)
theorem kd_22 {K : AK} {R : Nat → Nat → Option Nat} {tw en : Nat} (h : Lay K R tw en) : K[22]? = some (.inl 10) := h.1 22 (by decide) (by decide)
theorem kd_23 {K : AK} {R : Nat → Nat → Option Nat} {tw en : Nat} (h : Lay K R tw en) : K[23]? = some (.inr (0, 11)) := h.1 23 (by decide) (by decide)
theorem kd_24 {K : AK} {R : Nat → Nat → Option Nat} {tw en : Nat} (h : Lay K R tw en) : K[24]? = some (.inr (0, 10)) := h.1 24 (by decide) (by decide)
theorem kd_25 {K : AK} {R : Nat → Nat → Option Nat} {tw en : Nat} (h : Lay K R tw en) : K[25]? = some (.inr (0, 10)) := h.1 25 (by decide) (by decide)
theorem kd_26 {K : AK} {R : Nat → Nat → Option Nat} {tw en : Nat} (h : Lay K R tw en) : K[26]? = some (.inr (0, 6)) := h.1 26 (by decide) (by decide)
theorem kd_27 {K : AK} {R : Nat → Nat → Option Nat} {tw en : Nat} (h : Lay K R tw en) : K[27]? = some (.inr (0, 6)) := h.1 27 (by decide) (by decide)
theorem kd_28 {K : AK} {R : Nat → Nat → Option Nat} {tw en : Nat} (h : Lay K R tw en) : K[28]? = some (.inr (0, 10)) := h.1 28 (by decide) (by decide)
theorem kd_29 {K : AK} {R : Nat → Nat → Option Nat} {tw en : Nat} (h : Lay K R tw en) : K[29]? = some (.inr (0, 12)) := h.1 29 (by decide) (by decide)
theorem kd_30 {K : AK} {R : Nat → Nat → Option Nat} {tw en : Nat} (h : Lay K R tw en) : K[30]? = some (.inr (0, 12)) := h.1 30 (by decide) (by decide)
theorem kd_31 {K : AK} {R : Nat → Nat → Option Nat} {tw en : Nat} (h : Lay K R tw en) : K[31]? = some (.inr (0, 12)) := h.1 31 (by decide) (by decide)
theorem kd_32 {K : AK} {R : Nat → Nat → Option Nat} {tw en : Nat} (h : Lay K R tw en) : K[32]? = some (.inr (0, 6)) := h.1 32 (by decide) (by decide)
theorem kd_33 {K : AK} {R : Nat → Nat → Option Nat} {tw en : Nat} (h : Lay K R tw en) : K[33]? = some (.inr (0, 6)) := h.1 33 (by decide) (by decide)
theorem kd_34 {K : AK} {R : Nat → Nat → Option Nat} {tw en : Nat} (h : Lay K R tw en) : K[34]? = some (.inr (0, 4)) := h.1 34 (by decide) (by decide)
theorem kd_35 {K : AK} {R : Nat → Nat → Option Nat} {tw en : Nat} (h : Lay K R tw en) : K[35]? = some (.inl 4) := h.1 35 (by decide) (by decide)
theorem kd_36 {K : AK} {R : Nat → Nat → Option Nat} {tw en : Nat} (h : Lay K R tw en) : K[36]? = some (.inr (0, 400)) := h.1 36 (by decide) (by decide)
theorem kd_37 {K : AK} {R : Nat → Nat → Option Nat} {tw en : Nat} (h : Lay K R tw en) : K[37]? = some (.inr (0, 400)) := h.1 37 (by decide) (by decide)
theorem kd_38 {K : AK} {R : Nat → Nat → Option Nat} {tw en : Nat} (h : Lay K R tw en) : K[38]? = some (.inr (0, 8)) := h.1 38 (by decide) (by decide)
theorem kd_39 {K : AK} {R : Nat → Nat → Option Nat} {tw en : Nat} (h : Lay K R tw en) : K[39]? = some (.inr (0, 8)) := h.1 39 (by decide) (by decide)
theorem kd_40 {K : AK} {R : Nat → Nat → Option Nat} {tw en : Nat} (h : Lay K R tw en) : K[40]? = some (.inr (0, 2)) := h.1 40 (by decide) (by decide)
theorem kd_41 {K : AK} {R : Nat → Nat → Option Nat} {tw en : Nat} (h : Lay K R tw en) : K[41]? = some (.inr (0, 4)) := h.1 41 (by decide) (by decide)
theorem kd_42 {K : AK} {R : Nat → Nat → Option Nat} {tw en : Nat} (h : Lay K R tw en) : K[42]? = some (.inr (0, 32)) := h.1 42 (by decide) (by decide)
theorem kd_43 {K : AK} {R : Nat → Nat → Option Nat} {tw en : Nat} (h : Lay K R tw en) : K[43]? = some (.inr (0, 240)) := h.1 43 (by decide) (by decide)
theorem kd_44 {K : AK} {R : Nat → Nat → Option Nat} {tw en : Nat} (h : Lay K R tw en) : K[44]? = some (.inr (0, 144)) := h.1 44 (by decide) (by decide)
theorem kd_45 {K : AK} {R : Nat → Nat → Option Nat} {tw en : Nat} (h : Lay K R tw en) : K[45]? = some (.inr (0, 144)) := h.1 45 (by decide) (by decide)
theorem kd_46 {K : AK} {R : Nat → Nat → Option Nat} {tw en : Nat} (h : Lay K R tw en) : K[46]? = some (.inr (0, 240)) := h.1 46 (by decide) (by decide)
theorem kd_47 {K : AK} {R : Nat → Nat → Option Nat} {tw en : Nat} (h : Lay K R tw en) : K[47]? = some (.inl 10) := h.1 47 (by decide) (by decide)
theorem kd_48 {K : AK} {R : Nat → Nat → Option Nat} {tw en : Nat} (h : Lay K R tw en) : K[48]? = some (.inr (0, 11)) := h.1 48 (by decide) (by decide)
theorem kd_49 {K : AK} {R : Nat → Nat → Option Nat} {tw en : Nat} (h : Lay K R tw en) : K[49]? = some (.inr (0, 10)) := h.1 49 (by decide) (by decide)
theorem kd_50 {K : AK} {R : Nat → Nat → Option Nat} {tw en : Nat} (h : Lay K R tw en) : K[50]? = some (.inr (0, 10)) := h.1 50 (by decide) (by decide)
theorem kd_51 {K : AK} {R : Nat → Nat → Option Nat} {tw en : Nat} (h : Lay K R tw en) : K[51]? = some (.inr (0, 6)) := h.1 51 (by decide) (by decide)
theorem kd_52 {K : AK} {R : Nat → Nat → Option Nat} {tw en : Nat} (h : Lay K R tw en) : K[52]? = some (.inr (0, 6)) := h.1 52 (by decide) (by decide)
theorem kd_53 {K : AK} {R : Nat → Nat → Option Nat} {tw en : Nat} (h : Lay K R tw en) : K[53]? = some (.inr (0, 10)) := h.1 53 (by decide) (by decide)
theorem kd_54 {K : AK} {R : Nat → Nat → Option Nat} {tw en : Nat} (h : Lay K R tw en) : K[54]? = some (.inr (0, 12)) := h.1 54 (by decide) (by decide)
theorem kd_55 {K : AK} {R : Nat → Nat → Option Nat} {tw en : Nat} (h : Lay K R tw en) : K[55]? = some (.inr (0, 12)) := h.1 55 (by decide) (by decide)
theorem kd_56 {K : AK} {R : Nat → Nat → Option Nat} {tw en : Nat} (h : Lay K R tw en) : K[56]? = some (.inr (0, 12)) := h.1 56 (by decide) (by decide)
theorem kd_57 {K : AK} {R : Nat → Nat → Option Nat} {tw en : Nat} (h : Lay K R tw en) : K[57]? = some (.inr (0, 6)) := h.1 57 (by decide) (by decide)
theorem kd_58 {K : AK} {R : Nat → Nat → Option Nat} {tw en : Nat} (h : Lay K R tw en) : K[58]? = some (.inr (0, 6)) := h.1 58 (by decide) (by decide)
theorem kd_59 {K : AK} {R : Nat → Nat → Option Nat} {tw en : Nat} (h : Lay K R tw en) : K[59]? = some (.inr (0, 4)) := h.1 59 (by decide) (by decide)
theorem kd_60 {K : AK} {R : Nat → Nat → Option Nat} {tw en : Nat} (h : Lay K R tw en) : K[60]? = some (.inl 4) := h.1 60 (by decide) (by decide)
theorem kd_61 {K : AK} {R : Nat → Nat → Option Nat} {tw en : Nat} (h : Lay K R tw en) : K[61]? = some (.inr (0, 400)) := h.1 61 (by decide) (by decide)
theorem kd_62 {K : AK} {R : Nat → Nat → Option Nat} {tw en : Nat} (h : Lay K R tw en) : K[62]? = some (.inr (0, 400)) := h.1 62 (by decide) (by decide)
theorem kd_63 {K : AK} {R : Nat → Nat → Option Nat} {tw en : Nat} (h : Lay K R tw en) : K[63]? = some (.inr (0, 8)) := h.1 63 (by decide) (by decide)
theorem kd_64 {K : AK} {R : Nat → Nat → Option Nat} {tw en : Nat} (h : Lay K R tw en) : K[64]? = some (.inr (0, 8)) := h.1 64 (by decide) (by decide)
theorem kd_65 {K : AK} {R : Nat → Nat → Option Nat} {tw en : Nat} (h : Lay K R tw en) : K[65]? = some (.inr (0, 2)) := h.1 65 (by decide) (by decide)
theorem kd_66 {K : AK} {R : Nat → Nat → Option Nat} {tw en : Nat} (h : Lay K R tw en) : K[66]? = some (.inr (0, 4)) := h.1 66 (by decide) (by decide)
theorem kd_67 {K : AK} {R : Nat → Nat → Option Nat} {tw en : Nat} (h : Lay K R tw en) : K[67]? = some (.inr (0, 32)) := h.1 67 (by decide) (by decide)
theorem kd_68 {K : AK} {R : Nat → Nat → Option Nat} {tw en : Nat} (h : Lay K R tw en) : K[68]? = some (.inr (0, 240)) := h.1 68 (by decide) (by decide)
theorem kd_69 {K : AK} {R : Nat → Nat → Option Nat} {tw en : Nat} (h : Lay K R tw en) : K[69]? = some (.inr (0, 144)) := h.1 69 (by decide) (by decide)
theorem kd_70 {K : AK} {R : Nat → Nat → Option Nat} {tw en : Nat} (h : Lay K R tw en) : K[70]? = some (.inr (0, 144)) := h.1 70 (by decide) (by decide)
theorem kd_71 {K : AK} {R : Nat → Nat → Option Nat} {tw en : Nat} (h : Lay K R tw en) : K[71]? = some (.inr (0, 240)) := h.1 71 (by decide) (by decide)
theorem kd_72 {K : AK} {R : Nat → Nat → Option Nat} {tw en : Nat} (h : Lay K R tw en) : K[72]? = some (.inl 5) := h.1 72 (by decide) (by decide)
theorem kd_73 {K : AK} {R : Nat → Nat → Option Nat} {tw en : Nat} (h : Lay K R tw en) : K[73]? = some (.inr (0, 150)) := h.1 73 (by decide) (by decide)
theorem kd_74 {K : AK} {R : Nat → Nat → Option Nat} {tw en : Nat} (h : Lay K R tw en) : K[74]? = some (.inr (0, 450)) := h.1 74 (by decide) (by decide)
theorem kd_75 {K : AK} {R : Nat → Nat → Option Nat} {tw en : Nat} (h : Lay K R tw en) : K[75]? = some (.inr (0, 3)) := h.1 75 (by decide) (by decide)
theorem kd_76 {K : AK} {R : Nat → Nat → Option Nat} {tw en : Nat} (h : Lay K R tw en) : K[76]? = some (.inl 1) := h.1 76 (by decide) (by decide)
theorem kd_77 {K : AK} {R : Nat → Nat → Option Nat} {tw en : Nat} (h : Lay K R tw en) : K[77]? = some (.inl 3) := h.1 77 (by decide) (by decide)
theorem kd_78 {K : AK} {R : Nat → Nat → Option Nat} {tw en : Nat} (h : Lay K R tw en) : K[78]? = some (.inr (0, 60)) := h.1 78 (by decide) (by decide)
theorem kd_79 {K : AK} {R : Nat → Nat → Option Nat} {tw en : Nat} (h : Lay K R tw en) : K[79]? = some (.inr (0, 600)) := h.1 79 (by decide) (by decide)
theorem kd_80 {K : AK} {R : Nat → Nat → Option Nat} {tw en : Nat} (h : Lay K R tw en) : K[80]? = some (.inr (0, 30)) := h.1 80 (by decide) (by decide)
theorem kd_81 {K : AK} {R : Nat → Nat → Option Nat} {tw en : Nat} (h : Lay K R tw en) : K[81]? = some (.inr (0, 10)) := h.1 81 (by decide) (by decide)
theorem kd_82 {K : AK} {R : Nat → Nat → Option Nat} {tw en : Nat} (h : Lay K R tw en) : K[82]? = some (.inl 1) := h.1 82 (by decide) (by decide)
theorem kd_83 {K : AK} {R : Nat → Nat → Option Nat} {tw en : Nat} (h : Lay K R tw en) : K[83]? = some (.inl 3) := h.1 83 (by decide) (by decide)
theorem kd_84 {K : AK} {R : Nat → Nat → Option Nat} {tw en : Nat} (h : Lay K R tw en) : K[84]? = some (.inr (0, 60)) := h.1 84 (by decide) (by decide)
theorem kd_85 {K : AK} {R : Nat → Nat → Option Nat} {tw en : Nat} (h : Lay K R tw en) : K[85]? = some (.inr (0, 600)) := h.1 85 (by decide) (by decide)
theorem kd_86 {K : AK} {R : Nat → Nat → Option Nat} {tw en : Nat} (h : Lay K R tw en) : K[86]? = some (.inr (0, 30)) := h.1 86 (by decide) (by decide)
theorem kd_87 {K : AK} {R : Nat → Nat → Option Nat} {tw en : Nat} (h : Lay K R tw en) : K[87]? = some (.inr (0, 10)) := h.1 87 (by decide) (by decide)
theorem kd_88 {K : AK} {R : Nat → Nat → Option Nat} {tw en : Nat} (h : Lay K R tw en) : K[88]? = some (.inl 7) := h.1 88 (by decide) (by decide)
theorem kd_89 {K : AK} {R : Nat → Nat → Option Nat} {tw en : Nat} (h : Lay K R tw en) : K[89]? = some (.inr (0, 10)) := h.1 89 (by decide) (by decide)
theorem kd_90 {K : AK} {R : Nat → Nat → Option Nat} {tw en : Nat} (h : Lay K R tw en) : K[90]? = some (.inl 0) := h.1 90 (by decide) (by decide)
theorem kd_91 {K : AK} {R : Nat → Nat → Option Nat} {tw en : Nat} (h : Lay K R tw en) : K[91]? = some (.inr (0, 0)) := h.1 91 (by decide) (by decide)
theorem kd_92 {K : AK} {R : Nat → Nat → Option Nat} {tw en : Nat} (h : Lay K R tw en) : K[92]? = some (.inl 6) := h.1 92 (by decide) (by decide)
theorem kd_93 {K : AK} {R : Nat → Nat → Option Nat} {tw en : Nat} (h : Lay K R tw en) : K[93]? = some (.inl 3) := h.1 93 (by decide) (by decide)
theorem kd_94 {K : AK} {R : Nat → Nat → Option Nat} {tw en : Nat} (h : Lay K R tw en) : K[94]? = some (.inr (0, 60)) := h.1 94 (by decide) (by decide)
theorem kd_95 {K : AK} {R : Nat → Nat → Option Nat} {tw en : Nat} (h : Lay K R tw en) : K[95]? = some (.inl 12) := h.1 95 (by decide) (by decide)
theorem kd_96 {K : AK} {R : Nat → Nat → Option Nat} {tw en : Nat} (h : Lay K R tw en) : K[96]? = some (.inr (1, 2000)) := h.1 96 (by decide) (by decide)
theorem kd_97 {K : AK} {R : Nat → Nat → Option Nat} {tw en : Nat} (h : Lay K R tw en) : K[97]? = some (.inr (1, 2000)) := h.1 97 (by decide) (by decide)
theorem kd_98 {K : AK} {R : Nat → Nat → Option Nat} {tw en : Nat} (h : Lay K R tw en) : K[98]? = some (.inr (0, 403)) := h.1 98 (by decide) (by decide)
theorem kd_99 {K : AK} {R : Nat → Nat → Option Nat} {tw en : Nat} (h : Lay K R tw en) : K[99]? = some (.inr (0, 403)) := h.1 99 (by decide) (by decide)
theorem kd_100 {K : AK} {R : Nat → Nat → Option Nat} {tw en : Nat} (h : Lay K R tw en) : K[100]? = some (.inr (0, 403)) := h.1 100 (by decide) (by decide)
theorem kd_101 {K : AK} {R : Nat → Nat → Option Nat} {tw en : Nat} (h : Lay K R tw en) : K[101]? = some (.inr (2, 403)) := h.1 101 (by decide) (by decide)
theorem kd_102 {K : AK} {R : Nat → Nat → Option Nat} {tw en : Nat} (h : Lay K R tw en) : K[102]? = some (.inr (2, 20)) := h.1 102 (by decide) (by decide)
theorem kd_103 {K : AK} {R : Nat → Nat → Option Nat} {tw en : Nat} (h : Lay K R tw en) : K[103]? = some (.inr (2, 32)) := h.1 103 (by decide) (by decide)
theorem kd_104 {K : AK} {R : Nat → Nat → Option Nat} {tw en : Nat} (h : Lay K R tw en) : K[104]? = some (.inr (0, 32)) := h.1 104 (by decide) (by decide)
theorem kd_105 {K : AK} {R : Nat → Nat → Option Nat} {tw en : Nat} (h : Lay K R tw en) : K[105]? = some (.inr (0, 32)) := h.1 105 (by decide) (by decide)
theorem kd_106 {K : AK} {R : Nat → Nat → Option Nat} {tw en : Nat} (h : Lay K R tw en) : K[106]? = some (.inr (0, 16)) := h.1 106 (by decide) (by decide)
theorem kd_107 {K : AK} {R : Nat → Nat → Option Nat} {tw en : Nat} (h : Lay K R tw en) : K[107]? = some (.inr (0, 2)) := h.1 107 (by decide) (by decide)
theorem kd_108 {K : AK} {R : Nat → Nat → Option Nat} {tw en : Nat} (h : Lay K R tw en) : K[108]? = some (.inr (0, 20)) := h.1 108 (by decide) (by decide)
theorem kd_109 {K : AK} {R : Nat → Nat → Option Nat} {tw en : Nat} (h : Lay K R tw en) : K[109]? = some (.inr (0, 20)) := h.1 109 (by decide) (by decide)
theorem kd_110 {K : AK} {R : Nat → Nat → Option Nat} {tw en : Nat} (h : Lay K R tw en) : K[110]? = some (.inr (0, 12)) := h.1 110 (by decide) (by decide)
theorem kd_111 {K : AK} {R : Nat → Nat → Option Nat} {tw en : Nat} (h : Lay K R tw en) : K[111]? = some (.inr (0, 16)) := h.1 111 (by decide) (by decide)
theorem kd_112 {K : AK} {R : Nat → Nat → Option Nat} {tw en : Nat} (h : Lay K R tw en) : K[112]? = some (.inr (0, 16)) := h.1 112 (by decide) (by decide)
theorem kd_113 {K : AK} {R : Nat → Nat → Option Nat} {tw en : Nat} (h : Lay K R tw en) : K[113]? = some (.inr (0, 40)) := h.1 113 (by decide) (by decide)
theorem kd_114 {K : AK} {R : Nat → Nat → Option Nat} {tw en : Nat} (h : Lay K R tw en) : K[114]? = some (.inr (0, 40)) := h.1 114 (by decide) (by decide)
theorem kd_115 {K : AK} {R : Nat → Nat → Option Nat} {tw en : Nat} (h : Lay K R tw en) : K[115]? = some (.inr (0, 40)) := h.1 115 (by decide) (by decide)
theorem kd_116 {K : AK} {R : Nat → Nat → Option Nat} {tw en : Nat} (h : Lay K R tw en) : K[116]? = some (.inr (0, 40)) := h.1 116 (by decide) (by decide)
theorem kd_117 {K : AK} {R : Nat → Nat → Option Nat} {tw en : Nat} (h : Lay K R tw en) : K[117]? = some (.inr (0, 24)) := h.1 117 (by decide) (by decide)
theorem kd_118 {K : AK} {R : Nat → Nat → Option Nat} {tw en : Nat} (h : Lay K R tw en) : K[118]? = some (.inr (0, 24)) := h.1 118 (by decide) (by decide)
theorem kd_119 {K : AK} {R : Nat → Nat → Option Nat} {tw en : Nat} (h : Lay K R tw en) : K[119]? = some (.inr (0, 24)) := h.1 119 (by decide) (by decide)
theorem kd_120 {K : AK} {R : Nat → Nat → Option Nat} {tw en : Nat} (h : Lay K R tw en) : K[120]? = some (.inr (0, 24)) := h.1 120 (by decide) (by decide)
theorem kd_121 {K : AK} {R : Nat → Nat → Option Nat} {tw en : Nat} (h : Lay K R tw en) : K[121]? = some (.inr (0, 24)) := h.1 121 (by decide) (by decide)
theorem kd_122 {K : AK} {R : Nat → Nat → Option Nat} {tw en : Nat} (h : Lay K R tw en) : K[122]? = some (.inr (0, 12)) := h.1 122 (by decide) (by decide)
theorem kd_123 {K : AK} {R : Nat → Nat → Option Nat} {tw en : Nat} (h : Lay K R tw en) : K[123]? = some (.inr (0, 12)) := h.1 123 (by decide) (by decide)
theorem kd_124 {K : AK} {R : Nat → Nat → Option Nat} {tw en : Nat} (h : Lay K R tw en) : K[124]? = some (.inr (0, 8)) := h.1 124 (by decide) (by decide)
theorem kd_125 {K : AK} {R : Nat → Nat → Option Nat} {tw en : Nat} (h : Lay K R tw en) : K[125]? = some (.inr (0, 4)) := h.1 125 (by decide) (by decide)
theorem kd_126 {K : AK} {R : Nat → Nat → Option Nat} {tw en : Nat} (h : Lay K R tw en) : K[126]? = some (.inr (0, 16)) := h.1 126 (by decide) (by decide)
theorem kd_127 {K : AK} {R : Nat → Nat → Option Nat} {tw en : Nat} (h : Lay K R tw en) : K[127]? = some (.inr (0, 16)) := h.1 127 (by decide) (by decide)
theorem kd_128 {K : AK} {R : Nat → Nat → Option Nat} {tw en : Nat} (h : Lay K R tw en) : K[128]? = some (.inr (0, 300)) := h.1 128 (by decide) (by decide)
theorem kd_129 {K : AK} {R : Nat → Nat → Option Nat} {tw en : Nat} (h : Lay K R tw en) : K[129]? = some (.inr (3, 300)) := h.1 129 (by decide) (by decide)
theorem kd_130 {K : AK} {R : Nat → Nat → Option Nat} {tw en : Nat} (h : Lay K R tw en) : K[130]? = some (.inr (3, 300)) := h.1 130 (by decide) (by decide)
theorem kd_131 {K : AK} {R : Nat → Nat → Option Nat} {tw en : Nat} (h : Lay K R tw en) : K[131]? = some (.inr (0, 300)) := h.1 131 (by decide) (by decide)
theorem kd_132 {K : AK} {R : Nat → Nat → Option Nat} {tw en : Nat} (h : Lay K R tw en) : K[132]? = some (.inr (0, 300)) := h.1 132 (by decide) (by decide)
theorem kd_133 {K : AK} {R : Nat → Nat → Option Nat} {tw en : Nat} (h : Lay K R tw en) : K[133]? = some (.inr (0, 300)) := h.1 133 (by decide) (by decide)
theorem kd_134 {K : AK} {R : Nat → Nat → Option Nat} {tw en : Nat} (h : Lay K R tw en) : K[134]? = some (.inr (0, 840)) := h.1 134 (by decide) (by decide)
theorem kd_135 {K : AK} {R : Nat → Nat → Option Nat} {tw en : Nat} (h : Lay K R tw en) : K[135]? = some (.inr (0, 840)) := h.1 135 (by decide) (by decide)
theorem kd_136 {K : AK} {R : Nat → Nat → Option Nat} {tw en : Nat} (h : Lay K R tw en) : K[136]? = some (.inr (0, 64)) := h.1 136 (by decide) (by decide)
theorem kd_137 {K : AK} {R : Nat → Nat → Option Nat} {tw en : Nat} (h : Lay K R tw en) : K[137]? = some (.inr (0, 4)) := h.1 137 (by decide) (by decide)
theorem kd_138 {K : AK} {R : Nat → Nat → Option Nat} {tw en : Nat} (h : Lay K R tw en) : K[138]? = some (.inr (0, 400)) := h.1 138 (by decide) (by decide)
theorem kd_139 {K : AK} {R : Nat → Nat → Option Nat} {tw en : Nat} (h : Lay K R tw en) : K[139]? = some (.inr (0, 30)) := h.1 139 (by decide) (by decide)
theorem kd_140 {K : AK} {R : Nat → Nat → Option Nat} {tw en : Nat} (h : Lay K R tw en) : K[140]? = some (.inr (0, 30)) := h.1 140 (by decide) (by decide)
theorem kd_141 {K : AK} {R : Nat → Nat → Option Nat} {tw en : Nat} (h : Lay K R tw en) : K[141]? = some (.inr (0, 30)) := h.1 141 (by decide) (by decide)
theorem kd_142 {K : AK} {R : Nat → Nat → Option Nat} {tw en : Nat} (h : Lay K R tw en) : K[142]? = some (.inr (0, 30)) := h.1 142 (by decide) (by decide)
theorem kd_143 {K : AK} {R : Nat → Nat → Option Nat} {tw en : Nat} (h : Lay K R tw en) : K[143]? = some (.inr (0, 30)) := h.1 143 (by decide) (by decide)
theorem kd_144 {K : AK} {R : Nat → Nat → Option Nat} {tw en : Nat} (h : Lay K R tw en) : K[144]? = some (.inr (0, 250)) := h.1 144 (by decide) (by decide)
theorem kd_145 {K : AK} {R : Nat → Nat → Option Nat} {tw en : Nat} (h : Lay K R tw en) : K[145]? = some (.inr (0, 30)) := h.1 145 (by decide) (by decide)
theorem kd_146 {K : AK} {R : Nat → Nat → Option Nat} {tw en : Nat} (h : Lay K R tw en) : K[146]? = some (.inr (0, 600)) := h.1 146 (by decide) (by decide)
theorem kd_147 {K : AK} {R : Nat → Nat → Option Nat} {tw en : Nat} (h : Lay K R tw en) : K[147]? = some (.inr (0, 6)) := h.1 147 (by decide) (by decide)
theorem kd_148 {K : AK} {R : Nat → Nat → Option Nat} {tw en : Nat} (h : Lay K R tw en) : K[148]? = some (.inr (0, 25)) := h.1 148 (by decide) (by decide)
theorem kd_149 {K : AK} {R : Nat → Nat → Option Nat} {tw en : Nat} (h : Lay K R tw en) : K[149]? = some (.inr (0, 25600)) := h.1 149 (by decide) (by decide)
theorem kd_150 {K : AK} {R : Nat → Nat → Option Nat} {tw en : Nat} (h : Lay K R tw en) : K[150]? = some (.inr (0, 160)) := h.1 150 (by decide) (by decide)
theorem kd_151 {K : AK} {R : Nat → Nat → Option Nat} {tw en : Nat} (h : Lay K R tw en) : K[151]? = some (.inr (0, 160)) := h.1 151 (by decide) (by decide)
theorem kd_152 {K : AK} {R : Nat → Nat → Option Nat} {tw en : Nat} (h : Lay K R tw en) : K[152]? = some (.inr (0, 160)) := h.1 152 (by decide) (by decide)
theorem kd_153 {K : AK} {R : Nat → Nat → Option Nat} {tw en : Nat} (h : Lay K R tw en) : K[153]? = some (.inr (0, 160)) := h.1 153 (by decide) (by decide)
theorem kd_154 {K : AK} {R : Nat → Nat → Option Nat} {tw en : Nat} (h : Lay K R tw en) : K[154]? = some (.inr (0, 10)) := h.1 154 (by decide) (by decide)
theorem kd_155 {K : AK} {R : Nat → Nat → Option Nat} {tw en : Nat} (h : Lay K R tw en) : K[155]? = some (.inr (0, 3)) := h.1 155 (by decide) (by decide)
theorem kd_156 {K : AK} {R : Nat → Nat → Option Nat} {tw en : Nat} (h : Lay K R tw en) : K[156]? = some (.inr (0, 90)) := h.1 156 (by decide) (by decide)
theorem kd_157 {K : AK} {R : Nat → Nat → Option Nat} {tw en : Nat} (h : Lay K R tw en) : K[157]? = some (.inr (0, 90)) := h.1 157 (by decide) (by decide)
theorem kd_158 {K : AK} {R : Nat → Nat → Option Nat} {tw en : Nat} (h : Lay K R tw en) : K[158]? = some (.inr (0, 90)) := h.1 158 (by decide) (by decide)
theorem kd_159 {K : AK} {R : Nat → Nat → Option Nat} {tw en : Nat} (h : Lay K R tw en) : K[159]? = some (.inr (0, 90)) := h.1 159 (by decide) (by decide)
theorem kd_160 {K : AK} {R : Nat → Nat → Option Nat} {tw en : Nat} (h : Lay K R tw en) : K[160]? = some (.inr (0, 90)) := h.1 160 (by decide) (by decide)
theorem rd_8_0 {K : AK} {R : Nat → Nat → Option Nat} {tw en : Nat} (h : Lay K R tw en) : R 8 0 = some 9 := h.2.1 (8, 0, 9) (by decide)
theorem rd_8_3 {K : AK} {R : Nat → Nat → Option Nat} {tw en : Nat} (h : Lay K R tw en) : R 8 3 = some 10 := h.2.1 (8, 3, 10) (by decide)
theorem rd_8_4 {K : AK} {R : Nat → Nat → Option Nat} {tw en : Nat} (h : Lay K R tw en) : R 8 4 = some 15 := h.2.1 (8, 4, 15) (by decide)
theorem rd_8_5 {K : AK} {R : Nat → Nat → Option Nat} {tw en : Nat} (h : Lay K R tw en) : R 8 5 = some 18 := h.2.1 (8, 5, 18) (by decide)
theorem rd_8_8 {K : AK} {R : Nat → Nat → Option Nat} {tw en : Nat} (h : Lay K R tw en) : R 8 8 = some 72 := h.2.1 (8, 8, 72) (by decide)
theorem rd_8_9 {K : AK} {R : Nat → Nat → Option Nat} {tw en : Nat} (h : Lay K R tw en) : R 8 9 = some 76 := h.2.1 (8, 9, 76) (by decide)
theorem rd_8_11 {K : AK} {R : Nat → Nat → Option Nat} {tw en : Nat} (h : Lay K R tw en) : R 8 11 = some 82 := h.2.1 (8, 11, 82) (by decide)
theorem rd_8_12 {K : AK} {R : Nat → Nat → Option Nat} {tw en : Nat} (h : Lay K R tw en) : R 8 12 = some 88 := h.2.1 (8, 12, 88) (by decide)
theorem rd_8_13 {K : AK} {R : Nat → Nat → Option Nat} {tw en : Nat} (h : Lay K R tw en) : R 8 13 = some 90 := h.2.1 (8, 13, 90) (by decide)
theorem rd_8_14 {K : AK} {R : Nat → Nat → Option Nat} {tw en : Nat} (h : Lay K R tw en) : R 8 14 = some 92 := h.2.1 (8, 14, 92) (by decide)
theorem rd_10_0 {K : AK} {R : Nat → Nat → Option Nat} {tw en : Nat} (h : Lay K R tw en) : R 10 0 = some 11 := h.2.1 (10, 0, 11) (by decide)
theorem rd_10_1 {K : AK} {R : Nat → Nat → Option Nat} {tw en : Nat} (h : Lay K R tw en) : R 10 1 = some 12 := h.2.1 (10, 1, 12) (by decide)
theorem rd_10_2 {K : AK} {R : Nat → Nat → Option Nat} {tw en : Nat} (h : Lay K R tw en) : R 10 2 = some 13 := h.2.1 (10, 2, 13) (by decide)
theorem rd_10_3 {K : AK} {R : Nat → Nat → Option Nat} {tw en : Nat} (h : Lay K R tw en) : R 10 3 = some 14 := h.2.1 (10, 3, 14) (by decide)
theorem rd_15_0 {K : AK} {R : Nat → Nat → Option Nat} {tw en : Nat} (h : Lay K R tw en) : R 15 0 = some 10 := h.2.1 (15, 0, 10) (by decide)
theorem rd_15_1 {K : AK} {R : Nat → Nat → Option Nat} {tw en : Nat} (h : Lay K R tw en) : R 15 1 = some 16 := h.2.1 (15, 1, 16) (by decide)
theorem rd_15_2 {K : AK} {R : Nat → Nat → Option Nat} {tw en : Nat} (h : Lay K R tw en) : R 15 2 = some 17 := h.2.1 (15, 2, 17) (by decide)
theorem rd_18_0 {K : AK} {R : Nat → Nat → Option Nat} {tw en : Nat} (h : Lay K R tw en) : R 18 0 = some 10 := h.2.1 (18, 0, 10) (by decide)
theorem rd_18_1 {K : AK} {R : Nat → Nat → Option Nat} {tw en : Nat} (h : Lay K R tw en) : R 18 1 = some 19 := h.2.1 (18, 1, 19) (by decide)
theorem rd_18_2 {K : AK} {R : Nat → Nat → Option Nat} {tw en : Nat} (h : Lay K R tw en) : R 18 2 = some 20 := h.2.1 (18, 2, 20) (by decide)
theorem rd_18_3 {K : AK} {R : Nat → Nat → Option Nat} {tw en : Nat} (h : Lay K R tw en) : R 18 3 = some 21 := h.2.1 (18, 3, 21) (by decide)
theorem rd_22_0 {K : AK} {R : Nat → Nat → Option Nat} {tw en : Nat} (h : Lay K R tw en) : R 22 0 = some 23 := h.2.1 (22, 0, 23) (by decide)
theorem rd_22_1 {K : AK} {R : Nat → Nat → Option Nat} {tw en : Nat} (h : Lay K R tw en) : R 22 1 = some 24 := h.2.1 (22, 1, 24) (by decide)
theorem rd_22_2 {K : AK} {R : Nat → Nat → Option Nat} {tw en : Nat} (h : Lay K R tw en) : R 22 2 = some 25 := h.2.1 (22, 2, 25) (by decide)
theorem rd_22_3 {K : AK} {R : Nat → Nat → Option Nat} {tw en : Nat} (h : Lay K R tw en) : R 22 3 = some 26 := h.2.1 (22, 3, 26) (by decide)
theorem rd_22_4 {K : AK} {R : Nat → Nat → Option Nat} {tw en : Nat} (h : Lay K R tw en) : R 22 4 = some 27 := h.2.1 (22, 4, 27) (by decide)
theorem rd_22_5 {K : AK} {R : Nat → Nat → Option Nat} {tw en : Nat} (h : Lay K R tw en) : R 22 5 = some 28 := h.2.1 (22, 5, 28) (by decide)
theorem rd_22_6 {K : AK} {R : Nat → Nat → Option Nat} {tw en : Nat} (h : Lay K R tw en) : R 22 6 = some 29 := h.2.1 (22, 6, 29) (by decide)
theorem rd_22_7 {K : AK} {R : Nat → Nat → Option Nat} {tw en : Nat} (h : Lay K R tw en) : R 22 7 = some 30 := h.2.1 (22, 7, 30) (by decide)
theorem rd_22_8 {K : AK} {R : Nat → Nat → Option Nat} {tw en : Nat} (h : Lay K R tw en) : R 22 8 = some 31 := h.2.1 (22, 8, 31) (by decide)
theorem rd_22_9 {K : AK} {R : Nat → Nat → Option Nat} {tw en : Nat} (h : Lay K R tw en) : R 22 9 = some 32 := h.2.1 (22, 9, 32) (by decide)
theorem rd_22_10 {K : AK} {R : Nat → Nat → Option Nat} {tw en : Nat} (h : Lay K R tw en) : R 22 10 = some 33 := h.2.1 (22, 10, 33) (by decide)
theorem rd_22_11 {K : AK} {R : Nat → Nat → Option Nat} {tw en : Nat} (h : Lay K R tw en) : R 22 11 = some 34 := h.2.1 (22, 11, 34) (by decide)
theorem rd_22_12 {K : AK} {R : Nat → Nat → Option Nat} {tw en : Nat} (h : Lay K R tw en) : R 22 12 = some 35 := h.2.1 (22, 12, 35) (by decide)
theorem rd_22_13 {K : AK} {R : Nat → Nat → Option Nat} {tw en : Nat} (h : Lay K R tw en) : R 22 13 = some 43 := h.2.1 (22, 13, 43) (by decide)
theorem rd_22_14 {K : AK} {R : Nat → Nat → Option Nat} {tw en : Nat} (h : Lay K R tw en) : R 22 14 = some 44 := h.2.1 (22, 14, 44) (by decide)
theorem rd_22_15 {K : AK} {R : Nat → Nat → Option Nat} {tw en : Nat} (h : Lay K R tw en) : R 22 15 = some 45 := h.2.1 (22, 15, 45) (by decide)
theorem rd_22_16 {K : AK} {R : Nat → Nat → Option Nat} {tw en : Nat} (h : Lay K R tw en) : R 22 16 = some 46 := h.2.1 (22, 16, 46) (by decide)
theorem rd_35_0 {K : AK} {R : Nat → Nat → Option Nat} {tw en : Nat} (h : Lay K R tw en) : R 35 0 = some 36 := h.2.1 (35, 0, 36) (by decide)
theorem rd_35_1 {K : AK} {R : Nat → Nat → Option Nat} {tw en : Nat} (h : Lay K R tw en) : R 35 1 = some 37 := h.2.1 (35, 1, 37) (by decide)
theorem rd_35_2 {K : AK} {R : Nat → Nat → Option Nat} {tw en : Nat} (h : Lay K R tw en) : R 35 2 = some 38 := h.2.1 (35, 2, 38) (by decide)
theorem rd_35_3 {K : AK} {R : Nat → Nat → Option Nat} {tw en : Nat} (h : Lay K R tw en) : R 35 3 = some 39 := h.2.1 (35, 3, 39) (by decide)
theorem rd_35_4 {K : AK} {R : Nat → Nat → Option Nat} {tw en : Nat} (h : Lay K R tw en) : R 35 4 = some 40 := h.2.1 (35, 4, 40) (by decide)
theorem rd_35_5 {K : AK} {R : Nat → Nat → Option Nat} {tw en : Nat} (h : Lay K R tw en) : R 35 5 = some 41 := h.2.1 (35, 5, 41) (by decide)
theorem rd_35_6 {K : AK} {R : Nat → Nat → Option Nat} {tw en : Nat} (h : Lay K R tw en) : R 35 6 = some 42 := h.2.1 (35, 6, 42) (by decide)
theorem rd_47_0 {K : AK} {R : Nat → Nat → Option Nat} {tw en : Nat} (h : Lay K R tw en) : R 47 0 = some 48 := h.2.1 (47, 0, 48) (by decide)
theorem rd_47_1 {K : AK} {R : Nat → Nat → Option Nat} {tw en : Nat} (h : Lay K R tw en) : R 47 1 = some 49 := h.2.1 (47, 1, 49) (by decide)
theorem rd_47_2 {K : AK} {R : Nat → Nat → Option Nat} {tw en : Nat} (h : Lay K R tw en) : R 47 2 = some 50 := h.2.1 (47, 2, 50) (by decide)
theorem rd_47_3 {K : AK} {R : Nat → Nat → Option Nat} {tw en : Nat} (h : Lay K R tw en) : R 47 3 = some 51 := h.2.1 (47, 3, 51) (by decide)
theorem rd_47_4 {K : AK} {R : Nat → Nat → Option Nat} {tw en : Nat} (h : Lay K R tw en) : R 47 4 = some 52 := h.2.1 (47, 4, 52) (by decide)
theorem rd_47_5 {K : AK} {R : Nat → Nat → Option Nat} {tw en : Nat} (h : Lay K R tw en) : R 47 5 = some 53 := h.2.1 (47, 5, 53) (by decide)
theorem rd_47_6 {K : AK} {R : Nat → Nat → Option Nat} {tw en : Nat} (h : Lay K R tw en) : R 47 6 = some 54 := h.2.1 (47, 6, 54) (by decide)
theorem rd_47_7 {K : AK} {R : Nat → Nat → Option Nat} {tw en : Nat} (h : Lay K R tw en) : R 47 7 = some 55 := h.2.1 (47, 7, 55) (by decide)
theorem rd_47_8 {K : AK} {R : Nat → Nat → Option Nat} {tw en : Nat} (h : Lay K R tw en) : R 47 8 = some 56 := h.2.1 (47, 8, 56) (by decide)
theorem rd_47_9 {K : AK} {R : Nat → Nat → Option Nat} {tw en : Nat} (h : Lay K R tw en) : R 47 9 = some 57 := h.2.1 (47, 9, 57) (by decide)
theorem rd_47_10 {K : AK} {R : Nat → Nat → Option Nat} {tw en : Nat} (h : Lay K R tw en) : R 47 10 = some 58 := h.2.1 (47, 10, 58) (by decide)
theorem rd_47_11 {K : AK} {R : Nat → Nat → Option Nat} {tw en : Nat} (h : Lay K R tw en) : R 47 11 = some 59 := h.2.1 (47, 11, 59) (by decide)
theorem rd_47_12 {K : AK} {R : Nat → Nat → Option Nat} {tw en : Nat} (h : Lay K R tw en) : R 47 12 = some 60 := h.2.1 (47, 12, 60) (by decide)
theorem rd_47_13 {K : AK} {R : Nat → Nat → Option Nat} {tw en : Nat} (h : Lay K R tw en) : R 47 13 = some 68 := h.2.1 (47, 13, 68) (by decide)
theorem rd_47_14 {K : AK} {R : Nat → Nat → Option Nat} {tw en : Nat} (h : Lay K R tw en) : R 47 14 = some 69 := h.2.1 (47, 14, 69) (by decide)
theorem rd_47_15 {K : AK} {R : Nat → Nat → Option Nat} {tw en : Nat} (h : Lay K R tw en) : R 47 15 = some 70 := h.2.1 (47, 15, 70) (by decide)
theorem rd_47_16 {K : AK} {R : Nat → Nat → Option Nat} {tw en : Nat} (h : Lay K R tw en) : R 47 16 = some 71 := h.2.1 (47, 16, 71) (by decide)
theorem rd_60_0 {K : AK} {R : Nat → Nat → Option Nat} {tw en : Nat} (h : Lay K R tw en) : R 60 0 = some 61 := h.2.1 (60, 0, 61) (by decide)
theorem rd_60_1 {K : AK} {R : Nat → Nat → Option Nat} {tw en : Nat} (h : Lay K R tw en) : R 60 1 = some 62 := h.2.1 (60, 1, 62) (by decide)
theorem rd_60_2 {K : AK} {R : Nat → Nat → Option Nat} {tw en : Nat} (h : Lay K R tw en) : R 60 2 = some 63 := h.2.1 (60, 2, 63) (by decide)
theorem rd_60_3 {K : AK} {R : Nat → Nat → Option Nat} {tw en : Nat} (h : Lay K R tw en) : R 60 3 = some 64 := h.2.1 (60, 3, 64) (by decide)
theorem rd_60_4 {K : AK} {R : Nat → Nat → Option Nat} {tw en : Nat} (h : Lay K R tw en) : R 60 4 = some 65 := h.2.1 (60, 4, 65) (by decide)
theorem rd_60_5 {K : AK} {R : Nat → Nat → Option Nat} {tw en : Nat} (h : Lay K R tw en) : R 60 5 = some 66 := h.2.1 (60, 5, 66) (by decide)
theorem rd_60_6 {K : AK} {R : Nat → Nat → Option Nat} {tw en : Nat} (h : Lay K R tw en) : R 60 6 = some 67 := h.2.1 (60, 6, 67) (by decide)
theorem rd_72_0 {K : AK} {R : Nat → Nat → Option Nat} {tw en : Nat} (h : Lay K R tw en) : R 72 0 = some 73 := h.2.1 (72, 0, 73) (by decide)
theorem rd_72_2 {K : AK} {R : Nat → Nat → Option Nat} {tw en : Nat} (h : Lay K R tw en) : R 72 2 = some 74 := h.2.1 (72, 2, 74) (by decide)
theorem rd_72_3 {K : AK} {R : Nat → Nat → Option Nat} {tw en : Nat} (h : Lay K R tw en) : R 72 3 = some 75 := h.2.1 (72, 3, 75) (by decide)
theorem rd_76_0 {K : AK} {R : Nat → Nat → Option Nat} {tw en : Nat} (h : Lay K R tw en) : R 76 0 = some 77 := h.2.1 (76, 0, 77) (by decide)
theorem rd_76_1 {K : AK} {R : Nat → Nat → Option Nat} {tw en : Nat} (h : Lay K R tw en) : R 76 1 = some 79 := h.2.1 (76, 1, 79) (by decide)
theorem rd_76_2 {K : AK} {R : Nat → Nat → Option Nat} {tw en : Nat} (h : Lay K R tw en) : R 76 2 = some 80 := h.2.1 (76, 2, 80) (by decide)
theorem rd_76_3 {K : AK} {R : Nat → Nat → Option Nat} {tw en : Nat} (h : Lay K R tw en) : R 76 3 = some 81 := h.2.1 (76, 3, 81) (by decide)
theorem rd_77_0 {K : AK} {R : Nat → Nat → Option Nat} {tw en : Nat} (h : Lay K R tw en) : R 77 0 = some 78 := h.2.1 (77, 0, 78) (by decide)
theorem rd_82_0 {K : AK} {R : Nat → Nat → Option Nat} {tw en : Nat} (h : Lay K R tw en) : R 82 0 = some 83 := h.2.1 (82, 0, 83) (by decide)
theorem rd_82_1 {K : AK} {R : Nat → Nat → Option Nat} {tw en : Nat} (h : Lay K R tw en) : R 82 1 = some 85 := h.2.1 (82, 1, 85) (by decide)
theorem rd_82_2 {K : AK} {R : Nat → Nat → Option Nat} {tw en : Nat} (h : Lay K R tw en) : R 82 2 = some 86 := h.2.1 (82, 2, 86) (by decide)
theorem rd_82_3 {K : AK} {R : Nat → Nat → Option Nat} {tw en : Nat} (h : Lay K R tw en) : R 82 3 = some 87 := h.2.1 (82, 3, 87) (by decide)
theorem rd_83_0 {K : AK} {R : Nat → Nat → Option Nat} {tw en : Nat} (h : Lay K R tw en) : R 83 0 = some 84 := h.2.1 (83, 0, 84) (by decide)
theorem rd_88_0 {K : AK} {R : Nat → Nat → Option Nat} {tw en : Nat} (h : Lay K R tw en) : R 88 0 = some 89 := h.2.1 (88, 0, 89) (by decide)
theorem rd_92_0 {K : AK} {R : Nat → Nat → Option Nat} {tw en : Nat} (h : Lay K R tw en) : R 92 0 = some 93 := h.2.1 (92, 0, 93) (by decide)
theorem rd_93_0 {K : AK} {R : Nat → Nat → Option Nat} {tw en : Nat} (h : Lay K R tw en) : R 93 0 = some 94 := h.2.1 (93, 0, 94) (by decide)
theorem rd_95_1 {K : AK} {R : Nat → Nat → Option Nat} {tw en : Nat} (h : Lay K R tw en) : R 95 1 = some 96 := h.2.1 (95, 1, 96) (by decide)
theorem rd_95_3 {K : AK} {R : Nat → Nat → Option Nat} {tw en : Nat} (h : Lay K R tw en) : R 95 3 = some 97 := h.2.1 (95, 3, 97) (by decide)
theorem rd_95_5 {K : AK} {R : Nat → Nat → Option Nat} {tw en : Nat} (h : Lay K R tw en) : R 95 5 = some 98 := h.2.1 (95, 5, 98) (by decide)
theorem rd_95_6 {K : AK} {R : Nat → Nat → Option Nat} {tw en : Nat} (h : Lay K R tw en) : R 95 6 = some 99 := h.2.1 (95, 6, 99) (by decide)
theorem rd_95_7 {K : AK} {R : Nat → Nat → Option Nat} {tw en : Nat} (h : Lay K R tw en) : R 95 7 = some 100 := h.2.1 (95, 7, 100) (by decide)
theorem rd_95_8 {K : AK} {R : Nat → Nat → Option Nat} {tw en : Nat} (h : Lay K R tw en) : R 95 8 = some 101 := h.2.1 (95, 8, 101) (by decide)
theorem rd_95_9 {K : AK} {R : Nat → Nat → Option Nat} {tw en : Nat} (h : Lay K R tw en) : R 95 9 = some 102 := h.2.1 (95, 9, 102) (by decide)
theorem rd_95_21 {K : AK} {R : Nat → Nat → Option Nat} {tw en : Nat} (h : Lay K R tw en) : R 95 21 = some 103 := h.2.1 (95, 21, 103) (by decide)
theorem rd_95_22 {K : AK} {R : Nat → Nat → Option Nat} {tw en : Nat} (h : Lay K R tw en) : R 95 22 = some 104 := h.2.1 (95, 22, 104) (by decide)
theorem rd_95_23 {K : AK} {R : Nat → Nat → Option Nat} {tw en : Nat} (h : Lay K R tw en) : R 95 23 = some 105 := h.2.1 (95, 23, 105) (by decide)
theorem rd_95_24 {K : AK} {R : Nat → Nat → Option Nat} {tw en : Nat} (h : Lay K R tw en) : R 95 24 = some 106 := h.2.1 (95, 24, 106) (by decide)
theorem rd_95_25 {K : AK} {R : Nat → Nat → Option Nat} {tw en : Nat} (h : Lay K R tw en) : R 95 25 = some 107 := h.2.1 (95, 25, 107) (by decide)
theorem rd_95_26 {K : AK} {R : Nat → Nat → Option Nat} {tw en : Nat} (h : Lay K R tw en) : R 95 26 = some 108 := h.2.1 (95, 26, 108) (by decide)
theorem rd_95_27 {K : AK} {R : Nat → Nat → Option Nat} {tw en : Nat} (h : Lay K R tw en) : R 95 27 = some 109 := h.2.1 (95, 27, 109) (by decide)
theorem rd_95_28 {K : AK} {R : Nat → Nat → Option Nat} {tw en : Nat} (h : Lay K R tw en) : R 95 28 = some 110 := h.2.1 (95, 28, 110) (by decide)
theorem rd_95_29 {K : AK} {R : Nat → Nat → Option Nat} {tw en : Nat} (h : Lay K R tw en) : R 95 29 = some 111 := h.2.1 (95, 29, 111) (by decide)
theorem rd_95_30 {K : AK} {R : Nat → Nat → Option Nat} {tw en : Nat} (h : Lay K R tw en) : R 95 30 = some 112 := h.2.1 (95, 30, 112) (by decide)
theorem rd_95_31 {K : AK} {R : Nat → Nat → Option Nat} {tw en : Nat} (h : Lay K R tw en) : R 95 31 = some 113 := h.2.1 (95, 31, 113) (by decide)
theorem rd_95_32 {K : AK} {R : Nat → Nat → Option Nat} {tw en : Nat} (h : Lay K R tw en) : R 95 32 = some 114 := h.2.1 (95, 32, 114) (by decide)
theorem rd_95_33 {K : AK} {R : Nat → Nat → Option Nat} {tw en : Nat} (h : Lay K R tw en) : R 95 33 = some 115 := h.2.1 (95, 33, 115) (by decide)
theorem rd_95_34 {K : AK} {R : Nat → Nat → Option Nat} {tw en : Nat} (h : Lay K R tw en) : R 95 34 = some 116 := h.2.1 (95, 34, 116) (by decide)
theorem rd_95_35 {K : AK} {R : Nat → Nat → Option Nat} {tw en : Nat} (h : Lay K R tw en) : R 95 35 = some 117 := h.2.1 (95, 35, 117) (by decide)
theorem rd_95_36 {K : AK} {R : Nat → Nat → Option Nat} {tw en : Nat} (h : Lay K R tw en) : R 95 36 = some 118 := h.2.1 (95, 36, 118) (by decide)
theorem rd_95_37 {K : AK} {R : Nat → Nat → Option Nat} {tw en : Nat} (h : Lay K R tw en) : R 95 37 = some 119 := h.2.1 (95, 37, 119) (by decide)
theorem rd_95_38 {K : AK} {R : Nat → Nat → Option Nat} {tw en : Nat} (h : Lay K R tw en) : R 95 38 = some 120 := h.2.1 (95, 38, 120) (by decide)
theorem rd_95_39 {K : AK} {R : Nat → Nat → Option Nat} {tw en : Nat} (h : Lay K R tw en) : R 95 39 = some 121 := h.2.1 (95, 39, 121) (by decide)
theorem rd_95_40 {K : AK} {R : Nat → Nat → Option Nat} {tw en : Nat} (h : Lay K R tw en) : R 95 40 = some 122 := h.2.1 (95, 40, 122) (by decide)
theorem rd_95_41 {K : AK} {R : Nat → Nat → Option Nat} {tw en : Nat} (h : Lay K R tw en) : R 95 41 = some 123 := h.2.1 (95, 41, 123) (by decide)
theorem rd_95_42 {K : AK} {R : Nat → Nat → Option Nat} {tw en : Nat} (h : Lay K R tw en) : R 95 42 = some 124 := h.2.1 (95, 42, 124) (by decide)
theorem rd_95_43 {K : AK} {R : Nat → Nat → Option Nat} {tw en : Nat} (h : Lay K R tw en) : R 95 43 = some 125 := h.2.1 (95, 43, 125) (by decide)
theorem rd_95_44 {K : AK} {R : Nat → Nat → Option Nat} {tw en : Nat} (h : Lay K R tw en) : R 95 44 = some 126 := h.2.1 (95, 44, 126) (by decide)
theorem rd_95_45 {K : AK} {R : Nat → Nat → Option Nat} {tw en : Nat} (h : Lay K R tw en) : R 95 45 = some 127 := h.2.1 (95, 45, 127) (by decide)
theorem rd_95_47 {K : AK} {R : Nat → Nat → Option Nat} {tw en : Nat} (h : Lay K R tw en) : R 95 47 = some 128 := h.2.1 (95, 47, 128) (by decide)
theorem rd_95_48 {K : AK} {R : Nat → Nat → Option Nat} {tw en : Nat} (h : Lay K R tw en) : R 95 48 = some 129 := h.2.1 (95, 48, 129) (by decide)
theorem rd_95_49 {K : AK} {R : Nat → Nat → Option Nat} {tw en : Nat} (h : Lay K R tw en) : R 95 49 = some 130 := h.2.1 (95, 49, 130) (by decide)
theorem rd_95_50 {K : AK} {R : Nat → Nat → Option Nat} {tw en : Nat} (h : Lay K R tw en) : R 95 50 = some 131 := h.2.1 (95, 50, 131) (by decide)
theorem rd_95_51 {K : AK} {R : Nat → Nat → Option Nat} {tw en : Nat} (h : Lay K R tw en) : R 95 51 = some 132 := h.2.1 (95, 51, 132) (by decide)
theorem rd_95_52 {K : AK} {R : Nat → Nat → Option Nat} {tw en : Nat} (h : Lay K R tw en) : R 95 52 = some 133 := h.2.1 (95, 52, 133) (by decide)
theorem rd_95_54 {K : AK} {R : Nat → Nat → Option Nat} {tw en : Nat} (h : Lay K R tw en) : R 95 54 = some 134 := h.2.1 (95, 54, 134) (by decide)
theorem rd_95_55 {K : AK} {R : Nat → Nat → Option Nat} {tw en : Nat} (h : Lay K R tw en) : R 95 55 = some 135 := h.2.1 (95, 55, 135) (by decide)
theorem rd_95_56 {K : AK} {R : Nat → Nat → Option Nat} {tw en : Nat} (h : Lay K R tw en) : R 95 56 = some 136 := h.2.1 (95, 56, 136) (by decide)
theorem rd_95_58 {K : AK} {R : Nat → Nat → Option Nat} {tw en : Nat} (h : Lay K R tw en) : R 95 58 = some 137 := h.2.1 (95, 58, 137) (by decide)
theorem rd_95_59 {K : AK} {R : Nat → Nat → Option Nat} {tw en : Nat} (h : Lay K R tw en) : R 95 59 = some 138 := h.2.1 (95, 59, 138) (by decide)
theorem rd_95_63 {K : AK} {R : Nat → Nat → Option Nat} {tw en : Nat} (h : Lay K R tw en) : R 95 63 = some 139 := h.2.1 (95, 63, 139) (by decide)
theorem rd_95_64 {K : AK} {R : Nat → Nat → Option Nat} {tw en : Nat} (h : Lay K R tw en) : R 95 64 = some 140 := h.2.1 (95, 64, 140) (by decide)
theorem rd_95_65 {K : AK} {R : Nat → Nat → Option Nat} {tw en : Nat} (h : Lay K R tw en) : R 95 65 = some 141 := h.2.1 (95, 65, 141) (by decide)
theorem rd_95_66 {K : AK} {R : Nat → Nat → Option Nat} {tw en : Nat} (h : Lay K R tw en) : R 95 66 = some 142 := h.2.1 (95, 66, 142) (by decide)
theorem rd_95_67 {K : AK} {R : Nat → Nat → Option Nat} {tw en : Nat} (h : Lay K R tw en) : R 95 67 = some 143 := h.2.1 (95, 67, 143) (by decide)
theorem rd_95_68 {K : AK} {R : Nat → Nat → Option Nat} {tw en : Nat} (h : Lay K R tw en) : R 95 68 = some 144 := h.2.1 (95, 68, 144) (by decide)
theorem rd_95_69 {K : AK} {R : Nat → Nat → Option Nat} {tw en : Nat} (h : Lay K R tw en) : R 95 69 = some 145 := h.2.1 (95, 69, 145) (by decide)
theorem rd_95_70 {K : AK} {R : Nat → Nat → Option Nat} {tw en : Nat} (h : Lay K R tw en) : R 95 70 = some 146 := h.2.1 (95, 70, 146) (by decide)
theorem rd_95_71 {K : AK} {R : Nat → Nat → Option Nat} {tw en : Nat} (h : Lay K R tw en) : R 95 71 = some 147 := h.2.1 (95, 71, 147) (by decide)
theorem rd_95_74 {K : AK} {R : Nat → Nat → Option Nat} {tw en : Nat} (h : Lay K R tw en) : R 95 74 = some 148 := h.2.1 (95, 74, 148) (by decide)
theorem rd_95_75 {K : AK} {R : Nat → Nat → Option Nat} {tw en : Nat} (h : Lay K R tw en) : R 95 75 = some 149 := h.2.1 (95, 75, 149) (by decide)
theorem rd_95_77 {K : AK} {R : Nat → Nat → Option Nat} {tw en : Nat} (h : Lay K R tw en) : R 95 77 = some 150 := h.2.1 (95, 77, 150) (by decide)
theorem rd_95_78 {K : AK} {R : Nat → Nat → Option Nat} {tw en : Nat} (h : Lay K R tw en) : R 95 78 = some 151 := h.2.1 (95, 78, 151) (by decide)
theorem rd_95_79 {K : AK} {R : Nat → Nat → Option Nat} {tw en : Nat} (h : Lay K R tw en) : R 95 79 = some 152 := h.2.1 (95, 79, 152) (by decide)
theorem rd_95_80 {K : AK} {R : Nat → Nat → Option Nat} {tw en : Nat} (h : Lay K R tw en) : R 95 80 = some 153 := h.2.1 (95, 80, 153) (by decide)
theorem rd_95_81 {K : AK} {R : Nat → Nat → Option Nat} {tw en : Nat} (h : Lay K R tw en) : R 95 81 = some 154 := h.2.1 (95, 81, 154) (by decide)
theorem rd_95_88 {K : AK} {R : Nat → Nat → Option Nat} {tw en : Nat} (h : Lay K R tw en) : R 95 88 = some 155 := h.2.1 (95, 88, 155) (by decide)
theorem rd_95_89 {K : AK} {R : Nat → Nat → Option Nat} {tw en : Nat} (h : Lay K R tw en) : R 95 89 = some 156 := h.2.1 (95, 89, 156) (by decide)
theorem rd_95_90 {K : AK} {R : Nat → Nat → Option Nat} {tw en : Nat} (h : Lay K R tw en) : R 95 90 = some 157 := h.2.1 (95, 90, 157) (by decide)
theorem rd_95_91 {K : AK} {R : Nat → Nat → Option Nat} {tw en : Nat} (h : Lay K R tw en) : R 95 91 = some 158 := h.2.1 (95, 91, 158) (by decide)
theorem rd_95_92 {K : AK} {R : Nat → Nat → Option Nat} {tw en : Nat} (h : Lay K R tw en) : R 95 92 = some 159 := h.2.1 (95, 92, 159) (by decide)
theorem rd_95_93 {K : AK} {R : Nat → Nat → Option Nat} {tw en : Nat} (h : Lay K R tw en) : R 95 93 = some 160 := h.2.1 (95, 93, 160) (by decide)
theorem rd_told {K : AK} {R : Nat → Nat → Option Nat} {tw en : Nat} (h : Lay K R tw en) : R 8 6 = some tw := h.2.2.1
theorem rd_spare {K : AK} {R : Nat → Nat → Option Nat} {tw en : Nat} (h : Lay K R tw en) : R 8 7 = some (69 - tw) := h.2.2.2.1
theorem layW_22 {K : AK} {R : Nat → Nat → Option Nat} {tw en : Nat} (h : Lay K R tw en) : LW K R 22 := ⟨fun i hi => (h.1 (22 + i) (by omega) (by omega)).trans ((by decide : ∀ i, i < 25 → KAll[22 + i]? = KsW[i]?) i hi), fun q hq => h.2.1 (22 + q.1, q.2.1, 22 + q.2.2) ((by decide : ∀ q ∈ RsW, (22 + q.1, q.2.1, 22 + q.2.2) ∈ RAll) q hq), by decide⟩
theorem layW_47 {K : AK} {R : Nat → Nat → Option Nat} {tw en : Nat} (h : Lay K R tw en) : LW K R 47 := ⟨fun i hi => (h.1 (47 + i) (by omega) (by omega)).trans ((by decide : ∀ i, i < 25 → KAll[47 + i]? = KsW[i]?) i hi), fun q hq => h.2.1 (47 + q.1, q.2.1, 47 + q.2.2) ((by decide : ∀ q ∈ RsW, (47 + q.1, q.2.1, 47 + q.2.2) ∈ RAll) q hq), by decide⟩
theorem layC_76 {K : AK} {R : Nat → Nat → Option Nat} {tw en : Nat} (h : Lay K R tw en) : LC K R 76 := ⟨fun i hi => (h.1 (76 + i) (by omega) (by omega)).trans ((by decide : ∀ i, i < 6 → KAll[76 + i]? = KsC[i]?) i hi), fun q hq => h.2.1 (76 + q.1, q.2.1, 76 + q.2.2) ((by decide : ∀ q ∈ RsC, (76 + q.1, q.2.1, 76 + q.2.2) ∈ RAll) q hq), by decide⟩
theorem layC_82 {K : AK} {R : Nat → Nat → Option Nat} {tw en : Nat} (h : Lay K R tw en) : LC K R 82 := ⟨fun i hi => (h.1 (82 + i) (by omega) (by omega)).trans ((by decide : ∀ i, i < 6 → KAll[82 + i]? = KsC[i]?) i hi), fun q hq => h.2.1 (82 + q.1, q.2.1, 82 + q.2.2) ((by decide : ∀ q ∈ RsC, (82 + q.1, q.2.1, 82 + q.2.2) ∈ RAll) q hq), by decide⟩
theorem layN_77 {K : AK} {R : Nat → Nat → Option Nat} {tw en : Nat} (h : Lay K R tw en) : LN K R 77 := ⟨fun i hi => (h.1 (77 + i) (by omega) (by omega)).trans ((by decide : ∀ i, i < 2 → KAll[77 + i]? = KsN[i]?) i hi), fun q hq => h.2.1 (77 + q.1, q.2.1, 77 + q.2.2) ((by decide : ∀ q ∈ RsN, (77 + q.1, q.2.1, 77 + q.2.2) ∈ RAll) q hq), by decide⟩
theorem layN_83 {K : AK} {R : Nat → Nat → Option Nat} {tw en : Nat} (h : Lay K R tw en) : LN K R 83 := ⟨fun i hi => (h.1 (83 + i) (by omega) (by omega)).trans ((by decide : ∀ i, i < 2 → KAll[83 + i]? = KsN[i]?) i hi), fun q hq => h.2.1 (83 + q.1, q.2.1, 83 + q.2.2) ((by decide : ∀ q ∈ RsN, (83 + q.1, q.2.1, 83 + q.2.2) ∈ RAll) q hq), by decide⟩
theorem layN_93 {K : AK} {R : Nat → Nat → Option Nat} {tw en : Nat} (h : Lay K R tw en) : LN K R 93 := ⟨fun i hi => (h.1 (93 + i) (by omega) (by omega)).trans ((by decide : ∀ i, i < 2 → KAll[93 + i]? = KsN[i]?) i hi), fun q hq => h.2.1 (93 + q.1, q.2.1, 93 + q.2.2) ((by decide : ∀ q ∈ RsN, (93 + q.1, q.2.1, 93 + q.2.2) ∈ RAll) q hq), by decide⟩
theorem layL_35 {K : AK} {R : Nat → Nat → Option Nat} {tw en : Nat} (h : Lay K R tw en) : LL K R 35 := ⟨fun i hi => (h.1 (35 + i) (by omega) (by omega)).trans ((by decide : ∀ i, i < 8 → KAll[35 + i]? = KsL[i]?) i hi), fun q hq => h.2.1 (35 + q.1, q.2.1, 35 + q.2.2) ((by decide : ∀ q ∈ RsL, (35 + q.1, q.2.1, 35 + q.2.2) ∈ RAll) q hq), by decide⟩
theorem layL_60 {K : AK} {R : Nat → Nat → Option Nat} {tw en : Nat} (h : Lay K R tw en) : LL K R 60 := ⟨fun i hi => (h.1 (60 + i) (by omega) (by omega)).trans ((by decide : ∀ i, i < 8 → KAll[60 + i]? = KsL[i]?) i hi), fun q hq => h.2.1 (60 + q.1, q.2.1, 60 + q.2.2) ((by decide : ∀ q ∈ RsL, (60 + q.1, q.2.1, 60 + q.2.2) ∈ RAll) q hq), by decide⟩
theorem layT {K : AK} {R : Nat → Nat → Option Nat} {tw en : Nat} (h : Lay K R tw en) : LW K R tw := by
  rcases h.2.2.2.2.1 with e | e
  · subst e; exact layW_22 h
  · subst e; exact layW_47 h
theorem LW_LL {K : AK} {R : Nat → Nat → Option Nat} {w : Nat} (h : LW K R w) : LL K R (w + 13) := ⟨fun i hi => by rw [Nat.add_assoc]; exact (h.1 (13 + i) (by omega)).trans ((by decide : ∀ i, i < 8 → KsW[13 + i]? = KsL[i]?) i hi), fun q hq => by
  have e := h.2.1 (13 + q.1, q.2.1, 13 + q.2.2) ((by decide : ∀ q ∈ RsL, (13 + q.1, q.2.1, 13 + q.2.2) ∈ RsW) q hq)
  rw [Nat.add_assoc, Nat.add_assoc]
  exact e, Nat.le_trans h.2.2 (Nat.le_add_right _ _)⟩
theorem LC_LN {K : AK} {R : Nat → Nat → Option Nat} {c : Nat} (h : LC K R c) : LN K R (c + 1) := ⟨fun i hi => by rw [Nat.add_assoc]; exact (h.1 (1 + i) (by omega)).trans ((by decide : ∀ i, i < 2 → KsC[1 + i]? = KsN[i]?) i hi), fun q hq => by
  have e := h.2.1 (1 + q.1, q.2.1, 1 + q.2.2) ((by decide : ∀ q ∈ RsN, (1 + q.1, q.2.1, 1 + q.2.2) ∈ RsC) q hq)
  rw [Nat.add_assoc, Nat.add_assoc]
  exact e, Nat.le_trans h.2.2 (Nat.le_add_right _ _)⟩
def upI (S : ST) (t j : Nat) (v : Int32) : ST := (upf S.1 t (upf (S.1 t) j v), S.2)
def upL (S : ST) (t j : Nat) (v : Int64) : ST := (S.1, upf S.2 t (upf (S.2 t) j v))
def rd {α : Type} (g : Nat → α) (len : Nat) (i : Int32) : Option α := if 0 ≤ i ∧ i.toNatClampNeg < len then some (g i.toNatClampNeg) else none
def wr (S : ST) (a len : Nat) (i v : Int32) : Option ST := if 0 ≤ i ∧ i.toNatClampNeg < len then some (upI S a i.toNatClampNeg v) else none
def wrl (S : ST) (a len : Nat) (i : Int32) (v : Int64) : Option ST := if 0 ≤ i ∧ i.toNatClampNeg < len then some (upL S a i.toNatClampNeg v) else none
def setC (S : ST) (a : Nat) (g : Nat → Int32) : ST := (upf S.1 a g, S.2)
def fillS (S : ST) (a len : Nat) (v : Int32) : ST := setC S a (fun j => if j < len then v else S.1 a j)
def cpS (S : ST) (a la : Nat) (sp : Int32) (b lb : Nat) (dp n : Int32) : Option ST := if 0 ≤ sp ∧ 0 ≤ dp ∧ 0 ≤ n ∧ sp.toNatClampNeg + n.toNatClampNeg ≤ la ∧ dp.toNatClampNeg + n.toNatClampNeg ≤ lb then some (setC S b (va_cpy (S.1 a) (S.1 b) sp.toNatClampNeg dp.toNatClampNeg n.toNatClampNeg)) else none
section ER
variable {K : AK} {R : Nat → Nat → Option Nat} {S : ST} {α β γ δ : Type} {o : β} {r : Option γ} {t a ci j len : Nat} {i v : Int32}
theorem eLeaf {x o : α} {θ : α → β} {b : β} (h : some x = some o) (e : b = θ x) : some b = some (θ o) := by cases h; rw [e]
theorem eGI {f : Int32 → Option γ} (hk : K[t]? = some (.inl ci)) (h8 : 8 ≤ t) (k : f (S.1 t j) = r) : (gI ci j (mkM K R S) t).bind f = r := by
  have e : gI ci j (mkM K R S) t = some (S.1 t j) := by simp [gI, mkM, hk, h8]
  rw [e]; exact k
theorem eGR {f : Nat → Option γ} (hk : K[t]? = some (.inl ci)) (h8 : 8 ≤ t) (hr : R t j = some a) (k : f a = r) : (gR ci j (mkM K R S) t).bind f = r := by
  have e : gR ci j (mkM K R S) t = some a := by simp [gR, mkM, hk, h8, hr]
  rw [e]; exact k
theorem ePI {f : AM → Option γ} {g : ST → Option β} (hk : K[t]? = some (.inl ci)) (h8 : 8 ≤ t) (h : lets (upI S t j v) g = some o) (k : ∀ S1, g S1 = some o → f (mkM K R S1) = r) : (pI ci j (mkM K R S) t v).bind f = r := by
  have e : pI ci j (mkM K R S) t v = some (mkM K R (upI S t j v)) := by simp [pI, mkM, hk, h8, setI, upI]
  rw [e]; exact k _ h
theorem ePZ {f : AM → Option γ} {g : ST → Option β} (hk : K[t]? = some (.inl ci)) (h8 : 8 ≤ t) (hz : v = 0 ∨ v = 1) (h : lets (upI S t j v) g = some o) (k : ∀ S1, g S1 = some o → f (mkM K R S1) = r) : (pZ ci j (mkM K R S) t v).bind f = r := by
  have e : pZ ci j (mkM K R S) t v = some (mkM K R (upI S t j v)) := by simp [pZ, mkM, hk, h8, setI, upI, hz]
  rw [e]; exact k _ h
theorem rdK_of {q : Nat} {ok : Nat → Bool} (hk : K[a]? = some (.inr (q, len))) (hq : ok q = true) (hi : 0 ≤ i ∧ i.toNatClampNeg < len) : rdK (mkM K R S) a i ok = true := by
  unfold rdK mkM
  simp only [hk]
  simp [hq, hi.1, hi.2]
theorem rd_some {g : Nat → α} {x : α} (h : rd g len i = some x) : (0 ≤ i ∧ i.toNatClampNeg < len) ∧ g i.toNatClampNeg = x := by
  unfold rd at h
  split at h
  · rename_i hc
    exact ⟨hc, Option.some.inj h⟩
  · cases h
theorem eRI {f : Int32 → Option γ} {g : Int32 → Option β} (hk : K[a]? = some (.inr (0, len))) (h : (rd (S.1 a) len i).bind g = some o) (k : ∀ x, g x = some o → f x = r) : (rdI (mkM K R S) a i).bind f = r := by
  obtain ⟨x, h1, h2⟩ := bind_some' h
  obtain ⟨hc, rfl⟩ := rd_some h1
  have e : rdI (mkM K R S) a i = some (S.1 a i.toNatClampNeg) := by unfold rdI; rw [if_pos (rdK_of hk rfl hc)]; rfl
  rw [e]; exact k _ h2
theorem eRB {f : Int32 → Option γ} {g : Int32 → Option β} (hk : K[a]? = some (.inr (1, len))) (h : (rd (S.1 a) len i).bind g = some o) (k : ∀ x, g x = some o → f x = r) : (rdB (mkM K R S) a i).bind f = r := by
  obtain ⟨x, h1, h2⟩ := bind_some' h
  obtain ⟨hc, rfl⟩ := rd_some h1
  have e : rdB (mkM K R S) a i = some (S.1 a i.toNatClampNeg) := by unfold rdB; rw [if_pos (rdK_of hk rfl hc)]; rfl
  rw [e]; exact k _ h2
theorem eRZ {f : Int32 → Option γ} {g : Int32 → Option β} (hk : K[a]? = some (.inr (3, len))) (h : (rd (S.1 a) len i).bind g = some o) (k : ∀ x, g x = some o → f x = r) : (rdB (mkM K R S) a i).bind f = r := by
  obtain ⟨x, h1, h2⟩ := bind_some' h
  obtain ⟨hc, rfl⟩ := rd_some h1
  have e : rdB (mkM K R S) a i = some (S.1 a i.toNatClampNeg) := by unfold rdB; rw [if_pos (rdK_of hk rfl hc)]; rfl
  rw [e]; exact k _ h2
theorem eRL {f : Int64 → Option γ} {g : Int64 → Option β} (hk : K[a]? = some (.inr (2, len))) (h8 : 8 ≤ a) (h : (rd (S.2 a) len i).bind g = some o) (k : ∀ x, g x = some o → f x = r) : (rdL (mkM K R S) a i).bind f = r := by
  obtain ⟨x, h1, h2⟩ := bind_some' h
  obtain ⟨hc, rfl⟩ := rd_some h1
  have e : rdL (mkM K R S) a i = some (S.2 a i.toNatClampNeg) := by unfold rdL; rw [if_pos ⟨rdK_of hk rfl hc, h8⟩]; rfl
  rw [e]; exact k _ h2
theorem wr_some {S1 : ST} (h : wr S a len i v = some S1) : (0 ≤ i ∧ i.toNatClampNeg < len) ∧ upI S a i.toNatClampNeg v = S1 := by
  unfold wr at h
  split at h
  · rename_i hc
    exact ⟨hc, Option.some.inj h⟩
  · cases h
theorem wrl_some {S1 : ST} {v : Int64} (h : wrl S a len i v = some S1) : (0 ≤ i ∧ i.toNatClampNeg < len) ∧ upL S a i.toNatClampNeg v = S1 := by
  unfold wrl at h
  split at h
  · rename_i hc
    exact ⟨hc, Option.some.inj h⟩
  · cases h
theorem eWI {f : AM → Option γ} {g : ST → Option β} (hk : K[a]? = some (.inr (0, len))) (h8 : 8 ≤ a) (h : (wr S a len i v).bind g = some o) (k : ∀ S1, g S1 = some o → f (mkM K R S1) = r) : (wrI (mkM K R S) a i v).bind f = r := by
  obtain ⟨x, h1, h2⟩ := bind_some' h
  obtain ⟨hc, rfl⟩ := wr_some h1
  have e : wrI (mkM K R S) a i v = some (mkM K R (upI S a i.toNatClampNeg v)) := by unfold wrI; rw [if_pos ⟨rdK_of hk rfl hc, h8⟩]; rfl
  rw [e]; exact k _ h2
theorem eWB {f : AM → Option γ} {g : ST → Option β} (hk : K[a]? = some (.inr (1, len))) (h8 : 8 ≤ a) (h : (wr S a len i v.toInt8.toInt32).bind g = some o) (k : ∀ S1, g S1 = some o → f (mkM K R S1) = r) : (wrB (mkM K R S) a i v).bind f = r := by
  obtain ⟨x, h1, h2⟩ := bind_some' h
  obtain ⟨hc, rfl⟩ := wr_some h1
  have e : wrB (mkM K R S) a i v = some (mkM K R (upI S a i.toNatClampNeg v.toInt8.toInt32)) := by unfold wrB; rw [if_pos ⟨rdK_of hk rfl hc, h8⟩]; rfl
  rw [e]; exact k _ h2
theorem eWZ {f : AM → Option γ} {g : ST → Option β} (hk : K[a]? = some (.inr (3, len))) (h8 : 8 ≤ a) (h : (wr S a len i (v &&& 1)).bind g = some o) (k : ∀ S1, g S1 = some o → f (mkM K R S1) = r) : (wrZ (mkM K R S) a i v).bind f = r := by
  obtain ⟨x, h1, h2⟩ := bind_some' h
  obtain ⟨hc, rfl⟩ := wr_some h1
  have e : wrZ (mkM K R S) a i v = some (mkM K R (upI S a i.toNatClampNeg (v &&& 1))) := by unfold wrZ; rw [if_pos ⟨rdK_of hk rfl hc, h8⟩]; rfl
  rw [e]; exact k _ h2
theorem eWL {f : AM → Option γ} {g : ST → Option β} {v : Int64} (hk : K[a]? = some (.inr (2, len))) (h8 : 8 ≤ a) (h : (wrl S a len i v).bind g = some o) (k : ∀ S1, g S1 = some o → f (mkM K R S1) = r) : (wrL (mkM K R S) a i v).bind f = r := by
  obtain ⟨x, h1, h2⟩ := bind_some' h
  obtain ⟨hc, rfl⟩ := wrl_some h1
  have e : wrL (mkM K R S) a i v = some (mkM K R (upL S a i.toNatClampNeg v)) := by unfold wrL; rw [if_pos ⟨rdK_of hk rfl hc, h8⟩]; rfl
  rw [e]; exact k _ h2
theorem eAL {f : Int32 → Option γ} {q : Nat} (hk : K[a]? = some (.inr (q, len))) (hq : q < 4) (k : f (Int32.ofNat len) = r) : (aln (mkM K R S) a).bind f = r := by
  have e : aln (mkM K R S) a = some (Int32.ofNat len) := by unfold aln mkM; simp only [hk]; rw [if_pos hq]
  rw [e]; exact k
theorem eIF {c : Prop} [Decidable c] {A B : Option β} {A' B' : Option γ} (h : (if c then A else B) = some o) (kt : c → A = some o → A' = r) (kf : ¬ c → B = some o → B' = r) : (if c then A' else B') = r := by
  by_cases q : c
  · rw [if_pos q] at h ⊢; exact kt q h
  · rw [if_neg q] at h ⊢; exact kf q h
theorem eJN {A : α} {A' : δ} {f : α → Option β} {f' : δ → Option γ} (J : α → δ → Prop) (h : jn A f = some o) (h1 : J A A') (h2 : ∀ j j', J j j' → f j = some o → f' j' = r) : jn A' f' = r := h2 A A' h1 h
theorem eLT {v : α} {f : α → Option β} {f' : α → Option γ} (h : lets v f = some o) (k : ∀ w, f w = some o → f' w = r) : lets v f' = r := k v h
theorem eGD {p : Prop} [Decidable p] {u : Option β} {u' : Option γ} (h : gd p u = some o) (k : p → u = some o → u' = r) : gd p u' = r := by
  unfold gd at h ⊢
  by_cases q : p
  · rw [if_pos q] at h ⊢; exact k q h
  · rw [if_neg q] at h; cases h
theorem eLP {σ σ' ρ ρ' : Type} {f : σ → Option (σ ⊕ ρ)} {f' : σ' → Option (σ' ⊕ ρ')} {g : ρ → Option β} {g' : ρ' → Option γ} {n : Nat} {s0 : σ} {s0' : σ'} (φ : σ → σ') (ψ : ρ → ρ') (h : (iter f n s0).bind g = some o) (hs : s0' = φ s0) (body : ∀ s x, f s = some x → f' (φ s) = some (Sum.map φ ψ x)) (rest : ∀ e, g e = some o → g' (ψ e) = r) : (iter f' n s0').bind g' = r := by
  subst hs
  obtain ⟨e, h1, h2⟩ := bind_some' h
  have key : ∀ n s, iter f n s = some e → iter f' n (φ s) = some (ψ e) := by
    intro n
    induction n with
    | zero => intro s h; cases h
    | succ n ih =>
      intro s h
      rw [iter] at h ⊢
      cases hf : f s with
      | none => rw [hf] at h; cases h
      | some x =>
        rw [hf] at h
        rw [body s x hf]
        cases x with
        | inl s' => exact ih s' h
        | inr e' => cases h; rfl
  rw [key n s0 h1]
  exact rest e h2
theorem eCP {f : AM → Option γ} {g : ST → Option β} {b la lb : Nat} {sp dp n : Int32} (ha : K[a]? = some (.inr (0, la))) (hb : K[b]? = some (.inr (0, lb))) (h8 : 8 ≤ a) (h8' : 8 ≤ b) (h : (cpS S a la sp b lb dp n).bind g = some o) (k : ∀ S1, g S1 = some o → f (mkM K R S1) = r) : (cpI (mkM K R S) a sp b dp n).bind f = r := by
  obtain ⟨x, h1, h2⟩ := bind_some' h
  unfold cpS at h1
  split at h1
  case isFalse => cases h1
  rename_i hc
  cases h1
  have e : cpI (mkM K R S) a sp b dp n = some (mkM K R (setC S b (va_cpy (S.1 a) (S.1 b) sp.toNatClampNeg dp.toNatClampNeg n.toNatClampNeg))) := by
    unfold cpI mkM
    simp only [ha, hb]
    rw [if_pos ⟨hc.1, hc.2.1, hc.2.2.1, hc.2.2.2.1, hc.2.2.2.2, h8, h8'⟩]
    rfl
  rw [e]; exact k _ h2
theorem eCV {f : α → Option γ} {g : α → Option β} {u u' : Option α} (hk : K[t]? = some (.inl ci)) (h8 : 8 ≤ t) (hc : ∀ v, u = some v → u' = some v) (h : u.bind g = some o) (k : ∀ v, g v = some o → f v = r) : (rcv ci (mkM K R S) t u').bind f = r := by
  obtain ⟨x, h1, h2⟩ := bind_some' h
  have e : rcv ci (mkM K R S) t u' = some x := by unfold rcv; rw [if_pos ⟨hk, h8⟩]; exact hc x h1
  rw [e]; exact k _ h2
theorem eCwV {f : AM → Option γ} {g : ST → Option β} {u : Option ST} {u' : Option AM} (hk : K[t]? = some (.inl ci)) (h8 : 8 ≤ t) (hc : ∀ v, u = some v → u' = some (mkM K R v)) (h : u.bind g = some o) (k : ∀ v, g v = some o → f (mkM K R v) = r) : (rcv ci (mkM K R S) t u').bind f = r := by
  obtain ⟨x, h1, h2⟩ := bind_some' h
  have e : rcv ci (mkM K R S) t u' = some (mkM K R x) := by unfold rcv; rw [if_pos ⟨hk, h8⟩]; exact hc x h1
  rw [e]; exact k _ h2
theorem eCwiV {f : α × AM → Option γ} {g : α × ST → Option β} {u : Option (α × ST)} {u' : Option (α × AM)} (hk : K[t]? = some (.inl ci)) (h8 : 8 ≤ t) (hc : ∀ v, u = some v → u' = some (v.1, mkM K R v.2)) (h : u.bind g = some o) (k : ∀ v, g v = some o → f (v.1, mkM K R v.2) = r) : (rcv ci (mkM K R S) t u').bind f = r := by
  obtain ⟨x, h1, h2⟩ := bind_some' h
  have e : rcv ci (mkM K R S) t u' = some (x.1, mkM K R x.2) := by unfold rcv; rw [if_pos ⟨hk, h8⟩]; exact hc x h1
  rw [e]; exact k _ h2
theorem eCwrV {f : Nat × AM → Option γ} {g : ST → Option β} {u : Option ST} {u' : Option (Nat × AM)} {c : Nat} (hk : K[t]? = some (.inl ci)) (h8 : 8 ≤ t) (hc : ∀ v, u = some v → u' = some (c, mkM K R v)) (h : u.bind g = some o) (k : ∀ v, g v = some o → f (c, mkM K R v) = r) : (rcv ci (mkM K R S) t u').bind f = r := by
  obtain ⟨x, h1, h2⟩ := bind_some' h
  have e : rcv ci (mkM K R S) t u' = some (c, mkM K R x) := by unfold rcv; rw [if_pos ⟨hk, h8⟩]; exact hc x h1
  rw [e]; exact k _ h2
theorem eCS {f : α → Option γ} {g : α → Option β} {u u' : Option α} (hc : ∀ v, u = some v → u' = some v) (h : u.bind g = some o) (k : ∀ v, g v = some o → f v = r) : u'.bind f = r := by
  obtain ⟨x, h1, h2⟩ := bind_some' h
  rw [hc x h1]; exact k _ h2
theorem eCwiS {f : α × AM → Option γ} {g : α × ST → Option β} {u : Option (α × ST)} {u' : Option (α × AM)} (hc : ∀ v, u = some v → u' = some (v.1, mkM K R v.2)) (h : u.bind g = some o) (k : ∀ v, g v = some o → f (v.1, mkM K R v.2) = r) : u'.bind f = r := by
  obtain ⟨x, h1, h2⟩ := bind_some' h
  rw [hc x h1]; exact k _ h2
end ER
/-- a loop that comes out behind k rounds, by its states -/
theorem iter_seq {σ ρ : Type} {f : σ → Option (σ ⊕ ρ)} (st : Nat → σ) (k : Nat) (e : ρ) (hs : ∀ i, i < k → f (st i) = some (.inl (st (i + 1)))) (he : f (st k) = some (.inr e)) : ∀ {n : Nat}, k < n → iter f n (st 0) = some e := by
  have key : ∀ d i n, i + d = k → d < n → iter f n (st i) = some e := by
    intro d
    induction d with
    | zero =>
      intro i n hi hn
      cases n with
      | zero => omega
      | succ n =>
        have hik : i = k := by omega
        subst hik
        rw [iter, he]; rfl
    | succ d ih =>
      intro i n hi hn
      cases n with
      | zero => omega
      | succ n =>
        rw [iter, hs i (by omega)]
        exact ih (i + 1) n (by omega) (by omega)
  intro n hn
  exact key k 0 n (by omega) hn
theorem bindI {σ ρ β : Type} {f : σ → Option (σ ⊕ ρ)} {g : ρ → Option β} {o : Option β} {s0 : σ} {n : Nat} (st : Nat → σ) (k : Nat) (e : ρ) (h0 : s0 = st 0) (hs : ∀ i, i < k → f (st i) = some (.inl (st (i + 1)))) (he : f (st k) = some (.inr e)) (hn : k < n) (hg : g e = o) : (iter f n s0).bind g = o := by
  rw [h0, iter_seq st k e hs he hn]
  exact hg
theorem F_fill {n : Nat} {K : AK} {R : Nat → Nat → Option Nat} {S : ST} {a len : Nat} {v : Int32} (hk : K[a]? = some (.inr (0, len))) (h8 : 8 ≤ a) (hn : len < n) (hl : len < 2 ^ 31) : F_J7_fill_53178 n (mkM K R S) a v = some (mkM K R (fillS S a len v)) := by
  unfold F_J7_fill_53178
  refine eAL hk (by decide) ?_
  refine bindI (fun i => (nI i, mkM K R (setC S a (fun j => if j < i then v else S.1 a j)))) len (mkM K R (fillS S a len v)) ?_ ?_ ?_ hn rfl
  · have e : setC S a (fun j => if j < 0 then v else S.1 a j) = S := by
      have e1 : (fun j => if j < 0 then v else S.1 a j) = S.1 a := by funext j; simp
      rw [e1]
      have e2 : upf S.1 a (S.1 a) = S.1 := by funext b; by_cases hb : b = a <;> simp [upf, hb]
      show (upf S.1 a (S.1 a), S.2) = S
      rw [e2]
    rw [e]; rfl
  · intro i hi
    dsimp only
    have hge : ¬ Int32.ofNat len ≤ nI i := nI_ge hi hl
    rw [if_neg hge]
    have hin : (0 ≤ nI i) ∧ (nI i).toNatClampNeg < len := ⟨nI_pos' (by omega), by rw [nI_clamp (by omega)]; exact hi⟩
    have e : wrI (mkM K R (setC S a (fun j => if j < i then v else S.1 a j))) a (nI i) v = some (mkM K R (setC S a (fun j => if j < i + 1 then v else S.1 a j))) := by
      unfold wrI
      rw [if_pos ⟨rdK_of hk rfl hin, h8⟩, nI_clamp (by omega)]
      have e3 : upf (upf S.1 a (fun j => if j < i then v else S.1 a j)) a (upf (upf S.1 a (fun j => if j < i then v else S.1 a j) a) i v) = upf S.1 a (fun j => if j < i + 1 then v else S.1 a j) := by
        funext b j
        by_cases hb : b = a
        · subst hb
          by_cases hj : j = i
          · simp [upf, hj]
          · have h1 : (j < i + 1) = (j < i) := by simp; omega
            simp [upf, hj, h1]
        · simp [upf, hb]
      show some ((K, upf (upf S.1 a (fun j => if j < i then v else S.1 a j)) a (upf (upf S.1 a (fun j => if j < i then v else S.1 a j) a) i v), S.2, R) : AM) = some (K, upf S.1 a (fun j => if j < i + 1 then v else S.1 a j), S.2, R)
      rw [e3]
    rw [e, nI_succ]
    rfl
  · dsimp only
    have hle : Int32.ofNat len ≤ nI len := Int32.le_refl _
    rw [if_pos hle]
    rfl
theorem eFL {K : AK} {R : Nat → Nat → Option Nat} {S : ST} {β γ : Type} {o : β} {r : Option γ} {a len n : Nat} {v : Int32} {f : AM → Option γ} {g : ST → Option β} (hn : len < n ∧ len < 2 ^ 31) (hk : K[a]? = some (.inr (0, len))) (h8 : 8 ≤ a) (h : lets (fillS S a len v) g = some o) (k : ∀ S1, g S1 = some o → f (mkM K R S1) = r) : (F_J7_fill_53178 n (mkM K R S) a v).bind f = r := by
  rw [F_fill hk h8 hn.1 hn.2]
  exact k _ h
