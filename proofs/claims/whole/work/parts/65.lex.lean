/-! ===== texts: bytes and tokens ===== -/
/-- a loop of which something becomes less -/
theorem bindW {σ ρ β : Type} {f : σ → Option (σ ⊕ ρ)} {g : ρ → Option β} {s0 : σ} {n : Nat} {R : β → Prop} (I : Nat → σ → Prop) (d0 : Nat) (Q : ρ → Prop) (hn : d0 < n) (h0 : I d0 s0) (hs : ∀ d s, I d s → Ok (f s) (Sum.elim (fun s' => ∃ d', d' < d ∧ I d' s') Q)) (hg : ∀ e, Q e → Ok (g e) R) : Ok ((iter f n s0).bind g) R := by
  have h : ∀ n d s, I d s → d < n → Ok (iter f n s) Q := by
    intro n
    induction n with
    | zero => intro d s _ h; omega
    | succ n ih =>
      intro d s hI hm
      obtain ⟨x, e, hx⟩ := hs d s hI
      cases x with
      | inl s' =>
        obtain ⟨d', h1, h2⟩ := hx
        obtain ⟨y, e2, hy⟩ := ih d' s' h2 (by omega)
        exact ⟨y, by rw [iter, e]; exact e2, hy⟩
      | inr r => exact ⟨r, by rw [iter, e]; rfl, hx⟩
  obtain ⟨e, h1, h2⟩ := h n d0 s0 h0 hn
  exact Ok.step h1 (hg e h2)
/-- a byte as the tape has it -/
def bv (c : Nat) : Int32 := if c < 128 then nI c else -nI (256 - c)
set_option maxRecDepth 100000 in
theorem bv_of (b : Int8) : ∃ c, c < 256 ∧ b.toInt32 = bv c := by
  have h : ∀ k : Fin 256, (Int8.ofBitVec (BitVec.ofFin k)).toInt32 = bv k.val := by decide
  exact ⟨b.toBitVec.toFin.val, b.toBitVec.toFin.isLt, h b.toBitVec.toFin⟩
set_option maxRecDepth 100000 in
theorem bv_and {c : Nat} (hc : c < 256) : bv c &&& 255 = nI c := by
  have h : ∀ k : Fin 256, bv k.val &&& 255 = nI k.val := by decide
  exact h ⟨c, hc⟩
set_option maxRecDepth 100000 in
theorem bv_neg {c : Nat} (h1 : 128 ≤ c) (h2 : c < 256) : bv c < 0 := by
  have h : ∀ k : Fin 256, 128 ≤ k.val → bv k.val < 0 := by decide
  exact h ⟨c, h2⟩ h1
theorem bv_pos {c : Nat} (h : c < 128) : bv c = nI c := if_pos h
theorem bv_lt {c k : Nat} (hc : c < 256) (hk : k < 128) : bv c < nI k ↔ (c < k ∨ 128 ≤ c) := by
  by_cases h : c < 128
  · rw [bv_pos h, nI_ltI (by omega) (by omega)]
    omega
  · have := bv_neg (by omega) hc
    exact ⟨fun _ => Or.inr (by omega), fun _ => Int32.lt_of_lt_of_le this (nI_pos' (by omega))⟩
theorem bv_gt {c k : Nat} (hc : c < 256) (hk : k < 128) : nI k < bv c ↔ (k < c ∧ c < 128) := by
  by_cases h : c < 128
  · rw [bv_pos h, nI_ltI (by omega) (by omega)]
    omega
  · have h1 := bv_neg (by omega) hc
    have h2 : (0 : Int32) ≤ nI k := nI_pos' (by omega)
    refine ⟨fun z => absurd (Int32.lt_of_le_of_lt h2 (Int32.lt_trans z h1)) (by decide), fun z => by omega⟩
theorem bv_eq {c k : Nat} (hc : c < 256) (hk : k < 128) : bv c = nI k ↔ c = k := by
  by_cases h : c < 128
  · rw [bv_pos h, nI_eq (by omega) (by omega)]
  · have h1 := bv_neg (by omega) hc
    have h2 : (0 : Int32) ≤ nI k := nI_pos' (by omega)
    refine ⟨fun z => ?_, fun z => by omega⟩
    rw [z] at h1
    exact absurd (Int32.lt_of_le_of_lt h2 h1) (by decide)
def isLt (x : Nat) : Bool := decide (97 ≤ x) && decide (x ≤ 122)
def isDg (x : Nat) : Bool := decide (48 ≤ x) && decide (x ≤ 57)
def isBl (x : Nat) : Bool := x == 32 || (x == 9 || (x == 10 || x == 13))
def runE (P : Nat → Bool) (c : Nat → Nat) : Nat → Nat → Nat
  | 0, i => i
  | k + 1, i => if P (c i) = true then runE P c k (i + 1) else i
/-- where a run ends -/
def eor (P : Nat → Bool) (c : Nat → Nat) (L i : Nat) : Nat := runE P c (L - i) i
theorem runE_spec {P : Nat → Bool} {c : Nat → Nat} : ∀ k i, i ≤ runE P c k i ∧ runE P c k i ≤ i + k ∧ (∀ j, i ≤ j → j < runE P c k i → P (c j) = true) ∧ (runE P c k i < i + k → P (c (runE P c k i)) = false) := by
  intro k
  induction k with
  | zero => exact fun i => ⟨Nat.le_refl _, Nat.le_refl _, fun j h1 h2 => absurd h1 (by simp only [runE] at h2; omega), fun h => absurd h (by simp only [runE]; omega)⟩
  | succ k ih =>
    intro i
    by_cases h : P (c i) = true
    · have e : runE P c (k + 1) i = runE P c k (i + 1) := by rw [runE, if_pos h]
      obtain ⟨h1, h2, h3, h4⟩ := ih (i + 1)
      rw [e]
      refine ⟨by omega, by omega, fun j g1 g2 => ?_, fun g => h4 (by omega)⟩
      by_cases g : j = i
      · rw [g]; exact h
      · exact h3 j (by omega) g2
    · have e : runE P c (k + 1) i = i := by rw [runE, if_neg h]
      rw [e]
      exact ⟨Nat.le_refl _, by omega, fun j g1 g2 => by omega, fun _ => by simpa using h⟩
theorem eor_spec {P : Nat → Bool} {c : Nat → Nat} {L i : Nat} (h : i ≤ L) : i ≤ eor P c L i ∧ eor P c L i ≤ L ∧ (∀ j, i ≤ j → j < eor P c L i → P (c j) = true) ∧ (eor P c L i < L → P (c (eor P c L i)) = false) := by
  obtain ⟨h1, h2, h3, h4⟩ := runE_spec (P := P) (c := c) (L - i) i
  have e : i + (L - i) = L := by omega
  rw [e] at h2 h4
  exact ⟨h1, h2, h3, h4⟩
theorem eor_step {P : Nat → Bool} {c : Nat → Nat} {L i : Nat} (h : i < L) (hp : P (c i) = true) : eor P c L i = eor P c L (i + 1) := by
  unfold eor
  rw [show L - i = (L - (i + 1)) + 1 by omega, runE, if_pos hp]
theorem eor_stop {P : Nat → Bool} {c : Nat → Nat} {L i : Nat} (hp : P (c i) = false) : eor P c L i = i := by
  unfold eor
  cases h : L - i with
  | zero => rfl
  | succ k => rw [runE, if_neg (by rw [hp]; decide)]
theorem eor_end {P : Nat → Bool} {c : Nat → Nat} {L i : Nat} (h : L ≤ i) : eor P c L i = i := by
  unfold eor
  rw [show L - i = 0 by omega]; rfl
theorem eor_gt {P : Nat → Bool} {c : Nat → Nat} {L i : Nat} (h : i < L) (hp : P (c i) = true) : i < eor P c L i := by
  rw [eor_step h hp]
  have := (eor_spec (P := P) (c := c) (L := L) (i := i + 1) (by omega)).1
  omega
/-- letters as a number, digits -/
def wd (c : Nat → Nat) (i : Nat) : Nat → Nat
  | 0 => 0
  | k + 1 => 27 * wd c i k + (c (i + k) - 96)
def dg (c : Nat → Nat) (i : Nat) : Nat → Nat
  | 0 => 0
  | k + 1 => 10 * dg c i k + (c (i + k) - 48)
theorem wd_lt {c : Nat → Nat} {i : Nat} : ∀ k, (∀ j, j < k → isLt (c (i + j)) = true) → wd c i k < 27 ^ k := by
  intro k
  induction k with
  | zero => intro _; exact Nat.zero_lt_one
  | succ k ih =>
    intro h
    have h1 := ih (fun j hj => h j (by omega))
    have h2 := h k (by omega)
    simp only [isLt, Bool.and_eq_true, decide_eq_true_eq] at h2
    rw [wd, Nat.pow_succ]
    generalize 27 ^ k = A at *
    omega
theorem wd_ge {c : Nat → Nat} {i : Nat} : ∀ k, (∀ j, j < k + 1 → isLt (c (i + j)) = true) → 27 ^ k ≤ wd c i (k + 1) := by
  intro k
  induction k with
  | zero =>
    intro h
    have h2 := h 0 (by omega)
    simp only [isLt, Bool.and_eq_true, decide_eq_true_eq] at h2
    rw [wd]
    omega
  | succ k ih =>
    intro h
    have h1 := ih (fun j hj => h j (by omega))
    rw [wd, Nat.pow_succ]
    generalize 27 ^ k = A at *
    omega
theorem dg_lt {c : Nat → Nat} {i : Nat} : ∀ k, (∀ j, j < k → isDg (c (i + j)) = true) → dg c i k < 10 ^ k := by
  intro k
  induction k with
  | zero => intro _; exact Nat.zero_lt_one
  | succ k ih =>
    intro h
    have h1 := ih (fun j hj => h j (by omega))
    have h2 := h k (by omega)
    simp only [isDg, Bool.and_eq_true, decide_eq_true_eq] at h2
    rw [dg, Nat.pow_succ]
    generalize 10 ^ k = A at *
    omega
/-- the words in quotes, as numbers -/
def kwT : List Nat := [8740067, 232608281, 10793230, 399749, 47, 6132988, 271721, 830, 394913, 13903, 1253, 1253699, 249, 423, 1111, 10631, 262823, 13597084, 168984, 1960177]
def kwN (j : Nat) : Nat := kwT.getD j 0
def keyP : List Nat := [0, 1, 11, 2, 3, 4, 5, 6, 7, 8, 9, 10, 12, 13, 14, 15, 16, 17, 18, 19]
def keyN (j : Nat) : Nat := kwN (keyP.getD j 0)
def kwL (v : Nat) : Nat → Nat
  | 0 => 20
  | j + 1 => if kwN j = v then j else kwL v j
def kw (v : Nat) : Nat := kwL v 20
def keyL (v : Nat) : Nat → Nat
  | 0 => 1
  | j + 1 => if keyN j = v then 20 + j else keyL v j
/-- the kinds of tokens as the reference has them -/
def kRT : List Nat := [20, 21, 23, 24, 25, 26, 27, 28, 29, 30, 31, 22, 32, 33, 34, 35, 36, 37, 38, 39, 1, 2, 4, 5, 8, 9, 10, 15, 11, 12, 13, 14, 6, 7, 3, 0]
def kR (k : Nat) : Nat := kRT.getD k 0
theorem kwL_none {v : Nat} (h : ∀ j, j < 20 → kwN j ≠ v) : ∀ k, k ≤ 20 → kwL v k = 20 := by
  intro k
  induction k with
  | zero => intro _; rfl
  | succ k ih => intro hk; rw [kwL, if_neg (h k (by omega))]; exact ih (by omega)
theorem keyL_none {v : Nat} (h : ∀ j, j < 20 → kwN j ≠ v) : ∀ k, k ≤ 20 → keyL v k = 1 := by
  intro k
  induction k with
  | zero => intro _; rfl
  | succ k ih =>
    intro hk
    have h2 : ∀ k : Fin 20, keyP.getD k.val 0 < 20 := by decide
    have h3 : keyN k ≠ v := h _ (h2 ⟨k, by omega⟩)
    rw [keyL, if_neg h3]
    exact ih (by omega)
theorem key_kw (v : Nat) : keyL v 20 = kR (kw v) := by
  by_cases h : ∃ j : Fin 20, kwN j.val = v
  · obtain ⟨j, rfl⟩ := h
    revert j; decide
  · have h2 : ∀ j, j < 20 → kwN j ≠ v := fun j hj e => h ⟨⟨j, hj⟩, e⟩
    unfold kw
    rw [kwL_none h2 20 (Nat.le_refl _), keyL_none h2 20 (Nat.le_refl _)]; rfl
theorem kw_big {v : Nat} (h : 27 ^ 7 ≤ v) : kw v = 20 := by
  refine kwL_none (fun j hj => ?_) 20 (Nat.le_refl _)
  have h2 : ∀ k : Fin 20, kwN k.val < 27 ^ 7 := by decide
  have := h2 ⟨j, hj⟩
  intro e
  dsimp only at this
  omega
theorem kw_le (v : Nat) : kw v ≤ 20 := by
  have : ∀ k, k ≤ 20 → kwL v k ≤ 20 := by
    intro k
    induction k with
    | zero => intro _; exact Nat.le_refl _
    | succ k ih =>
      intro hk
      rw [kwL]
      split
      · omega
      · exact ih (by omega)
  exact this 20 (Nat.le_refl _)
/-! the token at a byte: where it ends, what it is, its value -/
def two (c : Nat → Nat) (L i : Nat) : Bool := decide (i + 1 < L) && (c (i + 1) == 61 && (c i == 61 || (c i == 33 || c i == 60)))
def sgK (x : Nat) : Nat := if x = 40 then 32 else if x = 41 then 33 else if x = 42 then 26 else if x = 43 then 24 else if x = 44 then 23 else if x = 45 then 25 else if x = 47 then 27 else if x = 59 then 22 else if x = 60 then 30 else 34
def lxE (c : Nat → Nat) (L i : Nat) : Nat := if isLt (c i) = true then eor isLt c L i else if isDg (c i) = true then eor isDg c L i else if two c L i = true then i + 2 else i + 1
def lxK (c : Nat → Nat) (L i : Nat) : Nat := if isLt (c i) = true then (if eor isLt c L i - i ≤ 8 then kw (wd c i (eor isLt c L i - i)) else 34) else if isDg (c i) = true then (if eor isDg c L i - i ≤ 4 then 21 else 34) else if two c L i = true then (if c i = 60 then 31 else if c i = 61 then 28 else 29) else sgK (c i)
def lxV (c : Nat → Nat) (L i : Nat) : Nat := if isLt (c i) = true then (if eor isLt c L i - i ≤ 8 then wd c i (eor isLt c L i - i) else 0) else if isDg (c i) = true then (if eor isDg c L i - i ≤ 4 then dg c i (eor isDg c L i - i) else 0) else 0
def tkS (c : Nat → Nat) (L : Nat) : Nat → Nat
  | 0 => eor isBl c L 0
  | j + 1 => if tkS c L j < L then eor isBl c L (lxE c L (tkS c L j)) else tkS c L j
def tkK (c : Nat → Nat) (L j : Nat) : Nat := if tkS c L j < L then lxK c L (tkS c L j) else 35
def tkV (c : Nat → Nat) (L j : Nat) : Nat := if tkS c L j < L then lxV c L (tkS c L j) else 0
theorem lxE_spec {c : Nat → Nat} {L i : Nat} (h : i < L) : i < lxE c L i ∧ lxE c L i ≤ L := by
  unfold lxE
  by_cases h1 : isLt (c i) = true
  · rw [if_pos h1]; exact ⟨eor_gt h h1, (eor_spec (by omega)).2.1⟩
  rw [if_neg h1]
  by_cases h2 : isDg (c i) = true
  · rw [if_pos h2]; exact ⟨eor_gt h h2, (eor_spec (by omega)).2.1⟩
  rw [if_neg h2]
  by_cases h3 : two c L i = true
  · rw [if_pos h3]
    simp only [two, Bool.and_eq_true, decide_eq_true_eq] at h3
    omega
  · rw [if_neg h3]; omega
theorem tkS_le {c : Nat → Nat} {L : Nat} : ∀ j, tkS c L j ≤ L := by
  intro j
  induction j with
  | zero => exact (eor_spec (by omega)).2.1
  | succ j ih =>
    rw [tkS]
    split
    · exact (eor_spec (lxE_spec (by assumption)).2).2.1
    · exact ih
theorem tkS_lt {c : Nat → Nat} {L j : Nat} (h : tkS c L j < L) : tkS c L j < tkS c L (j + 1) := by
  rw [tkS, if_pos h]
  have h1 := lxE_spec (c := c) h
  have h2 := (eor_spec (P := isBl) (c := c) h1.2).1
  omega
theorem tkS_stop {c : Nat → Nat} {L j : Nat} (h : tkS c L j = L) : ∀ i, j ≤ i → tkS c L i = L := by
  intro i hi
  obtain ⟨d, rfl⟩ := Nat.exists_eq_add_of_le hi
  clear hi
  induction d with
  | zero => exact h
  | succ d ih => rw [← Nat.add_assoc, tkS, if_neg (by omega)]; exact ih
theorem tkS_mono {c : Nat → Nat} {L i j : Nat} (h : i < j) (hv : tkS c L i < L) : tkS c L i < tkS c L j := by
  obtain ⟨d, rfl⟩ := Nat.exists_eq_add_of_lt h
  clear h
  have : ∀ d, tkS c L i < tkS c L (i + d + 1) := by
    intro d
    induction d with
    | zero => exact tkS_lt hv
    | succ d ih =>
      by_cases g : tkS c L (i + d + 1) < L
      · have := tkS_lt g
        rw [show i + (d + 1) + 1 = i + d + 1 + 1 by omega]
        omega
      · rw [show i + (d + 1) + 1 = i + d + 1 + 1 by omega, tkS, if_neg g]
        exact ih
  exact this d
theorem tkS_nb {c : Nat → Nat} {L : Nat} : ∀ j, tkS c L j < L → isBl (c (tkS c L j)) = false := by
  intro j
  cases j with
  | zero => exact fun h => (eor_spec (by omega)).2.2.2 h
  | succ j =>
    intro h
    by_cases g : tkS c L j < L
    · rw [tkS, if_pos g] at h ⊢
      exact (eor_spec (lxE_spec g).2).2.2.2 h
    · rw [tkS, if_neg g] at h
      omega
theorem sgK_lt (x : Nat) : sgK x ≤ 34 := by
  unfold sgK
  repeat' split
  all_goals decide
theorem lxK_le {c : Nat → Nat} {L i : Nat} : lxK c L i ≤ 34 := by
  unfold lxK
  have h1 := sgK_lt (c i)
  have h2 := kw_le (wd c i (eor isLt c L i - i))
  repeat' split
  all_goals omega
theorem tkK_le {c : Nat → Nat} {L j : Nat} : tkK c L j ≤ 35 := by
  unfold tkK
  have := lxK_le (c := c) (L := L) (i := tkS c L j)
  split
  · omega
  · omega
theorem tkK_end {c : Nat → Nat} {L j : Nat} : tkK c L j = 35 ↔ tkS c L j = L := by
  unfold tkK
  have h := lxK_le (c := c) (L := L) (i := tkS c L j)
  have h2 := tkS_le (c := c) (L := L) j
  split
  · omega
  · omega
/-! longs -/
def nL (a : Nat) : Int64 := Int64.ofNat a
theorem nL_letter {a x : Nat} (h : isLt x = true) : nL a * (27 : Int64) + ((nI x - 97) + 1).toInt64 = nL (27 * a + (x - 96)) := by
  simp only [isLt, Bool.and_eq_true, decide_eq_true_eq] at h
  have h1 : ∀ k : Fin 26, ((nI (k.val + 97) - 97) + 1 : Int32).toInt64 = nL (k.val + 1) := by decide
  have h2 := h1 ⟨x - 97, by omega⟩
  dsimp only at h2
  rw [show x - 97 + 97 = x by omega, show x - 97 + 1 = x - 96 by omega] at h2
  rw [h2]
  show Int64.ofNat a * Int64.ofNat 27 + Int64.ofNat _ = Int64.ofNat _
  rw [← Int64.ofNat_mul, ← Int64.ofNat_add, Nat.mul_comm]
theorem nL_inj {a b : Nat} (ha : a < 2 ^ 63) (hb : b < 2 ^ 63) : nL a = nL b ↔ a = b := by
  constructor
  · intro h
    have h2 := congrArg Int64.toInt h
    unfold nL at h2
    rw [Int64.toInt_ofNat_of_lt ha, Int64.toInt_ofNat_of_lt hb] at h2
    omega
  · intro h; rw [h]
theorem nL_int {v : Nat} (h : v < 2 ^ 31) : (nI v).toInt64 = nL v := by
  apply Int64.toInt_inj.mp
  unfold nL
  rw [Int32.toInt_toInt64, Int64.toInt_ofNat_of_lt (by omega)]
  exact Int32.toInt_ofNat_of_lt (by omega)
theorem nI_long {v : Nat} : (nL v).toInt32 = nI v := by
  unfold nL
  exact Int64.toInt32_ofNat
