/-! ===== Int32 by its bits: bt x i ===== -/
def bt (x : Int32) (i : Nat) : Bool := x.toBitVec.getLsbD i
theorem b_ext {x y : Int32} (h : ∀ i, i < 32 → bt x i = bt y i) : x = y := Int32.toBitVec_inj.mp (BitVec.eq_of_getLsbD_eq (fun i hi => h i hi))
theorem b_or (x y : Int32) (i : Nat) : bt (x ||| y) i = (bt x i || bt y i) := by unfold bt; rw [Int32.toBitVec_or, BitVec.getLsbD_or]
theorem b_and (x y : Int32) (i : Nat) : bt (x &&& y) i = (bt x i && bt y i) := by unfold bt; rw [Int32.toBitVec_and, BitVec.getLsbD_and]
theorem b_xor (x y : Int32) (i : Nat) : bt (x ^^^ y) i = (bt x i ^^ bt y i) := by unfold bt; rw [Int32.toBitVec_xor, BitVec.getLsbD_xor]
theorem b_big {x : Int32} {i : Nat} (h : 32 ≤ i) : bt x i = false := BitVec.getLsbD_of_ge _ _ h
theorem b_255 (i : Nat) : bt 255 i = decide (i < 8) := by
  rcases Nat.lt_or_ge i 32 with h | h
  · exact (by decide +kernel : ∀ i, i < 32 → bt 255 i = decide (i < 8)) i h
  · rw [b_big h, decide_eq_false (by omega)]
theorem b_65535 (i : Nat) : bt 65535 i = decide (i < 16) := by
  rcases Nat.lt_or_ge i 32 with h | h
  · exact (by decide +kernel : ∀ i, i < 32 → bt 65535 i = decide (i < 16)) i h
  · rw [b_big h, decide_eq_false (by omega)]
theorem b_m1 : ∀ i, i < 32 → bt (-1) i = true := by decide +kernel
theorem b_0 (i : Nat) : bt 0 i = false := BitVec.getLsbD_zero
theorem s_l : ∀ n, n < 32 → ((nI n &&& 31).toBitVec.smod 32).toNat = n := by decide +kernel
theorem s_u : ∀ n, n < 32 → (((nI n).toUInt32 &&& Int32.toUInt32 31).toBitVec % 32).toNat = n := by decide +kernel
theorem b_shl (n : Nat) (hn : n < 32) (x : Int32) {i : Nat} (hi : i < 32) : bt (x <<< (nI n &&& 31)) i = (decide (n ≤ i) && bt x (i - n)) := by
  unfold bt
  rw [Int32.toBitVec_shiftLeft]
  show (x.toBitVec <<< ((nI n &&& 31).toBitVec.smod 32).toNat).getLsbD i = _
  rw [s_l n hn, BitVec.getLsbD_shiftLeft]
  rcases Nat.lt_or_ge i n with h | h
  · simp [h, Nat.not_le.mpr h]
  · simp [hi, h, Nat.not_lt.mpr h]
theorem b_ushr (n : Nat) (hn : n < 32) (x : Int32) (i : Nat) : bt ((x.toUInt32 >>> ((nI n).toUInt32 &&& Int32.toUInt32 31)).toInt32) i = bt x (n + i) := by
  show (x.toUInt32 >>> ((nI n).toUInt32 &&& Int32.toUInt32 31)).toBitVec.getLsbD i = x.toUInt32.toBitVec.getLsbD (n + i)
  rw [UInt32.toBitVec_shiftRight]
  show (x.toUInt32.toBitVec >>> (((nI n).toUInt32 &&& Int32.toUInt32 31).toBitVec % 32).toNat).getLsbD i = _
  rw [s_u n hn, BitVec.getLsbD_ushiftRight]
theorem b_sshr (n : Nat) (hn : n < 32) (x : Int32) {i : Nat} (hi : i < 32) : bt (x >>> (nI n &&& 31)) i = if n + i < 32 then bt x (n + i) else bt x 31 := by
  unfold bt
  rw [Int32.toBitVec_shiftRight]
  show (x.toBitVec.sshiftRight ((nI n &&& 31).toBitVec.smod 32).toNat).getLsbD i = _
  rw [s_l n hn, BitVec.getLsbD_sshiftRight, BitVec.msb_eq_getLsbD_last]
  simp [hi]

/-! ===== sets of numbers below n as ints; reading and writing by Nat places ===== -/
def bs (P : Nat → Bool) : Nat → Int32
  | 0 => 0
  | n + 1 => if P n = true then bs P n ||| ((1 : Int32) <<< (nI n &&& 31)) else bs P n
theorem bt_one (i : Nat) : bt 1 i = decide (i = 0) := by
  rcases Nat.lt_or_ge i 32 with h | h
  · exact (by decide +kernel : ∀ i, i < 32 → bt 1 i = decide (i = 0)) i h
  · rw [b_big h, decide_eq_false (by omega)]
theorem bt_bs (P : Nat → Bool) : ∀ n, n ≤ 32 → ∀ i, bt (bs P n) i = (decide (i < n) && P i) := by
  intro n
  induction n with
  | zero => intro _ i; simp [bs, b_0]
  | succ n ih =>
    intro hn i
    have ih := ih (by omega) i
    by_cases h32 : i < 32
    · by_cases hp : P n = true
      · simp only [bs, hp, if_true]
        rw [b_or, ih, b_shl n (by omega) 1 h32, bt_one]
        by_cases h1 : i = n
        · subst h1
          simp [hp]
        · by_cases h2 : i < n
          · have h3 : i < n + 1 := by omega
            have h4 : ¬ n ≤ i := by omega
            simp [h2, h3, h4]
          · have h3 : ¬ i < n + 1 := by omega
            have h4 : ¬ i - n = 0 := by omega
            simp [h2, h3, h4]
      · simp only [bs, hp]
        rw [if_neg (by simp), ih]
        by_cases h1 : i = n
        · subst h1
          simp [hp]
        · have h3 : decide (i < n + 1) = decide (i < n) := by simp; omega
          rw [h3]
    · rw [b_big (by omega), decide_eq_false (by omega)]
      rfl
theorem and1_1 (y : Int32) : (y &&& 1 = 1) ↔ bt y 0 = true := by
  constructor
  · intro h
    have h1 : bt (y &&& 1) 0 = true := by rw [h, bt_one]; rfl
    rw [b_and, bt_one] at h1
    simpa using h1
  · intro h
    apply b_ext
    intro i hi
    rw [b_and, bt_one]
    by_cases h0 : i = 0
    · subst h0; simp [h]
    · simp [h0]
theorem and1_0 (y : Int32) : (y &&& 1 = 0) ↔ bt y 0 = false := by
  constructor
  · intro h
    have h1 : bt (y &&& 1) 0 = false := by rw [h, b_0]
    rw [b_and, bt_one] at h1
    simpa using h1
  · intro h
    apply b_ext
    intro i hi
    rw [b_and, bt_one, b_0]
    by_cases h0 : i = 0
    · subst h0; simp [h]
    · simp [h0]
theorem ush_1 (x : Int32) {k : Nat} (hk : k < 32) : (ush x (nI k) &&& 1 = 1) ↔ bt x k = true := by
  rw [and1_1]
  unfold ush
  rw [b_ushr k hk x 0, Nat.add_zero]
theorem ush_0 (x : Int32) {k : Nat} (hk : k < 32) : (ush x (nI k) &&& 1 = 0) ↔ bt x k = false := by
  rw [and1_0]
  unfold ush
  rw [b_ushr k hk x 0, Nat.add_zero]
theorem shr_1 (x : Int32) {k : Nat} (hk : k < 32) : ((x >>> (nI k &&& 31)) &&& 1 = 1) ↔ bt x k = true := by
  rw [and1_1, b_sshr k hk x (by omega), Nat.add_zero, if_pos hk]
theorem shr_0 (x : Int32) {k : Nat} (hk : k < 32) : ((x >>> (nI k &&& 31)) &&& 1 = 0) ↔ bt x k = false := by
  rw [and1_0, b_sshr k hk x (by omega), Nat.add_zero, if_pos hk]
theorem rd_nI {α : Type} {g : Nat → α} {len i : Nat} (hi : i < len) (hl : len < 2 ^ 31) : rd g len (nI i) = some (g i) := by
  unfold rd
  rw [nI_clamp (by omega), if_pos ⟨nI_pos' (by omega), hi⟩]
theorem wr_nI {S : ST} {a len i : Nat} {v : Int32} (hi : i < len) (hl : len < 2 ^ 31) : wr S a len (nI i) v = some (upI S a i v) := by
  unfold wr
  rw [nI_clamp (by omega), if_pos ⟨nI_pos' (by omega), hi⟩]
theorem wrl_nI {S : ST} {a len i : Nat} {v : Int64} (hi : i < len) (hl : len < 2 ^ 31) : wrl S a len (nI i) v = some (upL S a i v) := by
  unfold wrl
  rw [nI_clamp (by omega), if_pos ⟨nI_pos' (by omega), hi⟩]
theorem upI_ne {S : ST} {t t' j : Nat} {v : Int32} (h : t' ≠ t) : (upI S t j v).1 t' = S.1 t' := upf_ne _ _ h
theorem upI_eq {S : ST} {t j : Nat} {v : Int32} : (upI S t j v).1 t = upf (S.1 t) j v := upf_same _ _ _
theorem upI_2 {S : ST} {t j : Nat} {v : Int32} : (upI S t j v).2 = S.2 := rfl
theorem upL_1 {S : ST} {t j : Nat} {v : Int64} : (upL S t j v).1 = S.1 := rfl
theorem setC_ne {S : ST} {a b : Nat} {g : Nat → Int32} (h : b ≠ a) : (setC S a g).1 b = S.1 b := upf_ne _ _ h
theorem setC_eq {S : ST} {a : Nat} {g : Nat → Int32} : (setC S a g).1 a = g := upf_same _ _ _
theorem setC_2 {S : ST} {a : Nat} {g : Nat → Int32} : (setC S a g).2 = S.2 := rfl
theorem upI_setC {S : ST} {t j : Nat} {v : Int32} : upI S t j v = setC S t (upf (S.1 t) j v) := rfl
theorem setC_setC {S : ST} {a : Nat} {g g' : Nat → Int32} : setC (setC S a g) a g' = setC S a g' := by
  have e : upf (upf S.1 a g) a g' = upf S.1 a g' := by funext b; by_cases h : b = a <;> simp [upf, h]
  show (upf (upf S.1 a g) a g', S.2) = _
  rw [e]; rfl
theorem setC_self {S : ST} {a : Nat} : setC S a (S.1 a) = S := by
  have e : upf S.1 a (S.1 a) = S.1 := by funext b; by_cases h : b = a <;> simp [upf, h]
  show (upf S.1 a (S.1 a), S.2) = S
  rw [e]
/-! ===== loops that search ===== -/
/-- the first from i on, of d numbers, with P -/
def srch (P : Nat → Bool) : Nat → Nat → Option Nat
  | _, 0 => none
  | i, d + 1 => if P i = true then some i else srch P (i + 1) d
theorem srch_some {P : Nat → Bool} : ∀ {d i j : Nat}, srch P i d = some j → i ≤ j ∧ j < i + d ∧ P j = true ∧ ∀ m, i ≤ m → m < j → P m = false := by
  intro d
  induction d with
  | zero => intro i j h; cases h
  | succ d ih =>
    intro i j h
    rw [srch] at h
    by_cases c : P i = true
    · rw [if_pos c] at h
      cases h
      exact ⟨Nat.le_refl _, by omega, c, fun m h1 h2 => by omega⟩
    · rw [if_neg c] at h
      obtain ⟨h1, h2, h3, h4⟩ := ih h
      refine ⟨by omega, by omega, h3, fun m h5 h6 => ?_⟩
      by_cases e : m = i
      · subst e; simpa using c
      · exact h4 m (by omega) h6
theorem srch_none {P : Nat → Bool} : ∀ {d i : Nat}, srch P i d = none → ∀ m, i ≤ m → m < i + d → P m = false := by
  intro d
  induction d with
  | zero => intro i _ m h1 h2; omega
  | succ d ih =>
    intro i h m h1 h2
    rw [srch] at h
    by_cases c : P i = true
    · rw [if_pos c] at h; cases h
    · rw [if_neg c] at h
      by_cases e : m = i
      · subst e; simpa using c
      · exact ih h m (by omega) (by omega)
theorem srch_any (P : Nat → Bool) (k : Nat) : (srch P 0 k).isSome = (List.range k).any P := by
  cases h : srch P 0 k with
  | none =>
    have h1 := srch_none h
    symm
    rw [Option.isSome_none, List.any_eq_false]
    intro m hm
    have := h1 m (Nat.zero_le _) (by have := List.mem_range.mp hm; omega)
    simp [this]
  | some j =>
    obtain ⟨h1, h2, h3, h4⟩ := srch_some h
    symm
    rw [Option.isSome_some, List.any_eq_true]
    exact ⟨j, List.mem_range.mpr (by omega), h3⟩
theorem iter_find {σ ρ : Type} {f : σ → Option (σ ⊕ ρ)} (st : Nat → σ) (k : Nat) (P : Nat → Bool) (rf : Nat → ρ) (re : ρ) (hs : ∀ i, i < k → f (st i) = if P i = true then some (.inr (rf i)) else some (.inl (st (i + 1)))) (he : f (st k) = some (.inr re)) : ∀ (d i n : Nat), i + d = k → d < n → iter f n (st i) = some ((srch P i d).elim re rf) := by
  intro d
  induction d with
  | zero =>
    intro i n hi hn
    cases n with
    | zero => omega
    | succ n =>
      have hik : i = k := by omega
      subst hik
      rw [iter, he]; rfl
  | succ d ih =>
    intro i n hi hn
    cases n with
    | zero => omega
    | succ n =>
      rw [iter, hs i (by omega), srch]
      by_cases c : P i = true
      · rw [if_pos c, if_pos c]; rfl
      · rw [if_neg c, if_neg c]
        exact ih (i + 1) n (by omega) (by omega)
theorem bindFind {σ ρ β : Type} {f : σ → Option (σ ⊕ ρ)} {g : ρ → Option β} {o : Option β} {s0 : σ} {n : Nat} (st : Nat → σ) (k : Nat) (P : Nat → Bool) (rf : Nat → ρ) (re : ρ) (h0 : s0 = st 0) (hs : ∀ i, i < k → f (st i) = if P i = true then some (.inr (rf i)) else some (.inl (st (i + 1)))) (he : f (st k) = some (.inr re)) (hn : k < n) (hg : g ((srch P 0 k).elim re rf) = o) : (iter f n s0).bind g = o := by
  rw [h0, iter_find st k P rf re hs he k 0 n (by omega) hn]
  exact hg
