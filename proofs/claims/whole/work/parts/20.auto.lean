/-! ===== rows for walks through the trees ===== -/
theorem l_2 : (2 : Int32) = nI 2 := rfl
theorem l_3 : (3 : Int32) = nI 3 := rfl
theorem l_4 : (4 : Int32) = nI 4 := rfl
theorem l_5 : (5 : Int32) = nI 5 := rfl
theorem l_6 : (6 : Int32) = nI 6 := rfl
theorem l_7 : (7 : Int32) = nI 7 := rfl
theorem l_8 : (8 : Int32) = nI 8 := rfl
theorem l_9 : (9 : Int32) = nI 9 := rfl
theorem l_10 : (10 : Int32) = nI 10 := rfl
theorem l_11 : (11 : Int32) = nI 11 := rfl
theorem l_12 : (12 : Int32) = nI 12 := rfl
theorem l_13 : (13 : Int32) = nI 13 := rfl
theorem l_14 : (14 : Int32) = nI 14 := rfl
theorem l_15 : (15 : Int32) = nI 15 := rfl
theorem l_16 : (16 : Int32) = nI 16 := rfl
theorem l_17 : (17 : Int32) = nI 17 := rfl
theorem l_18 : (18 : Int32) = nI 18 := rfl
theorem l_19 : (19 : Int32) = nI 19 := rfl
theorem l_20 : (20 : Int32) = nI 20 := rfl
theorem l_21 : (21 : Int32) = nI 21 := rfl
theorem l_22 : (22 : Int32) = nI 22 := rfl
theorem l_23 : (23 : Int32) = nI 23 := rfl
theorem l_24 : (24 : Int32) = nI 24 := rfl
theorem l_25 : (25 : Int32) = nI 25 := rfl
theorem l_26 : (26 : Int32) = nI 26 := rfl
theorem l_27 : (27 : Int32) = nI 27 := rfl
theorem l_28 : (28 : Int32) = nI 28 := rfl
theorem l_29 : (29 : Int32) = nI 29 := rfl
theorem l_30 : (30 : Int32) = nI 30 := rfl
theorem l_32 : (32 : Int32) = nI 32 := rfl
theorem l_33 : (33 : Int32) = nI 33 := rfl
theorem l_34 : (34 : Int32) = nI 34 := rfl
theorem l_35 : (35 : Int32) = nI 35 := rfl
theorem l_36 : (36 : Int32) = nI 36 := rfl
theorem l_37 : (37 : Int32) = nI 37 := rfl
theorem l_38 : (38 : Int32) = nI 38 := rfl
theorem l_39 : (39 : Int32) = nI 39 := rfl
theorem l_50 : (50 : Int32) = nI 50 := rfl
theorem l_60 : (60 : Int32) = nI 60 := rfl
theorem l_99 : (99 : Int32) = nI 99 := rfl
theorem l_100 : (100 : Int32) = nI 100 := rfl
theorem l_150 : (150 : Int32) = nI 150 := rfl
theorem l_160 : (160 : Int32) = nI 160 := rfl
theorem l_240 : (240 : Int32) = nI 240 := rfl
theorem l_250 : (250 : Int32) = nI 250 := rfl
theorem l_300 : (300 : Int32) = nI 300 := rfl
theorem l_400 : (400 : Int32) = nI 400 := rfl
theorem l_402 : (402 : Int32) = nI 402 := rfl
theorem l_403 : (403 : Int32) = nI 403 := rfl
theorem l_420 : (420 : Int32) = nI 420 := rfl
theorem l_500 : (500 : Int32) = nI 500 := rfl
theorem l_600 : (600 : Int32) = nI 600 := rfl
theorem l_840 : (840 : Int32) = nI 840 := rfl
theorem l_1000 : (1000 : Int32) = nI 1000 := rfl
theorem l_1024 : (1024 : Int32) = nI 1024 := rfl
theorem l_2000 : (2000 : Int32) = nI 2000 := rfl
theorem l_2047 : (2047 : Int32) = nI 2047 := rfl
theorem l_2048 : (2048 : Int32) = nI 2048 := rfl
theorem l_10000 : (10000 : Int32) = nI 10000 := rfl
theorem l_25600 : (25600 : Int32) = nI 25600 := rfl
theorem l_500000 : (500000 : Int32) = nI 500000 := rfl
section AUTO
variable {a b : Nat}
theorem z_le (h : a < 2 ^ 31) : ((0 : Int32) ≤ nI a) = True := eq_true (nI_pos' h)
theorem le_z (h : a < 2 ^ 31) : (nI a ≤ (0 : Int32)) = (a = 0) := by
  have := nI_leI (b := 0) h (by decide)
  rw [nI_0] at this
  exact propext (this.trans ⟨fun h => by omega, fun h => by omega⟩)
theorem z_lt (h : a < 2 ^ 31) : ((0 : Int32) < nI a) = (0 < a) := by
  have := nI_ltI (a := 0) (by decide) h
  rw [nI_0] at this
  exact propext this
theorem lt_z (h : a < 2 ^ 31) : (nI a < (0 : Int32)) = False := eq_false (nI_pos h)
theorem eq_z (h : a < 2 ^ 31) : (nI a = (0 : Int32)) = (a = 0) := by
  have := nI_eq (b := 0) h (by decide)
  rw [nI_0] at this
  exact propext this
theorem eq_o (h : a < 2 ^ 31) : (nI a = (1 : Int32)) = (a = 1) := propext (nI_eq (b := 1) h (by decide))
theorem le_o (h : a < 2 ^ 31) : (nI a ≤ (1 : Int32)) = (a ≤ 1) := propext (nI_leI (b := 1) h (by decide))
theorem o_le (h : a < 2 ^ 31) : ((1 : Int32) ≤ nI a) = (1 ≤ a) := propext (nI_leI (a := 1) (by decide) h)
theorem lt_o (h : a < 2 ^ 31) : (nI a < (1 : Int32)) = (a < 1) := propext (nI_ltI (b := 1) h (by decide))
theorem o_lt (h : a < 2 ^ 31) : ((1 : Int32) < nI a) = (1 < a) := propext (nI_ltI (a := 1) (by decide) h)
theorem eq_m1 (h : a < 2 ^ 31) : (nI a = (-1 : Int32)) = False := eq_false (fun e => absurd (e ▸ nI_pos' h) (by decide))
theorem eq_m2 (h : a < 2 ^ 31) : (nI a = (-nI 2 : Int32)) = False := eq_false (fun e => absurd (e ▸ nI_pos' h) (by decide))
theorem m2_eq (h : a < 2 ^ 31) : ((-nI 2 : Int32) = nI a) = False := eq_false (fun e => absurd (e ▸ nI_pos' h : (0 : Int32) ≤ -nI 2) (by decide))
theorem m1_eq (h : a < 2 ^ 31) : ((-1 : Int32) = nI a) = False := eq_false (fun e => absurd (e ▸ nI_pos' h : (0 : Int32) ≤ -1) (by decide))
theorem o_z : ((1 : Int32) = 0) = False := eq_false (by decide)
theorem z_o : ((0 : Int32) = 1) = False := eq_false (by decide)
theorem m1_z : ((-1 : Int32) = 0) = False := eq_false (by decide)
theorem m1_o : ((-1 : Int32) = 1) = False := eq_false (by decide)
theorem m2_z : ((-nI 2 : Int32) = 0) = False := eq_false (by decide)
theorem m2_o : ((-nI 2 : Int32) = 1) = False := eq_false (by decide)
theorem m2_m1 : ((-nI 2 : Int32) = -1) = False := eq_false (by decide)
theorem z_lz : ((0 : Int32) < 0) = False := eq_false (by decide)
theorem z_lo : ((0 : Int32) < 1) = True := eq_true (by decide)
theorem o_lz : ((1 : Int32) < 0) = False := eq_false (by decide)
theorem o_ez : ((1 : Int32) ≤ 0) = False := eq_false (by decide)
theorem z_ez : ((0 : Int32) ≤ 0) = True := eq_true (by decide)
theorem z_eo : ((0 : Int32) ≤ 1) = True := eq_true (by decide)
theorem m2_lt : ((-nI 2 : Int32) < 0) = True := eq_true (by decide)
theorem m2_le : ((0 : Int32) ≤ -nI 2) = False := eq_false (by decide)
theorem m1_lt : ((-1 : Int32) < 0) = True := eq_true (by decide)
theorem m1_le : ((0 : Int32) ≤ -1) = False := eq_false (by decide)
theorem leF (h : a < b) : (b ≤ a) = False := eq_false (by omega)
theorem leT (h : b ≤ a) : (b ≤ a) = True := eq_true h
theorem ltF (h : b ≤ a) : (a < b) = False := eq_false (by omega)
theorem ltT (h : a < b) : (a < b) = True := eq_true h
theorem eqF (h : a ≠ b) : (a = b) = False := eq_false h
theorem eqT (h : a = b) : (a = b) = True := eq_true h
end AUTO
def bI (b : Bool) : Int32 := if b = true then 1 else 0
theorem bI_z (b : Bool) : (bI b = 0) = (b = false) := by cases b <;> decide
theorem bI_o (b : Bool) : (bI b = 1) = (b = true) := by cases b <;> decide
theorem bI_t : bI true = 1 := rfl
theorem bI_f : bI false = 0 := rfl
theorem bI_nar (b : Bool) : narrow .boolean (.int (bI b)) = .int (bI b) := by cases b <;> decide
theorem gd_b {β : Type} {b : Bool} {u : Option β} : gd (narrow .boolean (.int (bI b)) = .int (bI b)) u = u := if_pos (bI_nar b)
theorem bI_if {c : Prop} [Decidable c] : (if c then some (1 : Int32) else some (0 : Int32)) = some (bI (decide c)) := by by_cases h : c <;> simp [h, bI]
theorem bI_ifn {c : Prop} [Decidable c] : (if c then some (0 : Int32) else some (1 : Int32)) = some (bI (decide (¬ c))) := by by_cases h : c <;> simp [h, bI]
/-! loops -/
theorem loopX {σ ρ : Type} {f : σ → Option (σ ⊕ ρ)} {s0 : σ} {n : Nat} (I : Nat → σ → Prop) (Q : ρ → Prop) (i0 k : Nat) (hik : i0 ≤ k) (hn : k < n) (h0 : I i0 s0) (hs : ∀ i s, i0 ≤ i → i < k → I i s → ∃ s', f s = some (.inl s') ∧ I (i + 1) s') (he : ∀ s, I k s → ∃ e, f s = some (.inr e) ∧ Q e) : ∃ e, iter f n s0 = some e ∧ Q e := by
  have key : ∀ d i n s, i + d = k → i0 ≤ i → d < n → I i s → ∃ e, iter f n s = some e ∧ Q e := by
    intro d
    induction d with
    | zero =>
      intro i n s hi h1 hn hI
      cases n with
      | zero => omega
      | succ n =>
        have hik : i = k := by omega
        subst hik
        obtain ⟨e, h1, h2⟩ := he s hI
        exact ⟨e, by rw [iter, h1]; rfl, h2⟩
    | succ d ih =>
      intro i n s hi h1 hn hI
      cases n with
      | zero => omega
      | succ n =>
        obtain ⟨s', h2, h3⟩ := hs i s h1 (by omega) hI
        obtain ⟨e, h4, h5⟩ := ih (i + 1) n s' (by omega) (by omega) (by omega) h3
        exact ⟨e, by rw [iter, h2]; exact h4, h5⟩
  exact key (k - i0) i0 n s0 (by omega) (Nat.le_refl _) (by omega) h0
/-- a loop that may end early -/
theorem loopF {σ ρ : Type} {f : σ → Option (σ ⊕ ρ)} {s0 : σ} {n : Nat} (I : Nat → σ → Prop) (Q : ρ → Prop) (i0 k : Nat) (hik : i0 ≤ k) (hn : k < n) (h0 : I i0 s0) (hs : ∀ i s, i0 ≤ i → i < k → I i s → (∃ s', f s = some (.inl s') ∧ I (i + 1) s') ∨ ∃ e, f s = some (.inr e) ∧ Q e) (he : ∀ s, I k s → ∃ e, f s = some (.inr e) ∧ Q e) : ∃ e, iter f n s0 = some e ∧ Q e := by
  have key : ∀ d i n s, i + d = k → i0 ≤ i → d < n → I i s → ∃ e, iter f n s = some e ∧ Q e := by
    intro d
    induction d with
    | zero =>
      intro i n s hi h1 hn hI
      cases n with
      | zero => omega
      | succ n =>
        have hik : i = k := by omega
        subst hik
        obtain ⟨e, h1, h2⟩ := he s hI
        exact ⟨e, by rw [iter, h1]; rfl, h2⟩
    | succ d ih =>
      intro i n s hi h1 hn hI
      cases n with
      | zero => omega
      | succ n =>
        rcases hs i s h1 (by omega) hI with ⟨s', h2, h3⟩ | ⟨e, h2, h3⟩
        · obtain ⟨e, h4, h5⟩ := ih (i + 1) n s' (by omega) (by omega) (by omega) h3
          exact ⟨e, by rw [iter, h2]; exact h4, h5⟩
        · exact ⟨e, by rw [iter, h2]; rfl, h3⟩
  exact key (k - i0) i0 n s0 (by omega) (Nat.le_refl _) (by omega) h0
theorem Ok.inl {σ ρ : Type} {A : σ → Prop} {B : ρ → Prop} {s : σ} (h : A s) : Ok (some (Sum.inl s : σ ⊕ ρ)) (Sum.elim A B) := ⟨_, rfl, h⟩
theorem Ok.inr {σ ρ : Type} {A : σ → Prop} {B : ρ → Prop} {e : ρ} (h : B e) : Ok (some (Sum.inr e : σ ⊕ ρ)) (Sum.elim A B) := ⟨_, rfl, h⟩
theorem bindL {σ ρ β : Type} {f : σ → Option (σ ⊕ ρ)} {g : ρ → Option β} {s0 : σ} {n : Nat} {R : β → Prop} (I : Nat → σ → Prop) (Q : ρ → Prop) (i0 k : Nat) (hik : i0 ≤ k) (hn : k < n) (h0 : I i0 s0) (hs : ∀ i s, i0 ≤ i → i < k → I i s → Ok (f s) (Sum.elim (I (i + 1)) Q)) (he : ∀ s, I k s → Ok (f s) (Sum.elim (fun _ => False) Q)) (hg : ∀ e, Q e → Ok (g e) R) : Ok ((iter f n s0).bind g) R := by
  obtain ⟨e, h1, h2⟩ := loopF (f := f) (n := n) (s0 := s0) I Q i0 k hik hn h0 (fun i s h1 h2 h3 => by
    obtain ⟨x, e1, h4⟩ := hs i s h1 h2 h3
    cases x with
    | inl x => exact Or.inl ⟨x, e1, h4⟩
    | inr x => exact Or.inr ⟨x, e1, h4⟩) (fun s h => by
    obtain ⟨x, e1, h4⟩ := he s h
    cases x with
    | inl x => exact h4.elim
    | inr x => exact ⟨x, e1, h4⟩)
  rw [h1, Option.bind_some]
  exact hg e h2
/-- a loop over numbers alone -/
theorem loopP {σ ρ : Type} {f : σ → Option (σ ⊕ ρ)} {s0 : σ} {n : Nat} {e : ρ} (st : Nat → σ) (i0 k : Nat) (hik : i0 ≤ k) (hn : k < n) (h0 : s0 = st i0) (hs : ∀ i, i0 ≤ i → i < k → f (st i) = some (.inl (st (i + 1)))) (he : f (st k) = some (.inr e)) : iter f n s0 = some e := by
  obtain ⟨e', h1, h2⟩ := loopX (f := f) (n := n) (s0 := s0) (fun i s => s = st i) (fun r => r = e) i0 k hik hn h0 (fun i s h1 h2 h3 => ⟨_, by rw [h3]; exact hs i h1 h2, rfl⟩) (fun s h => ⟨_, by rw [h]; exact he, rfl⟩)
  rw [h1, h2]
/-! any, sums, counts of the first k -/
def anyN (P : Nat → Bool) : Nat → Bool
  | 0 => false
  | k + 1 => anyN P k || P k
theorem anyN_iff {P : Nat → Bool} {k : Nat} : anyN P k = true ↔ ∃ i, i < k ∧ P i = true := by
  induction k with
  | zero => simp [anyN]
  | succ k ih =>
    rw [anyN, Bool.or_eq_true, ih]
    constructor
    · rintro (⟨i, h1, h2⟩ | h)
      · exact ⟨i, by omega, h2⟩
      · exact ⟨k, by omega, h⟩
    · rintro ⟨i, h1, h2⟩
      by_cases e : i = k
      · subst e; exact Or.inr h2
      · exact Or.inl ⟨i, by omega, h2⟩
theorem anyN_f {P : Nat → Bool} {k : Nat} : anyN P k = false ↔ ∀ i, i < k → P i = false := by
  rw [← Bool.not_eq_true, anyN_iff]
  constructor
  · intro h i hi
    cases e : P i
    · rfl
    · exact absurd ⟨i, hi, e⟩ h
  · rintro h ⟨i, h1, h2⟩
    rw [h i h1] at h2; cases h2
theorem anyN_congr {P Q : Nat → Bool} {k : Nat} (h : ∀ i, i < k → P i = Q i) : anyN P k = anyN Q k := by
  induction k with
  | zero => rfl
  | succ k ih => rw [anyN, anyN, ih (fun i hi => h i (by omega)), h k (by omega)]
theorem srch_anyN (P : Nat → Bool) (k : Nat) : (srch P 0 k).isSome = anyN P k := by
  cases h : srch P 0 k with
  | none =>
    have h1 := srch_none h
    symm
    rw [Option.isSome_none, anyN_f]
    exact fun i hi => h1 i (Nat.zero_le _) (by omega)
  | some j =>
    obtain ⟨h1, h2, h3, h4⟩ := srch_some h
    symm
    rw [Option.isSome_some, anyN_iff]
    exact ⟨j, by omega, h3⟩
def sumN (f : Nat → Nat) : Nat → Nat
  | 0 => 0
  | k + 1 => sumN f k + f k
theorem sumN_le {f : Nat → Nat} {c : Nat} : ∀ k, (∀ i, i < k → f i ≤ c) → sumN f k ≤ k * c := by
  intro k
  induction k with
  | zero => intro _; simp [sumN]
  | succ k ih =>
    intro h
    have h1 := ih (fun i hi => h i (by omega))
    have h2 := h k (by omega)
    rw [sumN, Nat.succ_mul]
    omega
theorem sumN_congr {f g : Nat → Nat} {k : Nat} (h : ∀ i, i < k → f i = g i) : sumN f k = sumN g k := by
  induction k with
  | zero => rfl
  | succ k ih => rw [sumN, sumN, ih (fun i hi => h i (by omega)), h k (by omega)]
theorem cnt_congr {P Q : Nat → Bool} {k : Nat} (h : ∀ i, i < k → P i = Q i) : cnt P k = cnt Q k := by
  induction k with
  | zero => rfl
  | succ k ih => rw [cnt, cnt, ih (fun i hi => h i (by omega)), h k (by omega)]
theorem cnt_ext {P Q : Nat → Bool} {m k : Nat} (hmk : m ≤ k) (h : ∀ i, i < k → P i = (decide (i < m) && Q i)) : cnt P k = cnt Q m := by
  induction k with
  | zero =>
    have e : m = 0 := by omega
    subst e; rfl
  | succ k ih =>
    by_cases e : m = k + 1
    · subst e
      exact cnt_congr (fun i hi => by rw [h i hi]; simp [hi])
    · rw [cnt, ih (by omega) (fun i hi => h i (by omega)), h k (by omega)]
      have : ¬ k < m := by omega
      simp [this]
theorem bs_congr {P Q : Nat → Bool} {k : Nat} (h : ∀ i, i < k → P i = Q i) : bs P k = bs Q k := by
  induction k with
  | zero => rfl
  | succ k ih => rw [bs, bs, ih (fun i hi => h i (by omega)), h k (by omega)]
theorem bs_eq {P Q : Nat → Bool} {m k : Nat} (hm : m ≤ 32) (hk : k ≤ 32) (h : ∀ i, (decide (i < m) && P i) = (decide (i < k) && Q i)) : bs P m = bs Q k := by
  apply b_ext
  intro i hi
  rw [bt_bs P m hm, bt_bs Q k hk, h i]
theorem rd_z {α : Type} {g : Nat → α} {len : Nat} (h : 0 < len) (hl : len < 2 ^ 31) : rd g len (0 : Int32) = some (g 0) := rd_nI (i := 0) h hl
theorem rd_o {α : Type} {g : Nat → α} {len : Nat} (h : 1 < len) (hl : len < 2 ^ 31) : rd g len (1 : Int32) = some (g 1) := rd_nI (i := 1) h hl
theorem wr_z {S : ST} {a len : Nat} {v : Int32} (h : 0 < len) (hl : len < 2 ^ 31) : wr S a len (0 : Int32) v = some (upI S a 0 v) := wr_nI (i := 0) h hl
theorem wr_o {S : ST} {a len : Nat} {v : Int32} (h : 1 < len) (hl : len < 2 ^ 31) : wr S a len (1 : Int32) v = some (upI S a 1 v) := wr_nI (i := 1) h hl
/-- a set given by its bits -/
theorem bs_of {x : Int32} {P : Nat → Bool} {k : Nat} (hk : k ≤ 32) (h : ∀ i, i < 32 → bt x i = (decide (i < k) && P i)) : x = bs P k := by
  apply b_ext
  intro i hi
  rw [bt_bs P k hk, h i hi]
theorem bt_lt {P : Nat → Bool} {k : Nat} (hk : k ≤ 32) {i : Nat} (hi : i < k) : bt (bs P k) i = P i := by
  rw [bt_bs P k hk]; simp [hi]
/-- frames at a cell -/
theorem Df.a1 {X : Nat → Nat → Bool} {S S' : ST} (h : Df X S S') {a j : Nat} (hx : X a j = false) : S'.1 a j = S.1 a j := h.2 a j hx
theorem upI_at {S : ST} {t j a i : Nat} {v : Int32} : (upI S t j v).1 a i = if a = t ∧ i = j then v else S.1 a i := by
  by_cases h : a = t
  · subst h
    rw [upI_eq]
    by_cases h2 : i = j
    · subst h2; simp [upf]
    · simp [upf, h2]
  · rw [upI_ne h]; simp [h]
theorem c_hasBit {n : Nat} {S : ST} {x : Int32} {k : Nat} (hk : k < 32) : E_X11_hasBit n S x (nI k) = some (bI (bt x k)) := by
  unfold E_X11_hasBit
  by_cases c : bt x k = true
  · rw [if_pos ((ush_1 x hk).mpr c), c]; rfl
  · rw [if_neg (fun h => c ((ush_1 x hk).mp h))]
    simp only [Bool.not_eq_true] at c
    rw [c]; rfl
theorem sh1 {x : Int32} {k : Nat} (hk : k < 32) : ((x >>> (nI k &&& 31)) &&& 1 = 1) = (bt x k = true) := propext (shr_1 x hk)
theorem sh0 {x : Int32} {k : Nat} (hk : k < 32) : ((x >>> (nI k &&& 31)) &&& 1 = 0) = (bt x k = false) := propext (shr_0 x hk)
/-- cells from b on, of k, by B -/
def mixF (A B : Nat → Int32) (b k : Nat) : Nat → Int32 := fun j => if b ≤ j ∧ j < b + k then B j else A j
theorem mixF_0 {A B : Nat → Int32} {b : Nat} : mixF A B b 0 = A := by
  funext j
  unfold mixF
  rw [if_neg (by omega)]
theorem mixF_up {A B : Nat → Int32} {b k : Nat} : upf (mixF A B b k) (b + k) (B (b + k)) = mixF A B b (k + 1) := by
  funext j
  unfold mixF upf
  by_cases h : j = b + k
  · subst h
    rw [if_pos rfl, if_pos (by omega)]
  · rw [if_neg h]
    dsimp only
    by_cases h2 : b ≤ j ∧ j < b + k
    · rw [if_pos h2, if_pos (by omega)]
    · rw [if_neg h2, if_neg (by omega)]
theorem mixF_skip {A B : Nat → Int32} {b k : Nat} (e : B (b + k) = A (b + k)) : mixF A B b (k + 1) = mixF A B b k := by
  rw [← mixF_up]
  funext j
  by_cases h : j = b + k
  · subst h
    unfold upf mixF
    rw [if_pos rfl, if_neg (by omega), e]
  · rw [upf_ne _ _ h]
theorem mixF_in {A B : Nat → Int32} {b k j : Nat} (h1 : b ≤ j) (h2 : j < b + k) : mixF A B b k j = B j := if_pos ⟨h1, h2⟩
theorem mixF_out {A B : Nat → Int32} {b k j : Nat} (h : j < b ∨ b + k ≤ j) : mixF A B b k j = A j := if_neg (by omega)
def Xc (a : Nat) : Nat → Nat → Bool := fun c _ => c == a
theorem Xc_set {S : ST} {a : Nat} {g : Nat → Int32} : Df (Xc a) S (setC S a g) := (Df.refl _ _).set (fun _ => by simp [Xc])
/-- a loop that goes through an array's cells -/
theorem loopMap {f : Int32 × ST → Option (Int32 × ST ⊕ ST)} {n : Nat} {S : ST} (a b k : Nat) (B : Nat → Int32) (hn : k < n)
    (hs : ∀ i S1, i < k → Df (Xc a) S S1 → S1.1 a (b + i) = S.1 a (b + i) → f (nI i, S1) = some (.inl (nI (i + 1), upI S1 a (b + i) (B (b + i)))) ∨ (B (b + i) = S.1 a (b + i) ∧ f (nI i, S1) = some (.inl (nI (i + 1), S1))))
    (he : ∀ S1, Df (Xc a) S S1 → f (nI k, S1) = some (.inr S1)) : iter f n ((0 : Int32), S) = some (setC S a (mixF (S.1 a) B b k)) := by
  refine loopP (fun i => (nI i, setC S a (mixF (S.1 a) B b i))) 0 k (Nat.zero_le _) hn ?_ ?_ ?_
  · show ((0 : Int32), S) = (nI 0, setC S a (mixF (S.1 a) B b 0))
    rw [mixF_0, setC_self]; rfl
  · intro i _ hi
    have h1 : (setC S a (mixF (S.1 a) B b i)).1 a (b + i) = S.1 a (b + i) := by rw [setC_eq, mixF_out (by omega)]
    rcases hs i _ hi Xc_set h1 with h | ⟨h, h2⟩
    · show f (nI i, setC S a (mixF (S.1 a) B b i)) = _
      rw [h, upI_setC, setC_eq, setC_setC, mixF_up]
    · show f (nI i, setC S a (mixF (S.1 a) B b i)) = _
      rw [h2, mixF_skip h]
  · exact he _ Xc_set
theorem jnH1 {α β : Type} {A : α → Option β} {f : (α → Option β) → Option β} {R : β → Prop} (C : α → Prop) (hA : ∀ u, C u → Ok (A u) R) (hf : ∀ J : α → Option β, (∀ u, C u → Ok (J u) R) → Ok (f J) R) : Ok (jn A f) R := hf A hA
theorem jnH2 {α α' β : Type} {A : α → α' → Option β} {f : (α → α' → Option β) → Option β} {R : β → Prop} (C : α → α' → Prop) (hA : ∀ u s, C u s → Ok (A u s) R) (hf : ∀ J : α → α' → Option β, (∀ u s, C u s → Ok (J u s) R) → Ok (f J) R) : Ok (jn A f) R := hf A hA
theorem jnH3 {α α' α'' β : Type} {A : α → α' → α'' → Option β} {f : (α → α' → α'' → Option β) → Option β} {R : β → Prop} (C : α → α' → α'' → Prop) (hA : ∀ u s q, C u s q → Ok (A u s q) R) (hf : ∀ J : α → α' → α'' → Option β, (∀ u s q, C u s q → Ok (J u s q) R) → Ok (f J) R) : Ok (jn A f) R := hf A hA
theorem jnH0 {β : Type} {A : Option β} {f : Option β → Option β} {R : β → Prop} (hA : Ok A R) (hf : ∀ J : Option β, Ok J R → Ok (f J) R) : Ok (jn A f) R := hf A hA
/-! one step of a walk at a time -/
theorem Ok.step {α β : Type} {o : Option α} {x : α} {f : α → Option β} {R : β → Prop} (h : o = some x) (hg : Ok (f x) R) : Ok (o.bind f) R := by
  rw [h, Option.bind_some]; exact hg
theorem Ok.ifT {β : Type} {c : Prop} {dc : Decidable c} {A B : Option β} {R : β → Prop} (h : c) (k : Ok A R) : Ok (if c then A else B) R := by rw [if_pos h]; exact k
theorem Ok.ifF {β : Type} {c : Prop} {dc : Decidable c} {A B : Option β} {R : β → Prop} (h : ¬ c) (k : Ok B R) : Ok (if c then A else B) R := by rw [if_neg h]; exact k
theorem Ok.ifC {β : Type} {c : Prop} {dc : Decidable c} {A B : Option β} {R : β → Prop} (k : c → Ok A R) (k2 : ¬ c → Ok B R) : Ok (if c then A else B) R := by
  by_cases h : c
  · rw [if_pos h]; exact k h
  · rw [if_neg h]; exact k2 h
theorem Ok.jnU {α β : Type} {A : α} {f : α → Option β} {R : β → Prop} (h : Ok (f A) R) : Ok (jn A f) R := h
theorem Ok.letsU {α β : Type} {A : α} {f : α → Option β} {R : β → Prop} (h : Ok (f A) R) : Ok (lets A f) R := h
theorem Ok.gdT {β : Type} {p : Prop} {dp : Decidable p} {u : Option β} {R : β → Prop} (h : p) (k : Ok u R) : Ok (gd p u) R := by rw [gd_pos h]; exact k
theorem Ok.elL {α α' β : Type} {f : α → Option β} {g : α' → Option β} {x : α} {R : β → Prop} (h : Ok (f x) R) : Ok (Sum.elim f g (.inl x)) R := h
theorem Ok.elR {α α' β : Type} {f : α → Option β} {g : α' → Option β} {x : α'} {R : β → Prop} (h : Ok (g x) R) : Ok (Sum.elim f g (.inr x)) R := h
theorem Ok.e {α : Type} {o : Option α} {x : α} (h : Ok o (fun r => r = x)) : o = some x := by
  obtain ⟨y, h1, h2⟩ := h
  rw [h1, h2]
theorem Ok.of {α : Type} {o : Option α} {x : α} (h : o = some x) : Ok o (fun r => r = x) := ⟨x, h, rfl⟩
/-- a loop over numbers alone -/
theorem bindP {σ ρ β : Type} {f : σ → Option (σ ⊕ ρ)} {g : ρ → Option β} {s0 : σ} {n : Nat} {R : β → Prop} (st : Nat → σ) (e : ρ) (i0 k : Nat) (hik : i0 ≤ k) (hn : k < n) (h0 : s0 = st i0) (hs : ∀ i, i0 ≤ i → i < k → Ok (f (st i)) (fun r => r = .inl (st (i + 1)))) (he : Ok (f (st k)) (fun r => r = .inr e)) (hg : Ok (g e) R) : Ok ((iter f n s0).bind g) R := Ok.step (loopP st i0 k hik hn h0 (fun i h1 h2 => (hs i h1 h2).e) he.e) hg
/-- a loop that looks for the first with Pd -/
theorem bindS {ρ β : Type} {f : Int32 → Option (Int32 ⊕ ρ)} {g : ρ → Option β} {n : Nat} {R : β → Prop} (k : Nat) (Pd : Nat → Bool) (rf : Nat → ρ) (re : ρ) (hn : k < n) (hs : ∀ i, i < k → Ok (f (nI i)) (fun r => r = if Pd i = true then .inr (rf i) else .inl (nI (i + 1)))) (he : Ok (f (nI k)) (fun r => r = .inr re)) (hg1 : ∀ i, i < k → Pd i = true → (∀ j, j < i → Pd j = false) → Ok (g (rf i)) R) (hg2 : (∀ j, j < k → Pd j = false) → Ok (g re) R) : Ok ((iter f n (0 : Int32)).bind g) R := by
  have h1 : iter f n (nI 0) = some ((srch Pd 0 k).elim re rf) := iter_find (fun i => nI i) k Pd rf re (fun i hi => by rw [(hs i hi).e]; split <;> rfl) he.e k 0 n (by omega) hn
  have h2 : iter f n (0 : Int32) = some ((srch Pd 0 k).elim re rf) := h1
  rw [h2, Option.bind_some]
  cases h : srch Pd 0 k with
  | none =>
    have h3 := srch_none h
    exact hg2 (fun j hj => h3 j (Nat.zero_le _) (by omega))
  | some i =>
    obtain ⟨h3, h4, h5, h6⟩ := srch_some h
    exact hg1 i (by omega) h5 (fun j hj => h6 j (Nat.zero_le _) hj)
/-! the reference's tables, cell by cell -/
theorem t_108 {W : VW} {sd : Nat} {S : ST} (hR : RRep W sd S) : ∀ k, k < W 0 1 → S.1 108 (10 * sd + k) = nI (W 1 k) := fun k hk => hR.2.2.2.2.2 (1, 108, 10, 1) (by decide) k hk
theorem t_109 {W : VW} {sd : Nat} {S : ST} (hR : RRep W sd S) : ∀ k, k < W 0 1 → S.1 109 (10 * sd + k) = nI (W 2 k) := fun k hk => hR.2.2.2.2.2 (2, 109, 10, 1) (by decide) k hk
theorem t_110 {W : VW} {sd : Nat} {S : ST} (hR : RRep W sd S) : ∀ k, k < W 0 2 → S.1 110 (6 * sd + k) = nI (W 3 k) := fun k hk => hR.2.2.2.2.2 (3, 110, 6, 2) (by decide) k hk
theorem t_111 {W : VW} {sd : Nat} {S : ST} (hR : RRep W sd S) : ∀ k, k < W 0 3 → S.1 111 (8 * sd + k) = nI (W 4 k) := fun k hk => hR.2.2.2.2.2 (4, 111, 8, 3) (by decide) k hk
theorem t_112 {W : VW} {sd : Nat} {S : ST} (hR : RRep W sd S) : ∀ k, k < W 0 3 → S.1 112 (8 * sd + k) = nI (W 5 k) := fun k hk => hR.2.2.2.2.2 (5, 112, 8, 3) (by decide) k hk
theorem t_113 {W : VW} {sd : Nat} {S : ST} (hR : RRep W sd S) : ∀ k, k < W 0 4 → S.1 113 (20 * sd + k) = nI (W 6 k) := fun k hk => hR.2.2.2.2.2 (6, 113, 20, 4) (by decide) k hk
theorem t_114 {W : VW} {sd : Nat} {S : ST} (hR : RRep W sd S) : ∀ k, k < W 0 4 → S.1 114 (20 * sd + k) = nI (W 7 k) := fun k hk => hR.2.2.2.2.2 (7, 114, 20, 4) (by decide) k hk
theorem t_115 {W : VW} {sd : Nat} {S : ST} (hR : RRep W sd S) : ∀ k, k < W 0 4 → S.1 115 (20 * sd + k) = nI (W 8 k) := fun k hk => hR.2.2.2.2.2 (8, 115, 20, 4) (by decide) k hk
theorem t_116 {W : VW} {sd : Nat} {S : ST} (hR : RRep W sd S) : ∀ k, k < W 0 4 → S.1 116 (20 * sd + k) = nI (W 9 k) := fun k hk => hR.2.2.2.2.2 (9, 116, 20, 4) (by decide) k hk
theorem t_117 {W : VW} {sd : Nat} {S : ST} (hR : RRep W sd S) : ∀ k, k < W 0 5 → S.1 117 (12 * sd + k) = nI (W 10 k) := fun k hk => hR.2.2.2.2.2 (10, 117, 12, 5) (by decide) k hk
theorem t_118 {W : VW} {sd : Nat} {S : ST} (hR : RRep W sd S) : ∀ k, k < W 0 5 → S.1 118 (12 * sd + k) = nI (W 11 k) := fun k hk => hR.2.2.2.2.2 (11, 118, 12, 5) (by decide) k hk
theorem t_119 {W : VW} {sd : Nat} {S : ST} (hR : RRep W sd S) : ∀ k, k < W 0 6 → S.1 119 (12 * sd + k) = nI (W 12 k) := fun k hk => hR.2.2.2.2.2 (12, 119, 12, 6) (by decide) k hk
theorem t_120 {W : VW} {sd : Nat} {S : ST} (hR : RRep W sd S) : ∀ k, k < W 0 6 → S.1 120 (12 * sd + k) = nI (W 13 k) := fun k hk => hR.2.2.2.2.2 (13, 120, 12, 6) (by decide) k hk
theorem t_121 {W : VW} {sd : Nat} {S : ST} (hR : RRep W sd S) : ∀ k, k < W 0 6 → S.1 121 (12 * sd + k) = nI (W 14 k) := fun k hk => hR.2.2.2.2.2 (14, 121, 12, 6) (by decide) k hk
theorem t_122 {W : VW} {sd : Nat} {S : ST} (hR : RRep W sd S) : ∀ k, k < W 0 7 → S.1 122 (6 * sd + k) = nI (W 15 k) := fun k hk => hR.2.2.2.2.2 (15, 122, 6, 7) (by decide) k hk
theorem t_123 {W : VW} {sd : Nat} {S : ST} (hR : RRep W sd S) : ∀ k, k < W 0 7 → S.1 123 (6 * sd + k) = nI (W 16 k) := fun k hk => hR.2.2.2.2.2 (16, 123, 6, 7) (by decide) k hk
theorem t_124 {W : VW} {sd : Nat} {S : ST} (hR : RRep W sd S) : ∀ k, k < W 0 8 → S.1 124 (4 * sd + k) = nI (W 17 k) := fun k hk => hR.2.2.2.2.2 (17, 124, 4, 8) (by decide) k hk
theorem t_sd {W : VW} {sd : Nat} {S : ST} (hR : RRep W sd S) : S.1 95 18 = nI sd := hR.2.1
theorem t_107 {W : VW} {sd : Nat} {S : ST} (hR : RRep W sd S) : S.1 107 sd = nI (W 0 8) := hR.2.2.2.1
theorem t_125 {W : VW} {sd : Nat} {S : ST} (hR : RRep W sd S) : ∀ s, s < 2 → S.1 125 (2 * sd + s) = nI (W 0 (9 + s)) := hR.2.2.2.2.1
theorem dec_comm (a b : Nat) : decide (a = b) = decide (b = a) := by apply decide_eq_decide.mpr; exact eq_comm
/-- the same from i0 on -/
theorem bindS0 {ρ β : Type} {f : Int32 → Option (Int32 ⊕ ρ)} {g : ρ → Option β} {n : Nat} {R : β → Prop} (i0 k : Nat) (Pd : Nat → Bool) (rf : Nat → ρ) (re : ρ) (hik : i0 ≤ k) (hn : k < n) (hs : ∀ i, i0 ≤ i → i < k → Ok (f (nI i)) (fun r => r = if Pd i = true then .inr (rf i) else .inl (nI (i + 1)))) (he : Ok (f (nI k)) (fun r => r = .inr re)) (hg1 : ∀ i, i0 ≤ i → i < k → Pd i = true → (∀ j, i0 ≤ j → j < i → Pd j = false) → Ok (g (rf i)) R) (hg2 : (∀ j, i0 ≤ j → j < k → Pd j = false) → Ok (g re) R) : Ok ((iter f n (nI i0)).bind g) R := by
  refine bindL (fun i s => s = nI i ∧ ∀ j, i0 ≤ j → j < i → Pd j = false) (fun r => (∃ i, i0 ≤ i ∧ i < k ∧ Pd i = true ∧ (∀ j, i0 ≤ j → j < i → Pd j = false) ∧ r = rf i) ∨ ((∀ j, i0 ≤ j → j < k → Pd j = false) ∧ r = re)) i0 k hik hn ⟨rfl, fun j h1 h2 => absurd h1 (by omega)⟩ ?_ ?_ ?_
  · rintro i s h1 h2 ⟨rfl, h3⟩
    obtain ⟨r, e, h4⟩ := hs i h1 h2
    rw [e]
    by_cases c : Pd i = true
    · rw [if_pos c] at h4
      subst h4
      exact Ok.inr (Or.inl ⟨i, h1, h2, c, h3, rfl⟩)
    · rw [if_neg c] at h4
      subst h4
      refine Ok.inl ⟨rfl, fun j h5 h6 => ?_⟩
      by_cases e2 : j = i
      · subst e2; simpa using c
      · exact h3 j h5 (by omega)
  · rintro s ⟨rfl, h3⟩
    obtain ⟨r, e, h4⟩ := he
    subst h4
    rw [e]
    exact Ok.inr (Or.inr ⟨h3, rfl⟩)
  · rintro r (⟨i, h1, h2, h3, h4, rfl⟩ | ⟨h1, rfl⟩)
    · exact hg1 i h1 h2 h3 h4
    · exact hg2 h1
