/-! ===== what holds of an answer; loops by an invariant ===== -/
def Ok {α : Type} (o : Option α) (R : α → Prop) : Prop := ∃ x, o = some x ∧ R x
theorem Ok.ret {α : Type} {x : α} {R : α → Prop} (h : R x) : Ok (some x) R := ⟨x, rfl, h⟩
theorem Ok.bind {α β : Type} {o : Option α} {g : α → Option β} {Q : α → Prop} {R : β → Prop} (h : Ok o Q) (hg : ∀ x, Q x → Ok (g x) R) : Ok (o.bind g) R := by
  obtain ⟨x, e, hx⟩ := h
  rw [e, Option.bind_some]
  exact hg x hx
theorem Ok.mono {α : Type} {o : Option α} {Q R : α → Prop} (h : Ok o Q) (hq : ∀ x, Q x → R x) : Ok o R := by
  obtain ⟨x, e, hx⟩ := h
  exact ⟨x, e, hq x hx⟩
theorem Ok.eq {α : Type} {o : Option α} {x : α} {R : α → Prop} (h : o = some x) (hx : R x) : Ok o R := ⟨x, h, hx⟩
theorem iterQ {σ ρ : Type} {f : σ → Option (σ ⊕ ρ)} (I : Nat → σ → Prop) (Q : ρ → Prop) (k : Nat) (hs : ∀ i s, i < k → I i s → Ok (f s) (Sum.elim (I (i + 1)) Q)) (he : ∀ s, I k s → Ok (f s) (Sum.elim (fun _ => False) Q)) : ∀ (d i n : Nat) (s : σ), i + d = k → d < n → I i s → Ok (iter f n s) Q := by
  intro d
  induction d with
  | zero =>
    intro i n s hi hn hI
    cases n with
    | zero => omega
    | succ n =>
      have hik : i = k := by omega
      subst hik
      obtain ⟨x, e, hx⟩ := he s hI
      cases x with
      | inl x => exact hx.elim
      | inr x => exact ⟨x, by rw [iter, e]; rfl, hx⟩
  | succ d ih =>
    intro i n s hi hn hI
    cases n with
    | zero => omega
    | succ n =>
      obtain ⟨x, e, hx⟩ := hs i s (by omega) hI
      cases x with
      | inl x =>
        obtain ⟨y, e2, hy⟩ := ih (i + 1) n x (by omega) (by omega) hx
        exact ⟨y, by rw [iter, e]; exact e2, hy⟩
      | inr x => exact ⟨x, by rw [iter, e]; rfl, hx⟩
theorem bindQ {σ ρ β : Type} {f : σ → Option (σ ⊕ ρ)} {g : ρ → Option β} {s0 : σ} {n : Nat} {R : β → Prop} (I : Nat → σ → Prop) (Q : ρ → Prop) (k : Nat) (hn : k < n) (h0 : I 0 s0) (hs : ∀ i s, i < k → I i s → Ok (f s) (Sum.elim (I (i + 1)) Q)) (he : ∀ s, I k s → Ok (f s) (Sum.elim (fun _ => False) Q)) (hg : ∀ r, Q r → Ok (g r) R) : Ok ((iter f n s0).bind g) R := Ok.bind (iterQ I Q k hs he k 0 n s0 (by omega) hn h0) hg
/-! ===== what a method leaves as it was ===== -/
/-- S' is S but for the cells of X -/
def Df (X : Nat → Nat → Bool) (S S' : ST) : Prop := S'.2 = S.2 ∧ ∀ a j, X a j = false → S'.1 a j = S.1 a j
theorem Df.refl (X : Nat → Nat → Bool) (S : ST) : Df X S S := ⟨rfl, fun _ _ _ => rfl⟩
theorem Df.trans {X : Nat → Nat → Bool} {S S' S'' : ST} (h : Df X S S') (h2 : Df X S' S'') : Df X S S'' := ⟨h2.1.trans h.1, fun a j hx => (h2.2 a j hx).trans (h.2 a j hx)⟩
theorem Df.mono {X Y : Nat → Nat → Bool} {S S' : ST} (h : Df X S S') (hxy : ∀ a j, Y a j = false → X a j = false) : Df Y S S' := ⟨h.1, fun a j hy => h.2 a j (hxy a j hy)⟩
theorem Df.up {X : Nat → Nat → Bool} {S S' : ST} {t j : Nat} {v : Int32} (h : Df X S S') (hx : X t j = true) : Df X S (upI S' t j v) := by
  refine ⟨h.1, fun a i hi => ?_⟩
  by_cases e : a = t
  · subst e
    rw [upI_eq]
    by_cases e2 : i = j
    · subst e2; rw [hx] at hi; cases hi
    · rw [upf_ne _ _ e2]; exact h.2 a i hi
  · rw [upI_ne e]; exact h.2 a i hi
theorem Df.set {X : Nat → Nat → Bool} {S S' : ST} {t : Nat} {g : Nat → Int32} (h : Df X S S') (hx : ∀ j, X t j = true) : Df X S (setC S' t g) := by
  refine ⟨h.1, fun a i hi => ?_⟩
  by_cases e : a = t
  · subst e; rw [hx] at hi; cases hi
  · rw [setC_ne e]; exact h.2 a i hi
theorem RRep.df {W : VW} {sd : Nat} {X : Nat → Nat → Bool} {S S' : ST} (hR : RRep W sd S) (h : Df X S S') (hx : ∀ a j, (105 < a ∧ a < 126) ∨ (a = 95 ∧ j = 18) → X a j = false) : RRep W sd S' := by
  obtain ⟨h1, h2, h3, h4, h5, h6⟩ := hR
  refine ⟨h1, ?_, ?_, ?_, ?_, ?_⟩
  · rw [h.2 _ _ (hx _ _ (Or.inr ⟨rfl, rfl⟩))]; exact h2
  · intro k hk
    rw [h.2 _ _ (hx _ _ (Or.inl (by omega)))]; exact h3 k hk
  · rw [h.2 _ _ (hx _ _ (Or.inl (by omega)))]; exact h4
  · intro k hk
    rw [h.2 _ _ (hx _ _ (Or.inl (by omega)))]; exact h5 k hk
  · intro q hq k hk
    rw [h.2 _ _ (hx _ _ (Or.inl ((by decide : ∀ q ∈ TW, 105 < q.2.1 ∧ q.2.1 < 126) q hq)))]
    exact h6 q hq k hk
