/-! ===== laws: the class goes through the steps ===== -/
def SkA (a : Nat) : List Int32 → ST → Prop
  | [], _ => True
  | v :: F, S => S.1 a F.length = v ∧ SkA a F S
theorem SkA.fr {a : Nat} {F : List Int32} {S S' : ST} (h : SkA a F S) (e : ∀ j, j < F.length → S'.1 a j = S.1 a j) : SkA a F S' := by
  induction F with
  | nil => trivial
  | cons v F ih => exact ⟨by rw [e _ (by rw [List.length_cons]; omega)]; exact h.1, ih h.2 (fun j hj => e j (by rw [List.length_cons]; omega))⟩
theorem SkA.push {a : Nat} {F : List Int32} {S : ST} {v : Int32} (h : SkA a F S) : SkA a (v :: F) (upI S a F.length v) := ⟨by rw [upI_at, if_pos ⟨rfl, rfl⟩], h.fr (fun j hj => by rw [upI_at, if_neg (by omega)])⟩
theorem nI_dec1 {m : Nat} : nI (m + 1) + (-1 : Int32) = nI m := by
  rw [← nI_1, Int32.add_assoc, show (1 : Int32) + (-1) = 0 by decide, Int32.add_zero]
theorem nI_sub1 {m : Nat} : nI (m + 1) - (1 : Int32) = nI m := by
  rw [← nI_1, Int32.add_sub_cancel]
theorem StpC.hd {l a : Nat} {x : Nat × Nat} {A : CD} {S : ST} (h : StpC l a (x :: A) S) : (S.1 (l + 1) a = nI x.1 ∧ (x.1 = 21 → S.1 (l + 2) a = nI x.2)) ∧ StpC l (a + 1) A S := h
section CHO
variable {n l : Nat} {S : ST}
theorem c_combine {k : Nat} {a b : Int32} (hk : (k = 13 ∨ k = 14) ∨ (24 ≤ k ∧ k ≤ 31)) : E_X4_combine n S (nI k) a b = some (cbV k a b) := by
  have hcs : k = 13 ∨ k = 14 ∨ k = 24 ∨ k = 25 ∨ k = 26 ∨ k = 27 ∨ k = 28 ∨ k = 29 ∨ k = 30 ∨ k = 31 := by omega
  unfold E_X4_combine
  rcases hcs with h | h | h | h | h | h | h | h | h | h
  · subst h; rfl
  · subst h; rfl
  · subst h; rfl
  · subst h; rfl
  · subst h; rfl
  · subst h
    show (if b = 0 then some (0 : Int32) else gd (¬ b = 0) (some (a / b))) = some (if b = 0 then 0 else a / b)
    by_cases c : b = 0
    · rw [if_pos c, if_pos c]
    · rw [if_neg c, if_neg c, gd_pos c]
  · subst h
    show (if a = b then some (1 : Int32) else some (0 : Int32)) = some (bI (decide (a = b)))
    exact bI_if
  · subst h
    show (if a = b then some (0 : Int32) else some (1 : Int32)) = some (bI (decide (a ≠ b)))
    exact bI_ifn
  · subst h
    show (if b ≤ a then some (0 : Int32) else some (1 : Int32)) = some (bI (decide (a < b)))
    rw [bI_ifn]
    congr 2
    apply decide_eq_decide.mpr
    exact Int32.not_le
  · subst h
    show (if b < a then some (0 : Int32) else some (1 : Int32)) = some (bI (decide (a ≤ b)))
    rw [bI_ifn]
    congr 2
    apply decide_eq_decide.mpr
    exact Int32.not_lt
theorem stp_bin {v : Nat → Int32} {x : Nat × Nat} {y a : Int32} {t : List Int32} {z : Bool} (h : (x.1 = 13 ∨ x.1 = 14) ∨ (24 ≤ x.1 ∧ x.1 ≤ 31)) : stp v x (y :: a :: t, z) = if 28 ≤ x.1 then ((if z = true then 0 else cbV x.1 a y) :: t, false) else (cbV x.1 a y :: t, z || (x.1 == 27 && y == 0)) := by
  unfold stp
  rw [if_neg (by omega), if_neg (by omega), if_neg (by omega)]
theorem c_holdsE {i a : Nat} {E : CD} {b : Bool} {vv : Nat → Int32} (hn : 30000 ≤ n) (hi : i < 8) (h3 : S.1 (l + 3) i = nI a) (h4 : S.1 (l + 4) i = nI (a + E.length)) (hlen : a + E.length ≤ 400) (hS : StpC l a E S) (hw : wE E 0 1) (hvv : ∀ j, j < 4 → vv j = S.1 (l + 6) j) (hv : exC vv E ([], false) = ([bI b], false)) : Ok (E_X4_holds n S l (nI i)) (fun r => r.1 = bI b ∧ Df (Xc (l + 7)) S r.2) := by
  unfold E_X4_holds
  apply Ok.step (rd_nI hi (by decide))
  rw [h3]
  refine bindL (fun j (s : Int32 × Int32 × Int32 × ST) => ∃ (A : CD) (p : List Int32 × Bool), j + A.length = E.length ∧ s.1 = nI p.1.length ∧ s.2.1 = bI p.2 ∧ s.2.2.1 = nI (a + j) ∧ Df (Xc (l + 7)) S s.2.2.2 ∧ SkA (l + 7) p.1 s.2.2.2 ∧ wE A p.1.length 1 ∧ p.1.length ≤ 32 ∧ StpC l (a + j) A S ∧ exC vv A p = ([bI b], false)) (fun e => e.1 = nI 1 ∧ Df (Xc (l + 7)) S e.2 ∧ e.2.1 (l + 7) 0 = bI b) 0 E.length (Nat.zero_le _) (by omega) ⟨E, ([], false), by omega, rfl, rfl, rfl, Df.refl _ _, trivial, hw, by decide, hS, hv⟩ ?_ ?_ ?_
  · rintro j ⟨top, bz, ix, S1⟩ _ hj ⟨A, ⟨st, z⟩, hA, rfl, rfl, rfl, d1, k1, w1, l1, s1, x1⟩
    dsimp only at d1 k1 w1 l1 s1 x1 ⊢
    have of : ∀ c j, c ≠ l + 7 → S1.1 c j = S.1 c j := fun c j h => d1.2 _ _ (by simp [Xc]; exact h)
    apply Ok.step (x := nI (a + E.length)) (by rw [rd_nI hi (by decide), of _ _ (by omega), h4])
    refine Ok.ifF (nI_ge (by omega) (by omega)) ?_
    match A, hA, w1, s1, x1 with
    | [], hA, _, _, _ => exact absurd hA (by simp only [List.length_nil]; omega)
    | (k, wv) :: A', hA, w1, s1, x1 =>
    rw [List.length_cons] at hA
    obtain ⟨⟨g1, g2⟩, s2⟩ := s1.hd
    dsimp only at g1 g2
    rw [exC_cons] at x1
    unfold wE at w1
    dsimp only at w1
    apply Ok.step (x := nI k) (by rw [rd_nI (by omega) (by decide), of _ _ (by omega), g1])
    have nxt : ∀ (p' : List Int32 × Bool) (S2 : ST), Df (Xc (l + 7)) S S2 → SkA (l + 7) p'.1 S2 → wE A' p'.1.length 1 → p'.1.length ≤ 32 → exC vv A' p' = ([bI b], false) → Sum.elim (fun s => ∃ (A : CD) (p : List Int32 × Bool), (j + 1) + A.length = E.length ∧ s.1 = nI p.1.length ∧ s.2.1 = bI p.2 ∧ s.2.2.1 = nI (a + (j + 1)) ∧ Df (Xc (l + 7)) S s.2.2.2 ∧ SkA (l + 7) p.1 s.2.2.2 ∧ wE A p.1.length 1 ∧ p.1.length ≤ 32 ∧ StpC l (a + (j + 1)) A S ∧ exC vv A p = ([bI b], false)) (fun e => e.1 = nI 1 ∧ Df (Xc (l + 7)) S e.2 ∧ e.2.1 (l + 7) 0 = bI b) (Sum.inl (nI p'.1.length, bI p'.2, nI (a + j) + (1 : Int32), S2) : (Int32 × Int32 × Int32 × ST) ⊕ (Int32 × ST)) := fun p' S2 e1 e2 e3 e4 e5 => ⟨A', p', by omega, rfl, rfl, by rw [nI_1]; rfl, e1, e2, e3, e4, s2, e5⟩
    have up : ∀ {S2 : ST} {t : Nat} {u : Int32}, Df (Xc (l + 7)) S S2 → Df (Xc (l + 7)) S (upI S2 (l + 7) t u) := fun d => d.up (by simp [Xc])
    refine jnH3 (fun u6 u7 S8 => ∃ p' : List Int32 × Bool, u6 = nI p'.1.length ∧ u7 = bI p'.2 ∧ Df (Xc (l + 7)) S S8 ∧ SkA (l + 7) p'.1 S8 ∧ wE A' p'.1.length 1 ∧ p'.1.length ≤ 32 ∧ exC vv A' p' = ([bI b], false)) (fun u6 u7 S8 hq => by
      obtain ⟨p', rfl, rfl, e1, e2, e3, e4, e5⟩ := hq
      exact ⟨_, rfl, nxt p' S8 e1 e2 e3 e4 e5⟩) (fun J hJ => ?_)
    by_cases cu : k = 21 ∨ (16 ≤ k ∧ k ≤ 19)
    · rw [if_pos cu] at w1
      apply Ok.jnU
      have go : Ok (if (32 : Int32) ≤ nI st.length then J (nI st.length) (bI z) S1 else jn (fun (u11 : Int32) => (wr S1 (l + 7) 32 (nI st.length) u11).bind fun S12 => J (nI st.length + (1 : Int32)) (bI z) S12) fun j13 => if nI k = (21 : Int32) then (rd (S1.1 (l + 2)) 400 (nI (a + j))).bind fun v15 => j13 v15 else (rd (S1.1 (l + 6)) 4 (nI k - (16 : Int32))).bind fun v16 => j13 v16) (Sum.elim (fun s => ∃ (A : CD) (p : List Int32 × Bool), (j + 1) + A.length = E.length ∧ s.1 = nI p.1.length ∧ s.2.1 = bI p.2 ∧ s.2.2.1 = nI (a + (j + 1)) ∧ Df (Xc (l + 7)) S s.2.2.2 ∧ SkA (l + 7) p.1 s.2.2.2 ∧ wE A p.1.length 1 ∧ p.1.length ≤ 32 ∧ StpC l (a + (j + 1)) A S ∧ exC vv A p = ([bI b], false)) (fun e => e.1 = nI 1 ∧ Df (Xc (l + 7)) S e.2 ∧ e.2.1 (l + 7) 0 = bI b)) := by
        refine Ok.ifF (nI_ge (b := 32) (by omega) (by decide)) ?_
        have put : ∀ u, stp vv (k, wv) (st, z) = (u :: st, z) → Ok ((wr S1 (l + 7) 32 (nI st.length) u).bind fun S12 => J (nI st.length + (1 : Int32)) (bI z) S12) (Sum.elim (fun s => ∃ (A : CD) (p : List Int32 × Bool), (j + 1) + A.length = E.length ∧ s.1 = nI p.1.length ∧ s.2.1 = bI p.2 ∧ s.2.2.1 = nI (a + (j + 1)) ∧ Df (Xc (l + 7)) S s.2.2.2 ∧ SkA (l + 7) p.1 s.2.2.2 ∧ wE A p.1.length 1 ∧ p.1.length ≤ 32 ∧ StpC l (a + (j + 1)) A S ∧ exC vv A p = ([bI b], false)) (fun e => e.1 = nI 1 ∧ Df (Xc (l + 7)) S e.2 ∧ e.2.1 (l + 7) 0 = bI b)) := fun u hu => by
          rw [hu] at x1
          apply Ok.step (wr_nI (by omega) (by decide))
          exact hJ _ _ _ ⟨(u :: st, z), nI_1 _, rfl, up d1, k1.push, w1.2, by dsimp only [List.length_cons]; omega, x1⟩
        apply Ok.jnU
        by_cases c21 : k = 21
        · refine Ok.ifT (by rw [c21]; rfl) ?_
          apply Ok.step (x := nI wv) (by rw [rd_nI (by omega) (by decide), of _ _ (by omega), g2 c21])
          exact put _ (by unfold stp; rw [if_pos c21])
        · refine Ok.ifF (fun q => c21 ((nI_eq (b := 21) (by omega) (by decide)).mp q)) ?_
          have ek : nI k - (16 : Int32) = nI (k - 16) := by
            have : ∀ k : Fin 20, 16 ≤ k.val → nI k.val - (16 : Int32) = nI (k.val - 16) := by decide
            exact this ⟨k, by omega⟩ (by dsimp only; omega)
          rw [ek]
          apply Ok.step (x := vv (k - 16)) (by rw [rd_nI (by omega) (by decide), of _ _ (by omega), hvv _ (by omega)])
          exact put _ (by unfold stp; rw [if_neg c21, if_pos (by dsimp only; omega)])
      by_cases c21 : k = 21
      · exact Ok.ifT (by rw [c21]; rfl) go
      · refine Ok.ifF (fun q => c21 ((nI_eq (b := 21) (by omega) (by decide)).mp q)) ?_
        apply Ok.jnU
        exact Ok.ifF (nI_nlt (b := 16) (by omega) (by omega)) (Ok.ifF (nI_nlt (a := 19) (by omega) (by omega)) go)
    rw [if_neg cu] at w1
    apply Ok.jnU
    have hno : (if nI k < (16 : Int32) then True else if (19 : Int32) < nI k then True else False) ∧ ¬ nI k = (21 : Int32) := by
      by_cases c15 : k = 15
      · rw [c15]; exact ⟨trivial, by decide⟩
      · rw [if_neg c15] at w1
        refine ⟨?_, fun q => ?_⟩
        · by_cases c : k < 16
          · rw [if_pos (show nI k < (16 : Int32) from nI_lt (b := 16) c (by decide))]; trivial
          · rw [if_neg (show ¬ nI k < (16 : Int32) from nI_nlt (b := 16) (by omega) (by omega)), if_pos (show (19 : Int32) < nI k from nI_lt (a := 19) (by omega) (by omega))]; trivial
        · have := (nI_eq (b := 21) (by omega) (by decide)).mp q
          omega
    -- the rest is one piece
    have dis : ∀ {o1 o2 : Option ((Int32 × Int32 × Int32 × ST) ⊕ (Int32 × ST))} {R : (Int32 × Int32 × Int32 × ST) ⊕ (Int32 × ST) → Prop}, Ok o1 R → Ok (if nI k < (16 : Int32) then o1 else if (19 : Int32) < nI k then o1 else o2) R := fun {o1 o2 R} h => by
      by_cases c : nI k < (16 : Int32)
      · exact Ok.ifT c h
      · refine Ok.ifF c ?_
        by_cases c2 : (19 : Int32) < nI k
        · exact Ok.ifT c2 h
        · have := hno.1
          rw [if_neg c, if_neg c2] at this
          exact this.elim
    refine Ok.ifF hno.2 ?_
    apply Ok.jnU
    refine dis ?_
    by_cases c15 : k = 15
    · rw [if_pos c15] at w1
      apply Ok.jnU
      match st, k1, w1, l1, x1 with
      | [], _, w1, _, _ => exact absurd w1.1 (by simp)
      | y :: t, k1, w1, l1, x1 =>
      refine Ok.ifT (by rw [c15]; rfl) (Ok.ifF (by dsimp only [List.length_cons]; exact nI_nle (by omega) (by dsimp only [List.length_cons] at l1; omega)) ?_)
      dsimp only [List.length_cons] at l1 w1 ⊢
      rw [nI_sub1]
      apply Ok.step (x := y) (by rw [rd_nI (by omega) (by decide), k1.1])
      apply Ok.step (wr_nI (by omega) (by decide))
      have es : stp vv (k, wv) (y :: t, z) = (((1 : Int32) - y) :: t, z) := by
        unfold stp; rw [if_neg (by dsimp only; omega), if_neg (by dsimp only; omega), if_pos c15]
      rw [es] at x1
      exact hJ _ _ _ ⟨(((1 : Int32) - y) :: t, z), rfl, rfl, up d1, k1.2.push, w1.2, by dsimp only [List.length_cons]; omega, x1⟩
    rw [if_neg c15] at w1
    have hk := w1.1
    apply Ok.jnU
    refine Ok.ifF (fun q => c15 ((nI_eq (b := 15) (by omega) (by decide)).mp q)) ?_
    match st, k1, w1, l1, x1 with
    | [], _, w1, _, _ => exact absurd w1.2.1 (by simp)
    | [_], _, w1, _, _ => exact absurd w1.2.1 (by simp)
    | y :: xx :: t, k1, w1, l1, x1 =>
    dsimp only [List.length_cons] at l1 w1 ⊢
    refine Ok.ifF (nI_ge (a := 1) (b := t.length + 1 + 1) (by omega) (by omega)) ?_
    rw [nI_dec1, nI_sub1]
    apply Ok.step (x := y) (by rw [rd_nI (by omega) (by decide)]; exact congrArg some k1.1)
    rw [stp_bin hk] at x1
    dsimp only at x1
    refine jnH1 (fun u21 => u21 = bI (z || (k == 27 && y == 0))) ?_ (fun J2 hJ2 => ?_)
    case refine_2 =>
      apply Ok.jnU
      cases z with
      | true => exact Ok.ifF (show ¬ bI true = 0 by decide) (hJ2 _ rfl)
      | false =>
        refine Ok.ifT rfl ?_
        apply Ok.jnU
        by_cases c27 : k = 27
        · refine Ok.ifT (by rw [c27]; rfl) ?_
          by_cases cy : y = 0
          · exact Ok.ifT cy (hJ2 _ (by simp [c27, cy, bI]))
          · exact Ok.ifF cy (hJ2 _ (by simp [c27, cy, bI]))
        · exact Ok.ifF (fun q => c27 ((nI_eq (b := 27) (by omega) (by decide)).mp q)) (hJ2 _ (by simp [c27, bI]))
    rintro u21 rfl
    apply Ok.step (x := xx) (by rw [rd_nI (by omega) (by decide)]; exact congrArg some k1.2.1)
    apply Ok.step (c_combine hk)
    apply Ok.step (c_isCmp (by omega))
    refine jnH2 (fun u25 u26 => ∃ z', u25 = bI z' ∧ exC vv A' (u26 :: t, z') = ([bI b], false)) (fun u25 u26 hq => ?_) (fun J2 hJ2 => ?_)
    · obtain ⟨z', rfl, e5⟩ := hq
      apply Ok.step (wr_nI (by omega) (by decide))
      exact hJ _ _ _ ⟨(u26 :: t, z'), rfl, rfl, up d1, k1.2.2.push, w1.2.2, by dsimp only [List.length_cons]; omega, e5⟩
    by_cases c28 : 28 ≤ k
    · rw [if_pos c28] at x1
      rw [decide_eq_true ⟨c28, by omega⟩]
      refine Ok.ifF (show ¬ bI true = 0 by decide) ?_
      have e27 : (k == 27) = false := by simp; omega
      rw [e27, Bool.false_and, Bool.or_false]
      apply Ok.jnU
      cases z with
      | false => exact Ok.ifT rfl (hJ2 _ _ ⟨false, rfl, x1⟩)
      | true => exact Ok.ifF (show ¬ bI true = 0 by decide) (hJ2 _ _ ⟨false, rfl, x1⟩)
    · rw [if_neg c28] at x1
      rw [decide_eq_false (fun q => c28 q.1)]
      exact Ok.ifT rfl (hJ2 _ _ ⟨_, rfl, x1⟩)
  · rintro ⟨top, bz, ix, S1⟩ ⟨A, ⟨st, z⟩, hA, rfl, rfl, rfl, d1, k1, w1, l1, s1, x1⟩
    dsimp only at d1 k1 w1 l1 s1 x1 ⊢
    have of : ∀ c j, c ≠ l + 7 → S1.1 c j = S.1 c j := fun c j h => d1.2 _ _ (by simp [Xc]; exact h)
    apply Ok.step (x := nI (a + E.length)) (by rw [rd_nI hi (by decide), of _ _ (by omega), h4])
    match A, hA, x1 with
    | _ :: _, hA, _ => exact absurd hA (by simp only [List.length_cons]; omega)
    | [], hA, x1 =>
    have e : st = [bI b] := (Prod.mk.inj x1).1
    subst e
    exact Ok.ifT (nI_le (Nat.le_refl _) (by omega)) (Ok.inr ⟨rfl, d1, k1.1⟩)
  · rintro ⟨top, S1⟩ ⟨rfl, d1, e1⟩
    refine Ok.ifF (show ¬ nI 1 ≤ (0 : Int32) by decide) ?_
    apply Ok.step (x := bI b) (by rw [show (0 : Int32) = nI 0 from rfl, rd_nI (by decide) (by decide), e1])
    cases b with
    | false => exact Ok.ifT rfl (Ok.ret ⟨rfl, d1⟩)
    | true => exact Ok.ifF (show ¬ bI true = 0 by decide) (Ok.ret ⟨rfl, d1⟩)
end CHO
