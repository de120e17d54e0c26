/-! ===== the class: the world is settled ===== -/
section CSE
variable {W : VW} {V : VL} {w n : Nat} {S S' : ST}
theorem stY_f {p h : Nat} : ∀ k, stY W k p h = false → wAt W p h k = 0 := by
  intro k
  induction k with
  | zero => intro _; rfl
  | succ k ih =>
    intro hf
    have e : (stY W k p h || decide (W 6 k = p ∧ W 8 k ≤ h ∧ h ≤ W 9 k)) = false := hf
    rw [Bool.or_eq_false_iff] at e
    rw [wAt, if_neg (of_decide_eq_false e.2)]
    exact ih e.1
theorem mx_pl {p h k : Nat} (hb : wAt W p h k < 2 ^ 31) : mxI (0 : Int32) (if stY W k p h = true then nI (wAt W p h k) else -nI 2) = nI (wAt W p h k) := by
  unfold mxI
  cases e : stY W k p h with
  | true =>
    rw [if_pos rfl]
    by_cases c : wAt W p h k = 0
    · rw [c]; decide
    · rw [if_pos (show (0 : Int32) < nI (wAt W p h k) from nI_lt (a := 0) (by omega) hb)]
  | false =>
    rw [if_neg (show ¬ (false = true) by decide), stY_f k e]; decide
/-- standers within a set of places -/
theorem c_withinP {h : Nat} {x : Int32} (hW : WF W) (hn : 30000 ≤ n) (hh : h < 24) (h0 : S.1 (w + 1) 0 = nI (W 0 0)) (hs : ∀ a, a < W 0 0 → S.1 (w + 22) (a * 24 + h) = bs (wStand W nD a h) (W 0 1)) : E_X10_standersWithin n S w x (nI h) = some (bs (fun p => anyN (fun a => bt x a && wStand W nD a h p) (W 0 0)) (W 0 1)) := by
  have hm1 : W 0 1 ≤ 10 := hW.mx (k := 1) (by decide)
  have hm0 : W 0 0 ≤ 6 := hW.mx (k := 0) (by decide)
  unfold E_X10_standersWithin
  apply Ok.e
  refine bindP (fun i => (bs (fun p => anyN (fun a => bt x a && wStand W nD a h p) i) (W 0 1), nI i)) (bs (fun p => anyN (fun a => bt x a && wStand W nD a h p) (W 0 0)) (W 0 1)) 0 (W 0 0) (Nat.zero_le _) (by omega) ?_ ?_ ?_ (Ok.ret rfl)
  · show ((0 : Int32), (0 : Int32)) = (bs (fun _ => false) _, nI 0)
    rw [bs_false]; rfl
  · intro i _ hi
    dsimp only
    apply Ok.step (x := nI (W 0 0)) (by rw [show (0 : Int32) = nI 0 from rfl, rd_nI (by decide) (by decide), h0])
    refine Ok.ifF (nI_ge hi (by omega)) ?_
    apply Ok.step (c_hasBit (by omega))
    apply Ok.jnU
    cases c : bt x i
    · refine Ok.ifT rfl ?_
      exact Ok.ret (by rw [nI_1, bs_congr (P := fun p => anyN (fun a => bt x a && wStand W nD a h p) (i + 1)) (Q := fun p => anyN (fun a => bt x a && wStand W nD a h p) i) (fun p _ => by simp [anyN, c])])
    · refine Ok.ifF (by decide) ?_
      rw [show nI i * (24 : Int32) + nI h = nI (i * 24 + h) by rw [show (24 : Int32) = nI 24 from rfl, nI_mulN, nI_add]]
      apply Ok.step (rd_nI (by omega) (by decide))
      rw [hs i hi]
      exact Ok.ret (by rw [nI_1, bs_or (by omega), bs_congr (P := fun p => anyN (fun a => bt x a && wStand W nD a h p) (i + 1)) (Q := fun p => anyN (fun a => bt x a && wStand W nD a h p) i || wStand W nD i h p) (fun p _ => by simp [anyN, c])])
  · dsimp only
    apply Ok.step (x := nI (W 0 0)) (by rw [show (0 : Int32) = nI 0 from rfl, rd_nI (by decide) (by decide), h0])
    exact Ok.ifT (nI_le (Nat.le_refl _) (by omega)) (Ok.ret rfl)
/-- what saying wants of a world -/
def CPl (W : VW) (V : VL) (w : Nat) (S : ST) : Prop := (w = 22 ∨ w = 47) ∧ (∀ k, k < 11 → S.1 (w + 1) k = nI (W 0 k)) ∧ (∀ p, p < W 0 1 → S.1 (w + 2) p = nI (W 1 p) ∧ S.1 (w + 3) p = nI (W 2 p)) ∧ (∀ p h, p < W 0 1 → h < 24 → S.1 (w + 21) (p * 24 + h) = plI W p h) ∧ (∀ a h, a < W 0 0 → h < 24 → S.1 (w + 22) (a * 24 + h) = bs (wStand W nD a h) (W 0 1)) ∧ CLw V W (w + 13) S
theorem CPl.fr (h : CPl W V w S) (e : ∀ a j, (w + 1 ≤ a ∧ a ≤ w + 18) ∨ a = w + 21 ∨ a = w + 22 → S'.1 a j = S.1 a j) : CPl W V w S' := by
  obtain ⟨h1, h2, h3, h4, h5, h6⟩ := h
  refine ⟨h1, fun k hk => by rw [e _ _ (by omega)]; exact h2 k hk, fun p hp => by rw [e _ _ (by omega), e _ _ (by omega)]; exact h3 p hp, fun p h hp hh => by rw [e _ _ (by omega)]; exact h4 p h hp hh, fun a h ha hh => by rw [e _ _ (by omega)]; exact h5 a h ha hh, ⟨fun s hs => by rw [e _ _ (by omega)]; exact h6.1 s hs, fun S1 n s k hn hl hs hk => h6.2 S1 n s k hn (fun a j h1 h2 => (hl a j h1 h2).trans (e a j (by omega))) hs hk⟩⟩
theorem c_ageP (hC : CPl W V w S) (hW : WF W) {p h : Nat} (hp : p < W 0 1) (hh : h < 1000) : E_X10_ageAt n S w (nI p) (nI h) = some (nI (wAge W p h)) := by
  have hm1 : W 0 1 ≤ 10 := hW.mx (k := 1) (by decide)
  have hb := (hW.2.1 p hp).2
  obtain ⟨a1, a2⟩ := hC.2.2.1 p hp
  unfold E_X10_ageAt wAge
  rw [rd_nI (by omega) (by decide), rd_nI (by omega) (by decide), a1, a2, Option.bind_some]
  by_cases c : W 2 p ≤ h
  · rw [if_neg (nI_nlt c (by omega)), if_pos c, Option.bind_some, nI_1]
  · rw [if_pos (nI_lt (by omega) (by omega)), if_neg c, Option.bind_some]; rfl
theorem c_allowsP (hC : CPl W V w S) (hW : WF W) (hn : 30000 ≤ n) {p o h : Nat} (hp : p < W 0 1) (ho : o < W 0 1) (hpo : p ≠ o) (hh : h < 24) : Ok (E_X10_allows n S w (nI p) (nI o) (nI h) (0 : Int32) (bs (fun p => !nD p) (W 0 1))) (fun r => r.1 = bI (wMay W V nD p o h 0) ∧ Df (XA (w + 13)) S r.2) := by
  have hm1 : W 0 1 ≤ 10 := hW.mx (k := 1) (by decide)
  have hm0 : W 0 0 ≤ 6 := hW.mx (k := 0) (by decide)
  have ha1 := wAge_le hW (h := h) hp
  have ha2 := wAge_le hW (h := h) ho
  have ei : nI p * (24 : Int32) + nI h = nI (p * 24 + h) := by rw [show (24 : Int32) = nI 24 from rfl, nI_mulN, nI_add]
  have epl : E_X10_placeOf n S w (nI p) (nI h) = some (plI W p h) := by
    unfold E_X10_placeOf
    rw [ei, rd_nI (by omega) (by decide), Option.bind_some, hC.2.2.2.1 p h hp hh]
  have est : E_X10_standers n S w (plI W p h) (nI h) = some (bs (wStand W nD (wPl W p h) h) (W 0 1)) := by
    unfold E_X10_standers plI
    by_cases h0 : 0 < W 0 0
    · have hpl := wPl_lt hW h0 p h
      rw [if_pos h0, if_pos (nI_pos' (by omega)), show nI (wPl W p h) * (24 : Int32) + nI h = nI (wPl W p h * 24 + h) by rw [show (24 : Int32) = nI 24 from rfl, nI_mulN, nI_add], rd_nI (by omega) (by decide), Option.bind_some, hC.2.2.2.2.1 _ h hpl hh]
    · rw [if_neg h0, if_neg (by decide), bs_congr (Q := fun _ => false) (fun i _ => wStand_0 (by omega)), bs_false]
  unfold E_X10_allows
  apply Ok.step epl
  apply Ok.step est
  rw [bs_and (by omega), wStand_D]
  apply Ok.step (c_hasBit (by omega))
  rw [bt_lt (by omega) hp]
  have e1 : wStand W nD (wPl W p h) h p = wOn W nD p := by simp [wStand]
  rw [e1]
  by_cases c1 : wOn W nD p = true
  case neg =>
    simp only [Bool.not_eq_true] at c1
    rw [c1]
    refine Ok.ifT rfl (Ok.ret ⟨?_, Df.refl _ _⟩)
    simp [wMay, wMayL, c1, bI]
  rw [c1]
  refine Ok.ifF (by decide) ?_
  apply Ok.step (c_hasBit (by omega))
  rw [bt_lt (by omega) ho]
  by_cases c2 : wStand W nD (wPl W p h) h o = true
  case neg =>
    simp only [Bool.not_eq_true] at c2
    rw [c2]
    refine Ok.ifT rfl (Ok.ret ⟨?_, Df.refl _ _⟩)
    simp only [wStand, Bool.and_eq_false_iff] at c2
    rcases c2 with c2 | c2 <;> simp [wMay, wMayL, c2, bI]
  rw [c2]
  refine Ok.ifF (by decide) ?_
  simp only [wStand, Bool.and_eq_true, decide_eq_true_eq] at c2
  apply Ok.step (c_bitCount hm1)
  apply Ok.step (c_ageP hC hW hp (by omega))
  apply Ok.step (c_ageP hC hW ho (by omega))
  obtain ⟨⟨v, S2⟩, e2, h2, d2⟩ := c_allow (S := S) (n := n) hC.2.2.2.2.2 hW hn (s := 0) (m := wAge W p h) (y := wAge W o h) (h := h) (c := cnt (wStand W nD (wPl W p h) h) (W 0 1)) (by decide) (by omega) (by omega)
  dsimp only at h2 d2
  subst h2
  apply Ok.step (show E_X4_allow n S (w + 13) (0 : Int32) (nI (wAge W p h)) (nI (wAge W o h)) (nI h) (nI (cnt (wStand W nD (wPl W p h) h) (W 0 1))) = _ from e2)
  rw [gd_b]
  refine Ok.ret ⟨?_, d2⟩
  simp [wMay, wMayL, c1, c2.1, c2.2, hpo, wLaw]
theorem c_othersP (hC : CPl W V w S) (hW : WF W) (hn : 30000 ≤ n) {p h : Nat} (hp : p < W 0 1) (hh : h < 24) : Ok (E_X10_othersToSayTo n S w (nI p) (nI h)) (fun r => r.1 = bs (fun o => wMay W V nD p o h 0) (W 0 1) ∧ Df (XA (w + 13)) S r.2) := by
  have hm1 : W 0 1 ≤ 10 := hW.mx (k := 1) (by decide)
  have hw := hC.1
  unfold E_X10_othersToSayTo
  have fr : ∀ {S1 : ST}, Df (XA (w + 13)) S S1 → CPl W V w S1 := fun d => hC.fr (fun a j h => d.2 _ _ (by
    simp only [XA, Bool.or_eq_false_iff, beq_eq_false_iff_ne]; omega))
  refine bindL (fun i (s : Int32 × Int32 × ST) => s.1 = bs (fun o => wMay W V nD p o h 0) i ∧ s.2.1 = nI i ∧ Df (XA (w + 13)) S s.2.2) (fun r => r.1 = bs (fun o => wMay W V nD p o h 0) (W 0 1) ∧ Df (XA (w + 13)) S r.2) 0 (W 0 1) (Nat.zero_le _) (by omega) ⟨rfl, rfl, Df.refl _ _⟩ ?_ ?_ (fun r hr => Ok.ret hr)
  · rintro i ⟨u, v, S1⟩ _ hi ⟨rfl, rfl, d1⟩
    dsimp only at d1 ⊢
    have hC1 := fr d1
    apply Ok.step (x := nI (W 0 1)) (by rw [show (1 : Int32) = nI 1 from rfl, rd_nI (by decide) (by decide), hC1.2.1 1 (by decide)])
    refine Ok.ifF (nI_ge hi (by omega)) ?_
    apply Ok.jnU
    by_cases e : i = p
    · refine Ok.ifT (by rw [e]) (Ok.inl ⟨?_, nI_1 _, d1⟩)
      have : wMay W V nD p i h 0 = false := by simp [wMay, wMayL, e]
      show _ = if wMay W V nD p i h 0 = true then _ else _
      rw [this, if_neg (by decide)]
    refine Ok.ifF (fun z => e ((nI_eq (by omega) (by omega)).mp z)) ?_
    have eb : E_X10_everybody n S1 w = some (bs (fun p => !nD p) (W 0 1)) := by
      unfold E_X10_everybody
      rw [show (1 : Int32) = nI 1 from rfl, rd_nI (by decide) (by decide), hC1.2.1 1 (by decide), Option.bind_some, show nI 1 = (1 : Int32) from rfl]
      have : ∀ m : Fin 11, (1 : Int32) <<< (nI m.val &&& 31) - 1 = bs (fun p => !nD p) m.val := by decide
      exact congrArg some (this ⟨W 0 1, by omega⟩)
    apply Ok.step eb
    obtain ⟨⟨x, S2⟩, f2, x2, d2⟩ := c_allowsP (n := n) hC1 hW hn hp hi (fun z => e z.symm) hh
    dsimp only at x2 d2
    subst x2
    apply Ok.step f2
    cases c : wMay W V nD p i h 0 with
    | false =>
      refine Ok.ifT rfl (Ok.inl ⟨?_, nI_1 _, d1.trans d2⟩)
      show _ = if wMay W V nD p i h 0 = true then _ else _
      rw [c, if_neg (by decide)]
    | true =>
      refine Ok.ifF (show ¬ bI true = 0 by decide) (Ok.inl ⟨?_, nI_1 _, d1.trans d2⟩)
      show _ = if wMay W V nD p i h 0 = true then _ else _
      rw [c, if_pos rfl]
  · rintro ⟨u, v, S1⟩ ⟨rfl, rfl, d1⟩
    dsimp only at d1 ⊢
    have hC1 := fr d1
    apply Ok.step (x := nI (W 0 1)) (by rw [show (1 : Int32) = nI 1 from rfl, rd_nI (by decide) (by decide), hC1.2.1 1 (by decide)])
    exact Ok.ifT (nI_le (Nat.le_refl _) (by omega)) (Ok.inr ⟨rfl, d1⟩)
end CSE
